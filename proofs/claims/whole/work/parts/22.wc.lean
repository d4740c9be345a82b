def fp_X12_back_r125d : jFp := [(125, 0, 1), (125, 1, 2), (125, 8, 9), (125, 36, 37), (126, 0, 50660), (129, 0, 1600)]
set_option maxRecDepth 100000 in
set_option maxHeartbeats 4000000 in
theorem ct_X12_back_r125d_72 {Dy : jH → Prop} {h0 : jH} {Q : Option Value → jH → Prop} {dr : (Int × jW)} (hB : jDb Dy) (hD : jDk Dy) (hQ : ∀ (v : Int32) hx9, jJ jSgM Dy hx9 → jSm fp_X12_back_r125d h0 hx9 → ∀ u0 u1 u2 u3 u4 : Int32, jiv hx9 126 (16 : Int32).toNatClampNeg = u0 → jiv hx9 126 (0 : Int32).toNatClampNeg = u1 → jiv hx9 126 (4 : Int32).toNatClampNeg = u2 → jiv hx9 126 (5 : Int32).toNatClampNeg = u3 → jiv hx9 126 (7 : Int32).toNatClampNeg = u4 → u0.toInt = u1.toInt + u2.toInt + u3.toInt + u4.toInt → ∀ u5 u6 : Int32, jiv hx9 126 (9 : Int32).toNatClampNeg = u5 → jiv hx9 126 (7 : Int32).toNatClampNeg = u6 → u5.toInt ≤ u6.toInt → dr.1 = v.toInt → dr.2 = vw hx9 → Q (some (.int v)) hx9) : ∀ r : Nat, ∀ (l1 : Int32) (l2 : Int32) (g0 : Int32) (g1 : Int32) (g2 : Int32) (g3 : Int32) (g4 : Int32) (g5 : Int32) (h : jH), 1600 - l2.toInt < (r : Int) → 0 ≤ l1.toInt ∧ l1.toInt ≤ 3 → 0 ≤ l2.toInt ∧ l2.toInt ≤ 1600 → 0 ≤ g0.toInt ∧ g0.toInt ≤ 200 → 0 ≤ g1.toInt ∧ g1.toInt ≤ 370 → 0 ≤ g2.toInt ∧ g2.toInt ≤ 30 → 0 ≤ g3.toInt ∧ g3.toInt ≤ 100 → 0 ≤ g4.toInt ∧ g4.toInt ≤ 40 → 0 ≤ g5.toInt ∧ g5.toInt ≤ 40 → g1.toInt = g0.toInt + g2.toInt + g3.toInt + g4.toInt → g5.toInt ≤ g4.toInt → jiv h 126 (0 : Int32).toNatClampNeg = g0 → jiv h 126 (16 : Int32).toNatClampNeg = g1 → jiv h 126 (4 : Int32).toNatClampNeg = g2 → jiv h 126 (5 : Int32).toNatClampNeg = g3 → jiv h 126 (7 : Int32).toNatClampNeg = g4 → jiv h 126 (9 : Int32).toNatClampNeg = g5 → jJ jSgM Dy h → jSm fp_X12_back_r125d h0 h → d_X12_back_r125d_72 r l1.toInt l2.toInt (vw h) = dr → jX m_X12_back 2 0 0 72 [(0, .ref 125), (1, .int l1), (2, .int l2)] [] h 0 0 Q := by
  intro r
  induction r with
  | zero =>
    intro l1 l2 g0 g1 g2 g3 g4 g5 h hm y0 y1 y2 y3 y4 y5 y6 y7 y8 y9 z0 z1 z2 z3 z4 z5  J Sm D
    exfalso
    omega
  | succ r ih =>
    intro l1 l2 g0 g1 g2 g3 g4 g5 h hm y0 y1 y2 y3 y4 y5 y6 y7 y8 y9 z0 z1 z2 z3 z4 z5  J Sm D
    rw [d_X12_back_r125d_72.eq_2] at D
    try rw [vrn (n := 0) (by decide) z0] at D
    try rw [vrn (n := 16) (by decide) z1] at D
    try rw [vrn (n := 4) (by decide) z2] at D
    try rw [vrn (n := 5) (by decide) z3] at D
    try rw [vrn (n := 7) (by decide) z4] at D
    try rw [vrn (n := 9) (by decide) z5] at D
    refine x_iloadn (x := l2) rfl rfl ?_
    refine x_sipush (v := 1600) rfl ks_1600 ?_
    refine x_icge (tgt := 103) rfl rfl (ti_ge rfl jk_1600 ⟨fun c1 => ?_, fun c1 => ?_⟩)
    ·
      rw [if_pos (by omega)] at D
      refine x_aloadn (x := 125) rfl rfl ?_
      refine x_iconst (v := 0) rfl ki_0 ?_
      refine z_putI (N := 92) (w := 0) 12 8 rfl f_12_201 rfl (jfin_no TX12 RX12 92 rfl rfl) hD J Sm rfl rfl jk_0 (pw_125_8 (by omega)) rfl (fun h w2 J Sm => ?_)
      rw [vwf w2 (show 0 = (0 : Int32).toInt from by have := jk_0; omega)] at D
      refine x_aloadn (x := 125) rfl rfl ?_
      refine x_iconst (v := 0) rfl ki_0 ?_
      refine z_putI (N := 92) (w := 0) 12 36 rfl f_12_204 rfl (jfin_no TX12 RX12 92 rfl rfl) hD J Sm rfl rfl jk_0 (pw_125_36 (by omega)) rfl (fun h w3 J Sm => ?_)
      rw [vwf w3 (show 0 = (0 : Int32).toInt from by have := jk_0; omega)] at D
      refine x_aloadn (x := 125) rfl rfl ?_
      refine x_iconst (v := 0) rfl ki_0 ?_
      refine x_inv (N := m_X12_told) (As := [.int 0]) (b := 125) (st := []) (dx9 := 1) (mc := 0) (ms := 0) (host := "") 12 rfl t_X12_told ⟨Or.inl q_12_197, i_X12_told.1, i_X12_told.2⟩ ⟨by decide, rfl⟩ (congrArg Prod.fst (J.1.1 125 (12, 92) rfl)) rfl (by decide) rfl rfl ⟨by decide, by decide⟩ (sf_X12_told_r125d  hD J rfl  (fun v7 h J S4 X5 X6 => ?_))
      have ev7 := jfull v7
      have Sm := jSm_tr rfl Sm S4
      try rw [jk_0] at X5
      try rw [jk_0] at X6
      try rw [X5] at D
      try rw [X6] at D
      show jX m_X12_back 2 0 0 118 [(0, .ref 125), (1, .int l1), (2, .int l2)] [.int v7] _ 0 0 _
      refine x_iret rfl rfl ?_
      exact hQ _ _ J Sm _ _ _ _ _ (jmc S4 rfl (jmo w3 rfl (jmo w2 rfl z1))) (jmc S4 rfl (jmo w3 rfl (jmo w2 rfl z0))) (jmc S4 rfl (jmo w3 rfl (jmo w2 rfl z2))) (jmc S4 rfl (jmo w3 rfl (jmo w2 rfl z3))) (jmc S4 rfl (jmo w3 rfl (jmo w2 rfl z4))) (by omega) _ _ (jmc S4 rfl (jmo w3 rfl (jmo w2 rfl z5))) (jmc S4 rfl (jmo w3 rfl (jmo w2 rfl z4))) (by omega) ((congrArg Prod.fst D).symm.trans X5) ((congrArg Prod.snd D).symm.trans X6)
    ·
      rw [if_neg (by omega)] at D
      refine x_aloadn (x := 125) rfl rfl ?_
      refine z_getR (N := 92) (b := 129) 12 5 rfl f_12_22 rfl J rfl 16005 ⟨rfl, rfl⟩ rfl ?_
      refine x_iloadn (x := l2) rfl rfl ?_
      refine x_aloadn (x := 125) rfl rfl ?_
      refine z_getR (N := 92) (b := 130) 12 6 rfl f_12_26 rfl J rfl 16006 ⟨rfl, rfl⟩ rfl ?_
      refine x_sipush (v := 1600) rfl ks_1600 ?_
      refine x_iloadn (x := l1) rfl rfl ?_
      refine z_imul rfl jk_1600 rfl (by omega) (fun v8 ev8 => ?_)
      refine x_iloadn (x := l2) rfl rfl ?_
      refine z_iadd rfl rfl rfl (by omega) (fun v9 ev9 => ?_)
      refine z_laldQ (N := 6400) rfl J rfl rfl (by omega) (fun v10 qv10 => ?_)
      have ev10 := jfullL v10
      try rw [vrdL qv10 (show ((1600 * l1.toInt) + l2.toInt) = v9.toInt from by omega)] at D
      refine z_last (N := 1600) (l := 0) (u := 1600) rfl hD J Sm rfl rfl rfl (by omega) rfl (fun h w11 J Sm => ?_)
      rw [vwwL w11 (show l2.toInt = l2.toInt from by omega) (show v10.toInt = v10.toInt from by omega)] at D
      refine z_iinc (x := l2) (lsx9 := fun v12 => [(2, .int v12), (0, .ref 125), (1, .int l1)]) rfl rfl rfl jko_1 (by omega) rfl (fun _ => rfl) (fun v12 ev12 => ?_)
      refine x_goto (tgt := 72) rfl rfl ?_
      try rw [show (l2.toInt + 1) = v12.toInt from by omega] at D
      exact jX.sub (jsb_c rfl (jsb_c rfl (jsb_c rfl jsb_n))) (ih l1 v12 g0 g1 g2 g3 g4 g5 h (by omega) (jr_of rfl (by omega)) (jr_of rfl (by omega)) (jr_of rfl (by omega)) (jr_of rfl (by omega)) (jr_of rfl (by omega)) (jr_of rfl (by omega)) (jr_of rfl (by omega)) (jr_of rfl (by omega)) (by omega) (by omega) (jml w11 z0) (jml w11 z1) (jml w11 z2) (jml w11 z3) (jml w11 z4) (jml w11 z5) J Sm D)
set_option maxRecDepth 100000 in
set_option maxHeartbeats 4000000 in
theorem ct_X12_back_r125d_41 {Dy : jH → Prop} {h0 : jH} {Q : Option Value → jH → Prop} {dr : (Int × jW)} (hB : jDb Dy) (hD : jDk Dy) (hQ : ∀ (v : Int32) hx9, jJ jSgM Dy hx9 → jSm fp_X12_back_r125d h0 hx9 → ∀ u0 u1 u2 u3 u4 : Int32, jiv hx9 126 (16 : Int32).toNatClampNeg = u0 → jiv hx9 126 (0 : Int32).toNatClampNeg = u1 → jiv hx9 126 (4 : Int32).toNatClampNeg = u2 → jiv hx9 126 (5 : Int32).toNatClampNeg = u3 → jiv hx9 126 (7 : Int32).toNatClampNeg = u4 → u0.toInt = u1.toInt + u2.toInt + u3.toInt + u4.toInt → ∀ u5 u6 : Int32, jiv hx9 126 (9 : Int32).toNatClampNeg = u5 → jiv hx9 126 (7 : Int32).toNatClampNeg = u6 → u5.toInt ≤ u6.toInt → dr.1 = v.toInt → dr.2 = vw hx9 → Q (some (.int v)) hx9) : ∀ r : Nat, ∀ (l1 : Int32) (l2 : Int32) (g0 : Int32) (g1 : Int32) (g2 : Int32) (g3 : Int32) (g4 : Int32) (g5 : Int32) (h : jH), 0 - l2.toInt < (r : Int) → 0 ≤ l1.toInt ∧ l1.toInt ≤ 3 → 0 ≤ l2.toInt ∧ l2.toInt ≤ 0 → 0 ≤ g0.toInt ∧ g0.toInt ≤ 200 → 0 ≤ g1.toInt ∧ g1.toInt ≤ 370 → 0 ≤ g2.toInt ∧ g2.toInt ≤ 30 → 0 ≤ g3.toInt ∧ g3.toInt ≤ 100 → 0 ≤ g4.toInt ∧ g4.toInt ≤ 40 → 0 ≤ g5.toInt ∧ g5.toInt ≤ 40 → g1.toInt = g0.toInt + g2.toInt + g3.toInt + g4.toInt → g5.toInt ≤ g4.toInt → jiv h 126 (0 : Int32).toNatClampNeg = g0 → jiv h 126 (16 : Int32).toNatClampNeg = g1 → jiv h 126 (4 : Int32).toNatClampNeg = g2 → jiv h 126 (5 : Int32).toNatClampNeg = g3 → jiv h 126 (7 : Int32).toNatClampNeg = g4 → jiv h 126 (9 : Int32).toNatClampNeg = g5 → jJ jSgM Dy h → jSm fp_X12_back_r125d h0 h → d_X12_back_r125d_41 r l1.toInt l2.toInt (vw h) = dr → jX m_X12_back 2 0 0 41 [(0, .ref 125), (1, .int l1), (2, .int l2)] [] h 0 0 Q := by
  intro r
  induction r with
  | zero =>
    intro l1 l2 g0 g1 g2 g3 g4 g5 h hm y0 y1 y2 y3 y4 y5 y6 y7 y8 y9 z0 z1 z2 z3 z4 z5  J Sm D
    exfalso
    omega
  | succ r ih =>
    intro l1 l2 g0 g1 g2 g3 g4 g5 h hm y0 y1 y2 y3 y4 y5 y6 y7 y8 y9 z0 z1 z2 z3 z4 z5  J Sm D
    rw [d_X12_back_r125d_41.eq_2] at D
    try rw [vrn (n := 0) (by decide) z0] at D
    try rw [vrn (n := 16) (by decide) z1] at D
    try rw [vrn (n := 4) (by decide) z2] at D
    try rw [vrn (n := 5) (by decide) z3] at D
    try rw [vrn (n := 7) (by decide) z4] at D
    try rw [vrn (n := 9) (by decide) z5] at D
    refine jX.sub (jsb_c rfl (jsb_c rfl (jsb_c rfl jsb_n))) (bk_loopD hD hB J Sm rfl (by omega) (by omega) (fun v2 h J Sm S1 R3 XX => ?_))
    rw [XX] at D
    have ev2 := jfull v2
    obtain ⟨u4, qu4⟩ : ∃ v : Int32, jiv h 126 (16 : Int32).toNatClampNeg = v := ⟨_, rfl⟩
    have eu4 := (show 0 ≤ u4.toInt ∧ u4.toInt ≤ 370 from qu4 ▸ jrg_c J sg_126_16_17_1_0_1 jk_16 (by omega))
    try rw [vrn (n := 16) (by decide) qu4] at D
    obtain ⟨u5, qu5⟩ : ∃ v : Int32, jiv h 126 (0 : Int32).toNatClampNeg = v := ⟨_, rfl⟩
    have eu5 := (show 0 ≤ u5.toInt ∧ u5.toInt ≤ 200 from qu5 ▸ jrg_c J sg_126_0_1_1_0_1 jk_0 (by omega))
    try rw [vrn (n := 0) (by decide) qu5] at D
    obtain ⟨u6, qu6⟩ : ∃ v : Int32, jiv h 126 (4 : Int32).toNatClampNeg = v := ⟨_, rfl⟩
    have eu6 := (show 0 ≤ u6.toInt ∧ u6.toInt ≤ 30 from qu6 ▸ jrg_c J sg_126_4_5_1_0_1 jk_4 (by omega))
    try rw [vrn (n := 4) (by decide) qu6] at D
    obtain ⟨u7, qu7⟩ : ∃ v : Int32, jiv h 126 (5 : Int32).toNatClampNeg = v := ⟨_, rfl⟩
    have eu7 := (show 0 ≤ u7.toInt ∧ u7.toInt ≤ 100 from qu7 ▸ jrg_c J sg_126_5_6_1_0_1 jk_5 (by omega))
    try rw [vrn (n := 5) (by decide) qu7] at D
    obtain ⟨u8, qu8⟩ : ∃ v : Int32, jiv h 126 (7 : Int32).toNatClampNeg = v := ⟨_, rfl⟩
    have eu8 := (show 0 ≤ u8.toInt ∧ u8.toInt ≤ 40 from qu8 ▸ jrg_c J sg_126_7_8_1_0_1 jk_7 (by omega))
    try rw [vrn (n := 7) (by decide) qu8] at D
    have rr2 : u4.toInt = u5.toInt + u6.toInt + u7.toInt + u8.toInt := by rw [← qu4, ← qu5, ← qu6, ← qu7, ← qu8]; exact R3.1
    obtain ⟨u9, qu9⟩ : ∃ v : Int32, jiv h 126 (9 : Int32).toNatClampNeg = v := ⟨_, rfl⟩
    have eu9 := (show 0 ≤ u9.toInt ∧ u9.toInt ≤ 40 from qu9 ▸ jrg_c J sg_126_9_10_1_0_1 jk_9 (by omega))
    try rw [vrn (n := 9) (by decide) qu9] at D
    have rr3 : u9.toInt ≤ u8.toInt := by rw [← qu9, ← qu8]; exact R3.2
    refine x_iconst (v := 0) rfl ki_0 ?_
    refine x_istoren (lsx9 := [(2, .int 0), (0, .ref 125), (1, .int l1)]) rfl rfl rfl ?_
    exact jX.sub (jsb_c rfl (jsb_c rfl (jsb_c rfl jsb_n))) (ct_X12_back_r125d_72 hB hD hQ  1601 l1 0 u5 u4 u6 u7 u8 u9 h (by have := jk_0; omega) (jr_of rfl (by omega)) (jr_of jk_0 (by omega)) (jr_of rfl (by omega)) (jr_of rfl (by omega)) (jr_of rfl (by omega)) (jr_of rfl (by omega)) (jr_of rfl (by omega)) (jr_of rfl (by omega)) (by omega) (by omega) qu5 qu4 qu6 qu7 qu8 qu9 J Sm (by rw [jk_0]; exact D))
set_option maxRecDepth 100000 in
set_option maxHeartbeats 4000000 in
theorem sf_X12_back_r125d {Dy : jH → Prop} {h : jH} {Q : Option Value → jH → Prop} {dr : (Int × jW)} {a1 : Int32} (hB : jDb Dy) (hD : jDk Dy) (J : jJ jSgM Dy h) {p0 p1 p2 p3 p4 : Int32} {p5 p6 : Int32} (zp0 : jiv h 126 (16 : Int32).toNatClampNeg = p0) (zp1 : jiv h 126 (0 : Int32).toNatClampNeg = p1) (zp2 : jiv h 126 (4 : Int32).toNatClampNeg = p2) (zp3 : jiv h 126 (5 : Int32).toNatClampNeg = p3) (zp4 : jiv h 126 (7 : Int32).toNatClampNeg = p4) (rl_p0 : p0.toInt = p1.toInt + p2.toInt + p3.toInt + p4.toInt) (zp5 : jiv h 126 (9 : Int32).toNatClampNeg = p5) (zp6 : jiv h 126 (7 : Int32).toNatClampNeg = p6) (rl_p5 : p5.toInt ≤ p6.toInt) (D : d_X12_back_r125d a1.toInt (vw h) = dr) (hQ : ∀ (v : Int32) hx9, jJ jSgM Dy hx9 → jSm fp_X12_back_r125d h hx9 → ∀ u0 u1 u2 u3 u4 : Int32, jiv hx9 126 (16 : Int32).toNatClampNeg = u0 → jiv hx9 126 (0 : Int32).toNatClampNeg = u1 → jiv hx9 126 (4 : Int32).toNatClampNeg = u2 → jiv hx9 126 (5 : Int32).toNatClampNeg = u3 → jiv hx9 126 (7 : Int32).toNatClampNeg = u4 → u0.toInt = u1.toInt + u2.toInt + u3.toInt + u4.toInt → ∀ u5 u6 : Int32, jiv hx9 126 (9 : Int32).toNatClampNeg = u5 → jiv hx9 126 (7 : Int32).toNatClampNeg = u6 → u5.toInt ≤ u6.toInt → dr.1 = v.toInt → dr.2 = vw hx9 → Q (some (.int v)) hx9) : jC m_X12_back 2 0 0 [.ref 125, .int a1] h Q := by
  refine jC.of rfl k_X12_back rfl ?_
  have Sm := jSm_rf fp_X12_back_r125d h
  have ep0 := (show 0 ≤ p0.toInt ∧ p0.toInt ≤ 370 from zp0 ▸ jrg_c J sg_126_16_17_1_0_1 jk_16 (by omega))
  have ep1 := (show 0 ≤ p1.toInt ∧ p1.toInt ≤ 200 from zp1 ▸ jrg_c J sg_126_0_1_1_0_1 jk_0 (by omega))
  have ep2 := (show 0 ≤ p2.toInt ∧ p2.toInt ≤ 30 from zp2 ▸ jrg_c J sg_126_4_5_1_0_1 jk_4 (by omega))
  have ep3 := (show 0 ≤ p3.toInt ∧ p3.toInt ≤ 100 from zp3 ▸ jrg_c J sg_126_5_6_1_0_1 jk_5 (by omega))
  have ep4 := (show 0 ≤ p4.toInt ∧ p4.toInt ≤ 40 from zp4 ▸ jrg_c J sg_126_7_8_1_0_1 jk_7 (by omega))
  have ep5 := (show 0 ≤ p5.toInt ∧ p5.toInt ≤ 40 from zp5 ▸ jrg_c J sg_126_9_10_1_0_1 jk_9 (by omega))
  have ep6 := (show 0 ≤ p6.toInt ∧ p6.toInt ≤ 40 from zp6 ▸ jrg_c J sg_126_7_8_1_0_1 jk_7 (by omega))
  obtain rfl : p4 = p6 := zp4.symm.trans zp6
  skip
  have ea1 := jfull a1
  show jX m_X12_back 2 0 0 0 [(0, .ref 125), (1, .int a1)] [] _ 0 0 _
  unfold d_X12_back_r125d at D
  try rw [vrn (n := 16) (by decide) zp0] at D
  try rw [vrn (n := 0) (by decide) zp1] at D
  try rw [vrn (n := 4) (by decide) zp2] at D
  try rw [vrn (n := 5) (by decide) zp3] at D
  try rw [vrn (n := 7) (by decide) zp4] at D
  try rw [vrn (n := 9) (by decide) zp5] at D
  try rw [vrn (n := 7) (by decide) zp6] at D
  refine x_aloadn (x := 125) rfl rfl ?_
  refine x_iconst (v := 0) rfl ki_0 ?_
  refine z_putI (N := 92) (w := 0) 12 0 rfl f_12_180 rfl (jfin_no TX12 RX12 92 rfl rfl) hD J Sm rfl rfl jk_0 (pw_125_0 (by omega)) rfl (fun h w1 J Sm => ?_)
  rw [vwf w1 (show 0 = (0 : Int32).toInt from by have := jk_0; omega)] at D
  refine x_iloadn (x := a1) rfl rfl ?_
  refine z_i2l rfl rfl (fun v2 ev2 => ?_)
  refine x_lconst (v := 0) rfl kl_0 ?_
  refine x_ldc2 (v := 3) rfl z_12_195 ?_
  refine x_inst (N := m_X12_in) (As := [.long v2, .long 0, .long 3]) (st := []) (dx9 := 1) (mc := 0) (ms := 0) (host := "") rfl t_X12_in ⟨Or.inl q_12_188, s_X12_in⟩ rfl (by decide) rfl rfl ⟨by decide, by decide⟩ (zc_X12_in rfl jkl_0 jkl_3 (fun v3 ev3 => ?_))
  show jX m_X12_back 2 0 0 14 [(0, .ref 125), (1, .int a1)] [.int v3] _ 0 0 _
  refine x_ifne (tgt := 23) rfl rfl (ti_ne rfl jk_0 ⟨fun c4 => ?_, fun c4 => ?_⟩)
  ·
    rw [if_pos (by omega)] at D
    refine x_aloadn (x := 125) rfl rfl ?_
    refine z_getR (N := 92) (b := 128) 12 4 rfl f_12_18 rfl J rfl 16004 ⟨rfl, rfl⟩ rfl ?_
    refine x_iloadn (x := a1) rfl rfl ?_
    refine z_zald (N := 4) rfl J rfl sg_128_0_4_1_0_1 rfl (by omega) (fun v5 qv5 ev5 => ?_)
    try rw [vrd (jmb_w w1 qv5 rfl) (show a1.toInt = a1.toInt from by omega)] at D
    refine x_ifne (tgt := 39) rfl rfl (ti_ne rfl jk_0 ⟨fun c6 => ?_, fun c6 => ?_⟩)
    ·
      rw [if_neg (by omega)] at D
      refine x_iconst (v := 0) rfl ki_0 ?_
      refine x_istoren (lsx9 := [(2, .int 0), (0, .ref 125), (1, .int a1)]) rfl rfl rfl ?_
      exact jX.sub (jsb_c rfl (jsb_c rfl (jsb_c rfl jsb_n))) (ct_X12_back_r125d_41 hB hD hQ  1 a1 0 p1 p0 p2 p3 p4 p5 h (by have := jk_0; omega) (jr_of rfl (by omega)) (jr_of jk_0 (by omega)) (jr_of rfl (by omega)) (jr_of rfl (by omega)) (jr_of rfl (by omega)) (jr_of rfl (by omega)) (jr_of rfl (by omega)) (jr_of rfl (by omega)) (by omega) (by omega) (jmo w1 rfl zp1) (jmo w1 rfl zp0) (jmo w1 rfl zp2) (jmo w1 rfl zp3) (jmo w1 rfl zp4) (jmo w1 rfl zp5) J Sm (by rw [jk_0]; exact D))
    ·
      rw [if_pos (by omega)] at D
      refine x_aloadn (x := 125) rfl rfl ?_
      refine x_bipush (v := (-2)) rfl kb_m2 ?_
      refine x_inv (N := m_X12_told) (As := [.int (-2)]) (b := 125) (st := []) (dx9 := 1) (mc := 0) (ms := 0) (host := "") 12 rfl t_X12_told ⟨Or.inl q_12_197, i_X12_told.1, i_X12_told.2⟩ ⟨by decide, rfl⟩ (congrArg Prod.fst (J.1.1 125 (12, 92) rfl)) rfl (by decide) rfl rfl ⟨by decide, by decide⟩ (sf_X12_told_r125d  hD J rfl  (fun v10 h J S7 X8 X9 => ?_))
      have ev10 := jfull v10
      have Sm := jSm_tr rfl Sm S7
      try rw [jk_m2] at X8
      try rw [jk_m2] at X9
      try rw [X8] at D
      try rw [X9] at D
      show jX m_X12_back 2 0 0 38 [(0, .ref 125), (1, .int a1)] [.int v10] _ 0 0 _
      refine x_iret rfl rfl ?_
      exact hQ _ _ J Sm _ _ _ _ _ (jmc S7 rfl (jmo w1 rfl zp0)) (jmc S7 rfl (jmo w1 rfl zp1)) (jmc S7 rfl (jmo w1 rfl zp2)) (jmc S7 rfl (jmo w1 rfl zp3)) (jmc S7 rfl (jmo w1 rfl zp4)) (by omega) _ _ (jmc S7 rfl (jmo w1 rfl zp5)) (jmc S7 rfl (jmo w1 rfl zp4)) (by omega) ((congrArg Prod.fst D).symm.trans X8) ((congrArg Prod.snd D).symm.trans X9)
  ·
    rw [if_neg (by omega)] at D
    refine x_aloadn (x := 125) rfl rfl ?_
    refine x_iconst (v := (-1)) rfl ki_m1 ?_
    refine x_inv (N := m_X12_told) (As := [.int (-1)]) (b := 125) (st := []) (dx9 := 1) (mc := 0) (ms := 0) (host := "") 12 rfl t_X12_told ⟨Or.inl q_12_197, i_X12_told.1, i_X12_told.2⟩ ⟨by decide, rfl⟩ (congrArg Prod.fst (J.1.1 125 (12, 92) rfl)) rfl (by decide) rfl rfl ⟨by decide, by decide⟩ (sf_X12_told_r125d  hD J rfl  (fun v14 h J S11 X12 X13 => ?_))
    have ev14 := jfull v14
    have Sm := jSm_tr rfl Sm S11
    try rw [jk_m1] at X12
    try rw [jk_m1] at X13
    try rw [X12] at D
    try rw [X13] at D
    show jX m_X12_back 2 0 0 22 [(0, .ref 125), (1, .int a1)] [.int v14] _ 0 0 _
    refine x_iret rfl rfl ?_
    exact hQ _ _ J Sm _ _ _ _ _ (jmc S11 rfl (jmo w1 rfl zp0)) (jmc S11 rfl (jmo w1 rfl zp1)) (jmc S11 rfl (jmo w1 rfl zp2)) (jmc S11 rfl (jmo w1 rfl zp3)) (jmc S11 rfl (jmo w1 rfl zp4)) (by omega) _ _ (jmc S11 rfl (jmo w1 rfl zp5)) (jmc S11 rfl (jmo w1 rfl zp4)) (by omega) ((congrArg Prod.fst D).symm.trans X12) ((congrArg Prod.snd D).symm.trans X13)
def fp_X12_image_r125d : jFp := [(125, 0, 1), (125, 1, 2), (127, 0, 202640), (128, 0, 4), (130, 0, 6400)]
set_option maxRecDepth 100000 in
set_option maxHeartbeats 4000000 in
theorem ct_X12_image_r125d_56 {Dy : jH → Prop} {h0 : jH} {Q : Option Value → jH → Prop} {dr : (Int × jW)} (hI : jDi Dy) (hD : jDk Dy) (hQ : ∀ (v : Int32) hx9, jJ jSgM Dy hx9 → jSm fp_X12_image_r125d h0 hx9 → ∀ u0 u1 u2 u3 u4 : Int32, jiv hx9 126 (16 : Int32).toNatClampNeg = u0 → jiv hx9 126 (0 : Int32).toNatClampNeg = u1 → jiv hx9 126 (4 : Int32).toNatClampNeg = u2 → jiv hx9 126 (5 : Int32).toNatClampNeg = u3 → jiv hx9 126 (7 : Int32).toNatClampNeg = u4 → u0.toInt = u1.toInt + u2.toInt + u3.toInt + u4.toInt → ∀ u5 u6 : Int32, jiv hx9 126 (9 : Int32).toNatClampNeg = u5 → jiv hx9 126 (7 : Int32).toNatClampNeg = u6 → u5.toInt ≤ u6.toInt → dr.1 = v.toInt → dr.2 = vw hx9 → Q (some (.int v)) hx9) : ∀ r : Nat, ∀ (l1 : Int32) (l2 : Int32) (g0 : Int32) (g1 : Int32) (g2 : Int32) (g3 : Int32) (g4 : Int32) (g5 : Int32) (h : jH), 1600 - l2.toInt < (r : Int) → 0 ≤ l1.toInt ∧ l1.toInt ≤ 3 → 0 ≤ l2.toInt ∧ l2.toInt ≤ 1600 → 0 ≤ g0.toInt ∧ g0.toInt ≤ 200 → 0 ≤ g1.toInt ∧ g1.toInt ≤ 370 → 0 ≤ g2.toInt ∧ g2.toInt ≤ 30 → 0 ≤ g3.toInt ∧ g3.toInt ≤ 100 → 0 ≤ g4.toInt ∧ g4.toInt ≤ 40 → 0 ≤ g5.toInt ∧ g5.toInt ≤ 40 → g1.toInt = g0.toInt + g2.toInt + g3.toInt + g4.toInt → g5.toInt ≤ g4.toInt → jiv h 126 (0 : Int32).toNatClampNeg = g0 → jiv h 126 (16 : Int32).toNatClampNeg = g1 → jiv h 126 (4 : Int32).toNatClampNeg = g2 → jiv h 126 (5 : Int32).toNatClampNeg = g3 → jiv h 126 (7 : Int32).toNatClampNeg = g4 → jiv h 126 (9 : Int32).toNatClampNeg = g5 → jJ jSgM Dy h → jSm fp_X12_image_r125d h0 h → d_X12_image_r125d_56 r l1.toInt l2.toInt (vw h) = dr → jX m_X12_image 2 0 0 56 [(0, .ref 125), (1, .int l1), (2, .int l2)] [] h 0 0 Q := by
  intro r
  induction r with
  | zero =>
    intro l1 l2 g0 g1 g2 g3 g4 g5 h hm y0 y1 y2 y3 y4 y5 y6 y7 y8 y9 z0 z1 z2 z3 z4 z5  J Sm D
    exfalso
    omega
  | succ r ih =>
    intro l1 l2 g0 g1 g2 g3 g4 g5 h hm y0 y1 y2 y3 y4 y5 y6 y7 y8 y9 z0 z1 z2 z3 z4 z5  J Sm D
    rw [d_X12_image_r125d_56.eq_2] at D
    try rw [vrn (n := 0) (by decide) z0] at D
    try rw [vrn (n := 16) (by decide) z1] at D
    try rw [vrn (n := 4) (by decide) z2] at D
    try rw [vrn (n := 5) (by decide) z3] at D
    try rw [vrn (n := 7) (by decide) z4] at D
    try rw [vrn (n := 9) (by decide) z5] at D
    refine x_iloadn (x := l2) rfl rfl ?_
    refine x_sipush (v := 1600) rfl ks_1600 ?_
    refine x_icge (tgt := 87) rfl rfl (ti_ge rfl jk_1600 ⟨fun c1 => ?_, fun c1 => ?_⟩)
    ·
      rw [if_pos (by omega)] at D
      refine x_aloadn (x := 125) rfl rfl ?_
      refine z_getR (N := 92) (b := 128) 12 4 rfl f_12_18 rfl J rfl 16004 ⟨rfl, rfl⟩ rfl ?_
      refine x_iloadn (x := l1) rfl rfl ?_
      refine x_iconst (v := 1) rfl ki_1 ?_
      refine z_zast (N := 4) (l := 0) (u := 4) (w := 1) rfl hD J Sm rfl rfl rfl (by omega) jk_1 (by omega) (wr_128 (fun q1 q2 q3 q4 => by omega)) rfl (fun h w2 J Sm => ?_)
      rw [vww w2 (show l1.toInt = l1.toInt from by omega) (show 1 = (1 : Int32).toInt from by have := jk_1; omega)] at D
      refine x_aloadn (x := 125) rfl rfl ?_
      refine x_iconst (v := 0) rfl ki_0 ?_
      refine x_inv (N := m_X12_told) (As := [.int 0]) (b := 125) (st := []) (dx9 := 1) (mc := 0) (ms := 0) (host := "") 12 rfl t_X12_told ⟨Or.inl q_12_197, i_X12_told.1, i_X12_told.2⟩ ⟨by decide, rfl⟩ (congrArg Prod.fst (J.1.1 125 (12, 92) rfl)) rfl (by decide) rfl rfl ⟨by decide, by decide⟩ (sf_X12_told_r125d  hD J rfl  (fun v6 h J S3 X4 X5 => ?_))
      have ev6 := jfull v6
      have Sm := jSm_tr rfl Sm S3
      try rw [jk_0] at X4
      try rw [jk_0] at X5
      try rw [X4] at D
      try rw [X5] at D
      show jX m_X12_image 2 0 0 99 [(0, .ref 125), (1, .int l1), (2, .int l2)] [.int v6] _ 0 0 _
      refine x_iret rfl rfl ?_
      exact hQ _ _ J Sm _ _ _ _ _ (jmc S3 rfl (jmo w2 rfl z1)) (jmc S3 rfl (jmo w2 rfl z0)) (jmc S3 rfl (jmo w2 rfl z2)) (jmc S3 rfl (jmo w2 rfl z3)) (jmc S3 rfl (jmo w2 rfl z4)) (by omega) _ _ (jmc S3 rfl (jmo w2 rfl z5)) (jmc S3 rfl (jmo w2 rfl z4)) (by omega) ((congrArg Prod.fst D).symm.trans X4) ((congrArg Prod.snd D).symm.trans X5)
    ·
      rw [if_neg (by omega)] at D
      refine x_aloadn (x := 125) rfl rfl ?_
      refine z_getR (N := 92) (b := 130) 12 6 rfl f_12_26 rfl J rfl 16006 ⟨rfl, rfl⟩ rfl ?_
      refine x_sipush (v := 1600) rfl ks_1600 ?_
      refine x_iloadn (x := l1) rfl rfl ?_
      refine z_imul rfl jk_1600 rfl (by omega) (fun v7 ev7 => ?_)
      refine x_iloadn (x := l2) rfl rfl ?_
      refine z_iadd rfl rfl rfl (by omega) (fun v8 ev8 => ?_)
      refine x_aloadn (x := 125) rfl rfl ?_
      refine z_getR (N := 92) (b := 129) 12 5 rfl f_12_22 rfl J rfl 16005 ⟨rfl, rfl⟩ rfl ?_
      refine x_iloadn (x := l2) rfl rfl ?_
      refine z_laldQ (N := 1600) rfl J rfl rfl (by omega) (fun v9 qv9 => ?_)
      have ev9 := jfullL v9
      try rw [vrdL qv9 (show l2.toInt = l2.toInt from by omega)] at D
      refine z_last (N := 6400) (l := 0) (u := 6400) rfl hD J Sm rfl rfl rfl (by omega) rfl (fun h w10 J Sm => ?_)
      rw [vwwL w10 (show ((1600 * l1.toInt) + l2.toInt) = v8.toInt from by omega) (show v9.toInt = v9.toInt from by omega)] at D
      refine z_iinc (x := l2) (lsx9 := fun v11 => [(2, .int v11), (0, .ref 125), (1, .int l1)]) rfl rfl rfl jko_1 (by omega) rfl (fun _ => rfl) (fun v11 ev11 => ?_)
      refine x_goto (tgt := 56) rfl rfl ?_
      try rw [show (l2.toInt + 1) = v11.toInt from by omega] at D
      exact jX.sub (jsb_c rfl (jsb_c rfl (jsb_c rfl jsb_n))) (ih l1 v11 g0 g1 g2 g3 g4 g5 h (by omega) (jr_of rfl (by omega)) (jr_of rfl (by omega)) (jr_of rfl (by omega)) (jr_of rfl (by omega)) (jr_of rfl (by omega)) (jr_of rfl (by omega)) (jr_of rfl (by omega)) (jr_of rfl (by omega)) (by omega) (by omega) (jml w10 z0) (jml w10 z1) (jml w10 z2) (jml w10 z3) (jml w10 z4) (jml w10 z5) J Sm D)
set_option maxRecDepth 100000 in
set_option maxHeartbeats 4000000 in
theorem ct_X12_image_r125d_25 {Dy : jH → Prop} {h0 : jH} {Q : Option Value → jH → Prop} {dr : (Int × jW)} (hI : jDi Dy) (hD : jDk Dy) (hQ : ∀ (v : Int32) hx9, jJ jSgM Dy hx9 → jSm fp_X12_image_r125d h0 hx9 → ∀ u0 u1 u2 u3 u4 : Int32, jiv hx9 126 (16 : Int32).toNatClampNeg = u0 → jiv hx9 126 (0 : Int32).toNatClampNeg = u1 → jiv hx9 126 (4 : Int32).toNatClampNeg = u2 → jiv hx9 126 (5 : Int32).toNatClampNeg = u3 → jiv hx9 126 (7 : Int32).toNatClampNeg = u4 → u0.toInt = u1.toInt + u2.toInt + u3.toInt + u4.toInt → ∀ u5 u6 : Int32, jiv hx9 126 (9 : Int32).toNatClampNeg = u5 → jiv hx9 126 (7 : Int32).toNatClampNeg = u6 → u5.toInt ≤ u6.toInt → dr.1 = v.toInt → dr.2 = vw hx9 → Q (some (.int v)) hx9) : ∀ r : Nat, ∀ (l1 : Int32) (l2 : Int32) (g0 : Int32) (g1 : Int32) (g2 : Int32) (g3 : Int32) (g4 : Int32) (g5 : Int32) (h : jH), 0 - l2.toInt < (r : Int) → 0 ≤ l1.toInt ∧ l1.toInt ≤ 3 → 0 ≤ l2.toInt ∧ l2.toInt ≤ 0 → 0 ≤ g0.toInt ∧ g0.toInt ≤ 200 → 0 ≤ g1.toInt ∧ g1.toInt ≤ 370 → 0 ≤ g2.toInt ∧ g2.toInt ≤ 30 → 0 ≤ g3.toInt ∧ g3.toInt ≤ 100 → 0 ≤ g4.toInt ∧ g4.toInt ≤ 40 → 0 ≤ g5.toInt ∧ g5.toInt ≤ 40 → g1.toInt = g0.toInt + g2.toInt + g3.toInt + g4.toInt → g5.toInt ≤ g4.toInt → jiv h 126 (0 : Int32).toNatClampNeg = g0 → jiv h 126 (16 : Int32).toNatClampNeg = g1 → jiv h 126 (4 : Int32).toNatClampNeg = g2 → jiv h 126 (5 : Int32).toNatClampNeg = g3 → jiv h 126 (7 : Int32).toNatClampNeg = g4 → jiv h 126 (9 : Int32).toNatClampNeg = g5 → jJ jSgM Dy h → jSm fp_X12_image_r125d h0 h → d_X12_image_r125d_25 r l1.toInt l2.toInt (vw h) = dr → jX m_X12_image 2 0 0 25 [(0, .ref 125), (1, .int l1), (2, .int l2)] [] h 0 0 Q := by
  intro r
  induction r with
  | zero =>
    intro l1 l2 g0 g1 g2 g3 g4 g5 h hm y0 y1 y2 y3 y4 y5 y6 y7 y8 y9 z0 z1 z2 z3 z4 z5  J Sm D
    exfalso
    omega
  | succ r ih =>
    intro l1 l2 g0 g1 g2 g3 g4 g5 h hm y0 y1 y2 y3 y4 y5 y6 y7 y8 y9 z0 z1 z2 z3 z4 z5  J Sm D
    rw [d_X12_image_r125d_25.eq_2] at D
    try rw [vrn (n := 0) (by decide) z0] at D
    try rw [vrn (n := 16) (by decide) z1] at D
    try rw [vrn (n := 4) (by decide) z2] at D
    try rw [vrn (n := 5) (by decide) z3] at D
    try rw [vrn (n := 7) (by decide) z4] at D
    try rw [vrn (n := 9) (by decide) z5] at D
    refine jX.sub (jsb_c rfl (jsb_c rfl (jsb_c rfl jsb_n))) (im_loopD hI ⟨(by rw [z1, z0, z2, z3, z4]; omega), (by rw [z5, z4]; omega)⟩  J Sm rfl (by omega) (by omega) (fun v2 h J Sm S1 XX => ?_))
    rw [XX] at D
    have ev2 := jfull v2
    refine x_iconst (v := 0) rfl ki_0 ?_
    refine x_istoren (lsx9 := [(2, .int 0), (0, .ref 125), (1, .int l1)]) rfl rfl rfl ?_
    exact jX.sub (jsb_c rfl (jsb_c rfl (jsb_c rfl jsb_n))) (ct_X12_image_r125d_56 hI hD hQ  1601 l1 0 g0 g1 g2 g3 g4 g5 h (by have := jk_0; omega) (jr_of rfl (by omega)) (jr_of jk_0 (by omega)) (jr_of rfl (by omega)) (jr_of rfl (by omega)) (jr_of rfl (by omega)) (jr_of rfl (by omega)) (jr_of rfl (by omega)) (jr_of rfl (by omega)) (by omega) (by omega) (jmc S1 rfl z0) (jmc S1 rfl z1) (jmc S1 rfl z2) (jmc S1 rfl z3) (jmc S1 rfl z4) (jmc S1 rfl z5) J Sm (by rw [jk_0]; exact D))
set_option maxRecDepth 100000 in
set_option maxHeartbeats 4000000 in
theorem sf_X12_image_r125d {Dy : jH → Prop} {h : jH} {Q : Option Value → jH → Prop} {dr : (Int × jW)} {a1 : Int32} (hI : jDi Dy) (hD : jDk Dy) (J : jJ jSgM Dy h) {p0 p1 p2 p3 p4 : Int32} {p5 p6 : Int32} (zp0 : jiv h 126 (16 : Int32).toNatClampNeg = p0) (zp1 : jiv h 126 (0 : Int32).toNatClampNeg = p1) (zp2 : jiv h 126 (4 : Int32).toNatClampNeg = p2) (zp3 : jiv h 126 (5 : Int32).toNatClampNeg = p3) (zp4 : jiv h 126 (7 : Int32).toNatClampNeg = p4) (rl_p0 : p0.toInt = p1.toInt + p2.toInt + p3.toInt + p4.toInt) (zp5 : jiv h 126 (9 : Int32).toNatClampNeg = p5) (zp6 : jiv h 126 (7 : Int32).toNatClampNeg = p6) (rl_p5 : p5.toInt ≤ p6.toInt) (D : d_X12_image_r125d a1.toInt (vw h) = dr) (hQ : ∀ (v : Int32) hx9, jJ jSgM Dy hx9 → jSm fp_X12_image_r125d h hx9 → ∀ u0 u1 u2 u3 u4 : Int32, jiv hx9 126 (16 : Int32).toNatClampNeg = u0 → jiv hx9 126 (0 : Int32).toNatClampNeg = u1 → jiv hx9 126 (4 : Int32).toNatClampNeg = u2 → jiv hx9 126 (5 : Int32).toNatClampNeg = u3 → jiv hx9 126 (7 : Int32).toNatClampNeg = u4 → u0.toInt = u1.toInt + u2.toInt + u3.toInt + u4.toInt → ∀ u5 u6 : Int32, jiv hx9 126 (9 : Int32).toNatClampNeg = u5 → jiv hx9 126 (7 : Int32).toNatClampNeg = u6 → u5.toInt ≤ u6.toInt → dr.1 = v.toInt → dr.2 = vw hx9 → Q (some (.int v)) hx9) : jC m_X12_image 2 0 0 [.ref 125, .int a1] h Q := by
  refine jC.of rfl k_X12_image rfl ?_
  have Sm := jSm_rf fp_X12_image_r125d h
  have ep0 := (show 0 ≤ p0.toInt ∧ p0.toInt ≤ 370 from zp0 ▸ jrg_c J sg_126_16_17_1_0_1 jk_16 (by omega))
  have ep1 := (show 0 ≤ p1.toInt ∧ p1.toInt ≤ 200 from zp1 ▸ jrg_c J sg_126_0_1_1_0_1 jk_0 (by omega))
  have ep2 := (show 0 ≤ p2.toInt ∧ p2.toInt ≤ 30 from zp2 ▸ jrg_c J sg_126_4_5_1_0_1 jk_4 (by omega))
  have ep3 := (show 0 ≤ p3.toInt ∧ p3.toInt ≤ 100 from zp3 ▸ jrg_c J sg_126_5_6_1_0_1 jk_5 (by omega))
  have ep4 := (show 0 ≤ p4.toInt ∧ p4.toInt ≤ 40 from zp4 ▸ jrg_c J sg_126_7_8_1_0_1 jk_7 (by omega))
  have ep5 := (show 0 ≤ p5.toInt ∧ p5.toInt ≤ 40 from zp5 ▸ jrg_c J sg_126_9_10_1_0_1 jk_9 (by omega))
  have ep6 := (show 0 ≤ p6.toInt ∧ p6.toInt ≤ 40 from zp6 ▸ jrg_c J sg_126_7_8_1_0_1 jk_7 (by omega))
  obtain rfl : p4 = p6 := zp4.symm.trans zp6
  skip
  have ea1 := jfull a1
  show jX m_X12_image 2 0 0 0 [(0, .ref 125), (1, .int a1)] [] _ 0 0 _
  unfold d_X12_image_r125d at D
  try rw [vrn (n := 16) (by decide) zp0] at D
  try rw [vrn (n := 0) (by decide) zp1] at D
  try rw [vrn (n := 4) (by decide) zp2] at D
  try rw [vrn (n := 5) (by decide) zp3] at D
  try rw [vrn (n := 7) (by decide) zp4] at D
  try rw [vrn (n := 9) (by decide) zp5] at D
  try rw [vrn (n := 7) (by decide) zp6] at D
  refine x_aloadn (x := 125) rfl rfl ?_
  refine x_iconst (v := 0) rfl ki_0 ?_
  refine z_putI (N := 92) (w := 0) 12 0 rfl f_12_180 rfl (jfin_no TX12 RX12 92 rfl rfl) hD J Sm rfl rfl jk_0 (pw_125_0 (by omega)) rfl (fun h w1 J Sm => ?_)
  rw [vwf w1 (show 0 = (0 : Int32).toInt from by have := jk_0; omega)] at D
  refine x_iloadn (x := a1) rfl rfl ?_
  refine z_i2l rfl rfl (fun v2 ev2 => ?_)
  refine x_lconst (v := 0) rfl kl_0 ?_
  refine x_ldc2 (v := 3) rfl z_12_195 ?_
  refine x_inst (N := m_X12_in) (As := [.long v2, .long 0, .long 3]) (st := []) (dx9 := 1) (mc := 0) (ms := 0) (host := "") rfl t_X12_in ⟨Or.inl q_12_188, s_X12_in⟩ rfl (by decide) rfl rfl ⟨by decide, by decide⟩ (zc_X12_in rfl jkl_0 jkl_3 (fun v3 ev3 => ?_))
  show jX m_X12_image 2 0 0 14 [(0, .ref 125), (1, .int a1)] [.int v3] _ 0 0 _
  refine x_ifne (tgt := 23) rfl rfl (ti_ne rfl jk_0 ⟨fun c4 => ?_, fun c4 => ?_⟩)
  ·
    rw [if_pos (by omega)] at D
    refine x_iconst (v := 0) rfl ki_0 ?_
    refine x_istoren (lsx9 := [(2, .int 0), (0, .ref 125), (1, .int a1)]) rfl rfl rfl ?_
    exact jX.sub (jsb_c rfl (jsb_c rfl (jsb_c rfl jsb_n))) (ct_X12_image_r125d_25 hI hD hQ  1 a1 0 p1 p0 p2 p3 p4 p5 h (by have := jk_0; omega) (jr_of rfl (by omega)) (jr_of jk_0 (by omega)) (jr_of rfl (by omega)) (jr_of rfl (by omega)) (jr_of rfl (by omega)) (jr_of rfl (by omega)) (jr_of rfl (by omega)) (jr_of rfl (by omega)) (by omega) (by omega) (jmo w1 rfl zp1) (jmo w1 rfl zp0) (jmo w1 rfl zp2) (jmo w1 rfl zp3) (jmo w1 rfl zp4) (jmo w1 rfl zp5) J Sm (by rw [jk_0]; exact D))
  ·
    rw [if_neg (by omega)] at D
    refine x_aloadn (x := 125) rfl rfl ?_
    refine x_iconst (v := (-1)) rfl ki_m1 ?_
    refine x_inv (N := m_X12_told) (As := [.int (-1)]) (b := 125) (st := []) (dx9 := 1) (mc := 0) (ms := 0) (host := "") 12 rfl t_X12_told ⟨Or.inl q_12_197, i_X12_told.1, i_X12_told.2⟩ ⟨by decide, rfl⟩ (congrArg Prod.fst (J.1.1 125 (12, 92) rfl)) rfl (by decide) rfl rfl ⟨by decide, by decide⟩ (sf_X12_told_r125d  hD J rfl  (fun v8 h J S5 X6 X7 => ?_))
    have ev8 := jfull v8
    have Sm := jSm_tr rfl Sm S5
    try rw [jk_m1] at X6
    try rw [jk_m1] at X7
    try rw [X6] at D
    try rw [X7] at D
    show jX m_X12_image 2 0 0 22 [(0, .ref 125), (1, .int a1)] [.int v8] _ 0 0 _
    refine x_iret rfl rfl ?_
    exact hQ _ _ J Sm _ _ _ _ _ (jmc S5 rfl (jmo w1 rfl zp0)) (jmc S5 rfl (jmo w1 rfl zp1)) (jmc S5 rfl (jmo w1 rfl zp2)) (jmc S5 rfl (jmo w1 rfl zp3)) (jmc S5 rfl (jmo w1 rfl zp4)) (by omega) _ _ (jmc S5 rfl (jmo w1 rfl zp5)) (jmc S5 rfl (jmo w1 rfl zp4)) (by omega) ((congrArg Prod.fst D).symm.trans X6) ((congrArg Prod.snd D).symm.trans X7)
def fp_X12_spell_r125d : jFp := [(125, 0, 1), (125, 1, 2), (125, 8, 9), (125, 9, 10), (125, 10, 11), (125, 11, 12), (125, 12, 13), (125, 13, 14), (125, 14, 15), (125, 18, 19), (132, 0, 16), (133, 0, 256), (134, 0, 768), (135, 0, 16), (136, 0, 48)]
set_option maxRecDepth 100000 in
set_option maxHeartbeats 4000000 in
theorem ct_X12_spell_r125d_94 {Dy : jH → Prop} {h0 : jH} {Q : Option Value → jH → Prop} {dr : (Int × jW)} (hD : jDk Dy) (hQ : ∀ (v : Int32) hx9, jJ jSgM Dy hx9 → jSm fp_X12_spell_r125d h0 hx9 → dr.1 = v.toInt → dr.2 = vw hx9 → Q (some (.int v)) hx9) : ∀ (l1 : Int32) (g0 : Int32) (g1 : Int32) (g2 : Int32) (g3 : Int32) (g4 : Int32) (h : jH), 0 ≤ l1.toInt ∧ l1.toInt ≤ 15 → 0 ≤ g0.toInt ∧ g0.toInt ≤ 400 → 0 ≤ g1.toInt ∧ g1.toInt ≤ 3 → 0 ≤ g2.toInt ∧ g2.toInt ≤ 1 → 0 ≤ g3.toInt ∧ g3.toInt ≤ 400 → 0 ≤ g4.toInt ∧ g4.toInt ≤ 400 → jSo h → (g0.toInt ≤ g3.toInt ∧ g4.toInt ≤ g0.toInt) → (g1.toInt = 0 ∨ g4.toInt + 1 ≤ g0.toInt) → jiv h 125 10 = g0 → jiv h 125 11 = g1 → jiv h 125 14 = g2 → jiv h 125 8 = g3 → jiv h 125 9 = g4 → jJ jSgM Dy h → jSm fp_X12_spell_r125d h0 h → d_X12_spell_r125d_94  l1.toInt (vw h) = dr → jX m_X12_spell 6 0 0 94 [(0, .ref 125), (1, .int l1)] [] h 0 0 Q := by
  intro l1 g0 g1 g2 g3 g4 h y0 y1 y2 y3 y4 y5 C0 y7 y8 z0 z1 z2 z3 z4  J Sm D
  unfold d_X12_spell_r125d_94 at D
  try rw [vrf z0] at D
  try rw [vrf z1] at D
  try rw [vrf z2] at D
  try rw [vrf z3] at D
  try rw [vrf z4] at D
  refine x_aloadn (x := 125) rfl rfl ?_
  refine x_iconst (v := 0) rfl ki_0 ?_
  refine z_putI (N := 92) (w := 0) 12 8 rfl f_12_201 rfl (jfin_no TX12 RX12 92 rfl rfl) hD J Sm rfl rfl jk_0 (pw_125_8 (by omega)) rfl (fun h w1 J Sm => ?_)
  rw [vwf w1 (show 0 = (0 : Int32).toInt from by have := jk_0; omega)] at D
  refine x_aloadn (x := 125) rfl rfl ?_
  refine z_getM (N := 92) (v := g2) 12 14 rfl f_12_214 rfl J rfl (jmo w1 rfl z2) ?_
  refine x_ifeq (tgt := 113) rfl rfl (ti_eq rfl jk_0 ⟨fun c2 => ?_, fun c2 => ?_⟩)
  ·
    rw [if_pos (by omega)] at D
    obtain ⟨u3, qu3⟩ : ∃ v : Int32, jiv h 125 18 = v := ⟨_, rfl⟩
    have eu3 := (show 0 ≤ u3.toInt ∧ u3.toInt ≤ 8 from qu3 ▸ jrg_f J sg_125_18_19_1_0_1)
    try rw [vrf (jmb_w w1 qu3 rfl)] at D
    exact jX.sub (jsb_c rfl (jsb_c rfl jsb_n)) (sp_tailD hD J Sm rfl rfl rfl rfl (by omega) (by omega) qu3 (jso_use (jso_mv (jeq_o w1 rfl jeq_0) (jmo w1 rfl rfl) (jmo w1 rfl rfl) C0) (jmo w1 rfl z2) (by omega) qu3) D hQ)
  ·
    rw [if_neg (by omega)] at D
    refine x_aloadn (x := 125) rfl rfl ?_
    refine x_bipush (v := (-6)) rfl kb_m6 ?_
    refine x_inv (N := m_X12_told) (As := [.int (-6)]) (b := 125) (st := []) (dx9 := 1) (mc := 0) (ms := 0) (host := "") 12 rfl t_X12_told ⟨Or.inl q_12_197, i_X12_told.1, i_X12_told.2⟩ ⟨by decide, rfl⟩ (congrArg Prod.fst (J.1.1 125 (12, 92) rfl)) rfl (by decide) rfl rfl ⟨by decide, by decide⟩ (sf_X12_told_r125d  hD J rfl  (fun v7 h J S4 X5 X6 => ?_))
    have ev7 := jfull v7
    have Sm := jSm_tr rfl Sm S4
    try rw [jk_m6] at X5
    try rw [jk_m6] at X6
    try rw [X5] at D
    try rw [X6] at D
    show jX m_X12_spell 6 0 0 112 [(0, .ref 125), (1, .int l1)] [.int v7] _ 0 0 _
    refine x_iret rfl rfl ?_
    exact hQ _ _ J Sm ((congrArg Prod.fst D).symm.trans X5) ((congrArg Prod.snd D).symm.trans X6)
set_option maxRecDepth 100000 in
set_option maxHeartbeats 4000000 in
theorem ct_X12_spell_r125d_75 {Dy : jH → Prop} {h0 : jH} {Q : Option Value → jH → Prop} {dr : (Int × jW)} (hD : jDk Dy) (hQ : ∀ (v : Int32) hx9, jJ jSgM Dy hx9 → jSm fp_X12_spell_r125d h0 hx9 → dr.1 = v.toInt → dr.2 = vw hx9 → Q (some (.int v)) hx9) : ∀ (l1 : Int32) (g0 : Int32) (g1 : Int32) (g2 : Int32) (g3 : Int32) (g4 : Int32) (h : jH), 0 ≤ l1.toInt ∧ l1.toInt ≤ 15 → 0 ≤ g0.toInt ∧ g0.toInt ≤ 400 → 0 ≤ g1.toInt ∧ g1.toInt ≤ 3 → 0 ≤ g2.toInt ∧ g2.toInt ≤ 1 → 0 ≤ g3.toInt ∧ g3.toInt ≤ 400 → 0 ≤ g4.toInt ∧ g4.toInt ≤ 400 → jSo h → (g0.toInt ≤ g3.toInt ∧ g4.toInt ≤ g0.toInt) → (g1.toInt = 0 ∨ g4.toInt + 1 ≤ g0.toInt) → jiv h 125 10 = g0 → jiv h 125 11 = g1 → jiv h 125 14 = g2 → jiv h 125 8 = g3 → jiv h 125 9 = g4 → jJ jSgM Dy h → jSm fp_X12_spell_r125d h0 h → d_X12_spell_r125d_75  l1.toInt (vw h) = dr → jX m_X12_spell 6 0 0 75 [(0, .ref 125), (1, .int l1)] [] h 0 0 Q := by
  intro l1 g0 g1 g2 g3 g4 h y0 y1 y2 y3 y4 y5 C0 y7 y8 z0 z1 z2 z3 z4  J Sm D
  unfold d_X12_spell_r125d_75 at D
  try rw [vrf z0] at D
  try rw [vrf z1] at D
  try rw [vrf z2] at D
  try rw [vrf z3] at D
  try rw [vrf z4] at D
  refine x_aloadn (x := 125) rfl rfl ?_
  refine z_getM (N := 92) (v := g2) 12 14 rfl f_12_214 rfl J rfl z2 ?_
  refine x_ifne (tgt := 94) rfl rfl (ti_ne rfl jk_0 ⟨fun c1 => ?_, fun c1 => ?_⟩)
  ·
    rw [if_neg (by omega)] at D
    exact jX.sub (jsb_c rfl (jsb_c rfl jsb_n)) (ct_X12_spell_r125d_94 hD hQ  l1 g0 g1 g2 g3 g4 h (jr_of rfl (by omega)) (jr_of rfl (by omega)) (jr_of rfl (by omega)) (jr_of rfl (by omega)) (jr_of rfl (by omega)) (jr_of rfl (by omega)) C0 (by omega) (by omega) z0 z1 z2 z3 z4 J Sm D)
  ·
    rw [if_pos (by omega)] at D
    refine x_aloadn (x := 125) rfl rfl ?_
    refine z_getM (N := 92) (v := g1) 12 11 rfl f_12_235 rfl J rfl z1 ?_
    refine x_ifeq (tgt := 94) rfl rfl (ti_eq rfl jk_0 ⟨fun c2 => ?_, fun c2 => ?_⟩)
    ·
      rw [if_pos (by omega)] at D
      exact jX.sub (jsb_c rfl (jsb_c rfl jsb_n)) (ct_X12_spell_r125d_94 hD hQ  l1 g0 g1 g2 g3 g4 h (jr_of rfl (by omega)) (jr_of rfl (by omega)) (jr_of rfl (by omega)) (jr_of rfl (by omega)) (jr_of rfl (by omega)) (jr_of rfl (by omega)) C0 (by omega) (by omega) z0 z1 z2 z3 z4 J Sm D)
    ·
      rw [if_neg (by omega)] at D
      refine x_aloadn (x := 125) rfl rfl ?_
      refine x_iconst (v := 0) rfl ki_0 ?_
      refine x_inv (N := m_X12_must) (As := [.int 0]) (b := 125) (st := []) (dx9 := 5) (mc := 0) (ms := 0) (host := "") 12 rfl t_X12_must ⟨Or.inl q_12_250, i_X12_must.1, i_X12_must.2⟩ ⟨by decide, rfl⟩ (congrArg Prod.fst (J.1.1 125 (12, 92) rfl)) rfl (by decide) rfl rfl ⟨by decide, by decide⟩ (jC.of rfl k_X12_must rfl ?_)
      show jX m_X12_must 5 0 0 0 [(0, .ref 125), (1, .int 0)] [] _ 0 0 _
      refine x_aloadn (x := 125) rfl rfl ?_
      refine z_getM (N := 92) (v := g2) 12 14 rfl f_12_214 rfl J rfl z2 ?_
      refine x_ifne (tgt := 24) rfl rfl (ti_ne rfl jk_0 (bn_f (by omega) ?_))
      refine x_iloadn (x := 0) rfl rfl ?_
      refine x_ifne (tgt := 24) rfl rfl (ti_ne jk_0 jk_0 (bn_f (by omega) ?_))
      refine x_aloadn (x := 125) rfl rfl ?_
      refine x_iconst (v := 1) rfl ki_1 ?_
      refine z_putZ (N := 92) (w := 1) 12 14 rfl f_12_214 rfl (jfin_no TX12 RX12 92 rfl rfl) hD J Sm rfl rfl jk_1 (by omega) (pw_125_14 (by omega)) rfl (fun h w3 J Sm => ?_)
      rw [vwf w3 (show 1 = (1 : Int32).toInt from by have := jk_1; omega)] at D
      refine x_aloadn (x := 125) rfl rfl ?_
      refine x_aloadn (x := 125) rfl rfl ?_
      refine z_getM (N := 92) (v := g4) 12 9 rfl f_12_221 rfl J rfl (jmo w3 rfl z4) ?_
      refine z_putI (N := 92) (w := g4.toInt) 12 13 rfl f_12_32 rfl (jfin_no TX12 RX12 92 rfl rfl) hD J Sm rfl rfl rfl (pw_125_13 (by omega)) rfl (fun h w4 J Sm => ?_)
      rw [vwf w4 (show g4.toInt = g4.toInt from by omega)] at D
      refine x_aloadn (x := 125) rfl rfl ?_
      refine z_getM (N := 92) (v := 1) 12 14 rfl f_12_214 rfl J rfl (jmo w4 rfl (jmw w3)) ?_
      refine x_ifne (tgt := 35) rfl rfl (ti_ne jk_1 jk_0 (bn_t (by omega) ?_))
      refine x_vret rfl rfl ?_
      show jX m_X12_spell 6 0 0 94 [(0, .ref 125), (1, .int l1)] [] _ 0 0 _
      exact jX.sub (jsb_c rfl (jsb_c rfl jsb_n)) (ct_X12_spell_r125d_94 hD hQ  l1 g0 g1 1 g3 g4 h (jr_of rfl (by omega)) (jr_of rfl (by omega)) (jr_of rfl (by omega)) (jr_of jk_1 (by omega)) (jr_of rfl (by omega)) (jr_of rfl (by omega)) (Or.inl (by rw [(jmo w4 rfl (jmw w3))]; decide)) (by omega) (by omega) (jmo w4 rfl (jmo w3 rfl z0)) (jmo w4 rfl (jmo w3 rfl z1)) (jmo w4 rfl (jmw w3)) (jmo w4 rfl (jmo w3 rfl z3)) (jmo w4 rfl (jmo w3 rfl z4)) J Sm D)
set_option maxRecDepth 100000 in
set_option maxHeartbeats 4000000 in
theorem ct_X12_spell_r125d_48 {Dy : jH → Prop} {h0 : jH} {Q : Option Value → jH → Prop} {dr : (Int × jW)} (hD : jDk Dy) (hQ : ∀ (v : Int32) hx9, jJ jSgM Dy hx9 → jSm fp_X12_spell_r125d h0 hx9 → dr.1 = v.toInt → dr.2 = vw hx9 → Q (some (.int v)) hx9) : ∀ r : Nat, ∀ (l1 : Int32) (g0 : Int32) (g1 : Int32) (g2 : Int32) (g3 : Int32) (h : jH), jsm h < (r : Int) → 0 ≤ l1.toInt ∧ l1.toInt ≤ 15 → 0 ≤ g0.toInt ∧ g0.toInt ≤ 400 → 0 ≤ g1.toInt ∧ g1.toInt ≤ 3 → 0 ≤ g2.toInt ∧ g2.toInt ≤ 400 → 0 ≤ g3.toInt ∧ g3.toInt ≤ 400 → jSo h → (g0.toInt ≤ g2.toInt ∧ g3.toInt ≤ g0.toInt) → (g1.toInt = 0 ∨ g3.toInt + 1 ≤ g0.toInt) → jiv h 125 10 = g0 → jiv h 125 11 = g1 → jiv h 125 8 = g2 → jiv h 125 9 = g3 → jJ jSgM Dy h → jSm fp_X12_spell_r125d h0 h → d_X12_spell_r125d_48 r l1.toInt (vw h) = dr → jX m_X12_spell 6 0 0 48 [(0, .ref 125), (1, .int l1)] [] h 0 0 Q := by
  intro r
  induction r with
  | zero =>
    intro l1 g0 g1 g2 g3 h hm y0 y1 y2 y3 y4 C0 y6 y7 z0 z1 z2 z3  J Sm D
    exfalso
    have := (jsm_b (h := h) (jrg_f J sg_125_18_19_1_0_1)).1; omega
  | succ r ih =>
    intro l1 g0 g1 g2 g3 h hm y0 y1 y2 y3 y4 C0 y6 y7 z0 z1 z2 z3  J Sm D
    rw [d_X12_spell_r125d_48.eq_2] at D
    try rw [vrf z0] at D
    try rw [vrf z1] at D
    try rw [vrf z2] at D
    try rw [vrf z3] at D
    refine x_aloadn (x := 125) rfl rfl ?_
    refine z_getI (N := 92) 12 14 rfl f_12_214 rfl J rfl sg_125_14_15_1_0_1 (fun v1 qv1 ev1 => ?_)
    try rw [vrf qv1] at D
    refine x_ifne (tgt := 75) rfl rfl (ti_ne rfl jk_0 ⟨fun c2 => ?_, fun c2 => ?_⟩)
    ·
      rw [if_neg (by omega)] at D
      exact jX.sub (jsb_c rfl (jsb_c rfl jsb_n)) (ct_X12_spell_r125d_75 hD hQ  l1 g0 g1 v1 g2 g3 h (jr_of rfl (by omega)) (jr_of rfl (by omega)) (jr_of rfl (by omega)) (jr_of rfl (by omega)) (jr_of rfl (by omega)) (jr_of rfl (by omega)) C0 (by omega) (by omega) z0 z1 qv1 z2 z3 J Sm D)
    ·
      rw [if_pos (by omega)] at D
      refine x_aloadn (x := 125) rfl rfl ?_
      refine x_bipush (v := 44) rfl kb_44 ?_
      refine x_inv (N := m_X12_isSign) (As := [.int 44]) (b := 125) (st := []) (dx9 := 5) (mc := 0) (ms := 0) (host := "") 12 rfl t_X12_isSign ⟨Or.inl q_12_257, i_X12_isSign.1, i_X12_isSign.2⟩ ⟨by decide, rfl⟩ (congrArg Prod.fst (J.1.1 125 (12, 92) rfl)) rfl (by decide) rfl rfl ⟨by decide, by decide⟩ (jC.of rfl k_X12_isSign rfl ?_)
      show jX m_X12_isSign 5 0 0 0 [(0, .ref 125), (1, .int 44)] [] _ 0 0 _
      refine x_aloadn (x := 125) rfl rfl ?_
      refine z_getM (N := 92) (v := g1) 12 11 rfl f_12_235 rfl J rfl z1 ?_
      refine x_iconst (v := 3) rfl ki_3 ?_
      refine x_icne (tgt := 22) rfl rfl (ti_ne rfl jk_3 ⟨fun c3 => ?_, fun c3 => ?_⟩)
      ·
        rw [if_neg (by omega)] at D
        refine x_iconst (v := 0) rfl ki_0 ?_
        refine x_zret rfl rfl (by decide) ?_
        show jX m_X12_spell 6 0 0 61 [(0, .ref 125), (1, .int l1)] [.int 0] _ 0 0 _
        refine x_ifeq (tgt := 75) rfl rfl (ti_eq jk_0 jk_0 (br_t (by omega) ?_))
        exact jX.sub (jsb_c rfl (jsb_c rfl jsb_n)) (ct_X12_spell_r125d_75 hD hQ  l1 g0 g1 v1 g2 g3 h (jr_of rfl (by omega)) (jr_of rfl (by omega)) (jr_of rfl (by omega)) (jr_of rfl (by omega)) (jr_of rfl (by omega)) (jr_of rfl (by omega)) C0 (by omega) (by omega) z0 z1 qv1 z2 z3 J Sm D)
      ·
        rw [if_pos (by omega)] at D
        refine x_aloadn (x := 125) rfl rfl ?_
        refine z_getLQ (N := 92) 12 12 rfl f_12_224 rfl J rfl (fun v4 qv4 => ?_)
        have ev4 := jfullL v4
        try rw [vrfL qv4] at D
        refine x_iloadn (x := 44) rfl rfl ?_
        refine z_i2l rfl jk_44 (fun v5 ev5 => ?_)
        refine z_lcmp rfl rfl rfl (fun v6 ev6 => ?_)
        refine x_ifne (tgt := 22) rfl rfl (ti_ne rfl jk_0 ⟨fun c7 => ?_, fun c7 => ?_⟩)
        ·
          rw [if_neg (by omega)] at D
          refine x_iconst (v := 0) rfl ki_0 ?_
          refine x_zret rfl rfl (by decide) ?_
          show jX m_X12_spell 6 0 0 61 [(0, .ref 125), (1, .int l1)] [.int 0] _ 0 0 _
          refine x_ifeq (tgt := 75) rfl rfl (ti_eq jk_0 jk_0 (br_t (by omega) ?_))
          exact jX.sub (jsb_c rfl (jsb_c rfl jsb_n)) (ct_X12_spell_r125d_75 hD hQ  l1 g0 g1 v1 g2 g3 h (jr_of rfl (by omega)) (jr_of rfl (by omega)) (jr_of rfl (by omega)) (jr_of rfl (by omega)) (jr_of rfl (by omega)) (jr_of rfl (by omega)) C0 (by omega) (by omega) z0 z1 qv1 z2 z3 J Sm D)
        ·
          rw [if_pos (by omega)] at D
          refine x_iconst (v := 1) rfl ki_1 ?_
          refine x_goto (tgt := 23) rfl rfl ?_
          refine x_zret rfl rfl (by decide) ?_
          show jX m_X12_spell 6 0 0 61 [(0, .ref 125), (1, .int l1)] [.int 1] _ 0 0 _
          refine x_ifeq (tgt := 75) rfl rfl (ti_eq jk_1 jk_0 (br_f (by omega) ?_))
          refine x_aloadn (x := 125) rfl rfl ?_
          refine x_inv (N := m_X12_next) (As := []) (b := 125) (st := []) (dx9 := 2) (mc := 0) (ms := 0) (host := "") 12 rfl t_X12_next ⟨Or.inl q_12_218, i_X12_next.1, i_X12_next.2⟩ ⟨by decide, rfl⟩ (congrArg Prod.fst (J.1.1 125 (12, 92) rfl)) rfl (by decide) rfl rfl ⟨by decide, by decide⟩ (sf_X12_next_r125d  hD J z0 z2 (by omega) rfl  (fun h J S8 u9 u10 u11 qu9 qu10 qu11 ru9 u12 u13 u14 qu12 qu13 qu14 ru12 P15 X16 => ?_))
          have Sm := jSm_tr rfl Sm S8
          rw [X16] at D
          have eu9 := (show 0 ≤ u9.toInt ∧ u9.toInt ≤ 400 from qu9 ▸ jrg_f J sg_125_10_11_1_0_1)
          try rw [vrf qu9] at D
          have eu10 := (show 0 ≤ u10.toInt ∧ u10.toInt ≤ 400 from qu10 ▸ jrg_f J sg_125_8_9_1_0_1)
          try rw [vrf (jmb_c S8 qu10 rfl)] at D
          have eu11 := (show 0 ≤ u11.toInt ∧ u11.toInt ≤ 400 from qu11 ▸ jrg_f J sg_125_9_10_1_0_1)
          try rw [vrf qu11] at D
          have eu12 := (show 0 ≤ u12.toInt ∧ u12.toInt ≤ 3 from qu12 ▸ jrg_f J sg_125_11_12_1_0_1)
          try rw [vrf qu12] at D
          obtain rfl : u11 = u13 := qu11.symm.trans qu13
          obtain rfl : u9 = u14 := qu9.symm.trans qu14
          have nfP15 := jnf P15.1 z0 qu11
          show jX m_X12_spell 6 0 0 68 [(0, .ref 125), (1, .int l1)] [] _ 0 0 _
          refine x_aloadn (x := 125) rfl rfl ?_
          have J17 := J
          refine x_inv (N := m_X12_readPair) (As := []) (b := 125) (st := []) (dx9 := 5) (mc := 0) (ms := 0) (host := "") 12 rfl t_X12_readPair ⟨Or.inl q_12_308, i_X12_readPair.1, i_X12_readPair.2⟩ ⟨by decide, rfl⟩ (congrArg Prod.fst (J.1.1 125 (12, 92) rfl)) rfl (by decide) rfl rfl ⟨by decide, by decide⟩ (sf_X12_readPair_r125d  hD J qu9 qu10 qu11 (by omega) qu12 qu11 qu9 (by omega) rfl  (fun h J S18 u19 u20 u21 qu19 qu20 qu21 ru19 u22 u23 u24 qu22 qu23 qu24 ru22 P25 X26 => ?_))
          have Sm := jSm_tr rfl Sm S18
          rw [X26] at D
          have eu19 := (show 0 ≤ u19.toInt ∧ u19.toInt ≤ 400 from qu19 ▸ jrg_f J sg_125_10_11_1_0_1)
          try rw [vrf qu19] at D
          have eu20 := (show 0 ≤ u20.toInt ∧ u20.toInt ≤ 400 from qu20 ▸ jrg_f J sg_125_8_9_1_0_1)
          try rw [show u10.toInt = u20.toInt from ((vrf (jmb_c S8 qu10 rfl)).symm.trans (vrf (jmb_c S8 (jmb_c S18 qu20 rfl) rfl)))] at D
          try rw [vrf (jmb_c S8 (jmb_c S18 qu20 rfl) rfl)] at D
          have eu21 := (show 0 ≤ u21.toInt ∧ u21.toInt ≤ 400 from qu21 ▸ jrg_f J sg_125_9_10_1_0_1)
          try rw [vrf qu21] at D
          have eu22 := (show 0 ≤ u22.toInt ∧ u22.toInt ≤ 3 from qu22 ▸ jrg_f J sg_125_11_12_1_0_1)
          try rw [vrf qu22] at D
          obtain rfl : u21 = u23 := qu21.symm.trans qu23
          obtain rfl : u19 = u24 := qu19.symm.trans qu24
          show jX m_X12_spell 6 0 0 72 [(0, .ref 125), (1, .int l1)] [] _ 0 0 _
          refine x_goto (tgt := 48) rfl rfl ?_
          exact jX.sub (jsb_c rfl (jsb_c rfl jsb_n)) (ih l1 u19 u22 u20 u21 h (by have e := jsm_e (jmc S8 rfl rfl) (jmc S8 rfl rfl); have q := jsm_p P25 (by rw [(jmc S8 rfl qv1)]; omega) (by have := jrg_f J17 sg_125_18_19_1_0_1; omega); omega) (jr_of rfl (by omega)) (jr_of rfl (by omega)) (jr_of rfl (by omega)) (jr_of rfl (by omega)) (jr_of rfl (by omega)) (jso_p (jso_mv (jeq_c S8 rfl jeq_0) (jmc S8 rfl rfl) (jmc S8 rfl rfl) C0) P25 (jrg_f J17 sg_125_18_19_1_0_1).1) (by omega) (by omega) qu19 qu22 qu20 qu21 J Sm D)
set_option maxRecDepth 100000 in
set_option maxHeartbeats 4000000 in
theorem sf_X12_spell_r125d {Dy : jH → Prop} {h : jH} {Q : Option Value → jH → Prop} {dr : (Int × jW)} {a1 : Int32} (hD : jDk Dy) (J : jJ jSgM Dy h) (D : d_X12_spell_r125d a1.toInt (vw h) = dr) (hQ : ∀ (v : Int32) hx9, jJ jSgM Dy hx9 → jSm fp_X12_spell_r125d h hx9 → dr.1 = v.toInt → dr.2 = vw hx9 → Q (some (.int v)) hx9) : jC m_X12_spell 6 0 0 [.ref 125, .int a1] h Q := by
  refine jC.of rfl k_X12_spell rfl ?_
  have Sm := jSm_rf fp_X12_spell_r125d h
  have ea1 := jfull a1
  show jX m_X12_spell 6 0 0 0 [(0, .ref 125), (1, .int a1)] [] _ 0 0 _
  unfold d_X12_spell_r125d at D
  refine x_aloadn (x := 125) rfl rfl ?_
  refine x_iconst (v := 0) rfl ki_0 ?_
  refine z_putI (N := 92) (w := 0) 12 0 rfl f_12_180 rfl (jfin_no TX12 RX12 92 rfl rfl) hD J Sm rfl rfl jk_0 (pw_125_0 (by omega)) rfl (fun h w1 J Sm => ?_)
  rw [vwf w1 (show 0 = (0 : Int32).toInt from by have := jk_0; omega)] at D
  refine x_iloadn (x := a1) rfl rfl ?_
  refine z_i2l rfl rfl (fun v2 ev2 => ?_)
  refine x_lconst (v := 0) rfl kl_0 ?_
  refine x_ldc2 (v := 15) rfl z_12_271 ?_
  refine x_inst (N := m_X12_in) (As := [.long v2, .long 0, .long 15]) (st := []) (dx9 := 1) (mc := 0) (ms := 0) (host := "") rfl t_X12_in ⟨Or.inl q_12_188, s_X12_in⟩ rfl (by decide) rfl rfl ⟨by decide, by decide⟩ (zc_X12_in rfl jkl_0 jkl_15 (fun v3 ev3 => ?_))
  show jX m_X12_spell 6 0 0 14 [(0, .ref 125), (1, .int a1)] [.int v3] _ 0 0 _
  refine x_ifne (tgt := 28) rfl rfl (ti_ne rfl jk_0 ⟨fun c4 => ?_, fun c4 => ?_⟩)
  ·
    rw [if_pos (by omega)] at D
    refine x_aloadn (x := 125) rfl rfl ?_
    refine x_inv (N := m_X12_begin) (As := []) (b := 125) (st := []) (dx9 := 5) (mc := 0) (ms := 0) (host := "") 12 rfl t_X12_begin ⟨Or.inl q_12_280, i_X12_begin.1, i_X12_begin.2⟩ ⟨by decide, rfl⟩ (congrArg Prod.fst (J.1.1 125 (12, 92) rfl)) rfl (by decide) rfl rfl ⟨by decide, by decide⟩ (jC.of rfl k_X12_begin rfl ?_)
    show jX m_X12_begin 5 0 0 0 [(0, .ref 125)] [] _ 0 0 _
    refine x_aloadn (x := 125) rfl rfl ?_
    refine x_iconst (v := 0) rfl ki_0 ?_
    refine z_putI (N := 92) (w := 0) 12 10 rfl f_12_211 rfl (jfin_no TX12 RX12 92 rfl rfl) hD J Sm rfl rfl jk_0 (pw_125_10 (by omega)) rfl (fun h w5 J Sm => ?_)
    rw [vwf w5 (show 0 = (0 : Int32).toInt from by have := jk_0; omega)] at D
    refine x_aloadn (x := 125) rfl rfl ?_
    refine x_iconst (v := 0) rfl ki_0 ?_
    refine z_putZ (N := 92) (w := 0) 12 14 rfl f_12_214 rfl (jfin_no TX12 RX12 92 rfl rfl) hD J Sm rfl rfl jk_0 (by omega) (pw_125_14 (by omega)) rfl (fun h w6 J Sm => ?_)
    rw [vwf w6 (show 0 = (0 : Int32).toInt from by have := jk_0; omega)] at D
    refine x_aloadn (x := 125) rfl rfl ?_
    refine x_iconst (v := (-1)) rfl ki_m1 ?_
    refine z_putI (N := 92) (w := (-1)) 12 13 rfl f_12_32 rfl (jfin_no TX12 RX12 92 rfl rfl) hD J Sm rfl rfl jk_m1 (pw_125_13 (by omega)) rfl (fun h w7 J Sm => ?_)
    rw [vwf w7 (show (-1) = ((-1) : Int32).toInt from by have := jk_m1; omega)] at D
    refine x_aloadn (x := 125) rfl rfl ?_
    obtain ⟨u8, qu8⟩ : ∃ v : Int32, jiv h 125 8 = v := ⟨_, rfl⟩
    have eu8 := (show 0 ≤ u8.toInt ∧ u8.toInt ≤ 400 from qu8 ▸ jrg_f J sg_125_8_9_1_0_1)
    try rw [vrf (jmb_w w1 (jmb_w w5 (jmb_w w6 (jmb_w w7 qu8 rfl) rfl) rfl) rfl)] at D
    refine x_inv (N := m_X12_next) (As := []) (b := 125) (st := []) (dx9 := 2) (mc := 0) (ms := 0) (host := "") 12 rfl t_X12_next ⟨Or.inl q_12_218, i_X12_next.1, i_X12_next.2⟩ ⟨by decide, rfl⟩ (congrArg Prod.fst (J.1.1 125 (12, 92) rfl)) rfl (by decide) rfl rfl ⟨by decide, by decide⟩ (sf_X12_next_r125d  hD J (jmo w7 rfl (jmo w6 rfl (jmw w5))) qu8 (by have := jk_0; omega) rfl  (fun h J S9 u10 u11 u12 qu10 qu11 qu12 ru10 u13 u14 u15 qu13 qu14 qu15 ru13 P16 X17 => ?_))
    have Sm := jSm_tr rfl Sm S9
    rw [X17] at D
    have eu10 := (show 0 ≤ u10.toInt ∧ u10.toInt ≤ 400 from qu10 ▸ jrg_f J sg_125_10_11_1_0_1)
    try rw [vrf qu10] at D
    have eu11 := (show 0 ≤ u11.toInt ∧ u11.toInt ≤ 400 from qu11 ▸ jrg_f J sg_125_8_9_1_0_1)
    try rw [show u8.toInt = u11.toInt from ((vrf (jmb_w w1 (jmb_w w5 (jmb_w w6 (jmb_w w7 qu8 rfl) rfl) rfl) rfl)).symm.trans (vrf (jmb_w w1 (jmb_w w5 (jmb_w w6 (jmb_w w7 (jmb_c S9 qu11 rfl) rfl) rfl) rfl) rfl)))] at D
    try rw [vrf (jmb_w w1 (jmb_w w5 (jmb_w w6 (jmb_w w7 (jmb_c S9 qu11 rfl) rfl) rfl) rfl) rfl)] at D
    have eu12 := (show 0 ≤ u12.toInt ∧ u12.toInt ≤ 400 from qu12 ▸ jrg_f J sg_125_9_10_1_0_1)
    try rw [vrf qu12] at D
    have eu13 := (show 0 ≤ u13.toInt ∧ u13.toInt ≤ 3 from qu13 ▸ jrg_f J sg_125_11_12_1_0_1)
    try rw [vrf qu13] at D
    obtain rfl : u12 = u14 := qu12.symm.trans qu14
    obtain rfl : u10 = u15 := qu10.symm.trans qu15
    have nfP16 := jnf P16.1 (jmo w7 rfl (jmo w6 rfl (jmw w5))) qu12
    show jX m_X12_begin 5 0 0 19 [(0, .ref 125)] [] _ 0 0 _
    refine x_vret rfl rfl ?_
    show jX m_X12_spell 6 0 0 32 [(0, .ref 125), (1, .int a1)] [] _ 0 0 _
    refine x_aloadn (x := 125) rfl rfl ?_
    refine x_iconst (v := 0) rfl ki_0 ?_
    refine z_putI (N := 92) (w := 0) 12 18 rfl f_12_302 rfl (jfin_no TX12 RX12 92 rfl rfl) hD J Sm rfl rfl jk_0 (pw_125_18 (by omega)) rfl (fun h w18 J Sm => ?_)
    rw [vwf w18 (show 0 = (0 : Int32).toInt from by have := jk_0; omega)] at D
    refine x_aloadn (x := 125) rfl rfl ?_
    refine z_getM (N := 92) (v := u13) 12 11 rfl f_12_235 rfl J rfl (jmo w18 rfl qu13) ?_
    refine x_ifeq (tgt := 94) rfl rfl (ti_eq rfl jk_0 ⟨fun c19 => ?_, fun c19 => ?_⟩)
    ·
      rw [if_pos (by omega)] at D
      exact jX.sub (jsb_c rfl (jsb_c rfl jsb_n)) (ct_X12_spell_r125d_94 hD hQ  a1 u10 u13 0 u11 u12 h (jr_of rfl (by omega)) (jr_of rfl (by omega)) (jr_of rfl (by omega)) (jr_of jk_0 (by omega)) (jr_of rfl (by omega)) (jr_of rfl (by omega)) (jso_0 (jmw w18)) (by omega) (by omega) (jmo w18 rfl qu10) (jmo w18 rfl qu13) (jmo w18 rfl (jmc S9 rfl (jmo w7 rfl (jmw w6)))) (jmo w18 rfl qu11) (jmo w18 rfl qu12) J Sm D)
    ·
      rw [if_neg (by omega)] at D
      refine x_aloadn (x := 125) rfl rfl ?_
      have J20 := J
      refine x_inv (N := m_X12_readPair) (As := []) (b := 125) (st := []) (dx9 := 5) (mc := 0) (ms := 0) (host := "") 12 rfl t_X12_readPair ⟨Or.inl q_12_308, i_X12_readPair.1, i_X12_readPair.2⟩ ⟨by decide, rfl⟩ (congrArg Prod.fst (J.1.1 125 (12, 92) rfl)) rfl (by decide) rfl rfl ⟨by decide, by decide⟩ (sf_X12_readPair_r125d  hD J (jmo w18 rfl qu10) (jmo w18 rfl qu11) (jmo w18 rfl qu12) (by omega) (jmo w18 rfl qu13) (jmo w18 rfl qu12) (jmo w18 rfl qu10) (by omega) rfl  (fun h J S21 u22 u23 u24 qu22 qu23 qu24 ru22 u25 u26 u27 qu25 qu26 qu27 ru25 P28 X29 => ?_))
      have Sm := jSm_tr rfl Sm S21
      rw [X29] at D
      have eu22 := (show 0 ≤ u22.toInt ∧ u22.toInt ≤ 400 from qu22 ▸ jrg_f J sg_125_10_11_1_0_1)
      try rw [vrf qu22] at D
      have eu23 := (show 0 ≤ u23.toInt ∧ u23.toInt ≤ 400 from qu23 ▸ jrg_f J sg_125_8_9_1_0_1)
      try rw [show u11.toInt = u23.toInt from ((vrf (jmb_w w1 (jmb_w w5 (jmb_w w6 (jmb_w w7 (jmb_c S9 qu11 rfl) rfl) rfl) rfl) rfl)).symm.trans (vrf (jmb_w w1 (jmb_w w5 (jmb_w w6 (jmb_w w7 (jmb_c S9 (jmb_w w18 (jmb_c S21 qu23 rfl) rfl) rfl) rfl) rfl) rfl) rfl)))] at D
      try rw [vrf (jmb_w w1 (jmb_w w5 (jmb_w w6 (jmb_w w7 (jmb_c S9 (jmb_w w18 (jmb_c S21 qu23 rfl) rfl) rfl) rfl) rfl) rfl) rfl)] at D
      have eu24 := (show 0 ≤ u24.toInt ∧ u24.toInt ≤ 400 from qu24 ▸ jrg_f J sg_125_9_10_1_0_1)
      try rw [vrf qu24] at D
      have eu25 := (show 0 ≤ u25.toInt ∧ u25.toInt ≤ 3 from qu25 ▸ jrg_f J sg_125_11_12_1_0_1)
      try rw [vrf qu25] at D
      obtain rfl : u24 = u26 := qu24.symm.trans qu26
      obtain rfl : u22 = u27 := qu22.symm.trans qu27
      show jX m_X12_spell 6 0 0 48 [(0, .ref 125), (1, .int a1)] [] _ 0 0 _
      exact jX.sub (jsb_c rfl (jsb_c rfl jsb_n)) (ct_X12_spell_r125d_48 hD hQ  12 a1 u22 u25 u23 u24 h (by have := (jsm_b (h := h) (jrg_f J sg_125_18_19_1_0_1)).2; omega) (jr_of rfl (by omega)) (jr_of rfl (by omega)) (jr_of rfl (by omega)) (jr_of rfl (by omega)) (jr_of rfl (by omega)) (jso_p (jso_0 (jmw w18)) P28 (jrg_f J20 sg_125_18_19_1_0_1).1) (by omega) (by omega) qu22 qu25 qu23 qu24 J Sm D)
  ·
    rw [if_neg (by omega)] at D
    refine x_aloadn (x := 125) rfl rfl ?_
    refine x_iconst (v := 0) rfl ki_0 ?_
    refine z_putI (N := 92) (w := 0) 12 8 rfl f_12_201 rfl (jfin_no TX12 RX12 92 rfl rfl) hD J Sm rfl rfl jk_0 (pw_125_8 (by omega)) rfl (fun h w30 J Sm => ?_)
    rw [vwf w30 (show 0 = (0 : Int32).toInt from by have := jk_0; omega)] at D
    refine x_aloadn (x := 125) rfl rfl ?_
    refine x_iconst (v := (-1)) rfl ki_m1 ?_
    refine x_inv (N := m_X12_told) (As := [.int (-1)]) (b := 125) (st := []) (dx9 := 1) (mc := 0) (ms := 0) (host := "") 12 rfl t_X12_told ⟨Or.inl q_12_197, i_X12_told.1, i_X12_told.2⟩ ⟨by decide, rfl⟩ (congrArg Prod.fst (J.1.1 125 (12, 92) rfl)) rfl (by decide) rfl rfl ⟨by decide, by decide⟩ (sf_X12_told_r125d  hD J rfl  (fun v34 h J S31 X32 X33 => ?_))
    have ev34 := jfull v34
    have Sm := jSm_tr rfl Sm S31
    try rw [jk_m1] at X32
    try rw [jk_m1] at X33
    try rw [X32] at D
    try rw [X33] at D
    show jX m_X12_spell 6 0 0 27 [(0, .ref 125), (1, .int a1)] [.int v34] _ 0 0 _
    refine x_iret rfl rfl ?_
    exact hQ _ _ J Sm ((congrArg Prod.fst D).symm.trans X32) ((congrArg Prod.snd D).symm.trans X33)
def fp_X12_text_r125d : jFp := [(125, 0, 1), (125, 1, 2), (125, 8, 9), (125, 9, 10), (125, 10, 11), (125, 11, 12), (125, 12, 13), (125, 13, 14), (125, 14, 15), (125, 47, 48), (125, 49, 50), (125, 52, 53), (125, 55, 56), (125, 56, 57), (126, 4, 5), (126, 16, 17), (126, 18820, 46540), (126, 49920, 50660), (147, 0, 120), (148, 0, 400), (149, 0, 400), (150, 0, 400), (151, 0, 400)]
set_option maxRecDepth 100000 in
set_option maxHeartbeats 4000000 in
theorem ct_X12_text_r125d_100069 {Dy : jH → Prop} {h0 : jH} {Q : Option Value → jH → Prop} {dr : (Int × jW)} (hD : jDk Dy) (hQ : ∀ (v : Int32) hx9, jJ jSgM Dy hx9 → jSm fp_X12_text_r125d h0 hx9 → ∀ u0 u1 u2 u3 u4 : Int32, jiv hx9 126 (16 : Int32).toNatClampNeg = u0 → jiv hx9 126 (0 : Int32).toNatClampNeg = u1 → jiv hx9 126 (4 : Int32).toNatClampNeg = u2 → jiv hx9 126 (5 : Int32).toNatClampNeg = u3 → jiv hx9 126 (7 : Int32).toNatClampNeg = u4 → u0.toInt = u1.toInt + u2.toInt + u3.toInt + u4.toInt → dr.1 = v.toInt → dr.2 = vw hx9 → Q (some (.int v)) hx9) : ∀ (g0 : Int32) (g1 : Int32) (g2 : Int32) (g3 : Int32) (g4 : Int32) (g5 : Int32) (g6 : Int32) (g7 : Int32) (g8 : Int32) (h : jH), 0 ≤ g0.toInt ∧ g0.toInt ≤ 200 → 0 ≤ g1.toInt ∧ g1.toInt ≤ 370 → 0 ≤ g2.toInt ∧ g2.toInt ≤ 30 → 0 ≤ g3.toInt ∧ g3.toInt ≤ 100 → 0 ≤ g4.toInt ∧ g4.toInt ≤ 40 → 0 ≤ g5.toInt ∧ g5.toInt ≤ 400 → 0 ≤ g6.toInt ∧ g6.toInt ≤ 3 → 0 ≤ g7.toInt ∧ g7.toInt ≤ 0 → 0 ≤ g8.toInt ∧ g8.toInt ≤ 400 → g1.toInt = g0.toInt + g2.toInt + g3.toInt + g4.toInt → jiv h 126 (0 : Int32).toNatClampNeg = g0 → jiv h 126 (16 : Int32).toNatClampNeg = g1 → jiv h 126 (4 : Int32).toNatClampNeg = g2 → jiv h 126 (5 : Int32).toNatClampNeg = g3 → jiv h 126 (7 : Int32).toNatClampNeg = g4 → jiv h 125 10 = g5 → jiv h 125 11 = g6 → jiv h 125 8 = g7 → jiv h 125 9 = g8 → jJ jSgM Dy h → jSm fp_X12_text_r125d h0 h → d_X12_text_r125d_100069  (vw h) = dr → jX m_X12_text 10 0 0 69 [] [.int (-1), .ref 125] h 0 0 Q := by
  intro g0 g1 g2 g3 g4 g5 g6 g7 g8 h y0 y1 y2 y3 y4 y5 y6 y7 y8 y9 z0 z1 z2 z3 z4 z5 z6 z7 z8  J Sm D
  unfold d_X12_text_r125d_100069 at D
  try rw [vrn (n := 0) (by decide) z0] at D
  try rw [vrn (n := 16) (by decide) z1] at D
  try rw [vrn (n := 4) (by decide) z2] at D
  try rw [vrn (n := 5) (by decide) z3] at D
  try rw [vrn (n := 7) (by decide) z4] at D
  try rw [vrf z5] at D
  try rw [vrf z6] at D
  try rw [vrf z7] at D
  try rw [vrf z8] at D
  refine x_inv (N := m_X12_told) (As := [.int (-1)]) (b := 125) (st := []) (dx9 := 1) (mc := 0) (ms := 0) (host := "") 12 rfl t_X12_told ⟨Or.inl q_12_197, i_X12_told.1, i_X12_told.2⟩ ⟨by decide, rfl⟩ (congrArg Prod.fst (J.1.1 125 (12, 92) rfl)) rfl (by decide) rfl rfl ⟨by decide, by decide⟩ (sf_X12_told_r125d  hD J rfl  (fun v4 h J S1 X2 X3 => ?_))
  have ev4 := jfull v4
  have Sm := jSm_tr rfl Sm S1
  try rw [jk_m1] at X2
  try rw [jk_m1] at X3
  try rw [X2] at D
  try rw [X3] at D
  show jX m_X12_text 10 0 0 72 [] [.int v4] _ 0 0 _
  refine x_iret rfl rfl ?_
  exact hQ _ _ J Sm _ _ _ _ _ (jmc S1 rfl z1) (jmc S1 rfl z0) (jmc S1 rfl z2) (jmc S1 rfl z3) (jmc S1 rfl z4) (by omega) ((congrArg Prod.fst D).symm.trans X2) ((congrArg Prod.snd D).symm.trans X3)
set_option maxRecDepth 100000 in
set_option maxHeartbeats 4000000 in
theorem ct_X12_text_r125d_69 {Dy : jH → Prop} {h0 : jH} {Q : Option Value → jH → Prop} {dr : (Int × jW)} (hD : jDk Dy) (hQ : ∀ (v : Int32) hx9, jJ jSgM Dy hx9 → jSm fp_X12_text_r125d h0 hx9 → ∀ u0 u1 u2 u3 u4 : Int32, jiv hx9 126 (16 : Int32).toNatClampNeg = u0 → jiv hx9 126 (0 : Int32).toNatClampNeg = u1 → jiv hx9 126 (4 : Int32).toNatClampNeg = u2 → jiv hx9 126 (5 : Int32).toNatClampNeg = u3 → jiv hx9 126 (7 : Int32).toNatClampNeg = u4 → u0.toInt = u1.toInt + u2.toInt + u3.toInt + u4.toInt → dr.1 = v.toInt → dr.2 = vw hx9 → Q (some (.int v)) hx9) : ∀ (g0 : Int32) (g1 : Int32) (g2 : Int32) (g3 : Int32) (g4 : Int32) (g5 : Int32) (g6 : Int32) (g7 : Int32) (g8 : Int32) (h : jH), 0 ≤ g0.toInt ∧ g0.toInt ≤ 200 → 0 ≤ g1.toInt ∧ g1.toInt ≤ 370 → 0 ≤ g2.toInt ∧ g2.toInt ≤ 30 → 0 ≤ g3.toInt ∧ g3.toInt ≤ 100 → 0 ≤ g4.toInt ∧ g4.toInt ≤ 40 → 0 ≤ g5.toInt ∧ g5.toInt ≤ 400 → 0 ≤ g6.toInt ∧ g6.toInt ≤ 3 → 0 ≤ g7.toInt ∧ g7.toInt ≤ 0 → 0 ≤ g8.toInt ∧ g8.toInt ≤ 400 → g1.toInt = g0.toInt + g2.toInt + g3.toInt + g4.toInt → jiv h 126 (0 : Int32).toNatClampNeg = g0 → jiv h 126 (16 : Int32).toNatClampNeg = g1 → jiv h 126 (4 : Int32).toNatClampNeg = g2 → jiv h 126 (5 : Int32).toNatClampNeg = g3 → jiv h 126 (7 : Int32).toNatClampNeg = g4 → jiv h 125 10 = g5 → jiv h 125 11 = g6 → jiv h 125 8 = g7 → jiv h 125 9 = g8 → jJ jSgM Dy h → jSm fp_X12_text_r125d h0 h → d_X12_text_r125d_69  (vw h) = dr → jX m_X12_text 10 0 0 69 [] [.int (-5), .ref 125] h 0 0 Q := by
  intro g0 g1 g2 g3 g4 g5 g6 g7 g8 h y0 y1 y2 y3 y4 y5 y6 y7 y8 y9 z0 z1 z2 z3 z4 z5 z6 z7 z8  J Sm D
  unfold d_X12_text_r125d_69 at D
  try rw [vrn (n := 0) (by decide) z0] at D
  try rw [vrn (n := 16) (by decide) z1] at D
  try rw [vrn (n := 4) (by decide) z2] at D
  try rw [vrn (n := 5) (by decide) z3] at D
  try rw [vrn (n := 7) (by decide) z4] at D
  try rw [vrf z5] at D
  try rw [vrf z6] at D
  try rw [vrf z7] at D
  try rw [vrf z8] at D
  refine x_inv (N := m_X12_told) (As := [.int (-5)]) (b := 125) (st := []) (dx9 := 1) (mc := 0) (ms := 0) (host := "") 12 rfl t_X12_told ⟨Or.inl q_12_197, i_X12_told.1, i_X12_told.2⟩ ⟨by decide, rfl⟩ (congrArg Prod.fst (J.1.1 125 (12, 92) rfl)) rfl (by decide) rfl rfl ⟨by decide, by decide⟩ (sf_X12_told_r125d  hD J rfl  (fun v4 h J S1 X2 X3 => ?_))
  have ev4 := jfull v4
  have Sm := jSm_tr rfl Sm S1
  try rw [jk_m5] at X2
  try rw [jk_m5] at X3
  try rw [X2] at D
  try rw [X3] at D
  show jX m_X12_text 10 0 0 72 [] [.int v4] _ 0 0 _
  refine x_iret rfl rfl ?_
  exact hQ _ _ J Sm _ _ _ _ _ (jmc S1 rfl z1) (jmc S1 rfl z0) (jmc S1 rfl z2) (jmc S1 rfl z3) (jmc S1 rfl z4) (by omega) ((congrArg Prod.fst D).symm.trans X2) ((congrArg Prod.snd D).symm.trans X3)
set_option maxRecDepth 100000 in
set_option maxHeartbeats 4000000 in
theorem ct_X12_text_r125d_52 {Dy : jH → Prop} {h0 : jH} {Q : Option Value → jH → Prop} {dr : (Int × jW)} (hD : jDk Dy) (hQ : ∀ (v : Int32) hx9, jJ jSgM Dy hx9 → jSm fp_X12_text_r125d h0 hx9 → ∀ u0 u1 u2 u3 u4 : Int32, jiv hx9 126 (16 : Int32).toNatClampNeg = u0 → jiv hx9 126 (0 : Int32).toNatClampNeg = u1 → jiv hx9 126 (4 : Int32).toNatClampNeg = u2 → jiv hx9 126 (5 : Int32).toNatClampNeg = u3 → jiv hx9 126 (7 : Int32).toNatClampNeg = u4 → u0.toInt = u1.toInt + u2.toInt + u3.toInt + u4.toInt → dr.1 = v.toInt → dr.2 = vw hx9 → Q (some (.int v)) hx9) : ∀ (l4 : Int32) (g0 : Int32) (g1 : Int32) (g2 : Int32) (g3 : Int32) (g4 : Int32) (g5 : Int32) (g6 : Int32) (g7 : Int32) (g8 : Int32) (h : jH), 0 ≤ l4.toInt ∧ l4.toInt ≤ 1 → 0 ≤ g0.toInt ∧ g0.toInt ≤ 200 → 0 ≤ g1.toInt ∧ g1.toInt ≤ 370 → 0 ≤ g2.toInt ∧ g2.toInt ≤ 30 → 0 ≤ g3.toInt ∧ g3.toInt ≤ 100 → 0 ≤ g4.toInt ∧ g4.toInt ≤ 40 → 0 ≤ g5.toInt ∧ g5.toInt ≤ 400 → 0 ≤ g6.toInt ∧ g6.toInt ≤ 3 → 0 ≤ g7.toInt ∧ g7.toInt ≤ 400 → 0 ≤ g8.toInt ∧ g8.toInt ≤ 400 → g1.toInt = g0.toInt + g2.toInt + g3.toInt + g4.toInt → jiv h 126 (0 : Int32).toNatClampNeg = g0 → jiv h 126 (16 : Int32).toNatClampNeg = g1 → jiv h 126 (4 : Int32).toNatClampNeg = g2 → jiv h 126 (5 : Int32).toNatClampNeg = g3 → jiv h 126 (7 : Int32).toNatClampNeg = g4 → jiv h 125 10 = g5 → jiv h 125 11 = g6 → jiv h 125 8 = g7 → jiv h 125 9 = g8 → jJ jSgM Dy h → jSm fp_X12_text_r125d h0 h → d_X12_text_r125d_52  l4.toInt (vw h) = dr → jX m_X12_text 10 0 0 52 [(0, .ref 125), (4, .int l4)] [] h 0 0 Q := by
  intro l4 g0 g1 g2 g3 g4 g5 g6 g7 g8 h y0 y1 y2 y3 y4 y5 y6 y7 y8 y9 y10 z0 z1 z2 z3 z4 z5 z6 z7 z8  J Sm D
  unfold d_X12_text_r125d_52 at D
  try rw [vrn (n := 0) (by decide) z0] at D
  try rw [vrn (n := 16) (by decide) z1] at D
  try rw [vrn (n := 4) (by decide) z2] at D
  try rw [vrn (n := 5) (by decide) z3] at D
  try rw [vrn (n := 7) (by decide) z4] at D
  try rw [vrf z5] at D
  try rw [vrf z6] at D
  try rw [vrf z7] at D
  try rw [vrf z8] at D
  refine x_aloadn (x := 125) rfl rfl ?_
  refine x_iconst (v := 0) rfl ki_0 ?_
  refine z_putI (N := 92) (w := 0) 12 8 rfl f_12_201 rfl (jfin_no TX12 RX12 92 rfl rfl) hD J Sm rfl rfl jk_0 (pw_125_8 (by omega)) rfl (fun h w1 J Sm => ?_)
  rw [vwf w1 (show 0 = (0 : Int32).toInt from by have := jk_0; omega)] at D
  refine x_aloadn (x := 125) rfl rfl ?_
  refine x_iload (x := l4) rfl rfl ?_
  refine x_ifeq (tgt := 68) rfl rfl (ti_eq rfl jk_0 ⟨fun c2 => ?_, fun c2 => ?_⟩)
  ·
    rw [if_pos (by omega)] at D
    refine x_iconst (v := (-1)) rfl ki_m1 ?_
    exact jX.sub jsb_n (ct_X12_text_r125d_100069 hD hQ  g0 g1 g2 g3 g4 g5 g6 0 g8 h (jr_of rfl (by omega)) (jr_of rfl (by omega)) (jr_of rfl (by omega)) (jr_of rfl (by omega)) (jr_of rfl (by omega)) (jr_of rfl (by omega)) (jr_of rfl (by omega)) (jr_of jk_0 (by omega)) (jr_of rfl (by omega)) (by omega) (jmo w1 rfl z0) (jmo w1 rfl z1) (jmo w1 rfl z2) (jmo w1 rfl z3) (jmo w1 rfl z4) (jmo w1 rfl z5) (jmo w1 rfl z6) (jmw w1) (jmo w1 rfl z8) J Sm D)
  ·
    rw [if_neg (by omega)] at D
    refine x_bipush (v := (-5)) rfl kb_m5 ?_
    refine x_goto (tgt := 69) rfl rfl ?_
    exact jX.sub jsb_n (ct_X12_text_r125d_69 hD hQ  g0 g1 g2 g3 g4 g5 g6 0 g8 h (jr_of rfl (by omega)) (jr_of rfl (by omega)) (jr_of rfl (by omega)) (jr_of rfl (by omega)) (jr_of rfl (by omega)) (jr_of rfl (by omega)) (jr_of rfl (by omega)) (jr_of jk_0 (by omega)) (jr_of rfl (by omega)) (by omega) (jmo w1 rfl z0) (jmo w1 rfl z1) (jmo w1 rfl z2) (jmo w1 rfl z3) (jmo w1 rfl z4) (jmo w1 rfl z5) (jmo w1 rfl z6) (jmw w1) (jmo w1 rfl z8) J Sm D)
set_option maxRecDepth 100000 in
set_option maxHeartbeats 4000000 in
theorem ct_X12_text_r125d_142 {Dy : jH → Prop} {h0 : jH} {Q : Option Value → jH → Prop} {dr : (Int × jW)} (hD : jDk Dy) (hQ : ∀ (v : Int32) hx9, jJ jSgM Dy hx9 → jSm fp_X12_text_r125d h0 hx9 → ∀ u0 u1 u2 u3 u4 : Int32, jiv hx9 126 (16 : Int32).toNatClampNeg = u0 → jiv hx9 126 (0 : Int32).toNatClampNeg = u1 → jiv hx9 126 (4 : Int32).toNatClampNeg = u2 → jiv hx9 126 (5 : Int32).toNatClampNeg = u3 → jiv hx9 126 (7 : Int32).toNatClampNeg = u4 → u0.toInt = u1.toInt + u2.toInt + u3.toInt + u4.toInt → dr.1 = v.toInt → dr.2 = vw hx9 → Q (some (.int v)) hx9) : ∀ (l1 : Int32) (l2 : Int32) (l3 : Int32) (g0 : Int32) (g1 : Int32) (g2 : Int32) (g3 : Int32) (g4 : Int32) (g5 : Int32) (g6 : Int32) (g7 : Int32) (g8 : Int32) (h : jH), 0 ≤ l1.toInt ∧ l1.toInt ≤ 1 → 0 ≤ l2.toInt ∧ l2.toInt ≤ 146399 → 0 ≤ l3.toInt ∧ l3.toInt ≤ 146399 → 0 ≤ g0.toInt ∧ g0.toInt ≤ 200 → 0 ≤ g1.toInt ∧ g1.toInt ≤ 369 → 0 ≤ g2.toInt ∧ g2.toInt ≤ 29 → 0 ≤ g3.toInt ∧ g3.toInt ≤ 100 → 0 ≤ g4.toInt ∧ g4.toInt ≤ 40 → 0 ≤ g5.toInt ∧ g5.toInt ≤ 400 → 0 ≤ g6.toInt ∧ g6.toInt ≤ 3 → 0 ≤ g7.toInt ∧ g7.toInt ≤ 400 → 0 ≤ g8.toInt ∧ g8.toInt ≤ 400 → jRk (jnK h) h h → g1.toInt = g0.toInt + g2.toInt + g3.toInt + g4.toInt → (g5.toInt ≤ g7.toInt ∧ g8.toInt ≤ g5.toInt) → (g6.toInt = 0 ∨ g8.toInt + 1 ≤ g5.toInt) → jiv h 126 (0 : Int32).toNatClampNeg = g0 → jiv h 126 (16 : Int32).toNatClampNeg = g1 → jiv h 126 (4 : Int32).toNatClampNeg = g2 → jiv h 126 (5 : Int32).toNatClampNeg = g3 → jiv h 126 (7 : Int32).toNatClampNeg = g4 → jiv h 125 10 = g5 → jiv h 125 11 = g6 → jiv h 125 8 = g7 → jiv h 125 9 = g8 → jJ jSgM Dy h → jSm fp_X12_text_r125d h0 h → d_X12_text_r125d_142  l1.toInt l2.toInt l3.toInt (vw h) = dr → jX m_X12_text 10 0 0 142 [(0, .ref 125), (1, .int l1), (2, .int l2), (3, .int l3)] [] h 0 0 Q := by
  intro l1 l2 l3 g0 g1 g2 g3 g4 g5 g6 g7 g8 h y0 y1 y2 y3 y4 y5 y6 y7 y8 y9 y10 y11 C0 y13 y14 y15 z0 z1 z2 z3 z4 z5 z6 z7 z8  J Sm D
  unfold d_X12_text_r125d_142 at D
  try rw [vrn (n := 0) (by decide) z0] at D
  try rw [vrn (n := 16) (by decide) z1] at D
  try rw [vrn (n := 4) (by decide) z2] at D
  try rw [vrn (n := 5) (by decide) z3] at D
  try rw [vrn (n := 7) (by decide) z4] at D
  try rw [vrf z5] at D
  try rw [vrf z6] at D
  try rw [vrf z7] at D
  try rw [vrf z8] at D
  refine x_aloadn (x := 125) rfl rfl ?_
  refine x_iconst (v := 0) rfl ki_0 ?_
  refine z_putI (N := 92) (w := 0) 12 8 rfl f_12_201 rfl (jfin_no TX12 RX12 92 rfl rfl) hD J Sm rfl rfl jk_0 (pw_125_8 (by omega)) rfl (fun h w1 J Sm => ?_)
  rw [vwf w1 (show 0 = (0 : Int32).toInt from by have := jk_0; omega)] at D
  refine x_aloadn (x := 125) rfl rfl ?_
  refine z_getI (N := 92) 12 14 rfl f_12_214 rfl J rfl sg_125_14_15_1_0_1 (fun v2 qv2 ev2 => ?_)
  try rw [vrf (jmb_w w1 qv2 rfl)] at D
  refine x_ifeq (tgt := 161) rfl rfl (ti_eq rfl jk_0 ⟨fun c3 => ?_, fun c3 => ?_⟩)
  ·
    rw [if_pos (by omega)] at D
    exact jX.sub (jsb_c rfl (jsb_c rfl (jsb_c rfl (jsb_c rfl jsb_n)))) (tx_tailD hD J Sm rfl rfl rfl rfl rfl (by omega) (by omega) (by omega) (rk_z C0 (ke_o w1 rfl rfl rfl rfl)) qv2 (by omega) (jmo w1 rfl z1) (jmo w1 rfl z0) (jmo w1 rfl z2) (jmo w1 rfl z3) (jmo w1 rfl z4) (by omega) (by omega) D hQ)
  ·
    rw [if_neg (by omega)] at D
    refine x_aloadn (x := 125) rfl rfl ?_
    refine x_bipush (v := (-6)) rfl kb_m6 ?_
    refine x_inv (N := m_X12_told) (As := [.int (-6)]) (b := 125) (st := []) (dx9 := 1) (mc := 0) (ms := 0) (host := "") 12 rfl t_X12_told ⟨Or.inl q_12_197, i_X12_told.1, i_X12_told.2⟩ ⟨by decide, rfl⟩ (congrArg Prod.fst (J.1.1 125 (12, 92) rfl)) rfl (by decide) rfl rfl ⟨by decide, by decide⟩ (sf_X12_told_r125d  hD J rfl  (fun v7 h J S4 X5 X6 => ?_))
    have ev7 := jfull v7
    have Sm := jSm_tr rfl Sm S4
    try rw [jk_m6] at X5
    try rw [jk_m6] at X6
    try rw [X5] at D
    try rw [X6] at D
    show jX m_X12_text 10 0 0 160 [(0, .ref 125), (1, .int l1), (2, .int l2), (3, .int l3)] [.int v7] _ 0 0 _
    refine x_iret rfl rfl ?_
    exact hQ _ _ J Sm _ _ _ _ _ (jmc S4 rfl (jmo w1 rfl z1)) (jmc S4 rfl (jmo w1 rfl z0)) (jmc S4 rfl (jmo w1 rfl z2)) (jmc S4 rfl (jmo w1 rfl z3)) (jmc S4 rfl (jmo w1 rfl z4)) (by omega) ((congrArg Prod.fst D).symm.trans X5) ((congrArg Prod.snd D).symm.trans X6)
set_option maxRecDepth 100000 in
set_option maxHeartbeats 4000000 in
theorem ct_X12_text_r125d_123 {Dy : jH → Prop} {h0 : jH} {Q : Option Value → jH → Prop} {dr : (Int × jW)} (hD : jDk Dy) (hQ : ∀ (v : Int32) hx9, jJ jSgM Dy hx9 → jSm fp_X12_text_r125d h0 hx9 → ∀ u0 u1 u2 u3 u4 : Int32, jiv hx9 126 (16 : Int32).toNatClampNeg = u0 → jiv hx9 126 (0 : Int32).toNatClampNeg = u1 → jiv hx9 126 (4 : Int32).toNatClampNeg = u2 → jiv hx9 126 (5 : Int32).toNatClampNeg = u3 → jiv hx9 126 (7 : Int32).toNatClampNeg = u4 → u0.toInt = u1.toInt + u2.toInt + u3.toInt + u4.toInt → dr.1 = v.toInt → dr.2 = vw hx9 → Q (some (.int v)) hx9) : ∀ (l1 : Int32) (l2 : Int32) (l3 : Int32) (g0 : Int32) (g1 : Int32) (g2 : Int32) (g3 : Int32) (g4 : Int32) (g5 : Int32) (g6 : Int32) (g7 : Int32) (g8 : Int32) (g9 : Int32) (h : jH), 0 ≤ l1.toInt ∧ l1.toInt ≤ 1 → 0 ≤ l2.toInt ∧ l2.toInt ≤ 146399 → 0 ≤ l3.toInt ∧ l3.toInt ≤ 146399 → 0 ≤ g0.toInt ∧ g0.toInt ≤ 200 → 0 ≤ g1.toInt ∧ g1.toInt ≤ 369 → 0 ≤ g2.toInt ∧ g2.toInt ≤ 29 → 0 ≤ g3.toInt ∧ g3.toInt ≤ 100 → 0 ≤ g4.toInt ∧ g4.toInt ≤ 40 → 0 ≤ g5.toInt ∧ g5.toInt ≤ 400 → 0 ≤ g6.toInt ∧ g6.toInt ≤ 3 → 0 ≤ g7.toInt ∧ g7.toInt ≤ 1 → 0 ≤ g8.toInt ∧ g8.toInt ≤ 400 → 0 ≤ g9.toInt ∧ g9.toInt ≤ 400 → jRk (jnK h) h h → g1.toInt = g0.toInt + g2.toInt + g3.toInt + g4.toInt → (g5.toInt ≤ g8.toInt ∧ g9.toInt ≤ g5.toInt) → (g6.toInt = 0 ∨ g9.toInt + 1 ≤ g5.toInt) → jiv h 126 (0 : Int32).toNatClampNeg = g0 → jiv h 126 (16 : Int32).toNatClampNeg = g1 → jiv h 126 (4 : Int32).toNatClampNeg = g2 → jiv h 126 (5 : Int32).toNatClampNeg = g3 → jiv h 126 (7 : Int32).toNatClampNeg = g4 → jiv h 125 10 = g5 → jiv h 125 11 = g6 → jiv h 125 14 = g7 → jiv h 125 8 = g8 → jiv h 125 9 = g9 → jJ jSgM Dy h → jSm fp_X12_text_r125d h0 h → d_X12_text_r125d_123  l1.toInt l2.toInt l3.toInt (vw h) = dr → jX m_X12_text 10 0 0 123 [(0, .ref 125), (1, .int l1), (2, .int l2), (3, .int l3)] [] h 0 0 Q := by
  intro l1 l2 l3 g0 g1 g2 g3 g4 g5 g6 g7 g8 g9 h y0 y1 y2 y3 y4 y5 y6 y7 y8 y9 y10 y11 y12 C0 y14 y15 y16 z0 z1 z2 z3 z4 z5 z6 z7 z8 z9  J Sm D
  unfold d_X12_text_r125d_123 at D
  try rw [vrn (n := 0) (by decide) z0] at D
  try rw [vrn (n := 16) (by decide) z1] at D
  try rw [vrn (n := 4) (by decide) z2] at D
  try rw [vrn (n := 5) (by decide) z3] at D
  try rw [vrn (n := 7) (by decide) z4] at D
  try rw [vrf z5] at D
  try rw [vrf z6] at D
  try rw [vrf z7] at D
  try rw [vrf z8] at D
  try rw [vrf z9] at D
  refine x_aloadn (x := 125) rfl rfl ?_
  refine z_getM (N := 92) (v := g7) 12 14 rfl f_12_214 rfl J rfl z7 ?_
  refine x_ifne (tgt := 142) rfl rfl (ti_ne rfl jk_0 ⟨fun c1 => ?_, fun c1 => ?_⟩)
  ·
    rw [if_neg (by omega)] at D
    exact jX.sub (jsb_c rfl (jsb_c rfl (jsb_c rfl (jsb_c rfl jsb_n)))) (ct_X12_text_r125d_142 hD hQ  l1 l2 l3 g0 g1 g2 g3 g4 g5 g6 g8 g9 h (jr_of rfl (by omega)) (jr_of rfl (by omega)) (jr_of rfl (by omega)) (jr_of rfl (by omega)) (jr_of rfl (by omega)) (jr_of rfl (by omega)) (jr_of rfl (by omega)) (jr_of rfl (by omega)) (jr_of rfl (by omega)) (jr_of rfl (by omega)) (jr_of rfl (by omega)) (jr_of rfl (by omega)) C0 (by omega) (by omega) (by omega) z0 z1 z2 z3 z4 z5 z6 z8 z9 J Sm D)
  ·
    rw [if_pos (by omega)] at D
    refine x_aloadn (x := 125) rfl rfl ?_
    refine z_getM (N := 92) (v := g6) 12 11 rfl f_12_235 rfl J rfl z6 ?_
    refine x_ifeq (tgt := 142) rfl rfl (ti_eq rfl jk_0 ⟨fun c2 => ?_, fun c2 => ?_⟩)
    ·
      rw [if_pos (by omega)] at D
      exact jX.sub (jsb_c rfl (jsb_c rfl (jsb_c rfl (jsb_c rfl jsb_n)))) (ct_X12_text_r125d_142 hD hQ  l1 l2 l3 g0 g1 g2 g3 g4 g5 g6 g8 g9 h (jr_of rfl (by omega)) (jr_of rfl (by omega)) (jr_of rfl (by omega)) (jr_of rfl (by omega)) (jr_of rfl (by omega)) (jr_of rfl (by omega)) (jr_of rfl (by omega)) (jr_of rfl (by omega)) (jr_of rfl (by omega)) (jr_of rfl (by omega)) (jr_of rfl (by omega)) (jr_of rfl (by omega)) C0 (by omega) (by omega) (by omega) z0 z1 z2 z3 z4 z5 z6 z8 z9 J Sm D)
    ·
      rw [if_neg (by omega)] at D
      refine x_aloadn (x := 125) rfl rfl ?_
      refine x_iconst (v := 0) rfl ki_0 ?_
      refine x_inv (N := m_X12_must) (As := [.int 0]) (b := 125) (st := []) (dx9 := 3) (mc := 0) (ms := 0) (host := "") 12 rfl t_X12_must ⟨Or.inl q_12_250, i_X12_must.1, i_X12_must.2⟩ ⟨by decide, rfl⟩ (congrArg Prod.fst (J.1.1 125 (12, 92) rfl)) rfl (by decide) rfl rfl ⟨by decide, by decide⟩ (sf_X12_must_r125d (jr_of jk_0 (by omega)) hD J z5 z8 z9 (by omega) z6 z9 z5 (by omega) rfl  (fun h J S3 u4 u5 u6 qu4 qu5 qu6 ru4 u7 u8 u9 qu7 qu8 qu9 ru7 P10 X11 => ?_))
      have Sm := jSm_tr rfl Sm S3
      try rw [jk_0] at X11
      rw [X11] at D
      have eu4 := (show 0 ≤ u4.toInt ∧ u4.toInt ≤ 400 from qu4 ▸ jrg_f J sg_125_10_11_1_0_1)
      try rw [vrf qu4] at D
      have eu5 := (show 0 ≤ u5.toInt ∧ u5.toInt ≤ 400 from qu5 ▸ jrg_f J sg_125_8_9_1_0_1)
      try rw [vrf (jmb_c S3 qu5 rfl)] at D
      have eu6 := (show 0 ≤ u6.toInt ∧ u6.toInt ≤ 400 from qu6 ▸ jrg_f J sg_125_9_10_1_0_1)
      try rw [vrf qu6] at D
      have eu7 := (show 0 ≤ u7.toInt ∧ u7.toInt ≤ 3 from qu7 ▸ jrg_f J sg_125_11_12_1_0_1)
      try rw [vrf qu7] at D
      obtain rfl : u6 = u8 := qu6.symm.trans qu8
      obtain rfl : u4 = u9 := qu4.symm.trans qu9
      show jX m_X12_text 10 0 0 142 [(0, .ref 125), (1, .int l1), (2, .int l2), (3, .int l3)] [] _ 0 0 _
      exact jX.sub (jsb_c rfl (jsb_c rfl (jsb_c rfl (jsb_c rfl jsb_n)))) (ct_X12_text_r125d_142 hD hQ  l1 l2 l3 g0 g1 g2 g3 g4 u4 u7 u5 u6 h (jr_of rfl (by omega)) (jr_of rfl (by omega)) (jr_of rfl (by omega)) (jr_of rfl (by omega)) (jr_of rfl (by omega)) (jr_of rfl (by omega)) (jr_of rfl (by omega)) (jr_of rfl (by omega)) (jr_of rfl (by omega)) (jr_of rfl (by omega)) (jr_of rfl (by omega)) (jr_of rfl (by omega)) (rk_h (rk_z C0 (ke_c S3 rfl rfl rfl rfl rfl P10.1))) (by omega) (by omega) (by omega) (jmc S3 rfl z0) (jmc S3 rfl z1) (jmc S3 rfl z2) (jmc S3 rfl z3) (jmc S3 rfl z4) qu4 qu7 qu5 qu6 J Sm D)
set_option maxRecDepth 100000 in
set_option maxHeartbeats 4000000 in
theorem ct_X12_text_r125d_96 {Dy : jH → Prop} {h0 : jH} {Q : Option Value → jH → Prop} {dr : (Int × jW)} (hD : jDk Dy) (hQ : ∀ (v : Int32) hx9, jJ jSgM Dy hx9 → jSm fp_X12_text_r125d h0 hx9 → ∀ u0 u1 u2 u3 u4 : Int32, jiv hx9 126 (16 : Int32).toNatClampNeg = u0 → jiv hx9 126 (0 : Int32).toNatClampNeg = u1 → jiv hx9 126 (4 : Int32).toNatClampNeg = u2 → jiv hx9 126 (5 : Int32).toNatClampNeg = u3 → jiv hx9 126 (7 : Int32).toNatClampNeg = u4 → u0.toInt = u1.toInt + u2.toInt + u3.toInt + u4.toInt → dr.1 = v.toInt → dr.2 = vw hx9 → Q (some (.int v)) hx9) : ∀ r : Nat, ∀ (l1 : Int32) (l2 : Int32) (l3 : Int32) (g0 : Int32) (g1 : Int32) (g2 : Int32) (g3 : Int32) (g4 : Int32) (g5 : Int32) (g6 : Int32) (g7 : Int32) (g8 : Int32) (h : jH), 400 - g8.toInt < (r : Int) → 0 ≤ l1.toInt ∧ l1.toInt ≤ 1 → 0 ≤ l2.toInt ∧ l2.toInt ≤ 146399 → 0 ≤ l3.toInt ∧ l3.toInt ≤ 146399 → 0 ≤ g0.toInt ∧ g0.toInt ≤ 200 → 0 ≤ g1.toInt ∧ g1.toInt ≤ 369 → 0 ≤ g2.toInt ∧ g2.toInt ≤ 29 → 0 ≤ g3.toInt ∧ g3.toInt ≤ 100 → 0 ≤ g4.toInt ∧ g4.toInt ≤ 40 → 0 ≤ g5.toInt ∧ g5.toInt ≤ 400 → 0 ≤ g6.toInt ∧ g6.toInt ≤ 3 → 0 ≤ g7.toInt ∧ g7.toInt ≤ 400 → 0 ≤ g8.toInt ∧ g8.toInt ≤ 400 → jRk (jnK h) h h → g1.toInt = g0.toInt + g2.toInt + g3.toInt + g4.toInt → (g5.toInt ≤ g7.toInt ∧ g8.toInt ≤ g5.toInt) → (g6.toInt = 0 ∨ g8.toInt + 1 ≤ g5.toInt) → jiv h 126 (0 : Int32).toNatClampNeg = g0 → jiv h 126 (16 : Int32).toNatClampNeg = g1 → jiv h 126 (4 : Int32).toNatClampNeg = g2 → jiv h 126 (5 : Int32).toNatClampNeg = g3 → jiv h 126 (7 : Int32).toNatClampNeg = g4 → jiv h 125 10 = g5 → jiv h 125 11 = g6 → jiv h 125 8 = g7 → jiv h 125 9 = g8 → jJ jSgM Dy h → jSm fp_X12_text_r125d h0 h → d_X12_text_r125d_96 r l1.toInt l2.toInt l3.toInt (vw h) = dr → jX m_X12_text 10 0 0 96 [(0, .ref 125), (1, .int l1), (2, .int l2), (3, .int l3)] [] h 0 0 Q := by
  intro r
  induction r with
  | zero =>
    intro l1 l2 l3 g0 g1 g2 g3 g4 g5 g6 g7 g8 h hm y0 y1 y2 y3 y4 y5 y6 y7 y8 y9 y10 y11 C0 y13 y14 y15 z0 z1 z2 z3 z4 z5 z6 z7 z8  J Sm D
    exfalso
    omega
  | succ r ih =>
    intro l1 l2 l3 g0 g1 g2 g3 g4 g5 g6 g7 g8 h hm y0 y1 y2 y3 y4 y5 y6 y7 y8 y9 y10 y11 C0 y13 y14 y15 z0 z1 z2 z3 z4 z5 z6 z7 z8  J Sm D
    rw [d_X12_text_r125d_96.eq_2] at D
    try rw [vrn (n := 0) (by decide) z0] at D
    try rw [vrn (n := 16) (by decide) z1] at D
    try rw [vrn (n := 4) (by decide) z2] at D
    try rw [vrn (n := 5) (by decide) z3] at D
    try rw [vrn (n := 7) (by decide) z4] at D
    try rw [vrf z5] at D
    try rw [vrf z6] at D
    try rw [vrf z7] at D
    try rw [vrf z8] at D
    refine x_aloadn (x := 125) rfl rfl ?_
    refine z_getI (N := 92) 12 14 rfl f_12_214 rfl J rfl sg_125_14_15_1_0_1 (fun v1 qv1 ev1 => ?_)
    try rw [vrf qv1] at D
    refine x_ifne (tgt := 123) rfl rfl (ti_ne rfl jk_0 ⟨fun c2 => ?_, fun c2 => ?_⟩)
    ·
      rw [if_neg (by omega)] at D
      exact jX.sub (jsb_c rfl (jsb_c rfl (jsb_c rfl (jsb_c rfl jsb_n)))) (ct_X12_text_r125d_123 hD hQ  l1 l2 l3 g0 g1 g2 g3 g4 g5 g6 v1 g7 g8 h (jr_of rfl (by omega)) (jr_of rfl (by omega)) (jr_of rfl (by omega)) (jr_of rfl (by omega)) (jr_of rfl (by omega)) (jr_of rfl (by omega)) (jr_of rfl (by omega)) (jr_of rfl (by omega)) (jr_of rfl (by omega)) (jr_of rfl (by omega)) (jr_of rfl (by omega)) (jr_of rfl (by omega)) (jr_of rfl (by omega)) C0 (by omega) (by omega) (by omega) z0 z1 z2 z3 z4 z5 z6 qv1 z7 z8 J Sm D)
    ·
      rw [if_pos (by omega)] at D
      refine x_aloadn (x := 125) rfl rfl ?_
      refine x_bipush (v := 59) rfl kb_59 ?_
      refine x_inv (N := m_X12_isSign) (As := [.int 59]) (b := 125) (st := []) (dx9 := 9) (mc := 0) (ms := 0) (host := "") 12 rfl t_X12_isSign ⟨Or.inl q_12_257, i_X12_isSign.1, i_X12_isSign.2⟩ ⟨by decide, rfl⟩ (congrArg Prod.fst (J.1.1 125 (12, 92) rfl)) rfl (by decide) rfl rfl ⟨by decide, by decide⟩ (jC.of rfl k_X12_isSign rfl ?_)
      show jX m_X12_isSign 9 0 0 0 [(0, .ref 125), (1, .int 59)] [] _ 0 0 _
      refine x_aloadn (x := 125) rfl rfl ?_
      refine z_getM (N := 92) (v := g6) 12 11 rfl f_12_235 rfl J rfl z6 ?_
      refine x_iconst (v := 3) rfl ki_3 ?_
      refine x_icne (tgt := 22) rfl rfl (ti_ne rfl jk_3 ⟨fun c3 => ?_, fun c3 => ?_⟩)
      ·
        rw [if_neg (by omega)] at D
        refine x_iconst (v := 0) rfl ki_0 ?_
        refine x_zret rfl rfl (by decide) ?_
        show jX m_X12_text 10 0 0 109 [(0, .ref 125), (1, .int l1), (2, .int l2), (3, .int l3)] [.int 0] _ 0 0 _
        refine x_ifeq (tgt := 123) rfl rfl (ti_eq jk_0 jk_0 (br_t (by omega) ?_))
        exact jX.sub (jsb_c rfl (jsb_c rfl (jsb_c rfl (jsb_c rfl jsb_n)))) (ct_X12_text_r125d_123 hD hQ  l1 l2 l3 g0 g1 g2 g3 g4 g5 g6 v1 g7 g8 h (jr_of rfl (by omega)) (jr_of rfl (by omega)) (jr_of rfl (by omega)) (jr_of rfl (by omega)) (jr_of rfl (by omega)) (jr_of rfl (by omega)) (jr_of rfl (by omega)) (jr_of rfl (by omega)) (jr_of rfl (by omega)) (jr_of rfl (by omega)) (jr_of rfl (by omega)) (jr_of rfl (by omega)) (jr_of rfl (by omega)) C0 (by omega) (by omega) (by omega) z0 z1 z2 z3 z4 z5 z6 qv1 z7 z8 J Sm D)
      ·
        rw [if_pos (by omega)] at D
        refine x_aloadn (x := 125) rfl rfl ?_
        refine z_getLQ (N := 92) 12 12 rfl f_12_224 rfl J rfl (fun v4 qv4 => ?_)
        have ev4 := jfullL v4
        try rw [vrfL qv4] at D
        refine x_iloadn (x := 59) rfl rfl ?_
        refine z_i2l rfl jk_59 (fun v5 ev5 => ?_)
        refine z_lcmp rfl rfl rfl (fun v6 ev6 => ?_)
        refine x_ifne (tgt := 22) rfl rfl (ti_ne rfl jk_0 ⟨fun c7 => ?_, fun c7 => ?_⟩)
        ·
          rw [if_neg (by omega)] at D
          refine x_iconst (v := 0) rfl ki_0 ?_
          refine x_zret rfl rfl (by decide) ?_
          show jX m_X12_text 10 0 0 109 [(0, .ref 125), (1, .int l1), (2, .int l2), (3, .int l3)] [.int 0] _ 0 0 _
          refine x_ifeq (tgt := 123) rfl rfl (ti_eq jk_0 jk_0 (br_t (by omega) ?_))
          exact jX.sub (jsb_c rfl (jsb_c rfl (jsb_c rfl (jsb_c rfl jsb_n)))) (ct_X12_text_r125d_123 hD hQ  l1 l2 l3 g0 g1 g2 g3 g4 g5 g6 v1 g7 g8 h (jr_of rfl (by omega)) (jr_of rfl (by omega)) (jr_of rfl (by omega)) (jr_of rfl (by omega)) (jr_of rfl (by omega)) (jr_of rfl (by omega)) (jr_of rfl (by omega)) (jr_of rfl (by omega)) (jr_of rfl (by omega)) (jr_of rfl (by omega)) (jr_of rfl (by omega)) (jr_of rfl (by omega)) (jr_of rfl (by omega)) C0 (by omega) (by omega) (by omega) z0 z1 z2 z3 z4 z5 z6 qv1 z7 z8 J Sm D)
        ·
          rw [if_pos (by omega)] at D
          refine x_iconst (v := 1) rfl ki_1 ?_
          refine x_goto (tgt := 23) rfl rfl ?_
          refine x_zret rfl rfl (by decide) ?_
          show jX m_X12_text 10 0 0 109 [(0, .ref 125), (1, .int l1), (2, .int l2), (3, .int l3)] [.int 1] _ 0 0 _
          refine x_ifeq (tgt := 123) rfl rfl (ti_eq jk_1 jk_0 (br_f (by omega) ?_))
          refine x_aloadn (x := 125) rfl rfl ?_
          refine x_inv (N := m_X12_next) (As := []) (b := 125) (st := []) (dx9 := 2) (mc := 0) (ms := 0) (host := "") 12 rfl t_X12_next ⟨Or.inl q_12_218, i_X12_next.1, i_X12_next.2⟩ ⟨by decide, rfl⟩ (congrArg Prod.fst (J.1.1 125 (12, 92) rfl)) rfl (by decide) rfl rfl ⟨by decide, by decide⟩ (sf_X12_next_r125d  hD J z5 z7 (by omega) rfl  (fun h J S8 u9 u10 u11 qu9 qu10 qu11 ru9 u12 u13 u14 qu12 qu13 qu14 ru12 P15 X16 => ?_))
          have Sm := jSm_tr rfl Sm S8
          rw [X16] at D
          have eu9 := (show 0 ≤ u9.toInt ∧ u9.toInt ≤ 400 from qu9 ▸ jrg_f J sg_125_10_11_1_0_1)
          try rw [vrf qu9] at D
          have eu10 := (show 0 ≤ u10.toInt ∧ u10.toInt ≤ 400 from qu10 ▸ jrg_f J sg_125_8_9_1_0_1)
          try rw [vrf (jmb_c S8 qu10 rfl)] at D
          have eu11 := (show 0 ≤ u11.toInt ∧ u11.toInt ≤ 400 from qu11 ▸ jrg_f J sg_125_9_10_1_0_1)
          try rw [vrf qu11] at D
          have eu12 := (show 0 ≤ u12.toInt ∧ u12.toInt ≤ 3 from qu12 ▸ jrg_f J sg_125_11_12_1_0_1)
          try rw [vrf qu12] at D
          obtain rfl : u11 = u13 := qu11.symm.trans qu13
          obtain rfl : u9 = u14 := qu9.symm.trans qu14
          have nfP15 := jnf P15.1 z5 qu11
          show jX m_X12_text 10 0 0 116 [(0, .ref 125), (1, .int l1), (2, .int l2), (3, .int l3)] [] _ 0 0 _
          refine x_aloadn (x := 125) rfl rfl ?_
          refine x_inv (N := m_X12_readClause) (As := []) (b := 125) (st := []) (dx9 := 9) (mc := 0) (ms := 0) (host := "") 12 rfl t_X12_readClause ⟨Or.inl q_12_673, i_X12_readClause.1, i_X12_readClause.2⟩ ⟨by decide, rfl⟩ (congrArg Prod.fst (J.1.1 125 (12, 92) rfl)) rfl (by decide) rfl rfl ⟨by decide, by decide⟩ (sf_X12_readClause_r125d  (rk_h (rk_z C0 (ke_f S8 rfl rfl rfl rfl rfl rfl z8 qu11 (by omega)))) hD J qu9 qu10 qu11 (by omega) qu12 qu11 qu9 (by omega) rfl  (fun h J S17 u18 u19 u20 qu18 qu19 qu20 ru18 u21 u22 u23 qu21 qu22 qu23 ru21 P24 X25 => ?_))
          have Sm := jSm_tr rfl Sm S17
          rw [X25] at D
          have eu18 := (show 0 ≤ u18.toInt ∧ u18.toInt ≤ 400 from qu18 ▸ jrg_f J sg_125_10_11_1_0_1)
          try rw [vrf qu18] at D
          have eu19 := (show 0 ≤ u19.toInt ∧ u19.toInt ≤ 400 from qu19 ▸ jrg_f J sg_125_8_9_1_0_1)
          try rw [show u10.toInt = u19.toInt from ((vrf (jmb_c S8 qu10 rfl)).symm.trans (vrf (jmb_c S8 (jmb_c S17 qu19 rfl) rfl)))] at D
          try rw [vrf (jmb_c S8 (jmb_c S17 qu19 rfl) rfl)] at D
          have eu20 := (show 0 ≤ u20.toInt ∧ u20.toInt ≤ 400 from qu20 ▸ jrg_f J sg_125_9_10_1_0_1)
          try rw [vrf qu20] at D
          have eu21 := (show 0 ≤ u21.toInt ∧ u21.toInt ≤ 3 from qu21 ▸ jrg_f J sg_125_11_12_1_0_1)
          try rw [vrf qu21] at D
          obtain rfl : u20 = u22 := qu20.symm.trans qu22
          obtain rfl : u18 = u23 := qu18.symm.trans qu23
          have nkP24 := rk_f P24 qu11 qu20
          show jX m_X12_text 10 0 0 120 [(0, .ref 125), (1, .int l1), (2, .int l2), (3, .int l3)] [] _ 0 0 _
          refine x_goto (tgt := 96) rfl rfl ?_
          exact jX.sub (jsb_c rfl (jsb_c rfl (jsb_c rfl (jsb_c rfl jsb_n)))) (ih l1 l2 l3 g0 g1 g2 g3 g4 u18 u21 u19 u20 h (by omega) (jr_of rfl (by omega)) (jr_of rfl (by omega)) (jr_of rfl (by omega)) (jr_of rfl (by omega)) (jr_of rfl (by omega)) (jr_of rfl (by omega)) (jr_of rfl (by omega)) (jr_of rfl (by omega)) (jr_of rfl (by omega)) (jr_of rfl (by omega)) (jr_of rfl (by omega)) (jr_of rfl (by omega)) (rk_h P24) (by omega) (by omega) (by omega) (jmc S17 rfl (jmc S8 rfl z0)) (jmc S17 rfl (jmc S8 rfl z1)) (jmc S17 rfl (jmc S8 rfl z2)) (jmc S17 rfl (jmc S8 rfl z3)) (jmc S17 rfl (jmc S8 rfl z4)) qu18 qu21 qu19 qu20 J Sm D)
set_option maxRecDepth 100000 in
set_option maxHeartbeats 4000000 in
theorem ct_X12_text_r125d_300034 {Dy : jH → Prop} {h0 : jH} {Q : Option Value → jH → Prop} {dr : (Int × jW)} (hD : jDk Dy) (hQ : ∀ (v : Int32) hx9, jJ jSgM Dy hx9 → jSm fp_X12_text_r125d h0 hx9 → ∀ u0 u1 u2 u3 u4 : Int32, jiv hx9 126 (16 : Int32).toNatClampNeg = u0 → jiv hx9 126 (0 : Int32).toNatClampNeg = u1 → jiv hx9 126 (4 : Int32).toNatClampNeg = u2 → jiv hx9 126 (5 : Int32).toNatClampNeg = u3 → jiv hx9 126 (7 : Int32).toNatClampNeg = u4 → u0.toInt = u1.toInt + u2.toInt + u3.toInt + u4.toInt → dr.1 = v.toInt → dr.2 = vw hx9 → Q (some (.int v)) hx9) : ∀ (l1 : Int32) (l2 : Int32) (l3 : Int32) (g0 : Int32) (g1 : Int32) (g2 : Int32) (g3 : Int32) (g4 : Int32) (g5 : Int32) (g6 : Int32) (g7 : Int32) (g8 : Int32) (h : jH), 0 ≤ l1.toInt ∧ l1.toInt ≤ 1 → 0 ≤ l2.toInt ∧ l2.toInt ≤ 146399 → 0 ≤ l3.toInt ∧ l3.toInt ≤ 146399 → 0 ≤ g0.toInt ∧ g0.toInt ≤ 200 → 0 ≤ g1.toInt ∧ g1.toInt ≤ 370 → 0 ≤ g2.toInt ∧ g2.toInt ≤ 30 → 0 ≤ g3.toInt ∧ g3.toInt ≤ 100 → 0 ≤ g4.toInt ∧ g4.toInt ≤ 40 → 0 ≤ g5.toInt ∧ g5.toInt ≤ 400 → 0 ≤ g6.toInt ∧ g6.toInt ≤ 3 → 0 ≤ g7.toInt ∧ g7.toInt ≤ 400 → 0 ≤ g8.toInt ∧ g8.toInt ≤ 400 → g1.toInt = g0.toInt + g2.toInt + g3.toInt + g4.toInt → jiv h 126 (0 : Int32).toNatClampNeg = g0 → jiv h 126 (16 : Int32).toNatClampNeg = g1 → jiv h 126 (4 : Int32).toNatClampNeg = g2 → jiv h 126 (5 : Int32).toNatClampNeg = g3 → jiv h 126 (7 : Int32).toNatClampNeg = g4 → jiv h 125 10 = g5 → jiv h 125 11 = g6 → jiv h 125 8 = g7 → jiv h 125 9 = g8 → jJ jSgM Dy h → jSm fp_X12_text_r125d h0 h → d_X12_text_r125d_300034  l1.toInt l2.toInt l3.toInt (vw h) = dr → jX m_X12_text 10 0 0 34 [(0, .ref 125), (1, .int l1), (2, .int l2), (3, .int l3)] [.int 1] h 0 0 Q := by
  intro l1 l2 l3 g0 g1 g2 g3 g4 g5 g6 g7 g8 h y0 y1 y2 y3 y4 y5 y6 y7 y8 y9 y10 y11 y12 z0 z1 z2 z3 z4 z5 z6 z7 z8  J Sm D
  unfold d_X12_text_r125d_300034 at D
  try rw [vrn (n := 0) (by decide) z0] at D
  try rw [vrn (n := 16) (by decide) z1] at D
  try rw [vrn (n := 4) (by decide) z2] at D
  try rw [vrn (n := 5) (by decide) z3] at D
  try rw [vrn (n := 7) (by decide) z4] at D
  try rw [vrf z5] at D
  try rw [vrf z6] at D
  try rw [vrf z7] at D
  try rw [vrf z8] at D
  refine x_istore (lsx9 := [(4, .int 1), (0, .ref 125), (1, .int l1), (2, .int l2), (3, .int l3)]) rfl rfl rfl ?_
  refine x_iload (x := 1) rfl rfl ?_
  refine x_ifeq (tgt := 52) rfl rfl (ti_eq jk_1 jk_0 (br_f (by omega) ?_))
  refine x_aloadn (x := 125) rfl rfl ?_
  refine z_getR (N := 92) (b := 126) 12 2 rfl f_12_8 rfl J rfl 16002 ⟨rfl, rfl⟩ rfl ?_
  refine x_iconst (v := 4) rfl ki_4 ?_
  refine z_ialdM (N := 50660) (v := g2) rfl J rfl jk_4 (by omega) z2 ?_
  refine x_bipush (v := 30) rfl kb_30 ?_
  refine x_icne (tgt := 73) rfl rfl (ti_ne rfl jk_30 ⟨fun c1 => ?_, fun c1 => ?_⟩)
  ·
    rw [if_neg (by omega)] at D
    refine x_aloadn (x := 125) rfl rfl ?_
    refine x_inv (N := m_X12_begin) (As := []) (b := 125) (st := []) (dx9 := 9) (mc := 0) (ms := 0) (host := "") 12 rfl t_X12_begin ⟨Or.inl q_12_280, i_X12_begin.1, i_X12_begin.2⟩ ⟨by decide, rfl⟩ (congrArg Prod.fst (J.1.1 125 (12, 92) rfl)) rfl (by decide) rfl rfl ⟨by decide, by decide⟩ (jC.of rfl k_X12_begin rfl ?_)
    show jX m_X12_begin 9 0 0 0 [(0, .ref 125)] [] _ 0 0 _
    refine x_aloadn (x := 125) rfl rfl ?_
    refine x_iconst (v := 0) rfl ki_0 ?_
    refine z_putI (N := 92) (w := 0) 12 10 rfl f_12_211 rfl (jfin_no TX12 RX12 92 rfl rfl) hD J Sm rfl rfl jk_0 (pw_125_10 (by omega)) rfl (fun h w2 J Sm => ?_)
    rw [vwf w2 (show 0 = (0 : Int32).toInt from by have := jk_0; omega)] at D
    refine x_aloadn (x := 125) rfl rfl ?_
    refine x_iconst (v := 0) rfl ki_0 ?_
    refine z_putZ (N := 92) (w := 0) 12 14 rfl f_12_214 rfl (jfin_no TX12 RX12 92 rfl rfl) hD J Sm rfl rfl jk_0 (by omega) (pw_125_14 (by omega)) rfl (fun h w3 J Sm => ?_)
    rw [vwf w3 (show 0 = (0 : Int32).toInt from by have := jk_0; omega)] at D
    refine x_aloadn (x := 125) rfl rfl ?_
    refine x_iconst (v := (-1)) rfl ki_m1 ?_
    refine z_putI (N := 92) (w := (-1)) 12 13 rfl f_12_32 rfl (jfin_no TX12 RX12 92 rfl rfl) hD J Sm rfl rfl jk_m1 (pw_125_13 (by omega)) rfl (fun h w4 J Sm => ?_)
    rw [vwf w4 (show (-1) = ((-1) : Int32).toInt from by have := jk_m1; omega)] at D
    refine x_aloadn (x := 125) rfl rfl ?_
    refine x_inv (N := m_X12_next) (As := []) (b := 125) (st := []) (dx9 := 2) (mc := 0) (ms := 0) (host := "") 12 rfl t_X12_next ⟨Or.inl q_12_218, i_X12_next.1, i_X12_next.2⟩ ⟨by decide, rfl⟩ (congrArg Prod.fst (J.1.1 125 (12, 92) rfl)) rfl (by decide) rfl rfl ⟨by decide, by decide⟩ (sf_X12_next_r125d  hD J (jmo w4 rfl (jmo w3 rfl (jmw w2))) (jmo w4 rfl (jmo w3 rfl (jmo w2 rfl z7))) (by have := jk_0; omega) rfl  (fun h J S5 u6 u7 u8 qu6 qu7 qu8 ru6 u9 u10 u11 qu9 qu10 qu11 ru9 P12 X13 => ?_))
    have Sm := jSm_tr rfl Sm S5
    rw [X13] at D
    have eu6 := (show 0 ≤ u6.toInt ∧ u6.toInt ≤ 400 from qu6 ▸ jrg_f J sg_125_10_11_1_0_1)
    try rw [vrf qu6] at D
    have eu7 := (show 0 ≤ u7.toInt ∧ u7.toInt ≤ 400 from qu7 ▸ jrg_f J sg_125_8_9_1_0_1)
    try rw [vrf (jmb_w w2 (jmb_w w3 (jmb_w w4 (jmb_c S5 qu7 rfl) rfl) rfl) rfl)] at D
    have eu8 := (show 0 ≤ u8.toInt ∧ u8.toInt ≤ 400 from qu8 ▸ jrg_f J sg_125_9_10_1_0_1)
    try rw [vrf qu8] at D
    have eu9 := (show 0 ≤ u9.toInt ∧ u9.toInt ≤ 3 from qu9 ▸ jrg_f J sg_125_11_12_1_0_1)
    try rw [vrf qu9] at D
    obtain rfl : u8 = u10 := qu8.symm.trans qu10
    obtain rfl : u6 = u11 := qu6.symm.trans qu11
    have nfP12 := jnf P12.1 (jmo w4 rfl (jmo w3 rfl (jmw w2))) qu8
    show jX m_X12_begin 9 0 0 19 [(0, .ref 125)] [] _ 0 0 _
    refine x_vret rfl rfl ?_
    show jX m_X12_text 10 0 0 77 [(4, .int 1), (0, .ref 125), (1, .int l1), (2, .int l2), (3, .int l3)] [] _ 0 0 _
    refine x_aloadn (x := 125) rfl rfl ?_
    refine x_iconst (v := 0) rfl ki_0 ?_
    refine z_putI (N := 92) (w := 0) 12 47 rfl f_12_636 rfl (jfin_no TX12 RX12 92 rfl rfl) hD J Sm rfl rfl jk_0 (pw_125_47 (by omega)) rfl (fun h w14 J Sm => ?_)
    rw [vwf w14 (show 0 = (0 : Int32).toInt from by have := jk_0; omega)] at D
    refine x_aloadn (x := 125) rfl rfl ?_
    refine x_iconst (v := 0) rfl ki_0 ?_
    refine z_putI (N := 92) (w := 0) 12 49 rfl f_12_493 rfl (jfin_no TX12 RX12 92 rfl rfl) hD J Sm rfl rfl jk_0 (pw_125_49 (by omega)) rfl (fun h w15 J Sm => ?_)
    rw [vwf w15 (show 0 = (0 : Int32).toInt from by have := jk_0; omega)] at D
    refine x_aloadn (x := 125) rfl rfl ?_
    refine x_iconst (v := 0) rfl ki_0 ?_
    refine z_putI (N := 92) (w := 0) 12 52 rfl f_12_542 rfl (jfin_no TX12 RX12 92 rfl rfl) hD J Sm rfl rfl jk_0 (pw_125_52 (by omega)) rfl (fun h w16 J Sm => ?_)
    rw [vwf w16 (show 0 = (0 : Int32).toInt from by have := jk_0; omega)] at D
    refine x_aloadn (x := 125) rfl rfl ?_
    refine x_inv (N := m_X12_readClause) (As := []) (b := 125) (st := []) (dx9 := 9) (mc := 0) (ms := 0) (host := "") 12 rfl t_X12_readClause ⟨Or.inl q_12_673, i_X12_readClause.1, i_X12_readClause.2⟩ ⟨by decide, rfl⟩ (congrArg Prod.fst (J.1.1 125 (12, 92) rfl)) rfl (by decide) rfl rfl ⟨by decide, by decide⟩ (sf_X12_readClause_r125d  (rk_0 (jmo w16 rfl (jmo w15 rfl (jmw w14))) (jmo w16 rfl (jmw w15)) (jmo w16 rfl (jmo w15 rfl (jmo w14 rfl qu8))) (by omega)) hD J (jmo w16 rfl (jmo w15 rfl (jmo w14 rfl qu6))) (jmo w16 rfl (jmo w15 rfl (jmo w14 rfl qu7))) (jmo w16 rfl (jmo w15 rfl (jmo w14 rfl qu8))) (by omega) (jmo w16 rfl (jmo w15 rfl (jmo w14 rfl qu9))) (jmo w16 rfl (jmo w15 rfl (jmo w14 rfl qu8))) (jmo w16 rfl (jmo w15 rfl (jmo w14 rfl qu6))) (by omega) rfl  (fun h J S17 u18 u19 u20 qu18 qu19 qu20 ru18 u21 u22 u23 qu21 qu22 qu23 ru21 P24 X25 => ?_))
    have Sm := jSm_tr rfl Sm S17
    rw [X25] at D
    have eu18 := (show 0 ≤ u18.toInt ∧ u18.toInt ≤ 400 from qu18 ▸ jrg_f J sg_125_10_11_1_0_1)
    try rw [vrf qu18] at D
    have eu19 := (show 0 ≤ u19.toInt ∧ u19.toInt ≤ 400 from qu19 ▸ jrg_f J sg_125_8_9_1_0_1)
    try rw [show u7.toInt = u19.toInt from ((vrf (jmb_w w2 (jmb_w w3 (jmb_w w4 (jmb_c S5 qu7 rfl) rfl) rfl) rfl)).symm.trans (vrf (jmb_w w2 (jmb_w w3 (jmb_w w4 (jmb_c S5 (jmb_w w14 (jmb_w w15 (jmb_w w16 (jmb_c S17 qu19 rfl) rfl) rfl) rfl) rfl) rfl) rfl) rfl)))] at D
    try rw [vrf (jmb_w w2 (jmb_w w3 (jmb_w w4 (jmb_c S5 (jmb_w w14 (jmb_w w15 (jmb_w w16 (jmb_c S17 qu19 rfl) rfl) rfl) rfl) rfl) rfl) rfl) rfl)] at D
    have eu20 := (show 0 ≤ u20.toInt ∧ u20.toInt ≤ 400 from qu20 ▸ jrg_f J sg_125_9_10_1_0_1)
    try rw [vrf qu20] at D
    have eu21 := (show 0 ≤ u21.toInt ∧ u21.toInt ≤ 3 from qu21 ▸ jrg_f J sg_125_11_12_1_0_1)
    try rw [vrf qu21] at D
    obtain rfl : u20 = u22 := qu20.symm.trans qu22
    obtain rfl : u18 = u23 := qu18.symm.trans qu23
    have nkP24 := rk_f P24 (jmo w16 rfl (jmo w15 rfl (jmo w14 rfl qu8))) qu20
    show jX m_X12_text 10 0 0 96 [(4, .int 1), (0, .ref 125), (1, .int l1), (2, .int l2), (3, .int l3)] [] _ 0 0 _
    exact jX.sub (jsb_c rfl (jsb_c rfl (jsb_c rfl (jsb_c rfl jsb_n)))) (ct_X12_text_r125d_96 hD hQ  401 l1 l2 l3 g0 g1 g2 g3 g4 u18 u21 u19 u20 h (by omega) (jr_of rfl (by omega)) (jr_of rfl (by omega)) (jr_of rfl (by omega)) (jr_of rfl (by omega)) (jr_of rfl (by omega)) (jr_of rfl (by omega)) (jr_of rfl (by omega)) (jr_of rfl (by omega)) (jr_of rfl (by omega)) (jr_of rfl (by omega)) (jr_of rfl (by omega)) (jr_of rfl (by omega)) (rk_h P24) (by omega) (by omega) (by omega) (jmc S17 rfl (jmo w16 rfl (jmo w15 rfl (jmo w14 rfl (jmc S5 rfl (jmo w4 rfl (jmo w3 rfl (jmo w2 rfl z0)))))))) (jmc S17 rfl (jmo w16 rfl (jmo w15 rfl (jmo w14 rfl (jmc S5 rfl (jmo w4 rfl (jmo w3 rfl (jmo w2 rfl z1)))))))) (jmc S17 rfl (jmo w16 rfl (jmo w15 rfl (jmo w14 rfl (jmc S5 rfl (jmo w4 rfl (jmo w3 rfl (jmo w2 rfl z2)))))))) (jmc S17 rfl (jmo w16 rfl (jmo w15 rfl (jmo w14 rfl (jmc S5 rfl (jmo w4 rfl (jmo w3 rfl (jmo w2 rfl z3)))))))) (jmc S17 rfl (jmo w16 rfl (jmo w15 rfl (jmo w14 rfl (jmc S5 rfl (jmo w4 rfl (jmo w3 rfl (jmo w2 rfl z4)))))))) qu18 qu21 qu19 qu20 J Sm D)
  ·
    rw [if_pos (by omega)] at D
    exact jX.sub (jsb_c rfl (jsb_c rfl jsb_n)) (ct_X12_text_r125d_52 hD hQ  1 g0 g1 g2 g3 g4 g5 g6 g7 g8 h (jr_of jk_1 (by omega)) (jr_of rfl (by omega)) (jr_of rfl (by omega)) (jr_of rfl (by omega)) (jr_of rfl (by omega)) (jr_of rfl (by omega)) (jr_of rfl (by omega)) (jr_of rfl (by omega)) (jr_of rfl (by omega)) (jr_of rfl (by omega)) (by omega) z0 z1 z2 z3 z4 z5 z6 z7 z8 J Sm (by rw [jk_1]; exact D))
set_option maxRecDepth 100000 in
set_option maxHeartbeats 4000000 in
theorem ct_X12_text_r125d_200034 {Dy : jH → Prop} {h0 : jH} {Q : Option Value → jH → Prop} {dr : (Int × jW)} (hD : jDk Dy) (hQ : ∀ (v : Int32) hx9, jJ jSgM Dy hx9 → jSm fp_X12_text_r125d h0 hx9 → ∀ u0 u1 u2 u3 u4 : Int32, jiv hx9 126 (16 : Int32).toNatClampNeg = u0 → jiv hx9 126 (0 : Int32).toNatClampNeg = u1 → jiv hx9 126 (4 : Int32).toNatClampNeg = u2 → jiv hx9 126 (5 : Int32).toNatClampNeg = u3 → jiv hx9 126 (7 : Int32).toNatClampNeg = u4 → u0.toInt = u1.toInt + u2.toInt + u3.toInt + u4.toInt → dr.1 = v.toInt → dr.2 = vw hx9 → Q (some (.int v)) hx9) : ∀ (l1 : Int32) (l2 : Int32) (l3 : Int32) (g0 : Int32) (g1 : Int32) (g2 : Int32) (g3 : Int32) (g4 : Int32) (g5 : Int32) (g6 : Int32) (g7 : Int32) (g8 : Int32) (h : jH), 0 ≤ g0.toInt ∧ g0.toInt ≤ 200 → 0 ≤ g1.toInt ∧ g1.toInt ≤ 370 → 0 ≤ g2.toInt ∧ g2.toInt ≤ 30 → 0 ≤ g3.toInt ∧ g3.toInt ≤ 100 → 0 ≤ g4.toInt ∧ g4.toInt ≤ 40 → 0 ≤ g5.toInt ∧ g5.toInt ≤ 400 → 0 ≤ g6.toInt ∧ g6.toInt ≤ 3 → 0 ≤ g7.toInt ∧ g7.toInt ≤ 400 → 0 ≤ g8.toInt ∧ g8.toInt ≤ 400 → g1.toInt = g0.toInt + g2.toInt + g3.toInt + g4.toInt → jiv h 126 (0 : Int32).toNatClampNeg = g0 → jiv h 126 (16 : Int32).toNatClampNeg = g1 → jiv h 126 (4 : Int32).toNatClampNeg = g2 → jiv h 126 (5 : Int32).toNatClampNeg = g3 → jiv h 126 (7 : Int32).toNatClampNeg = g4 → jiv h 125 10 = g5 → jiv h 125 11 = g6 → jiv h 125 8 = g7 → jiv h 125 9 = g8 → jJ jSgM Dy h → jSm fp_X12_text_r125d h0 h → d_X12_text_r125d_200034  l1.toInt l2.toInt l3.toInt (vw h) = dr → jX m_X12_text 10 0 0 34 [(0, .ref 125), (1, .int l1), (2, .int l2), (3, .int l3)] [.int 0] h 0 0 Q := by
  intro l1 l2 l3 g0 g1 g2 g3 g4 g5 g6 g7 g8 h y0 y1 y2 y3 y4 y5 y6 y7 y8 y9 z0 z1 z2 z3 z4 z5 z6 z7 z8  J Sm D
  have el1 := jfull l1
  have el2 := jfull l2
  have el3 := jfull l3
  unfold d_X12_text_r125d_200034 at D
  try rw [vrn (n := 0) (by decide) z0] at D
  try rw [vrn (n := 16) (by decide) z1] at D
  try rw [vrn (n := 4) (by decide) z2] at D
  try rw [vrn (n := 5) (by decide) z3] at D
  try rw [vrn (n := 7) (by decide) z4] at D
  try rw [vrf z5] at D
  try rw [vrf z6] at D
  try rw [vrf z7] at D
  try rw [vrf z8] at D
  refine x_istore (lsx9 := [(4, .int 0), (0, .ref 125), (1, .int l1), (2, .int l2), (3, .int l3)]) rfl rfl rfl ?_
  refine x_iload (x := 0) rfl rfl ?_
  refine x_ifeq (tgt := 52) rfl rfl (ti_eq jk_0 jk_0 (br_t (by omega) ?_))
  exact jX.sub (jsb_c rfl (jsb_c rfl jsb_n)) (ct_X12_text_r125d_52 hD hQ  0 g0 g1 g2 g3 g4 g5 g6 g7 g8 h (jr_of jk_0 (by omega)) (jr_of rfl (by omega)) (jr_of rfl (by omega)) (jr_of rfl (by omega)) (jr_of rfl (by omega)) (jr_of rfl (by omega)) (jr_of rfl (by omega)) (jr_of rfl (by omega)) (jr_of rfl (by omega)) (jr_of rfl (by omega)) (by omega) z0 z1 z2 z3 z4 z5 z6 z7 z8 J Sm (by rw [jk_0]; exact D))
set_option maxRecDepth 100000 in
set_option maxHeartbeats 4000000 in
theorem ct_X12_text_r125d_33 {Dy : jH → Prop} {h0 : jH} {Q : Option Value → jH → Prop} {dr : (Int × jW)} (hD : jDk Dy) (hQ : ∀ (v : Int32) hx9, jJ jSgM Dy hx9 → jSm fp_X12_text_r125d h0 hx9 → ∀ u0 u1 u2 u3 u4 : Int32, jiv hx9 126 (16 : Int32).toNatClampNeg = u0 → jiv hx9 126 (0 : Int32).toNatClampNeg = u1 → jiv hx9 126 (4 : Int32).toNatClampNeg = u2 → jiv hx9 126 (5 : Int32).toNatClampNeg = u3 → jiv hx9 126 (7 : Int32).toNatClampNeg = u4 → u0.toInt = u1.toInt + u2.toInt + u3.toInt + u4.toInt → dr.1 = v.toInt → dr.2 = vw hx9 → Q (some (.int v)) hx9) : ∀ (l1 : Int32) (l2 : Int32) (l3 : Int32) (g0 : Int32) (g1 : Int32) (g2 : Int32) (g3 : Int32) (g4 : Int32) (g5 : Int32) (g6 : Int32) (g7 : Int32) (g8 : Int32) (h : jH), 0 ≤ g0.toInt ∧ g0.toInt ≤ 200 → 0 ≤ g1.toInt ∧ g1.toInt ≤ 370 → 0 ≤ g2.toInt ∧ g2.toInt ≤ 30 → 0 ≤ g3.toInt ∧ g3.toInt ≤ 100 → 0 ≤ g4.toInt ∧ g4.toInt ≤ 40 → 0 ≤ g5.toInt ∧ g5.toInt ≤ 400 → 0 ≤ g6.toInt ∧ g6.toInt ≤ 3 → 0 ≤ g7.toInt ∧ g7.toInt ≤ 400 → 0 ≤ g8.toInt ∧ g8.toInt ≤ 400 → g1.toInt = g0.toInt + g2.toInt + g3.toInt + g4.toInt → jiv h 126 (0 : Int32).toNatClampNeg = g0 → jiv h 126 (16 : Int32).toNatClampNeg = g1 → jiv h 126 (4 : Int32).toNatClampNeg = g2 → jiv h 126 (5 : Int32).toNatClampNeg = g3 → jiv h 126 (7 : Int32).toNatClampNeg = g4 → jiv h 125 10 = g5 → jiv h 125 11 = g6 → jiv h 125 8 = g7 → jiv h 125 9 = g8 → jJ jSgM Dy h → jSm fp_X12_text_r125d h0 h → d_X12_text_r125d_33  l1.toInt l2.toInt l3.toInt (vw h) = dr → jX m_X12_text 10 0 0 33 [(0, .ref 125), (1, .int l1), (2, .int l2), (3, .int l3)] [] h 0 0 Q := by
  intro l1 l2 l3 g0 g1 g2 g3 g4 g5 g6 g7 g8 h y0 y1 y2 y3 y4 y5 y6 y7 y8 y9 z0 z1 z2 z3 z4 z5 z6 z7 z8  J Sm D
  have el1 := jfull l1
  have el2 := jfull l2
  have el3 := jfull l3
  unfold d_X12_text_r125d_33 at D
  try rw [vrn (n := 0) (by decide) z0] at D
  try rw [vrn (n := 16) (by decide) z1] at D
  try rw [vrn (n := 4) (by decide) z2] at D
  try rw [vrn (n := 5) (by decide) z3] at D
  try rw [vrn (n := 7) (by decide) z4] at D
  try rw [vrf z5] at D
  try rw [vrf z6] at D
  try rw [vrf z7] at D
  try rw [vrf z8] at D
  refine x_iconst (v := 0) rfl ki_0 ?_
  exact jX.sub (jsb_c rfl (jsb_c rfl (jsb_c rfl (jsb_c rfl jsb_n)))) (ct_X12_text_r125d_200034 hD hQ  l1 l2 l3 g0 g1 g2 g3 g4 g5 g6 g7 g8 h (jr_of rfl (by omega)) (jr_of rfl (by omega)) (jr_of rfl (by omega)) (jr_of rfl (by omega)) (jr_of rfl (by omega)) (jr_of rfl (by omega)) (jr_of rfl (by omega)) (jr_of rfl (by omega)) (jr_of rfl (by omega)) (by omega) z0 z1 z2 z3 z4 z5 z6 z7 z8 J Sm D)
set_option maxRecDepth 100000 in
set_option maxHeartbeats 4000000 in
theorem sf_X12_text_r125d {Dy : jH → Prop} {h : jH} {Q : Option Value → jH → Prop} {dr : (Int × jW)} {a1 : Int32} {a2 : Int32} {a3 : Int32} (hD : jDk Dy) (J : jJ jSgM Dy h) {p0 p1 p2 p3 p4 : Int32} (zp0 : jiv h 126 (16 : Int32).toNatClampNeg = p0) (zp1 : jiv h 126 (0 : Int32).toNatClampNeg = p1) (zp2 : jiv h 126 (4 : Int32).toNatClampNeg = p2) (zp3 : jiv h 126 (5 : Int32).toNatClampNeg = p3) (zp4 : jiv h 126 (7 : Int32).toNatClampNeg = p4) (rl_p0 : p0.toInt = p1.toInt + p2.toInt + p3.toInt + p4.toInt) (D : d_X12_text_r125d a1.toInt a2.toInt a3.toInt (vw h) = dr) (hQ : ∀ (v : Int32) hx9, jJ jSgM Dy hx9 → jSm fp_X12_text_r125d h hx9 → ∀ u0 u1 u2 u3 u4 : Int32, jiv hx9 126 (16 : Int32).toNatClampNeg = u0 → jiv hx9 126 (0 : Int32).toNatClampNeg = u1 → jiv hx9 126 (4 : Int32).toNatClampNeg = u2 → jiv hx9 126 (5 : Int32).toNatClampNeg = u3 → jiv hx9 126 (7 : Int32).toNatClampNeg = u4 → u0.toInt = u1.toInt + u2.toInt + u3.toInt + u4.toInt → dr.1 = v.toInt → dr.2 = vw hx9 → Q (some (.int v)) hx9) : jC m_X12_text 10 0 0 [.ref 125, .int a1, .int a2, .int a3] h Q := by
  refine jC.of rfl k_X12_text rfl ?_
  have Sm := jSm_rf fp_X12_text_r125d h
  have ep0 := (show 0 ≤ p0.toInt ∧ p0.toInt ≤ 370 from zp0 ▸ jrg_c J sg_126_16_17_1_0_1 jk_16 (by omega))
  have ep1 := (show 0 ≤ p1.toInt ∧ p1.toInt ≤ 200 from zp1 ▸ jrg_c J sg_126_0_1_1_0_1 jk_0 (by omega))
  have ep2 := (show 0 ≤ p2.toInt ∧ p2.toInt ≤ 30 from zp2 ▸ jrg_c J sg_126_4_5_1_0_1 jk_4 (by omega))
  have ep3 := (show 0 ≤ p3.toInt ∧ p3.toInt ≤ 100 from zp3 ▸ jrg_c J sg_126_5_6_1_0_1 jk_5 (by omega))
  have ep4 := (show 0 ≤ p4.toInt ∧ p4.toInt ≤ 40 from zp4 ▸ jrg_c J sg_126_7_8_1_0_1 jk_7 (by omega))
  have ea1 := jfull a1
  have ea2 := jfull a2
  have ea3 := jfull a3
  show jX m_X12_text 10 0 0 0 [(0, .ref 125), (1, .int a1), (2, .int a2), (3, .int a3)] [] _ 0 0 _
  unfold d_X12_text_r125d at D
  try rw [vrn (n := 16) (by decide) zp0] at D
  try rw [vrn (n := 0) (by decide) zp1] at D
  try rw [vrn (n := 4) (by decide) zp2] at D
  try rw [vrn (n := 5) (by decide) zp3] at D
  try rw [vrn (n := 7) (by decide) zp4] at D
  refine x_aloadn (x := 125) rfl rfl ?_
  refine x_iconst (v := 0) rfl ki_0 ?_
  refine z_putI (N := 92) (w := 0) 12 0 rfl f_12_180 rfl (jfin_no TX12 RX12 92 rfl rfl) hD J Sm rfl rfl jk_0 (pw_125_0 (by omega)) rfl (fun h w1 J Sm => ?_)
  rw [vwf w1 (show 0 = (0 : Int32).toInt from by have := jk_0; omega)] at D
  refine x_iloadn (x := a1) rfl rfl ?_
  refine z_i2l rfl rfl (fun v2 ev2 => ?_)
  refine x_lconst (v := 0) rfl kl_0 ?_
  refine x_lconst (v := 1) rfl kl_1 ?_
  refine x_inst (N := m_X12_in) (As := [.long v2, .long 0, .long 1]) (st := []) (dx9 := 1) (mc := 0) (ms := 0) (host := "") rfl t_X12_in ⟨Or.inl q_12_188, s_X12_in⟩ rfl (by decide) rfl rfl ⟨by decide, by decide⟩ (zc_X12_in rfl jkl_0 jkl_1 (fun v3 ev3 => ?_))
  show jX m_X12_text 10 0 0 12 [(0, .ref 125), (1, .int a1), (2, .int a2), (3, .int a3)] [.int v3] _ 0 0 _
  refine x_ifeq (tgt := 33) rfl rfl (ti_eq rfl jk_0 ⟨fun c4 => ?_, fun c4 => ?_⟩)
  ·
    rw [if_neg (by omega)] at D
    obtain ⟨u5, qu5⟩ : ∃ v : Int32, jiv h 125 10 = v := ⟨_, rfl⟩
    have eu5 := (show 0 ≤ u5.toInt ∧ u5.toInt ≤ 400 from qu5 ▸ jrg_f J sg_125_10_11_1_0_1)
    try rw [vrf (jmb_w w1 qu5 rfl)] at D
    obtain ⟨u6, qu6⟩ : ∃ v : Int32, jiv h 125 11 = v := ⟨_, rfl⟩
    have eu6 := (show 0 ≤ u6.toInt ∧ u6.toInt ≤ 3 from qu6 ▸ jrg_f J sg_125_11_12_1_0_1)
    try rw [vrf (jmb_w w1 qu6 rfl)] at D
    obtain ⟨u7, qu7⟩ : ∃ v : Int32, jiv h 125 8 = v := ⟨_, rfl⟩
    have eu7 := (show 0 ≤ u7.toInt ∧ u7.toInt ≤ 400 from qu7 ▸ jrg_f J sg_125_8_9_1_0_1)
    try rw [vrf (jmb_w w1 qu7 rfl)] at D
    obtain ⟨u8, qu8⟩ : ∃ v : Int32, jiv h 125 9 = v := ⟨_, rfl⟩
    have eu8 := (show 0 ≤ u8.toInt ∧ u8.toInt ≤ 400 from qu8 ▸ jrg_f J sg_125_9_10_1_0_1)
    try rw [vrf (jmb_w w1 qu8 rfl)] at D
    exact jX.sub (jsb_c rfl (jsb_c rfl (jsb_c rfl (jsb_c rfl jsb_n)))) (ct_X12_text_r125d_33 hD hQ  a1 a2 a3 p1 p0 p2 p3 p4 u5 u6 u7 u8 h (jr_of rfl (by omega)) (jr_of rfl (by omega)) (jr_of rfl (by omega)) (jr_of rfl (by omega)) (jr_of rfl (by omega)) (jr_of rfl (by omega)) (jr_of rfl (by omega)) (jr_of rfl (by omega)) (jr_of rfl (by omega)) (by omega) (jmo w1 rfl zp1) (jmo w1 rfl zp0) (jmo w1 rfl zp2) (jmo w1 rfl zp3) (jmo w1 rfl zp4) qu5 qu6 qu7 qu8 J Sm D)
  ·
    rw [if_pos (by omega)] at D
    refine x_iloadn (x := a2) rfl rfl ?_
    refine x_inst (N := m_X12_isDay) (As := [.int a2]) (st := []) (dx9 := 2) (mc := 0) (ms := 0) (host := "") rfl t_X12_isDay ⟨Or.inl q_12_273, s_X12_isDay⟩ rfl (by decide) rfl rfl ⟨by decide, by decide⟩ (zc_X12_isDay (d := 1) rfl (fun v9 ev9 => ?_))
    show jX m_X12_text 10 0 0 19 [(0, .ref 125), (1, .int a1), (2, .int a2), (3, .int a3)] [.int v9] _ 0 0 _
    refine x_ifeq (tgt := 33) rfl rfl (ti_eq rfl jk_0 ⟨fun c10 => ?_, fun c10 => ?_⟩)
    ·
      rw [if_neg (by omega)] at D
      obtain ⟨u11, qu11⟩ : ∃ v : Int32, jiv h 125 10 = v := ⟨_, rfl⟩
      have eu11 := (show 0 ≤ u11.toInt ∧ u11.toInt ≤ 400 from qu11 ▸ jrg_f J sg_125_10_11_1_0_1)
      try rw [vrf (jmb_w w1 qu11 rfl)] at D
      obtain ⟨u12, qu12⟩ : ∃ v : Int32, jiv h 125 11 = v := ⟨_, rfl⟩
      have eu12 := (show 0 ≤ u12.toInt ∧ u12.toInt ≤ 3 from qu12 ▸ jrg_f J sg_125_11_12_1_0_1)
      try rw [vrf (jmb_w w1 qu12 rfl)] at D
      obtain ⟨u13, qu13⟩ : ∃ v : Int32, jiv h 125 8 = v := ⟨_, rfl⟩
      have eu13 := (show 0 ≤ u13.toInt ∧ u13.toInt ≤ 400 from qu13 ▸ jrg_f J sg_125_8_9_1_0_1)
      try rw [vrf (jmb_w w1 qu13 rfl)] at D
      obtain ⟨u14, qu14⟩ : ∃ v : Int32, jiv h 125 9 = v := ⟨_, rfl⟩
      have eu14 := (show 0 ≤ u14.toInt ∧ u14.toInt ≤ 400 from qu14 ▸ jrg_f J sg_125_9_10_1_0_1)
      try rw [vrf (jmb_w w1 qu14 rfl)] at D
      exact jX.sub (jsb_c rfl (jsb_c rfl (jsb_c rfl (jsb_c rfl jsb_n)))) (ct_X12_text_r125d_33 hD hQ  a1 a2 a3 p1 p0 p2 p3 p4 u11 u12 u13 u14 h (jr_of rfl (by omega)) (jr_of rfl (by omega)) (jr_of rfl (by omega)) (jr_of rfl (by omega)) (jr_of rfl (by omega)) (jr_of rfl (by omega)) (jr_of rfl (by omega)) (jr_of rfl (by omega)) (jr_of rfl (by omega)) (by omega) (jmo w1 rfl zp1) (jmo w1 rfl zp0) (jmo w1 rfl zp2) (jmo w1 rfl zp3) (jmo w1 rfl zp4) qu11 qu12 qu13 qu14 J Sm D)
    ·
      rw [if_pos (by omega)] at D
      refine x_iloadn (x := a3) rfl rfl ?_
      refine x_inst (N := m_X12_isDay) (As := [.int a3]) (st := []) (dx9 := 2) (mc := 0) (ms := 0) (host := "") rfl t_X12_isDay ⟨Or.inl q_12_273, s_X12_isDay⟩ rfl (by decide) rfl rfl ⟨by decide, by decide⟩ (zc_X12_isDay (d := 1) rfl (fun v15 ev15 => ?_))
      show jX m_X12_text 10 0 0 26 [(0, .ref 125), (1, .int a1), (2, .int a2), (3, .int a3)] [.int v15] _ 0 0 _
      refine x_ifeq (tgt := 33) rfl rfl (ti_eq rfl jk_0 ⟨fun c16 => ?_, fun c16 => ?_⟩)
      ·
        rw [if_neg (by omega)] at D
        obtain ⟨u17, qu17⟩ : ∃ v : Int32, jiv h 125 10 = v := ⟨_, rfl⟩
        have eu17 := (show 0 ≤ u17.toInt ∧ u17.toInt ≤ 400 from qu17 ▸ jrg_f J sg_125_10_11_1_0_1)
        try rw [vrf (jmb_w w1 qu17 rfl)] at D
        obtain ⟨u18, qu18⟩ : ∃ v : Int32, jiv h 125 11 = v := ⟨_, rfl⟩
        have eu18 := (show 0 ≤ u18.toInt ∧ u18.toInt ≤ 3 from qu18 ▸ jrg_f J sg_125_11_12_1_0_1)
        try rw [vrf (jmb_w w1 qu18 rfl)] at D
        obtain ⟨u19, qu19⟩ : ∃ v : Int32, jiv h 125 8 = v := ⟨_, rfl⟩
        have eu19 := (show 0 ≤ u19.toInt ∧ u19.toInt ≤ 400 from qu19 ▸ jrg_f J sg_125_8_9_1_0_1)
        try rw [vrf (jmb_w w1 qu19 rfl)] at D
        obtain ⟨u20, qu20⟩ : ∃ v : Int32, jiv h 125 9 = v := ⟨_, rfl⟩
        have eu20 := (show 0 ≤ u20.toInt ∧ u20.toInt ≤ 400 from qu20 ▸ jrg_f J sg_125_9_10_1_0_1)
        try rw [vrf (jmb_w w1 qu20 rfl)] at D
        exact jX.sub (jsb_c rfl (jsb_c rfl (jsb_c rfl (jsb_c rfl jsb_n)))) (ct_X12_text_r125d_33 hD hQ  a1 a2 a3 p1 p0 p2 p3 p4 u17 u18 u19 u20 h (jr_of rfl (by omega)) (jr_of rfl (by omega)) (jr_of rfl (by omega)) (jr_of rfl (by omega)) (jr_of rfl (by omega)) (jr_of rfl (by omega)) (jr_of rfl (by omega)) (jr_of rfl (by omega)) (jr_of rfl (by omega)) (by omega) (jmo w1 rfl zp1) (jmo w1 rfl zp0) (jmo w1 rfl zp2) (jmo w1 rfl zp3) (jmo w1 rfl zp4) qu17 qu18 qu19 qu20 J Sm D)
      ·
        rw [if_pos (by omega)] at D
        refine x_iconst (v := 1) rfl ki_1 ?_
        refine x_goto (tgt := 34) rfl rfl ?_
        obtain ⟨u21, qu21⟩ : ∃ v : Int32, jiv h 125 10 = v := ⟨_, rfl⟩
        have eu21 := (show 0 ≤ u21.toInt ∧ u21.toInt ≤ 400 from qu21 ▸ jrg_f J sg_125_10_11_1_0_1)
        try rw [vrf (jmb_w w1 qu21 rfl)] at D
        obtain ⟨u22, qu22⟩ : ∃ v : Int32, jiv h 125 11 = v := ⟨_, rfl⟩
        have eu22 := (show 0 ≤ u22.toInt ∧ u22.toInt ≤ 3 from qu22 ▸ jrg_f J sg_125_11_12_1_0_1)
        try rw [vrf (jmb_w w1 qu22 rfl)] at D
        obtain ⟨u23, qu23⟩ : ∃ v : Int32, jiv h 125 8 = v := ⟨_, rfl⟩
        have eu23 := (show 0 ≤ u23.toInt ∧ u23.toInt ≤ 400 from qu23 ▸ jrg_f J sg_125_8_9_1_0_1)
        try rw [vrf (jmb_w w1 qu23 rfl)] at D
        obtain ⟨u24, qu24⟩ : ∃ v : Int32, jiv h 125 9 = v := ⟨_, rfl⟩
        have eu24 := (show 0 ≤ u24.toInt ∧ u24.toInt ≤ 400 from qu24 ▸ jrg_f J sg_125_9_10_1_0_1)
        try rw [vrf (jmb_w w1 qu24 rfl)] at D
        exact jX.sub (jsb_c rfl (jsb_c rfl (jsb_c rfl (jsb_c rfl jsb_n)))) (ct_X12_text_r125d_300034 hD hQ  a1 a2 a3 p1 p0 p2 p3 p4 u21 u22 u23 u24 h (jr_of rfl (by omega)) (jr_of rfl (by omega)) (jr_of rfl (by omega)) (jr_of rfl (by omega)) (jr_of rfl (by omega)) (jr_of rfl (by omega)) (jr_of rfl (by omega)) (jr_of rfl (by omega)) (jr_of rfl (by omega)) (jr_of rfl (by omega)) (jr_of rfl (by omega)) (jr_of rfl (by omega)) (by omega) (jmo w1 rfl zp1) (jmo w1 rfl zp0) (jmo w1 rfl zp2) (jmo w1 rfl zp3) (jmo w1 rfl zp4) qu21 qu22 qu23 qu24 J Sm D)
