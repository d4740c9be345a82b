def fp_X2_readTest_r95_c4d : jFp := [(68, 2, 3), (68, 3, 4), (68, 4, 5), (68, 5, 6), (95, 4, 5), (95, 5, 6), (97, 0, 1200)]
set_option maxRecDepth 100000 in
set_option maxHeartbeats 4000000 in
theorem ct_X2_readTest_r95_c4d_77 {Dy : jH → Prop} {h0 : jH} {Q : Option Value → jH → Prop} {dr : (Int × jW)} {K4 : Int → Int → jW → (Int × jW)} {R4 : Int} (hD : jDk Dy) (hQ : ∀ (v : Int32) hx9, 0 ≤ v.toInt ∧ v.toInt ≤ 1 → jJ jSgX Dy hx9 → jSm fp_X2_readTest_r95_c4d h0 hx9 → ∀ u0 u1 : Int32, jiv hx9 68 5 = u0 → jiv hx9 68 3 = u1 → (u0.toInt ≠ 3 ∨ u1.toInt ≤ 399) → dr.1 = v.toInt → dr.2 = vw hx9 → Q (some (.int v)) hx9) (k4 : ∀ (l2 : Int32) (l3 : Int32) (g0 : Int32) (g1 : Int32) (h : jH), 400 - l3.toInt < R4 → (-1) ≤ l2.toInt ∧ l2.toInt ≤ 1199 → 0 ≤ l3.toInt ∧ l3.toInt ≤ 400 → 0 ≤ g0.toInt ∧ g0.toInt ≤ 400 → 0 ≤ g1.toInt ∧ g1.toInt ≤ 3 → (g1.toInt ≠ 3 ∨ g0.toInt ≤ 399) → jiv h 68 3 = g0 → jiv h 68 5 = g1 → jJ jSgX Dy h → jSm fp_X2_readTest_r95_c4d h0 h → K4 l2.toInt l3.toInt (vw h) = dr → jX m_X2_readTest 16 0 0 4 [(0, .ref 95), (1, .int 4), (2, .int l2), (3, .int l3)] [] h 0 0 Q) : ∀ (l2 : Int32) (l3 : Int32) (g0 : Int32) (g1 : Int32) (h : jH), (-1) ≤ l2.toInt ∧ l2.toInt ≤ 1199 → 0 ≤ l3.toInt ∧ l3.toInt ≤ 399 → 0 ≤ g0.toInt ∧ g0.toInt ≤ 400 → 0 ≤ g1.toInt ∧ g1.toInt ≤ 3 → (g1.toInt ≠ 3 ∨ g0.toInt ≤ 399) → jiv h 68 3 = g0 → jiv h 68 5 = g1 → 400 - l3.toInt ≤ R4 → jJ jSgX Dy h → jSm fp_X2_readTest_r95_c4d h0 h → d_X2_readTest_r95_c4d_77 K4  l2.toInt l3.toInt (vw h) = dr → jX m_X2_readTest 16 0 0 77 [(0, .ref 95), (1, .int 4), (2, .int l2), (3, .int l3)] [] h 0 0 Q := by
  intro l2 l3 g0 g1 h y0 y1 y2 y3 y4 z0 z1 m4 J Sm D
  unfold d_X2_readTest_r95_c4d_77 at D
  try rw [vrf z0] at D
  try rw [vrf z1] at D
  refine x_aloadn (x := 95) rfl rfl ?_
  refine x_iloadn (x := l2) rfl rfl ?_
  refine x_inv (N := m_X2_land) (As := [.int l2]) (b := 95) (st := []) (dx9 := 1) (mc := 0) (ms := 0) (host := "") 2 rfl t_X2_land ⟨Or.inl q_2_124, i_X2_land.1, i_X2_land.2⟩ ⟨by decide, rfl⟩ (congrArg Prod.fst (J.1.1 95 (2, 6) rfl)) rfl (by decide) rfl rfl ⟨by decide, by decide⟩ (sf_X2_land_r95d (jr_of rfl (by omega)) hD J rfl  (fun h J S1 X2 => ?_))
  have Sm := jSm_tr rfl Sm S1
  rw [X2] at D
  show jX m_X2_readTest 16 0 0 82 [(0, .ref 95), (1, .int 4), (2, .int l2), (3, .int l3)] [] _ 0 0 _
  refine x_aloadn (x := 95) rfl rfl ?_
  refine z_getR (N := 6) (b := 68) 2 0 rfl f_2_30 rfl J rfl 12160 ⟨rfl, rfl⟩ rfl ?_
  refine x_ldcS (jstr.getD 12 jstr_0) rfl (List.mem_of_getElem? (i := 12) rfl) rfl rfl ?_
  show jX m_X2_readTest 16 0 0 88 [(0, .ref 95), (1, .int 4), (2, .int l2), (3, .int l3)] [.ref 17, .ref 68] _ 0 0 _
  refine x_inv (N := m_X9_wordOf) (As := [.ref 17]) (b := 68) (st := []) (dx9 := 4) (mc := 0) (ms := 0) (host := "") 9 rfl t_X9_wordOf ⟨Or.inl q_2_67, i_X9_wordOf.1, i_X9_wordOf.2⟩ ⟨by decide, rfl⟩ (congrArg Prod.fst (J.1.1 68 (9, 6) rfl)) rfl (by decide) rfl rfl ⟨by decide, by decide⟩ (sf_X9_wordOf_r68_r17d  hD J rfl  (fun v6 h J S3 X4 X5 => ?_))
  have ev6 := jfull v6
  have Sm := jSm_tr rfl Sm S3
  try rw [X4] at D
  try rw [← X5] at D
  show jX m_X2_readTest 16 0 0 91 [(0, .ref 95), (1, .int 4), (2, .int l2), (3, .int l3)] [.int v6] _ 0 0 _
  refine x_ifeq (tgt := 96) rfl rfl (ti_eq rfl jk_0 ⟨fun c7 => ?_, fun c7 => ?_⟩)
  ·
    rw [if_pos (by omega)] at D
    refine x_aloadn (x := 95) rfl rfl ?_
    refine x_bipush (v := 11) rfl kb_11 ?_
    refine x_inv (N := m_X2_leap) (As := [.int 11]) (b := 95) (st := []) (dx9 := 2) (mc := 0) (ms := 0) (host := "") 2 rfl t_X2_leap ⟨Or.inl q_2_129, i_X2_leap.1, i_X2_leap.2⟩ ⟨by decide, rfl⟩ (congrArg Prod.fst (J.1.1 95 (2, 6) rfl)) rfl (by decide) rfl rfl ⟨by decide, by decide⟩ (sf_X2_leap_r95d (jr_of jk_11 (by omega)) hD J rfl  (fun v11 h ev11 J S8 X9 X10 => ?_))
    have Sm := jSm_tr rfl Sm S8
    try rw [jk_11] at X9
    try rw [jk_11] at X10
    try rw [X9] at D
    try rw [X10] at D
    show jX m_X2_readTest 16 0 0 102 [(0, .ref 95), (1, .int 4), (2, .int l2), (3, .int l3)] [.int v11] _ 0 0 _
    refine x_istoren (lsx9 := [(2, .int v11), (0, .ref 95), (1, .int 4), (3, .int l3)]) rfl rfl rfl ?_
    refine x_aloadn (x := 95) rfl rfl ?_
    refine z_getR (N := 6) (b := 68) 2 0 rfl f_2_30 rfl J rfl 12160 ⟨rfl, rfl⟩ rfl ?_
    refine x_inv (N := m_X9_step) (As := []) (b := 68) (st := []) (dx9 := 2) (mc := 0) (ms := 0) (host := "") 9 rfl t_X9_step ⟨Or.inl q_2_62, i_X9_step.1, i_X9_step.2⟩ ⟨by decide, rfl⟩ (congrArg Prod.fst (J.1.1 68 (9, 6) rfl)) rfl (by decide) rfl rfl ⟨by decide, by decide⟩ (sf_X9_step_r68d  hD J (jmc S8 rfl (jmc S3 rfl (jmc S1 rfl z1))) (jmc S8 rfl (jmc S3 rfl (jmc S1 rfl z0))) (by omega) rfl  (fun h J S12 u13 u14 qu13 qu14 ru13 X15 => ?_))
    have Sm := jSm_tr rfl Sm S12
    rw [X15] at D
    have eu13 := (show 0 ≤ u13.toInt ∧ u13.toInt ≤ 3 from qu13 ▸ jrg_f J sg_68_5_6_1_0_1)
    try rw [vrf qu13] at D
    have eu14 := (show 0 ≤ u14.toInt ∧ u14.toInt ≤ 400 from qu14 ▸ jrg_f J sg_68_3_4_1_0_1)
    try rw [vrf qu14] at D
    show jX m_X2_readTest 16 0 0 110 [(2, .int v11), (0, .ref 95), (1, .int 4), (3, .int l3)] [] _ 0 0 _
    refine z_iinc (x := l3) (lsx9 := fun v16 => [(3, .int v16), (2, .int v11), (0, .ref 95), (1, .int 4)]) rfl rfl rfl jko_1 (by omega) rfl (fun _ => rfl) (fun v16 ev16 => ?_)
    refine x_goto (tgt := 4) rfl rfl ?_
    try rw [show (l3.toInt + 1) = v16.toInt from by omega] at D
    exact jX.sub (jsb_c rfl (jsb_c rfl (jsb_c rfl (jsb_c rfl jsb_n)))) (k4 v11 v16 u14 u13 h (by omega) (jr_of rfl (by omega)) (jr_of rfl (by omega)) (jr_of rfl (by omega)) (jr_of rfl (by omega)) (by omega) qu14 qu13 J Sm D)
  ·
    rw [if_neg (by omega)] at D
    refine x_iconst (v := 1) rfl ki_1 ?_
    refine x_zret rfl rfl (by decide) ?_
    exact hQ _ _ (jr_of jk_1 (by omega)) J Sm _ _ (jmc S3 rfl (jmc S1 rfl z1)) (jmc S3 rfl (jmc S1 rfl z0)) (by omega) ((congrArg Prod.fst D).symm.trans (show 1 = (1 : Int32).toInt from by have := jk_1; omega)) (congrArg Prod.snd D).symm
set_option maxRecDepth 100000 in
set_option maxHeartbeats 4000000 in
theorem ct_X2_readTest_r95_c4d_17 {Dy : jH → Prop} {h0 : jH} {Q : Option Value → jH → Prop} {dr : (Int × jW)} {K4 : Int → Int → jW → (Int × jW)} {R4 : Int} (hD : jDk Dy) (hQ : ∀ (v : Int32) hx9, 0 ≤ v.toInt ∧ v.toInt ≤ 1 → jJ jSgX Dy hx9 → jSm fp_X2_readTest_r95_c4d h0 hx9 → ∀ u0 u1 : Int32, jiv hx9 68 5 = u0 → jiv hx9 68 3 = u1 → (u0.toInt ≠ 3 ∨ u1.toInt ≤ 399) → dr.1 = v.toInt → dr.2 = vw hx9 → Q (some (.int v)) hx9) (k4 : ∀ (l2 : Int32) (l3 : Int32) (g0 : Int32) (g1 : Int32) (h : jH), 400 - l3.toInt < R4 → (-1) ≤ l2.toInt ∧ l2.toInt ≤ 1199 → 0 ≤ l3.toInt ∧ l3.toInt ≤ 400 → 0 ≤ g0.toInt ∧ g0.toInt ≤ 400 → 0 ≤ g1.toInt ∧ g1.toInt ≤ 3 → (g1.toInt ≠ 3 ∨ g0.toInt ≤ 399) → jiv h 68 3 = g0 → jiv h 68 5 = g1 → jJ jSgX Dy h → jSm fp_X2_readTest_r95_c4d h0 h → K4 l2.toInt l3.toInt (vw h) = dr → jX m_X2_readTest 16 0 0 4 [(0, .ref 95), (1, .int 4), (2, .int l2), (3, .int l3)] [] h 0 0 Q) : ∀ r : Nat, ∀ (l2 : Int32) (l3 : Int32) (l4 : Int32) (l5 : Int32) (g0 : Int32) (g1 : Int32) (h : jH), 400 - l5.toInt < (r : Int) → (-1) ≤ l2.toInt ∧ l2.toInt ≤ 1199 → 0 ≤ l3.toInt ∧ l3.toInt ≤ 399 → (-1) ≤ l4.toInt ∧ l4.toInt ≤ 1199 → 0 ≤ l5.toInt ∧ l5.toInt ≤ 400 → 0 ≤ g0.toInt ∧ g0.toInt ≤ 400 → 0 ≤ g1.toInt ∧ g1.toInt ≤ 3 → (g1.toInt ≠ 3 ∨ g0.toInt ≤ 399) → jiv h 68 3 = g0 → jiv h 68 5 = g1 → 400 - l3.toInt ≤ R4 → jJ jSgX Dy h → jSm fp_X2_readTest_r95_c4d h0 h → d_X2_readTest_r95_c4d_17 K4 r l2.toInt l3.toInt l4.toInt l5.toInt (vw h) = dr → jX m_X2_readTest 16 0 0 17 [(0, .ref 95), (1, .int 4), (2, .int l2), (3, .int l3), (4, .int l4), (5, .int l5)] [] h 0 0 Q := by
  intro r
  induction r with
  | zero =>
    intro l2 l3 l4 l5 g0 g1 h hm y0 y1 y2 y3 y4 y5 y6 z0 z1 m4 J Sm D
    exfalso
    omega
  | succ r ih =>
    intro l2 l3 l4 l5 g0 g1 h hm y0 y1 y2 y3 y4 y5 y6 z0 z1 m4 J Sm D
    rw [d_X2_readTest_r95_c4d_17.eq_2] at D
    try rw [vrf z0] at D
    try rw [vrf z1] at D
    refine x_iload (x := l5) rfl rfl ?_
    refine x_sipush (v := 400) rfl ks_400 ?_
    refine x_icge (tgt := 77) rfl rfl (ti_ge rfl jk_400 ⟨fun c1 => ?_, fun c1 => ?_⟩)
    ·
      rw [if_pos (by omega)] at D
      exact jX.sub (jsb_c rfl (jsb_c rfl (jsb_c rfl (jsb_c rfl jsb_n)))) (ct_X2_readTest_r95_c4d_77 hD hQ k4 l2 l3 g0 g1 h (jr_of rfl (by omega)) (jr_of rfl (by omega)) (jr_of rfl (by omega)) (jr_of rfl (by omega)) (by omega) z0 z1 (by omega) J Sm D)
    ·
      rw [if_neg (by omega)] at D
      refine x_aloadn (x := 95) rfl rfl ?_
      refine x_iloadn (x := 4) rfl rfl ?_
      refine x_inv (N := m_X2_readPlain) (As := [.int 4]) (b := 95) (st := []) (dx9 := 15) (mc := 0) (ms := 0) (host := "") 2 rfl t_X2_readPlain ⟨Or.inl q_2_121, i_X2_readPlain.1, i_X2_readPlain.2⟩ ⟨by decide, rfl⟩ (congrArg Prod.fst (J.1.1 95 (2, 6) rfl)) rfl (by decide) rfl rfl ⟨by decide, by decide⟩ (sf_X2_readPlain_r95_c4d  hD J z1 z0 (by omega) rfl  (fun v7 h ev7 J S2 u3 u4 qu3 qu4 ru3 X5 X6 => ?_))
      have Sm := jSm_tr rfl Sm S2
      try rw [X5] at D
      try rw [X6] at D
      have eu3 := (show 0 ≤ u3.toInt ∧ u3.toInt ≤ 3 from qu3 ▸ jrg_f J sg_68_5_6_1_0_1)
      try rw [vrf qu3] at D
      have eu4 := (show 0 ≤ u4.toInt ∧ u4.toInt ≤ 400 from qu4 ▸ jrg_f J sg_68_3_4_1_0_1)
      try rw [vrf qu4] at D
      show jX m_X2_readTest 16 0 0 30 [(0, .ref 95), (1, .int 4), (2, .int l2), (3, .int l3), (4, .int l4), (5, .int l5)] [.int v7] _ 0 0 _
      refine x_ifne (tgt := 35) rfl rfl (ti_ne rfl jk_0 ⟨fun c8 => ?_, fun c8 => ?_⟩)
      ·
        rw [if_neg (by omega)] at D
        refine x_aloadn (x := 95) rfl rfl ?_
        refine x_iload (x := l4) rfl rfl ?_
        refine x_inv (N := m_X2_land) (As := [.int l4]) (b := 95) (st := []) (dx9 := 1) (mc := 0) (ms := 0) (host := "") 2 rfl t_X2_land ⟨Or.inl q_2_124, i_X2_land.1, i_X2_land.2⟩ ⟨by decide, rfl⟩ (congrArg Prod.fst (J.1.1 95 (2, 6) rfl)) rfl (by decide) rfl rfl ⟨by decide, by decide⟩ (sf_X2_land_r95d (jr_of rfl (by omega)) hD J rfl  (fun h J S9 X10 => ?_))
        have Sm := jSm_tr rfl Sm S9
        rw [X10] at D
        show jX m_X2_readTest 16 0 0 41 [(0, .ref 95), (1, .int 4), (2, .int l2), (3, .int l3), (4, .int l4), (5, .int l5)] [] _ 0 0 _
        refine x_aloadn (x := 95) rfl rfl ?_
        refine z_getR (N := 6) (b := 68) 2 0 rfl f_2_30 rfl J rfl 12160 ⟨rfl, rfl⟩ rfl ?_
        refine x_ldcS (jstr.getD 11 jstr_0) rfl (List.mem_of_getElem? (i := 11) rfl) rfl rfl ?_
        show jX m_X2_readTest 16 0 0 47 [(0, .ref 95), (1, .int 4), (2, .int l2), (3, .int l3), (4, .int l4), (5, .int l5)] [.ref 16, .ref 68] _ 0 0 _
        refine x_inv (N := m_X9_wordOf) (As := [.ref 16]) (b := 68) (st := []) (dx9 := 4) (mc := 0) (ms := 0) (host := "") 9 rfl t_X9_wordOf ⟨Or.inl q_2_67, i_X9_wordOf.1, i_X9_wordOf.2⟩ ⟨by decide, rfl⟩ (congrArg Prod.fst (J.1.1 68 (9, 6) rfl)) rfl (by decide) rfl rfl ⟨by decide, by decide⟩ (sf_X9_wordOf_r68_r16d  hD J rfl  (fun v14 h J S11 X12 X13 => ?_))
        have ev14 := jfull v14
        have Sm := jSm_tr rfl Sm S11
        try rw [X12] at D
        try rw [← X13] at D
        show jX m_X2_readTest 16 0 0 50 [(0, .ref 95), (1, .int 4), (2, .int l2), (3, .int l3), (4, .int l4), (5, .int l5)] [.int v14] _ 0 0 _
        refine x_ifeq (tgt := 56) rfl rfl (ti_eq rfl jk_0 ⟨fun c15 => ?_, fun c15 => ?_⟩)
        ·
          rw [if_pos (by omega)] at D
          refine x_aloadn (x := 95) rfl rfl ?_
          refine x_bipush (v := 12) rfl kb_12 ?_
          refine x_inv (N := m_X2_leap) (As := [.int 12]) (b := 95) (st := []) (dx9 := 2) (mc := 0) (ms := 0) (host := "") 2 rfl t_X2_leap ⟨Or.inl q_2_129, i_X2_leap.1, i_X2_leap.2⟩ ⟨by decide, rfl⟩ (congrArg Prod.fst (J.1.1 95 (2, 6) rfl)) rfl (by decide) rfl rfl ⟨by decide, by decide⟩ (sf_X2_leap_r95d (jr_of jk_12 (by omega)) hD J rfl  (fun v19 h ev19 J S16 X17 X18 => ?_))
          have Sm := jSm_tr rfl Sm S16
          try rw [jk_12] at X17
          try rw [jk_12] at X18
          try rw [X17] at D
          try rw [X18] at D
          show jX m_X2_readTest 16 0 0 62 [(0, .ref 95), (1, .int 4), (2, .int l2), (3, .int l3), (4, .int l4), (5, .int l5)] [.int v19] _ 0 0 _
          refine x_istore (lsx9 := [(4, .int v19), (0, .ref 95), (1, .int 4), (2, .int l2), (3, .int l3), (5, .int l5)]) rfl rfl rfl ?_
          refine x_aloadn (x := 95) rfl rfl ?_
          refine z_getR (N := 6) (b := 68) 2 0 rfl f_2_30 rfl J rfl 12160 ⟨rfl, rfl⟩ rfl ?_
          refine x_inv (N := m_X9_step) (As := []) (b := 68) (st := []) (dx9 := 2) (mc := 0) (ms := 0) (host := "") 9 rfl t_X9_step ⟨Or.inl q_2_62, i_X9_step.1, i_X9_step.2⟩ ⟨by decide, rfl⟩ (congrArg Prod.fst (J.1.1 68 (9, 6) rfl)) rfl (by decide) rfl rfl ⟨by decide, by decide⟩ (sf_X9_step_r68d  hD J (jmc S16 rfl (jmc S11 rfl (jmc S9 rfl qu3))) (jmc S16 rfl (jmc S11 rfl (jmc S9 rfl qu4))) (by omega) rfl  (fun h J S20 u21 u22 qu21 qu22 ru21 X23 => ?_))
          have Sm := jSm_tr rfl Sm S20
          rw [X23] at D
          have eu21 := (show 0 ≤ u21.toInt ∧ u21.toInt ≤ 3 from qu21 ▸ jrg_f J sg_68_5_6_1_0_1)
          try rw [vrf qu21] at D
          have eu22 := (show 0 ≤ u22.toInt ∧ u22.toInt ≤ 400 from qu22 ▸ jrg_f J sg_68_3_4_1_0_1)
          try rw [vrf qu22] at D
          show jX m_X2_readTest 16 0 0 71 [(4, .int v19), (0, .ref 95), (1, .int 4), (2, .int l2), (3, .int l3), (5, .int l5)] [] _ 0 0 _
          refine z_iinc (x := l5) (lsx9 := fun v24 => [(5, .int v24), (4, .int v19), (0, .ref 95), (1, .int 4), (2, .int l2), (3, .int l3)]) rfl rfl rfl jko_1 (by omega) rfl (fun _ => rfl) (fun v24 ev24 => ?_)
          refine x_goto (tgt := 17) rfl rfl ?_
          try rw [show (l5.toInt + 1) = v24.toInt from by omega] at D
          exact jX.sub (jsb_c rfl (jsb_c rfl (jsb_c rfl (jsb_c rfl (jsb_c rfl (jsb_c rfl jsb_n)))))) (ih l2 l3 v19 v24 u22 u21 h (by omega) (jr_of rfl (by omega)) (jr_of rfl (by omega)) (jr_of rfl (by omega)) (jr_of rfl (by omega)) (jr_of rfl (by omega)) (jr_of rfl (by omega)) (by omega) qu22 qu21 (by omega) J Sm D)
        ·
          rw [if_neg (by omega)] at D
          refine x_goto (tgt := 77) rfl rfl ?_
          exact jX.sub (jsb_c rfl (jsb_c rfl (jsb_c rfl (jsb_c rfl jsb_n)))) (ct_X2_readTest_r95_c4d_77 hD hQ k4 l2 l3 u4 u3 h (jr_of rfl (by omega)) (jr_of rfl (by omega)) (jr_of rfl (by omega)) (jr_of rfl (by omega)) (by omega) (jmc S11 rfl (jmc S9 rfl qu4)) (jmc S11 rfl (jmc S9 rfl qu3)) (by omega) J Sm D)
      ·
        rw [if_pos (by omega)] at D
        refine x_iconst (v := 0) rfl ki_0 ?_
        refine x_zret rfl rfl (by decide) ?_
        exact hQ _ _ (jr_of jk_0 (by omega)) J Sm _ _ qu3 qu4 (by omega) ((congrArg Prod.fst D).symm.trans (show 0 = (0 : Int32).toInt from by have := jk_0; omega)) (congrArg Prod.snd D).symm
set_option maxRecDepth 100000 in
set_option maxHeartbeats 4000000 in
theorem ct_X2_readTest_r95_c4d_4 {Dy : jH → Prop} {h0 : jH} {Q : Option Value → jH → Prop} {dr : (Int × jW)} (hD : jDk Dy) (hQ : ∀ (v : Int32) hx9, 0 ≤ v.toInt ∧ v.toInt ≤ 1 → jJ jSgX Dy hx9 → jSm fp_X2_readTest_r95_c4d h0 hx9 → ∀ u0 u1 : Int32, jiv hx9 68 5 = u0 → jiv hx9 68 3 = u1 → (u0.toInt ≠ 3 ∨ u1.toInt ≤ 399) → dr.1 = v.toInt → dr.2 = vw hx9 → Q (some (.int v)) hx9) : ∀ r : Nat, ∀ (l2 : Int32) (l3 : Int32) (g0 : Int32) (g1 : Int32) (h : jH), 400 - l3.toInt < (r : Int) → (-1) ≤ l2.toInt ∧ l2.toInt ≤ 1199 → 0 ≤ l3.toInt ∧ l3.toInt ≤ 400 → 0 ≤ g0.toInt ∧ g0.toInt ≤ 400 → 0 ≤ g1.toInt ∧ g1.toInt ≤ 3 → (g1.toInt ≠ 3 ∨ g0.toInt ≤ 399) → jiv h 68 3 = g0 → jiv h 68 5 = g1 → jJ jSgX Dy h → jSm fp_X2_readTest_r95_c4d h0 h → d_X2_readTest_r95_c4d_4 r l2.toInt l3.toInt (vw h) = dr → jX m_X2_readTest 16 0 0 4 [(0, .ref 95), (1, .int 4), (2, .int l2), (3, .int l3)] [] h 0 0 Q := by
  intro r
  induction r with
  | zero =>
    intro l2 l3 g0 g1 h hm y0 y1 y2 y3 y4 z0 z1  J Sm D
    exfalso
    omega
  | succ r ih =>
    intro l2 l3 g0 g1 h hm y0 y1 y2 y3 y4 z0 z1  J Sm D
    rw [d_X2_readTest_r95_c4d_4.eq_2] at D
    try rw [vrf z0] at D
    try rw [vrf z1] at D
    refine x_iloadn (x := l3) rfl rfl ?_
    refine x_sipush (v := 400) rfl ks_400 ?_
    refine x_icge (tgt := 116) rfl rfl (ti_ge rfl jk_400 ⟨fun c1 => ?_, fun c1 => ?_⟩)
    ·
      rw [if_pos (by omega)] at D
      refine x_aloadn (x := 95) rfl rfl ?_
      refine z_getR (N := 6) (b := 68) 2 0 rfl f_2_30 rfl J rfl 12160 ⟨rfl, rfl⟩ rfl ?_
      refine x_inv (N := m_X9_blame) (As := []) (b := 68) (st := []) (dx9 := 15) (mc := 0) (ms := 0) (host := "") 9 rfl t_X9_blame ⟨Or.inl q_2_59, i_X9_blame.1, i_X9_blame.2⟩ ⟨by decide, rfl⟩ (congrArg Prod.fst (J.1.1 68 (9, 6) rfl)) rfl (by decide) rfl rfl ⟨by decide, by decide⟩ (jC.of rfl k_X9_blame rfl ?_)
      show jX m_X9_blame 15 0 0 0 [(0, .ref 68)] [] _ 0 0 _
      refine x_aloadn (x := 68) rfl rfl ?_
      refine x_aloadn (x := 68) rfl rfl ?_
      refine z_getM (N := 6) (v := g0) 9 3 rfl f_9_22 rfl J rfl z0 ?_
      refine z_putI (N := 6) (w := g0.toInt) 9 2 rfl f_9_19 rfl (jfin_no TX9 RX9 6 rfl rfl) hD J Sm rfl rfl rfl (pw_68_2 (by omega)) rfl (fun h w2 J Sm => ?_)
      rw [vwf w2 (show g0.toInt = g0.toInt from by omega)] at D
      refine x_iconst (v := 0) rfl ki_0 ?_
      refine x_zret rfl rfl (by decide) ?_
      show jX m_X2_readTest 16 0 0 123 [(0, .ref 95), (1, .int 4), (2, .int l2), (3, .int l3)] [.int 0] _ 0 0 _
      refine x_zret rfl rfl (by decide) ?_
      exact hQ _ _ (jr_of jk_0 (by omega)) J Sm _ _ (jmo w2 rfl z1) (jmo w2 rfl z0) (by omega) ((congrArg Prod.fst D).symm.trans (show 0 = (0 : Int32).toInt from by have := jk_0; omega)) (congrArg Prod.snd D).symm
    ·
      rw [if_neg (by omega)] at D
      refine x_iconst (v := (-1)) rfl ki_m1 ?_
      refine x_istore (lsx9 := [(4, .int (-1)), (0, .ref 95), (1, .int 4), (2, .int l2), (3, .int l3)]) rfl rfl rfl ?_
      refine x_iconst (v := 0) rfl ki_0 ?_
      refine x_istore (lsx9 := [(5, .int 0), (4, .int (-1)), (0, .ref 95), (1, .int 4), (2, .int l2), (3, .int l3)]) rfl rfl rfl ?_
      exact jX.sub (jsb_c rfl (jsb_c rfl (jsb_c rfl (jsb_c rfl (jsb_c rfl (jsb_c rfl jsb_n)))))) (ct_X2_readTest_r95_c4d_17 hD hQ ih 401 l2 l3 (-1) 0 g0 g1 h (by have := jk_0; omega) (jr_of rfl (by omega)) (jr_of rfl (by omega)) (jr_of jk_m1 (by omega)) (jr_of jk_0 (by omega)) (jr_of rfl (by omega)) (jr_of rfl (by omega)) (by omega) z0 z1 (by omega) J Sm (by rw [jk_m1, jk_0]; exact D))
set_option maxRecDepth 100000 in
set_option maxHeartbeats 4000000 in
theorem sf_X2_readTest_r95_c4d {Dy : jH → Prop} {h : jH} {Q : Option Value → jH → Prop} {dr : (Int × jW)} (hD : jDk Dy) (J : jJ jSgX Dy h) {p0 p1 : Int32} (zp0 : jiv h 68 5 = p0) (zp1 : jiv h 68 3 = p1) (rl_p0 : (p0.toInt ≠ 3 ∨ p1.toInt ≤ 399)) (D : d_X2_readTest_r95_c4d (vw h) = dr) (hQ : ∀ (v : Int32) hx9, 0 ≤ v.toInt ∧ v.toInt ≤ 1 → jJ jSgX Dy hx9 → jSm fp_X2_readTest_r95_c4d h hx9 → ∀ u0 u1 : Int32, jiv hx9 68 5 = u0 → jiv hx9 68 3 = u1 → (u0.toInt ≠ 3 ∨ u1.toInt ≤ 399) → dr.1 = v.toInt → dr.2 = vw hx9 → Q (some (.int v)) hx9) : jC m_X2_readTest 16 0 0 [.ref 95, .int 4] h Q := by
  refine jC.of rfl k_X2_readTest rfl ?_
  have Sm := jSm_rf fp_X2_readTest_r95_c4d h
  have ep0 := (show 0 ≤ p0.toInt ∧ p0.toInt ≤ 3 from zp0 ▸ jrg_f J sg_68_5_6_1_0_1)
  have ep1 := (show 0 ≤ p1.toInt ∧ p1.toInt ≤ 400 from zp1 ▸ jrg_f J sg_68_3_4_1_0_1)
  show jX m_X2_readTest 16 0 0 0 [(0, .ref 95), (1, .int 4)] [] _ 0 0 _
  unfold d_X2_readTest_r95_c4d at D
  try rw [vrf zp0] at D
  try rw [vrf zp1] at D
  refine x_iconst (v := (-1)) rfl ki_m1 ?_
  refine x_istoren (lsx9 := [(2, .int (-1)), (0, .ref 95), (1, .int 4)]) rfl rfl rfl ?_
  refine x_iconst (v := 0) rfl ki_0 ?_
  refine x_istoren (lsx9 := [(3, .int 0), (2, .int (-1)), (0, .ref 95), (1, .int 4)]) rfl rfl rfl ?_
  exact jX.sub (jsb_c rfl (jsb_c rfl (jsb_c rfl (jsb_c rfl jsb_n)))) (ct_X2_readTest_r95_c4d_4 hD hQ  401 (-1) 0 p1 p0 h (by have := jk_0; omega) (jr_of jk_m1 (by omega)) (jr_of jk_0 (by omega)) (jr_of rfl (by omega)) (jr_of rfl (by omega)) (by omega) zp1 zp0 J Sm (by rw [jk_m1, jk_0]; exact D))
def fp_X2_readPlain_r95_c3d : jFp := [(68, 2, 3), (68, 3, 4), (68, 4, 5), (68, 5, 6), (95, 4, 5), (95, 5, 6), (97, 0, 1200)]
set_option maxRecDepth 100000 in
set_option maxHeartbeats 4000000 in
theorem ct_X2_readPlain_r95_c3d_239 {Dy : jH → Prop} {h0 : jH} {Q : Option Value → jH → Prop} {dr : (Int × jW)} (hD : jDk Dy) (hQ : ∀ (v : Int32) hx9, 0 ≤ v.toInt ∧ v.toInt ≤ 1 → jJ jSgX Dy hx9 → jSm fp_X2_readPlain_r95_c3d h0 hx9 → ∀ u0 u1 : Int32, jiv hx9 68 5 = u0 → jiv hx9 68 3 = u1 → (u0.toInt ≠ 3 ∨ u1.toInt ≤ 399) → dr.1 = v.toInt → dr.2 = vw hx9 → Q (some (.int v)) hx9) : ∀ (g0 : Int32) (g1 : Int32) (h : jH), 0 ≤ g0.toInt ∧ g0.toInt ≤ 400 → 0 ≤ g1.toInt ∧ g1.toInt ≤ 3 → (g1.toInt ≠ 3 ∨ g0.toInt ≤ 399) → jiv h 68 3 = g0 → jiv h 68 5 = g1 → jJ jSgX Dy h → jSm fp_X2_readPlain_r95_c3d h0 h → d_X2_readPlain_r95_c3d_239  (vw h) = dr → jX m_X2_readPlain 17 0 0 239 [] [] h 0 0 Q := by
  intro g0 g1 h y0 y1 y2 z0 z1  J Sm D
  unfold d_X2_readPlain_r95_c3d_239 at D
  try rw [vrf z0] at D
  try rw [vrf z1] at D
  refine x_iconst (v := 1) rfl ki_1 ?_
  refine x_zret rfl rfl (by decide) ?_
  exact hQ _ _ (jr_of jk_1 (by omega)) J Sm _ _ z1 z0 (by omega) ((congrArg Prod.fst D).symm.trans (show 1 = (1 : Int32).toInt from by have := jk_1; omega)) (congrArg Prod.snd D).symm
set_option maxRecDepth 100000 in
set_option maxHeartbeats 4000000 in
theorem ct_X2_readPlain_r95_c3d_229 {Dy : jH → Prop} {h0 : jH} {Q : Option Value → jH → Prop} {dr : (Int × jW)} (hD : jDk Dy) (hQ : ∀ (v : Int32) hx9, 0 ≤ v.toInt ∧ v.toInt ≤ 1 → jJ jSgX Dy hx9 → jSm fp_X2_readPlain_r95_c3d h0 hx9 → ∀ u0 u1 : Int32, jiv hx9 68 5 = u0 → jiv hx9 68 3 = u1 → (u0.toInt ≠ 3 ∨ u1.toInt ≤ 399) → dr.1 = v.toInt → dr.2 = vw hx9 → Q (some (.int v)) hx9) : ∀ (l2 : Int32) (g0 : Int32) (g1 : Int32) (h : jH), 0 ≤ l2.toInt ∧ l2.toInt ≤ 1 → 0 ≤ g0.toInt ∧ g0.toInt ≤ 400 → 0 ≤ g1.toInt ∧ g1.toInt ≤ 3 → (g1.toInt ≠ 3 ∨ g0.toInt ≤ 399) → jiv h 68 3 = g0 → jiv h 68 5 = g1 → jJ jSgX Dy h → jSm fp_X2_readPlain_r95_c3d h0 h → d_X2_readPlain_r95_c3d_229  l2.toInt (vw h) = dr → jX m_X2_readPlain 17 0 0 229 [(0, .ref 95), (2, .int l2)] [] h 0 0 Q := by
  intro l2 g0 g1 h y0 y1 y2 y3 z0 z1  J Sm D
  unfold d_X2_readPlain_r95_c3d_229 at D
  try rw [vrf z0] at D
  try rw [vrf z1] at D
  refine x_iloadn (x := l2) rfl rfl ?_
  refine x_ifeq (tgt := 239) rfl rfl (ti_eq rfl jk_0 ⟨fun c1 => ?_, fun c1 => ?_⟩)
  ·
    rw [if_pos (by omega)] at D
    exact jX.sub jsb_n (ct_X2_readPlain_r95_c3d_239 hD hQ  g0 g1 h (jr_of rfl (by omega)) (jr_of rfl (by omega)) (by omega) z0 z1 J Sm D)
  ·
    rw [if_neg (by omega)] at D
    refine x_aloadn (x := 95) rfl rfl ?_
    refine x_bipush (v := 10) rfl kb_10 ?_
    refine x_inv (N := m_X2_emit) (As := [.int 10]) (b := 95) (st := []) (dx9 := 1) (mc := 0) (ms := 0) (host := "") 2 rfl t_X2_emit ⟨Or.inl q_2_89, i_X2_emit.1, i_X2_emit.2⟩ ⟨by decide, rfl⟩ (congrArg Prod.fst (J.1.1 95 (2, 6) rfl)) rfl (by decide) rfl rfl ⟨by decide, by decide⟩ (sf_X2_emit_r95d  hD J rfl  (fun h J S2 X3 => ?_))
    have Sm := jSm_tr rfl Sm S2
    try rw [jk_10] at X3
    rw [X3] at D
    show jX m_X2_readPlain 17 0 0 239 [(0, .ref 95), (2, .int l2)] [] _ 0 0 _
    exact jX.sub jsb_n (ct_X2_readPlain_r95_c3d_239 hD hQ  g0 g1 h (jr_of rfl (by omega)) (jr_of rfl (by omega)) (by omega) (jmc S2 rfl z0) (jmc S2 rfl z1) J Sm D)
set_option maxRecDepth 100000 in
set_option maxHeartbeats 4000000 in
theorem ct_X2_readPlain_r95_c3d_100190 {Dy : jH → Prop} {h0 : jH} {Q : Option Value → jH → Prop} {dr : (Int × jW)} (hD : jDk Dy) (hQ : ∀ (v : Int32) hx9, 0 ≤ v.toInt ∧ v.toInt ≤ 1 → jJ jSgX Dy hx9 → jSm fp_X2_readPlain_r95_c3d h0 hx9 → ∀ u0 u1 : Int32, jiv hx9 68 5 = u0 → jiv hx9 68 3 = u1 → (u0.toInt ≠ 3 ∨ u1.toInt ≤ 399) → dr.1 = v.toInt → dr.2 = vw hx9 → Q (some (.int v)) hx9) : ∀ (l2 : Int32) (g0 : Int32) (g1 : Int32) (h : jH), 0 ≤ l2.toInt ∧ l2.toInt ≤ 1 → 0 ≤ g0.toInt ∧ g0.toInt ≤ 400 → 0 ≤ g1.toInt ∧ g1.toInt ≤ 3 → (g1.toInt ≠ 3 ∨ g0.toInt ≤ 399) → jiv h 68 3 = g0 → jiv h 68 5 = g1 → jJ jSgX Dy h → jSm fp_X2_readPlain_r95_c3d h0 h → d_X2_readPlain_r95_c3d_100190  l2.toInt (vw h) = dr → jX m_X2_readPlain 17 0 0 190 [(0, .ref 95), (1, .int 3), (2, .int l2)] [.int (-1)] h 0 0 Q := by
  intro l2 g0 g1 h y0 y1 y2 y3 z0 z1  J Sm D
  unfold d_X2_readPlain_r95_c3d_100190 at D
  try rw [vrf z0] at D
  try rw [vrf z1] at D
  refine x_istore (lsx9 := [(4, .int (-1)), (0, .ref 95), (1, .int 3), (2, .int l2)]) rfl rfl rfl ?_
  refine x_iload (x := (-1)) rfl rfl ?_
  refine x_iconst (v := (-1)) rfl ki_m1 ?_
  refine x_icne (tgt := 206) rfl rfl (ti_ne jk_m1 jk_m1 (bn_f (by omega) ?_))
  refine x_aloadn (x := 95) rfl rfl ?_
  refine z_getR (N := 6) (b := 68) 2 0 rfl f_2_30 rfl J rfl 12160 ⟨rfl, rfl⟩ rfl ?_
  refine x_inv (N := m_X9_blame) (As := []) (b := 68) (st := []) (dx9 := 16) (mc := 0) (ms := 0) (host := "") 9 rfl t_X9_blame ⟨Or.inl q_2_59, i_X9_blame.1, i_X9_blame.2⟩ ⟨by decide, rfl⟩ (congrArg Prod.fst (J.1.1 68 (9, 6) rfl)) rfl (by decide) rfl rfl ⟨by decide, by decide⟩ (jC.of rfl k_X9_blame rfl ?_)
  show jX m_X9_blame 16 0 0 0 [(0, .ref 68)] [] _ 0 0 _
  refine x_aloadn (x := 68) rfl rfl ?_
  refine x_aloadn (x := 68) rfl rfl ?_
  refine z_getM (N := 6) (v := g0) 9 3 rfl f_9_22 rfl J rfl z0 ?_
  refine z_putI (N := 6) (w := g0.toInt) 9 2 rfl f_9_19 rfl (jfin_no TX9 RX9 6 rfl rfl) hD J Sm rfl rfl rfl (pw_68_2 (by omega)) rfl (fun h w1 J Sm => ?_)
  rw [vwf w1 (show g0.toInt = g0.toInt from by omega)] at D
  refine x_iconst (v := 0) rfl ki_0 ?_
  refine x_zret rfl rfl (by decide) ?_
  show jX m_X2_readPlain 17 0 0 205 [(4, .int (-1)), (0, .ref 95), (1, .int 3), (2, .int l2)] [.int 0] _ 0 0 _
  refine x_zret rfl rfl (by decide) ?_
  exact hQ _ _ (jr_of jk_0 (by omega)) J Sm _ _ (jmo w1 rfl z1) (jmo w1 rfl z0) (by omega) ((congrArg Prod.fst D).symm.trans (show 0 = (0 : Int32).toInt from by have := jk_0; omega)) (congrArg Prod.snd D).symm
set_option maxRecDepth 100000 in
set_option maxHeartbeats 4000000 in
theorem ct_X2_readPlain_r95_c3d_190 {Dy : jH → Prop} {h0 : jH} {Q : Option Value → jH → Prop} {dr : (Int × jW)} (hD : jDk Dy) (hQ : ∀ (v : Int32) hx9, 0 ≤ v.toInt ∧ v.toInt ≤ 1 → jJ jSgX Dy hx9 → jSm fp_X2_readPlain_r95_c3d h0 hx9 → ∀ u0 u1 : Int32, jiv hx9 68 5 = u0 → jiv hx9 68 3 = u1 → (u0.toInt ≠ 3 ∨ u1.toInt ≤ 399) → dr.1 = v.toInt → dr.2 = vw hx9 → Q (some (.int v)) hx9) : ∀ (l2 : Int32) (g0 : Int32) (g1 : Int32) (h : jH), 0 ≤ l2.toInt ∧ l2.toInt ≤ 1 → 0 ≤ g0.toInt ∧ g0.toInt ≤ 400 → 0 ≤ g1.toInt ∧ g1.toInt ≤ 3 → (g1.toInt ≠ 3 ∨ g0.toInt ≤ 399) → jiv h 68 3 = g0 → jiv h 68 5 = g1 → jJ jSgX Dy h → jSm fp_X2_readPlain_r95_c3d h0 h → d_X2_readPlain_r95_c3d_190  l2.toInt (vw h) = dr → jX m_X2_readPlain 17 0 0 190 [(0, .ref 95), (1, .int 3), (2, .int l2)] [.int 9] h 0 0 Q := by
  intro l2 g0 g1 h y0 y1 y2 y3 z0 z1  J Sm D
  unfold d_X2_readPlain_r95_c3d_190 at D
  try rw [vrf z0] at D
  try rw [vrf z1] at D
  refine x_istore (lsx9 := [(4, .int 9), (0, .ref 95), (1, .int 3), (2, .int l2)]) rfl rfl rfl ?_
  refine x_iload (x := 9) rfl rfl ?_
  refine x_iconst (v := (-1)) rfl ki_m1 ?_
  refine x_icne (tgt := 206) rfl rfl (ti_ne jk_9 jk_m1 (bn_t (by omega) ?_))
  refine x_aloadn (x := 95) rfl rfl ?_
  refine z_getR (N := 6) (b := 68) 2 0 rfl f_2_30 rfl J rfl 12160 ⟨rfl, rfl⟩ rfl ?_
  refine x_inv (N := m_X9_step) (As := []) (b := 68) (st := []) (dx9 := 2) (mc := 0) (ms := 0) (host := "") 9 rfl t_X9_step ⟨Or.inl q_2_62, i_X9_step.1, i_X9_step.2⟩ ⟨by decide, rfl⟩ (congrArg Prod.fst (J.1.1 68 (9, 6) rfl)) rfl (by decide) rfl rfl ⟨by decide, by decide⟩ (sf_X9_step_r68d  hD J z1 z0 (by omega) rfl  (fun h J S1 u2 u3 qu2 qu3 ru2 X4 => ?_))
  have Sm := jSm_tr rfl Sm S1
  rw [X4] at D
  have eu2 := (show 0 ≤ u2.toInt ∧ u2.toInt ≤ 3 from qu2 ▸ jrg_f J sg_68_5_6_1_0_1)
  try rw [vrf qu2] at D
  have eu3 := (show 0 ≤ u3.toInt ∧ u3.toInt ≤ 400 from qu3 ▸ jrg_f J sg_68_3_4_1_0_1)
  try rw [vrf qu3] at D
  show jX m_X2_readPlain 17 0 0 213 [(4, .int 9), (0, .ref 95), (1, .int 3), (2, .int l2)] [] _ 0 0 _
  refine x_aloadn (x := 95) rfl rfl ?_
  refine x_iloadn (x := 3) rfl rfl ?_
  refine x_inv (N := m_X2_readSum) (As := [.int 3]) (b := 95) (st := []) (dx9 := 16) (mc := 0) (ms := 0) (host := "") 2 rfl t_X2_readSum ⟨Or.inl q_2_86, i_X2_readSum.1, i_X2_readSum.2⟩ ⟨by decide, rfl⟩ (congrArg Prod.fst (J.1.1 95 (2, 6) rfl)) rfl (by decide) rfl rfl ⟨by decide, by decide⟩ (sf_X2_readSum_r95_c3d  hD J qu2 qu3 (by omega) rfl  (fun v10 h ev10 J S5 u6 u7 qu6 qu7 ru6 X8 X9 => ?_))
  have Sm := jSm_tr rfl Sm S5
  try rw [X8] at D
  try rw [X9] at D
  have eu6 := (show 0 ≤ u6.toInt ∧ u6.toInt ≤ 3 from qu6 ▸ jrg_f J sg_68_5_6_1_0_1)
  try rw [vrf qu6] at D
  have eu7 := (show 0 ≤ u7.toInt ∧ u7.toInt ≤ 400 from qu7 ▸ jrg_f J sg_68_3_4_1_0_1)
  try rw [vrf qu7] at D
  show jX m_X2_readPlain 17 0 0 218 [(4, .int 9), (0, .ref 95), (1, .int 3), (2, .int l2)] [.int v10] _ 0 0 _
  refine x_ifne (tgt := 223) rfl rfl (ti_ne rfl jk_0 ⟨fun c11 => ?_, fun c11 => ?_⟩)
  ·
    rw [if_neg (by omega)] at D
    refine x_aloadn (x := 95) rfl rfl ?_
    refine x_iload (x := 9) rfl rfl ?_
    refine x_inv (N := m_X2_emit) (As := [.int 9]) (b := 95) (st := []) (dx9 := 1) (mc := 0) (ms := 0) (host := "") 2 rfl t_X2_emit ⟨Or.inl q_2_89, i_X2_emit.1, i_X2_emit.2⟩ ⟨by decide, rfl⟩ (congrArg Prod.fst (J.1.1 95 (2, 6) rfl)) rfl (by decide) rfl rfl ⟨by decide, by decide⟩ (sf_X2_emit_r95d  hD J rfl  (fun h J S12 X13 => ?_))
    have Sm := jSm_tr rfl Sm S12
    try rw [jk_9] at X13
    rw [X13] at D
    show jX m_X2_readPlain 17 0 0 229 [(4, .int 9), (0, .ref 95), (1, .int 3), (2, .int l2)] [] _ 0 0 _
    exact jX.sub (jsb_c rfl (jsb_c rfl jsb_n)) (ct_X2_readPlain_r95_c3d_229 hD hQ  l2 u7 u6 h (jr_of rfl (by omega)) (jr_of rfl (by omega)) (jr_of rfl (by omega)) (by omega) (jmc S12 rfl qu7) (jmc S12 rfl qu6) J Sm D)
  ·
    rw [if_pos (by omega)] at D
    refine x_iconst (v := 0) rfl ki_0 ?_
    refine x_zret rfl rfl (by decide) ?_
    exact hQ _ _ (jr_of jk_0 (by omega)) J Sm _ _ qu6 qu7 (by omega) ((congrArg Prod.fst D).symm.trans (show 0 = (0 : Int32).toInt from by have := jk_0; omega)) (congrArg Prod.snd D).symm
set_option maxRecDepth 100000 in
set_option maxHeartbeats 4000000 in
theorem ct_X2_readPlain_r95_c3d_1000190 {Dy : jH → Prop} {h0 : jH} {Q : Option Value → jH → Prop} {dr : (Int × jW)} (hD : jDk Dy) (hQ : ∀ (v : Int32) hx9, 0 ≤ v.toInt ∧ v.toInt ≤ 1 → jJ jSgX Dy hx9 → jSm fp_X2_readPlain_r95_c3d h0 hx9 → ∀ u0 u1 : Int32, jiv hx9 68 5 = u0 → jiv hx9 68 3 = u1 → (u0.toInt ≠ 3 ∨ u1.toInt ≤ 399) → dr.1 = v.toInt → dr.2 = vw hx9 → Q (some (.int v)) hx9) : ∀ (l2 : Int32) (g0 : Int32) (g1 : Int32) (h : jH), 0 ≤ l2.toInt ∧ l2.toInt ≤ 1 → 0 ≤ g0.toInt ∧ g0.toInt ≤ 400 → 0 ≤ g1.toInt ∧ g1.toInt ≤ 3 → (g1.toInt ≠ 3 ∨ g0.toInt ≤ 399) → jiv h 68 3 = g0 → jiv h 68 5 = g1 → jJ jSgX Dy h → jSm fp_X2_readPlain_r95_c3d h0 h → d_X2_readPlain_r95_c3d_1000190  l2.toInt (vw h) = dr → jX m_X2_readPlain 17 0 0 190 [(0, .ref 95), (1, .int 3), (2, .int l2)] [.int 8] h 0 0 Q := by
  intro l2 g0 g1 h y0 y1 y2 y3 z0 z1  J Sm D
  unfold d_X2_readPlain_r95_c3d_1000190 at D
  try rw [vrf z0] at D
  try rw [vrf z1] at D
  refine x_istore (lsx9 := [(4, .int 8), (0, .ref 95), (1, .int 3), (2, .int l2)]) rfl rfl rfl ?_
  refine x_iload (x := 8) rfl rfl ?_
  refine x_iconst (v := (-1)) rfl ki_m1 ?_
  refine x_icne (tgt := 206) rfl rfl (ti_ne jk_8 jk_m1 (bn_t (by omega) ?_))
  refine x_aloadn (x := 95) rfl rfl ?_
  refine z_getR (N := 6) (b := 68) 2 0 rfl f_2_30 rfl J rfl 12160 ⟨rfl, rfl⟩ rfl ?_
  refine x_inv (N := m_X9_step) (As := []) (b := 68) (st := []) (dx9 := 2) (mc := 0) (ms := 0) (host := "") 9 rfl t_X9_step ⟨Or.inl q_2_62, i_X9_step.1, i_X9_step.2⟩ ⟨by decide, rfl⟩ (congrArg Prod.fst (J.1.1 68 (9, 6) rfl)) rfl (by decide) rfl rfl ⟨by decide, by decide⟩ (sf_X9_step_r68d  hD J z1 z0 (by omega) rfl  (fun h J S1 u2 u3 qu2 qu3 ru2 X4 => ?_))
  have Sm := jSm_tr rfl Sm S1
  rw [X4] at D
  have eu2 := (show 0 ≤ u2.toInt ∧ u2.toInt ≤ 3 from qu2 ▸ jrg_f J sg_68_5_6_1_0_1)
  try rw [vrf qu2] at D
  have eu3 := (show 0 ≤ u3.toInt ∧ u3.toInt ≤ 400 from qu3 ▸ jrg_f J sg_68_3_4_1_0_1)
  try rw [vrf qu3] at D
  show jX m_X2_readPlain 17 0 0 213 [(4, .int 8), (0, .ref 95), (1, .int 3), (2, .int l2)] [] _ 0 0 _
  refine x_aloadn (x := 95) rfl rfl ?_
  refine x_iloadn (x := 3) rfl rfl ?_
  refine x_inv (N := m_X2_readSum) (As := [.int 3]) (b := 95) (st := []) (dx9 := 16) (mc := 0) (ms := 0) (host := "") 2 rfl t_X2_readSum ⟨Or.inl q_2_86, i_X2_readSum.1, i_X2_readSum.2⟩ ⟨by decide, rfl⟩ (congrArg Prod.fst (J.1.1 95 (2, 6) rfl)) rfl (by decide) rfl rfl ⟨by decide, by decide⟩ (sf_X2_readSum_r95_c3d  hD J qu2 qu3 (by omega) rfl  (fun v10 h ev10 J S5 u6 u7 qu6 qu7 ru6 X8 X9 => ?_))
  have Sm := jSm_tr rfl Sm S5
  try rw [X8] at D
  try rw [X9] at D
  have eu6 := (show 0 ≤ u6.toInt ∧ u6.toInt ≤ 3 from qu6 ▸ jrg_f J sg_68_5_6_1_0_1)
  try rw [vrf qu6] at D
  have eu7 := (show 0 ≤ u7.toInt ∧ u7.toInt ≤ 400 from qu7 ▸ jrg_f J sg_68_3_4_1_0_1)
  try rw [vrf qu7] at D
  show jX m_X2_readPlain 17 0 0 218 [(4, .int 8), (0, .ref 95), (1, .int 3), (2, .int l2)] [.int v10] _ 0 0 _
  refine x_ifne (tgt := 223) rfl rfl (ti_ne rfl jk_0 ⟨fun c11 => ?_, fun c11 => ?_⟩)
  ·
    rw [if_neg (by omega)] at D
    refine x_aloadn (x := 95) rfl rfl ?_
    refine x_iload (x := 8) rfl rfl ?_
    refine x_inv (N := m_X2_emit) (As := [.int 8]) (b := 95) (st := []) (dx9 := 1) (mc := 0) (ms := 0) (host := "") 2 rfl t_X2_emit ⟨Or.inl q_2_89, i_X2_emit.1, i_X2_emit.2⟩ ⟨by decide, rfl⟩ (congrArg Prod.fst (J.1.1 95 (2, 6) rfl)) rfl (by decide) rfl rfl ⟨by decide, by decide⟩ (sf_X2_emit_r95d  hD J rfl  (fun h J S12 X13 => ?_))
    have Sm := jSm_tr rfl Sm S12
    try rw [jk_8] at X13
    rw [X13] at D
    show jX m_X2_readPlain 17 0 0 229 [(4, .int 8), (0, .ref 95), (1, .int 3), (2, .int l2)] [] _ 0 0 _
    exact jX.sub (jsb_c rfl (jsb_c rfl jsb_n)) (ct_X2_readPlain_r95_c3d_229 hD hQ  l2 u7 u6 h (jr_of rfl (by omega)) (jr_of rfl (by omega)) (jr_of rfl (by omega)) (by omega) (jmc S12 rfl qu7) (jmc S12 rfl qu6) J Sm D)
  ·
    rw [if_pos (by omega)] at D
    refine x_iconst (v := 0) rfl ki_0 ?_
    refine x_zret rfl rfl (by decide) ?_
    exact hQ _ _ (jr_of jk_0 (by omega)) J Sm _ _ qu6 qu7 (by omega) ((congrArg Prod.fst D).symm.trans (show 0 = (0 : Int32).toInt from by have := jk_0; omega)) (congrArg Prod.snd D).symm
set_option maxRecDepth 100000 in
set_option maxHeartbeats 4000000 in
theorem ct_X2_readPlain_r95_c3d_900190 {Dy : jH → Prop} {h0 : jH} {Q : Option Value → jH → Prop} {dr : (Int × jW)} (hD : jDk Dy) (hQ : ∀ (v : Int32) hx9, 0 ≤ v.toInt ∧ v.toInt ≤ 1 → jJ jSgX Dy hx9 → jSm fp_X2_readPlain_r95_c3d h0 hx9 → ∀ u0 u1 : Int32, jiv hx9 68 5 = u0 → jiv hx9 68 3 = u1 → (u0.toInt ≠ 3 ∨ u1.toInt ≤ 399) → dr.1 = v.toInt → dr.2 = vw hx9 → Q (some (.int v)) hx9) : ∀ (l2 : Int32) (g0 : Int32) (g1 : Int32) (h : jH), 0 ≤ l2.toInt ∧ l2.toInt ≤ 1 → 0 ≤ g0.toInt ∧ g0.toInt ≤ 400 → 0 ≤ g1.toInt ∧ g1.toInt ≤ 3 → (g1.toInt ≠ 3 ∨ g0.toInt ≤ 399) → jiv h 68 3 = g0 → jiv h 68 5 = g1 → jJ jSgX Dy h → jSm fp_X2_readPlain_r95_c3d h0 h → d_X2_readPlain_r95_c3d_900190  l2.toInt (vw h) = dr → jX m_X2_readPlain 17 0 0 190 [(0, .ref 95), (1, .int 3), (2, .int l2)] [.int 7] h 0 0 Q := by
  intro l2 g0 g1 h y0 y1 y2 y3 z0 z1  J Sm D
  unfold d_X2_readPlain_r95_c3d_900190 at D
  try rw [vrf z0] at D
  try rw [vrf z1] at D
  refine x_istore (lsx9 := [(4, .int 7), (0, .ref 95), (1, .int 3), (2, .int l2)]) rfl rfl rfl ?_
  refine x_iload (x := 7) rfl rfl ?_
  refine x_iconst (v := (-1)) rfl ki_m1 ?_
  refine x_icne (tgt := 206) rfl rfl (ti_ne jk_7 jk_m1 (bn_t (by omega) ?_))
  refine x_aloadn (x := 95) rfl rfl ?_
  refine z_getR (N := 6) (b := 68) 2 0 rfl f_2_30 rfl J rfl 12160 ⟨rfl, rfl⟩ rfl ?_
  refine x_inv (N := m_X9_step) (As := []) (b := 68) (st := []) (dx9 := 2) (mc := 0) (ms := 0) (host := "") 9 rfl t_X9_step ⟨Or.inl q_2_62, i_X9_step.1, i_X9_step.2⟩ ⟨by decide, rfl⟩ (congrArg Prod.fst (J.1.1 68 (9, 6) rfl)) rfl (by decide) rfl rfl ⟨by decide, by decide⟩ (sf_X9_step_r68d  hD J z1 z0 (by omega) rfl  (fun h J S1 u2 u3 qu2 qu3 ru2 X4 => ?_))
  have Sm := jSm_tr rfl Sm S1
  rw [X4] at D
  have eu2 := (show 0 ≤ u2.toInt ∧ u2.toInt ≤ 3 from qu2 ▸ jrg_f J sg_68_5_6_1_0_1)
  try rw [vrf qu2] at D
  have eu3 := (show 0 ≤ u3.toInt ∧ u3.toInt ≤ 400 from qu3 ▸ jrg_f J sg_68_3_4_1_0_1)
  try rw [vrf qu3] at D
  show jX m_X2_readPlain 17 0 0 213 [(4, .int 7), (0, .ref 95), (1, .int 3), (2, .int l2)] [] _ 0 0 _
  refine x_aloadn (x := 95) rfl rfl ?_
  refine x_iloadn (x := 3) rfl rfl ?_
  refine x_inv (N := m_X2_readSum) (As := [.int 3]) (b := 95) (st := []) (dx9 := 16) (mc := 0) (ms := 0) (host := "") 2 rfl t_X2_readSum ⟨Or.inl q_2_86, i_X2_readSum.1, i_X2_readSum.2⟩ ⟨by decide, rfl⟩ (congrArg Prod.fst (J.1.1 95 (2, 6) rfl)) rfl (by decide) rfl rfl ⟨by decide, by decide⟩ (sf_X2_readSum_r95_c3d  hD J qu2 qu3 (by omega) rfl  (fun v10 h ev10 J S5 u6 u7 qu6 qu7 ru6 X8 X9 => ?_))
  have Sm := jSm_tr rfl Sm S5
  try rw [X8] at D
  try rw [X9] at D
  have eu6 := (show 0 ≤ u6.toInt ∧ u6.toInt ≤ 3 from qu6 ▸ jrg_f J sg_68_5_6_1_0_1)
  try rw [vrf qu6] at D
  have eu7 := (show 0 ≤ u7.toInt ∧ u7.toInt ≤ 400 from qu7 ▸ jrg_f J sg_68_3_4_1_0_1)
  try rw [vrf qu7] at D
  show jX m_X2_readPlain 17 0 0 218 [(4, .int 7), (0, .ref 95), (1, .int 3), (2, .int l2)] [.int v10] _ 0 0 _
  refine x_ifne (tgt := 223) rfl rfl (ti_ne rfl jk_0 ⟨fun c11 => ?_, fun c11 => ?_⟩)
  ·
    rw [if_neg (by omega)] at D
    refine x_aloadn (x := 95) rfl rfl ?_
    refine x_iload (x := 7) rfl rfl ?_
    refine x_inv (N := m_X2_emit) (As := [.int 7]) (b := 95) (st := []) (dx9 := 1) (mc := 0) (ms := 0) (host := "") 2 rfl t_X2_emit ⟨Or.inl q_2_89, i_X2_emit.1, i_X2_emit.2⟩ ⟨by decide, rfl⟩ (congrArg Prod.fst (J.1.1 95 (2, 6) rfl)) rfl (by decide) rfl rfl ⟨by decide, by decide⟩ (sf_X2_emit_r95d  hD J rfl  (fun h J S12 X13 => ?_))
    have Sm := jSm_tr rfl Sm S12
    try rw [jk_7] at X13
    rw [X13] at D
    show jX m_X2_readPlain 17 0 0 229 [(4, .int 7), (0, .ref 95), (1, .int 3), (2, .int l2)] [] _ 0 0 _
    exact jX.sub (jsb_c rfl (jsb_c rfl jsb_n)) (ct_X2_readPlain_r95_c3d_229 hD hQ  l2 u7 u6 h (jr_of rfl (by omega)) (jr_of rfl (by omega)) (jr_of rfl (by omega)) (by omega) (jmc S12 rfl qu7) (jmc S12 rfl qu6) J Sm D)
  ·
    rw [if_pos (by omega)] at D
    refine x_iconst (v := 0) rfl ki_0 ?_
    refine x_zret rfl rfl (by decide) ?_
    exact hQ _ _ (jr_of jk_0 (by omega)) J Sm _ _ qu6 qu7 (by omega) ((congrArg Prod.fst D).symm.trans (show 0 = (0 : Int32).toInt from by have := jk_0; omega)) (congrArg Prod.snd D).symm
set_option maxRecDepth 100000 in
set_option maxHeartbeats 4000000 in
theorem ct_X2_readPlain_r95_c3d_108 {Dy : jH → Prop} {h0 : jH} {Q : Option Value → jH → Prop} {dr : (Int × jW)} (hD : jDk Dy) (hQ : ∀ (v : Int32) hx9, 0 ≤ v.toInt ∧ v.toInt ≤ 1 → jJ jSgX Dy hx9 → jSm fp_X2_readPlain_r95_c3d h0 hx9 → ∀ u0 u1 : Int32, jiv hx9 68 5 = u0 → jiv hx9 68 3 = u1 → (u0.toInt ≠ 3 ∨ u1.toInt ≤ 399) → dr.1 = v.toInt → dr.2 = vw hx9 → Q (some (.int v)) hx9) : ∀ (g0 : Int32) (g1 : Int32) (h : jH), 0 ≤ g0.toInt ∧ g0.toInt ≤ 400 → 0 ≤ g1.toInt ∧ g1.toInt ≤ 3 → (g1.toInt ≠ 3 ∨ g0.toInt ≤ 399) → jiv h 68 3 = g0 → jiv h 68 5 = g1 → jJ jSgX Dy h → jSm fp_X2_readPlain_r95_c3d h0 h → d_X2_readPlain_r95_c3d_108  (vw h) = dr → jX m_X2_readPlain 17 0 0 108 [] [] h 0 0 Q := by
  intro g0 g1 h y0 y1 y2 z0 z1  J Sm D
  unfold d_X2_readPlain_r95_c3d_108 at D
  try rw [vrf z0] at D
  try rw [vrf z1] at D
  refine x_iconst (v := 0) rfl ki_0 ?_
  refine x_zret rfl rfl (by decide) ?_
  exact hQ _ _ (jr_of jk_0 (by omega)) J Sm _ _ z1 z0 (by omega) ((congrArg Prod.fst D).symm.trans (show 0 = (0 : Int32).toInt from by have := jk_0; omega)) (congrArg Prod.snd D).symm
set_option maxRecDepth 100000 in
set_option maxHeartbeats 4000000 in
theorem ct_X2_readPlain_r95_c3d_46 {Dy : jH → Prop} {h0 : jH} {Q : Option Value → jH → Prop} {dr : (Int × jW)} (hD : jDk Dy) (hQ : ∀ (v : Int32) hx9, 0 ≤ v.toInt ∧ v.toInt ≤ 1 → jJ jSgX Dy hx9 → jSm fp_X2_readPlain_r95_c3d h0 hx9 → ∀ u0 u1 : Int32, jiv hx9 68 5 = u0 → jiv hx9 68 3 = u1 → (u0.toInt ≠ 3 ∨ u1.toInt ≤ 399) → dr.1 = v.toInt → dr.2 = vw hx9 → Q (some (.int v)) hx9) : ∀ (l2 : Int32) (g0 : Int32) (g1 : Int32) (h : jH), 0 ≤ l2.toInt ∧ l2.toInt ≤ 1 → 0 ≤ g0.toInt ∧ g0.toInt ≤ 400 → 0 ≤ g1.toInt ∧ g1.toInt ≤ 3 → (g1.toInt ≠ 3 ∨ g0.toInt ≤ 399) → jiv h 68 3 = g0 → jiv h 68 5 = g1 → jJ jSgX Dy h → jSm fp_X2_readPlain_r95_c3d h0 h → d_X2_readPlain_r95_c3d_46  l2.toInt (vw h) = dr → jX m_X2_readPlain 17 0 0 46 [(0, .ref 95), (1, .int 3), (2, .int l2)] [] h 0 0 Q := by
  intro l2 g0 g1 h y0 y1 y2 y3 z0 z1  J Sm D
  unfold d_X2_readPlain_r95_c3d_46 at D
  try rw [vrf z0] at D
  try rw [vrf z1] at D
  refine x_aloadn (x := 95) rfl rfl ?_
  refine z_getR (N := 6) (b := 68) 2 0 rfl f_2_30 rfl J rfl 12160 ⟨rfl, rfl⟩ rfl ?_
  refine x_ldcS (jstr.getD 10 jstr_0) rfl (List.mem_of_getElem? (i := 10) rfl) rfl rfl ?_
  show jX m_X2_readPlain 17 0 0 52 [(0, .ref 95), (1, .int 3), (2, .int l2)] [.ref 15, .ref 68] _ 0 0 _
  refine x_inv (N := m_X9_wordOf) (As := [.ref 15]) (b := 68) (st := []) (dx9 := 4) (mc := 0) (ms := 0) (host := "") 9 rfl t_X9_wordOf ⟨Or.inl q_2_67, i_X9_wordOf.1, i_X9_wordOf.2⟩ ⟨by decide, rfl⟩ (congrArg Prod.fst (J.1.1 68 (9, 6) rfl)) rfl (by decide) rfl rfl ⟨by decide, by decide⟩ (sf_X9_wordOf_r68_r15d  hD J rfl  (fun v4 h J S1 X2 X3 => ?_))
  have ev4 := jfull v4
  have Sm := jSm_tr rfl Sm S1
  try rw [X2] at D
  try rw [← X3] at D
  show jX m_X2_readPlain 17 0 0 55 [(0, .ref 95), (1, .int 3), (2, .int l2)] [.int v4] _ 0 0 _
  refine x_istoren (lsx9 := [(3, .int v4), (0, .ref 95), (1, .int 3), (2, .int l2)]) rfl rfl rfl ?_
  refine x_aloadn (x := 95) rfl rfl ?_
  refine z_getR (N := 6) (b := 68) 2 0 rfl f_2_30 rfl J rfl 12160 ⟨rfl, rfl⟩ rfl ?_
  refine x_bipush (v := 40) rfl kb_40 ?_
  refine x_inv (N := m_X9_isSign) (As := [.int 40]) (b := 68) (st := []) (dx9 := 1) (mc := 0) (ms := 0) (host := "") 9 rfl t_X9_isSign ⟨Or.inl q_2_55, i_X9_isSign.1, i_X9_isSign.2⟩ ⟨by decide, rfl⟩ (congrArg Prod.fst (J.1.1 68 (9, 6) rfl)) rfl (by decide) rfl rfl ⟨by decide, by decide⟩ (sf_X9_isSign_r68d (jr_of jk_40 (by omega)) hD J (jmc S1 rfl z1) (jmc S1 rfl z0) (by omega) rfl  (fun v10 h ev10 J S5 u6 u7 qu6 qu7 ru6 X8 X9 => ?_))
  have Sm := jSm_tr rfl Sm S5
  try rw [jk_40] at X8
  try rw [X8] at D
  try rw [← X9] at D
  have eu6 := (show 0 ≤ u6.toInt ∧ u6.toInt ≤ 3 from qu6 ▸ jrg_f J sg_68_5_6_1_0_1)
  have Luu6 := congrArg Int32.toInt (((jmc S5 rfl (jmc S1 rfl z1))).symm.trans qu6)
  try rw [Luu6] at D
  try rw [vrf qu6] at D
  have eu7 := (show 0 ≤ u7.toInt ∧ u7.toInt ≤ 400 from qu7 ▸ jrg_f J sg_68_3_4_1_0_1)
  have Luu7 := congrArg Int32.toInt (((jmc S5 rfl (jmc S1 rfl z0))).symm.trans qu7)
  try rw [Luu7] at D
  try rw [vrf qu7] at D
  show jX m_X2_readPlain 17 0 0 65 [(3, .int v4), (0, .ref 95), (1, .int 3), (2, .int l2)] [.int v10] _ 0 0 _
  refine x_ifeq (tgt := 110) rfl rfl (ti_eq rfl jk_0 ⟨fun c11 => ?_, fun c11 => ?_⟩)
  ·
    rw [if_pos (by omega)] at D
    refine x_iloadn (x := v4) rfl rfl ?_
    refine x_iconst (v := (-1)) rfl ki_m1 ?_
    refine x_iceq (tgt := 128) rfl rfl (ti_eq rfl jk_m1 ⟨fun c12 => ?_, fun c12 => ?_⟩)
    ·
      rw [if_pos (by omega)] at D
      refine x_aloadn (x := 95) rfl rfl ?_
      refine x_iloadn (x := 3) rfl rfl ?_
      refine x_inv (N := m_X2_readSum) (As := [.int 3]) (b := 95) (st := []) (dx9 := 16) (mc := 0) (ms := 0) (host := "") 2 rfl t_X2_readSum ⟨Or.inl q_2_86, i_X2_readSum.1, i_X2_readSum.2⟩ ⟨by decide, rfl⟩ (congrArg Prod.fst (J.1.1 95 (2, 6) rfl)) rfl (by decide) rfl rfl ⟨by decide, by decide⟩ (sf_X2_readSum_r95_c3d  hD J qu6 qu7 (by omega) rfl  (fun v18 h ev18 J S13 u14 u15 qu14 qu15 ru14 X16 X17 => ?_))
      have Sm := jSm_tr rfl Sm S13
      try rw [X16] at D
      try rw [X17] at D
      have eu14 := (show 0 ≤ u14.toInt ∧ u14.toInt ≤ 3 from qu14 ▸ jrg_f J sg_68_5_6_1_0_1)
      try rw [vrf qu14] at D
      have eu15 := (show 0 ≤ u15.toInt ∧ u15.toInt ≤ 400 from qu15 ▸ jrg_f J sg_68_3_4_1_0_1)
      try rw [vrf qu15] at D
      show jX m_X2_readPlain 17 0 0 133 [(3, .int v4), (0, .ref 95), (1, .int 3), (2, .int l2)] [.int v18] _ 0 0 _
      refine x_ifne (tgt := 138) rfl rfl (ti_ne rfl jk_0 ⟨fun c19 => ?_, fun c19 => ?_⟩)
      ·
        rw [if_neg (by omega)] at D
        refine x_aloadn (x := 95) rfl rfl ?_
        refine z_getR (N := 6) (b := 68) 2 0 rfl f_2_30 rfl J rfl 12160 ⟨rfl, rfl⟩ rfl ?_
        refine x_bipush (v := 60) rfl kb_60 ?_
        refine x_inv (N := m_X9_isSign) (As := [.int 60]) (b := 68) (st := []) (dx9 := 1) (mc := 0) (ms := 0) (host := "") 9 rfl t_X9_isSign ⟨Or.inl q_2_55, i_X9_isSign.1, i_X9_isSign.2⟩ ⟨by decide, rfl⟩ (congrArg Prod.fst (J.1.1 68 (9, 6) rfl)) rfl (by decide) rfl rfl ⟨by decide, by decide⟩ (sf_X9_isSign_r68d (jr_of jk_60 (by omega)) hD J qu14 qu15 (by omega) rfl  (fun v25 h ev25 J S20 u21 u22 qu21 qu22 ru21 X23 X24 => ?_))
        have Sm := jSm_tr rfl Sm S20
        try rw [jk_60] at X23
        try rw [X23] at D
        try rw [← X24] at D
        have eu21 := (show 0 ≤ u21.toInt ∧ u21.toInt ≤ 3 from qu21 ▸ jrg_f J sg_68_5_6_1_0_1)
        have Luu21 := congrArg Int32.toInt (((jmc S20 rfl qu14)).symm.trans qu21)
        try rw [Luu21] at D
        try rw [vrf qu21] at D
        have eu22 := (show 0 ≤ u22.toInt ∧ u22.toInt ≤ 400 from qu22 ▸ jrg_f J sg_68_3_4_1_0_1)
        have Luu22 := congrArg Int32.toInt (((jmc S20 rfl qu15)).symm.trans qu22)
        try rw [Luu22] at D
        try rw [vrf qu22] at D
        show jX m_X2_readPlain 17 0 0 147 [(3, .int v4), (0, .ref 95), (1, .int 3), (2, .int l2)] [.int v25] _ 0 0 _
        refine x_ifeq (tgt := 155) rfl rfl (ti_eq rfl jk_0 ⟨fun c26 => ?_, fun c26 => ?_⟩)
        ·
          rw [if_pos (by omega)] at D
          refine x_aloadn (x := 95) rfl rfl ?_
          refine z_getR (N := 6) (b := 68) 2 0 rfl f_2_30 rfl J rfl 12160 ⟨rfl, rfl⟩ rfl ?_
          refine x_bipush (v := 62) rfl kb_62 ?_
          refine x_inv (N := m_X9_isSign) (As := [.int 62]) (b := 68) (st := []) (dx9 := 1) (mc := 0) (ms := 0) (host := "") 9 rfl t_X9_isSign ⟨Or.inl q_2_55, i_X9_isSign.1, i_X9_isSign.2⟩ ⟨by decide, rfl⟩ (congrArg Prod.fst (J.1.1 68 (9, 6) rfl)) rfl (by decide) rfl rfl ⟨by decide, by decide⟩ (sf_X9_isSign_r68d (jr_of jk_62 (by omega)) hD J qu21 qu22 (by omega) rfl  (fun v32 h ev32 J S27 u28 u29 qu28 qu29 ru28 X30 X31 => ?_))
          have Sm := jSm_tr rfl Sm S27
          try rw [jk_62] at X30
          try rw [X30] at D
          try rw [← X31] at D
          have eu28 := (show 0 ≤ u28.toInt ∧ u28.toInt ≤ 3 from qu28 ▸ jrg_f J sg_68_5_6_1_0_1)
          have Luu28 := congrArg Int32.toInt (((jmc S27 rfl qu21)).symm.trans qu28)
          try rw [Luu28] at D
          try rw [vrf qu28] at D
          have eu29 := (show 0 ≤ u29.toInt ∧ u29.toInt ≤ 400 from qu29 ▸ jrg_f J sg_68_3_4_1_0_1)
          have Luu29 := congrArg Int32.toInt (((jmc S27 rfl qu22)).symm.trans qu29)
          try rw [Luu29] at D
          try rw [vrf qu29] at D
          show jX m_X2_readPlain 17 0 0 164 [(3, .int v4), (0, .ref 95), (1, .int 3), (2, .int l2)] [.int v32] _ 0 0 _
          refine x_ifeq (tgt := 172) rfl rfl (ti_eq rfl jk_0 ⟨fun c33 => ?_, fun c33 => ?_⟩)
          ·
            rw [if_pos (by omega)] at D
            refine x_aloadn (x := 95) rfl rfl ?_
            refine z_getR (N := 6) (b := 68) 2 0 rfl f_2_30 rfl J rfl 12160 ⟨rfl, rfl⟩ rfl ?_
            refine x_bipush (v := 61) rfl kb_61 ?_
            refine x_inv (N := m_X9_isSign) (As := [.int 61]) (b := 68) (st := []) (dx9 := 1) (mc := 0) (ms := 0) (host := "") 9 rfl t_X9_isSign ⟨Or.inl q_2_55, i_X9_isSign.1, i_X9_isSign.2⟩ ⟨by decide, rfl⟩ (congrArg Prod.fst (J.1.1 68 (9, 6) rfl)) rfl (by decide) rfl rfl ⟨by decide, by decide⟩ (sf_X9_isSign_r68d (jr_of jk_61 (by omega)) hD J qu28 qu29 (by omega) rfl  (fun v39 h ev39 J S34 u35 u36 qu35 qu36 ru35 X37 X38 => ?_))
            have Sm := jSm_tr rfl Sm S34
            try rw [jk_61] at X37
            try rw [X37] at D
            try rw [← X38] at D
            have eu35 := (show 0 ≤ u35.toInt ∧ u35.toInt ≤ 3 from qu35 ▸ jrg_f J sg_68_5_6_1_0_1)
            have Luu35 := congrArg Int32.toInt (((jmc S34 rfl qu28)).symm.trans qu35)
            try rw [Luu35] at D
            try rw [vrf qu35] at D
            have eu36 := (show 0 ≤ u36.toInt ∧ u36.toInt ≤ 400 from qu36 ▸ jrg_f J sg_68_3_4_1_0_1)
            have Luu36 := congrArg Int32.toInt (((jmc S34 rfl qu29)).symm.trans qu36)
            try rw [Luu36] at D
            try rw [vrf qu36] at D
            show jX m_X2_readPlain 17 0 0 181 [(3, .int v4), (0, .ref 95), (1, .int 3), (2, .int l2)] [.int v39] _ 0 0 _
            refine x_ifeq (tgt := 189) rfl rfl (ti_eq rfl jk_0 ⟨fun c40 => ?_, fun c40 => ?_⟩)
            ·
              rw [if_pos (by omega)] at D
              refine x_iconst (v := (-1)) rfl ki_m1 ?_
              exact jX.sub (jsb_c rfl (jsb_c rfl (jsb_c rfl jsb_n))) (ct_X2_readPlain_r95_c3d_100190 hD hQ  l2 u36 u35 h (jr_of rfl (by omega)) (jr_of rfl (by omega)) (jr_of rfl (by omega)) (by omega) qu36 qu35 J Sm D)
            ·
              rw [if_neg (by omega)] at D
              refine x_bipush (v := 9) rfl kb_9 ?_
              refine x_goto (tgt := 190) rfl rfl ?_
              exact jX.sub (jsb_c rfl (jsb_c rfl (jsb_c rfl jsb_n))) (ct_X2_readPlain_r95_c3d_190 hD hQ  l2 u36 u35 h (jr_of rfl (by omega)) (jr_of rfl (by omega)) (jr_of rfl (by omega)) (by omega) qu36 qu35 J Sm D)
          ·
            rw [if_neg (by omega)] at D
            refine x_bipush (v := 8) rfl kb_8 ?_
            refine x_goto (tgt := 190) rfl rfl ?_
            exact jX.sub (jsb_c rfl (jsb_c rfl (jsb_c rfl jsb_n))) (ct_X2_readPlain_r95_c3d_1000190 hD hQ  l2 u29 u28 h (jr_of rfl (by omega)) (jr_of rfl (by omega)) (jr_of rfl (by omega)) (by omega) qu29 qu28 J Sm D)
        ·
          rw [if_neg (by omega)] at D
          refine x_bipush (v := 7) rfl kb_7 ?_
          refine x_goto (tgt := 190) rfl rfl ?_
          exact jX.sub (jsb_c rfl (jsb_c rfl (jsb_c rfl jsb_n))) (ct_X2_readPlain_r95_c3d_900190 hD hQ  l2 u22 u21 h (jr_of rfl (by omega)) (jr_of rfl (by omega)) (jr_of rfl (by omega)) (by omega) qu22 qu21 J Sm D)
      ·
        rw [if_pos (by omega)] at D
        refine x_iconst (v := 0) rfl ki_0 ?_
        refine x_zret rfl rfl (by decide) ?_
        exact hQ _ _ (jr_of jk_0 (by omega)) J Sm _ _ qu14 qu15 (by omega) ((congrArg Prod.fst D).symm.trans (show 0 = (0 : Int32).toInt from by have := jk_0; omega)) (congrArg Prod.snd D).symm
    ·
      rw [if_neg (by omega)] at D
      refine x_aloadn (x := 95) rfl rfl ?_
      refine x_iconst (v := 2) rfl ki_2 ?_
      refine x_iconst (v := 5) rfl ki_5 ?_
      refine x_iloadn (x := v4) rfl rfl ?_
      refine z_iaddW rfl jk_5 rfl (fun v41 ev41 => ?_)
      have fv41 := jfull v41
      try rw [← ev41] at D
      refine x_inv (N := m_X2_readPart) (As := [.int 2, .int v41]) (b := 95) (st := []) (dx9 := 3) (mc := 0) (ms := 0) (host := "") 2 rfl t_X2_readPart ⟨Or.inl q_2_141, i_X2_readPart.1, i_X2_readPart.2⟩ ⟨by decide, rfl⟩ (congrArg Prod.fst (J.1.1 95 (2, 6) rfl)) rfl (by decide) rfl rfl ⟨by decide, by decide⟩ (sf_X2_readPart_r95d (jr_of jk_2 (by omega)) hD J qu6 qu7 (by omega) rfl  (fun v47 h ev47 J S42 u43 u44 qu43 qu44 ru43 X45 X46 => ?_))
      have Sm := jSm_tr rfl Sm S42
      try rw [jk_2] at X45
      try rw [jk_2] at X46
      try rw [X45] at D
      try rw [X46] at D
      have eu43 := (show 0 ≤ u43.toInt ∧ u43.toInt ≤ 3 from qu43 ▸ jrg_f J sg_68_5_6_1_0_1)
      try rw [vrf qu43] at D
      have eu44 := (show 0 ≤ u44.toInt ∧ u44.toInt ≤ 400 from qu44 ▸ jrg_f J sg_68_3_4_1_0_1)
      try rw [vrf qu44] at D
      show jX m_X2_readPlain 17 0 0 123 [(3, .int v4), (0, .ref 95), (1, .int 3), (2, .int l2)] [.int v47] _ 0 0 _
      refine x_ifne (tgt := 229) rfl rfl (ti_ne rfl jk_0 ⟨fun c48 => ?_, fun c48 => ?_⟩)
      ·
        rw [if_neg (by omega)] at D
        exact jX.sub (jsb_c rfl (jsb_c rfl jsb_n)) (ct_X2_readPlain_r95_c3d_229 hD hQ  l2 u44 u43 h (jr_of rfl (by omega)) (jr_of rfl (by omega)) (jr_of rfl (by omega)) (by omega) qu44 qu43 J Sm D)
      ·
        rw [if_pos (by omega)] at D
        refine x_iconst (v := 0) rfl ki_0 ?_
        refine x_zret rfl rfl (by decide) ?_
        exact hQ _ _ (jr_of jk_0 (by omega)) J Sm _ _ qu43 qu44 (by omega) ((congrArg Prod.fst D).symm.trans (show 0 = (0 : Int32).toInt from by have := jk_0; omega)) (congrArg Prod.snd D).symm
  ·
    rw [if_neg (by omega)] at D
    refine x_iloadn (x := 3) rfl rfl ?_
    refine x_bipush (v := 8) rfl kb_8 ?_
    refine x_iclt (tgt := 82) rfl rfl (ti_lt jk_3 jk_8 (br_t (by omega) ?_))
    refine x_aloadn (x := 95) rfl rfl ?_
    refine z_getR (N := 6) (b := 68) 2 0 rfl f_2_30 rfl J rfl 12160 ⟨rfl, rfl⟩ rfl ?_
    refine x_inv (N := m_X9_step) (As := []) (b := 68) (st := []) (dx9 := 2) (mc := 0) (ms := 0) (host := "") 9 rfl t_X9_step ⟨Or.inl q_2_62, i_X9_step.1, i_X9_step.2⟩ ⟨by decide, rfl⟩ (congrArg Prod.fst (J.1.1 68 (9, 6) rfl)) rfl (by decide) rfl rfl ⟨by decide, by decide⟩ (sf_X9_step_r68d  hD J qu6 qu7 (by omega) rfl  (fun h J S49 u50 u51 qu50 qu51 ru50 X52 => ?_))
    have Sm := jSm_tr rfl Sm S49
    rw [X52] at D
    have eu50 := (show 0 ≤ u50.toInt ∧ u50.toInt ≤ 3 from qu50 ▸ jrg_f J sg_68_5_6_1_0_1)
    try rw [vrf qu50] at D
    have eu51 := (show 0 ≤ u51.toInt ∧ u51.toInt ≤ 400 from qu51 ▸ jrg_f J sg_68_3_4_1_0_1)
    try rw [vrf qu51] at D
    show jX m_X2_readPlain 17 0 0 89 [(3, .int v4), (0, .ref 95), (1, .int 3), (2, .int l2)] [] _ 0 0 _
    refine x_aloadn (x := 95) rfl rfl ?_
    refine x_iloadn (x := 3) rfl rfl ?_
    refine x_iconst (v := 1) rfl ki_1 ?_
    refine y_iadd (v := 4) rfl (by decide) ?_
    refine x_inv (N := m_X2_readTest) (As := [.int 4]) (b := 95) (st := []) (dx9 := 16) (mc := 0) (ms := 0) (host := "") 2 rfl t_X2_readTest ⟨Or.inl q_2_96, i_X2_readTest.1, i_X2_readTest.2⟩ ⟨by decide, rfl⟩ (congrArg Prod.fst (J.1.1 95 (2, 6) rfl)) rfl (by decide) rfl rfl ⟨by decide, by decide⟩ (sf_X2_readTest_r95_c4d  hD J qu50 qu51 (by omega) rfl  (fun v58 h ev58 J S53 u54 u55 qu54 qu55 ru54 X56 X57 => ?_))
    have Sm := jSm_tr rfl Sm S53
    try rw [X56] at D
    try rw [X57] at D
    have eu54 := (show 0 ≤ u54.toInt ∧ u54.toInt ≤ 3 from qu54 ▸ jrg_f J sg_68_5_6_1_0_1)
    try rw [vrf qu54] at D
    have eu55 := (show 0 ≤ u55.toInt ∧ u55.toInt ≤ 400 from qu55 ▸ jrg_f J sg_68_3_4_1_0_1)
    try rw [vrf qu55] at D
    show jX m_X2_readPlain 17 0 0 96 [(3, .int v4), (0, .ref 95), (1, .int 3), (2, .int l2)] [.int v58] _ 0 0 _
    refine x_ifeq (tgt := 108) rfl rfl (ti_eq rfl jk_0 ⟨fun c59 => ?_, fun c59 => ?_⟩)
    ·
      rw [if_pos (by omega)] at D
      exact jX.sub jsb_n (ct_X2_readPlain_r95_c3d_108 hD hQ  u55 u54 h (jr_of rfl (by omega)) (jr_of rfl (by omega)) (by omega) qu55 qu54 J Sm D)
    ·
      rw [if_neg (by omega)] at D
      refine x_aloadn (x := 95) rfl rfl ?_
      refine x_bipush (v := 41) rfl kb_41 ?_
      refine x_inv (N := m_X2_readSign) (As := [.int 41]) (b := 95) (st := []) (dx9 := 16) (mc := 0) (ms := 0) (host := "") 2 rfl t_X2_readSign ⟨Or.inl q_2_138, i_X2_readSign.1, i_X2_readSign.2⟩ ⟨by decide, rfl⟩ (congrArg Prod.fst (J.1.1 95 (2, 6) rfl)) rfl (by decide) rfl rfl ⟨by decide, by decide⟩ (jC.of rfl k_X2_readSign rfl ?_)
      show jX m_X2_readSign 16 0 0 0 [(0, .ref 95), (1, .int 41)] [] _ 0 0 _
      refine x_aloadn (x := 95) rfl rfl ?_
      refine z_getR (N := 6) (b := 68) 2 0 rfl f_2_30 rfl J rfl 12160 ⟨rfl, rfl⟩ rfl ?_
      refine x_iloadn (x := 41) rfl rfl ?_
      refine x_inv (N := m_X9_isSign) (As := [.int 41]) (b := 68) (st := []) (dx9 := 1) (mc := 0) (ms := 0) (host := "") 9 rfl t_X9_isSign ⟨Or.inl q_2_55, i_X9_isSign.1, i_X9_isSign.2⟩ ⟨by decide, rfl⟩ (congrArg Prod.fst (J.1.1 68 (9, 6) rfl)) rfl (by decide) rfl rfl ⟨by decide, by decide⟩ (sf_X9_isSign_r68d (jr_of jk_41 (by omega)) hD J qu54 qu55 (by omega) rfl  (fun v65 h ev65 J S60 u61 u62 qu61 qu62 ru61 X63 X64 => ?_))
      have Sm := jSm_tr rfl Sm S60
      try rw [jk_41] at X63
      try rw [X63] at D
      try rw [← X64] at D
      have eu61 := (show 0 ≤ u61.toInt ∧ u61.toInt ≤ 3 from qu61 ▸ jrg_f J sg_68_5_6_1_0_1)
      have Luu61 := congrArg Int32.toInt (((jmc S60 rfl qu54)).symm.trans qu61)
      try rw [Luu61] at D
      try rw [vrf qu61] at D
      have eu62 := (show 0 ≤ u62.toInt ∧ u62.toInt ≤ 400 from qu62 ▸ jrg_f J sg_68_3_4_1_0_1)
      have Luu62 := congrArg Int32.toInt (((jmc S60 rfl qu55)).symm.trans qu62)
      try rw [Luu62] at D
      try rw [vrf qu62] at D
      show jX m_X2_readSign 16 0 0 8 [(0, .ref 95), (1, .int 41)] [.int v65] _ 0 0 _
      refine x_ifne (tgt := 19) rfl rfl (ti_ne rfl jk_0 ⟨fun c66 => ?_, fun c66 => ?_⟩)
      ·
        rw [if_neg (by omega)] at D
        refine x_aloadn (x := 95) rfl rfl ?_
        refine z_getR (N := 6) (b := 68) 2 0 rfl f_2_30 rfl J rfl 12160 ⟨rfl, rfl⟩ rfl ?_
        refine x_inv (N := m_X9_step) (As := []) (b := 68) (st := []) (dx9 := 2) (mc := 0) (ms := 0) (host := "") 9 rfl t_X9_step ⟨Or.inl q_2_62, i_X9_step.1, i_X9_step.2⟩ ⟨by decide, rfl⟩ (congrArg Prod.fst (J.1.1 68 (9, 6) rfl)) rfl (by decide) rfl rfl ⟨by decide, by decide⟩ (sf_X9_step_r68d  hD J qu61 qu62 (by omega) rfl  (fun h J S67 u68 u69 qu68 qu69 ru68 X70 => ?_))
        have Sm := jSm_tr rfl Sm S67
        rw [X70] at D
        have eu68 := (show 0 ≤ u68.toInt ∧ u68.toInt ≤ 3 from qu68 ▸ jrg_f J sg_68_5_6_1_0_1)
        try rw [vrf qu68] at D
        have eu69 := (show 0 ≤ u69.toInt ∧ u69.toInt ≤ 400 from qu69 ▸ jrg_f J sg_68_3_4_1_0_1)
        try rw [vrf qu69] at D
        show jX m_X2_readSign 16 0 0 26 [(0, .ref 95), (1, .int 41)] [] _ 0 0 _
        refine x_iconst (v := 1) rfl ki_1 ?_
        refine x_zret rfl rfl (by decide) ?_
        show jX m_X2_readPlain 17 0 0 105 [(3, .int v4), (0, .ref 95), (1, .int 3), (2, .int l2)] [.int 1] _ 0 0 _
        refine x_ifne (tgt := 229) rfl rfl (ti_ne jk_1 jk_0 (bn_t (by omega) ?_))
        exact jX.sub (jsb_c rfl (jsb_c rfl jsb_n)) (ct_X2_readPlain_r95_c3d_229 hD hQ  l2 u69 u68 h (jr_of rfl (by omega)) (jr_of rfl (by omega)) (jr_of rfl (by omega)) (by omega) qu69 qu68 J Sm D)
      ·
        rw [if_pos (by omega)] at D
        refine x_aloadn (x := 95) rfl rfl ?_
        refine z_getR (N := 6) (b := 68) 2 0 rfl f_2_30 rfl J rfl 12160 ⟨rfl, rfl⟩ rfl ?_
        refine x_inv (N := m_X9_blame) (As := []) (b := 68) (st := []) (dx9 := 15) (mc := 0) (ms := 0) (host := "") 9 rfl t_X9_blame ⟨Or.inl q_2_59, i_X9_blame.1, i_X9_blame.2⟩ ⟨by decide, rfl⟩ (congrArg Prod.fst (J.1.1 68 (9, 6) rfl)) rfl (by decide) rfl rfl ⟨by decide, by decide⟩ (jC.of rfl k_X9_blame rfl ?_)
        show jX m_X9_blame 15 0 0 0 [(0, .ref 68)] [] _ 0 0 _
        refine x_aloadn (x := 68) rfl rfl ?_
        refine x_aloadn (x := 68) rfl rfl ?_
        refine z_getM (N := 6) (v := u62) 9 3 rfl f_9_22 rfl J rfl qu62 ?_
        refine z_putI (N := 6) (w := u62.toInt) 9 2 rfl f_9_19 rfl (jfin_no TX9 RX9 6 rfl rfl) hD J Sm rfl rfl rfl (pw_68_2 (by omega)) rfl (fun h w71 J Sm => ?_)
        rw [vwf w71 (show u62.toInt = u62.toInt from by omega)] at D
        refine x_iconst (v := 0) rfl ki_0 ?_
        refine x_zret rfl rfl (by decide) ?_
        show jX m_X2_readSign 16 0 0 18 [(0, .ref 95), (1, .int 41)] [.int 0] _ 0 0 _
        refine x_zret rfl rfl (by decide) ?_
        show jX m_X2_readPlain 17 0 0 105 [(3, .int v4), (0, .ref 95), (1, .int 3), (2, .int l2)] [.int 0] _ 0 0 _
        refine x_ifne (tgt := 229) rfl rfl (ti_ne jk_0 jk_0 (bn_f (by omega) ?_))
        exact jX.sub jsb_n (ct_X2_readPlain_r95_c3d_108 hD hQ  u62 u61 h (jr_of rfl (by omega)) (jr_of rfl (by omega)) (by omega) (jmo w71 rfl qu62) (jmo w71 rfl qu61) J Sm D)
set_option maxRecDepth 100000 in
set_option maxHeartbeats 4000000 in
theorem ct_X2_readPlain_r95_c3d_300032 {Dy : jH → Prop} {h0 : jH} {Q : Option Value → jH → Prop} {dr : (Int × jW)} {K4 : Int → Int → jW → (Int × jW)} {R4 : Int} (hD : jDk Dy) (hQ : ∀ (v : Int32) hx9, 0 ≤ v.toInt ∧ v.toInt ≤ 1 → jJ jSgX Dy hx9 → jSm fp_X2_readPlain_r95_c3d h0 hx9 → ∀ u0 u1 : Int32, jiv hx9 68 5 = u0 → jiv hx9 68 3 = u1 → (u0.toInt ≠ 3 ∨ u1.toInt ≤ 399) → dr.1 = v.toInt → dr.2 = vw hx9 → Q (some (.int v)) hx9) (k4 : ∀ (l2 : Int32) (l3 : Int32) (g0 : Int32) (g1 : Int32) (h : jH), 400 - l3.toInt < R4 → 0 ≤ l2.toInt ∧ l2.toInt ≤ 1 → 0 ≤ l3.toInt ∧ l3.toInt ≤ 400 → 0 ≤ g0.toInt ∧ g0.toInt ≤ 400 → 0 ≤ g1.toInt ∧ g1.toInt ≤ 3 → (g1.toInt ≠ 3 ∨ g0.toInt ≤ 399) → jiv h 68 3 = g0 → jiv h 68 5 = g1 → jJ jSgX Dy h → jSm fp_X2_readPlain_r95_c3d h0 h → K4 l2.toInt l3.toInt (vw h) = dr → jX m_X2_readPlain 17 0 0 4 [(0, .ref 95), (1, .int 3), (2, .int l2), (3, .int l3)] [] h 0 0 Q) : ∀ (l3 : Int32) (g0 : Int32) (g1 : Int32) (h : jH), 0 ≤ l3.toInt ∧ l3.toInt ≤ 399 → 0 ≤ g0.toInt ∧ g0.toInt ≤ 400 → 0 ≤ g1.toInt ∧ g1.toInt ≤ 3 → (g1.toInt ≠ 3 ∨ g0.toInt ≤ 399) → jiv h 68 3 = g0 → jiv h 68 5 = g1 → 400 - l3.toInt ≤ R4 → jJ jSgX Dy h → jSm fp_X2_readPlain_r95_c3d h0 h → d_X2_readPlain_r95_c3d_300032 K4  l3.toInt (vw h) = dr → jX m_X2_readPlain 17 0 0 32 [(0, .ref 95), (1, .int 3), (3, .int l3)] [.int 1] h 0 0 Q := by
  intro l3 g0 g1 h y0 y1 y2 y3 z0 z1 m4 J Sm D
  unfold d_X2_readPlain_r95_c3d_300032 at D
  try rw [vrf z0] at D
  try rw [vrf z1] at D
  refine x_istoren (lsx9 := [(2, .int 1), (0, .ref 95), (1, .int 3), (3, .int l3)]) rfl rfl rfl ?_
  refine x_aloadn (x := 95) rfl rfl ?_
  refine z_getR (N := 6) (b := 68) 2 0 rfl f_2_30 rfl J rfl 12160 ⟨rfl, rfl⟩ rfl ?_
  refine x_inv (N := m_X9_step) (As := []) (b := 68) (st := []) (dx9 := 2) (mc := 0) (ms := 0) (host := "") 9 rfl t_X9_step ⟨Or.inl q_2_62, i_X9_step.1, i_X9_step.2⟩ ⟨by decide, rfl⟩ (congrArg Prod.fst (J.1.1 68 (9, 6) rfl)) rfl (by decide) rfl rfl ⟨by decide, by decide⟩ (sf_X9_step_r68d  hD J z1 z0 (by omega) rfl  (fun h J S1 u2 u3 qu2 qu3 ru2 X4 => ?_))
  have Sm := jSm_tr rfl Sm S1
  rw [X4] at D
  have eu2 := (show 0 ≤ u2.toInt ∧ u2.toInt ≤ 3 from qu2 ▸ jrg_f J sg_68_5_6_1_0_1)
  try rw [vrf qu2] at D
  have eu3 := (show 0 ≤ u3.toInt ∧ u3.toInt ≤ 400 from qu3 ▸ jrg_f J sg_68_3_4_1_0_1)
  try rw [vrf qu3] at D
  show jX m_X2_readPlain 17 0 0 40 [(2, .int 1), (0, .ref 95), (1, .int 3), (3, .int l3)] [] _ 0 0 _
  refine z_iinc (x := l3) (lsx9 := fun v5 => [(3, .int v5), (2, .int 1), (0, .ref 95), (1, .int 3)]) rfl rfl rfl jko_1 (by omega) rfl (fun _ => rfl) (fun v5 ev5 => ?_)
  refine x_goto (tgt := 4) rfl rfl ?_
  try rw [show (l3.toInt + 1) = v5.toInt from by omega] at D
  exact jX.sub (jsb_c rfl (jsb_c rfl (jsb_c rfl (jsb_c rfl jsb_n)))) (k4 1 v5 u3 u2 h (by omega) (jr_of jk_1 (by omega)) (jr_of rfl (by omega)) (jr_of rfl (by omega)) (jr_of rfl (by omega)) (by omega) qu3 qu2 J Sm (by rw [jk_1]; exact D))
set_option maxRecDepth 100000 in
set_option maxHeartbeats 4000000 in
theorem ct_X2_readPlain_r95_c3d_200032 {Dy : jH → Prop} {h0 : jH} {Q : Option Value → jH → Prop} {dr : (Int × jW)} {K4 : Int → Int → jW → (Int × jW)} {R4 : Int} (hD : jDk Dy) (hQ : ∀ (v : Int32) hx9, 0 ≤ v.toInt ∧ v.toInt ≤ 1 → jJ jSgX Dy hx9 → jSm fp_X2_readPlain_r95_c3d h0 hx9 → ∀ u0 u1 : Int32, jiv hx9 68 5 = u0 → jiv hx9 68 3 = u1 → (u0.toInt ≠ 3 ∨ u1.toInt ≤ 399) → dr.1 = v.toInt → dr.2 = vw hx9 → Q (some (.int v)) hx9) (k4 : ∀ (l2 : Int32) (l3 : Int32) (g0 : Int32) (g1 : Int32) (h : jH), 400 - l3.toInt < R4 → 0 ≤ l2.toInt ∧ l2.toInt ≤ 1 → 0 ≤ l3.toInt ∧ l3.toInt ≤ 400 → 0 ≤ g0.toInt ∧ g0.toInt ≤ 400 → 0 ≤ g1.toInt ∧ g1.toInt ≤ 3 → (g1.toInt ≠ 3 ∨ g0.toInt ≤ 399) → jiv h 68 3 = g0 → jiv h 68 5 = g1 → jJ jSgX Dy h → jSm fp_X2_readPlain_r95_c3d h0 h → K4 l2.toInt l3.toInt (vw h) = dr → jX m_X2_readPlain 17 0 0 4 [(0, .ref 95), (1, .int 3), (2, .int l2), (3, .int l3)] [] h 0 0 Q) : ∀ (l3 : Int32) (g0 : Int32) (g1 : Int32) (h : jH), 0 ≤ l3.toInt ∧ l3.toInt ≤ 399 → 0 ≤ g0.toInt ∧ g0.toInt ≤ 400 → 0 ≤ g1.toInt ∧ g1.toInt ≤ 3 → (g1.toInt ≠ 3 ∨ g0.toInt ≤ 399) → jiv h 68 3 = g0 → jiv h 68 5 = g1 → 400 - l3.toInt ≤ R4 → jJ jSgX Dy h → jSm fp_X2_readPlain_r95_c3d h0 h → d_X2_readPlain_r95_c3d_200032 K4  l3.toInt (vw h) = dr → jX m_X2_readPlain 17 0 0 32 [(0, .ref 95), (1, .int 3), (3, .int l3)] [.int 0] h 0 0 Q := by
  intro l3 g0 g1 h y0 y1 y2 y3 z0 z1 m4 J Sm D
  unfold d_X2_readPlain_r95_c3d_200032 at D
  try rw [vrf z0] at D
  try rw [vrf z1] at D
  refine x_istoren (lsx9 := [(2, .int 0), (0, .ref 95), (1, .int 3), (3, .int l3)]) rfl rfl rfl ?_
  refine x_aloadn (x := 95) rfl rfl ?_
  refine z_getR (N := 6) (b := 68) 2 0 rfl f_2_30 rfl J rfl 12160 ⟨rfl, rfl⟩ rfl ?_
  refine x_inv (N := m_X9_step) (As := []) (b := 68) (st := []) (dx9 := 2) (mc := 0) (ms := 0) (host := "") 9 rfl t_X9_step ⟨Or.inl q_2_62, i_X9_step.1, i_X9_step.2⟩ ⟨by decide, rfl⟩ (congrArg Prod.fst (J.1.1 68 (9, 6) rfl)) rfl (by decide) rfl rfl ⟨by decide, by decide⟩ (sf_X9_step_r68d  hD J z1 z0 (by omega) rfl  (fun h J S1 u2 u3 qu2 qu3 ru2 X4 => ?_))
  have Sm := jSm_tr rfl Sm S1
  rw [X4] at D
  have eu2 := (show 0 ≤ u2.toInt ∧ u2.toInt ≤ 3 from qu2 ▸ jrg_f J sg_68_5_6_1_0_1)
  try rw [vrf qu2] at D
  have eu3 := (show 0 ≤ u3.toInt ∧ u3.toInt ≤ 400 from qu3 ▸ jrg_f J sg_68_3_4_1_0_1)
  try rw [vrf qu3] at D
  show jX m_X2_readPlain 17 0 0 40 [(2, .int 0), (0, .ref 95), (1, .int 3), (3, .int l3)] [] _ 0 0 _
  refine z_iinc (x := l3) (lsx9 := fun v5 => [(3, .int v5), (2, .int 0), (0, .ref 95), (1, .int 3)]) rfl rfl rfl jko_1 (by omega) rfl (fun _ => rfl) (fun v5 ev5 => ?_)
  refine x_goto (tgt := 4) rfl rfl ?_
  try rw [show (l3.toInt + 1) = v5.toInt from by omega] at D
  exact jX.sub (jsb_c rfl (jsb_c rfl (jsb_c rfl (jsb_c rfl jsb_n)))) (k4 0 v5 u3 u2 h (by omega) (jr_of jk_0 (by omega)) (jr_of rfl (by omega)) (jr_of rfl (by omega)) (jr_of rfl (by omega)) (by omega) qu3 qu2 J Sm (by rw [jk_0]; exact D))
set_option maxRecDepth 100000 in
set_option maxHeartbeats 4000000 in
theorem ct_X2_readPlain_r95_c3d_4 {Dy : jH → Prop} {h0 : jH} {Q : Option Value → jH → Prop} {dr : (Int × jW)} (hD : jDk Dy) (hQ : ∀ (v : Int32) hx9, 0 ≤ v.toInt ∧ v.toInt ≤ 1 → jJ jSgX Dy hx9 → jSm fp_X2_readPlain_r95_c3d h0 hx9 → ∀ u0 u1 : Int32, jiv hx9 68 5 = u0 → jiv hx9 68 3 = u1 → (u0.toInt ≠ 3 ∨ u1.toInt ≤ 399) → dr.1 = v.toInt → dr.2 = vw hx9 → Q (some (.int v)) hx9) : ∀ r : Nat, ∀ (l2 : Int32) (l3 : Int32) (g0 : Int32) (g1 : Int32) (h : jH), 400 - l3.toInt < (r : Int) → 0 ≤ l2.toInt ∧ l2.toInt ≤ 1 → 0 ≤ l3.toInt ∧ l3.toInt ≤ 400 → 0 ≤ g0.toInt ∧ g0.toInt ≤ 400 → 0 ≤ g1.toInt ∧ g1.toInt ≤ 3 → (g1.toInt ≠ 3 ∨ g0.toInt ≤ 399) → jiv h 68 3 = g0 → jiv h 68 5 = g1 → jJ jSgX Dy h → jSm fp_X2_readPlain_r95_c3d h0 h → d_X2_readPlain_r95_c3d_4 r l2.toInt l3.toInt (vw h) = dr → jX m_X2_readPlain 17 0 0 4 [(0, .ref 95), (1, .int 3), (2, .int l2), (3, .int l3)] [] h 0 0 Q := by
  intro r
  induction r with
  | zero =>
    intro l2 l3 g0 g1 h hm y0 y1 y2 y3 y4 z0 z1  J Sm D
    exfalso
    omega
  | succ r ih =>
    intro l2 l3 g0 g1 h hm y0 y1 y2 y3 y4 z0 z1  J Sm D
    rw [d_X2_readPlain_r95_c3d_4.eq_2] at D
    try rw [vrf z0] at D
    try rw [vrf z1] at D
    refine x_iloadn (x := l3) rfl rfl ?_
    refine x_sipush (v := 400) rfl ks_400 ?_
    refine x_icge (tgt := 46) rfl rfl (ti_ge rfl jk_400 ⟨fun c1 => ?_, fun c1 => ?_⟩)
    ·
      rw [if_pos (by omega)] at D
      exact jX.sub (jsb_c rfl (jsb_c rfl (jsb_c rfl jsb_n))) (ct_X2_readPlain_r95_c3d_46 hD hQ  l2 g0 g1 h (jr_of rfl (by omega)) (jr_of rfl (by omega)) (jr_of rfl (by omega)) (by omega) z0 z1 J Sm D)
    ·
      rw [if_neg (by omega)] at D
      refine x_aloadn (x := 95) rfl rfl ?_
      refine z_getR (N := 6) (b := 68) 2 0 rfl f_2_30 rfl J rfl 12160 ⟨rfl, rfl⟩ rfl ?_
      refine x_ldcS (jstr.getD 9 jstr_0) rfl (List.mem_of_getElem? (i := 9) rfl) rfl rfl ?_
      show jX m_X2_readPlain 17 0 0 17 [(0, .ref 95), (1, .int 3), (2, .int l2), (3, .int l3)] [.ref 14, .ref 68] _ 0 0 _
      refine x_inv (N := m_X9_wordOf) (As := [.ref 14]) (b := 68) (st := []) (dx9 := 4) (mc := 0) (ms := 0) (host := "") 9 rfl t_X9_wordOf ⟨Or.inl q_2_67, i_X9_wordOf.1, i_X9_wordOf.2⟩ ⟨by decide, rfl⟩ (congrArg Prod.fst (J.1.1 68 (9, 6) rfl)) rfl (by decide) rfl rfl ⟨by decide, by decide⟩ (sf_X9_wordOf_r68_r14d  hD J rfl  (fun v5 h J S2 X3 X4 => ?_))
      have ev5 := jfull v5
      have Sm := jSm_tr rfl Sm S2
      try rw [X3] at D
      try rw [← X4] at D
      show jX m_X2_readPlain 17 0 0 20 [(0, .ref 95), (1, .int 3), (2, .int l2), (3, .int l3)] [.int v5] _ 0 0 _
      refine x_ifne (tgt := 46) rfl rfl (ti_ne rfl jk_0 ⟨fun c6 => ?_, fun c6 => ?_⟩)
      ·
        rw [if_neg (by omega)] at D
        exact jX.sub (jsb_c rfl (jsb_c rfl (jsb_c rfl jsb_n))) (ct_X2_readPlain_r95_c3d_46 hD hQ  l2 g0 g1 h (jr_of rfl (by omega)) (jr_of rfl (by omega)) (jr_of rfl (by omega)) (by omega) (jmc S2 rfl z0) (jmc S2 rfl z1) J Sm D)
      ·
        rw [if_pos (by omega)] at D
        refine x_iloadn (x := l2) rfl rfl ?_
        refine x_ifne (tgt := 31) rfl rfl (ti_ne rfl jk_0 ⟨fun c7 => ?_, fun c7 => ?_⟩)
        ·
          rw [if_neg (by omega)] at D
          refine x_iconst (v := 0) rfl ki_0 ?_
          exact jX.sub (jsb_c rfl (jsb_c rfl (jsb_c rfl jsb_n))) (ct_X2_readPlain_r95_c3d_200032 hD hQ ih l3 g0 g1 h (jr_of rfl (by omega)) (jr_of rfl (by omega)) (jr_of rfl (by omega)) (by omega) (jmc S2 rfl z0) (jmc S2 rfl z1) (by omega) J Sm D)
        ·
          rw [if_pos (by omega)] at D
          refine x_iconst (v := 1) rfl ki_1 ?_
          refine x_goto (tgt := 32) rfl rfl ?_
          exact jX.sub (jsb_c rfl (jsb_c rfl (jsb_c rfl jsb_n))) (ct_X2_readPlain_r95_c3d_300032 hD hQ ih l3 g0 g1 h (jr_of rfl (by omega)) (jr_of rfl (by omega)) (jr_of rfl (by omega)) (by omega) (jmc S2 rfl z0) (jmc S2 rfl z1) (by omega) J Sm D)
set_option maxRecDepth 100000 in
set_option maxHeartbeats 4000000 in
theorem sf_X2_readPlain_r95_c3d {Dy : jH → Prop} {h : jH} {Q : Option Value → jH → Prop} {dr : (Int × jW)} (hD : jDk Dy) (J : jJ jSgX Dy h) {p0 p1 : Int32} (zp0 : jiv h 68 5 = p0) (zp1 : jiv h 68 3 = p1) (rl_p0 : (p0.toInt ≠ 3 ∨ p1.toInt ≤ 399)) (D : d_X2_readPlain_r95_c3d (vw h) = dr) (hQ : ∀ (v : Int32) hx9, 0 ≤ v.toInt ∧ v.toInt ≤ 1 → jJ jSgX Dy hx9 → jSm fp_X2_readPlain_r95_c3d h hx9 → ∀ u0 u1 : Int32, jiv hx9 68 5 = u0 → jiv hx9 68 3 = u1 → (u0.toInt ≠ 3 ∨ u1.toInt ≤ 399) → dr.1 = v.toInt → dr.2 = vw hx9 → Q (some (.int v)) hx9) : jC m_X2_readPlain 17 0 0 [.ref 95, .int 3] h Q := by
  refine jC.of rfl k_X2_readPlain rfl ?_
  have Sm := jSm_rf fp_X2_readPlain_r95_c3d h
  have ep0 := (show 0 ≤ p0.toInt ∧ p0.toInt ≤ 3 from zp0 ▸ jrg_f J sg_68_5_6_1_0_1)
  have ep1 := (show 0 ≤ p1.toInt ∧ p1.toInt ≤ 400 from zp1 ▸ jrg_f J sg_68_3_4_1_0_1)
  show jX m_X2_readPlain 17 0 0 0 [(0, .ref 95), (1, .int 3)] [] _ 0 0 _
  unfold d_X2_readPlain_r95_c3d at D
  try rw [vrf zp0] at D
  try rw [vrf zp1] at D
  refine x_iconst (v := 0) rfl ki_0 ?_
  refine x_istoren (lsx9 := [(2, .int 0), (0, .ref 95), (1, .int 3)]) rfl rfl rfl ?_
  refine x_iconst (v := 0) rfl ki_0 ?_
  refine x_istoren (lsx9 := [(3, .int 0), (2, .int 0), (0, .ref 95), (1, .int 3)]) rfl rfl rfl ?_
  exact jX.sub (jsb_c rfl (jsb_c rfl (jsb_c rfl (jsb_c rfl jsb_n)))) (ct_X2_readPlain_r95_c3d_4 hD hQ  401 0 0 p1 p0 h (by have := jk_0; omega) (jr_of jk_0 (by omega)) (jr_of jk_0 (by omega)) (jr_of rfl (by omega)) (jr_of rfl (by omega)) (by omega) zp1 zp0 J Sm (by rw [jk_0]; exact D))
def fp_X2_readTest_r95_c3d : jFp := [(68, 2, 3), (68, 3, 4), (68, 4, 5), (68, 5, 6), (95, 4, 5), (95, 5, 6), (97, 0, 1200)]
set_option maxRecDepth 100000 in
set_option maxHeartbeats 4000000 in
theorem ct_X2_readTest_r95_c3d_77 {Dy : jH → Prop} {h0 : jH} {Q : Option Value → jH → Prop} {dr : (Int × jW)} {K4 : Int → Int → jW → (Int × jW)} {R4 : Int} (hD : jDk Dy) (hQ : ∀ (v : Int32) hx9, 0 ≤ v.toInt ∧ v.toInt ≤ 1 → jJ jSgX Dy hx9 → jSm fp_X2_readTest_r95_c3d h0 hx9 → ∀ u0 u1 : Int32, jiv hx9 68 5 = u0 → jiv hx9 68 3 = u1 → (u0.toInt ≠ 3 ∨ u1.toInt ≤ 399) → dr.1 = v.toInt → dr.2 = vw hx9 → Q (some (.int v)) hx9) (k4 : ∀ (l2 : Int32) (l3 : Int32) (g0 : Int32) (g1 : Int32) (h : jH), 400 - l3.toInt < R4 → (-1) ≤ l2.toInt ∧ l2.toInt ≤ 1199 → 0 ≤ l3.toInt ∧ l3.toInt ≤ 400 → 0 ≤ g0.toInt ∧ g0.toInt ≤ 400 → 0 ≤ g1.toInt ∧ g1.toInt ≤ 3 → (g1.toInt ≠ 3 ∨ g0.toInt ≤ 399) → jiv h 68 3 = g0 → jiv h 68 5 = g1 → jJ jSgX Dy h → jSm fp_X2_readTest_r95_c3d h0 h → K4 l2.toInt l3.toInt (vw h) = dr → jX m_X2_readTest 18 0 0 4 [(0, .ref 95), (1, .int 3), (2, .int l2), (3, .int l3)] [] h 0 0 Q) : ∀ (l2 : Int32) (l3 : Int32) (g0 : Int32) (g1 : Int32) (h : jH), (-1) ≤ l2.toInt ∧ l2.toInt ≤ 1199 → 0 ≤ l3.toInt ∧ l3.toInt ≤ 399 → 0 ≤ g0.toInt ∧ g0.toInt ≤ 400 → 0 ≤ g1.toInt ∧ g1.toInt ≤ 3 → (g1.toInt ≠ 3 ∨ g0.toInt ≤ 399) → jiv h 68 3 = g0 → jiv h 68 5 = g1 → 400 - l3.toInt ≤ R4 → jJ jSgX Dy h → jSm fp_X2_readTest_r95_c3d h0 h → d_X2_readTest_r95_c3d_77 K4  l2.toInt l3.toInt (vw h) = dr → jX m_X2_readTest 18 0 0 77 [(0, .ref 95), (1, .int 3), (2, .int l2), (3, .int l3)] [] h 0 0 Q := by
  intro l2 l3 g0 g1 h y0 y1 y2 y3 y4 z0 z1 m4 J Sm D
  unfold d_X2_readTest_r95_c3d_77 at D
  try rw [vrf z0] at D
  try rw [vrf z1] at D
  refine x_aloadn (x := 95) rfl rfl ?_
  refine x_iloadn (x := l2) rfl rfl ?_
  refine x_inv (N := m_X2_land) (As := [.int l2]) (b := 95) (st := []) (dx9 := 1) (mc := 0) (ms := 0) (host := "") 2 rfl t_X2_land ⟨Or.inl q_2_124, i_X2_land.1, i_X2_land.2⟩ ⟨by decide, rfl⟩ (congrArg Prod.fst (J.1.1 95 (2, 6) rfl)) rfl (by decide) rfl rfl ⟨by decide, by decide⟩ (sf_X2_land_r95d (jr_of rfl (by omega)) hD J rfl  (fun h J S1 X2 => ?_))
  have Sm := jSm_tr rfl Sm S1
  rw [X2] at D
  show jX m_X2_readTest 18 0 0 82 [(0, .ref 95), (1, .int 3), (2, .int l2), (3, .int l3)] [] _ 0 0 _
  refine x_aloadn (x := 95) rfl rfl ?_
  refine z_getR (N := 6) (b := 68) 2 0 rfl f_2_30 rfl J rfl 12160 ⟨rfl, rfl⟩ rfl ?_
  refine x_ldcS (jstr.getD 12 jstr_0) rfl (List.mem_of_getElem? (i := 12) rfl) rfl rfl ?_
  show jX m_X2_readTest 18 0 0 88 [(0, .ref 95), (1, .int 3), (2, .int l2), (3, .int l3)] [.ref 17, .ref 68] _ 0 0 _
  refine x_inv (N := m_X9_wordOf) (As := [.ref 17]) (b := 68) (st := []) (dx9 := 4) (mc := 0) (ms := 0) (host := "") 9 rfl t_X9_wordOf ⟨Or.inl q_2_67, i_X9_wordOf.1, i_X9_wordOf.2⟩ ⟨by decide, rfl⟩ (congrArg Prod.fst (J.1.1 68 (9, 6) rfl)) rfl (by decide) rfl rfl ⟨by decide, by decide⟩ (sf_X9_wordOf_r68_r17d  hD J rfl  (fun v6 h J S3 X4 X5 => ?_))
  have ev6 := jfull v6
  have Sm := jSm_tr rfl Sm S3
  try rw [X4] at D
  try rw [← X5] at D
  show jX m_X2_readTest 18 0 0 91 [(0, .ref 95), (1, .int 3), (2, .int l2), (3, .int l3)] [.int v6] _ 0 0 _
  refine x_ifeq (tgt := 96) rfl rfl (ti_eq rfl jk_0 ⟨fun c7 => ?_, fun c7 => ?_⟩)
  ·
    rw [if_pos (by omega)] at D
    refine x_aloadn (x := 95) rfl rfl ?_
    refine x_bipush (v := 11) rfl kb_11 ?_
    refine x_inv (N := m_X2_leap) (As := [.int 11]) (b := 95) (st := []) (dx9 := 2) (mc := 0) (ms := 0) (host := "") 2 rfl t_X2_leap ⟨Or.inl q_2_129, i_X2_leap.1, i_X2_leap.2⟩ ⟨by decide, rfl⟩ (congrArg Prod.fst (J.1.1 95 (2, 6) rfl)) rfl (by decide) rfl rfl ⟨by decide, by decide⟩ (sf_X2_leap_r95d (jr_of jk_11 (by omega)) hD J rfl  (fun v11 h ev11 J S8 X9 X10 => ?_))
    have Sm := jSm_tr rfl Sm S8
    try rw [jk_11] at X9
    try rw [jk_11] at X10
    try rw [X9] at D
    try rw [X10] at D
    show jX m_X2_readTest 18 0 0 102 [(0, .ref 95), (1, .int 3), (2, .int l2), (3, .int l3)] [.int v11] _ 0 0 _
    refine x_istoren (lsx9 := [(2, .int v11), (0, .ref 95), (1, .int 3), (3, .int l3)]) rfl rfl rfl ?_
    refine x_aloadn (x := 95) rfl rfl ?_
    refine z_getR (N := 6) (b := 68) 2 0 rfl f_2_30 rfl J rfl 12160 ⟨rfl, rfl⟩ rfl ?_
    refine x_inv (N := m_X9_step) (As := []) (b := 68) (st := []) (dx9 := 2) (mc := 0) (ms := 0) (host := "") 9 rfl t_X9_step ⟨Or.inl q_2_62, i_X9_step.1, i_X9_step.2⟩ ⟨by decide, rfl⟩ (congrArg Prod.fst (J.1.1 68 (9, 6) rfl)) rfl (by decide) rfl rfl ⟨by decide, by decide⟩ (sf_X9_step_r68d  hD J (jmc S8 rfl (jmc S3 rfl (jmc S1 rfl z1))) (jmc S8 rfl (jmc S3 rfl (jmc S1 rfl z0))) (by omega) rfl  (fun h J S12 u13 u14 qu13 qu14 ru13 X15 => ?_))
    have Sm := jSm_tr rfl Sm S12
    rw [X15] at D
    have eu13 := (show 0 ≤ u13.toInt ∧ u13.toInt ≤ 3 from qu13 ▸ jrg_f J sg_68_5_6_1_0_1)
    try rw [vrf qu13] at D
    have eu14 := (show 0 ≤ u14.toInt ∧ u14.toInt ≤ 400 from qu14 ▸ jrg_f J sg_68_3_4_1_0_1)
    try rw [vrf qu14] at D
    show jX m_X2_readTest 18 0 0 110 [(2, .int v11), (0, .ref 95), (1, .int 3), (3, .int l3)] [] _ 0 0 _
    refine z_iinc (x := l3) (lsx9 := fun v16 => [(3, .int v16), (2, .int v11), (0, .ref 95), (1, .int 3)]) rfl rfl rfl jko_1 (by omega) rfl (fun _ => rfl) (fun v16 ev16 => ?_)
    refine x_goto (tgt := 4) rfl rfl ?_
    try rw [show (l3.toInt + 1) = v16.toInt from by omega] at D
    exact jX.sub (jsb_c rfl (jsb_c rfl (jsb_c rfl (jsb_c rfl jsb_n)))) (k4 v11 v16 u14 u13 h (by omega) (jr_of rfl (by omega)) (jr_of rfl (by omega)) (jr_of rfl (by omega)) (jr_of rfl (by omega)) (by omega) qu14 qu13 J Sm D)
  ·
    rw [if_neg (by omega)] at D
    refine x_iconst (v := 1) rfl ki_1 ?_
    refine x_zret rfl rfl (by decide) ?_
    exact hQ _ _ (jr_of jk_1 (by omega)) J Sm _ _ (jmc S3 rfl (jmc S1 rfl z1)) (jmc S3 rfl (jmc S1 rfl z0)) (by omega) ((congrArg Prod.fst D).symm.trans (show 1 = (1 : Int32).toInt from by have := jk_1; omega)) (congrArg Prod.snd D).symm
set_option maxRecDepth 100000 in
set_option maxHeartbeats 4000000 in
theorem ct_X2_readTest_r95_c3d_17 {Dy : jH → Prop} {h0 : jH} {Q : Option Value → jH → Prop} {dr : (Int × jW)} {K4 : Int → Int → jW → (Int × jW)} {R4 : Int} (hD : jDk Dy) (hQ : ∀ (v : Int32) hx9, 0 ≤ v.toInt ∧ v.toInt ≤ 1 → jJ jSgX Dy hx9 → jSm fp_X2_readTest_r95_c3d h0 hx9 → ∀ u0 u1 : Int32, jiv hx9 68 5 = u0 → jiv hx9 68 3 = u1 → (u0.toInt ≠ 3 ∨ u1.toInt ≤ 399) → dr.1 = v.toInt → dr.2 = vw hx9 → Q (some (.int v)) hx9) (k4 : ∀ (l2 : Int32) (l3 : Int32) (g0 : Int32) (g1 : Int32) (h : jH), 400 - l3.toInt < R4 → (-1) ≤ l2.toInt ∧ l2.toInt ≤ 1199 → 0 ≤ l3.toInt ∧ l3.toInt ≤ 400 → 0 ≤ g0.toInt ∧ g0.toInt ≤ 400 → 0 ≤ g1.toInt ∧ g1.toInt ≤ 3 → (g1.toInt ≠ 3 ∨ g0.toInt ≤ 399) → jiv h 68 3 = g0 → jiv h 68 5 = g1 → jJ jSgX Dy h → jSm fp_X2_readTest_r95_c3d h0 h → K4 l2.toInt l3.toInt (vw h) = dr → jX m_X2_readTest 18 0 0 4 [(0, .ref 95), (1, .int 3), (2, .int l2), (3, .int l3)] [] h 0 0 Q) : ∀ r : Nat, ∀ (l2 : Int32) (l3 : Int32) (l4 : Int32) (l5 : Int32) (g0 : Int32) (g1 : Int32) (h : jH), 400 - l5.toInt < (r : Int) → (-1) ≤ l2.toInt ∧ l2.toInt ≤ 1199 → 0 ≤ l3.toInt ∧ l3.toInt ≤ 399 → (-1) ≤ l4.toInt ∧ l4.toInt ≤ 1199 → 0 ≤ l5.toInt ∧ l5.toInt ≤ 400 → 0 ≤ g0.toInt ∧ g0.toInt ≤ 400 → 0 ≤ g1.toInt ∧ g1.toInt ≤ 3 → (g1.toInt ≠ 3 ∨ g0.toInt ≤ 399) → jiv h 68 3 = g0 → jiv h 68 5 = g1 → 400 - l3.toInt ≤ R4 → jJ jSgX Dy h → jSm fp_X2_readTest_r95_c3d h0 h → d_X2_readTest_r95_c3d_17 K4 r l2.toInt l3.toInt l4.toInt l5.toInt (vw h) = dr → jX m_X2_readTest 18 0 0 17 [(0, .ref 95), (1, .int 3), (2, .int l2), (3, .int l3), (4, .int l4), (5, .int l5)] [] h 0 0 Q := by
  intro r
  induction r with
  | zero =>
    intro l2 l3 l4 l5 g0 g1 h hm y0 y1 y2 y3 y4 y5 y6 z0 z1 m4 J Sm D
    exfalso
    omega
  | succ r ih =>
    intro l2 l3 l4 l5 g0 g1 h hm y0 y1 y2 y3 y4 y5 y6 z0 z1 m4 J Sm D
    rw [d_X2_readTest_r95_c3d_17.eq_2] at D
    try rw [vrf z0] at D
    try rw [vrf z1] at D
    refine x_iload (x := l5) rfl rfl ?_
    refine x_sipush (v := 400) rfl ks_400 ?_
    refine x_icge (tgt := 77) rfl rfl (ti_ge rfl jk_400 ⟨fun c1 => ?_, fun c1 => ?_⟩)
    ·
      rw [if_pos (by omega)] at D
      exact jX.sub (jsb_c rfl (jsb_c rfl (jsb_c rfl (jsb_c rfl jsb_n)))) (ct_X2_readTest_r95_c3d_77 hD hQ k4 l2 l3 g0 g1 h (jr_of rfl (by omega)) (jr_of rfl (by omega)) (jr_of rfl (by omega)) (jr_of rfl (by omega)) (by omega) z0 z1 (by omega) J Sm D)
    ·
      rw [if_neg (by omega)] at D
      refine x_aloadn (x := 95) rfl rfl ?_
      refine x_iloadn (x := 3) rfl rfl ?_
      refine x_inv (N := m_X2_readPlain) (As := [.int 3]) (b := 95) (st := []) (dx9 := 17) (mc := 0) (ms := 0) (host := "") 2 rfl t_X2_readPlain ⟨Or.inl q_2_121, i_X2_readPlain.1, i_X2_readPlain.2⟩ ⟨by decide, rfl⟩ (congrArg Prod.fst (J.1.1 95 (2, 6) rfl)) rfl (by decide) rfl rfl ⟨by decide, by decide⟩ (sf_X2_readPlain_r95_c3d  hD J z1 z0 (by omega) rfl  (fun v7 h ev7 J S2 u3 u4 qu3 qu4 ru3 X5 X6 => ?_))
      have Sm := jSm_tr rfl Sm S2
      try rw [X5] at D
      try rw [X6] at D
      have eu3 := (show 0 ≤ u3.toInt ∧ u3.toInt ≤ 3 from qu3 ▸ jrg_f J sg_68_5_6_1_0_1)
      try rw [vrf qu3] at D
      have eu4 := (show 0 ≤ u4.toInt ∧ u4.toInt ≤ 400 from qu4 ▸ jrg_f J sg_68_3_4_1_0_1)
      try rw [vrf qu4] at D
      show jX m_X2_readTest 18 0 0 30 [(0, .ref 95), (1, .int 3), (2, .int l2), (3, .int l3), (4, .int l4), (5, .int l5)] [.int v7] _ 0 0 _
      refine x_ifne (tgt := 35) rfl rfl (ti_ne rfl jk_0 ⟨fun c8 => ?_, fun c8 => ?_⟩)
      ·
        rw [if_neg (by omega)] at D
        refine x_aloadn (x := 95) rfl rfl ?_
        refine x_iload (x := l4) rfl rfl ?_
        refine x_inv (N := m_X2_land) (As := [.int l4]) (b := 95) (st := []) (dx9 := 1) (mc := 0) (ms := 0) (host := "") 2 rfl t_X2_land ⟨Or.inl q_2_124, i_X2_land.1, i_X2_land.2⟩ ⟨by decide, rfl⟩ (congrArg Prod.fst (J.1.1 95 (2, 6) rfl)) rfl (by decide) rfl rfl ⟨by decide, by decide⟩ (sf_X2_land_r95d (jr_of rfl (by omega)) hD J rfl  (fun h J S9 X10 => ?_))
        have Sm := jSm_tr rfl Sm S9
        rw [X10] at D
        show jX m_X2_readTest 18 0 0 41 [(0, .ref 95), (1, .int 3), (2, .int l2), (3, .int l3), (4, .int l4), (5, .int l5)] [] _ 0 0 _
        refine x_aloadn (x := 95) rfl rfl ?_
        refine z_getR (N := 6) (b := 68) 2 0 rfl f_2_30 rfl J rfl 12160 ⟨rfl, rfl⟩ rfl ?_
        refine x_ldcS (jstr.getD 11 jstr_0) rfl (List.mem_of_getElem? (i := 11) rfl) rfl rfl ?_
        show jX m_X2_readTest 18 0 0 47 [(0, .ref 95), (1, .int 3), (2, .int l2), (3, .int l3), (4, .int l4), (5, .int l5)] [.ref 16, .ref 68] _ 0 0 _
        refine x_inv (N := m_X9_wordOf) (As := [.ref 16]) (b := 68) (st := []) (dx9 := 4) (mc := 0) (ms := 0) (host := "") 9 rfl t_X9_wordOf ⟨Or.inl q_2_67, i_X9_wordOf.1, i_X9_wordOf.2⟩ ⟨by decide, rfl⟩ (congrArg Prod.fst (J.1.1 68 (9, 6) rfl)) rfl (by decide) rfl rfl ⟨by decide, by decide⟩ (sf_X9_wordOf_r68_r16d  hD J rfl  (fun v14 h J S11 X12 X13 => ?_))
        have ev14 := jfull v14
        have Sm := jSm_tr rfl Sm S11
        try rw [X12] at D
        try rw [← X13] at D
        show jX m_X2_readTest 18 0 0 50 [(0, .ref 95), (1, .int 3), (2, .int l2), (3, .int l3), (4, .int l4), (5, .int l5)] [.int v14] _ 0 0 _
        refine x_ifeq (tgt := 56) rfl rfl (ti_eq rfl jk_0 ⟨fun c15 => ?_, fun c15 => ?_⟩)
        ·
          rw [if_pos (by omega)] at D
          refine x_aloadn (x := 95) rfl rfl ?_
          refine x_bipush (v := 12) rfl kb_12 ?_
          refine x_inv (N := m_X2_leap) (As := [.int 12]) (b := 95) (st := []) (dx9 := 2) (mc := 0) (ms := 0) (host := "") 2 rfl t_X2_leap ⟨Or.inl q_2_129, i_X2_leap.1, i_X2_leap.2⟩ ⟨by decide, rfl⟩ (congrArg Prod.fst (J.1.1 95 (2, 6) rfl)) rfl (by decide) rfl rfl ⟨by decide, by decide⟩ (sf_X2_leap_r95d (jr_of jk_12 (by omega)) hD J rfl  (fun v19 h ev19 J S16 X17 X18 => ?_))
          have Sm := jSm_tr rfl Sm S16
          try rw [jk_12] at X17
          try rw [jk_12] at X18
          try rw [X17] at D
          try rw [X18] at D
          show jX m_X2_readTest 18 0 0 62 [(0, .ref 95), (1, .int 3), (2, .int l2), (3, .int l3), (4, .int l4), (5, .int l5)] [.int v19] _ 0 0 _
          refine x_istore (lsx9 := [(4, .int v19), (0, .ref 95), (1, .int 3), (2, .int l2), (3, .int l3), (5, .int l5)]) rfl rfl rfl ?_
          refine x_aloadn (x := 95) rfl rfl ?_
          refine z_getR (N := 6) (b := 68) 2 0 rfl f_2_30 rfl J rfl 12160 ⟨rfl, rfl⟩ rfl ?_
          refine x_inv (N := m_X9_step) (As := []) (b := 68) (st := []) (dx9 := 2) (mc := 0) (ms := 0) (host := "") 9 rfl t_X9_step ⟨Or.inl q_2_62, i_X9_step.1, i_X9_step.2⟩ ⟨by decide, rfl⟩ (congrArg Prod.fst (J.1.1 68 (9, 6) rfl)) rfl (by decide) rfl rfl ⟨by decide, by decide⟩ (sf_X9_step_r68d  hD J (jmc S16 rfl (jmc S11 rfl (jmc S9 rfl qu3))) (jmc S16 rfl (jmc S11 rfl (jmc S9 rfl qu4))) (by omega) rfl  (fun h J S20 u21 u22 qu21 qu22 ru21 X23 => ?_))
          have Sm := jSm_tr rfl Sm S20
          rw [X23] at D
          have eu21 := (show 0 ≤ u21.toInt ∧ u21.toInt ≤ 3 from qu21 ▸ jrg_f J sg_68_5_6_1_0_1)
          try rw [vrf qu21] at D
          have eu22 := (show 0 ≤ u22.toInt ∧ u22.toInt ≤ 400 from qu22 ▸ jrg_f J sg_68_3_4_1_0_1)
          try rw [vrf qu22] at D
          show jX m_X2_readTest 18 0 0 71 [(4, .int v19), (0, .ref 95), (1, .int 3), (2, .int l2), (3, .int l3), (5, .int l5)] [] _ 0 0 _
          refine z_iinc (x := l5) (lsx9 := fun v24 => [(5, .int v24), (4, .int v19), (0, .ref 95), (1, .int 3), (2, .int l2), (3, .int l3)]) rfl rfl rfl jko_1 (by omega) rfl (fun _ => rfl) (fun v24 ev24 => ?_)
          refine x_goto (tgt := 17) rfl rfl ?_
          try rw [show (l5.toInt + 1) = v24.toInt from by omega] at D
          exact jX.sub (jsb_c rfl (jsb_c rfl (jsb_c rfl (jsb_c rfl (jsb_c rfl (jsb_c rfl jsb_n)))))) (ih l2 l3 v19 v24 u22 u21 h (by omega) (jr_of rfl (by omega)) (jr_of rfl (by omega)) (jr_of rfl (by omega)) (jr_of rfl (by omega)) (jr_of rfl (by omega)) (jr_of rfl (by omega)) (by omega) qu22 qu21 (by omega) J Sm D)
        ·
          rw [if_neg (by omega)] at D
          refine x_goto (tgt := 77) rfl rfl ?_
          exact jX.sub (jsb_c rfl (jsb_c rfl (jsb_c rfl (jsb_c rfl jsb_n)))) (ct_X2_readTest_r95_c3d_77 hD hQ k4 l2 l3 u4 u3 h (jr_of rfl (by omega)) (jr_of rfl (by omega)) (jr_of rfl (by omega)) (jr_of rfl (by omega)) (by omega) (jmc S11 rfl (jmc S9 rfl qu4)) (jmc S11 rfl (jmc S9 rfl qu3)) (by omega) J Sm D)
      ·
        rw [if_pos (by omega)] at D
        refine x_iconst (v := 0) rfl ki_0 ?_
        refine x_zret rfl rfl (by decide) ?_
        exact hQ _ _ (jr_of jk_0 (by omega)) J Sm _ _ qu3 qu4 (by omega) ((congrArg Prod.fst D).symm.trans (show 0 = (0 : Int32).toInt from by have := jk_0; omega)) (congrArg Prod.snd D).symm
set_option maxRecDepth 100000 in
set_option maxHeartbeats 4000000 in
theorem ct_X2_readTest_r95_c3d_4 {Dy : jH → Prop} {h0 : jH} {Q : Option Value → jH → Prop} {dr : (Int × jW)} (hD : jDk Dy) (hQ : ∀ (v : Int32) hx9, 0 ≤ v.toInt ∧ v.toInt ≤ 1 → jJ jSgX Dy hx9 → jSm fp_X2_readTest_r95_c3d h0 hx9 → ∀ u0 u1 : Int32, jiv hx9 68 5 = u0 → jiv hx9 68 3 = u1 → (u0.toInt ≠ 3 ∨ u1.toInt ≤ 399) → dr.1 = v.toInt → dr.2 = vw hx9 → Q (some (.int v)) hx9) : ∀ r : Nat, ∀ (l2 : Int32) (l3 : Int32) (g0 : Int32) (g1 : Int32) (h : jH), 400 - l3.toInt < (r : Int) → (-1) ≤ l2.toInt ∧ l2.toInt ≤ 1199 → 0 ≤ l3.toInt ∧ l3.toInt ≤ 400 → 0 ≤ g0.toInt ∧ g0.toInt ≤ 400 → 0 ≤ g1.toInt ∧ g1.toInt ≤ 3 → (g1.toInt ≠ 3 ∨ g0.toInt ≤ 399) → jiv h 68 3 = g0 → jiv h 68 5 = g1 → jJ jSgX Dy h → jSm fp_X2_readTest_r95_c3d h0 h → d_X2_readTest_r95_c3d_4 r l2.toInt l3.toInt (vw h) = dr → jX m_X2_readTest 18 0 0 4 [(0, .ref 95), (1, .int 3), (2, .int l2), (3, .int l3)] [] h 0 0 Q := by
  intro r
  induction r with
  | zero =>
    intro l2 l3 g0 g1 h hm y0 y1 y2 y3 y4 z0 z1  J Sm D
    exfalso
    omega
  | succ r ih =>
    intro l2 l3 g0 g1 h hm y0 y1 y2 y3 y4 z0 z1  J Sm D
    rw [d_X2_readTest_r95_c3d_4.eq_2] at D
    try rw [vrf z0] at D
    try rw [vrf z1] at D
    refine x_iloadn (x := l3) rfl rfl ?_
    refine x_sipush (v := 400) rfl ks_400 ?_
    refine x_icge (tgt := 116) rfl rfl (ti_ge rfl jk_400 ⟨fun c1 => ?_, fun c1 => ?_⟩)
    ·
      rw [if_pos (by omega)] at D
      refine x_aloadn (x := 95) rfl rfl ?_
      refine z_getR (N := 6) (b := 68) 2 0 rfl f_2_30 rfl J rfl 12160 ⟨rfl, rfl⟩ rfl ?_
      refine x_inv (N := m_X9_blame) (As := []) (b := 68) (st := []) (dx9 := 17) (mc := 0) (ms := 0) (host := "") 9 rfl t_X9_blame ⟨Or.inl q_2_59, i_X9_blame.1, i_X9_blame.2⟩ ⟨by decide, rfl⟩ (congrArg Prod.fst (J.1.1 68 (9, 6) rfl)) rfl (by decide) rfl rfl ⟨by decide, by decide⟩ (jC.of rfl k_X9_blame rfl ?_)
      show jX m_X9_blame 17 0 0 0 [(0, .ref 68)] [] _ 0 0 _
      refine x_aloadn (x := 68) rfl rfl ?_
      refine x_aloadn (x := 68) rfl rfl ?_
      refine z_getM (N := 6) (v := g0) 9 3 rfl f_9_22 rfl J rfl z0 ?_
      refine z_putI (N := 6) (w := g0.toInt) 9 2 rfl f_9_19 rfl (jfin_no TX9 RX9 6 rfl rfl) hD J Sm rfl rfl rfl (pw_68_2 (by omega)) rfl (fun h w2 J Sm => ?_)
      rw [vwf w2 (show g0.toInt = g0.toInt from by omega)] at D
      refine x_iconst (v := 0) rfl ki_0 ?_
      refine x_zret rfl rfl (by decide) ?_
      show jX m_X2_readTest 18 0 0 123 [(0, .ref 95), (1, .int 3), (2, .int l2), (3, .int l3)] [.int 0] _ 0 0 _
      refine x_zret rfl rfl (by decide) ?_
      exact hQ _ _ (jr_of jk_0 (by omega)) J Sm _ _ (jmo w2 rfl z1) (jmo w2 rfl z0) (by omega) ((congrArg Prod.fst D).symm.trans (show 0 = (0 : Int32).toInt from by have := jk_0; omega)) (congrArg Prod.snd D).symm
    ·
      rw [if_neg (by omega)] at D
      refine x_iconst (v := (-1)) rfl ki_m1 ?_
      refine x_istore (lsx9 := [(4, .int (-1)), (0, .ref 95), (1, .int 3), (2, .int l2), (3, .int l3)]) rfl rfl rfl ?_
      refine x_iconst (v := 0) rfl ki_0 ?_
      refine x_istore (lsx9 := [(5, .int 0), (4, .int (-1)), (0, .ref 95), (1, .int 3), (2, .int l2), (3, .int l3)]) rfl rfl rfl ?_
      exact jX.sub (jsb_c rfl (jsb_c rfl (jsb_c rfl (jsb_c rfl (jsb_c rfl (jsb_c rfl jsb_n)))))) (ct_X2_readTest_r95_c3d_17 hD hQ ih 401 l2 l3 (-1) 0 g0 g1 h (by have := jk_0; omega) (jr_of rfl (by omega)) (jr_of rfl (by omega)) (jr_of jk_m1 (by omega)) (jr_of jk_0 (by omega)) (jr_of rfl (by omega)) (jr_of rfl (by omega)) (by omega) z0 z1 (by omega) J Sm (by rw [jk_m1, jk_0]; exact D))
set_option maxRecDepth 100000 in
set_option maxHeartbeats 4000000 in
theorem sf_X2_readTest_r95_c3d {Dy : jH → Prop} {h : jH} {Q : Option Value → jH → Prop} {dr : (Int × jW)} (hD : jDk Dy) (J : jJ jSgX Dy h) {p0 p1 : Int32} (zp0 : jiv h 68 5 = p0) (zp1 : jiv h 68 3 = p1) (rl_p0 : (p0.toInt ≠ 3 ∨ p1.toInt ≤ 399)) (D : d_X2_readTest_r95_c3d (vw h) = dr) (hQ : ∀ (v : Int32) hx9, 0 ≤ v.toInt ∧ v.toInt ≤ 1 → jJ jSgX Dy hx9 → jSm fp_X2_readTest_r95_c3d h hx9 → ∀ u0 u1 : Int32, jiv hx9 68 5 = u0 → jiv hx9 68 3 = u1 → (u0.toInt ≠ 3 ∨ u1.toInt ≤ 399) → dr.1 = v.toInt → dr.2 = vw hx9 → Q (some (.int v)) hx9) : jC m_X2_readTest 18 0 0 [.ref 95, .int 3] h Q := by
  refine jC.of rfl k_X2_readTest rfl ?_
  have Sm := jSm_rf fp_X2_readTest_r95_c3d h
  have ep0 := (show 0 ≤ p0.toInt ∧ p0.toInt ≤ 3 from zp0 ▸ jrg_f J sg_68_5_6_1_0_1)
  have ep1 := (show 0 ≤ p1.toInt ∧ p1.toInt ≤ 400 from zp1 ▸ jrg_f J sg_68_3_4_1_0_1)
  show jX m_X2_readTest 18 0 0 0 [(0, .ref 95), (1, .int 3)] [] _ 0 0 _
  unfold d_X2_readTest_r95_c3d at D
  try rw [vrf zp0] at D
  try rw [vrf zp1] at D
  refine x_iconst (v := (-1)) rfl ki_m1 ?_
  refine x_istoren (lsx9 := [(2, .int (-1)), (0, .ref 95), (1, .int 3)]) rfl rfl rfl ?_
  refine x_iconst (v := 0) rfl ki_0 ?_
  refine x_istoren (lsx9 := [(3, .int 0), (2, .int (-1)), (0, .ref 95), (1, .int 3)]) rfl rfl rfl ?_
  exact jX.sub (jsb_c rfl (jsb_c rfl (jsb_c rfl (jsb_c rfl jsb_n)))) (ct_X2_readTest_r95_c3d_4 hD hQ  401 (-1) 0 p1 p0 h (by have := jk_0; omega) (jr_of jk_m1 (by omega)) (jr_of jk_0 (by omega)) (jr_of rfl (by omega)) (jr_of rfl (by omega)) (by omega) zp1 zp0 J Sm (by rw [jk_m1, jk_0]; exact D))
def fp_X2_readPlain_r95_c2d : jFp := [(68, 2, 3), (68, 3, 4), (68, 4, 5), (68, 5, 6), (95, 4, 5), (95, 5, 6), (97, 0, 1200)]
set_option maxRecDepth 100000 in
set_option maxHeartbeats 4000000 in
theorem ct_X2_readPlain_r95_c2d_239 {Dy : jH → Prop} {h0 : jH} {Q : Option Value → jH → Prop} {dr : (Int × jW)} (hD : jDk Dy) (hQ : ∀ (v : Int32) hx9, 0 ≤ v.toInt ∧ v.toInt ≤ 1 → jJ jSgX Dy hx9 → jSm fp_X2_readPlain_r95_c2d h0 hx9 → ∀ u0 u1 : Int32, jiv hx9 68 5 = u0 → jiv hx9 68 3 = u1 → (u0.toInt ≠ 3 ∨ u1.toInt ≤ 399) → dr.1 = v.toInt → dr.2 = vw hx9 → Q (some (.int v)) hx9) : ∀ (g0 : Int32) (g1 : Int32) (h : jH), 0 ≤ g0.toInt ∧ g0.toInt ≤ 400 → 0 ≤ g1.toInt ∧ g1.toInt ≤ 3 → (g1.toInt ≠ 3 ∨ g0.toInt ≤ 399) → jiv h 68 3 = g0 → jiv h 68 5 = g1 → jJ jSgX Dy h → jSm fp_X2_readPlain_r95_c2d h0 h → d_X2_readPlain_r95_c2d_239  (vw h) = dr → jX m_X2_readPlain 19 0 0 239 [] [] h 0 0 Q := by
  intro g0 g1 h y0 y1 y2 z0 z1  J Sm D
  unfold d_X2_readPlain_r95_c2d_239 at D
  try rw [vrf z0] at D
  try rw [vrf z1] at D
  refine x_iconst (v := 1) rfl ki_1 ?_
  refine x_zret rfl rfl (by decide) ?_
  exact hQ _ _ (jr_of jk_1 (by omega)) J Sm _ _ z1 z0 (by omega) ((congrArg Prod.fst D).symm.trans (show 1 = (1 : Int32).toInt from by have := jk_1; omega)) (congrArg Prod.snd D).symm
set_option maxRecDepth 100000 in
set_option maxHeartbeats 4000000 in
theorem ct_X2_readPlain_r95_c2d_229 {Dy : jH → Prop} {h0 : jH} {Q : Option Value → jH → Prop} {dr : (Int × jW)} (hD : jDk Dy) (hQ : ∀ (v : Int32) hx9, 0 ≤ v.toInt ∧ v.toInt ≤ 1 → jJ jSgX Dy hx9 → jSm fp_X2_readPlain_r95_c2d h0 hx9 → ∀ u0 u1 : Int32, jiv hx9 68 5 = u0 → jiv hx9 68 3 = u1 → (u0.toInt ≠ 3 ∨ u1.toInt ≤ 399) → dr.1 = v.toInt → dr.2 = vw hx9 → Q (some (.int v)) hx9) : ∀ (l2 : Int32) (g0 : Int32) (g1 : Int32) (h : jH), 0 ≤ l2.toInt ∧ l2.toInt ≤ 1 → 0 ≤ g0.toInt ∧ g0.toInt ≤ 400 → 0 ≤ g1.toInt ∧ g1.toInt ≤ 3 → (g1.toInt ≠ 3 ∨ g0.toInt ≤ 399) → jiv h 68 3 = g0 → jiv h 68 5 = g1 → jJ jSgX Dy h → jSm fp_X2_readPlain_r95_c2d h0 h → d_X2_readPlain_r95_c2d_229  l2.toInt (vw h) = dr → jX m_X2_readPlain 19 0 0 229 [(0, .ref 95), (2, .int l2)] [] h 0 0 Q := by
  intro l2 g0 g1 h y0 y1 y2 y3 z0 z1  J Sm D
  unfold d_X2_readPlain_r95_c2d_229 at D
  try rw [vrf z0] at D
  try rw [vrf z1] at D
  refine x_iloadn (x := l2) rfl rfl ?_
  refine x_ifeq (tgt := 239) rfl rfl (ti_eq rfl jk_0 ⟨fun c1 => ?_, fun c1 => ?_⟩)
  ·
    rw [if_pos (by omega)] at D
    exact jX.sub jsb_n (ct_X2_readPlain_r95_c2d_239 hD hQ  g0 g1 h (jr_of rfl (by omega)) (jr_of rfl (by omega)) (by omega) z0 z1 J Sm D)
  ·
    rw [if_neg (by omega)] at D
    refine x_aloadn (x := 95) rfl rfl ?_
    refine x_bipush (v := 10) rfl kb_10 ?_
    refine x_inv (N := m_X2_emit) (As := [.int 10]) (b := 95) (st := []) (dx9 := 1) (mc := 0) (ms := 0) (host := "") 2 rfl t_X2_emit ⟨Or.inl q_2_89, i_X2_emit.1, i_X2_emit.2⟩ ⟨by decide, rfl⟩ (congrArg Prod.fst (J.1.1 95 (2, 6) rfl)) rfl (by decide) rfl rfl ⟨by decide, by decide⟩ (sf_X2_emit_r95d  hD J rfl  (fun h J S2 X3 => ?_))
    have Sm := jSm_tr rfl Sm S2
    try rw [jk_10] at X3
    rw [X3] at D
    show jX m_X2_readPlain 19 0 0 239 [(0, .ref 95), (2, .int l2)] [] _ 0 0 _
    exact jX.sub jsb_n (ct_X2_readPlain_r95_c2d_239 hD hQ  g0 g1 h (jr_of rfl (by omega)) (jr_of rfl (by omega)) (by omega) (jmc S2 rfl z0) (jmc S2 rfl z1) J Sm D)
set_option maxRecDepth 100000 in
set_option maxHeartbeats 4000000 in
theorem ct_X2_readPlain_r95_c2d_100190 {Dy : jH → Prop} {h0 : jH} {Q : Option Value → jH → Prop} {dr : (Int × jW)} (hD : jDk Dy) (hQ : ∀ (v : Int32) hx9, 0 ≤ v.toInt ∧ v.toInt ≤ 1 → jJ jSgX Dy hx9 → jSm fp_X2_readPlain_r95_c2d h0 hx9 → ∀ u0 u1 : Int32, jiv hx9 68 5 = u0 → jiv hx9 68 3 = u1 → (u0.toInt ≠ 3 ∨ u1.toInt ≤ 399) → dr.1 = v.toInt → dr.2 = vw hx9 → Q (some (.int v)) hx9) : ∀ (l2 : Int32) (g0 : Int32) (g1 : Int32) (h : jH), 0 ≤ l2.toInt ∧ l2.toInt ≤ 1 → 0 ≤ g0.toInt ∧ g0.toInt ≤ 400 → 0 ≤ g1.toInt ∧ g1.toInt ≤ 3 → (g1.toInt ≠ 3 ∨ g0.toInt ≤ 399) → jiv h 68 3 = g0 → jiv h 68 5 = g1 → jJ jSgX Dy h → jSm fp_X2_readPlain_r95_c2d h0 h → d_X2_readPlain_r95_c2d_100190  l2.toInt (vw h) = dr → jX m_X2_readPlain 19 0 0 190 [(0, .ref 95), (1, .int 2), (2, .int l2)] [.int (-1)] h 0 0 Q := by
  intro l2 g0 g1 h y0 y1 y2 y3 z0 z1  J Sm D
  unfold d_X2_readPlain_r95_c2d_100190 at D
  try rw [vrf z0] at D
  try rw [vrf z1] at D
  refine x_istore (lsx9 := [(4, .int (-1)), (0, .ref 95), (1, .int 2), (2, .int l2)]) rfl rfl rfl ?_
  refine x_iload (x := (-1)) rfl rfl ?_
  refine x_iconst (v := (-1)) rfl ki_m1 ?_
  refine x_icne (tgt := 206) rfl rfl (ti_ne jk_m1 jk_m1 (bn_f (by omega) ?_))
  refine x_aloadn (x := 95) rfl rfl ?_
  refine z_getR (N := 6) (b := 68) 2 0 rfl f_2_30 rfl J rfl 12160 ⟨rfl, rfl⟩ rfl ?_
  refine x_inv (N := m_X9_blame) (As := []) (b := 68) (st := []) (dx9 := 18) (mc := 0) (ms := 0) (host := "") 9 rfl t_X9_blame ⟨Or.inl q_2_59, i_X9_blame.1, i_X9_blame.2⟩ ⟨by decide, rfl⟩ (congrArg Prod.fst (J.1.1 68 (9, 6) rfl)) rfl (by decide) rfl rfl ⟨by decide, by decide⟩ (jC.of rfl k_X9_blame rfl ?_)
  show jX m_X9_blame 18 0 0 0 [(0, .ref 68)] [] _ 0 0 _
  refine x_aloadn (x := 68) rfl rfl ?_
  refine x_aloadn (x := 68) rfl rfl ?_
  refine z_getM (N := 6) (v := g0) 9 3 rfl f_9_22 rfl J rfl z0 ?_
  refine z_putI (N := 6) (w := g0.toInt) 9 2 rfl f_9_19 rfl (jfin_no TX9 RX9 6 rfl rfl) hD J Sm rfl rfl rfl (pw_68_2 (by omega)) rfl (fun h w1 J Sm => ?_)
  rw [vwf w1 (show g0.toInt = g0.toInt from by omega)] at D
  refine x_iconst (v := 0) rfl ki_0 ?_
  refine x_zret rfl rfl (by decide) ?_
  show jX m_X2_readPlain 19 0 0 205 [(4, .int (-1)), (0, .ref 95), (1, .int 2), (2, .int l2)] [.int 0] _ 0 0 _
  refine x_zret rfl rfl (by decide) ?_
  exact hQ _ _ (jr_of jk_0 (by omega)) J Sm _ _ (jmo w1 rfl z1) (jmo w1 rfl z0) (by omega) ((congrArg Prod.fst D).symm.trans (show 0 = (0 : Int32).toInt from by have := jk_0; omega)) (congrArg Prod.snd D).symm
set_option maxRecDepth 100000 in
set_option maxHeartbeats 4000000 in
theorem ct_X2_readPlain_r95_c2d_190 {Dy : jH → Prop} {h0 : jH} {Q : Option Value → jH → Prop} {dr : (Int × jW)} (hD : jDk Dy) (hQ : ∀ (v : Int32) hx9, 0 ≤ v.toInt ∧ v.toInt ≤ 1 → jJ jSgX Dy hx9 → jSm fp_X2_readPlain_r95_c2d h0 hx9 → ∀ u0 u1 : Int32, jiv hx9 68 5 = u0 → jiv hx9 68 3 = u1 → (u0.toInt ≠ 3 ∨ u1.toInt ≤ 399) → dr.1 = v.toInt → dr.2 = vw hx9 → Q (some (.int v)) hx9) : ∀ (l2 : Int32) (g0 : Int32) (g1 : Int32) (h : jH), 0 ≤ l2.toInt ∧ l2.toInt ≤ 1 → 0 ≤ g0.toInt ∧ g0.toInt ≤ 400 → 0 ≤ g1.toInt ∧ g1.toInt ≤ 3 → (g1.toInt ≠ 3 ∨ g0.toInt ≤ 399) → jiv h 68 3 = g0 → jiv h 68 5 = g1 → jJ jSgX Dy h → jSm fp_X2_readPlain_r95_c2d h0 h → d_X2_readPlain_r95_c2d_190  l2.toInt (vw h) = dr → jX m_X2_readPlain 19 0 0 190 [(0, .ref 95), (1, .int 2), (2, .int l2)] [.int 9] h 0 0 Q := by
  intro l2 g0 g1 h y0 y1 y2 y3 z0 z1  J Sm D
  unfold d_X2_readPlain_r95_c2d_190 at D
  try rw [vrf z0] at D
  try rw [vrf z1] at D
  refine x_istore (lsx9 := [(4, .int 9), (0, .ref 95), (1, .int 2), (2, .int l2)]) rfl rfl rfl ?_
  refine x_iload (x := 9) rfl rfl ?_
  refine x_iconst (v := (-1)) rfl ki_m1 ?_
  refine x_icne (tgt := 206) rfl rfl (ti_ne jk_9 jk_m1 (bn_t (by omega) ?_))
  refine x_aloadn (x := 95) rfl rfl ?_
  refine z_getR (N := 6) (b := 68) 2 0 rfl f_2_30 rfl J rfl 12160 ⟨rfl, rfl⟩ rfl ?_
  refine x_inv (N := m_X9_step) (As := []) (b := 68) (st := []) (dx9 := 2) (mc := 0) (ms := 0) (host := "") 9 rfl t_X9_step ⟨Or.inl q_2_62, i_X9_step.1, i_X9_step.2⟩ ⟨by decide, rfl⟩ (congrArg Prod.fst (J.1.1 68 (9, 6) rfl)) rfl (by decide) rfl rfl ⟨by decide, by decide⟩ (sf_X9_step_r68d  hD J z1 z0 (by omega) rfl  (fun h J S1 u2 u3 qu2 qu3 ru2 X4 => ?_))
  have Sm := jSm_tr rfl Sm S1
  rw [X4] at D
  have eu2 := (show 0 ≤ u2.toInt ∧ u2.toInt ≤ 3 from qu2 ▸ jrg_f J sg_68_5_6_1_0_1)
  try rw [vrf qu2] at D
  have eu3 := (show 0 ≤ u3.toInt ∧ u3.toInt ≤ 400 from qu3 ▸ jrg_f J sg_68_3_4_1_0_1)
  try rw [vrf qu3] at D
  show jX m_X2_readPlain 19 0 0 213 [(4, .int 9), (0, .ref 95), (1, .int 2), (2, .int l2)] [] _ 0 0 _
  refine x_aloadn (x := 95) rfl rfl ?_
  refine x_iloadn (x := 2) rfl rfl ?_
  refine x_inv (N := m_X2_readSum) (As := [.int 2]) (b := 95) (st := []) (dx9 := 18) (mc := 0) (ms := 0) (host := "") 2 rfl t_X2_readSum ⟨Or.inl q_2_86, i_X2_readSum.1, i_X2_readSum.2⟩ ⟨by decide, rfl⟩ (congrArg Prod.fst (J.1.1 95 (2, 6) rfl)) rfl (by decide) rfl rfl ⟨by decide, by decide⟩ (sf_X2_readSum_r95_c2d  hD J qu2 qu3 (by omega) rfl  (fun v10 h ev10 J S5 u6 u7 qu6 qu7 ru6 X8 X9 => ?_))
  have Sm := jSm_tr rfl Sm S5
  try rw [X8] at D
  try rw [X9] at D
  have eu6 := (show 0 ≤ u6.toInt ∧ u6.toInt ≤ 3 from qu6 ▸ jrg_f J sg_68_5_6_1_0_1)
  try rw [vrf qu6] at D
  have eu7 := (show 0 ≤ u7.toInt ∧ u7.toInt ≤ 400 from qu7 ▸ jrg_f J sg_68_3_4_1_0_1)
  try rw [vrf qu7] at D
  show jX m_X2_readPlain 19 0 0 218 [(4, .int 9), (0, .ref 95), (1, .int 2), (2, .int l2)] [.int v10] _ 0 0 _
  refine x_ifne (tgt := 223) rfl rfl (ti_ne rfl jk_0 ⟨fun c11 => ?_, fun c11 => ?_⟩)
  ·
    rw [if_neg (by omega)] at D
    refine x_aloadn (x := 95) rfl rfl ?_
    refine x_iload (x := 9) rfl rfl ?_
    refine x_inv (N := m_X2_emit) (As := [.int 9]) (b := 95) (st := []) (dx9 := 1) (mc := 0) (ms := 0) (host := "") 2 rfl t_X2_emit ⟨Or.inl q_2_89, i_X2_emit.1, i_X2_emit.2⟩ ⟨by decide, rfl⟩ (congrArg Prod.fst (J.1.1 95 (2, 6) rfl)) rfl (by decide) rfl rfl ⟨by decide, by decide⟩ (sf_X2_emit_r95d  hD J rfl  (fun h J S12 X13 => ?_))
    have Sm := jSm_tr rfl Sm S12
    try rw [jk_9] at X13
    rw [X13] at D
    show jX m_X2_readPlain 19 0 0 229 [(4, .int 9), (0, .ref 95), (1, .int 2), (2, .int l2)] [] _ 0 0 _
    exact jX.sub (jsb_c rfl (jsb_c rfl jsb_n)) (ct_X2_readPlain_r95_c2d_229 hD hQ  l2 u7 u6 h (jr_of rfl (by omega)) (jr_of rfl (by omega)) (jr_of rfl (by omega)) (by omega) (jmc S12 rfl qu7) (jmc S12 rfl qu6) J Sm D)
  ·
    rw [if_pos (by omega)] at D
    refine x_iconst (v := 0) rfl ki_0 ?_
    refine x_zret rfl rfl (by decide) ?_
    exact hQ _ _ (jr_of jk_0 (by omega)) J Sm _ _ qu6 qu7 (by omega) ((congrArg Prod.fst D).symm.trans (show 0 = (0 : Int32).toInt from by have := jk_0; omega)) (congrArg Prod.snd D).symm
set_option maxRecDepth 100000 in
set_option maxHeartbeats 4000000 in
theorem ct_X2_readPlain_r95_c2d_1000190 {Dy : jH → Prop} {h0 : jH} {Q : Option Value → jH → Prop} {dr : (Int × jW)} (hD : jDk Dy) (hQ : ∀ (v : Int32) hx9, 0 ≤ v.toInt ∧ v.toInt ≤ 1 → jJ jSgX Dy hx9 → jSm fp_X2_readPlain_r95_c2d h0 hx9 → ∀ u0 u1 : Int32, jiv hx9 68 5 = u0 → jiv hx9 68 3 = u1 → (u0.toInt ≠ 3 ∨ u1.toInt ≤ 399) → dr.1 = v.toInt → dr.2 = vw hx9 → Q (some (.int v)) hx9) : ∀ (l2 : Int32) (g0 : Int32) (g1 : Int32) (h : jH), 0 ≤ l2.toInt ∧ l2.toInt ≤ 1 → 0 ≤ g0.toInt ∧ g0.toInt ≤ 400 → 0 ≤ g1.toInt ∧ g1.toInt ≤ 3 → (g1.toInt ≠ 3 ∨ g0.toInt ≤ 399) → jiv h 68 3 = g0 → jiv h 68 5 = g1 → jJ jSgX Dy h → jSm fp_X2_readPlain_r95_c2d h0 h → d_X2_readPlain_r95_c2d_1000190  l2.toInt (vw h) = dr → jX m_X2_readPlain 19 0 0 190 [(0, .ref 95), (1, .int 2), (2, .int l2)] [.int 8] h 0 0 Q := by
  intro l2 g0 g1 h y0 y1 y2 y3 z0 z1  J Sm D
  unfold d_X2_readPlain_r95_c2d_1000190 at D
  try rw [vrf z0] at D
  try rw [vrf z1] at D
  refine x_istore (lsx9 := [(4, .int 8), (0, .ref 95), (1, .int 2), (2, .int l2)]) rfl rfl rfl ?_
  refine x_iload (x := 8) rfl rfl ?_
  refine x_iconst (v := (-1)) rfl ki_m1 ?_
  refine x_icne (tgt := 206) rfl rfl (ti_ne jk_8 jk_m1 (bn_t (by omega) ?_))
  refine x_aloadn (x := 95) rfl rfl ?_
  refine z_getR (N := 6) (b := 68) 2 0 rfl f_2_30 rfl J rfl 12160 ⟨rfl, rfl⟩ rfl ?_
  refine x_inv (N := m_X9_step) (As := []) (b := 68) (st := []) (dx9 := 2) (mc := 0) (ms := 0) (host := "") 9 rfl t_X9_step ⟨Or.inl q_2_62, i_X9_step.1, i_X9_step.2⟩ ⟨by decide, rfl⟩ (congrArg Prod.fst (J.1.1 68 (9, 6) rfl)) rfl (by decide) rfl rfl ⟨by decide, by decide⟩ (sf_X9_step_r68d  hD J z1 z0 (by omega) rfl  (fun h J S1 u2 u3 qu2 qu3 ru2 X4 => ?_))
  have Sm := jSm_tr rfl Sm S1
  rw [X4] at D
  have eu2 := (show 0 ≤ u2.toInt ∧ u2.toInt ≤ 3 from qu2 ▸ jrg_f J sg_68_5_6_1_0_1)
  try rw [vrf qu2] at D
  have eu3 := (show 0 ≤ u3.toInt ∧ u3.toInt ≤ 400 from qu3 ▸ jrg_f J sg_68_3_4_1_0_1)
  try rw [vrf qu3] at D
  show jX m_X2_readPlain 19 0 0 213 [(4, .int 8), (0, .ref 95), (1, .int 2), (2, .int l2)] [] _ 0 0 _
  refine x_aloadn (x := 95) rfl rfl ?_
  refine x_iloadn (x := 2) rfl rfl ?_
  refine x_inv (N := m_X2_readSum) (As := [.int 2]) (b := 95) (st := []) (dx9 := 18) (mc := 0) (ms := 0) (host := "") 2 rfl t_X2_readSum ⟨Or.inl q_2_86, i_X2_readSum.1, i_X2_readSum.2⟩ ⟨by decide, rfl⟩ (congrArg Prod.fst (J.1.1 95 (2, 6) rfl)) rfl (by decide) rfl rfl ⟨by decide, by decide⟩ (sf_X2_readSum_r95_c2d  hD J qu2 qu3 (by omega) rfl  (fun v10 h ev10 J S5 u6 u7 qu6 qu7 ru6 X8 X9 => ?_))
  have Sm := jSm_tr rfl Sm S5
  try rw [X8] at D
  try rw [X9] at D
  have eu6 := (show 0 ≤ u6.toInt ∧ u6.toInt ≤ 3 from qu6 ▸ jrg_f J sg_68_5_6_1_0_1)
  try rw [vrf qu6] at D
  have eu7 := (show 0 ≤ u7.toInt ∧ u7.toInt ≤ 400 from qu7 ▸ jrg_f J sg_68_3_4_1_0_1)
  try rw [vrf qu7] at D
  show jX m_X2_readPlain 19 0 0 218 [(4, .int 8), (0, .ref 95), (1, .int 2), (2, .int l2)] [.int v10] _ 0 0 _
  refine x_ifne (tgt := 223) rfl rfl (ti_ne rfl jk_0 ⟨fun c11 => ?_, fun c11 => ?_⟩)
  ·
    rw [if_neg (by omega)] at D
    refine x_aloadn (x := 95) rfl rfl ?_
    refine x_iload (x := 8) rfl rfl ?_
    refine x_inv (N := m_X2_emit) (As := [.int 8]) (b := 95) (st := []) (dx9 := 1) (mc := 0) (ms := 0) (host := "") 2 rfl t_X2_emit ⟨Or.inl q_2_89, i_X2_emit.1, i_X2_emit.2⟩ ⟨by decide, rfl⟩ (congrArg Prod.fst (J.1.1 95 (2, 6) rfl)) rfl (by decide) rfl rfl ⟨by decide, by decide⟩ (sf_X2_emit_r95d  hD J rfl  (fun h J S12 X13 => ?_))
    have Sm := jSm_tr rfl Sm S12
    try rw [jk_8] at X13
    rw [X13] at D
    show jX m_X2_readPlain 19 0 0 229 [(4, .int 8), (0, .ref 95), (1, .int 2), (2, .int l2)] [] _ 0 0 _
    exact jX.sub (jsb_c rfl (jsb_c rfl jsb_n)) (ct_X2_readPlain_r95_c2d_229 hD hQ  l2 u7 u6 h (jr_of rfl (by omega)) (jr_of rfl (by omega)) (jr_of rfl (by omega)) (by omega) (jmc S12 rfl qu7) (jmc S12 rfl qu6) J Sm D)
  ·
    rw [if_pos (by omega)] at D
    refine x_iconst (v := 0) rfl ki_0 ?_
    refine x_zret rfl rfl (by decide) ?_
    exact hQ _ _ (jr_of jk_0 (by omega)) J Sm _ _ qu6 qu7 (by omega) ((congrArg Prod.fst D).symm.trans (show 0 = (0 : Int32).toInt from by have := jk_0; omega)) (congrArg Prod.snd D).symm
set_option maxRecDepth 100000 in
set_option maxHeartbeats 4000000 in
theorem ct_X2_readPlain_r95_c2d_900190 {Dy : jH → Prop} {h0 : jH} {Q : Option Value → jH → Prop} {dr : (Int × jW)} (hD : jDk Dy) (hQ : ∀ (v : Int32) hx9, 0 ≤ v.toInt ∧ v.toInt ≤ 1 → jJ jSgX Dy hx9 → jSm fp_X2_readPlain_r95_c2d h0 hx9 → ∀ u0 u1 : Int32, jiv hx9 68 5 = u0 → jiv hx9 68 3 = u1 → (u0.toInt ≠ 3 ∨ u1.toInt ≤ 399) → dr.1 = v.toInt → dr.2 = vw hx9 → Q (some (.int v)) hx9) : ∀ (l2 : Int32) (g0 : Int32) (g1 : Int32) (h : jH), 0 ≤ l2.toInt ∧ l2.toInt ≤ 1 → 0 ≤ g0.toInt ∧ g0.toInt ≤ 400 → 0 ≤ g1.toInt ∧ g1.toInt ≤ 3 → (g1.toInt ≠ 3 ∨ g0.toInt ≤ 399) → jiv h 68 3 = g0 → jiv h 68 5 = g1 → jJ jSgX Dy h → jSm fp_X2_readPlain_r95_c2d h0 h → d_X2_readPlain_r95_c2d_900190  l2.toInt (vw h) = dr → jX m_X2_readPlain 19 0 0 190 [(0, .ref 95), (1, .int 2), (2, .int l2)] [.int 7] h 0 0 Q := by
  intro l2 g0 g1 h y0 y1 y2 y3 z0 z1  J Sm D
  unfold d_X2_readPlain_r95_c2d_900190 at D
  try rw [vrf z0] at D
  try rw [vrf z1] at D
  refine x_istore (lsx9 := [(4, .int 7), (0, .ref 95), (1, .int 2), (2, .int l2)]) rfl rfl rfl ?_
  refine x_iload (x := 7) rfl rfl ?_
  refine x_iconst (v := (-1)) rfl ki_m1 ?_
  refine x_icne (tgt := 206) rfl rfl (ti_ne jk_7 jk_m1 (bn_t (by omega) ?_))
  refine x_aloadn (x := 95) rfl rfl ?_
  refine z_getR (N := 6) (b := 68) 2 0 rfl f_2_30 rfl J rfl 12160 ⟨rfl, rfl⟩ rfl ?_
  refine x_inv (N := m_X9_step) (As := []) (b := 68) (st := []) (dx9 := 2) (mc := 0) (ms := 0) (host := "") 9 rfl t_X9_step ⟨Or.inl q_2_62, i_X9_step.1, i_X9_step.2⟩ ⟨by decide, rfl⟩ (congrArg Prod.fst (J.1.1 68 (9, 6) rfl)) rfl (by decide) rfl rfl ⟨by decide, by decide⟩ (sf_X9_step_r68d  hD J z1 z0 (by omega) rfl  (fun h J S1 u2 u3 qu2 qu3 ru2 X4 => ?_))
  have Sm := jSm_tr rfl Sm S1
  rw [X4] at D
  have eu2 := (show 0 ≤ u2.toInt ∧ u2.toInt ≤ 3 from qu2 ▸ jrg_f J sg_68_5_6_1_0_1)
  try rw [vrf qu2] at D
  have eu3 := (show 0 ≤ u3.toInt ∧ u3.toInt ≤ 400 from qu3 ▸ jrg_f J sg_68_3_4_1_0_1)
  try rw [vrf qu3] at D
  show jX m_X2_readPlain 19 0 0 213 [(4, .int 7), (0, .ref 95), (1, .int 2), (2, .int l2)] [] _ 0 0 _
  refine x_aloadn (x := 95) rfl rfl ?_
  refine x_iloadn (x := 2) rfl rfl ?_
  refine x_inv (N := m_X2_readSum) (As := [.int 2]) (b := 95) (st := []) (dx9 := 18) (mc := 0) (ms := 0) (host := "") 2 rfl t_X2_readSum ⟨Or.inl q_2_86, i_X2_readSum.1, i_X2_readSum.2⟩ ⟨by decide, rfl⟩ (congrArg Prod.fst (J.1.1 95 (2, 6) rfl)) rfl (by decide) rfl rfl ⟨by decide, by decide⟩ (sf_X2_readSum_r95_c2d  hD J qu2 qu3 (by omega) rfl  (fun v10 h ev10 J S5 u6 u7 qu6 qu7 ru6 X8 X9 => ?_))
  have Sm := jSm_tr rfl Sm S5
  try rw [X8] at D
  try rw [X9] at D
  have eu6 := (show 0 ≤ u6.toInt ∧ u6.toInt ≤ 3 from qu6 ▸ jrg_f J sg_68_5_6_1_0_1)
  try rw [vrf qu6] at D
  have eu7 := (show 0 ≤ u7.toInt ∧ u7.toInt ≤ 400 from qu7 ▸ jrg_f J sg_68_3_4_1_0_1)
  try rw [vrf qu7] at D
  show jX m_X2_readPlain 19 0 0 218 [(4, .int 7), (0, .ref 95), (1, .int 2), (2, .int l2)] [.int v10] _ 0 0 _
  refine x_ifne (tgt := 223) rfl rfl (ti_ne rfl jk_0 ⟨fun c11 => ?_, fun c11 => ?_⟩)
  ·
    rw [if_neg (by omega)] at D
    refine x_aloadn (x := 95) rfl rfl ?_
    refine x_iload (x := 7) rfl rfl ?_
    refine x_inv (N := m_X2_emit) (As := [.int 7]) (b := 95) (st := []) (dx9 := 1) (mc := 0) (ms := 0) (host := "") 2 rfl t_X2_emit ⟨Or.inl q_2_89, i_X2_emit.1, i_X2_emit.2⟩ ⟨by decide, rfl⟩ (congrArg Prod.fst (J.1.1 95 (2, 6) rfl)) rfl (by decide) rfl rfl ⟨by decide, by decide⟩ (sf_X2_emit_r95d  hD J rfl  (fun h J S12 X13 => ?_))
    have Sm := jSm_tr rfl Sm S12
    try rw [jk_7] at X13
    rw [X13] at D
    show jX m_X2_readPlain 19 0 0 229 [(4, .int 7), (0, .ref 95), (1, .int 2), (2, .int l2)] [] _ 0 0 _
    exact jX.sub (jsb_c rfl (jsb_c rfl jsb_n)) (ct_X2_readPlain_r95_c2d_229 hD hQ  l2 u7 u6 h (jr_of rfl (by omega)) (jr_of rfl (by omega)) (jr_of rfl (by omega)) (by omega) (jmc S12 rfl qu7) (jmc S12 rfl qu6) J Sm D)
  ·
    rw [if_pos (by omega)] at D
    refine x_iconst (v := 0) rfl ki_0 ?_
    refine x_zret rfl rfl (by decide) ?_
    exact hQ _ _ (jr_of jk_0 (by omega)) J Sm _ _ qu6 qu7 (by omega) ((congrArg Prod.fst D).symm.trans (show 0 = (0 : Int32).toInt from by have := jk_0; omega)) (congrArg Prod.snd D).symm
set_option maxRecDepth 100000 in
set_option maxHeartbeats 4000000 in
theorem ct_X2_readPlain_r95_c2d_108 {Dy : jH → Prop} {h0 : jH} {Q : Option Value → jH → Prop} {dr : (Int × jW)} (hD : jDk Dy) (hQ : ∀ (v : Int32) hx9, 0 ≤ v.toInt ∧ v.toInt ≤ 1 → jJ jSgX Dy hx9 → jSm fp_X2_readPlain_r95_c2d h0 hx9 → ∀ u0 u1 : Int32, jiv hx9 68 5 = u0 → jiv hx9 68 3 = u1 → (u0.toInt ≠ 3 ∨ u1.toInt ≤ 399) → dr.1 = v.toInt → dr.2 = vw hx9 → Q (some (.int v)) hx9) : ∀ (g0 : Int32) (g1 : Int32) (h : jH), 0 ≤ g0.toInt ∧ g0.toInt ≤ 400 → 0 ≤ g1.toInt ∧ g1.toInt ≤ 3 → (g1.toInt ≠ 3 ∨ g0.toInt ≤ 399) → jiv h 68 3 = g0 → jiv h 68 5 = g1 → jJ jSgX Dy h → jSm fp_X2_readPlain_r95_c2d h0 h → d_X2_readPlain_r95_c2d_108  (vw h) = dr → jX m_X2_readPlain 19 0 0 108 [] [] h 0 0 Q := by
  intro g0 g1 h y0 y1 y2 z0 z1  J Sm D
  unfold d_X2_readPlain_r95_c2d_108 at D
  try rw [vrf z0] at D
  try rw [vrf z1] at D
  refine x_iconst (v := 0) rfl ki_0 ?_
  refine x_zret rfl rfl (by decide) ?_
  exact hQ _ _ (jr_of jk_0 (by omega)) J Sm _ _ z1 z0 (by omega) ((congrArg Prod.fst D).symm.trans (show 0 = (0 : Int32).toInt from by have := jk_0; omega)) (congrArg Prod.snd D).symm
set_option maxRecDepth 100000 in
set_option maxHeartbeats 4000000 in
theorem ct_X2_readPlain_r95_c2d_46 {Dy : jH → Prop} {h0 : jH} {Q : Option Value → jH → Prop} {dr : (Int × jW)} (hD : jDk Dy) (hQ : ∀ (v : Int32) hx9, 0 ≤ v.toInt ∧ v.toInt ≤ 1 → jJ jSgX Dy hx9 → jSm fp_X2_readPlain_r95_c2d h0 hx9 → ∀ u0 u1 : Int32, jiv hx9 68 5 = u0 → jiv hx9 68 3 = u1 → (u0.toInt ≠ 3 ∨ u1.toInt ≤ 399) → dr.1 = v.toInt → dr.2 = vw hx9 → Q (some (.int v)) hx9) : ∀ (l2 : Int32) (g0 : Int32) (g1 : Int32) (h : jH), 0 ≤ l2.toInt ∧ l2.toInt ≤ 1 → 0 ≤ g0.toInt ∧ g0.toInt ≤ 400 → 0 ≤ g1.toInt ∧ g1.toInt ≤ 3 → (g1.toInt ≠ 3 ∨ g0.toInt ≤ 399) → jiv h 68 3 = g0 → jiv h 68 5 = g1 → jJ jSgX Dy h → jSm fp_X2_readPlain_r95_c2d h0 h → d_X2_readPlain_r95_c2d_46  l2.toInt (vw h) = dr → jX m_X2_readPlain 19 0 0 46 [(0, .ref 95), (1, .int 2), (2, .int l2)] [] h 0 0 Q := by
  intro l2 g0 g1 h y0 y1 y2 y3 z0 z1  J Sm D
  unfold d_X2_readPlain_r95_c2d_46 at D
  try rw [vrf z0] at D
  try rw [vrf z1] at D
  refine x_aloadn (x := 95) rfl rfl ?_
  refine z_getR (N := 6) (b := 68) 2 0 rfl f_2_30 rfl J rfl 12160 ⟨rfl, rfl⟩ rfl ?_
  refine x_ldcS (jstr.getD 10 jstr_0) rfl (List.mem_of_getElem? (i := 10) rfl) rfl rfl ?_
  show jX m_X2_readPlain 19 0 0 52 [(0, .ref 95), (1, .int 2), (2, .int l2)] [.ref 15, .ref 68] _ 0 0 _
  refine x_inv (N := m_X9_wordOf) (As := [.ref 15]) (b := 68) (st := []) (dx9 := 4) (mc := 0) (ms := 0) (host := "") 9 rfl t_X9_wordOf ⟨Or.inl q_2_67, i_X9_wordOf.1, i_X9_wordOf.2⟩ ⟨by decide, rfl⟩ (congrArg Prod.fst (J.1.1 68 (9, 6) rfl)) rfl (by decide) rfl rfl ⟨by decide, by decide⟩ (sf_X9_wordOf_r68_r15d  hD J rfl  (fun v4 h J S1 X2 X3 => ?_))
  have ev4 := jfull v4
  have Sm := jSm_tr rfl Sm S1
  try rw [X2] at D
  try rw [← X3] at D
  show jX m_X2_readPlain 19 0 0 55 [(0, .ref 95), (1, .int 2), (2, .int l2)] [.int v4] _ 0 0 _
  refine x_istoren (lsx9 := [(3, .int v4), (0, .ref 95), (1, .int 2), (2, .int l2)]) rfl rfl rfl ?_
  refine x_aloadn (x := 95) rfl rfl ?_
  refine z_getR (N := 6) (b := 68) 2 0 rfl f_2_30 rfl J rfl 12160 ⟨rfl, rfl⟩ rfl ?_
  refine x_bipush (v := 40) rfl kb_40 ?_
  refine x_inv (N := m_X9_isSign) (As := [.int 40]) (b := 68) (st := []) (dx9 := 1) (mc := 0) (ms := 0) (host := "") 9 rfl t_X9_isSign ⟨Or.inl q_2_55, i_X9_isSign.1, i_X9_isSign.2⟩ ⟨by decide, rfl⟩ (congrArg Prod.fst (J.1.1 68 (9, 6) rfl)) rfl (by decide) rfl rfl ⟨by decide, by decide⟩ (sf_X9_isSign_r68d (jr_of jk_40 (by omega)) hD J (jmc S1 rfl z1) (jmc S1 rfl z0) (by omega) rfl  (fun v10 h ev10 J S5 u6 u7 qu6 qu7 ru6 X8 X9 => ?_))
  have Sm := jSm_tr rfl Sm S5
  try rw [jk_40] at X8
  try rw [X8] at D
  try rw [← X9] at D
  have eu6 := (show 0 ≤ u6.toInt ∧ u6.toInt ≤ 3 from qu6 ▸ jrg_f J sg_68_5_6_1_0_1)
  have Luu6 := congrArg Int32.toInt (((jmc S5 rfl (jmc S1 rfl z1))).symm.trans qu6)
  try rw [Luu6] at D
  try rw [vrf qu6] at D
  have eu7 := (show 0 ≤ u7.toInt ∧ u7.toInt ≤ 400 from qu7 ▸ jrg_f J sg_68_3_4_1_0_1)
  have Luu7 := congrArg Int32.toInt (((jmc S5 rfl (jmc S1 rfl z0))).symm.trans qu7)
  try rw [Luu7] at D
  try rw [vrf qu7] at D
  show jX m_X2_readPlain 19 0 0 65 [(3, .int v4), (0, .ref 95), (1, .int 2), (2, .int l2)] [.int v10] _ 0 0 _
  refine x_ifeq (tgt := 110) rfl rfl (ti_eq rfl jk_0 ⟨fun c11 => ?_, fun c11 => ?_⟩)
  ·
    rw [if_pos (by omega)] at D
    refine x_iloadn (x := v4) rfl rfl ?_
    refine x_iconst (v := (-1)) rfl ki_m1 ?_
    refine x_iceq (tgt := 128) rfl rfl (ti_eq rfl jk_m1 ⟨fun c12 => ?_, fun c12 => ?_⟩)
    ·
      rw [if_pos (by omega)] at D
      refine x_aloadn (x := 95) rfl rfl ?_
      refine x_iloadn (x := 2) rfl rfl ?_
      refine x_inv (N := m_X2_readSum) (As := [.int 2]) (b := 95) (st := []) (dx9 := 18) (mc := 0) (ms := 0) (host := "") 2 rfl t_X2_readSum ⟨Or.inl q_2_86, i_X2_readSum.1, i_X2_readSum.2⟩ ⟨by decide, rfl⟩ (congrArg Prod.fst (J.1.1 95 (2, 6) rfl)) rfl (by decide) rfl rfl ⟨by decide, by decide⟩ (sf_X2_readSum_r95_c2d  hD J qu6 qu7 (by omega) rfl  (fun v18 h ev18 J S13 u14 u15 qu14 qu15 ru14 X16 X17 => ?_))
      have Sm := jSm_tr rfl Sm S13
      try rw [X16] at D
      try rw [X17] at D
      have eu14 := (show 0 ≤ u14.toInt ∧ u14.toInt ≤ 3 from qu14 ▸ jrg_f J sg_68_5_6_1_0_1)
      try rw [vrf qu14] at D
      have eu15 := (show 0 ≤ u15.toInt ∧ u15.toInt ≤ 400 from qu15 ▸ jrg_f J sg_68_3_4_1_0_1)
      try rw [vrf qu15] at D
      show jX m_X2_readPlain 19 0 0 133 [(3, .int v4), (0, .ref 95), (1, .int 2), (2, .int l2)] [.int v18] _ 0 0 _
      refine x_ifne (tgt := 138) rfl rfl (ti_ne rfl jk_0 ⟨fun c19 => ?_, fun c19 => ?_⟩)
      ·
        rw [if_neg (by omega)] at D
        refine x_aloadn (x := 95) rfl rfl ?_
        refine z_getR (N := 6) (b := 68) 2 0 rfl f_2_30 rfl J rfl 12160 ⟨rfl, rfl⟩ rfl ?_
        refine x_bipush (v := 60) rfl kb_60 ?_
        refine x_inv (N := m_X9_isSign) (As := [.int 60]) (b := 68) (st := []) (dx9 := 1) (mc := 0) (ms := 0) (host := "") 9 rfl t_X9_isSign ⟨Or.inl q_2_55, i_X9_isSign.1, i_X9_isSign.2⟩ ⟨by decide, rfl⟩ (congrArg Prod.fst (J.1.1 68 (9, 6) rfl)) rfl (by decide) rfl rfl ⟨by decide, by decide⟩ (sf_X9_isSign_r68d (jr_of jk_60 (by omega)) hD J qu14 qu15 (by omega) rfl  (fun v25 h ev25 J S20 u21 u22 qu21 qu22 ru21 X23 X24 => ?_))
        have Sm := jSm_tr rfl Sm S20
        try rw [jk_60] at X23
        try rw [X23] at D
        try rw [← X24] at D
        have eu21 := (show 0 ≤ u21.toInt ∧ u21.toInt ≤ 3 from qu21 ▸ jrg_f J sg_68_5_6_1_0_1)
        have Luu21 := congrArg Int32.toInt (((jmc S20 rfl qu14)).symm.trans qu21)
        try rw [Luu21] at D
        try rw [vrf qu21] at D
        have eu22 := (show 0 ≤ u22.toInt ∧ u22.toInt ≤ 400 from qu22 ▸ jrg_f J sg_68_3_4_1_0_1)
        have Luu22 := congrArg Int32.toInt (((jmc S20 rfl qu15)).symm.trans qu22)
        try rw [Luu22] at D
        try rw [vrf qu22] at D
        show jX m_X2_readPlain 19 0 0 147 [(3, .int v4), (0, .ref 95), (1, .int 2), (2, .int l2)] [.int v25] _ 0 0 _
        refine x_ifeq (tgt := 155) rfl rfl (ti_eq rfl jk_0 ⟨fun c26 => ?_, fun c26 => ?_⟩)
        ·
          rw [if_pos (by omega)] at D
          refine x_aloadn (x := 95) rfl rfl ?_
          refine z_getR (N := 6) (b := 68) 2 0 rfl f_2_30 rfl J rfl 12160 ⟨rfl, rfl⟩ rfl ?_
          refine x_bipush (v := 62) rfl kb_62 ?_
          refine x_inv (N := m_X9_isSign) (As := [.int 62]) (b := 68) (st := []) (dx9 := 1) (mc := 0) (ms := 0) (host := "") 9 rfl t_X9_isSign ⟨Or.inl q_2_55, i_X9_isSign.1, i_X9_isSign.2⟩ ⟨by decide, rfl⟩ (congrArg Prod.fst (J.1.1 68 (9, 6) rfl)) rfl (by decide) rfl rfl ⟨by decide, by decide⟩ (sf_X9_isSign_r68d (jr_of jk_62 (by omega)) hD J qu21 qu22 (by omega) rfl  (fun v32 h ev32 J S27 u28 u29 qu28 qu29 ru28 X30 X31 => ?_))
          have Sm := jSm_tr rfl Sm S27
          try rw [jk_62] at X30
          try rw [X30] at D
          try rw [← X31] at D
          have eu28 := (show 0 ≤ u28.toInt ∧ u28.toInt ≤ 3 from qu28 ▸ jrg_f J sg_68_5_6_1_0_1)
          have Luu28 := congrArg Int32.toInt (((jmc S27 rfl qu21)).symm.trans qu28)
          try rw [Luu28] at D
          try rw [vrf qu28] at D
          have eu29 := (show 0 ≤ u29.toInt ∧ u29.toInt ≤ 400 from qu29 ▸ jrg_f J sg_68_3_4_1_0_1)
          have Luu29 := congrArg Int32.toInt (((jmc S27 rfl qu22)).symm.trans qu29)
          try rw [Luu29] at D
          try rw [vrf qu29] at D
          show jX m_X2_readPlain 19 0 0 164 [(3, .int v4), (0, .ref 95), (1, .int 2), (2, .int l2)] [.int v32] _ 0 0 _
          refine x_ifeq (tgt := 172) rfl rfl (ti_eq rfl jk_0 ⟨fun c33 => ?_, fun c33 => ?_⟩)
          ·
            rw [if_pos (by omega)] at D
            refine x_aloadn (x := 95) rfl rfl ?_
            refine z_getR (N := 6) (b := 68) 2 0 rfl f_2_30 rfl J rfl 12160 ⟨rfl, rfl⟩ rfl ?_
            refine x_bipush (v := 61) rfl kb_61 ?_
            refine x_inv (N := m_X9_isSign) (As := [.int 61]) (b := 68) (st := []) (dx9 := 1) (mc := 0) (ms := 0) (host := "") 9 rfl t_X9_isSign ⟨Or.inl q_2_55, i_X9_isSign.1, i_X9_isSign.2⟩ ⟨by decide, rfl⟩ (congrArg Prod.fst (J.1.1 68 (9, 6) rfl)) rfl (by decide) rfl rfl ⟨by decide, by decide⟩ (sf_X9_isSign_r68d (jr_of jk_61 (by omega)) hD J qu28 qu29 (by omega) rfl  (fun v39 h ev39 J S34 u35 u36 qu35 qu36 ru35 X37 X38 => ?_))
            have Sm := jSm_tr rfl Sm S34
            try rw [jk_61] at X37
            try rw [X37] at D
            try rw [← X38] at D
            have eu35 := (show 0 ≤ u35.toInt ∧ u35.toInt ≤ 3 from qu35 ▸ jrg_f J sg_68_5_6_1_0_1)
            have Luu35 := congrArg Int32.toInt (((jmc S34 rfl qu28)).symm.trans qu35)
            try rw [Luu35] at D
            try rw [vrf qu35] at D
            have eu36 := (show 0 ≤ u36.toInt ∧ u36.toInt ≤ 400 from qu36 ▸ jrg_f J sg_68_3_4_1_0_1)
            have Luu36 := congrArg Int32.toInt (((jmc S34 rfl qu29)).symm.trans qu36)
            try rw [Luu36] at D
            try rw [vrf qu36] at D
            show jX m_X2_readPlain 19 0 0 181 [(3, .int v4), (0, .ref 95), (1, .int 2), (2, .int l2)] [.int v39] _ 0 0 _
            refine x_ifeq (tgt := 189) rfl rfl (ti_eq rfl jk_0 ⟨fun c40 => ?_, fun c40 => ?_⟩)
            ·
              rw [if_pos (by omega)] at D
              refine x_iconst (v := (-1)) rfl ki_m1 ?_
              exact jX.sub (jsb_c rfl (jsb_c rfl (jsb_c rfl jsb_n))) (ct_X2_readPlain_r95_c2d_100190 hD hQ  l2 u36 u35 h (jr_of rfl (by omega)) (jr_of rfl (by omega)) (jr_of rfl (by omega)) (by omega) qu36 qu35 J Sm D)
            ·
              rw [if_neg (by omega)] at D
              refine x_bipush (v := 9) rfl kb_9 ?_
              refine x_goto (tgt := 190) rfl rfl ?_
              exact jX.sub (jsb_c rfl (jsb_c rfl (jsb_c rfl jsb_n))) (ct_X2_readPlain_r95_c2d_190 hD hQ  l2 u36 u35 h (jr_of rfl (by omega)) (jr_of rfl (by omega)) (jr_of rfl (by omega)) (by omega) qu36 qu35 J Sm D)
          ·
            rw [if_neg (by omega)] at D
            refine x_bipush (v := 8) rfl kb_8 ?_
            refine x_goto (tgt := 190) rfl rfl ?_
            exact jX.sub (jsb_c rfl (jsb_c rfl (jsb_c rfl jsb_n))) (ct_X2_readPlain_r95_c2d_1000190 hD hQ  l2 u29 u28 h (jr_of rfl (by omega)) (jr_of rfl (by omega)) (jr_of rfl (by omega)) (by omega) qu29 qu28 J Sm D)
        ·
          rw [if_neg (by omega)] at D
          refine x_bipush (v := 7) rfl kb_7 ?_
          refine x_goto (tgt := 190) rfl rfl ?_
          exact jX.sub (jsb_c rfl (jsb_c rfl (jsb_c rfl jsb_n))) (ct_X2_readPlain_r95_c2d_900190 hD hQ  l2 u22 u21 h (jr_of rfl (by omega)) (jr_of rfl (by omega)) (jr_of rfl (by omega)) (by omega) qu22 qu21 J Sm D)
      ·
        rw [if_pos (by omega)] at D
        refine x_iconst (v := 0) rfl ki_0 ?_
        refine x_zret rfl rfl (by decide) ?_
        exact hQ _ _ (jr_of jk_0 (by omega)) J Sm _ _ qu14 qu15 (by omega) ((congrArg Prod.fst D).symm.trans (show 0 = (0 : Int32).toInt from by have := jk_0; omega)) (congrArg Prod.snd D).symm
    ·
      rw [if_neg (by omega)] at D
      refine x_aloadn (x := 95) rfl rfl ?_
      refine x_iconst (v := 2) rfl ki_2 ?_
      refine x_iconst (v := 5) rfl ki_5 ?_
      refine x_iloadn (x := v4) rfl rfl ?_
      refine z_iaddW rfl jk_5 rfl (fun v41 ev41 => ?_)
      have fv41 := jfull v41
      try rw [← ev41] at D
      refine x_inv (N := m_X2_readPart) (As := [.int 2, .int v41]) (b := 95) (st := []) (dx9 := 3) (mc := 0) (ms := 0) (host := "") 2 rfl t_X2_readPart ⟨Or.inl q_2_141, i_X2_readPart.1, i_X2_readPart.2⟩ ⟨by decide, rfl⟩ (congrArg Prod.fst (J.1.1 95 (2, 6) rfl)) rfl (by decide) rfl rfl ⟨by decide, by decide⟩ (sf_X2_readPart_r95d (jr_of jk_2 (by omega)) hD J qu6 qu7 (by omega) rfl  (fun v47 h ev47 J S42 u43 u44 qu43 qu44 ru43 X45 X46 => ?_))
      have Sm := jSm_tr rfl Sm S42
      try rw [jk_2] at X45
      try rw [jk_2] at X46
      try rw [X45] at D
      try rw [X46] at D
      have eu43 := (show 0 ≤ u43.toInt ∧ u43.toInt ≤ 3 from qu43 ▸ jrg_f J sg_68_5_6_1_0_1)
      try rw [vrf qu43] at D
      have eu44 := (show 0 ≤ u44.toInt ∧ u44.toInt ≤ 400 from qu44 ▸ jrg_f J sg_68_3_4_1_0_1)
      try rw [vrf qu44] at D
      show jX m_X2_readPlain 19 0 0 123 [(3, .int v4), (0, .ref 95), (1, .int 2), (2, .int l2)] [.int v47] _ 0 0 _
      refine x_ifne (tgt := 229) rfl rfl (ti_ne rfl jk_0 ⟨fun c48 => ?_, fun c48 => ?_⟩)
      ·
        rw [if_neg (by omega)] at D
        exact jX.sub (jsb_c rfl (jsb_c rfl jsb_n)) (ct_X2_readPlain_r95_c2d_229 hD hQ  l2 u44 u43 h (jr_of rfl (by omega)) (jr_of rfl (by omega)) (jr_of rfl (by omega)) (by omega) qu44 qu43 J Sm D)
      ·
        rw [if_pos (by omega)] at D
        refine x_iconst (v := 0) rfl ki_0 ?_
        refine x_zret rfl rfl (by decide) ?_
        exact hQ _ _ (jr_of jk_0 (by omega)) J Sm _ _ qu43 qu44 (by omega) ((congrArg Prod.fst D).symm.trans (show 0 = (0 : Int32).toInt from by have := jk_0; omega)) (congrArg Prod.snd D).symm
  ·
    rw [if_neg (by omega)] at D
    refine x_iloadn (x := 2) rfl rfl ?_
    refine x_bipush (v := 8) rfl kb_8 ?_
    refine x_iclt (tgt := 82) rfl rfl (ti_lt jk_2 jk_8 (br_t (by omega) ?_))
    refine x_aloadn (x := 95) rfl rfl ?_
    refine z_getR (N := 6) (b := 68) 2 0 rfl f_2_30 rfl J rfl 12160 ⟨rfl, rfl⟩ rfl ?_
    refine x_inv (N := m_X9_step) (As := []) (b := 68) (st := []) (dx9 := 2) (mc := 0) (ms := 0) (host := "") 9 rfl t_X9_step ⟨Or.inl q_2_62, i_X9_step.1, i_X9_step.2⟩ ⟨by decide, rfl⟩ (congrArg Prod.fst (J.1.1 68 (9, 6) rfl)) rfl (by decide) rfl rfl ⟨by decide, by decide⟩ (sf_X9_step_r68d  hD J qu6 qu7 (by omega) rfl  (fun h J S49 u50 u51 qu50 qu51 ru50 X52 => ?_))
    have Sm := jSm_tr rfl Sm S49
    rw [X52] at D
    have eu50 := (show 0 ≤ u50.toInt ∧ u50.toInt ≤ 3 from qu50 ▸ jrg_f J sg_68_5_6_1_0_1)
    try rw [vrf qu50] at D
    have eu51 := (show 0 ≤ u51.toInt ∧ u51.toInt ≤ 400 from qu51 ▸ jrg_f J sg_68_3_4_1_0_1)
    try rw [vrf qu51] at D
    show jX m_X2_readPlain 19 0 0 89 [(3, .int v4), (0, .ref 95), (1, .int 2), (2, .int l2)] [] _ 0 0 _
    refine x_aloadn (x := 95) rfl rfl ?_
    refine x_iloadn (x := 2) rfl rfl ?_
    refine x_iconst (v := 1) rfl ki_1 ?_
    refine y_iadd (v := 3) rfl (by decide) ?_
    refine x_inv (N := m_X2_readTest) (As := [.int 3]) (b := 95) (st := []) (dx9 := 18) (mc := 0) (ms := 0) (host := "") 2 rfl t_X2_readTest ⟨Or.inl q_2_96, i_X2_readTest.1, i_X2_readTest.2⟩ ⟨by decide, rfl⟩ (congrArg Prod.fst (J.1.1 95 (2, 6) rfl)) rfl (by decide) rfl rfl ⟨by decide, by decide⟩ (sf_X2_readTest_r95_c3d  hD J qu50 qu51 (by omega) rfl  (fun v58 h ev58 J S53 u54 u55 qu54 qu55 ru54 X56 X57 => ?_))
    have Sm := jSm_tr rfl Sm S53
    try rw [X56] at D
    try rw [X57] at D
    have eu54 := (show 0 ≤ u54.toInt ∧ u54.toInt ≤ 3 from qu54 ▸ jrg_f J sg_68_5_6_1_0_1)
    try rw [vrf qu54] at D
    have eu55 := (show 0 ≤ u55.toInt ∧ u55.toInt ≤ 400 from qu55 ▸ jrg_f J sg_68_3_4_1_0_1)
    try rw [vrf qu55] at D
    show jX m_X2_readPlain 19 0 0 96 [(3, .int v4), (0, .ref 95), (1, .int 2), (2, .int l2)] [.int v58] _ 0 0 _
    refine x_ifeq (tgt := 108) rfl rfl (ti_eq rfl jk_0 ⟨fun c59 => ?_, fun c59 => ?_⟩)
    ·
      rw [if_pos (by omega)] at D
      exact jX.sub jsb_n (ct_X2_readPlain_r95_c2d_108 hD hQ  u55 u54 h (jr_of rfl (by omega)) (jr_of rfl (by omega)) (by omega) qu55 qu54 J Sm D)
    ·
      rw [if_neg (by omega)] at D
      refine x_aloadn (x := 95) rfl rfl ?_
      refine x_bipush (v := 41) rfl kb_41 ?_
      refine x_inv (N := m_X2_readSign) (As := [.int 41]) (b := 95) (st := []) (dx9 := 18) (mc := 0) (ms := 0) (host := "") 2 rfl t_X2_readSign ⟨Or.inl q_2_138, i_X2_readSign.1, i_X2_readSign.2⟩ ⟨by decide, rfl⟩ (congrArg Prod.fst (J.1.1 95 (2, 6) rfl)) rfl (by decide) rfl rfl ⟨by decide, by decide⟩ (jC.of rfl k_X2_readSign rfl ?_)
      show jX m_X2_readSign 18 0 0 0 [(0, .ref 95), (1, .int 41)] [] _ 0 0 _
      refine x_aloadn (x := 95) rfl rfl ?_
      refine z_getR (N := 6) (b := 68) 2 0 rfl f_2_30 rfl J rfl 12160 ⟨rfl, rfl⟩ rfl ?_
      refine x_iloadn (x := 41) rfl rfl ?_
      refine x_inv (N := m_X9_isSign) (As := [.int 41]) (b := 68) (st := []) (dx9 := 1) (mc := 0) (ms := 0) (host := "") 9 rfl t_X9_isSign ⟨Or.inl q_2_55, i_X9_isSign.1, i_X9_isSign.2⟩ ⟨by decide, rfl⟩ (congrArg Prod.fst (J.1.1 68 (9, 6) rfl)) rfl (by decide) rfl rfl ⟨by decide, by decide⟩ (sf_X9_isSign_r68d (jr_of jk_41 (by omega)) hD J qu54 qu55 (by omega) rfl  (fun v65 h ev65 J S60 u61 u62 qu61 qu62 ru61 X63 X64 => ?_))
      have Sm := jSm_tr rfl Sm S60
      try rw [jk_41] at X63
      try rw [X63] at D
      try rw [← X64] at D
      have eu61 := (show 0 ≤ u61.toInt ∧ u61.toInt ≤ 3 from qu61 ▸ jrg_f J sg_68_5_6_1_0_1)
      have Luu61 := congrArg Int32.toInt (((jmc S60 rfl qu54)).symm.trans qu61)
      try rw [Luu61] at D
      try rw [vrf qu61] at D
      have eu62 := (show 0 ≤ u62.toInt ∧ u62.toInt ≤ 400 from qu62 ▸ jrg_f J sg_68_3_4_1_0_1)
      have Luu62 := congrArg Int32.toInt (((jmc S60 rfl qu55)).symm.trans qu62)
      try rw [Luu62] at D
      try rw [vrf qu62] at D
      show jX m_X2_readSign 18 0 0 8 [(0, .ref 95), (1, .int 41)] [.int v65] _ 0 0 _
      refine x_ifne (tgt := 19) rfl rfl (ti_ne rfl jk_0 ⟨fun c66 => ?_, fun c66 => ?_⟩)
      ·
        rw [if_neg (by omega)] at D
        refine x_aloadn (x := 95) rfl rfl ?_
        refine z_getR (N := 6) (b := 68) 2 0 rfl f_2_30 rfl J rfl 12160 ⟨rfl, rfl⟩ rfl ?_
        refine x_inv (N := m_X9_step) (As := []) (b := 68) (st := []) (dx9 := 2) (mc := 0) (ms := 0) (host := "") 9 rfl t_X9_step ⟨Or.inl q_2_62, i_X9_step.1, i_X9_step.2⟩ ⟨by decide, rfl⟩ (congrArg Prod.fst (J.1.1 68 (9, 6) rfl)) rfl (by decide) rfl rfl ⟨by decide, by decide⟩ (sf_X9_step_r68d  hD J qu61 qu62 (by omega) rfl  (fun h J S67 u68 u69 qu68 qu69 ru68 X70 => ?_))
        have Sm := jSm_tr rfl Sm S67
        rw [X70] at D
        have eu68 := (show 0 ≤ u68.toInt ∧ u68.toInt ≤ 3 from qu68 ▸ jrg_f J sg_68_5_6_1_0_1)
        try rw [vrf qu68] at D
        have eu69 := (show 0 ≤ u69.toInt ∧ u69.toInt ≤ 400 from qu69 ▸ jrg_f J sg_68_3_4_1_0_1)
        try rw [vrf qu69] at D
        show jX m_X2_readSign 18 0 0 26 [(0, .ref 95), (1, .int 41)] [] _ 0 0 _
        refine x_iconst (v := 1) rfl ki_1 ?_
        refine x_zret rfl rfl (by decide) ?_
        show jX m_X2_readPlain 19 0 0 105 [(3, .int v4), (0, .ref 95), (1, .int 2), (2, .int l2)] [.int 1] _ 0 0 _
        refine x_ifne (tgt := 229) rfl rfl (ti_ne jk_1 jk_0 (bn_t (by omega) ?_))
        exact jX.sub (jsb_c rfl (jsb_c rfl jsb_n)) (ct_X2_readPlain_r95_c2d_229 hD hQ  l2 u69 u68 h (jr_of rfl (by omega)) (jr_of rfl (by omega)) (jr_of rfl (by omega)) (by omega) qu69 qu68 J Sm D)
      ·
        rw [if_pos (by omega)] at D
        refine x_aloadn (x := 95) rfl rfl ?_
        refine z_getR (N := 6) (b := 68) 2 0 rfl f_2_30 rfl J rfl 12160 ⟨rfl, rfl⟩ rfl ?_
        refine x_inv (N := m_X9_blame) (As := []) (b := 68) (st := []) (dx9 := 17) (mc := 0) (ms := 0) (host := "") 9 rfl t_X9_blame ⟨Or.inl q_2_59, i_X9_blame.1, i_X9_blame.2⟩ ⟨by decide, rfl⟩ (congrArg Prod.fst (J.1.1 68 (9, 6) rfl)) rfl (by decide) rfl rfl ⟨by decide, by decide⟩ (jC.of rfl k_X9_blame rfl ?_)
        show jX m_X9_blame 17 0 0 0 [(0, .ref 68)] [] _ 0 0 _
        refine x_aloadn (x := 68) rfl rfl ?_
        refine x_aloadn (x := 68) rfl rfl ?_
        refine z_getM (N := 6) (v := u62) 9 3 rfl f_9_22 rfl J rfl qu62 ?_
        refine z_putI (N := 6) (w := u62.toInt) 9 2 rfl f_9_19 rfl (jfin_no TX9 RX9 6 rfl rfl) hD J Sm rfl rfl rfl (pw_68_2 (by omega)) rfl (fun h w71 J Sm => ?_)
        rw [vwf w71 (show u62.toInt = u62.toInt from by omega)] at D
        refine x_iconst (v := 0) rfl ki_0 ?_
        refine x_zret rfl rfl (by decide) ?_
        show jX m_X2_readSign 18 0 0 18 [(0, .ref 95), (1, .int 41)] [.int 0] _ 0 0 _
        refine x_zret rfl rfl (by decide) ?_
        show jX m_X2_readPlain 19 0 0 105 [(3, .int v4), (0, .ref 95), (1, .int 2), (2, .int l2)] [.int 0] _ 0 0 _
        refine x_ifne (tgt := 229) rfl rfl (ti_ne jk_0 jk_0 (bn_f (by omega) ?_))
        exact jX.sub jsb_n (ct_X2_readPlain_r95_c2d_108 hD hQ  u62 u61 h (jr_of rfl (by omega)) (jr_of rfl (by omega)) (by omega) (jmo w71 rfl qu62) (jmo w71 rfl qu61) J Sm D)
set_option maxRecDepth 100000 in
set_option maxHeartbeats 4000000 in
theorem ct_X2_readPlain_r95_c2d_300032 {Dy : jH → Prop} {h0 : jH} {Q : Option Value → jH → Prop} {dr : (Int × jW)} {K4 : Int → Int → jW → (Int × jW)} {R4 : Int} (hD : jDk Dy) (hQ : ∀ (v : Int32) hx9, 0 ≤ v.toInt ∧ v.toInt ≤ 1 → jJ jSgX Dy hx9 → jSm fp_X2_readPlain_r95_c2d h0 hx9 → ∀ u0 u1 : Int32, jiv hx9 68 5 = u0 → jiv hx9 68 3 = u1 → (u0.toInt ≠ 3 ∨ u1.toInt ≤ 399) → dr.1 = v.toInt → dr.2 = vw hx9 → Q (some (.int v)) hx9) (k4 : ∀ (l2 : Int32) (l3 : Int32) (g0 : Int32) (g1 : Int32) (h : jH), 400 - l3.toInt < R4 → 0 ≤ l2.toInt ∧ l2.toInt ≤ 1 → 0 ≤ l3.toInt ∧ l3.toInt ≤ 400 → 0 ≤ g0.toInt ∧ g0.toInt ≤ 400 → 0 ≤ g1.toInt ∧ g1.toInt ≤ 3 → (g1.toInt ≠ 3 ∨ g0.toInt ≤ 399) → jiv h 68 3 = g0 → jiv h 68 5 = g1 → jJ jSgX Dy h → jSm fp_X2_readPlain_r95_c2d h0 h → K4 l2.toInt l3.toInt (vw h) = dr → jX m_X2_readPlain 19 0 0 4 [(0, .ref 95), (1, .int 2), (2, .int l2), (3, .int l3)] [] h 0 0 Q) : ∀ (l3 : Int32) (g0 : Int32) (g1 : Int32) (h : jH), 0 ≤ l3.toInt ∧ l3.toInt ≤ 399 → 0 ≤ g0.toInt ∧ g0.toInt ≤ 400 → 0 ≤ g1.toInt ∧ g1.toInt ≤ 3 → (g1.toInt ≠ 3 ∨ g0.toInt ≤ 399) → jiv h 68 3 = g0 → jiv h 68 5 = g1 → 400 - l3.toInt ≤ R4 → jJ jSgX Dy h → jSm fp_X2_readPlain_r95_c2d h0 h → d_X2_readPlain_r95_c2d_300032 K4  l3.toInt (vw h) = dr → jX m_X2_readPlain 19 0 0 32 [(0, .ref 95), (1, .int 2), (3, .int l3)] [.int 1] h 0 0 Q := by
  intro l3 g0 g1 h y0 y1 y2 y3 z0 z1 m4 J Sm D
  unfold d_X2_readPlain_r95_c2d_300032 at D
  try rw [vrf z0] at D
  try rw [vrf z1] at D
  refine x_istoren (lsx9 := [(2, .int 1), (0, .ref 95), (1, .int 2), (3, .int l3)]) rfl rfl rfl ?_
  refine x_aloadn (x := 95) rfl rfl ?_
  refine z_getR (N := 6) (b := 68) 2 0 rfl f_2_30 rfl J rfl 12160 ⟨rfl, rfl⟩ rfl ?_
  refine x_inv (N := m_X9_step) (As := []) (b := 68) (st := []) (dx9 := 2) (mc := 0) (ms := 0) (host := "") 9 rfl t_X9_step ⟨Or.inl q_2_62, i_X9_step.1, i_X9_step.2⟩ ⟨by decide, rfl⟩ (congrArg Prod.fst (J.1.1 68 (9, 6) rfl)) rfl (by decide) rfl rfl ⟨by decide, by decide⟩ (sf_X9_step_r68d  hD J z1 z0 (by omega) rfl  (fun h J S1 u2 u3 qu2 qu3 ru2 X4 => ?_))
  have Sm := jSm_tr rfl Sm S1
  rw [X4] at D
  have eu2 := (show 0 ≤ u2.toInt ∧ u2.toInt ≤ 3 from qu2 ▸ jrg_f J sg_68_5_6_1_0_1)
  try rw [vrf qu2] at D
  have eu3 := (show 0 ≤ u3.toInt ∧ u3.toInt ≤ 400 from qu3 ▸ jrg_f J sg_68_3_4_1_0_1)
  try rw [vrf qu3] at D
  show jX m_X2_readPlain 19 0 0 40 [(2, .int 1), (0, .ref 95), (1, .int 2), (3, .int l3)] [] _ 0 0 _
  refine z_iinc (x := l3) (lsx9 := fun v5 => [(3, .int v5), (2, .int 1), (0, .ref 95), (1, .int 2)]) rfl rfl rfl jko_1 (by omega) rfl (fun _ => rfl) (fun v5 ev5 => ?_)
  refine x_goto (tgt := 4) rfl rfl ?_
  try rw [show (l3.toInt + 1) = v5.toInt from by omega] at D
  exact jX.sub (jsb_c rfl (jsb_c rfl (jsb_c rfl (jsb_c rfl jsb_n)))) (k4 1 v5 u3 u2 h (by omega) (jr_of jk_1 (by omega)) (jr_of rfl (by omega)) (jr_of rfl (by omega)) (jr_of rfl (by omega)) (by omega) qu3 qu2 J Sm (by rw [jk_1]; exact D))
set_option maxRecDepth 100000 in
set_option maxHeartbeats 4000000 in
theorem ct_X2_readPlain_r95_c2d_200032 {Dy : jH → Prop} {h0 : jH} {Q : Option Value → jH → Prop} {dr : (Int × jW)} {K4 : Int → Int → jW → (Int × jW)} {R4 : Int} (hD : jDk Dy) (hQ : ∀ (v : Int32) hx9, 0 ≤ v.toInt ∧ v.toInt ≤ 1 → jJ jSgX Dy hx9 → jSm fp_X2_readPlain_r95_c2d h0 hx9 → ∀ u0 u1 : Int32, jiv hx9 68 5 = u0 → jiv hx9 68 3 = u1 → (u0.toInt ≠ 3 ∨ u1.toInt ≤ 399) → dr.1 = v.toInt → dr.2 = vw hx9 → Q (some (.int v)) hx9) (k4 : ∀ (l2 : Int32) (l3 : Int32) (g0 : Int32) (g1 : Int32) (h : jH), 400 - l3.toInt < R4 → 0 ≤ l2.toInt ∧ l2.toInt ≤ 1 → 0 ≤ l3.toInt ∧ l3.toInt ≤ 400 → 0 ≤ g0.toInt ∧ g0.toInt ≤ 400 → 0 ≤ g1.toInt ∧ g1.toInt ≤ 3 → (g1.toInt ≠ 3 ∨ g0.toInt ≤ 399) → jiv h 68 3 = g0 → jiv h 68 5 = g1 → jJ jSgX Dy h → jSm fp_X2_readPlain_r95_c2d h0 h → K4 l2.toInt l3.toInt (vw h) = dr → jX m_X2_readPlain 19 0 0 4 [(0, .ref 95), (1, .int 2), (2, .int l2), (3, .int l3)] [] h 0 0 Q) : ∀ (l3 : Int32) (g0 : Int32) (g1 : Int32) (h : jH), 0 ≤ l3.toInt ∧ l3.toInt ≤ 399 → 0 ≤ g0.toInt ∧ g0.toInt ≤ 400 → 0 ≤ g1.toInt ∧ g1.toInt ≤ 3 → (g1.toInt ≠ 3 ∨ g0.toInt ≤ 399) → jiv h 68 3 = g0 → jiv h 68 5 = g1 → 400 - l3.toInt ≤ R4 → jJ jSgX Dy h → jSm fp_X2_readPlain_r95_c2d h0 h → d_X2_readPlain_r95_c2d_200032 K4  l3.toInt (vw h) = dr → jX m_X2_readPlain 19 0 0 32 [(0, .ref 95), (1, .int 2), (3, .int l3)] [.int 0] h 0 0 Q := by
  intro l3 g0 g1 h y0 y1 y2 y3 z0 z1 m4 J Sm D
  unfold d_X2_readPlain_r95_c2d_200032 at D
  try rw [vrf z0] at D
  try rw [vrf z1] at D
  refine x_istoren (lsx9 := [(2, .int 0), (0, .ref 95), (1, .int 2), (3, .int l3)]) rfl rfl rfl ?_
  refine x_aloadn (x := 95) rfl rfl ?_
  refine z_getR (N := 6) (b := 68) 2 0 rfl f_2_30 rfl J rfl 12160 ⟨rfl, rfl⟩ rfl ?_
  refine x_inv (N := m_X9_step) (As := []) (b := 68) (st := []) (dx9 := 2) (mc := 0) (ms := 0) (host := "") 9 rfl t_X9_step ⟨Or.inl q_2_62, i_X9_step.1, i_X9_step.2⟩ ⟨by decide, rfl⟩ (congrArg Prod.fst (J.1.1 68 (9, 6) rfl)) rfl (by decide) rfl rfl ⟨by decide, by decide⟩ (sf_X9_step_r68d  hD J z1 z0 (by omega) rfl  (fun h J S1 u2 u3 qu2 qu3 ru2 X4 => ?_))
  have Sm := jSm_tr rfl Sm S1
  rw [X4] at D
  have eu2 := (show 0 ≤ u2.toInt ∧ u2.toInt ≤ 3 from qu2 ▸ jrg_f J sg_68_5_6_1_0_1)
  try rw [vrf qu2] at D
  have eu3 := (show 0 ≤ u3.toInt ∧ u3.toInt ≤ 400 from qu3 ▸ jrg_f J sg_68_3_4_1_0_1)
  try rw [vrf qu3] at D
  show jX m_X2_readPlain 19 0 0 40 [(2, .int 0), (0, .ref 95), (1, .int 2), (3, .int l3)] [] _ 0 0 _
  refine z_iinc (x := l3) (lsx9 := fun v5 => [(3, .int v5), (2, .int 0), (0, .ref 95), (1, .int 2)]) rfl rfl rfl jko_1 (by omega) rfl (fun _ => rfl) (fun v5 ev5 => ?_)
  refine x_goto (tgt := 4) rfl rfl ?_
  try rw [show (l3.toInt + 1) = v5.toInt from by omega] at D
  exact jX.sub (jsb_c rfl (jsb_c rfl (jsb_c rfl (jsb_c rfl jsb_n)))) (k4 0 v5 u3 u2 h (by omega) (jr_of jk_0 (by omega)) (jr_of rfl (by omega)) (jr_of rfl (by omega)) (jr_of rfl (by omega)) (by omega) qu3 qu2 J Sm (by rw [jk_0]; exact D))
set_option maxRecDepth 100000 in
set_option maxHeartbeats 4000000 in
theorem ct_X2_readPlain_r95_c2d_4 {Dy : jH → Prop} {h0 : jH} {Q : Option Value → jH → Prop} {dr : (Int × jW)} (hD : jDk Dy) (hQ : ∀ (v : Int32) hx9, 0 ≤ v.toInt ∧ v.toInt ≤ 1 → jJ jSgX Dy hx9 → jSm fp_X2_readPlain_r95_c2d h0 hx9 → ∀ u0 u1 : Int32, jiv hx9 68 5 = u0 → jiv hx9 68 3 = u1 → (u0.toInt ≠ 3 ∨ u1.toInt ≤ 399) → dr.1 = v.toInt → dr.2 = vw hx9 → Q (some (.int v)) hx9) : ∀ r : Nat, ∀ (l2 : Int32) (l3 : Int32) (g0 : Int32) (g1 : Int32) (h : jH), 400 - l3.toInt < (r : Int) → 0 ≤ l2.toInt ∧ l2.toInt ≤ 1 → 0 ≤ l3.toInt ∧ l3.toInt ≤ 400 → 0 ≤ g0.toInt ∧ g0.toInt ≤ 400 → 0 ≤ g1.toInt ∧ g1.toInt ≤ 3 → (g1.toInt ≠ 3 ∨ g0.toInt ≤ 399) → jiv h 68 3 = g0 → jiv h 68 5 = g1 → jJ jSgX Dy h → jSm fp_X2_readPlain_r95_c2d h0 h → d_X2_readPlain_r95_c2d_4 r l2.toInt l3.toInt (vw h) = dr → jX m_X2_readPlain 19 0 0 4 [(0, .ref 95), (1, .int 2), (2, .int l2), (3, .int l3)] [] h 0 0 Q := by
  intro r
  induction r with
  | zero =>
    intro l2 l3 g0 g1 h hm y0 y1 y2 y3 y4 z0 z1  J Sm D
    exfalso
    omega
  | succ r ih =>
    intro l2 l3 g0 g1 h hm y0 y1 y2 y3 y4 z0 z1  J Sm D
    rw [d_X2_readPlain_r95_c2d_4.eq_2] at D
    try rw [vrf z0] at D
    try rw [vrf z1] at D
    refine x_iloadn (x := l3) rfl rfl ?_
    refine x_sipush (v := 400) rfl ks_400 ?_
    refine x_icge (tgt := 46) rfl rfl (ti_ge rfl jk_400 ⟨fun c1 => ?_, fun c1 => ?_⟩)
    ·
      rw [if_pos (by omega)] at D
      exact jX.sub (jsb_c rfl (jsb_c rfl (jsb_c rfl jsb_n))) (ct_X2_readPlain_r95_c2d_46 hD hQ  l2 g0 g1 h (jr_of rfl (by omega)) (jr_of rfl (by omega)) (jr_of rfl (by omega)) (by omega) z0 z1 J Sm D)
    ·
      rw [if_neg (by omega)] at D
      refine x_aloadn (x := 95) rfl rfl ?_
      refine z_getR (N := 6) (b := 68) 2 0 rfl f_2_30 rfl J rfl 12160 ⟨rfl, rfl⟩ rfl ?_
      refine x_ldcS (jstr.getD 9 jstr_0) rfl (List.mem_of_getElem? (i := 9) rfl) rfl rfl ?_
      show jX m_X2_readPlain 19 0 0 17 [(0, .ref 95), (1, .int 2), (2, .int l2), (3, .int l3)] [.ref 14, .ref 68] _ 0 0 _
      refine x_inv (N := m_X9_wordOf) (As := [.ref 14]) (b := 68) (st := []) (dx9 := 4) (mc := 0) (ms := 0) (host := "") 9 rfl t_X9_wordOf ⟨Or.inl q_2_67, i_X9_wordOf.1, i_X9_wordOf.2⟩ ⟨by decide, rfl⟩ (congrArg Prod.fst (J.1.1 68 (9, 6) rfl)) rfl (by decide) rfl rfl ⟨by decide, by decide⟩ (sf_X9_wordOf_r68_r14d  hD J rfl  (fun v5 h J S2 X3 X4 => ?_))
      have ev5 := jfull v5
      have Sm := jSm_tr rfl Sm S2
      try rw [X3] at D
      try rw [← X4] at D
      show jX m_X2_readPlain 19 0 0 20 [(0, .ref 95), (1, .int 2), (2, .int l2), (3, .int l3)] [.int v5] _ 0 0 _
      refine x_ifne (tgt := 46) rfl rfl (ti_ne rfl jk_0 ⟨fun c6 => ?_, fun c6 => ?_⟩)
      ·
        rw [if_neg (by omega)] at D
        exact jX.sub (jsb_c rfl (jsb_c rfl (jsb_c rfl jsb_n))) (ct_X2_readPlain_r95_c2d_46 hD hQ  l2 g0 g1 h (jr_of rfl (by omega)) (jr_of rfl (by omega)) (jr_of rfl (by omega)) (by omega) (jmc S2 rfl z0) (jmc S2 rfl z1) J Sm D)
      ·
        rw [if_pos (by omega)] at D
        refine x_iloadn (x := l2) rfl rfl ?_
        refine x_ifne (tgt := 31) rfl rfl (ti_ne rfl jk_0 ⟨fun c7 => ?_, fun c7 => ?_⟩)
        ·
          rw [if_neg (by omega)] at D
          refine x_iconst (v := 0) rfl ki_0 ?_
          exact jX.sub (jsb_c rfl (jsb_c rfl (jsb_c rfl jsb_n))) (ct_X2_readPlain_r95_c2d_200032 hD hQ ih l3 g0 g1 h (jr_of rfl (by omega)) (jr_of rfl (by omega)) (jr_of rfl (by omega)) (by omega) (jmc S2 rfl z0) (jmc S2 rfl z1) (by omega) J Sm D)
        ·
          rw [if_pos (by omega)] at D
          refine x_iconst (v := 1) rfl ki_1 ?_
          refine x_goto (tgt := 32) rfl rfl ?_
          exact jX.sub (jsb_c rfl (jsb_c rfl (jsb_c rfl jsb_n))) (ct_X2_readPlain_r95_c2d_300032 hD hQ ih l3 g0 g1 h (jr_of rfl (by omega)) (jr_of rfl (by omega)) (jr_of rfl (by omega)) (by omega) (jmc S2 rfl z0) (jmc S2 rfl z1) (by omega) J Sm D)
set_option maxRecDepth 100000 in
set_option maxHeartbeats 4000000 in
theorem sf_X2_readPlain_r95_c2d {Dy : jH → Prop} {h : jH} {Q : Option Value → jH → Prop} {dr : (Int × jW)} (hD : jDk Dy) (J : jJ jSgX Dy h) {p0 p1 : Int32} (zp0 : jiv h 68 5 = p0) (zp1 : jiv h 68 3 = p1) (rl_p0 : (p0.toInt ≠ 3 ∨ p1.toInt ≤ 399)) (D : d_X2_readPlain_r95_c2d (vw h) = dr) (hQ : ∀ (v : Int32) hx9, 0 ≤ v.toInt ∧ v.toInt ≤ 1 → jJ jSgX Dy hx9 → jSm fp_X2_readPlain_r95_c2d h hx9 → ∀ u0 u1 : Int32, jiv hx9 68 5 = u0 → jiv hx9 68 3 = u1 → (u0.toInt ≠ 3 ∨ u1.toInt ≤ 399) → dr.1 = v.toInt → dr.2 = vw hx9 → Q (some (.int v)) hx9) : jC m_X2_readPlain 19 0 0 [.ref 95, .int 2] h Q := by
  refine jC.of rfl k_X2_readPlain rfl ?_
  have Sm := jSm_rf fp_X2_readPlain_r95_c2d h
  have ep0 := (show 0 ≤ p0.toInt ∧ p0.toInt ≤ 3 from zp0 ▸ jrg_f J sg_68_5_6_1_0_1)
  have ep1 := (show 0 ≤ p1.toInt ∧ p1.toInt ≤ 400 from zp1 ▸ jrg_f J sg_68_3_4_1_0_1)
  show jX m_X2_readPlain 19 0 0 0 [(0, .ref 95), (1, .int 2)] [] _ 0 0 _
  unfold d_X2_readPlain_r95_c2d at D
  try rw [vrf zp0] at D
  try rw [vrf zp1] at D
  refine x_iconst (v := 0) rfl ki_0 ?_
  refine x_istoren (lsx9 := [(2, .int 0), (0, .ref 95), (1, .int 2)]) rfl rfl rfl ?_
  refine x_iconst (v := 0) rfl ki_0 ?_
  refine x_istoren (lsx9 := [(3, .int 0), (2, .int 0), (0, .ref 95), (1, .int 2)]) rfl rfl rfl ?_
  exact jX.sub (jsb_c rfl (jsb_c rfl (jsb_c rfl (jsb_c rfl jsb_n)))) (ct_X2_readPlain_r95_c2d_4 hD hQ  401 0 0 p1 p0 h (by have := jk_0; omega) (jr_of jk_0 (by omega)) (jr_of jk_0 (by omega)) (jr_of rfl (by omega)) (jr_of rfl (by omega)) (by omega) zp1 zp0 J Sm (by rw [jk_0]; exact D))
def fp_X2_readTest_r95_c2d : jFp := [(68, 2, 3), (68, 3, 4), (68, 4, 5), (68, 5, 6), (95, 4, 5), (95, 5, 6), (97, 0, 1200)]
set_option maxRecDepth 100000 in
set_option maxHeartbeats 4000000 in
theorem ct_X2_readTest_r95_c2d_77 {Dy : jH → Prop} {h0 : jH} {Q : Option Value → jH → Prop} {dr : (Int × jW)} {K4 : Int → Int → jW → (Int × jW)} {R4 : Int} (hD : jDk Dy) (hQ : ∀ (v : Int32) hx9, 0 ≤ v.toInt ∧ v.toInt ≤ 1 → jJ jSgX Dy hx9 → jSm fp_X2_readTest_r95_c2d h0 hx9 → ∀ u0 u1 : Int32, jiv hx9 68 5 = u0 → jiv hx9 68 3 = u1 → (u0.toInt ≠ 3 ∨ u1.toInt ≤ 399) → dr.1 = v.toInt → dr.2 = vw hx9 → Q (some (.int v)) hx9) (k4 : ∀ (l2 : Int32) (l3 : Int32) (g0 : Int32) (g1 : Int32) (h : jH), 400 - l3.toInt < R4 → (-1) ≤ l2.toInt ∧ l2.toInt ≤ 1199 → 0 ≤ l3.toInt ∧ l3.toInt ≤ 400 → 0 ≤ g0.toInt ∧ g0.toInt ≤ 400 → 0 ≤ g1.toInt ∧ g1.toInt ≤ 3 → (g1.toInt ≠ 3 ∨ g0.toInt ≤ 399) → jiv h 68 3 = g0 → jiv h 68 5 = g1 → jJ jSgX Dy h → jSm fp_X2_readTest_r95_c2d h0 h → K4 l2.toInt l3.toInt (vw h) = dr → jX m_X2_readTest 20 0 0 4 [(0, .ref 95), (1, .int 2), (2, .int l2), (3, .int l3)] [] h 0 0 Q) : ∀ (l2 : Int32) (l3 : Int32) (g0 : Int32) (g1 : Int32) (h : jH), (-1) ≤ l2.toInt ∧ l2.toInt ≤ 1199 → 0 ≤ l3.toInt ∧ l3.toInt ≤ 399 → 0 ≤ g0.toInt ∧ g0.toInt ≤ 400 → 0 ≤ g1.toInt ∧ g1.toInt ≤ 3 → (g1.toInt ≠ 3 ∨ g0.toInt ≤ 399) → jiv h 68 3 = g0 → jiv h 68 5 = g1 → 400 - l3.toInt ≤ R4 → jJ jSgX Dy h → jSm fp_X2_readTest_r95_c2d h0 h → d_X2_readTest_r95_c2d_77 K4  l2.toInt l3.toInt (vw h) = dr → jX m_X2_readTest 20 0 0 77 [(0, .ref 95), (1, .int 2), (2, .int l2), (3, .int l3)] [] h 0 0 Q := by
  intro l2 l3 g0 g1 h y0 y1 y2 y3 y4 z0 z1 m4 J Sm D
  unfold d_X2_readTest_r95_c2d_77 at D
  try rw [vrf z0] at D
  try rw [vrf z1] at D
  refine x_aloadn (x := 95) rfl rfl ?_
  refine x_iloadn (x := l2) rfl rfl ?_
  refine x_inv (N := m_X2_land) (As := [.int l2]) (b := 95) (st := []) (dx9 := 1) (mc := 0) (ms := 0) (host := "") 2 rfl t_X2_land ⟨Or.inl q_2_124, i_X2_land.1, i_X2_land.2⟩ ⟨by decide, rfl⟩ (congrArg Prod.fst (J.1.1 95 (2, 6) rfl)) rfl (by decide) rfl rfl ⟨by decide, by decide⟩ (sf_X2_land_r95d (jr_of rfl (by omega)) hD J rfl  (fun h J S1 X2 => ?_))
  have Sm := jSm_tr rfl Sm S1
  rw [X2] at D
  show jX m_X2_readTest 20 0 0 82 [(0, .ref 95), (1, .int 2), (2, .int l2), (3, .int l3)] [] _ 0 0 _
  refine x_aloadn (x := 95) rfl rfl ?_
  refine z_getR (N := 6) (b := 68) 2 0 rfl f_2_30 rfl J rfl 12160 ⟨rfl, rfl⟩ rfl ?_
  refine x_ldcS (jstr.getD 12 jstr_0) rfl (List.mem_of_getElem? (i := 12) rfl) rfl rfl ?_
  show jX m_X2_readTest 20 0 0 88 [(0, .ref 95), (1, .int 2), (2, .int l2), (3, .int l3)] [.ref 17, .ref 68] _ 0 0 _
  refine x_inv (N := m_X9_wordOf) (As := [.ref 17]) (b := 68) (st := []) (dx9 := 4) (mc := 0) (ms := 0) (host := "") 9 rfl t_X9_wordOf ⟨Or.inl q_2_67, i_X9_wordOf.1, i_X9_wordOf.2⟩ ⟨by decide, rfl⟩ (congrArg Prod.fst (J.1.1 68 (9, 6) rfl)) rfl (by decide) rfl rfl ⟨by decide, by decide⟩ (sf_X9_wordOf_r68_r17d  hD J rfl  (fun v6 h J S3 X4 X5 => ?_))
  have ev6 := jfull v6
  have Sm := jSm_tr rfl Sm S3
  try rw [X4] at D
  try rw [← X5] at D
  show jX m_X2_readTest 20 0 0 91 [(0, .ref 95), (1, .int 2), (2, .int l2), (3, .int l3)] [.int v6] _ 0 0 _
  refine x_ifeq (tgt := 96) rfl rfl (ti_eq rfl jk_0 ⟨fun c7 => ?_, fun c7 => ?_⟩)
  ·
    rw [if_pos (by omega)] at D
    refine x_aloadn (x := 95) rfl rfl ?_
    refine x_bipush (v := 11) rfl kb_11 ?_
    refine x_inv (N := m_X2_leap) (As := [.int 11]) (b := 95) (st := []) (dx9 := 2) (mc := 0) (ms := 0) (host := "") 2 rfl t_X2_leap ⟨Or.inl q_2_129, i_X2_leap.1, i_X2_leap.2⟩ ⟨by decide, rfl⟩ (congrArg Prod.fst (J.1.1 95 (2, 6) rfl)) rfl (by decide) rfl rfl ⟨by decide, by decide⟩ (sf_X2_leap_r95d (jr_of jk_11 (by omega)) hD J rfl  (fun v11 h ev11 J S8 X9 X10 => ?_))
    have Sm := jSm_tr rfl Sm S8
    try rw [jk_11] at X9
    try rw [jk_11] at X10
    try rw [X9] at D
    try rw [X10] at D
    show jX m_X2_readTest 20 0 0 102 [(0, .ref 95), (1, .int 2), (2, .int l2), (3, .int l3)] [.int v11] _ 0 0 _
    refine x_istoren (lsx9 := [(2, .int v11), (0, .ref 95), (1, .int 2), (3, .int l3)]) rfl rfl rfl ?_
    refine x_aloadn (x := 95) rfl rfl ?_
    refine z_getR (N := 6) (b := 68) 2 0 rfl f_2_30 rfl J rfl 12160 ⟨rfl, rfl⟩ rfl ?_
    refine x_inv (N := m_X9_step) (As := []) (b := 68) (st := []) (dx9 := 2) (mc := 0) (ms := 0) (host := "") 9 rfl t_X9_step ⟨Or.inl q_2_62, i_X9_step.1, i_X9_step.2⟩ ⟨by decide, rfl⟩ (congrArg Prod.fst (J.1.1 68 (9, 6) rfl)) rfl (by decide) rfl rfl ⟨by decide, by decide⟩ (sf_X9_step_r68d  hD J (jmc S8 rfl (jmc S3 rfl (jmc S1 rfl z1))) (jmc S8 rfl (jmc S3 rfl (jmc S1 rfl z0))) (by omega) rfl  (fun h J S12 u13 u14 qu13 qu14 ru13 X15 => ?_))
    have Sm := jSm_tr rfl Sm S12
    rw [X15] at D
    have eu13 := (show 0 ≤ u13.toInt ∧ u13.toInt ≤ 3 from qu13 ▸ jrg_f J sg_68_5_6_1_0_1)
    try rw [vrf qu13] at D
    have eu14 := (show 0 ≤ u14.toInt ∧ u14.toInt ≤ 400 from qu14 ▸ jrg_f J sg_68_3_4_1_0_1)
    try rw [vrf qu14] at D
    show jX m_X2_readTest 20 0 0 110 [(2, .int v11), (0, .ref 95), (1, .int 2), (3, .int l3)] [] _ 0 0 _
    refine z_iinc (x := l3) (lsx9 := fun v16 => [(3, .int v16), (2, .int v11), (0, .ref 95), (1, .int 2)]) rfl rfl rfl jko_1 (by omega) rfl (fun _ => rfl) (fun v16 ev16 => ?_)
    refine x_goto (tgt := 4) rfl rfl ?_
    try rw [show (l3.toInt + 1) = v16.toInt from by omega] at D
    exact jX.sub (jsb_c rfl (jsb_c rfl (jsb_c rfl (jsb_c rfl jsb_n)))) (k4 v11 v16 u14 u13 h (by omega) (jr_of rfl (by omega)) (jr_of rfl (by omega)) (jr_of rfl (by omega)) (jr_of rfl (by omega)) (by omega) qu14 qu13 J Sm D)
  ·
    rw [if_neg (by omega)] at D
    refine x_iconst (v := 1) rfl ki_1 ?_
    refine x_zret rfl rfl (by decide) ?_
    exact hQ _ _ (jr_of jk_1 (by omega)) J Sm _ _ (jmc S3 rfl (jmc S1 rfl z1)) (jmc S3 rfl (jmc S1 rfl z0)) (by omega) ((congrArg Prod.fst D).symm.trans (show 1 = (1 : Int32).toInt from by have := jk_1; omega)) (congrArg Prod.snd D).symm
set_option maxRecDepth 100000 in
set_option maxHeartbeats 4000000 in
theorem ct_X2_readTest_r95_c2d_17 {Dy : jH → Prop} {h0 : jH} {Q : Option Value → jH → Prop} {dr : (Int × jW)} {K4 : Int → Int → jW → (Int × jW)} {R4 : Int} (hD : jDk Dy) (hQ : ∀ (v : Int32) hx9, 0 ≤ v.toInt ∧ v.toInt ≤ 1 → jJ jSgX Dy hx9 → jSm fp_X2_readTest_r95_c2d h0 hx9 → ∀ u0 u1 : Int32, jiv hx9 68 5 = u0 → jiv hx9 68 3 = u1 → (u0.toInt ≠ 3 ∨ u1.toInt ≤ 399) → dr.1 = v.toInt → dr.2 = vw hx9 → Q (some (.int v)) hx9) (k4 : ∀ (l2 : Int32) (l3 : Int32) (g0 : Int32) (g1 : Int32) (h : jH), 400 - l3.toInt < R4 → (-1) ≤ l2.toInt ∧ l2.toInt ≤ 1199 → 0 ≤ l3.toInt ∧ l3.toInt ≤ 400 → 0 ≤ g0.toInt ∧ g0.toInt ≤ 400 → 0 ≤ g1.toInt ∧ g1.toInt ≤ 3 → (g1.toInt ≠ 3 ∨ g0.toInt ≤ 399) → jiv h 68 3 = g0 → jiv h 68 5 = g1 → jJ jSgX Dy h → jSm fp_X2_readTest_r95_c2d h0 h → K4 l2.toInt l3.toInt (vw h) = dr → jX m_X2_readTest 20 0 0 4 [(0, .ref 95), (1, .int 2), (2, .int l2), (3, .int l3)] [] h 0 0 Q) : ∀ r : Nat, ∀ (l2 : Int32) (l3 : Int32) (l4 : Int32) (l5 : Int32) (g0 : Int32) (g1 : Int32) (h : jH), 400 - l5.toInt < (r : Int) → (-1) ≤ l2.toInt ∧ l2.toInt ≤ 1199 → 0 ≤ l3.toInt ∧ l3.toInt ≤ 399 → (-1) ≤ l4.toInt ∧ l4.toInt ≤ 1199 → 0 ≤ l5.toInt ∧ l5.toInt ≤ 400 → 0 ≤ g0.toInt ∧ g0.toInt ≤ 400 → 0 ≤ g1.toInt ∧ g1.toInt ≤ 3 → (g1.toInt ≠ 3 ∨ g0.toInt ≤ 399) → jiv h 68 3 = g0 → jiv h 68 5 = g1 → 400 - l3.toInt ≤ R4 → jJ jSgX Dy h → jSm fp_X2_readTest_r95_c2d h0 h → d_X2_readTest_r95_c2d_17 K4 r l2.toInt l3.toInt l4.toInt l5.toInt (vw h) = dr → jX m_X2_readTest 20 0 0 17 [(0, .ref 95), (1, .int 2), (2, .int l2), (3, .int l3), (4, .int l4), (5, .int l5)] [] h 0 0 Q := by
  intro r
  induction r with
  | zero =>
    intro l2 l3 l4 l5 g0 g1 h hm y0 y1 y2 y3 y4 y5 y6 z0 z1 m4 J Sm D
    exfalso
    omega
  | succ r ih =>
    intro l2 l3 l4 l5 g0 g1 h hm y0 y1 y2 y3 y4 y5 y6 z0 z1 m4 J Sm D
    rw [d_X2_readTest_r95_c2d_17.eq_2] at D
    try rw [vrf z0] at D
    try rw [vrf z1] at D
    refine x_iload (x := l5) rfl rfl ?_
    refine x_sipush (v := 400) rfl ks_400 ?_
    refine x_icge (tgt := 77) rfl rfl (ti_ge rfl jk_400 ⟨fun c1 => ?_, fun c1 => ?_⟩)
    ·
      rw [if_pos (by omega)] at D
      exact jX.sub (jsb_c rfl (jsb_c rfl (jsb_c rfl (jsb_c rfl jsb_n)))) (ct_X2_readTest_r95_c2d_77 hD hQ k4 l2 l3 g0 g1 h (jr_of rfl (by omega)) (jr_of rfl (by omega)) (jr_of rfl (by omega)) (jr_of rfl (by omega)) (by omega) z0 z1 (by omega) J Sm D)
    ·
      rw [if_neg (by omega)] at D
      refine x_aloadn (x := 95) rfl rfl ?_
      refine x_iloadn (x := 2) rfl rfl ?_
      refine x_inv (N := m_X2_readPlain) (As := [.int 2]) (b := 95) (st := []) (dx9 := 19) (mc := 0) (ms := 0) (host := "") 2 rfl t_X2_readPlain ⟨Or.inl q_2_121, i_X2_readPlain.1, i_X2_readPlain.2⟩ ⟨by decide, rfl⟩ (congrArg Prod.fst (J.1.1 95 (2, 6) rfl)) rfl (by decide) rfl rfl ⟨by decide, by decide⟩ (sf_X2_readPlain_r95_c2d  hD J z1 z0 (by omega) rfl  (fun v7 h ev7 J S2 u3 u4 qu3 qu4 ru3 X5 X6 => ?_))
      have Sm := jSm_tr rfl Sm S2
      try rw [X5] at D
      try rw [X6] at D
      have eu3 := (show 0 ≤ u3.toInt ∧ u3.toInt ≤ 3 from qu3 ▸ jrg_f J sg_68_5_6_1_0_1)
      try rw [vrf qu3] at D
      have eu4 := (show 0 ≤ u4.toInt ∧ u4.toInt ≤ 400 from qu4 ▸ jrg_f J sg_68_3_4_1_0_1)
      try rw [vrf qu4] at D
      show jX m_X2_readTest 20 0 0 30 [(0, .ref 95), (1, .int 2), (2, .int l2), (3, .int l3), (4, .int l4), (5, .int l5)] [.int v7] _ 0 0 _
      refine x_ifne (tgt := 35) rfl rfl (ti_ne rfl jk_0 ⟨fun c8 => ?_, fun c8 => ?_⟩)
      ·
        rw [if_neg (by omega)] at D
        refine x_aloadn (x := 95) rfl rfl ?_
        refine x_iload (x := l4) rfl rfl ?_
        refine x_inv (N := m_X2_land) (As := [.int l4]) (b := 95) (st := []) (dx9 := 1) (mc := 0) (ms := 0) (host := "") 2 rfl t_X2_land ⟨Or.inl q_2_124, i_X2_land.1, i_X2_land.2⟩ ⟨by decide, rfl⟩ (congrArg Prod.fst (J.1.1 95 (2, 6) rfl)) rfl (by decide) rfl rfl ⟨by decide, by decide⟩ (sf_X2_land_r95d (jr_of rfl (by omega)) hD J rfl  (fun h J S9 X10 => ?_))
        have Sm := jSm_tr rfl Sm S9
        rw [X10] at D
        show jX m_X2_readTest 20 0 0 41 [(0, .ref 95), (1, .int 2), (2, .int l2), (3, .int l3), (4, .int l4), (5, .int l5)] [] _ 0 0 _
        refine x_aloadn (x := 95) rfl rfl ?_
        refine z_getR (N := 6) (b := 68) 2 0 rfl f_2_30 rfl J rfl 12160 ⟨rfl, rfl⟩ rfl ?_
        refine x_ldcS (jstr.getD 11 jstr_0) rfl (List.mem_of_getElem? (i := 11) rfl) rfl rfl ?_
        show jX m_X2_readTest 20 0 0 47 [(0, .ref 95), (1, .int 2), (2, .int l2), (3, .int l3), (4, .int l4), (5, .int l5)] [.ref 16, .ref 68] _ 0 0 _
        refine x_inv (N := m_X9_wordOf) (As := [.ref 16]) (b := 68) (st := []) (dx9 := 4) (mc := 0) (ms := 0) (host := "") 9 rfl t_X9_wordOf ⟨Or.inl q_2_67, i_X9_wordOf.1, i_X9_wordOf.2⟩ ⟨by decide, rfl⟩ (congrArg Prod.fst (J.1.1 68 (9, 6) rfl)) rfl (by decide) rfl rfl ⟨by decide, by decide⟩ (sf_X9_wordOf_r68_r16d  hD J rfl  (fun v14 h J S11 X12 X13 => ?_))
        have ev14 := jfull v14
        have Sm := jSm_tr rfl Sm S11
        try rw [X12] at D
        try rw [← X13] at D
        show jX m_X2_readTest 20 0 0 50 [(0, .ref 95), (1, .int 2), (2, .int l2), (3, .int l3), (4, .int l4), (5, .int l5)] [.int v14] _ 0 0 _
        refine x_ifeq (tgt := 56) rfl rfl (ti_eq rfl jk_0 ⟨fun c15 => ?_, fun c15 => ?_⟩)
        ·
          rw [if_pos (by omega)] at D
          refine x_aloadn (x := 95) rfl rfl ?_
          refine x_bipush (v := 12) rfl kb_12 ?_
          refine x_inv (N := m_X2_leap) (As := [.int 12]) (b := 95) (st := []) (dx9 := 2) (mc := 0) (ms := 0) (host := "") 2 rfl t_X2_leap ⟨Or.inl q_2_129, i_X2_leap.1, i_X2_leap.2⟩ ⟨by decide, rfl⟩ (congrArg Prod.fst (J.1.1 95 (2, 6) rfl)) rfl (by decide) rfl rfl ⟨by decide, by decide⟩ (sf_X2_leap_r95d (jr_of jk_12 (by omega)) hD J rfl  (fun v19 h ev19 J S16 X17 X18 => ?_))
          have Sm := jSm_tr rfl Sm S16
          try rw [jk_12] at X17
          try rw [jk_12] at X18
          try rw [X17] at D
          try rw [X18] at D
          show jX m_X2_readTest 20 0 0 62 [(0, .ref 95), (1, .int 2), (2, .int l2), (3, .int l3), (4, .int l4), (5, .int l5)] [.int v19] _ 0 0 _
          refine x_istore (lsx9 := [(4, .int v19), (0, .ref 95), (1, .int 2), (2, .int l2), (3, .int l3), (5, .int l5)]) rfl rfl rfl ?_
          refine x_aloadn (x := 95) rfl rfl ?_
          refine z_getR (N := 6) (b := 68) 2 0 rfl f_2_30 rfl J rfl 12160 ⟨rfl, rfl⟩ rfl ?_
          refine x_inv (N := m_X9_step) (As := []) (b := 68) (st := []) (dx9 := 2) (mc := 0) (ms := 0) (host := "") 9 rfl t_X9_step ⟨Or.inl q_2_62, i_X9_step.1, i_X9_step.2⟩ ⟨by decide, rfl⟩ (congrArg Prod.fst (J.1.1 68 (9, 6) rfl)) rfl (by decide) rfl rfl ⟨by decide, by decide⟩ (sf_X9_step_r68d  hD J (jmc S16 rfl (jmc S11 rfl (jmc S9 rfl qu3))) (jmc S16 rfl (jmc S11 rfl (jmc S9 rfl qu4))) (by omega) rfl  (fun h J S20 u21 u22 qu21 qu22 ru21 X23 => ?_))
          have Sm := jSm_tr rfl Sm S20
          rw [X23] at D
          have eu21 := (show 0 ≤ u21.toInt ∧ u21.toInt ≤ 3 from qu21 ▸ jrg_f J sg_68_5_6_1_0_1)
          try rw [vrf qu21] at D
          have eu22 := (show 0 ≤ u22.toInt ∧ u22.toInt ≤ 400 from qu22 ▸ jrg_f J sg_68_3_4_1_0_1)
          try rw [vrf qu22] at D
          show jX m_X2_readTest 20 0 0 71 [(4, .int v19), (0, .ref 95), (1, .int 2), (2, .int l2), (3, .int l3), (5, .int l5)] [] _ 0 0 _
          refine z_iinc (x := l5) (lsx9 := fun v24 => [(5, .int v24), (4, .int v19), (0, .ref 95), (1, .int 2), (2, .int l2), (3, .int l3)]) rfl rfl rfl jko_1 (by omega) rfl (fun _ => rfl) (fun v24 ev24 => ?_)
          refine x_goto (tgt := 17) rfl rfl ?_
          try rw [show (l5.toInt + 1) = v24.toInt from by omega] at D
          exact jX.sub (jsb_c rfl (jsb_c rfl (jsb_c rfl (jsb_c rfl (jsb_c rfl (jsb_c rfl jsb_n)))))) (ih l2 l3 v19 v24 u22 u21 h (by omega) (jr_of rfl (by omega)) (jr_of rfl (by omega)) (jr_of rfl (by omega)) (jr_of rfl (by omega)) (jr_of rfl (by omega)) (jr_of rfl (by omega)) (by omega) qu22 qu21 (by omega) J Sm D)
        ·
          rw [if_neg (by omega)] at D
          refine x_goto (tgt := 77) rfl rfl ?_
          exact jX.sub (jsb_c rfl (jsb_c rfl (jsb_c rfl (jsb_c rfl jsb_n)))) (ct_X2_readTest_r95_c2d_77 hD hQ k4 l2 l3 u4 u3 h (jr_of rfl (by omega)) (jr_of rfl (by omega)) (jr_of rfl (by omega)) (jr_of rfl (by omega)) (by omega) (jmc S11 rfl (jmc S9 rfl qu4)) (jmc S11 rfl (jmc S9 rfl qu3)) (by omega) J Sm D)
      ·
        rw [if_pos (by omega)] at D
        refine x_iconst (v := 0) rfl ki_0 ?_
        refine x_zret rfl rfl (by decide) ?_
        exact hQ _ _ (jr_of jk_0 (by omega)) J Sm _ _ qu3 qu4 (by omega) ((congrArg Prod.fst D).symm.trans (show 0 = (0 : Int32).toInt from by have := jk_0; omega)) (congrArg Prod.snd D).symm
set_option maxRecDepth 100000 in
set_option maxHeartbeats 4000000 in
theorem ct_X2_readTest_r95_c2d_4 {Dy : jH → Prop} {h0 : jH} {Q : Option Value → jH → Prop} {dr : (Int × jW)} (hD : jDk Dy) (hQ : ∀ (v : Int32) hx9, 0 ≤ v.toInt ∧ v.toInt ≤ 1 → jJ jSgX Dy hx9 → jSm fp_X2_readTest_r95_c2d h0 hx9 → ∀ u0 u1 : Int32, jiv hx9 68 5 = u0 → jiv hx9 68 3 = u1 → (u0.toInt ≠ 3 ∨ u1.toInt ≤ 399) → dr.1 = v.toInt → dr.2 = vw hx9 → Q (some (.int v)) hx9) : ∀ r : Nat, ∀ (l2 : Int32) (l3 : Int32) (g0 : Int32) (g1 : Int32) (h : jH), 400 - l3.toInt < (r : Int) → (-1) ≤ l2.toInt ∧ l2.toInt ≤ 1199 → 0 ≤ l3.toInt ∧ l3.toInt ≤ 400 → 0 ≤ g0.toInt ∧ g0.toInt ≤ 400 → 0 ≤ g1.toInt ∧ g1.toInt ≤ 3 → (g1.toInt ≠ 3 ∨ g0.toInt ≤ 399) → jiv h 68 3 = g0 → jiv h 68 5 = g1 → jJ jSgX Dy h → jSm fp_X2_readTest_r95_c2d h0 h → d_X2_readTest_r95_c2d_4 r l2.toInt l3.toInt (vw h) = dr → jX m_X2_readTest 20 0 0 4 [(0, .ref 95), (1, .int 2), (2, .int l2), (3, .int l3)] [] h 0 0 Q := by
  intro r
  induction r with
  | zero =>
    intro l2 l3 g0 g1 h hm y0 y1 y2 y3 y4 z0 z1  J Sm D
    exfalso
    omega
  | succ r ih =>
    intro l2 l3 g0 g1 h hm y0 y1 y2 y3 y4 z0 z1  J Sm D
    rw [d_X2_readTest_r95_c2d_4.eq_2] at D
    try rw [vrf z0] at D
    try rw [vrf z1] at D
    refine x_iloadn (x := l3) rfl rfl ?_
    refine x_sipush (v := 400) rfl ks_400 ?_
    refine x_icge (tgt := 116) rfl rfl (ti_ge rfl jk_400 ⟨fun c1 => ?_, fun c1 => ?_⟩)
    ·
      rw [if_pos (by omega)] at D
      refine x_aloadn (x := 95) rfl rfl ?_
      refine z_getR (N := 6) (b := 68) 2 0 rfl f_2_30 rfl J rfl 12160 ⟨rfl, rfl⟩ rfl ?_
      refine x_inv (N := m_X9_blame) (As := []) (b := 68) (st := []) (dx9 := 19) (mc := 0) (ms := 0) (host := "") 9 rfl t_X9_blame ⟨Or.inl q_2_59, i_X9_blame.1, i_X9_blame.2⟩ ⟨by decide, rfl⟩ (congrArg Prod.fst (J.1.1 68 (9, 6) rfl)) rfl (by decide) rfl rfl ⟨by decide, by decide⟩ (jC.of rfl k_X9_blame rfl ?_)
      show jX m_X9_blame 19 0 0 0 [(0, .ref 68)] [] _ 0 0 _
      refine x_aloadn (x := 68) rfl rfl ?_
      refine x_aloadn (x := 68) rfl rfl ?_
      refine z_getM (N := 6) (v := g0) 9 3 rfl f_9_22 rfl J rfl z0 ?_
      refine z_putI (N := 6) (w := g0.toInt) 9 2 rfl f_9_19 rfl (jfin_no TX9 RX9 6 rfl rfl) hD J Sm rfl rfl rfl (pw_68_2 (by omega)) rfl (fun h w2 J Sm => ?_)
      rw [vwf w2 (show g0.toInt = g0.toInt from by omega)] at D
      refine x_iconst (v := 0) rfl ki_0 ?_
      refine x_zret rfl rfl (by decide) ?_
      show jX m_X2_readTest 20 0 0 123 [(0, .ref 95), (1, .int 2), (2, .int l2), (3, .int l3)] [.int 0] _ 0 0 _
      refine x_zret rfl rfl (by decide) ?_
      exact hQ _ _ (jr_of jk_0 (by omega)) J Sm _ _ (jmo w2 rfl z1) (jmo w2 rfl z0) (by omega) ((congrArg Prod.fst D).symm.trans (show 0 = (0 : Int32).toInt from by have := jk_0; omega)) (congrArg Prod.snd D).symm
    ·
      rw [if_neg (by omega)] at D
      refine x_iconst (v := (-1)) rfl ki_m1 ?_
      refine x_istore (lsx9 := [(4, .int (-1)), (0, .ref 95), (1, .int 2), (2, .int l2), (3, .int l3)]) rfl rfl rfl ?_
      refine x_iconst (v := 0) rfl ki_0 ?_
      refine x_istore (lsx9 := [(5, .int 0), (4, .int (-1)), (0, .ref 95), (1, .int 2), (2, .int l2), (3, .int l3)]) rfl rfl rfl ?_
      exact jX.sub (jsb_c rfl (jsb_c rfl (jsb_c rfl (jsb_c rfl (jsb_c rfl (jsb_c rfl jsb_n)))))) (ct_X2_readTest_r95_c2d_17 hD hQ ih 401 l2 l3 (-1) 0 g0 g1 h (by have := jk_0; omega) (jr_of rfl (by omega)) (jr_of rfl (by omega)) (jr_of jk_m1 (by omega)) (jr_of jk_0 (by omega)) (jr_of rfl (by omega)) (jr_of rfl (by omega)) (by omega) z0 z1 (by omega) J Sm (by rw [jk_m1, jk_0]; exact D))
set_option maxRecDepth 100000 in
set_option maxHeartbeats 4000000 in
theorem sf_X2_readTest_r95_c2d {Dy : jH → Prop} {h : jH} {Q : Option Value → jH → Prop} {dr : (Int × jW)} (hD : jDk Dy) (J : jJ jSgX Dy h) {p0 p1 : Int32} (zp0 : jiv h 68 5 = p0) (zp1 : jiv h 68 3 = p1) (rl_p0 : (p0.toInt ≠ 3 ∨ p1.toInt ≤ 399)) (D : d_X2_readTest_r95_c2d (vw h) = dr) (hQ : ∀ (v : Int32) hx9, 0 ≤ v.toInt ∧ v.toInt ≤ 1 → jJ jSgX Dy hx9 → jSm fp_X2_readTest_r95_c2d h hx9 → ∀ u0 u1 : Int32, jiv hx9 68 5 = u0 → jiv hx9 68 3 = u1 → (u0.toInt ≠ 3 ∨ u1.toInt ≤ 399) → dr.1 = v.toInt → dr.2 = vw hx9 → Q (some (.int v)) hx9) : jC m_X2_readTest 20 0 0 [.ref 95, .int 2] h Q := by
  refine jC.of rfl k_X2_readTest rfl ?_
  have Sm := jSm_rf fp_X2_readTest_r95_c2d h
  have ep0 := (show 0 ≤ p0.toInt ∧ p0.toInt ≤ 3 from zp0 ▸ jrg_f J sg_68_5_6_1_0_1)
  have ep1 := (show 0 ≤ p1.toInt ∧ p1.toInt ≤ 400 from zp1 ▸ jrg_f J sg_68_3_4_1_0_1)
  show jX m_X2_readTest 20 0 0 0 [(0, .ref 95), (1, .int 2)] [] _ 0 0 _
  unfold d_X2_readTest_r95_c2d at D
  try rw [vrf zp0] at D
  try rw [vrf zp1] at D
  refine x_iconst (v := (-1)) rfl ki_m1 ?_
  refine x_istoren (lsx9 := [(2, .int (-1)), (0, .ref 95), (1, .int 2)]) rfl rfl rfl ?_
  refine x_iconst (v := 0) rfl ki_0 ?_
  refine x_istoren (lsx9 := [(3, .int 0), (2, .int (-1)), (0, .ref 95), (1, .int 2)]) rfl rfl rfl ?_
  exact jX.sub (jsb_c rfl (jsb_c rfl (jsb_c rfl (jsb_c rfl jsb_n)))) (ct_X2_readTest_r95_c2d_4 hD hQ  401 (-1) 0 p1 p0 h (by have := jk_0; omega) (jr_of jk_m1 (by omega)) (jr_of jk_0 (by omega)) (jr_of rfl (by omega)) (jr_of rfl (by omega)) (by omega) zp1 zp0 J Sm (by rw [jk_m1, jk_0]; exact D))
def fp_X2_readPlain_r95_c1d : jFp := [(68, 2, 3), (68, 3, 4), (68, 4, 5), (68, 5, 6), (95, 4, 5), (95, 5, 6), (97, 0, 1200)]
set_option maxRecDepth 100000 in
set_option maxHeartbeats 4000000 in
theorem ct_X2_readPlain_r95_c1d_239 {Dy : jH → Prop} {h0 : jH} {Q : Option Value → jH → Prop} {dr : (Int × jW)} (hD : jDk Dy) (hQ : ∀ (v : Int32) hx9, 0 ≤ v.toInt ∧ v.toInt ≤ 1 → jJ jSgX Dy hx9 → jSm fp_X2_readPlain_r95_c1d h0 hx9 → ∀ u0 u1 : Int32, jiv hx9 68 5 = u0 → jiv hx9 68 3 = u1 → (u0.toInt ≠ 3 ∨ u1.toInt ≤ 399) → dr.1 = v.toInt → dr.2 = vw hx9 → Q (some (.int v)) hx9) : ∀ (g0 : Int32) (g1 : Int32) (h : jH), 0 ≤ g0.toInt ∧ g0.toInt ≤ 400 → 0 ≤ g1.toInt ∧ g1.toInt ≤ 3 → (g1.toInt ≠ 3 ∨ g0.toInt ≤ 399) → jiv h 68 3 = g0 → jiv h 68 5 = g1 → jJ jSgX Dy h → jSm fp_X2_readPlain_r95_c1d h0 h → d_X2_readPlain_r95_c1d_239  (vw h) = dr → jX m_X2_readPlain 21 0 0 239 [] [] h 0 0 Q := by
  intro g0 g1 h y0 y1 y2 z0 z1  J Sm D
  unfold d_X2_readPlain_r95_c1d_239 at D
  try rw [vrf z0] at D
  try rw [vrf z1] at D
  refine x_iconst (v := 1) rfl ki_1 ?_
  refine x_zret rfl rfl (by decide) ?_
  exact hQ _ _ (jr_of jk_1 (by omega)) J Sm _ _ z1 z0 (by omega) ((congrArg Prod.fst D).symm.trans (show 1 = (1 : Int32).toInt from by have := jk_1; omega)) (congrArg Prod.snd D).symm
set_option maxRecDepth 100000 in
set_option maxHeartbeats 4000000 in
theorem ct_X2_readPlain_r95_c1d_229 {Dy : jH → Prop} {h0 : jH} {Q : Option Value → jH → Prop} {dr : (Int × jW)} (hD : jDk Dy) (hQ : ∀ (v : Int32) hx9, 0 ≤ v.toInt ∧ v.toInt ≤ 1 → jJ jSgX Dy hx9 → jSm fp_X2_readPlain_r95_c1d h0 hx9 → ∀ u0 u1 : Int32, jiv hx9 68 5 = u0 → jiv hx9 68 3 = u1 → (u0.toInt ≠ 3 ∨ u1.toInt ≤ 399) → dr.1 = v.toInt → dr.2 = vw hx9 → Q (some (.int v)) hx9) : ∀ (l2 : Int32) (g0 : Int32) (g1 : Int32) (h : jH), 0 ≤ l2.toInt ∧ l2.toInt ≤ 1 → 0 ≤ g0.toInt ∧ g0.toInt ≤ 400 → 0 ≤ g1.toInt ∧ g1.toInt ≤ 3 → (g1.toInt ≠ 3 ∨ g0.toInt ≤ 399) → jiv h 68 3 = g0 → jiv h 68 5 = g1 → jJ jSgX Dy h → jSm fp_X2_readPlain_r95_c1d h0 h → d_X2_readPlain_r95_c1d_229  l2.toInt (vw h) = dr → jX m_X2_readPlain 21 0 0 229 [(0, .ref 95), (2, .int l2)] [] h 0 0 Q := by
  intro l2 g0 g1 h y0 y1 y2 y3 z0 z1  J Sm D
  unfold d_X2_readPlain_r95_c1d_229 at D
  try rw [vrf z0] at D
  try rw [vrf z1] at D
  refine x_iloadn (x := l2) rfl rfl ?_
  refine x_ifeq (tgt := 239) rfl rfl (ti_eq rfl jk_0 ⟨fun c1 => ?_, fun c1 => ?_⟩)
  ·
    rw [if_pos (by omega)] at D
    exact jX.sub jsb_n (ct_X2_readPlain_r95_c1d_239 hD hQ  g0 g1 h (jr_of rfl (by omega)) (jr_of rfl (by omega)) (by omega) z0 z1 J Sm D)
  ·
    rw [if_neg (by omega)] at D
    refine x_aloadn (x := 95) rfl rfl ?_
    refine x_bipush (v := 10) rfl kb_10 ?_
    refine x_inv (N := m_X2_emit) (As := [.int 10]) (b := 95) (st := []) (dx9 := 1) (mc := 0) (ms := 0) (host := "") 2 rfl t_X2_emit ⟨Or.inl q_2_89, i_X2_emit.1, i_X2_emit.2⟩ ⟨by decide, rfl⟩ (congrArg Prod.fst (J.1.1 95 (2, 6) rfl)) rfl (by decide) rfl rfl ⟨by decide, by decide⟩ (sf_X2_emit_r95d  hD J rfl  (fun h J S2 X3 => ?_))
    have Sm := jSm_tr rfl Sm S2
    try rw [jk_10] at X3
    rw [X3] at D
    show jX m_X2_readPlain 21 0 0 239 [(0, .ref 95), (2, .int l2)] [] _ 0 0 _
    exact jX.sub jsb_n (ct_X2_readPlain_r95_c1d_239 hD hQ  g0 g1 h (jr_of rfl (by omega)) (jr_of rfl (by omega)) (by omega) (jmc S2 rfl z0) (jmc S2 rfl z1) J Sm D)
set_option maxRecDepth 100000 in
set_option maxHeartbeats 4000000 in
theorem ct_X2_readPlain_r95_c1d_100190 {Dy : jH → Prop} {h0 : jH} {Q : Option Value → jH → Prop} {dr : (Int × jW)} (hD : jDk Dy) (hQ : ∀ (v : Int32) hx9, 0 ≤ v.toInt ∧ v.toInt ≤ 1 → jJ jSgX Dy hx9 → jSm fp_X2_readPlain_r95_c1d h0 hx9 → ∀ u0 u1 : Int32, jiv hx9 68 5 = u0 → jiv hx9 68 3 = u1 → (u0.toInt ≠ 3 ∨ u1.toInt ≤ 399) → dr.1 = v.toInt → dr.2 = vw hx9 → Q (some (.int v)) hx9) : ∀ (l2 : Int32) (g0 : Int32) (g1 : Int32) (h : jH), 0 ≤ l2.toInt ∧ l2.toInt ≤ 1 → 0 ≤ g0.toInt ∧ g0.toInt ≤ 400 → 0 ≤ g1.toInt ∧ g1.toInt ≤ 3 → (g1.toInt ≠ 3 ∨ g0.toInt ≤ 399) → jiv h 68 3 = g0 → jiv h 68 5 = g1 → jJ jSgX Dy h → jSm fp_X2_readPlain_r95_c1d h0 h → d_X2_readPlain_r95_c1d_100190  l2.toInt (vw h) = dr → jX m_X2_readPlain 21 0 0 190 [(0, .ref 95), (1, .int 1), (2, .int l2)] [.int (-1)] h 0 0 Q := by
  intro l2 g0 g1 h y0 y1 y2 y3 z0 z1  J Sm D
  unfold d_X2_readPlain_r95_c1d_100190 at D
  try rw [vrf z0] at D
  try rw [vrf z1] at D
  refine x_istore (lsx9 := [(4, .int (-1)), (0, .ref 95), (1, .int 1), (2, .int l2)]) rfl rfl rfl ?_
  refine x_iload (x := (-1)) rfl rfl ?_
  refine x_iconst (v := (-1)) rfl ki_m1 ?_
  refine x_icne (tgt := 206) rfl rfl (ti_ne jk_m1 jk_m1 (bn_f (by omega) ?_))
  refine x_aloadn (x := 95) rfl rfl ?_
  refine z_getR (N := 6) (b := 68) 2 0 rfl f_2_30 rfl J rfl 12160 ⟨rfl, rfl⟩ rfl ?_
  refine x_inv (N := m_X9_blame) (As := []) (b := 68) (st := []) (dx9 := 20) (mc := 0) (ms := 0) (host := "") 9 rfl t_X9_blame ⟨Or.inl q_2_59, i_X9_blame.1, i_X9_blame.2⟩ ⟨by decide, rfl⟩ (congrArg Prod.fst (J.1.1 68 (9, 6) rfl)) rfl (by decide) rfl rfl ⟨by decide, by decide⟩ (jC.of rfl k_X9_blame rfl ?_)
  show jX m_X9_blame 20 0 0 0 [(0, .ref 68)] [] _ 0 0 _
  refine x_aloadn (x := 68) rfl rfl ?_
  refine x_aloadn (x := 68) rfl rfl ?_
  refine z_getM (N := 6) (v := g0) 9 3 rfl f_9_22 rfl J rfl z0 ?_
  refine z_putI (N := 6) (w := g0.toInt) 9 2 rfl f_9_19 rfl (jfin_no TX9 RX9 6 rfl rfl) hD J Sm rfl rfl rfl (pw_68_2 (by omega)) rfl (fun h w1 J Sm => ?_)
  rw [vwf w1 (show g0.toInt = g0.toInt from by omega)] at D
  refine x_iconst (v := 0) rfl ki_0 ?_
  refine x_zret rfl rfl (by decide) ?_
  show jX m_X2_readPlain 21 0 0 205 [(4, .int (-1)), (0, .ref 95), (1, .int 1), (2, .int l2)] [.int 0] _ 0 0 _
  refine x_zret rfl rfl (by decide) ?_
  exact hQ _ _ (jr_of jk_0 (by omega)) J Sm _ _ (jmo w1 rfl z1) (jmo w1 rfl z0) (by omega) ((congrArg Prod.fst D).symm.trans (show 0 = (0 : Int32).toInt from by have := jk_0; omega)) (congrArg Prod.snd D).symm
set_option maxRecDepth 100000 in
set_option maxHeartbeats 4000000 in
theorem ct_X2_readPlain_r95_c1d_190 {Dy : jH → Prop} {h0 : jH} {Q : Option Value → jH → Prop} {dr : (Int × jW)} (hD : jDk Dy) (hQ : ∀ (v : Int32) hx9, 0 ≤ v.toInt ∧ v.toInt ≤ 1 → jJ jSgX Dy hx9 → jSm fp_X2_readPlain_r95_c1d h0 hx9 → ∀ u0 u1 : Int32, jiv hx9 68 5 = u0 → jiv hx9 68 3 = u1 → (u0.toInt ≠ 3 ∨ u1.toInt ≤ 399) → dr.1 = v.toInt → dr.2 = vw hx9 → Q (some (.int v)) hx9) : ∀ (l2 : Int32) (g0 : Int32) (g1 : Int32) (h : jH), 0 ≤ l2.toInt ∧ l2.toInt ≤ 1 → 0 ≤ g0.toInt ∧ g0.toInt ≤ 400 → 0 ≤ g1.toInt ∧ g1.toInt ≤ 3 → (g1.toInt ≠ 3 ∨ g0.toInt ≤ 399) → jiv h 68 3 = g0 → jiv h 68 5 = g1 → jJ jSgX Dy h → jSm fp_X2_readPlain_r95_c1d h0 h → d_X2_readPlain_r95_c1d_190  l2.toInt (vw h) = dr → jX m_X2_readPlain 21 0 0 190 [(0, .ref 95), (1, .int 1), (2, .int l2)] [.int 9] h 0 0 Q := by
  intro l2 g0 g1 h y0 y1 y2 y3 z0 z1  J Sm D
  unfold d_X2_readPlain_r95_c1d_190 at D
  try rw [vrf z0] at D
  try rw [vrf z1] at D
  refine x_istore (lsx9 := [(4, .int 9), (0, .ref 95), (1, .int 1), (2, .int l2)]) rfl rfl rfl ?_
  refine x_iload (x := 9) rfl rfl ?_
  refine x_iconst (v := (-1)) rfl ki_m1 ?_
  refine x_icne (tgt := 206) rfl rfl (ti_ne jk_9 jk_m1 (bn_t (by omega) ?_))
  refine x_aloadn (x := 95) rfl rfl ?_
  refine z_getR (N := 6) (b := 68) 2 0 rfl f_2_30 rfl J rfl 12160 ⟨rfl, rfl⟩ rfl ?_
  refine x_inv (N := m_X9_step) (As := []) (b := 68) (st := []) (dx9 := 2) (mc := 0) (ms := 0) (host := "") 9 rfl t_X9_step ⟨Or.inl q_2_62, i_X9_step.1, i_X9_step.2⟩ ⟨by decide, rfl⟩ (congrArg Prod.fst (J.1.1 68 (9, 6) rfl)) rfl (by decide) rfl rfl ⟨by decide, by decide⟩ (sf_X9_step_r68d  hD J z1 z0 (by omega) rfl  (fun h J S1 u2 u3 qu2 qu3 ru2 X4 => ?_))
  have Sm := jSm_tr rfl Sm S1
  rw [X4] at D
  have eu2 := (show 0 ≤ u2.toInt ∧ u2.toInt ≤ 3 from qu2 ▸ jrg_f J sg_68_5_6_1_0_1)
  try rw [vrf qu2] at D
  have eu3 := (show 0 ≤ u3.toInt ∧ u3.toInt ≤ 400 from qu3 ▸ jrg_f J sg_68_3_4_1_0_1)
  try rw [vrf qu3] at D
  show jX m_X2_readPlain 21 0 0 213 [(4, .int 9), (0, .ref 95), (1, .int 1), (2, .int l2)] [] _ 0 0 _
  refine x_aloadn (x := 95) rfl rfl ?_
  refine x_iloadn (x := 1) rfl rfl ?_
  refine x_inv (N := m_X2_readSum) (As := [.int 1]) (b := 95) (st := []) (dx9 := 20) (mc := 0) (ms := 0) (host := "") 2 rfl t_X2_readSum ⟨Or.inl q_2_86, i_X2_readSum.1, i_X2_readSum.2⟩ ⟨by decide, rfl⟩ (congrArg Prod.fst (J.1.1 95 (2, 6) rfl)) rfl (by decide) rfl rfl ⟨by decide, by decide⟩ (sf_X2_readSum_r95_c1d  hD J qu2 qu3 (by omega) rfl  (fun v10 h ev10 J S5 u6 u7 qu6 qu7 ru6 X8 X9 => ?_))
  have Sm := jSm_tr rfl Sm S5
  try rw [X8] at D
  try rw [X9] at D
  have eu6 := (show 0 ≤ u6.toInt ∧ u6.toInt ≤ 3 from qu6 ▸ jrg_f J sg_68_5_6_1_0_1)
  try rw [vrf qu6] at D
  have eu7 := (show 0 ≤ u7.toInt ∧ u7.toInt ≤ 400 from qu7 ▸ jrg_f J sg_68_3_4_1_0_1)
  try rw [vrf qu7] at D
  show jX m_X2_readPlain 21 0 0 218 [(4, .int 9), (0, .ref 95), (1, .int 1), (2, .int l2)] [.int v10] _ 0 0 _
  refine x_ifne (tgt := 223) rfl rfl (ti_ne rfl jk_0 ⟨fun c11 => ?_, fun c11 => ?_⟩)
  ·
    rw [if_neg (by omega)] at D
    refine x_aloadn (x := 95) rfl rfl ?_
    refine x_iload (x := 9) rfl rfl ?_
    refine x_inv (N := m_X2_emit) (As := [.int 9]) (b := 95) (st := []) (dx9 := 1) (mc := 0) (ms := 0) (host := "") 2 rfl t_X2_emit ⟨Or.inl q_2_89, i_X2_emit.1, i_X2_emit.2⟩ ⟨by decide, rfl⟩ (congrArg Prod.fst (J.1.1 95 (2, 6) rfl)) rfl (by decide) rfl rfl ⟨by decide, by decide⟩ (sf_X2_emit_r95d  hD J rfl  (fun h J S12 X13 => ?_))
    have Sm := jSm_tr rfl Sm S12
    try rw [jk_9] at X13
    rw [X13] at D
    show jX m_X2_readPlain 21 0 0 229 [(4, .int 9), (0, .ref 95), (1, .int 1), (2, .int l2)] [] _ 0 0 _
    exact jX.sub (jsb_c rfl (jsb_c rfl jsb_n)) (ct_X2_readPlain_r95_c1d_229 hD hQ  l2 u7 u6 h (jr_of rfl (by omega)) (jr_of rfl (by omega)) (jr_of rfl (by omega)) (by omega) (jmc S12 rfl qu7) (jmc S12 rfl qu6) J Sm D)
  ·
    rw [if_pos (by omega)] at D
    refine x_iconst (v := 0) rfl ki_0 ?_
    refine x_zret rfl rfl (by decide) ?_
    exact hQ _ _ (jr_of jk_0 (by omega)) J Sm _ _ qu6 qu7 (by omega) ((congrArg Prod.fst D).symm.trans (show 0 = (0 : Int32).toInt from by have := jk_0; omega)) (congrArg Prod.snd D).symm
set_option maxRecDepth 100000 in
set_option maxHeartbeats 4000000 in
theorem ct_X2_readPlain_r95_c1d_1000190 {Dy : jH → Prop} {h0 : jH} {Q : Option Value → jH → Prop} {dr : (Int × jW)} (hD : jDk Dy) (hQ : ∀ (v : Int32) hx9, 0 ≤ v.toInt ∧ v.toInt ≤ 1 → jJ jSgX Dy hx9 → jSm fp_X2_readPlain_r95_c1d h0 hx9 → ∀ u0 u1 : Int32, jiv hx9 68 5 = u0 → jiv hx9 68 3 = u1 → (u0.toInt ≠ 3 ∨ u1.toInt ≤ 399) → dr.1 = v.toInt → dr.2 = vw hx9 → Q (some (.int v)) hx9) : ∀ (l2 : Int32) (g0 : Int32) (g1 : Int32) (h : jH), 0 ≤ l2.toInt ∧ l2.toInt ≤ 1 → 0 ≤ g0.toInt ∧ g0.toInt ≤ 400 → 0 ≤ g1.toInt ∧ g1.toInt ≤ 3 → (g1.toInt ≠ 3 ∨ g0.toInt ≤ 399) → jiv h 68 3 = g0 → jiv h 68 5 = g1 → jJ jSgX Dy h → jSm fp_X2_readPlain_r95_c1d h0 h → d_X2_readPlain_r95_c1d_1000190  l2.toInt (vw h) = dr → jX m_X2_readPlain 21 0 0 190 [(0, .ref 95), (1, .int 1), (2, .int l2)] [.int 8] h 0 0 Q := by
  intro l2 g0 g1 h y0 y1 y2 y3 z0 z1  J Sm D
  unfold d_X2_readPlain_r95_c1d_1000190 at D
  try rw [vrf z0] at D
  try rw [vrf z1] at D
  refine x_istore (lsx9 := [(4, .int 8), (0, .ref 95), (1, .int 1), (2, .int l2)]) rfl rfl rfl ?_
  refine x_iload (x := 8) rfl rfl ?_
  refine x_iconst (v := (-1)) rfl ki_m1 ?_
  refine x_icne (tgt := 206) rfl rfl (ti_ne jk_8 jk_m1 (bn_t (by omega) ?_))
  refine x_aloadn (x := 95) rfl rfl ?_
  refine z_getR (N := 6) (b := 68) 2 0 rfl f_2_30 rfl J rfl 12160 ⟨rfl, rfl⟩ rfl ?_
  refine x_inv (N := m_X9_step) (As := []) (b := 68) (st := []) (dx9 := 2) (mc := 0) (ms := 0) (host := "") 9 rfl t_X9_step ⟨Or.inl q_2_62, i_X9_step.1, i_X9_step.2⟩ ⟨by decide, rfl⟩ (congrArg Prod.fst (J.1.1 68 (9, 6) rfl)) rfl (by decide) rfl rfl ⟨by decide, by decide⟩ (sf_X9_step_r68d  hD J z1 z0 (by omega) rfl  (fun h J S1 u2 u3 qu2 qu3 ru2 X4 => ?_))
  have Sm := jSm_tr rfl Sm S1
  rw [X4] at D
  have eu2 := (show 0 ≤ u2.toInt ∧ u2.toInt ≤ 3 from qu2 ▸ jrg_f J sg_68_5_6_1_0_1)
  try rw [vrf qu2] at D
  have eu3 := (show 0 ≤ u3.toInt ∧ u3.toInt ≤ 400 from qu3 ▸ jrg_f J sg_68_3_4_1_0_1)
  try rw [vrf qu3] at D
  show jX m_X2_readPlain 21 0 0 213 [(4, .int 8), (0, .ref 95), (1, .int 1), (2, .int l2)] [] _ 0 0 _
  refine x_aloadn (x := 95) rfl rfl ?_
  refine x_iloadn (x := 1) rfl rfl ?_
  refine x_inv (N := m_X2_readSum) (As := [.int 1]) (b := 95) (st := []) (dx9 := 20) (mc := 0) (ms := 0) (host := "") 2 rfl t_X2_readSum ⟨Or.inl q_2_86, i_X2_readSum.1, i_X2_readSum.2⟩ ⟨by decide, rfl⟩ (congrArg Prod.fst (J.1.1 95 (2, 6) rfl)) rfl (by decide) rfl rfl ⟨by decide, by decide⟩ (sf_X2_readSum_r95_c1d  hD J qu2 qu3 (by omega) rfl  (fun v10 h ev10 J S5 u6 u7 qu6 qu7 ru6 X8 X9 => ?_))
  have Sm := jSm_tr rfl Sm S5
  try rw [X8] at D
  try rw [X9] at D
  have eu6 := (show 0 ≤ u6.toInt ∧ u6.toInt ≤ 3 from qu6 ▸ jrg_f J sg_68_5_6_1_0_1)
  try rw [vrf qu6] at D
  have eu7 := (show 0 ≤ u7.toInt ∧ u7.toInt ≤ 400 from qu7 ▸ jrg_f J sg_68_3_4_1_0_1)
  try rw [vrf qu7] at D
  show jX m_X2_readPlain 21 0 0 218 [(4, .int 8), (0, .ref 95), (1, .int 1), (2, .int l2)] [.int v10] _ 0 0 _
  refine x_ifne (tgt := 223) rfl rfl (ti_ne rfl jk_0 ⟨fun c11 => ?_, fun c11 => ?_⟩)
  ·
    rw [if_neg (by omega)] at D
    refine x_aloadn (x := 95) rfl rfl ?_
    refine x_iload (x := 8) rfl rfl ?_
    refine x_inv (N := m_X2_emit) (As := [.int 8]) (b := 95) (st := []) (dx9 := 1) (mc := 0) (ms := 0) (host := "") 2 rfl t_X2_emit ⟨Or.inl q_2_89, i_X2_emit.1, i_X2_emit.2⟩ ⟨by decide, rfl⟩ (congrArg Prod.fst (J.1.1 95 (2, 6) rfl)) rfl (by decide) rfl rfl ⟨by decide, by decide⟩ (sf_X2_emit_r95d  hD J rfl  (fun h J S12 X13 => ?_))
    have Sm := jSm_tr rfl Sm S12
    try rw [jk_8] at X13
    rw [X13] at D
    show jX m_X2_readPlain 21 0 0 229 [(4, .int 8), (0, .ref 95), (1, .int 1), (2, .int l2)] [] _ 0 0 _
    exact jX.sub (jsb_c rfl (jsb_c rfl jsb_n)) (ct_X2_readPlain_r95_c1d_229 hD hQ  l2 u7 u6 h (jr_of rfl (by omega)) (jr_of rfl (by omega)) (jr_of rfl (by omega)) (by omega) (jmc S12 rfl qu7) (jmc S12 rfl qu6) J Sm D)
  ·
    rw [if_pos (by omega)] at D
    refine x_iconst (v := 0) rfl ki_0 ?_
    refine x_zret rfl rfl (by decide) ?_
    exact hQ _ _ (jr_of jk_0 (by omega)) J Sm _ _ qu6 qu7 (by omega) ((congrArg Prod.fst D).symm.trans (show 0 = (0 : Int32).toInt from by have := jk_0; omega)) (congrArg Prod.snd D).symm
set_option maxRecDepth 100000 in
set_option maxHeartbeats 4000000 in
theorem ct_X2_readPlain_r95_c1d_900190 {Dy : jH → Prop} {h0 : jH} {Q : Option Value → jH → Prop} {dr : (Int × jW)} (hD : jDk Dy) (hQ : ∀ (v : Int32) hx9, 0 ≤ v.toInt ∧ v.toInt ≤ 1 → jJ jSgX Dy hx9 → jSm fp_X2_readPlain_r95_c1d h0 hx9 → ∀ u0 u1 : Int32, jiv hx9 68 5 = u0 → jiv hx9 68 3 = u1 → (u0.toInt ≠ 3 ∨ u1.toInt ≤ 399) → dr.1 = v.toInt → dr.2 = vw hx9 → Q (some (.int v)) hx9) : ∀ (l2 : Int32) (g0 : Int32) (g1 : Int32) (h : jH), 0 ≤ l2.toInt ∧ l2.toInt ≤ 1 → 0 ≤ g0.toInt ∧ g0.toInt ≤ 400 → 0 ≤ g1.toInt ∧ g1.toInt ≤ 3 → (g1.toInt ≠ 3 ∨ g0.toInt ≤ 399) → jiv h 68 3 = g0 → jiv h 68 5 = g1 → jJ jSgX Dy h → jSm fp_X2_readPlain_r95_c1d h0 h → d_X2_readPlain_r95_c1d_900190  l2.toInt (vw h) = dr → jX m_X2_readPlain 21 0 0 190 [(0, .ref 95), (1, .int 1), (2, .int l2)] [.int 7] h 0 0 Q := by
  intro l2 g0 g1 h y0 y1 y2 y3 z0 z1  J Sm D
  unfold d_X2_readPlain_r95_c1d_900190 at D
  try rw [vrf z0] at D
  try rw [vrf z1] at D
  refine x_istore (lsx9 := [(4, .int 7), (0, .ref 95), (1, .int 1), (2, .int l2)]) rfl rfl rfl ?_
  refine x_iload (x := 7) rfl rfl ?_
  refine x_iconst (v := (-1)) rfl ki_m1 ?_
  refine x_icne (tgt := 206) rfl rfl (ti_ne jk_7 jk_m1 (bn_t (by omega) ?_))
  refine x_aloadn (x := 95) rfl rfl ?_
  refine z_getR (N := 6) (b := 68) 2 0 rfl f_2_30 rfl J rfl 12160 ⟨rfl, rfl⟩ rfl ?_
  refine x_inv (N := m_X9_step) (As := []) (b := 68) (st := []) (dx9 := 2) (mc := 0) (ms := 0) (host := "") 9 rfl t_X9_step ⟨Or.inl q_2_62, i_X9_step.1, i_X9_step.2⟩ ⟨by decide, rfl⟩ (congrArg Prod.fst (J.1.1 68 (9, 6) rfl)) rfl (by decide) rfl rfl ⟨by decide, by decide⟩ (sf_X9_step_r68d  hD J z1 z0 (by omega) rfl  (fun h J S1 u2 u3 qu2 qu3 ru2 X4 => ?_))
  have Sm := jSm_tr rfl Sm S1
  rw [X4] at D
  have eu2 := (show 0 ≤ u2.toInt ∧ u2.toInt ≤ 3 from qu2 ▸ jrg_f J sg_68_5_6_1_0_1)
  try rw [vrf qu2] at D
  have eu3 := (show 0 ≤ u3.toInt ∧ u3.toInt ≤ 400 from qu3 ▸ jrg_f J sg_68_3_4_1_0_1)
  try rw [vrf qu3] at D
  show jX m_X2_readPlain 21 0 0 213 [(4, .int 7), (0, .ref 95), (1, .int 1), (2, .int l2)] [] _ 0 0 _
  refine x_aloadn (x := 95) rfl rfl ?_
  refine x_iloadn (x := 1) rfl rfl ?_
  refine x_inv (N := m_X2_readSum) (As := [.int 1]) (b := 95) (st := []) (dx9 := 20) (mc := 0) (ms := 0) (host := "") 2 rfl t_X2_readSum ⟨Or.inl q_2_86, i_X2_readSum.1, i_X2_readSum.2⟩ ⟨by decide, rfl⟩ (congrArg Prod.fst (J.1.1 95 (2, 6) rfl)) rfl (by decide) rfl rfl ⟨by decide, by decide⟩ (sf_X2_readSum_r95_c1d  hD J qu2 qu3 (by omega) rfl  (fun v10 h ev10 J S5 u6 u7 qu6 qu7 ru6 X8 X9 => ?_))
  have Sm := jSm_tr rfl Sm S5
  try rw [X8] at D
  try rw [X9] at D
  have eu6 := (show 0 ≤ u6.toInt ∧ u6.toInt ≤ 3 from qu6 ▸ jrg_f J sg_68_5_6_1_0_1)
  try rw [vrf qu6] at D
  have eu7 := (show 0 ≤ u7.toInt ∧ u7.toInt ≤ 400 from qu7 ▸ jrg_f J sg_68_3_4_1_0_1)
  try rw [vrf qu7] at D
  show jX m_X2_readPlain 21 0 0 218 [(4, .int 7), (0, .ref 95), (1, .int 1), (2, .int l2)] [.int v10] _ 0 0 _
  refine x_ifne (tgt := 223) rfl rfl (ti_ne rfl jk_0 ⟨fun c11 => ?_, fun c11 => ?_⟩)
  ·
    rw [if_neg (by omega)] at D
    refine x_aloadn (x := 95) rfl rfl ?_
    refine x_iload (x := 7) rfl rfl ?_
    refine x_inv (N := m_X2_emit) (As := [.int 7]) (b := 95) (st := []) (dx9 := 1) (mc := 0) (ms := 0) (host := "") 2 rfl t_X2_emit ⟨Or.inl q_2_89, i_X2_emit.1, i_X2_emit.2⟩ ⟨by decide, rfl⟩ (congrArg Prod.fst (J.1.1 95 (2, 6) rfl)) rfl (by decide) rfl rfl ⟨by decide, by decide⟩ (sf_X2_emit_r95d  hD J rfl  (fun h J S12 X13 => ?_))
    have Sm := jSm_tr rfl Sm S12
    try rw [jk_7] at X13
    rw [X13] at D
    show jX m_X2_readPlain 21 0 0 229 [(4, .int 7), (0, .ref 95), (1, .int 1), (2, .int l2)] [] _ 0 0 _
    exact jX.sub (jsb_c rfl (jsb_c rfl jsb_n)) (ct_X2_readPlain_r95_c1d_229 hD hQ  l2 u7 u6 h (jr_of rfl (by omega)) (jr_of rfl (by omega)) (jr_of rfl (by omega)) (by omega) (jmc S12 rfl qu7) (jmc S12 rfl qu6) J Sm D)
  ·
    rw [if_pos (by omega)] at D
    refine x_iconst (v := 0) rfl ki_0 ?_
    refine x_zret rfl rfl (by decide) ?_
    exact hQ _ _ (jr_of jk_0 (by omega)) J Sm _ _ qu6 qu7 (by omega) ((congrArg Prod.fst D).symm.trans (show 0 = (0 : Int32).toInt from by have := jk_0; omega)) (congrArg Prod.snd D).symm
set_option maxRecDepth 100000 in
set_option maxHeartbeats 4000000 in
theorem ct_X2_readPlain_r95_c1d_108 {Dy : jH → Prop} {h0 : jH} {Q : Option Value → jH → Prop} {dr : (Int × jW)} (hD : jDk Dy) (hQ : ∀ (v : Int32) hx9, 0 ≤ v.toInt ∧ v.toInt ≤ 1 → jJ jSgX Dy hx9 → jSm fp_X2_readPlain_r95_c1d h0 hx9 → ∀ u0 u1 : Int32, jiv hx9 68 5 = u0 → jiv hx9 68 3 = u1 → (u0.toInt ≠ 3 ∨ u1.toInt ≤ 399) → dr.1 = v.toInt → dr.2 = vw hx9 → Q (some (.int v)) hx9) : ∀ (g0 : Int32) (g1 : Int32) (h : jH), 0 ≤ g0.toInt ∧ g0.toInt ≤ 400 → 0 ≤ g1.toInt ∧ g1.toInt ≤ 3 → (g1.toInt ≠ 3 ∨ g0.toInt ≤ 399) → jiv h 68 3 = g0 → jiv h 68 5 = g1 → jJ jSgX Dy h → jSm fp_X2_readPlain_r95_c1d h0 h → d_X2_readPlain_r95_c1d_108  (vw h) = dr → jX m_X2_readPlain 21 0 0 108 [] [] h 0 0 Q := by
  intro g0 g1 h y0 y1 y2 z0 z1  J Sm D
  unfold d_X2_readPlain_r95_c1d_108 at D
  try rw [vrf z0] at D
  try rw [vrf z1] at D
  refine x_iconst (v := 0) rfl ki_0 ?_
  refine x_zret rfl rfl (by decide) ?_
  exact hQ _ _ (jr_of jk_0 (by omega)) J Sm _ _ z1 z0 (by omega) ((congrArg Prod.fst D).symm.trans (show 0 = (0 : Int32).toInt from by have := jk_0; omega)) (congrArg Prod.snd D).symm
set_option maxRecDepth 100000 in
set_option maxHeartbeats 4000000 in
theorem ct_X2_readPlain_r95_c1d_46 {Dy : jH → Prop} {h0 : jH} {Q : Option Value → jH → Prop} {dr : (Int × jW)} (hD : jDk Dy) (hQ : ∀ (v : Int32) hx9, 0 ≤ v.toInt ∧ v.toInt ≤ 1 → jJ jSgX Dy hx9 → jSm fp_X2_readPlain_r95_c1d h0 hx9 → ∀ u0 u1 : Int32, jiv hx9 68 5 = u0 → jiv hx9 68 3 = u1 → (u0.toInt ≠ 3 ∨ u1.toInt ≤ 399) → dr.1 = v.toInt → dr.2 = vw hx9 → Q (some (.int v)) hx9) : ∀ (l2 : Int32) (g0 : Int32) (g1 : Int32) (h : jH), 0 ≤ l2.toInt ∧ l2.toInt ≤ 1 → 0 ≤ g0.toInt ∧ g0.toInt ≤ 400 → 0 ≤ g1.toInt ∧ g1.toInt ≤ 3 → (g1.toInt ≠ 3 ∨ g0.toInt ≤ 399) → jiv h 68 3 = g0 → jiv h 68 5 = g1 → jJ jSgX Dy h → jSm fp_X2_readPlain_r95_c1d h0 h → d_X2_readPlain_r95_c1d_46  l2.toInt (vw h) = dr → jX m_X2_readPlain 21 0 0 46 [(0, .ref 95), (1, .int 1), (2, .int l2)] [] h 0 0 Q := by
  intro l2 g0 g1 h y0 y1 y2 y3 z0 z1  J Sm D
  unfold d_X2_readPlain_r95_c1d_46 at D
  try rw [vrf z0] at D
  try rw [vrf z1] at D
  refine x_aloadn (x := 95) rfl rfl ?_
  refine z_getR (N := 6) (b := 68) 2 0 rfl f_2_30 rfl J rfl 12160 ⟨rfl, rfl⟩ rfl ?_
  refine x_ldcS (jstr.getD 10 jstr_0) rfl (List.mem_of_getElem? (i := 10) rfl) rfl rfl ?_
  show jX m_X2_readPlain 21 0 0 52 [(0, .ref 95), (1, .int 1), (2, .int l2)] [.ref 15, .ref 68] _ 0 0 _
  refine x_inv (N := m_X9_wordOf) (As := [.ref 15]) (b := 68) (st := []) (dx9 := 4) (mc := 0) (ms := 0) (host := "") 9 rfl t_X9_wordOf ⟨Or.inl q_2_67, i_X9_wordOf.1, i_X9_wordOf.2⟩ ⟨by decide, rfl⟩ (congrArg Prod.fst (J.1.1 68 (9, 6) rfl)) rfl (by decide) rfl rfl ⟨by decide, by decide⟩ (sf_X9_wordOf_r68_r15d  hD J rfl  (fun v4 h J S1 X2 X3 => ?_))
  have ev4 := jfull v4
  have Sm := jSm_tr rfl Sm S1
  try rw [X2] at D
  try rw [← X3] at D
  show jX m_X2_readPlain 21 0 0 55 [(0, .ref 95), (1, .int 1), (2, .int l2)] [.int v4] _ 0 0 _
  refine x_istoren (lsx9 := [(3, .int v4), (0, .ref 95), (1, .int 1), (2, .int l2)]) rfl rfl rfl ?_
  refine x_aloadn (x := 95) rfl rfl ?_
  refine z_getR (N := 6) (b := 68) 2 0 rfl f_2_30 rfl J rfl 12160 ⟨rfl, rfl⟩ rfl ?_
  refine x_bipush (v := 40) rfl kb_40 ?_
  refine x_inv (N := m_X9_isSign) (As := [.int 40]) (b := 68) (st := []) (dx9 := 1) (mc := 0) (ms := 0) (host := "") 9 rfl t_X9_isSign ⟨Or.inl q_2_55, i_X9_isSign.1, i_X9_isSign.2⟩ ⟨by decide, rfl⟩ (congrArg Prod.fst (J.1.1 68 (9, 6) rfl)) rfl (by decide) rfl rfl ⟨by decide, by decide⟩ (sf_X9_isSign_r68d (jr_of jk_40 (by omega)) hD J (jmc S1 rfl z1) (jmc S1 rfl z0) (by omega) rfl  (fun v10 h ev10 J S5 u6 u7 qu6 qu7 ru6 X8 X9 => ?_))
  have Sm := jSm_tr rfl Sm S5
  try rw [jk_40] at X8
  try rw [X8] at D
  try rw [← X9] at D
  have eu6 := (show 0 ≤ u6.toInt ∧ u6.toInt ≤ 3 from qu6 ▸ jrg_f J sg_68_5_6_1_0_1)
  have Luu6 := congrArg Int32.toInt (((jmc S5 rfl (jmc S1 rfl z1))).symm.trans qu6)
  try rw [Luu6] at D
  try rw [vrf qu6] at D
  have eu7 := (show 0 ≤ u7.toInt ∧ u7.toInt ≤ 400 from qu7 ▸ jrg_f J sg_68_3_4_1_0_1)
  have Luu7 := congrArg Int32.toInt (((jmc S5 rfl (jmc S1 rfl z0))).symm.trans qu7)
  try rw [Luu7] at D
  try rw [vrf qu7] at D
  show jX m_X2_readPlain 21 0 0 65 [(3, .int v4), (0, .ref 95), (1, .int 1), (2, .int l2)] [.int v10] _ 0 0 _
  refine x_ifeq (tgt := 110) rfl rfl (ti_eq rfl jk_0 ⟨fun c11 => ?_, fun c11 => ?_⟩)
  ·
    rw [if_pos (by omega)] at D
    refine x_iloadn (x := v4) rfl rfl ?_
    refine x_iconst (v := (-1)) rfl ki_m1 ?_
    refine x_iceq (tgt := 128) rfl rfl (ti_eq rfl jk_m1 ⟨fun c12 => ?_, fun c12 => ?_⟩)
    ·
      rw [if_pos (by omega)] at D
      refine x_aloadn (x := 95) rfl rfl ?_
      refine x_iloadn (x := 1) rfl rfl ?_
      refine x_inv (N := m_X2_readSum) (As := [.int 1]) (b := 95) (st := []) (dx9 := 20) (mc := 0) (ms := 0) (host := "") 2 rfl t_X2_readSum ⟨Or.inl q_2_86, i_X2_readSum.1, i_X2_readSum.2⟩ ⟨by decide, rfl⟩ (congrArg Prod.fst (J.1.1 95 (2, 6) rfl)) rfl (by decide) rfl rfl ⟨by decide, by decide⟩ (sf_X2_readSum_r95_c1d  hD J qu6 qu7 (by omega) rfl  (fun v18 h ev18 J S13 u14 u15 qu14 qu15 ru14 X16 X17 => ?_))
      have Sm := jSm_tr rfl Sm S13
      try rw [X16] at D
      try rw [X17] at D
      have eu14 := (show 0 ≤ u14.toInt ∧ u14.toInt ≤ 3 from qu14 ▸ jrg_f J sg_68_5_6_1_0_1)
      try rw [vrf qu14] at D
      have eu15 := (show 0 ≤ u15.toInt ∧ u15.toInt ≤ 400 from qu15 ▸ jrg_f J sg_68_3_4_1_0_1)
      try rw [vrf qu15] at D
      show jX m_X2_readPlain 21 0 0 133 [(3, .int v4), (0, .ref 95), (1, .int 1), (2, .int l2)] [.int v18] _ 0 0 _
      refine x_ifne (tgt := 138) rfl rfl (ti_ne rfl jk_0 ⟨fun c19 => ?_, fun c19 => ?_⟩)
      ·
        rw [if_neg (by omega)] at D
        refine x_aloadn (x := 95) rfl rfl ?_
        refine z_getR (N := 6) (b := 68) 2 0 rfl f_2_30 rfl J rfl 12160 ⟨rfl, rfl⟩ rfl ?_
        refine x_bipush (v := 60) rfl kb_60 ?_
        refine x_inv (N := m_X9_isSign) (As := [.int 60]) (b := 68) (st := []) (dx9 := 1) (mc := 0) (ms := 0) (host := "") 9 rfl t_X9_isSign ⟨Or.inl q_2_55, i_X9_isSign.1, i_X9_isSign.2⟩ ⟨by decide, rfl⟩ (congrArg Prod.fst (J.1.1 68 (9, 6) rfl)) rfl (by decide) rfl rfl ⟨by decide, by decide⟩ (sf_X9_isSign_r68d (jr_of jk_60 (by omega)) hD J qu14 qu15 (by omega) rfl  (fun v25 h ev25 J S20 u21 u22 qu21 qu22 ru21 X23 X24 => ?_))
        have Sm := jSm_tr rfl Sm S20
        try rw [jk_60] at X23
        try rw [X23] at D
        try rw [← X24] at D
        have eu21 := (show 0 ≤ u21.toInt ∧ u21.toInt ≤ 3 from qu21 ▸ jrg_f J sg_68_5_6_1_0_1)
        have Luu21 := congrArg Int32.toInt (((jmc S20 rfl qu14)).symm.trans qu21)
        try rw [Luu21] at D
        try rw [vrf qu21] at D
        have eu22 := (show 0 ≤ u22.toInt ∧ u22.toInt ≤ 400 from qu22 ▸ jrg_f J sg_68_3_4_1_0_1)
        have Luu22 := congrArg Int32.toInt (((jmc S20 rfl qu15)).symm.trans qu22)
        try rw [Luu22] at D
        try rw [vrf qu22] at D
        show jX m_X2_readPlain 21 0 0 147 [(3, .int v4), (0, .ref 95), (1, .int 1), (2, .int l2)] [.int v25] _ 0 0 _
        refine x_ifeq (tgt := 155) rfl rfl (ti_eq rfl jk_0 ⟨fun c26 => ?_, fun c26 => ?_⟩)
        ·
          rw [if_pos (by omega)] at D
          refine x_aloadn (x := 95) rfl rfl ?_
          refine z_getR (N := 6) (b := 68) 2 0 rfl f_2_30 rfl J rfl 12160 ⟨rfl, rfl⟩ rfl ?_
          refine x_bipush (v := 62) rfl kb_62 ?_
          refine x_inv (N := m_X9_isSign) (As := [.int 62]) (b := 68) (st := []) (dx9 := 1) (mc := 0) (ms := 0) (host := "") 9 rfl t_X9_isSign ⟨Or.inl q_2_55, i_X9_isSign.1, i_X9_isSign.2⟩ ⟨by decide, rfl⟩ (congrArg Prod.fst (J.1.1 68 (9, 6) rfl)) rfl (by decide) rfl rfl ⟨by decide, by decide⟩ (sf_X9_isSign_r68d (jr_of jk_62 (by omega)) hD J qu21 qu22 (by omega) rfl  (fun v32 h ev32 J S27 u28 u29 qu28 qu29 ru28 X30 X31 => ?_))
          have Sm := jSm_tr rfl Sm S27
          try rw [jk_62] at X30
          try rw [X30] at D
          try rw [← X31] at D
          have eu28 := (show 0 ≤ u28.toInt ∧ u28.toInt ≤ 3 from qu28 ▸ jrg_f J sg_68_5_6_1_0_1)
          have Luu28 := congrArg Int32.toInt (((jmc S27 rfl qu21)).symm.trans qu28)
          try rw [Luu28] at D
          try rw [vrf qu28] at D
          have eu29 := (show 0 ≤ u29.toInt ∧ u29.toInt ≤ 400 from qu29 ▸ jrg_f J sg_68_3_4_1_0_1)
          have Luu29 := congrArg Int32.toInt (((jmc S27 rfl qu22)).symm.trans qu29)
          try rw [Luu29] at D
          try rw [vrf qu29] at D
          show jX m_X2_readPlain 21 0 0 164 [(3, .int v4), (0, .ref 95), (1, .int 1), (2, .int l2)] [.int v32] _ 0 0 _
          refine x_ifeq (tgt := 172) rfl rfl (ti_eq rfl jk_0 ⟨fun c33 => ?_, fun c33 => ?_⟩)
          ·
            rw [if_pos (by omega)] at D
            refine x_aloadn (x := 95) rfl rfl ?_
            refine z_getR (N := 6) (b := 68) 2 0 rfl f_2_30 rfl J rfl 12160 ⟨rfl, rfl⟩ rfl ?_
            refine x_bipush (v := 61) rfl kb_61 ?_
            refine x_inv (N := m_X9_isSign) (As := [.int 61]) (b := 68) (st := []) (dx9 := 1) (mc := 0) (ms := 0) (host := "") 9 rfl t_X9_isSign ⟨Or.inl q_2_55, i_X9_isSign.1, i_X9_isSign.2⟩ ⟨by decide, rfl⟩ (congrArg Prod.fst (J.1.1 68 (9, 6) rfl)) rfl (by decide) rfl rfl ⟨by decide, by decide⟩ (sf_X9_isSign_r68d (jr_of jk_61 (by omega)) hD J qu28 qu29 (by omega) rfl  (fun v39 h ev39 J S34 u35 u36 qu35 qu36 ru35 X37 X38 => ?_))
            have Sm := jSm_tr rfl Sm S34
            try rw [jk_61] at X37
            try rw [X37] at D
            try rw [← X38] at D
            have eu35 := (show 0 ≤ u35.toInt ∧ u35.toInt ≤ 3 from qu35 ▸ jrg_f J sg_68_5_6_1_0_1)
            have Luu35 := congrArg Int32.toInt (((jmc S34 rfl qu28)).symm.trans qu35)
            try rw [Luu35] at D
            try rw [vrf qu35] at D
            have eu36 := (show 0 ≤ u36.toInt ∧ u36.toInt ≤ 400 from qu36 ▸ jrg_f J sg_68_3_4_1_0_1)
            have Luu36 := congrArg Int32.toInt (((jmc S34 rfl qu29)).symm.trans qu36)
            try rw [Luu36] at D
            try rw [vrf qu36] at D
            show jX m_X2_readPlain 21 0 0 181 [(3, .int v4), (0, .ref 95), (1, .int 1), (2, .int l2)] [.int v39] _ 0 0 _
            refine x_ifeq (tgt := 189) rfl rfl (ti_eq rfl jk_0 ⟨fun c40 => ?_, fun c40 => ?_⟩)
            ·
              rw [if_pos (by omega)] at D
              refine x_iconst (v := (-1)) rfl ki_m1 ?_
              exact jX.sub (jsb_c rfl (jsb_c rfl (jsb_c rfl jsb_n))) (ct_X2_readPlain_r95_c1d_100190 hD hQ  l2 u36 u35 h (jr_of rfl (by omega)) (jr_of rfl (by omega)) (jr_of rfl (by omega)) (by omega) qu36 qu35 J Sm D)
            ·
              rw [if_neg (by omega)] at D
              refine x_bipush (v := 9) rfl kb_9 ?_
              refine x_goto (tgt := 190) rfl rfl ?_
              exact jX.sub (jsb_c rfl (jsb_c rfl (jsb_c rfl jsb_n))) (ct_X2_readPlain_r95_c1d_190 hD hQ  l2 u36 u35 h (jr_of rfl (by omega)) (jr_of rfl (by omega)) (jr_of rfl (by omega)) (by omega) qu36 qu35 J Sm D)
          ·
            rw [if_neg (by omega)] at D
            refine x_bipush (v := 8) rfl kb_8 ?_
            refine x_goto (tgt := 190) rfl rfl ?_
            exact jX.sub (jsb_c rfl (jsb_c rfl (jsb_c rfl jsb_n))) (ct_X2_readPlain_r95_c1d_1000190 hD hQ  l2 u29 u28 h (jr_of rfl (by omega)) (jr_of rfl (by omega)) (jr_of rfl (by omega)) (by omega) qu29 qu28 J Sm D)
        ·
          rw [if_neg (by omega)] at D
          refine x_bipush (v := 7) rfl kb_7 ?_
          refine x_goto (tgt := 190) rfl rfl ?_
          exact jX.sub (jsb_c rfl (jsb_c rfl (jsb_c rfl jsb_n))) (ct_X2_readPlain_r95_c1d_900190 hD hQ  l2 u22 u21 h (jr_of rfl (by omega)) (jr_of rfl (by omega)) (jr_of rfl (by omega)) (by omega) qu22 qu21 J Sm D)
      ·
        rw [if_pos (by omega)] at D
        refine x_iconst (v := 0) rfl ki_0 ?_
        refine x_zret rfl rfl (by decide) ?_
        exact hQ _ _ (jr_of jk_0 (by omega)) J Sm _ _ qu14 qu15 (by omega) ((congrArg Prod.fst D).symm.trans (show 0 = (0 : Int32).toInt from by have := jk_0; omega)) (congrArg Prod.snd D).symm
    ·
      rw [if_neg (by omega)] at D
      refine x_aloadn (x := 95) rfl rfl ?_
      refine x_iconst (v := 2) rfl ki_2 ?_
      refine x_iconst (v := 5) rfl ki_5 ?_
      refine x_iloadn (x := v4) rfl rfl ?_
      refine z_iaddW rfl jk_5 rfl (fun v41 ev41 => ?_)
      have fv41 := jfull v41
      try rw [← ev41] at D
      refine x_inv (N := m_X2_readPart) (As := [.int 2, .int v41]) (b := 95) (st := []) (dx9 := 3) (mc := 0) (ms := 0) (host := "") 2 rfl t_X2_readPart ⟨Or.inl q_2_141, i_X2_readPart.1, i_X2_readPart.2⟩ ⟨by decide, rfl⟩ (congrArg Prod.fst (J.1.1 95 (2, 6) rfl)) rfl (by decide) rfl rfl ⟨by decide, by decide⟩ (sf_X2_readPart_r95d (jr_of jk_2 (by omega)) hD J qu6 qu7 (by omega) rfl  (fun v47 h ev47 J S42 u43 u44 qu43 qu44 ru43 X45 X46 => ?_))
      have Sm := jSm_tr rfl Sm S42
      try rw [jk_2] at X45
      try rw [jk_2] at X46
      try rw [X45] at D
      try rw [X46] at D
      have eu43 := (show 0 ≤ u43.toInt ∧ u43.toInt ≤ 3 from qu43 ▸ jrg_f J sg_68_5_6_1_0_1)
      try rw [vrf qu43] at D
      have eu44 := (show 0 ≤ u44.toInt ∧ u44.toInt ≤ 400 from qu44 ▸ jrg_f J sg_68_3_4_1_0_1)
      try rw [vrf qu44] at D
      show jX m_X2_readPlain 21 0 0 123 [(3, .int v4), (0, .ref 95), (1, .int 1), (2, .int l2)] [.int v47] _ 0 0 _
      refine x_ifne (tgt := 229) rfl rfl (ti_ne rfl jk_0 ⟨fun c48 => ?_, fun c48 => ?_⟩)
      ·
        rw [if_neg (by omega)] at D
        exact jX.sub (jsb_c rfl (jsb_c rfl jsb_n)) (ct_X2_readPlain_r95_c1d_229 hD hQ  l2 u44 u43 h (jr_of rfl (by omega)) (jr_of rfl (by omega)) (jr_of rfl (by omega)) (by omega) qu44 qu43 J Sm D)
      ·
        rw [if_pos (by omega)] at D
        refine x_iconst (v := 0) rfl ki_0 ?_
        refine x_zret rfl rfl (by decide) ?_
        exact hQ _ _ (jr_of jk_0 (by omega)) J Sm _ _ qu43 qu44 (by omega) ((congrArg Prod.fst D).symm.trans (show 0 = (0 : Int32).toInt from by have := jk_0; omega)) (congrArg Prod.snd D).symm
  ·
    rw [if_neg (by omega)] at D
    refine x_iloadn (x := 1) rfl rfl ?_
    refine x_bipush (v := 8) rfl kb_8 ?_
    refine x_iclt (tgt := 82) rfl rfl (ti_lt jk_1 jk_8 (br_t (by omega) ?_))
    refine x_aloadn (x := 95) rfl rfl ?_
    refine z_getR (N := 6) (b := 68) 2 0 rfl f_2_30 rfl J rfl 12160 ⟨rfl, rfl⟩ rfl ?_
    refine x_inv (N := m_X9_step) (As := []) (b := 68) (st := []) (dx9 := 2) (mc := 0) (ms := 0) (host := "") 9 rfl t_X9_step ⟨Or.inl q_2_62, i_X9_step.1, i_X9_step.2⟩ ⟨by decide, rfl⟩ (congrArg Prod.fst (J.1.1 68 (9, 6) rfl)) rfl (by decide) rfl rfl ⟨by decide, by decide⟩ (sf_X9_step_r68d  hD J qu6 qu7 (by omega) rfl  (fun h J S49 u50 u51 qu50 qu51 ru50 X52 => ?_))
    have Sm := jSm_tr rfl Sm S49
    rw [X52] at D
    have eu50 := (show 0 ≤ u50.toInt ∧ u50.toInt ≤ 3 from qu50 ▸ jrg_f J sg_68_5_6_1_0_1)
    try rw [vrf qu50] at D
    have eu51 := (show 0 ≤ u51.toInt ∧ u51.toInt ≤ 400 from qu51 ▸ jrg_f J sg_68_3_4_1_0_1)
    try rw [vrf qu51] at D
    show jX m_X2_readPlain 21 0 0 89 [(3, .int v4), (0, .ref 95), (1, .int 1), (2, .int l2)] [] _ 0 0 _
    refine x_aloadn (x := 95) rfl rfl ?_
    refine x_iloadn (x := 1) rfl rfl ?_
    refine x_iconst (v := 1) rfl ki_1 ?_
    refine y_iadd (v := 2) rfl (by decide) ?_
    refine x_inv (N := m_X2_readTest) (As := [.int 2]) (b := 95) (st := []) (dx9 := 20) (mc := 0) (ms := 0) (host := "") 2 rfl t_X2_readTest ⟨Or.inl q_2_96, i_X2_readTest.1, i_X2_readTest.2⟩ ⟨by decide, rfl⟩ (congrArg Prod.fst (J.1.1 95 (2, 6) rfl)) rfl (by decide) rfl rfl ⟨by decide, by decide⟩ (sf_X2_readTest_r95_c2d  hD J qu50 qu51 (by omega) rfl  (fun v58 h ev58 J S53 u54 u55 qu54 qu55 ru54 X56 X57 => ?_))
    have Sm := jSm_tr rfl Sm S53
    try rw [X56] at D
    try rw [X57] at D
    have eu54 := (show 0 ≤ u54.toInt ∧ u54.toInt ≤ 3 from qu54 ▸ jrg_f J sg_68_5_6_1_0_1)
    try rw [vrf qu54] at D
    have eu55 := (show 0 ≤ u55.toInt ∧ u55.toInt ≤ 400 from qu55 ▸ jrg_f J sg_68_3_4_1_0_1)
    try rw [vrf qu55] at D
    show jX m_X2_readPlain 21 0 0 96 [(3, .int v4), (0, .ref 95), (1, .int 1), (2, .int l2)] [.int v58] _ 0 0 _
    refine x_ifeq (tgt := 108) rfl rfl (ti_eq rfl jk_0 ⟨fun c59 => ?_, fun c59 => ?_⟩)
    ·
      rw [if_pos (by omega)] at D
      exact jX.sub jsb_n (ct_X2_readPlain_r95_c1d_108 hD hQ  u55 u54 h (jr_of rfl (by omega)) (jr_of rfl (by omega)) (by omega) qu55 qu54 J Sm D)
    ·
      rw [if_neg (by omega)] at D
      refine x_aloadn (x := 95) rfl rfl ?_
      refine x_bipush (v := 41) rfl kb_41 ?_
      refine x_inv (N := m_X2_readSign) (As := [.int 41]) (b := 95) (st := []) (dx9 := 20) (mc := 0) (ms := 0) (host := "") 2 rfl t_X2_readSign ⟨Or.inl q_2_138, i_X2_readSign.1, i_X2_readSign.2⟩ ⟨by decide, rfl⟩ (congrArg Prod.fst (J.1.1 95 (2, 6) rfl)) rfl (by decide) rfl rfl ⟨by decide, by decide⟩ (jC.of rfl k_X2_readSign rfl ?_)
      show jX m_X2_readSign 20 0 0 0 [(0, .ref 95), (1, .int 41)] [] _ 0 0 _
      refine x_aloadn (x := 95) rfl rfl ?_
      refine z_getR (N := 6) (b := 68) 2 0 rfl f_2_30 rfl J rfl 12160 ⟨rfl, rfl⟩ rfl ?_
      refine x_iloadn (x := 41) rfl rfl ?_
      refine x_inv (N := m_X9_isSign) (As := [.int 41]) (b := 68) (st := []) (dx9 := 1) (mc := 0) (ms := 0) (host := "") 9 rfl t_X9_isSign ⟨Or.inl q_2_55, i_X9_isSign.1, i_X9_isSign.2⟩ ⟨by decide, rfl⟩ (congrArg Prod.fst (J.1.1 68 (9, 6) rfl)) rfl (by decide) rfl rfl ⟨by decide, by decide⟩ (sf_X9_isSign_r68d (jr_of jk_41 (by omega)) hD J qu54 qu55 (by omega) rfl  (fun v65 h ev65 J S60 u61 u62 qu61 qu62 ru61 X63 X64 => ?_))
      have Sm := jSm_tr rfl Sm S60
      try rw [jk_41] at X63
      try rw [X63] at D
      try rw [← X64] at D
      have eu61 := (show 0 ≤ u61.toInt ∧ u61.toInt ≤ 3 from qu61 ▸ jrg_f J sg_68_5_6_1_0_1)
      have Luu61 := congrArg Int32.toInt (((jmc S60 rfl qu54)).symm.trans qu61)
      try rw [Luu61] at D
      try rw [vrf qu61] at D
      have eu62 := (show 0 ≤ u62.toInt ∧ u62.toInt ≤ 400 from qu62 ▸ jrg_f J sg_68_3_4_1_0_1)
      have Luu62 := congrArg Int32.toInt (((jmc S60 rfl qu55)).symm.trans qu62)
      try rw [Luu62] at D
      try rw [vrf qu62] at D
      show jX m_X2_readSign 20 0 0 8 [(0, .ref 95), (1, .int 41)] [.int v65] _ 0 0 _
      refine x_ifne (tgt := 19) rfl rfl (ti_ne rfl jk_0 ⟨fun c66 => ?_, fun c66 => ?_⟩)
      ·
        rw [if_neg (by omega)] at D
        refine x_aloadn (x := 95) rfl rfl ?_
        refine z_getR (N := 6) (b := 68) 2 0 rfl f_2_30 rfl J rfl 12160 ⟨rfl, rfl⟩ rfl ?_
        refine x_inv (N := m_X9_step) (As := []) (b := 68) (st := []) (dx9 := 2) (mc := 0) (ms := 0) (host := "") 9 rfl t_X9_step ⟨Or.inl q_2_62, i_X9_step.1, i_X9_step.2⟩ ⟨by decide, rfl⟩ (congrArg Prod.fst (J.1.1 68 (9, 6) rfl)) rfl (by decide) rfl rfl ⟨by decide, by decide⟩ (sf_X9_step_r68d  hD J qu61 qu62 (by omega) rfl  (fun h J S67 u68 u69 qu68 qu69 ru68 X70 => ?_))
        have Sm := jSm_tr rfl Sm S67
        rw [X70] at D
        have eu68 := (show 0 ≤ u68.toInt ∧ u68.toInt ≤ 3 from qu68 ▸ jrg_f J sg_68_5_6_1_0_1)
        try rw [vrf qu68] at D
        have eu69 := (show 0 ≤ u69.toInt ∧ u69.toInt ≤ 400 from qu69 ▸ jrg_f J sg_68_3_4_1_0_1)
        try rw [vrf qu69] at D
        show jX m_X2_readSign 20 0 0 26 [(0, .ref 95), (1, .int 41)] [] _ 0 0 _
        refine x_iconst (v := 1) rfl ki_1 ?_
        refine x_zret rfl rfl (by decide) ?_
        show jX m_X2_readPlain 21 0 0 105 [(3, .int v4), (0, .ref 95), (1, .int 1), (2, .int l2)] [.int 1] _ 0 0 _
        refine x_ifne (tgt := 229) rfl rfl (ti_ne jk_1 jk_0 (bn_t (by omega) ?_))
        exact jX.sub (jsb_c rfl (jsb_c rfl jsb_n)) (ct_X2_readPlain_r95_c1d_229 hD hQ  l2 u69 u68 h (jr_of rfl (by omega)) (jr_of rfl (by omega)) (jr_of rfl (by omega)) (by omega) qu69 qu68 J Sm D)
      ·
        rw [if_pos (by omega)] at D
        refine x_aloadn (x := 95) rfl rfl ?_
        refine z_getR (N := 6) (b := 68) 2 0 rfl f_2_30 rfl J rfl 12160 ⟨rfl, rfl⟩ rfl ?_
        refine x_inv (N := m_X9_blame) (As := []) (b := 68) (st := []) (dx9 := 19) (mc := 0) (ms := 0) (host := "") 9 rfl t_X9_blame ⟨Or.inl q_2_59, i_X9_blame.1, i_X9_blame.2⟩ ⟨by decide, rfl⟩ (congrArg Prod.fst (J.1.1 68 (9, 6) rfl)) rfl (by decide) rfl rfl ⟨by decide, by decide⟩ (jC.of rfl k_X9_blame rfl ?_)
        show jX m_X9_blame 19 0 0 0 [(0, .ref 68)] [] _ 0 0 _
        refine x_aloadn (x := 68) rfl rfl ?_
        refine x_aloadn (x := 68) rfl rfl ?_
        refine z_getM (N := 6) (v := u62) 9 3 rfl f_9_22 rfl J rfl qu62 ?_
        refine z_putI (N := 6) (w := u62.toInt) 9 2 rfl f_9_19 rfl (jfin_no TX9 RX9 6 rfl rfl) hD J Sm rfl rfl rfl (pw_68_2 (by omega)) rfl (fun h w71 J Sm => ?_)
        rw [vwf w71 (show u62.toInt = u62.toInt from by omega)] at D
        refine x_iconst (v := 0) rfl ki_0 ?_
        refine x_zret rfl rfl (by decide) ?_
        show jX m_X2_readSign 20 0 0 18 [(0, .ref 95), (1, .int 41)] [.int 0] _ 0 0 _
        refine x_zret rfl rfl (by decide) ?_
        show jX m_X2_readPlain 21 0 0 105 [(3, .int v4), (0, .ref 95), (1, .int 1), (2, .int l2)] [.int 0] _ 0 0 _
        refine x_ifne (tgt := 229) rfl rfl (ti_ne jk_0 jk_0 (bn_f (by omega) ?_))
        exact jX.sub jsb_n (ct_X2_readPlain_r95_c1d_108 hD hQ  u62 u61 h (jr_of rfl (by omega)) (jr_of rfl (by omega)) (by omega) (jmo w71 rfl qu62) (jmo w71 rfl qu61) J Sm D)
set_option maxRecDepth 100000 in
set_option maxHeartbeats 4000000 in
theorem ct_X2_readPlain_r95_c1d_300032 {Dy : jH → Prop} {h0 : jH} {Q : Option Value → jH → Prop} {dr : (Int × jW)} {K4 : Int → Int → jW → (Int × jW)} {R4 : Int} (hD : jDk Dy) (hQ : ∀ (v : Int32) hx9, 0 ≤ v.toInt ∧ v.toInt ≤ 1 → jJ jSgX Dy hx9 → jSm fp_X2_readPlain_r95_c1d h0 hx9 → ∀ u0 u1 : Int32, jiv hx9 68 5 = u0 → jiv hx9 68 3 = u1 → (u0.toInt ≠ 3 ∨ u1.toInt ≤ 399) → dr.1 = v.toInt → dr.2 = vw hx9 → Q (some (.int v)) hx9) (k4 : ∀ (l2 : Int32) (l3 : Int32) (g0 : Int32) (g1 : Int32) (h : jH), 400 - l3.toInt < R4 → 0 ≤ l2.toInt ∧ l2.toInt ≤ 1 → 0 ≤ l3.toInt ∧ l3.toInt ≤ 400 → 0 ≤ g0.toInt ∧ g0.toInt ≤ 400 → 0 ≤ g1.toInt ∧ g1.toInt ≤ 3 → (g1.toInt ≠ 3 ∨ g0.toInt ≤ 399) → jiv h 68 3 = g0 → jiv h 68 5 = g1 → jJ jSgX Dy h → jSm fp_X2_readPlain_r95_c1d h0 h → K4 l2.toInt l3.toInt (vw h) = dr → jX m_X2_readPlain 21 0 0 4 [(0, .ref 95), (1, .int 1), (2, .int l2), (3, .int l3)] [] h 0 0 Q) : ∀ (l3 : Int32) (g0 : Int32) (g1 : Int32) (h : jH), 0 ≤ l3.toInt ∧ l3.toInt ≤ 399 → 0 ≤ g0.toInt ∧ g0.toInt ≤ 400 → 0 ≤ g1.toInt ∧ g1.toInt ≤ 3 → (g1.toInt ≠ 3 ∨ g0.toInt ≤ 399) → jiv h 68 3 = g0 → jiv h 68 5 = g1 → 400 - l3.toInt ≤ R4 → jJ jSgX Dy h → jSm fp_X2_readPlain_r95_c1d h0 h → d_X2_readPlain_r95_c1d_300032 K4  l3.toInt (vw h) = dr → jX m_X2_readPlain 21 0 0 32 [(0, .ref 95), (1, .int 1), (3, .int l3)] [.int 1] h 0 0 Q := by
  intro l3 g0 g1 h y0 y1 y2 y3 z0 z1 m4 J Sm D
  unfold d_X2_readPlain_r95_c1d_300032 at D
  try rw [vrf z0] at D
  try rw [vrf z1] at D
  refine x_istoren (lsx9 := [(2, .int 1), (0, .ref 95), (1, .int 1), (3, .int l3)]) rfl rfl rfl ?_
  refine x_aloadn (x := 95) rfl rfl ?_
  refine z_getR (N := 6) (b := 68) 2 0 rfl f_2_30 rfl J rfl 12160 ⟨rfl, rfl⟩ rfl ?_
  refine x_inv (N := m_X9_step) (As := []) (b := 68) (st := []) (dx9 := 2) (mc := 0) (ms := 0) (host := "") 9 rfl t_X9_step ⟨Or.inl q_2_62, i_X9_step.1, i_X9_step.2⟩ ⟨by decide, rfl⟩ (congrArg Prod.fst (J.1.1 68 (9, 6) rfl)) rfl (by decide) rfl rfl ⟨by decide, by decide⟩ (sf_X9_step_r68d  hD J z1 z0 (by omega) rfl  (fun h J S1 u2 u3 qu2 qu3 ru2 X4 => ?_))
  have Sm := jSm_tr rfl Sm S1
  rw [X4] at D
  have eu2 := (show 0 ≤ u2.toInt ∧ u2.toInt ≤ 3 from qu2 ▸ jrg_f J sg_68_5_6_1_0_1)
  try rw [vrf qu2] at D
  have eu3 := (show 0 ≤ u3.toInt ∧ u3.toInt ≤ 400 from qu3 ▸ jrg_f J sg_68_3_4_1_0_1)
  try rw [vrf qu3] at D
  show jX m_X2_readPlain 21 0 0 40 [(2, .int 1), (0, .ref 95), (1, .int 1), (3, .int l3)] [] _ 0 0 _
  refine z_iinc (x := l3) (lsx9 := fun v5 => [(3, .int v5), (2, .int 1), (0, .ref 95), (1, .int 1)]) rfl rfl rfl jko_1 (by omega) rfl (fun _ => rfl) (fun v5 ev5 => ?_)
  refine x_goto (tgt := 4) rfl rfl ?_
  try rw [show (l3.toInt + 1) = v5.toInt from by omega] at D
  exact jX.sub (jsb_c rfl (jsb_c rfl (jsb_c rfl (jsb_c rfl jsb_n)))) (k4 1 v5 u3 u2 h (by omega) (jr_of jk_1 (by omega)) (jr_of rfl (by omega)) (jr_of rfl (by omega)) (jr_of rfl (by omega)) (by omega) qu3 qu2 J Sm (by rw [jk_1]; exact D))
set_option maxRecDepth 100000 in
set_option maxHeartbeats 4000000 in
theorem ct_X2_readPlain_r95_c1d_200032 {Dy : jH → Prop} {h0 : jH} {Q : Option Value → jH → Prop} {dr : (Int × jW)} {K4 : Int → Int → jW → (Int × jW)} {R4 : Int} (hD : jDk Dy) (hQ : ∀ (v : Int32) hx9, 0 ≤ v.toInt ∧ v.toInt ≤ 1 → jJ jSgX Dy hx9 → jSm fp_X2_readPlain_r95_c1d h0 hx9 → ∀ u0 u1 : Int32, jiv hx9 68 5 = u0 → jiv hx9 68 3 = u1 → (u0.toInt ≠ 3 ∨ u1.toInt ≤ 399) → dr.1 = v.toInt → dr.2 = vw hx9 → Q (some (.int v)) hx9) (k4 : ∀ (l2 : Int32) (l3 : Int32) (g0 : Int32) (g1 : Int32) (h : jH), 400 - l3.toInt < R4 → 0 ≤ l2.toInt ∧ l2.toInt ≤ 1 → 0 ≤ l3.toInt ∧ l3.toInt ≤ 400 → 0 ≤ g0.toInt ∧ g0.toInt ≤ 400 → 0 ≤ g1.toInt ∧ g1.toInt ≤ 3 → (g1.toInt ≠ 3 ∨ g0.toInt ≤ 399) → jiv h 68 3 = g0 → jiv h 68 5 = g1 → jJ jSgX Dy h → jSm fp_X2_readPlain_r95_c1d h0 h → K4 l2.toInt l3.toInt (vw h) = dr → jX m_X2_readPlain 21 0 0 4 [(0, .ref 95), (1, .int 1), (2, .int l2), (3, .int l3)] [] h 0 0 Q) : ∀ (l3 : Int32) (g0 : Int32) (g1 : Int32) (h : jH), 0 ≤ l3.toInt ∧ l3.toInt ≤ 399 → 0 ≤ g0.toInt ∧ g0.toInt ≤ 400 → 0 ≤ g1.toInt ∧ g1.toInt ≤ 3 → (g1.toInt ≠ 3 ∨ g0.toInt ≤ 399) → jiv h 68 3 = g0 → jiv h 68 5 = g1 → 400 - l3.toInt ≤ R4 → jJ jSgX Dy h → jSm fp_X2_readPlain_r95_c1d h0 h → d_X2_readPlain_r95_c1d_200032 K4  l3.toInt (vw h) = dr → jX m_X2_readPlain 21 0 0 32 [(0, .ref 95), (1, .int 1), (3, .int l3)] [.int 0] h 0 0 Q := by
  intro l3 g0 g1 h y0 y1 y2 y3 z0 z1 m4 J Sm D
  unfold d_X2_readPlain_r95_c1d_200032 at D
  try rw [vrf z0] at D
  try rw [vrf z1] at D
  refine x_istoren (lsx9 := [(2, .int 0), (0, .ref 95), (1, .int 1), (3, .int l3)]) rfl rfl rfl ?_
  refine x_aloadn (x := 95) rfl rfl ?_
  refine z_getR (N := 6) (b := 68) 2 0 rfl f_2_30 rfl J rfl 12160 ⟨rfl, rfl⟩ rfl ?_
  refine x_inv (N := m_X9_step) (As := []) (b := 68) (st := []) (dx9 := 2) (mc := 0) (ms := 0) (host := "") 9 rfl t_X9_step ⟨Or.inl q_2_62, i_X9_step.1, i_X9_step.2⟩ ⟨by decide, rfl⟩ (congrArg Prod.fst (J.1.1 68 (9, 6) rfl)) rfl (by decide) rfl rfl ⟨by decide, by decide⟩ (sf_X9_step_r68d  hD J z1 z0 (by omega) rfl  (fun h J S1 u2 u3 qu2 qu3 ru2 X4 => ?_))
  have Sm := jSm_tr rfl Sm S1
  rw [X4] at D
  have eu2 := (show 0 ≤ u2.toInt ∧ u2.toInt ≤ 3 from qu2 ▸ jrg_f J sg_68_5_6_1_0_1)
  try rw [vrf qu2] at D
  have eu3 := (show 0 ≤ u3.toInt ∧ u3.toInt ≤ 400 from qu3 ▸ jrg_f J sg_68_3_4_1_0_1)
  try rw [vrf qu3] at D
  show jX m_X2_readPlain 21 0 0 40 [(2, .int 0), (0, .ref 95), (1, .int 1), (3, .int l3)] [] _ 0 0 _
  refine z_iinc (x := l3) (lsx9 := fun v5 => [(3, .int v5), (2, .int 0), (0, .ref 95), (1, .int 1)]) rfl rfl rfl jko_1 (by omega) rfl (fun _ => rfl) (fun v5 ev5 => ?_)
  refine x_goto (tgt := 4) rfl rfl ?_
  try rw [show (l3.toInt + 1) = v5.toInt from by omega] at D
  exact jX.sub (jsb_c rfl (jsb_c rfl (jsb_c rfl (jsb_c rfl jsb_n)))) (k4 0 v5 u3 u2 h (by omega) (jr_of jk_0 (by omega)) (jr_of rfl (by omega)) (jr_of rfl (by omega)) (jr_of rfl (by omega)) (by omega) qu3 qu2 J Sm (by rw [jk_0]; exact D))
set_option maxRecDepth 100000 in
set_option maxHeartbeats 4000000 in
theorem ct_X2_readPlain_r95_c1d_4 {Dy : jH → Prop} {h0 : jH} {Q : Option Value → jH → Prop} {dr : (Int × jW)} (hD : jDk Dy) (hQ : ∀ (v : Int32) hx9, 0 ≤ v.toInt ∧ v.toInt ≤ 1 → jJ jSgX Dy hx9 → jSm fp_X2_readPlain_r95_c1d h0 hx9 → ∀ u0 u1 : Int32, jiv hx9 68 5 = u0 → jiv hx9 68 3 = u1 → (u0.toInt ≠ 3 ∨ u1.toInt ≤ 399) → dr.1 = v.toInt → dr.2 = vw hx9 → Q (some (.int v)) hx9) : ∀ r : Nat, ∀ (l2 : Int32) (l3 : Int32) (g0 : Int32) (g1 : Int32) (h : jH), 400 - l3.toInt < (r : Int) → 0 ≤ l2.toInt ∧ l2.toInt ≤ 1 → 0 ≤ l3.toInt ∧ l3.toInt ≤ 400 → 0 ≤ g0.toInt ∧ g0.toInt ≤ 400 → 0 ≤ g1.toInt ∧ g1.toInt ≤ 3 → (g1.toInt ≠ 3 ∨ g0.toInt ≤ 399) → jiv h 68 3 = g0 → jiv h 68 5 = g1 → jJ jSgX Dy h → jSm fp_X2_readPlain_r95_c1d h0 h → d_X2_readPlain_r95_c1d_4 r l2.toInt l3.toInt (vw h) = dr → jX m_X2_readPlain 21 0 0 4 [(0, .ref 95), (1, .int 1), (2, .int l2), (3, .int l3)] [] h 0 0 Q := by
  intro r
  induction r with
  | zero =>
    intro l2 l3 g0 g1 h hm y0 y1 y2 y3 y4 z0 z1  J Sm D
    exfalso
    omega
  | succ r ih =>
    intro l2 l3 g0 g1 h hm y0 y1 y2 y3 y4 z0 z1  J Sm D
    rw [d_X2_readPlain_r95_c1d_4.eq_2] at D
    try rw [vrf z0] at D
    try rw [vrf z1] at D
    refine x_iloadn (x := l3) rfl rfl ?_
    refine x_sipush (v := 400) rfl ks_400 ?_
    refine x_icge (tgt := 46) rfl rfl (ti_ge rfl jk_400 ⟨fun c1 => ?_, fun c1 => ?_⟩)
    ·
      rw [if_pos (by omega)] at D
      exact jX.sub (jsb_c rfl (jsb_c rfl (jsb_c rfl jsb_n))) (ct_X2_readPlain_r95_c1d_46 hD hQ  l2 g0 g1 h (jr_of rfl (by omega)) (jr_of rfl (by omega)) (jr_of rfl (by omega)) (by omega) z0 z1 J Sm D)
    ·
      rw [if_neg (by omega)] at D
      refine x_aloadn (x := 95) rfl rfl ?_
      refine z_getR (N := 6) (b := 68) 2 0 rfl f_2_30 rfl J rfl 12160 ⟨rfl, rfl⟩ rfl ?_
      refine x_ldcS (jstr.getD 9 jstr_0) rfl (List.mem_of_getElem? (i := 9) rfl) rfl rfl ?_
      show jX m_X2_readPlain 21 0 0 17 [(0, .ref 95), (1, .int 1), (2, .int l2), (3, .int l3)] [.ref 14, .ref 68] _ 0 0 _
      refine x_inv (N := m_X9_wordOf) (As := [.ref 14]) (b := 68) (st := []) (dx9 := 4) (mc := 0) (ms := 0) (host := "") 9 rfl t_X9_wordOf ⟨Or.inl q_2_67, i_X9_wordOf.1, i_X9_wordOf.2⟩ ⟨by decide, rfl⟩ (congrArg Prod.fst (J.1.1 68 (9, 6) rfl)) rfl (by decide) rfl rfl ⟨by decide, by decide⟩ (sf_X9_wordOf_r68_r14d  hD J rfl  (fun v5 h J S2 X3 X4 => ?_))
      have ev5 := jfull v5
      have Sm := jSm_tr rfl Sm S2
      try rw [X3] at D
      try rw [← X4] at D
      show jX m_X2_readPlain 21 0 0 20 [(0, .ref 95), (1, .int 1), (2, .int l2), (3, .int l3)] [.int v5] _ 0 0 _
      refine x_ifne (tgt := 46) rfl rfl (ti_ne rfl jk_0 ⟨fun c6 => ?_, fun c6 => ?_⟩)
      ·
        rw [if_neg (by omega)] at D
        exact jX.sub (jsb_c rfl (jsb_c rfl (jsb_c rfl jsb_n))) (ct_X2_readPlain_r95_c1d_46 hD hQ  l2 g0 g1 h (jr_of rfl (by omega)) (jr_of rfl (by omega)) (jr_of rfl (by omega)) (by omega) (jmc S2 rfl z0) (jmc S2 rfl z1) J Sm D)
      ·
        rw [if_pos (by omega)] at D
        refine x_iloadn (x := l2) rfl rfl ?_
        refine x_ifne (tgt := 31) rfl rfl (ti_ne rfl jk_0 ⟨fun c7 => ?_, fun c7 => ?_⟩)
        ·
          rw [if_neg (by omega)] at D
          refine x_iconst (v := 0) rfl ki_0 ?_
          exact jX.sub (jsb_c rfl (jsb_c rfl (jsb_c rfl jsb_n))) (ct_X2_readPlain_r95_c1d_200032 hD hQ ih l3 g0 g1 h (jr_of rfl (by omega)) (jr_of rfl (by omega)) (jr_of rfl (by omega)) (by omega) (jmc S2 rfl z0) (jmc S2 rfl z1) (by omega) J Sm D)
        ·
          rw [if_pos (by omega)] at D
          refine x_iconst (v := 1) rfl ki_1 ?_
          refine x_goto (tgt := 32) rfl rfl ?_
          exact jX.sub (jsb_c rfl (jsb_c rfl (jsb_c rfl jsb_n))) (ct_X2_readPlain_r95_c1d_300032 hD hQ ih l3 g0 g1 h (jr_of rfl (by omega)) (jr_of rfl (by omega)) (jr_of rfl (by omega)) (by omega) (jmc S2 rfl z0) (jmc S2 rfl z1) (by omega) J Sm D)
set_option maxRecDepth 100000 in
set_option maxHeartbeats 4000000 in
theorem sf_X2_readPlain_r95_c1d {Dy : jH → Prop} {h : jH} {Q : Option Value → jH → Prop} {dr : (Int × jW)} (hD : jDk Dy) (J : jJ jSgX Dy h) {p0 p1 : Int32} (zp0 : jiv h 68 5 = p0) (zp1 : jiv h 68 3 = p1) (rl_p0 : (p0.toInt ≠ 3 ∨ p1.toInt ≤ 399)) (D : d_X2_readPlain_r95_c1d (vw h) = dr) (hQ : ∀ (v : Int32) hx9, 0 ≤ v.toInt ∧ v.toInt ≤ 1 → jJ jSgX Dy hx9 → jSm fp_X2_readPlain_r95_c1d h hx9 → ∀ u0 u1 : Int32, jiv hx9 68 5 = u0 → jiv hx9 68 3 = u1 → (u0.toInt ≠ 3 ∨ u1.toInt ≤ 399) → dr.1 = v.toInt → dr.2 = vw hx9 → Q (some (.int v)) hx9) : jC m_X2_readPlain 21 0 0 [.ref 95, .int 1] h Q := by
  refine jC.of rfl k_X2_readPlain rfl ?_
  have Sm := jSm_rf fp_X2_readPlain_r95_c1d h
  have ep0 := (show 0 ≤ p0.toInt ∧ p0.toInt ≤ 3 from zp0 ▸ jrg_f J sg_68_5_6_1_0_1)
  have ep1 := (show 0 ≤ p1.toInt ∧ p1.toInt ≤ 400 from zp1 ▸ jrg_f J sg_68_3_4_1_0_1)
  show jX m_X2_readPlain 21 0 0 0 [(0, .ref 95), (1, .int 1)] [] _ 0 0 _
  unfold d_X2_readPlain_r95_c1d at D
  try rw [vrf zp0] at D
  try rw [vrf zp1] at D
  refine x_iconst (v := 0) rfl ki_0 ?_
  refine x_istoren (lsx9 := [(2, .int 0), (0, .ref 95), (1, .int 1)]) rfl rfl rfl ?_
  refine x_iconst (v := 0) rfl ki_0 ?_
  refine x_istoren (lsx9 := [(3, .int 0), (2, .int 0), (0, .ref 95), (1, .int 1)]) rfl rfl rfl ?_
  exact jX.sub (jsb_c rfl (jsb_c rfl (jsb_c rfl (jsb_c rfl jsb_n)))) (ct_X2_readPlain_r95_c1d_4 hD hQ  401 0 0 p1 p0 h (by have := jk_0; omega) (jr_of jk_0 (by omega)) (jr_of jk_0 (by omega)) (jr_of rfl (by omega)) (jr_of rfl (by omega)) (by omega) zp1 zp0 J Sm (by rw [jk_0]; exact D))
def fp_X2_readTest_r95_c1d : jFp := [(68, 2, 3), (68, 3, 4), (68, 4, 5), (68, 5, 6), (95, 4, 5), (95, 5, 6), (97, 0, 1200)]
set_option maxRecDepth 100000 in
set_option maxHeartbeats 4000000 in
theorem ct_X2_readTest_r95_c1d_77 {Dy : jH → Prop} {h0 : jH} {Q : Option Value → jH → Prop} {dr : (Int × jW)} {K4 : Int → Int → jW → (Int × jW)} {R4 : Int} (hD : jDk Dy) (hQ : ∀ (v : Int32) hx9, 0 ≤ v.toInt ∧ v.toInt ≤ 1 → jJ jSgX Dy hx9 → jSm fp_X2_readTest_r95_c1d h0 hx9 → ∀ u0 u1 : Int32, jiv hx9 68 5 = u0 → jiv hx9 68 3 = u1 → (u0.toInt ≠ 3 ∨ u1.toInt ≤ 399) → dr.1 = v.toInt → dr.2 = vw hx9 → Q (some (.int v)) hx9) (k4 : ∀ (l2 : Int32) (l3 : Int32) (g0 : Int32) (g1 : Int32) (h : jH), 400 - l3.toInt < R4 → (-1) ≤ l2.toInt ∧ l2.toInt ≤ 1199 → 0 ≤ l3.toInt ∧ l3.toInt ≤ 400 → 0 ≤ g0.toInt ∧ g0.toInt ≤ 400 → 0 ≤ g1.toInt ∧ g1.toInt ≤ 3 → (g1.toInt ≠ 3 ∨ g0.toInt ≤ 399) → jiv h 68 3 = g0 → jiv h 68 5 = g1 → jJ jSgX Dy h → jSm fp_X2_readTest_r95_c1d h0 h → K4 l2.toInt l3.toInt (vw h) = dr → jX m_X2_readTest 22 0 0 4 [(0, .ref 95), (1, .int 1), (2, .int l2), (3, .int l3)] [] h 0 0 Q) : ∀ (l2 : Int32) (l3 : Int32) (g0 : Int32) (g1 : Int32) (h : jH), (-1) ≤ l2.toInt ∧ l2.toInt ≤ 1199 → 0 ≤ l3.toInt ∧ l3.toInt ≤ 399 → 0 ≤ g0.toInt ∧ g0.toInt ≤ 400 → 0 ≤ g1.toInt ∧ g1.toInt ≤ 3 → (g1.toInt ≠ 3 ∨ g0.toInt ≤ 399) → jiv h 68 3 = g0 → jiv h 68 5 = g1 → 400 - l3.toInt ≤ R4 → jJ jSgX Dy h → jSm fp_X2_readTest_r95_c1d h0 h → d_X2_readTest_r95_c1d_77 K4  l2.toInt l3.toInt (vw h) = dr → jX m_X2_readTest 22 0 0 77 [(0, .ref 95), (1, .int 1), (2, .int l2), (3, .int l3)] [] h 0 0 Q := by
  intro l2 l3 g0 g1 h y0 y1 y2 y3 y4 z0 z1 m4 J Sm D
  unfold d_X2_readTest_r95_c1d_77 at D
  try rw [vrf z0] at D
  try rw [vrf z1] at D
  refine x_aloadn (x := 95) rfl rfl ?_
  refine x_iloadn (x := l2) rfl rfl ?_
  refine x_inv (N := m_X2_land) (As := [.int l2]) (b := 95) (st := []) (dx9 := 1) (mc := 0) (ms := 0) (host := "") 2 rfl t_X2_land ⟨Or.inl q_2_124, i_X2_land.1, i_X2_land.2⟩ ⟨by decide, rfl⟩ (congrArg Prod.fst (J.1.1 95 (2, 6) rfl)) rfl (by decide) rfl rfl ⟨by decide, by decide⟩ (sf_X2_land_r95d (jr_of rfl (by omega)) hD J rfl  (fun h J S1 X2 => ?_))
  have Sm := jSm_tr rfl Sm S1
  rw [X2] at D
  show jX m_X2_readTest 22 0 0 82 [(0, .ref 95), (1, .int 1), (2, .int l2), (3, .int l3)] [] _ 0 0 _
  refine x_aloadn (x := 95) rfl rfl ?_
  refine z_getR (N := 6) (b := 68) 2 0 rfl f_2_30 rfl J rfl 12160 ⟨rfl, rfl⟩ rfl ?_
  refine x_ldcS (jstr.getD 12 jstr_0) rfl (List.mem_of_getElem? (i := 12) rfl) rfl rfl ?_
  show jX m_X2_readTest 22 0 0 88 [(0, .ref 95), (1, .int 1), (2, .int l2), (3, .int l3)] [.ref 17, .ref 68] _ 0 0 _
  refine x_inv (N := m_X9_wordOf) (As := [.ref 17]) (b := 68) (st := []) (dx9 := 4) (mc := 0) (ms := 0) (host := "") 9 rfl t_X9_wordOf ⟨Or.inl q_2_67, i_X9_wordOf.1, i_X9_wordOf.2⟩ ⟨by decide, rfl⟩ (congrArg Prod.fst (J.1.1 68 (9, 6) rfl)) rfl (by decide) rfl rfl ⟨by decide, by decide⟩ (sf_X9_wordOf_r68_r17d  hD J rfl  (fun v6 h J S3 X4 X5 => ?_))
  have ev6 := jfull v6
  have Sm := jSm_tr rfl Sm S3
  try rw [X4] at D
  try rw [← X5] at D
  show jX m_X2_readTest 22 0 0 91 [(0, .ref 95), (1, .int 1), (2, .int l2), (3, .int l3)] [.int v6] _ 0 0 _
  refine x_ifeq (tgt := 96) rfl rfl (ti_eq rfl jk_0 ⟨fun c7 => ?_, fun c7 => ?_⟩)
  ·
    rw [if_pos (by omega)] at D
    refine x_aloadn (x := 95) rfl rfl ?_
    refine x_bipush (v := 11) rfl kb_11 ?_
    refine x_inv (N := m_X2_leap) (As := [.int 11]) (b := 95) (st := []) (dx9 := 2) (mc := 0) (ms := 0) (host := "") 2 rfl t_X2_leap ⟨Or.inl q_2_129, i_X2_leap.1, i_X2_leap.2⟩ ⟨by decide, rfl⟩ (congrArg Prod.fst (J.1.1 95 (2, 6) rfl)) rfl (by decide) rfl rfl ⟨by decide, by decide⟩ (sf_X2_leap_r95d (jr_of jk_11 (by omega)) hD J rfl  (fun v11 h ev11 J S8 X9 X10 => ?_))
    have Sm := jSm_tr rfl Sm S8
    try rw [jk_11] at X9
    try rw [jk_11] at X10
    try rw [X9] at D
    try rw [X10] at D
    show jX m_X2_readTest 22 0 0 102 [(0, .ref 95), (1, .int 1), (2, .int l2), (3, .int l3)] [.int v11] _ 0 0 _
    refine x_istoren (lsx9 := [(2, .int v11), (0, .ref 95), (1, .int 1), (3, .int l3)]) rfl rfl rfl ?_
    refine x_aloadn (x := 95) rfl rfl ?_
    refine z_getR (N := 6) (b := 68) 2 0 rfl f_2_30 rfl J rfl 12160 ⟨rfl, rfl⟩ rfl ?_
    refine x_inv (N := m_X9_step) (As := []) (b := 68) (st := []) (dx9 := 2) (mc := 0) (ms := 0) (host := "") 9 rfl t_X9_step ⟨Or.inl q_2_62, i_X9_step.1, i_X9_step.2⟩ ⟨by decide, rfl⟩ (congrArg Prod.fst (J.1.1 68 (9, 6) rfl)) rfl (by decide) rfl rfl ⟨by decide, by decide⟩ (sf_X9_step_r68d  hD J (jmc S8 rfl (jmc S3 rfl (jmc S1 rfl z1))) (jmc S8 rfl (jmc S3 rfl (jmc S1 rfl z0))) (by omega) rfl  (fun h J S12 u13 u14 qu13 qu14 ru13 X15 => ?_))
    have Sm := jSm_tr rfl Sm S12
    rw [X15] at D
    have eu13 := (show 0 ≤ u13.toInt ∧ u13.toInt ≤ 3 from qu13 ▸ jrg_f J sg_68_5_6_1_0_1)
    try rw [vrf qu13] at D
    have eu14 := (show 0 ≤ u14.toInt ∧ u14.toInt ≤ 400 from qu14 ▸ jrg_f J sg_68_3_4_1_0_1)
    try rw [vrf qu14] at D
    show jX m_X2_readTest 22 0 0 110 [(2, .int v11), (0, .ref 95), (1, .int 1), (3, .int l3)] [] _ 0 0 _
    refine z_iinc (x := l3) (lsx9 := fun v16 => [(3, .int v16), (2, .int v11), (0, .ref 95), (1, .int 1)]) rfl rfl rfl jko_1 (by omega) rfl (fun _ => rfl) (fun v16 ev16 => ?_)
    refine x_goto (tgt := 4) rfl rfl ?_
    try rw [show (l3.toInt + 1) = v16.toInt from by omega] at D
    exact jX.sub (jsb_c rfl (jsb_c rfl (jsb_c rfl (jsb_c rfl jsb_n)))) (k4 v11 v16 u14 u13 h (by omega) (jr_of rfl (by omega)) (jr_of rfl (by omega)) (jr_of rfl (by omega)) (jr_of rfl (by omega)) (by omega) qu14 qu13 J Sm D)
  ·
    rw [if_neg (by omega)] at D
    refine x_iconst (v := 1) rfl ki_1 ?_
    refine x_zret rfl rfl (by decide) ?_
    exact hQ _ _ (jr_of jk_1 (by omega)) J Sm _ _ (jmc S3 rfl (jmc S1 rfl z1)) (jmc S3 rfl (jmc S1 rfl z0)) (by omega) ((congrArg Prod.fst D).symm.trans (show 1 = (1 : Int32).toInt from by have := jk_1; omega)) (congrArg Prod.snd D).symm
set_option maxRecDepth 100000 in
set_option maxHeartbeats 4000000 in
theorem ct_X2_readTest_r95_c1d_17 {Dy : jH → Prop} {h0 : jH} {Q : Option Value → jH → Prop} {dr : (Int × jW)} {K4 : Int → Int → jW → (Int × jW)} {R4 : Int} (hD : jDk Dy) (hQ : ∀ (v : Int32) hx9, 0 ≤ v.toInt ∧ v.toInt ≤ 1 → jJ jSgX Dy hx9 → jSm fp_X2_readTest_r95_c1d h0 hx9 → ∀ u0 u1 : Int32, jiv hx9 68 5 = u0 → jiv hx9 68 3 = u1 → (u0.toInt ≠ 3 ∨ u1.toInt ≤ 399) → dr.1 = v.toInt → dr.2 = vw hx9 → Q (some (.int v)) hx9) (k4 : ∀ (l2 : Int32) (l3 : Int32) (g0 : Int32) (g1 : Int32) (h : jH), 400 - l3.toInt < R4 → (-1) ≤ l2.toInt ∧ l2.toInt ≤ 1199 → 0 ≤ l3.toInt ∧ l3.toInt ≤ 400 → 0 ≤ g0.toInt ∧ g0.toInt ≤ 400 → 0 ≤ g1.toInt ∧ g1.toInt ≤ 3 → (g1.toInt ≠ 3 ∨ g0.toInt ≤ 399) → jiv h 68 3 = g0 → jiv h 68 5 = g1 → jJ jSgX Dy h → jSm fp_X2_readTest_r95_c1d h0 h → K4 l2.toInt l3.toInt (vw h) = dr → jX m_X2_readTest 22 0 0 4 [(0, .ref 95), (1, .int 1), (2, .int l2), (3, .int l3)] [] h 0 0 Q) : ∀ r : Nat, ∀ (l2 : Int32) (l3 : Int32) (l4 : Int32) (l5 : Int32) (g0 : Int32) (g1 : Int32) (h : jH), 400 - l5.toInt < (r : Int) → (-1) ≤ l2.toInt ∧ l2.toInt ≤ 1199 → 0 ≤ l3.toInt ∧ l3.toInt ≤ 399 → (-1) ≤ l4.toInt ∧ l4.toInt ≤ 1199 → 0 ≤ l5.toInt ∧ l5.toInt ≤ 400 → 0 ≤ g0.toInt ∧ g0.toInt ≤ 400 → 0 ≤ g1.toInt ∧ g1.toInt ≤ 3 → (g1.toInt ≠ 3 ∨ g0.toInt ≤ 399) → jiv h 68 3 = g0 → jiv h 68 5 = g1 → 400 - l3.toInt ≤ R4 → jJ jSgX Dy h → jSm fp_X2_readTest_r95_c1d h0 h → d_X2_readTest_r95_c1d_17 K4 r l2.toInt l3.toInt l4.toInt l5.toInt (vw h) = dr → jX m_X2_readTest 22 0 0 17 [(0, .ref 95), (1, .int 1), (2, .int l2), (3, .int l3), (4, .int l4), (5, .int l5)] [] h 0 0 Q := by
  intro r
  induction r with
  | zero =>
    intro l2 l3 l4 l5 g0 g1 h hm y0 y1 y2 y3 y4 y5 y6 z0 z1 m4 J Sm D
    exfalso
    omega
  | succ r ih =>
    intro l2 l3 l4 l5 g0 g1 h hm y0 y1 y2 y3 y4 y5 y6 z0 z1 m4 J Sm D
    rw [d_X2_readTest_r95_c1d_17.eq_2] at D
    try rw [vrf z0] at D
    try rw [vrf z1] at D
    refine x_iload (x := l5) rfl rfl ?_
    refine x_sipush (v := 400) rfl ks_400 ?_
    refine x_icge (tgt := 77) rfl rfl (ti_ge rfl jk_400 ⟨fun c1 => ?_, fun c1 => ?_⟩)
    ·
      rw [if_pos (by omega)] at D
      exact jX.sub (jsb_c rfl (jsb_c rfl (jsb_c rfl (jsb_c rfl jsb_n)))) (ct_X2_readTest_r95_c1d_77 hD hQ k4 l2 l3 g0 g1 h (jr_of rfl (by omega)) (jr_of rfl (by omega)) (jr_of rfl (by omega)) (jr_of rfl (by omega)) (by omega) z0 z1 (by omega) J Sm D)
    ·
      rw [if_neg (by omega)] at D
      refine x_aloadn (x := 95) rfl rfl ?_
      refine x_iloadn (x := 1) rfl rfl ?_
      refine x_inv (N := m_X2_readPlain) (As := [.int 1]) (b := 95) (st := []) (dx9 := 21) (mc := 0) (ms := 0) (host := "") 2 rfl t_X2_readPlain ⟨Or.inl q_2_121, i_X2_readPlain.1, i_X2_readPlain.2⟩ ⟨by decide, rfl⟩ (congrArg Prod.fst (J.1.1 95 (2, 6) rfl)) rfl (by decide) rfl rfl ⟨by decide, by decide⟩ (sf_X2_readPlain_r95_c1d  hD J z1 z0 (by omega) rfl  (fun v7 h ev7 J S2 u3 u4 qu3 qu4 ru3 X5 X6 => ?_))
      have Sm := jSm_tr rfl Sm S2
      try rw [X5] at D
      try rw [X6] at D
      have eu3 := (show 0 ≤ u3.toInt ∧ u3.toInt ≤ 3 from qu3 ▸ jrg_f J sg_68_5_6_1_0_1)
      try rw [vrf qu3] at D
      have eu4 := (show 0 ≤ u4.toInt ∧ u4.toInt ≤ 400 from qu4 ▸ jrg_f J sg_68_3_4_1_0_1)
      try rw [vrf qu4] at D
      show jX m_X2_readTest 22 0 0 30 [(0, .ref 95), (1, .int 1), (2, .int l2), (3, .int l3), (4, .int l4), (5, .int l5)] [.int v7] _ 0 0 _
      refine x_ifne (tgt := 35) rfl rfl (ti_ne rfl jk_0 ⟨fun c8 => ?_, fun c8 => ?_⟩)
      ·
        rw [if_neg (by omega)] at D
        refine x_aloadn (x := 95) rfl rfl ?_
        refine x_iload (x := l4) rfl rfl ?_
        refine x_inv (N := m_X2_land) (As := [.int l4]) (b := 95) (st := []) (dx9 := 1) (mc := 0) (ms := 0) (host := "") 2 rfl t_X2_land ⟨Or.inl q_2_124, i_X2_land.1, i_X2_land.2⟩ ⟨by decide, rfl⟩ (congrArg Prod.fst (J.1.1 95 (2, 6) rfl)) rfl (by decide) rfl rfl ⟨by decide, by decide⟩ (sf_X2_land_r95d (jr_of rfl (by omega)) hD J rfl  (fun h J S9 X10 => ?_))
        have Sm := jSm_tr rfl Sm S9
        rw [X10] at D
        show jX m_X2_readTest 22 0 0 41 [(0, .ref 95), (1, .int 1), (2, .int l2), (3, .int l3), (4, .int l4), (5, .int l5)] [] _ 0 0 _
        refine x_aloadn (x := 95) rfl rfl ?_
        refine z_getR (N := 6) (b := 68) 2 0 rfl f_2_30 rfl J rfl 12160 ⟨rfl, rfl⟩ rfl ?_
        refine x_ldcS (jstr.getD 11 jstr_0) rfl (List.mem_of_getElem? (i := 11) rfl) rfl rfl ?_
        show jX m_X2_readTest 22 0 0 47 [(0, .ref 95), (1, .int 1), (2, .int l2), (3, .int l3), (4, .int l4), (5, .int l5)] [.ref 16, .ref 68] _ 0 0 _
        refine x_inv (N := m_X9_wordOf) (As := [.ref 16]) (b := 68) (st := []) (dx9 := 4) (mc := 0) (ms := 0) (host := "") 9 rfl t_X9_wordOf ⟨Or.inl q_2_67, i_X9_wordOf.1, i_X9_wordOf.2⟩ ⟨by decide, rfl⟩ (congrArg Prod.fst (J.1.1 68 (9, 6) rfl)) rfl (by decide) rfl rfl ⟨by decide, by decide⟩ (sf_X9_wordOf_r68_r16d  hD J rfl  (fun v14 h J S11 X12 X13 => ?_))
        have ev14 := jfull v14
        have Sm := jSm_tr rfl Sm S11
        try rw [X12] at D
        try rw [← X13] at D
        show jX m_X2_readTest 22 0 0 50 [(0, .ref 95), (1, .int 1), (2, .int l2), (3, .int l3), (4, .int l4), (5, .int l5)] [.int v14] _ 0 0 _
        refine x_ifeq (tgt := 56) rfl rfl (ti_eq rfl jk_0 ⟨fun c15 => ?_, fun c15 => ?_⟩)
        ·
          rw [if_pos (by omega)] at D
          refine x_aloadn (x := 95) rfl rfl ?_
          refine x_bipush (v := 12) rfl kb_12 ?_
          refine x_inv (N := m_X2_leap) (As := [.int 12]) (b := 95) (st := []) (dx9 := 2) (mc := 0) (ms := 0) (host := "") 2 rfl t_X2_leap ⟨Or.inl q_2_129, i_X2_leap.1, i_X2_leap.2⟩ ⟨by decide, rfl⟩ (congrArg Prod.fst (J.1.1 95 (2, 6) rfl)) rfl (by decide) rfl rfl ⟨by decide, by decide⟩ (sf_X2_leap_r95d (jr_of jk_12 (by omega)) hD J rfl  (fun v19 h ev19 J S16 X17 X18 => ?_))
          have Sm := jSm_tr rfl Sm S16
          try rw [jk_12] at X17
          try rw [jk_12] at X18
          try rw [X17] at D
          try rw [X18] at D
          show jX m_X2_readTest 22 0 0 62 [(0, .ref 95), (1, .int 1), (2, .int l2), (3, .int l3), (4, .int l4), (5, .int l5)] [.int v19] _ 0 0 _
          refine x_istore (lsx9 := [(4, .int v19), (0, .ref 95), (1, .int 1), (2, .int l2), (3, .int l3), (5, .int l5)]) rfl rfl rfl ?_
          refine x_aloadn (x := 95) rfl rfl ?_
          refine z_getR (N := 6) (b := 68) 2 0 rfl f_2_30 rfl J rfl 12160 ⟨rfl, rfl⟩ rfl ?_
          refine x_inv (N := m_X9_step) (As := []) (b := 68) (st := []) (dx9 := 2) (mc := 0) (ms := 0) (host := "") 9 rfl t_X9_step ⟨Or.inl q_2_62, i_X9_step.1, i_X9_step.2⟩ ⟨by decide, rfl⟩ (congrArg Prod.fst (J.1.1 68 (9, 6) rfl)) rfl (by decide) rfl rfl ⟨by decide, by decide⟩ (sf_X9_step_r68d  hD J (jmc S16 rfl (jmc S11 rfl (jmc S9 rfl qu3))) (jmc S16 rfl (jmc S11 rfl (jmc S9 rfl qu4))) (by omega) rfl  (fun h J S20 u21 u22 qu21 qu22 ru21 X23 => ?_))
          have Sm := jSm_tr rfl Sm S20
          rw [X23] at D
          have eu21 := (show 0 ≤ u21.toInt ∧ u21.toInt ≤ 3 from qu21 ▸ jrg_f J sg_68_5_6_1_0_1)
          try rw [vrf qu21] at D
          have eu22 := (show 0 ≤ u22.toInt ∧ u22.toInt ≤ 400 from qu22 ▸ jrg_f J sg_68_3_4_1_0_1)
          try rw [vrf qu22] at D
          show jX m_X2_readTest 22 0 0 71 [(4, .int v19), (0, .ref 95), (1, .int 1), (2, .int l2), (3, .int l3), (5, .int l5)] [] _ 0 0 _
          refine z_iinc (x := l5) (lsx9 := fun v24 => [(5, .int v24), (4, .int v19), (0, .ref 95), (1, .int 1), (2, .int l2), (3, .int l3)]) rfl rfl rfl jko_1 (by omega) rfl (fun _ => rfl) (fun v24 ev24 => ?_)
          refine x_goto (tgt := 17) rfl rfl ?_
          try rw [show (l5.toInt + 1) = v24.toInt from by omega] at D
          exact jX.sub (jsb_c rfl (jsb_c rfl (jsb_c rfl (jsb_c rfl (jsb_c rfl (jsb_c rfl jsb_n)))))) (ih l2 l3 v19 v24 u22 u21 h (by omega) (jr_of rfl (by omega)) (jr_of rfl (by omega)) (jr_of rfl (by omega)) (jr_of rfl (by omega)) (jr_of rfl (by omega)) (jr_of rfl (by omega)) (by omega) qu22 qu21 (by omega) J Sm D)
        ·
          rw [if_neg (by omega)] at D
          refine x_goto (tgt := 77) rfl rfl ?_
          exact jX.sub (jsb_c rfl (jsb_c rfl (jsb_c rfl (jsb_c rfl jsb_n)))) (ct_X2_readTest_r95_c1d_77 hD hQ k4 l2 l3 u4 u3 h (jr_of rfl (by omega)) (jr_of rfl (by omega)) (jr_of rfl (by omega)) (jr_of rfl (by omega)) (by omega) (jmc S11 rfl (jmc S9 rfl qu4)) (jmc S11 rfl (jmc S9 rfl qu3)) (by omega) J Sm D)
      ·
        rw [if_pos (by omega)] at D
        refine x_iconst (v := 0) rfl ki_0 ?_
        refine x_zret rfl rfl (by decide) ?_
        exact hQ _ _ (jr_of jk_0 (by omega)) J Sm _ _ qu3 qu4 (by omega) ((congrArg Prod.fst D).symm.trans (show 0 = (0 : Int32).toInt from by have := jk_0; omega)) (congrArg Prod.snd D).symm
set_option maxRecDepth 100000 in
set_option maxHeartbeats 4000000 in
theorem ct_X2_readTest_r95_c1d_4 {Dy : jH → Prop} {h0 : jH} {Q : Option Value → jH → Prop} {dr : (Int × jW)} (hD : jDk Dy) (hQ : ∀ (v : Int32) hx9, 0 ≤ v.toInt ∧ v.toInt ≤ 1 → jJ jSgX Dy hx9 → jSm fp_X2_readTest_r95_c1d h0 hx9 → ∀ u0 u1 : Int32, jiv hx9 68 5 = u0 → jiv hx9 68 3 = u1 → (u0.toInt ≠ 3 ∨ u1.toInt ≤ 399) → dr.1 = v.toInt → dr.2 = vw hx9 → Q (some (.int v)) hx9) : ∀ r : Nat, ∀ (l2 : Int32) (l3 : Int32) (g0 : Int32) (g1 : Int32) (h : jH), 400 - l3.toInt < (r : Int) → (-1) ≤ l2.toInt ∧ l2.toInt ≤ 1199 → 0 ≤ l3.toInt ∧ l3.toInt ≤ 400 → 0 ≤ g0.toInt ∧ g0.toInt ≤ 400 → 0 ≤ g1.toInt ∧ g1.toInt ≤ 3 → (g1.toInt ≠ 3 ∨ g0.toInt ≤ 399) → jiv h 68 3 = g0 → jiv h 68 5 = g1 → jJ jSgX Dy h → jSm fp_X2_readTest_r95_c1d h0 h → d_X2_readTest_r95_c1d_4 r l2.toInt l3.toInt (vw h) = dr → jX m_X2_readTest 22 0 0 4 [(0, .ref 95), (1, .int 1), (2, .int l2), (3, .int l3)] [] h 0 0 Q := by
  intro r
  induction r with
  | zero =>
    intro l2 l3 g0 g1 h hm y0 y1 y2 y3 y4 z0 z1  J Sm D
    exfalso
    omega
  | succ r ih =>
    intro l2 l3 g0 g1 h hm y0 y1 y2 y3 y4 z0 z1  J Sm D
    rw [d_X2_readTest_r95_c1d_4.eq_2] at D
    try rw [vrf z0] at D
    try rw [vrf z1] at D
    refine x_iloadn (x := l3) rfl rfl ?_
    refine x_sipush (v := 400) rfl ks_400 ?_
    refine x_icge (tgt := 116) rfl rfl (ti_ge rfl jk_400 ⟨fun c1 => ?_, fun c1 => ?_⟩)
    ·
      rw [if_pos (by omega)] at D
      refine x_aloadn (x := 95) rfl rfl ?_
      refine z_getR (N := 6) (b := 68) 2 0 rfl f_2_30 rfl J rfl 12160 ⟨rfl, rfl⟩ rfl ?_
      refine x_inv (N := m_X9_blame) (As := []) (b := 68) (st := []) (dx9 := 21) (mc := 0) (ms := 0) (host := "") 9 rfl t_X9_blame ⟨Or.inl q_2_59, i_X9_blame.1, i_X9_blame.2⟩ ⟨by decide, rfl⟩ (congrArg Prod.fst (J.1.1 68 (9, 6) rfl)) rfl (by decide) rfl rfl ⟨by decide, by decide⟩ (jC.of rfl k_X9_blame rfl ?_)
      show jX m_X9_blame 21 0 0 0 [(0, .ref 68)] [] _ 0 0 _
      refine x_aloadn (x := 68) rfl rfl ?_
      refine x_aloadn (x := 68) rfl rfl ?_
      refine z_getM (N := 6) (v := g0) 9 3 rfl f_9_22 rfl J rfl z0 ?_
      refine z_putI (N := 6) (w := g0.toInt) 9 2 rfl f_9_19 rfl (jfin_no TX9 RX9 6 rfl rfl) hD J Sm rfl rfl rfl (pw_68_2 (by omega)) rfl (fun h w2 J Sm => ?_)
      rw [vwf w2 (show g0.toInt = g0.toInt from by omega)] at D
      refine x_iconst (v := 0) rfl ki_0 ?_
      refine x_zret rfl rfl (by decide) ?_
      show jX m_X2_readTest 22 0 0 123 [(0, .ref 95), (1, .int 1), (2, .int l2), (3, .int l3)] [.int 0] _ 0 0 _
      refine x_zret rfl rfl (by decide) ?_
      exact hQ _ _ (jr_of jk_0 (by omega)) J Sm _ _ (jmo w2 rfl z1) (jmo w2 rfl z0) (by omega) ((congrArg Prod.fst D).symm.trans (show 0 = (0 : Int32).toInt from by have := jk_0; omega)) (congrArg Prod.snd D).symm
    ·
      rw [if_neg (by omega)] at D
      refine x_iconst (v := (-1)) rfl ki_m1 ?_
      refine x_istore (lsx9 := [(4, .int (-1)), (0, .ref 95), (1, .int 1), (2, .int l2), (3, .int l3)]) rfl rfl rfl ?_
      refine x_iconst (v := 0) rfl ki_0 ?_
      refine x_istore (lsx9 := [(5, .int 0), (4, .int (-1)), (0, .ref 95), (1, .int 1), (2, .int l2), (3, .int l3)]) rfl rfl rfl ?_
      exact jX.sub (jsb_c rfl (jsb_c rfl (jsb_c rfl (jsb_c rfl (jsb_c rfl (jsb_c rfl jsb_n)))))) (ct_X2_readTest_r95_c1d_17 hD hQ ih 401 l2 l3 (-1) 0 g0 g1 h (by have := jk_0; omega) (jr_of rfl (by omega)) (jr_of rfl (by omega)) (jr_of jk_m1 (by omega)) (jr_of jk_0 (by omega)) (jr_of rfl (by omega)) (jr_of rfl (by omega)) (by omega) z0 z1 (by omega) J Sm (by rw [jk_m1, jk_0]; exact D))
set_option maxRecDepth 100000 in
set_option maxHeartbeats 4000000 in
theorem sf_X2_readTest_r95_c1d {Dy : jH → Prop} {h : jH} {Q : Option Value → jH → Prop} {dr : (Int × jW)} (hD : jDk Dy) (J : jJ jSgX Dy h) {p0 p1 : Int32} (zp0 : jiv h 68 5 = p0) (zp1 : jiv h 68 3 = p1) (rl_p0 : (p0.toInt ≠ 3 ∨ p1.toInt ≤ 399)) (D : d_X2_readTest_r95_c1d (vw h) = dr) (hQ : ∀ (v : Int32) hx9, 0 ≤ v.toInt ∧ v.toInt ≤ 1 → jJ jSgX Dy hx9 → jSm fp_X2_readTest_r95_c1d h hx9 → ∀ u0 u1 : Int32, jiv hx9 68 5 = u0 → jiv hx9 68 3 = u1 → (u0.toInt ≠ 3 ∨ u1.toInt ≤ 399) → dr.1 = v.toInt → dr.2 = vw hx9 → Q (some (.int v)) hx9) : jC m_X2_readTest 22 0 0 [.ref 95, .int 1] h Q := by
  refine jC.of rfl k_X2_readTest rfl ?_
  have Sm := jSm_rf fp_X2_readTest_r95_c1d h
  have ep0 := (show 0 ≤ p0.toInt ∧ p0.toInt ≤ 3 from zp0 ▸ jrg_f J sg_68_5_6_1_0_1)
  have ep1 := (show 0 ≤ p1.toInt ∧ p1.toInt ≤ 400 from zp1 ▸ jrg_f J sg_68_3_4_1_0_1)
  show jX m_X2_readTest 22 0 0 0 [(0, .ref 95), (1, .int 1)] [] _ 0 0 _
  unfold d_X2_readTest_r95_c1d at D
  try rw [vrf zp0] at D
  try rw [vrf zp1] at D
  refine x_iconst (v := (-1)) rfl ki_m1 ?_
  refine x_istoren (lsx9 := [(2, .int (-1)), (0, .ref 95), (1, .int 1)]) rfl rfl rfl ?_
  refine x_iconst (v := 0) rfl ki_0 ?_
  refine x_istoren (lsx9 := [(3, .int 0), (2, .int (-1)), (0, .ref 95), (1, .int 1)]) rfl rfl rfl ?_
  exact jX.sub (jsb_c rfl (jsb_c rfl (jsb_c rfl (jsb_c rfl jsb_n)))) (ct_X2_readTest_r95_c1d_4 hD hQ  401 (-1) 0 p1 p0 h (by have := jk_0; omega) (jr_of jk_m1 (by omega)) (jr_of jk_0 (by omega)) (jr_of rfl (by omega)) (jr_of rfl (by omega)) (by omega) zp1 zp0 J Sm (by rw [jk_m1, jk_0]; exact D))
def fp_X2_readPlain_r95_c0d : jFp := [(68, 2, 3), (68, 3, 4), (68, 4, 5), (68, 5, 6), (95, 4, 5), (95, 5, 6), (97, 0, 1200)]
set_option maxRecDepth 100000 in
set_option maxHeartbeats 4000000 in
theorem ct_X2_readPlain_r95_c0d_239 {Dy : jH → Prop} {h0 : jH} {Q : Option Value → jH → Prop} {dr : (Int × jW)} (hD : jDk Dy) (hQ : ∀ (v : Int32) hx9, 0 ≤ v.toInt ∧ v.toInt ≤ 1 → jJ jSgX Dy hx9 → jSm fp_X2_readPlain_r95_c0d h0 hx9 → ∀ u0 u1 : Int32, jiv hx9 68 5 = u0 → jiv hx9 68 3 = u1 → (u0.toInt ≠ 3 ∨ u1.toInt ≤ 399) → dr.1 = v.toInt → dr.2 = vw hx9 → Q (some (.int v)) hx9) : ∀ (g0 : Int32) (g1 : Int32) (h : jH), 0 ≤ g0.toInt ∧ g0.toInt ≤ 400 → 0 ≤ g1.toInt ∧ g1.toInt ≤ 3 → (g1.toInt ≠ 3 ∨ g0.toInt ≤ 399) → jiv h 68 3 = g0 → jiv h 68 5 = g1 → jJ jSgX Dy h → jSm fp_X2_readPlain_r95_c0d h0 h → d_X2_readPlain_r95_c0d_239  (vw h) = dr → jX m_X2_readPlain 23 0 0 239 [] [] h 0 0 Q := by
  intro g0 g1 h y0 y1 y2 z0 z1  J Sm D
  unfold d_X2_readPlain_r95_c0d_239 at D
  try rw [vrf z0] at D
  try rw [vrf z1] at D
  refine x_iconst (v := 1) rfl ki_1 ?_
  refine x_zret rfl rfl (by decide) ?_
  exact hQ _ _ (jr_of jk_1 (by omega)) J Sm _ _ z1 z0 (by omega) ((congrArg Prod.fst D).symm.trans (show 1 = (1 : Int32).toInt from by have := jk_1; omega)) (congrArg Prod.snd D).symm
set_option maxRecDepth 100000 in
set_option maxHeartbeats 4000000 in
theorem ct_X2_readPlain_r95_c0d_229 {Dy : jH → Prop} {h0 : jH} {Q : Option Value → jH → Prop} {dr : (Int × jW)} (hD : jDk Dy) (hQ : ∀ (v : Int32) hx9, 0 ≤ v.toInt ∧ v.toInt ≤ 1 → jJ jSgX Dy hx9 → jSm fp_X2_readPlain_r95_c0d h0 hx9 → ∀ u0 u1 : Int32, jiv hx9 68 5 = u0 → jiv hx9 68 3 = u1 → (u0.toInt ≠ 3 ∨ u1.toInt ≤ 399) → dr.1 = v.toInt → dr.2 = vw hx9 → Q (some (.int v)) hx9) : ∀ (l2 : Int32) (g0 : Int32) (g1 : Int32) (h : jH), 0 ≤ l2.toInt ∧ l2.toInt ≤ 1 → 0 ≤ g0.toInt ∧ g0.toInt ≤ 400 → 0 ≤ g1.toInt ∧ g1.toInt ≤ 3 → (g1.toInt ≠ 3 ∨ g0.toInt ≤ 399) → jiv h 68 3 = g0 → jiv h 68 5 = g1 → jJ jSgX Dy h → jSm fp_X2_readPlain_r95_c0d h0 h → d_X2_readPlain_r95_c0d_229  l2.toInt (vw h) = dr → jX m_X2_readPlain 23 0 0 229 [(0, .ref 95), (2, .int l2)] [] h 0 0 Q := by
  intro l2 g0 g1 h y0 y1 y2 y3 z0 z1  J Sm D
  unfold d_X2_readPlain_r95_c0d_229 at D
  try rw [vrf z0] at D
  try rw [vrf z1] at D
  refine x_iloadn (x := l2) rfl rfl ?_
  refine x_ifeq (tgt := 239) rfl rfl (ti_eq rfl jk_0 ⟨fun c1 => ?_, fun c1 => ?_⟩)
  ·
    rw [if_pos (by omega)] at D
    exact jX.sub jsb_n (ct_X2_readPlain_r95_c0d_239 hD hQ  g0 g1 h (jr_of rfl (by omega)) (jr_of rfl (by omega)) (by omega) z0 z1 J Sm D)
  ·
    rw [if_neg (by omega)] at D
    refine x_aloadn (x := 95) rfl rfl ?_
    refine x_bipush (v := 10) rfl kb_10 ?_
    refine x_inv (N := m_X2_emit) (As := [.int 10]) (b := 95) (st := []) (dx9 := 1) (mc := 0) (ms := 0) (host := "") 2 rfl t_X2_emit ⟨Or.inl q_2_89, i_X2_emit.1, i_X2_emit.2⟩ ⟨by decide, rfl⟩ (congrArg Prod.fst (J.1.1 95 (2, 6) rfl)) rfl (by decide) rfl rfl ⟨by decide, by decide⟩ (sf_X2_emit_r95d  hD J rfl  (fun h J S2 X3 => ?_))
    have Sm := jSm_tr rfl Sm S2
    try rw [jk_10] at X3
    rw [X3] at D
    show jX m_X2_readPlain 23 0 0 239 [(0, .ref 95), (2, .int l2)] [] _ 0 0 _
    exact jX.sub jsb_n (ct_X2_readPlain_r95_c0d_239 hD hQ  g0 g1 h (jr_of rfl (by omega)) (jr_of rfl (by omega)) (by omega) (jmc S2 rfl z0) (jmc S2 rfl z1) J Sm D)
set_option maxRecDepth 100000 in
set_option maxHeartbeats 4000000 in
theorem ct_X2_readPlain_r95_c0d_100190 {Dy : jH → Prop} {h0 : jH} {Q : Option Value → jH → Prop} {dr : (Int × jW)} (hD : jDk Dy) (hQ : ∀ (v : Int32) hx9, 0 ≤ v.toInt ∧ v.toInt ≤ 1 → jJ jSgX Dy hx9 → jSm fp_X2_readPlain_r95_c0d h0 hx9 → ∀ u0 u1 : Int32, jiv hx9 68 5 = u0 → jiv hx9 68 3 = u1 → (u0.toInt ≠ 3 ∨ u1.toInt ≤ 399) → dr.1 = v.toInt → dr.2 = vw hx9 → Q (some (.int v)) hx9) : ∀ (l2 : Int32) (g0 : Int32) (g1 : Int32) (h : jH), 0 ≤ l2.toInt ∧ l2.toInt ≤ 1 → 0 ≤ g0.toInt ∧ g0.toInt ≤ 400 → 0 ≤ g1.toInt ∧ g1.toInt ≤ 3 → (g1.toInt ≠ 3 ∨ g0.toInt ≤ 399) → jiv h 68 3 = g0 → jiv h 68 5 = g1 → jJ jSgX Dy h → jSm fp_X2_readPlain_r95_c0d h0 h → d_X2_readPlain_r95_c0d_100190  l2.toInt (vw h) = dr → jX m_X2_readPlain 23 0 0 190 [(0, .ref 95), (1, .int 0), (2, .int l2)] [.int (-1)] h 0 0 Q := by
  intro l2 g0 g1 h y0 y1 y2 y3 z0 z1  J Sm D
  unfold d_X2_readPlain_r95_c0d_100190 at D
  try rw [vrf z0] at D
  try rw [vrf z1] at D
  refine x_istore (lsx9 := [(4, .int (-1)), (0, .ref 95), (1, .int 0), (2, .int l2)]) rfl rfl rfl ?_
  refine x_iload (x := (-1)) rfl rfl ?_
  refine x_iconst (v := (-1)) rfl ki_m1 ?_
  refine x_icne (tgt := 206) rfl rfl (ti_ne jk_m1 jk_m1 (bn_f (by omega) ?_))
  refine x_aloadn (x := 95) rfl rfl ?_
  refine z_getR (N := 6) (b := 68) 2 0 rfl f_2_30 rfl J rfl 12160 ⟨rfl, rfl⟩ rfl ?_
  refine x_inv (N := m_X9_blame) (As := []) (b := 68) (st := []) (dx9 := 22) (mc := 0) (ms := 0) (host := "") 9 rfl t_X9_blame ⟨Or.inl q_2_59, i_X9_blame.1, i_X9_blame.2⟩ ⟨by decide, rfl⟩ (congrArg Prod.fst (J.1.1 68 (9, 6) rfl)) rfl (by decide) rfl rfl ⟨by decide, by decide⟩ (jC.of rfl k_X9_blame rfl ?_)
  show jX m_X9_blame 22 0 0 0 [(0, .ref 68)] [] _ 0 0 _
  refine x_aloadn (x := 68) rfl rfl ?_
  refine x_aloadn (x := 68) rfl rfl ?_
  refine z_getM (N := 6) (v := g0) 9 3 rfl f_9_22 rfl J rfl z0 ?_
  refine z_putI (N := 6) (w := g0.toInt) 9 2 rfl f_9_19 rfl (jfin_no TX9 RX9 6 rfl rfl) hD J Sm rfl rfl rfl (pw_68_2 (by omega)) rfl (fun h w1 J Sm => ?_)
  rw [vwf w1 (show g0.toInt = g0.toInt from by omega)] at D
  refine x_iconst (v := 0) rfl ki_0 ?_
  refine x_zret rfl rfl (by decide) ?_
  show jX m_X2_readPlain 23 0 0 205 [(4, .int (-1)), (0, .ref 95), (1, .int 0), (2, .int l2)] [.int 0] _ 0 0 _
  refine x_zret rfl rfl (by decide) ?_
  exact hQ _ _ (jr_of jk_0 (by omega)) J Sm _ _ (jmo w1 rfl z1) (jmo w1 rfl z0) (by omega) ((congrArg Prod.fst D).symm.trans (show 0 = (0 : Int32).toInt from by have := jk_0; omega)) (congrArg Prod.snd D).symm
set_option maxRecDepth 100000 in
set_option maxHeartbeats 4000000 in
theorem ct_X2_readPlain_r95_c0d_190 {Dy : jH → Prop} {h0 : jH} {Q : Option Value → jH → Prop} {dr : (Int × jW)} (hD : jDk Dy) (hQ : ∀ (v : Int32) hx9, 0 ≤ v.toInt ∧ v.toInt ≤ 1 → jJ jSgX Dy hx9 → jSm fp_X2_readPlain_r95_c0d h0 hx9 → ∀ u0 u1 : Int32, jiv hx9 68 5 = u0 → jiv hx9 68 3 = u1 → (u0.toInt ≠ 3 ∨ u1.toInt ≤ 399) → dr.1 = v.toInt → dr.2 = vw hx9 → Q (some (.int v)) hx9) : ∀ (l2 : Int32) (g0 : Int32) (g1 : Int32) (h : jH), 0 ≤ l2.toInt ∧ l2.toInt ≤ 1 → 0 ≤ g0.toInt ∧ g0.toInt ≤ 400 → 0 ≤ g1.toInt ∧ g1.toInt ≤ 3 → (g1.toInt ≠ 3 ∨ g0.toInt ≤ 399) → jiv h 68 3 = g0 → jiv h 68 5 = g1 → jJ jSgX Dy h → jSm fp_X2_readPlain_r95_c0d h0 h → d_X2_readPlain_r95_c0d_190  l2.toInt (vw h) = dr → jX m_X2_readPlain 23 0 0 190 [(0, .ref 95), (1, .int 0), (2, .int l2)] [.int 9] h 0 0 Q := by
  intro l2 g0 g1 h y0 y1 y2 y3 z0 z1  J Sm D
  unfold d_X2_readPlain_r95_c0d_190 at D
  try rw [vrf z0] at D
  try rw [vrf z1] at D
  refine x_istore (lsx9 := [(4, .int 9), (0, .ref 95), (1, .int 0), (2, .int l2)]) rfl rfl rfl ?_
  refine x_iload (x := 9) rfl rfl ?_
  refine x_iconst (v := (-1)) rfl ki_m1 ?_
  refine x_icne (tgt := 206) rfl rfl (ti_ne jk_9 jk_m1 (bn_t (by omega) ?_))
  refine x_aloadn (x := 95) rfl rfl ?_
  refine z_getR (N := 6) (b := 68) 2 0 rfl f_2_30 rfl J rfl 12160 ⟨rfl, rfl⟩ rfl ?_
  refine x_inv (N := m_X9_step) (As := []) (b := 68) (st := []) (dx9 := 2) (mc := 0) (ms := 0) (host := "") 9 rfl t_X9_step ⟨Or.inl q_2_62, i_X9_step.1, i_X9_step.2⟩ ⟨by decide, rfl⟩ (congrArg Prod.fst (J.1.1 68 (9, 6) rfl)) rfl (by decide) rfl rfl ⟨by decide, by decide⟩ (sf_X9_step_r68d  hD J z1 z0 (by omega) rfl  (fun h J S1 u2 u3 qu2 qu3 ru2 X4 => ?_))
  have Sm := jSm_tr rfl Sm S1
  rw [X4] at D
  have eu2 := (show 0 ≤ u2.toInt ∧ u2.toInt ≤ 3 from qu2 ▸ jrg_f J sg_68_5_6_1_0_1)
  try rw [vrf qu2] at D
  have eu3 := (show 0 ≤ u3.toInt ∧ u3.toInt ≤ 400 from qu3 ▸ jrg_f J sg_68_3_4_1_0_1)
  try rw [vrf qu3] at D
  show jX m_X2_readPlain 23 0 0 213 [(4, .int 9), (0, .ref 95), (1, .int 0), (2, .int l2)] [] _ 0 0 _
  refine x_aloadn (x := 95) rfl rfl ?_
  refine x_iloadn (x := 0) rfl rfl ?_
  refine x_inv (N := m_X2_readSum) (As := [.int 0]) (b := 95) (st := []) (dx9 := 22) (mc := 0) (ms := 0) (host := "") 2 rfl t_X2_readSum ⟨Or.inl q_2_86, i_X2_readSum.1, i_X2_readSum.2⟩ ⟨by decide, rfl⟩ (congrArg Prod.fst (J.1.1 95 (2, 6) rfl)) rfl (by decide) rfl rfl ⟨by decide, by decide⟩ (sf_X2_readSum_r95_c0d  hD J qu2 qu3 (by omega) rfl  (fun v10 h ev10 J S5 u6 u7 qu6 qu7 ru6 X8 X9 => ?_))
  have Sm := jSm_tr rfl Sm S5
  try rw [X8] at D
  try rw [X9] at D
  have eu6 := (show 0 ≤ u6.toInt ∧ u6.toInt ≤ 3 from qu6 ▸ jrg_f J sg_68_5_6_1_0_1)
  try rw [vrf qu6] at D
  have eu7 := (show 0 ≤ u7.toInt ∧ u7.toInt ≤ 400 from qu7 ▸ jrg_f J sg_68_3_4_1_0_1)
  try rw [vrf qu7] at D
  show jX m_X2_readPlain 23 0 0 218 [(4, .int 9), (0, .ref 95), (1, .int 0), (2, .int l2)] [.int v10] _ 0 0 _
  refine x_ifne (tgt := 223) rfl rfl (ti_ne rfl jk_0 ⟨fun c11 => ?_, fun c11 => ?_⟩)
  ·
    rw [if_neg (by omega)] at D
    refine x_aloadn (x := 95) rfl rfl ?_
    refine x_iload (x := 9) rfl rfl ?_
    refine x_inv (N := m_X2_emit) (As := [.int 9]) (b := 95) (st := []) (dx9 := 1) (mc := 0) (ms := 0) (host := "") 2 rfl t_X2_emit ⟨Or.inl q_2_89, i_X2_emit.1, i_X2_emit.2⟩ ⟨by decide, rfl⟩ (congrArg Prod.fst (J.1.1 95 (2, 6) rfl)) rfl (by decide) rfl rfl ⟨by decide, by decide⟩ (sf_X2_emit_r95d  hD J rfl  (fun h J S12 X13 => ?_))
    have Sm := jSm_tr rfl Sm S12
    try rw [jk_9] at X13
    rw [X13] at D
    show jX m_X2_readPlain 23 0 0 229 [(4, .int 9), (0, .ref 95), (1, .int 0), (2, .int l2)] [] _ 0 0 _
    exact jX.sub (jsb_c rfl (jsb_c rfl jsb_n)) (ct_X2_readPlain_r95_c0d_229 hD hQ  l2 u7 u6 h (jr_of rfl (by omega)) (jr_of rfl (by omega)) (jr_of rfl (by omega)) (by omega) (jmc S12 rfl qu7) (jmc S12 rfl qu6) J Sm D)
  ·
    rw [if_pos (by omega)] at D
    refine x_iconst (v := 0) rfl ki_0 ?_
    refine x_zret rfl rfl (by decide) ?_
    exact hQ _ _ (jr_of jk_0 (by omega)) J Sm _ _ qu6 qu7 (by omega) ((congrArg Prod.fst D).symm.trans (show 0 = (0 : Int32).toInt from by have := jk_0; omega)) (congrArg Prod.snd D).symm
set_option maxRecDepth 100000 in
set_option maxHeartbeats 4000000 in
theorem ct_X2_readPlain_r95_c0d_1000190 {Dy : jH → Prop} {h0 : jH} {Q : Option Value → jH → Prop} {dr : (Int × jW)} (hD : jDk Dy) (hQ : ∀ (v : Int32) hx9, 0 ≤ v.toInt ∧ v.toInt ≤ 1 → jJ jSgX Dy hx9 → jSm fp_X2_readPlain_r95_c0d h0 hx9 → ∀ u0 u1 : Int32, jiv hx9 68 5 = u0 → jiv hx9 68 3 = u1 → (u0.toInt ≠ 3 ∨ u1.toInt ≤ 399) → dr.1 = v.toInt → dr.2 = vw hx9 → Q (some (.int v)) hx9) : ∀ (l2 : Int32) (g0 : Int32) (g1 : Int32) (h : jH), 0 ≤ l2.toInt ∧ l2.toInt ≤ 1 → 0 ≤ g0.toInt ∧ g0.toInt ≤ 400 → 0 ≤ g1.toInt ∧ g1.toInt ≤ 3 → (g1.toInt ≠ 3 ∨ g0.toInt ≤ 399) → jiv h 68 3 = g0 → jiv h 68 5 = g1 → jJ jSgX Dy h → jSm fp_X2_readPlain_r95_c0d h0 h → d_X2_readPlain_r95_c0d_1000190  l2.toInt (vw h) = dr → jX m_X2_readPlain 23 0 0 190 [(0, .ref 95), (1, .int 0), (2, .int l2)] [.int 8] h 0 0 Q := by
  intro l2 g0 g1 h y0 y1 y2 y3 z0 z1  J Sm D
  unfold d_X2_readPlain_r95_c0d_1000190 at D
  try rw [vrf z0] at D
  try rw [vrf z1] at D
  refine x_istore (lsx9 := [(4, .int 8), (0, .ref 95), (1, .int 0), (2, .int l2)]) rfl rfl rfl ?_
  refine x_iload (x := 8) rfl rfl ?_
  refine x_iconst (v := (-1)) rfl ki_m1 ?_
  refine x_icne (tgt := 206) rfl rfl (ti_ne jk_8 jk_m1 (bn_t (by omega) ?_))
  refine x_aloadn (x := 95) rfl rfl ?_
  refine z_getR (N := 6) (b := 68) 2 0 rfl f_2_30 rfl J rfl 12160 ⟨rfl, rfl⟩ rfl ?_
  refine x_inv (N := m_X9_step) (As := []) (b := 68) (st := []) (dx9 := 2) (mc := 0) (ms := 0) (host := "") 9 rfl t_X9_step ⟨Or.inl q_2_62, i_X9_step.1, i_X9_step.2⟩ ⟨by decide, rfl⟩ (congrArg Prod.fst (J.1.1 68 (9, 6) rfl)) rfl (by decide) rfl rfl ⟨by decide, by decide⟩ (sf_X9_step_r68d  hD J z1 z0 (by omega) rfl  (fun h J S1 u2 u3 qu2 qu3 ru2 X4 => ?_))
  have Sm := jSm_tr rfl Sm S1
  rw [X4] at D
  have eu2 := (show 0 ≤ u2.toInt ∧ u2.toInt ≤ 3 from qu2 ▸ jrg_f J sg_68_5_6_1_0_1)
  try rw [vrf qu2] at D
  have eu3 := (show 0 ≤ u3.toInt ∧ u3.toInt ≤ 400 from qu3 ▸ jrg_f J sg_68_3_4_1_0_1)
  try rw [vrf qu3] at D
  show jX m_X2_readPlain 23 0 0 213 [(4, .int 8), (0, .ref 95), (1, .int 0), (2, .int l2)] [] _ 0 0 _
  refine x_aloadn (x := 95) rfl rfl ?_
  refine x_iloadn (x := 0) rfl rfl ?_
  refine x_inv (N := m_X2_readSum) (As := [.int 0]) (b := 95) (st := []) (dx9 := 22) (mc := 0) (ms := 0) (host := "") 2 rfl t_X2_readSum ⟨Or.inl q_2_86, i_X2_readSum.1, i_X2_readSum.2⟩ ⟨by decide, rfl⟩ (congrArg Prod.fst (J.1.1 95 (2, 6) rfl)) rfl (by decide) rfl rfl ⟨by decide, by decide⟩ (sf_X2_readSum_r95_c0d  hD J qu2 qu3 (by omega) rfl  (fun v10 h ev10 J S5 u6 u7 qu6 qu7 ru6 X8 X9 => ?_))
  have Sm := jSm_tr rfl Sm S5
  try rw [X8] at D
  try rw [X9] at D
  have eu6 := (show 0 ≤ u6.toInt ∧ u6.toInt ≤ 3 from qu6 ▸ jrg_f J sg_68_5_6_1_0_1)
  try rw [vrf qu6] at D
  have eu7 := (show 0 ≤ u7.toInt ∧ u7.toInt ≤ 400 from qu7 ▸ jrg_f J sg_68_3_4_1_0_1)
  try rw [vrf qu7] at D
  show jX m_X2_readPlain 23 0 0 218 [(4, .int 8), (0, .ref 95), (1, .int 0), (2, .int l2)] [.int v10] _ 0 0 _
  refine x_ifne (tgt := 223) rfl rfl (ti_ne rfl jk_0 ⟨fun c11 => ?_, fun c11 => ?_⟩)
  ·
    rw [if_neg (by omega)] at D
    refine x_aloadn (x := 95) rfl rfl ?_
    refine x_iload (x := 8) rfl rfl ?_
    refine x_inv (N := m_X2_emit) (As := [.int 8]) (b := 95) (st := []) (dx9 := 1) (mc := 0) (ms := 0) (host := "") 2 rfl t_X2_emit ⟨Or.inl q_2_89, i_X2_emit.1, i_X2_emit.2⟩ ⟨by decide, rfl⟩ (congrArg Prod.fst (J.1.1 95 (2, 6) rfl)) rfl (by decide) rfl rfl ⟨by decide, by decide⟩ (sf_X2_emit_r95d  hD J rfl  (fun h J S12 X13 => ?_))
    have Sm := jSm_tr rfl Sm S12
    try rw [jk_8] at X13
    rw [X13] at D
    show jX m_X2_readPlain 23 0 0 229 [(4, .int 8), (0, .ref 95), (1, .int 0), (2, .int l2)] [] _ 0 0 _
    exact jX.sub (jsb_c rfl (jsb_c rfl jsb_n)) (ct_X2_readPlain_r95_c0d_229 hD hQ  l2 u7 u6 h (jr_of rfl (by omega)) (jr_of rfl (by omega)) (jr_of rfl (by omega)) (by omega) (jmc S12 rfl qu7) (jmc S12 rfl qu6) J Sm D)
  ·
    rw [if_pos (by omega)] at D
    refine x_iconst (v := 0) rfl ki_0 ?_
    refine x_zret rfl rfl (by decide) ?_
    exact hQ _ _ (jr_of jk_0 (by omega)) J Sm _ _ qu6 qu7 (by omega) ((congrArg Prod.fst D).symm.trans (show 0 = (0 : Int32).toInt from by have := jk_0; omega)) (congrArg Prod.snd D).symm
set_option maxRecDepth 100000 in
set_option maxHeartbeats 4000000 in
theorem ct_X2_readPlain_r95_c0d_900190 {Dy : jH → Prop} {h0 : jH} {Q : Option Value → jH → Prop} {dr : (Int × jW)} (hD : jDk Dy) (hQ : ∀ (v : Int32) hx9, 0 ≤ v.toInt ∧ v.toInt ≤ 1 → jJ jSgX Dy hx9 → jSm fp_X2_readPlain_r95_c0d h0 hx9 → ∀ u0 u1 : Int32, jiv hx9 68 5 = u0 → jiv hx9 68 3 = u1 → (u0.toInt ≠ 3 ∨ u1.toInt ≤ 399) → dr.1 = v.toInt → dr.2 = vw hx9 → Q (some (.int v)) hx9) : ∀ (l2 : Int32) (g0 : Int32) (g1 : Int32) (h : jH), 0 ≤ l2.toInt ∧ l2.toInt ≤ 1 → 0 ≤ g0.toInt ∧ g0.toInt ≤ 400 → 0 ≤ g1.toInt ∧ g1.toInt ≤ 3 → (g1.toInt ≠ 3 ∨ g0.toInt ≤ 399) → jiv h 68 3 = g0 → jiv h 68 5 = g1 → jJ jSgX Dy h → jSm fp_X2_readPlain_r95_c0d h0 h → d_X2_readPlain_r95_c0d_900190  l2.toInt (vw h) = dr → jX m_X2_readPlain 23 0 0 190 [(0, .ref 95), (1, .int 0), (2, .int l2)] [.int 7] h 0 0 Q := by
  intro l2 g0 g1 h y0 y1 y2 y3 z0 z1  J Sm D
  unfold d_X2_readPlain_r95_c0d_900190 at D
  try rw [vrf z0] at D
  try rw [vrf z1] at D
  refine x_istore (lsx9 := [(4, .int 7), (0, .ref 95), (1, .int 0), (2, .int l2)]) rfl rfl rfl ?_
  refine x_iload (x := 7) rfl rfl ?_
  refine x_iconst (v := (-1)) rfl ki_m1 ?_
  refine x_icne (tgt := 206) rfl rfl (ti_ne jk_7 jk_m1 (bn_t (by omega) ?_))
  refine x_aloadn (x := 95) rfl rfl ?_
  refine z_getR (N := 6) (b := 68) 2 0 rfl f_2_30 rfl J rfl 12160 ⟨rfl, rfl⟩ rfl ?_
  refine x_inv (N := m_X9_step) (As := []) (b := 68) (st := []) (dx9 := 2) (mc := 0) (ms := 0) (host := "") 9 rfl t_X9_step ⟨Or.inl q_2_62, i_X9_step.1, i_X9_step.2⟩ ⟨by decide, rfl⟩ (congrArg Prod.fst (J.1.1 68 (9, 6) rfl)) rfl (by decide) rfl rfl ⟨by decide, by decide⟩ (sf_X9_step_r68d  hD J z1 z0 (by omega) rfl  (fun h J S1 u2 u3 qu2 qu3 ru2 X4 => ?_))
  have Sm := jSm_tr rfl Sm S1
  rw [X4] at D
  have eu2 := (show 0 ≤ u2.toInt ∧ u2.toInt ≤ 3 from qu2 ▸ jrg_f J sg_68_5_6_1_0_1)
  try rw [vrf qu2] at D
  have eu3 := (show 0 ≤ u3.toInt ∧ u3.toInt ≤ 400 from qu3 ▸ jrg_f J sg_68_3_4_1_0_1)
  try rw [vrf qu3] at D
  show jX m_X2_readPlain 23 0 0 213 [(4, .int 7), (0, .ref 95), (1, .int 0), (2, .int l2)] [] _ 0 0 _
  refine x_aloadn (x := 95) rfl rfl ?_
  refine x_iloadn (x := 0) rfl rfl ?_
  refine x_inv (N := m_X2_readSum) (As := [.int 0]) (b := 95) (st := []) (dx9 := 22) (mc := 0) (ms := 0) (host := "") 2 rfl t_X2_readSum ⟨Or.inl q_2_86, i_X2_readSum.1, i_X2_readSum.2⟩ ⟨by decide, rfl⟩ (congrArg Prod.fst (J.1.1 95 (2, 6) rfl)) rfl (by decide) rfl rfl ⟨by decide, by decide⟩ (sf_X2_readSum_r95_c0d  hD J qu2 qu3 (by omega) rfl  (fun v10 h ev10 J S5 u6 u7 qu6 qu7 ru6 X8 X9 => ?_))
  have Sm := jSm_tr rfl Sm S5
  try rw [X8] at D
  try rw [X9] at D
  have eu6 := (show 0 ≤ u6.toInt ∧ u6.toInt ≤ 3 from qu6 ▸ jrg_f J sg_68_5_6_1_0_1)
  try rw [vrf qu6] at D
  have eu7 := (show 0 ≤ u7.toInt ∧ u7.toInt ≤ 400 from qu7 ▸ jrg_f J sg_68_3_4_1_0_1)
  try rw [vrf qu7] at D
  show jX m_X2_readPlain 23 0 0 218 [(4, .int 7), (0, .ref 95), (1, .int 0), (2, .int l2)] [.int v10] _ 0 0 _
  refine x_ifne (tgt := 223) rfl rfl (ti_ne rfl jk_0 ⟨fun c11 => ?_, fun c11 => ?_⟩)
  ·
    rw [if_neg (by omega)] at D
    refine x_aloadn (x := 95) rfl rfl ?_
    refine x_iload (x := 7) rfl rfl ?_
    refine x_inv (N := m_X2_emit) (As := [.int 7]) (b := 95) (st := []) (dx9 := 1) (mc := 0) (ms := 0) (host := "") 2 rfl t_X2_emit ⟨Or.inl q_2_89, i_X2_emit.1, i_X2_emit.2⟩ ⟨by decide, rfl⟩ (congrArg Prod.fst (J.1.1 95 (2, 6) rfl)) rfl (by decide) rfl rfl ⟨by decide, by decide⟩ (sf_X2_emit_r95d  hD J rfl  (fun h J S12 X13 => ?_))
    have Sm := jSm_tr rfl Sm S12
    try rw [jk_7] at X13
    rw [X13] at D
    show jX m_X2_readPlain 23 0 0 229 [(4, .int 7), (0, .ref 95), (1, .int 0), (2, .int l2)] [] _ 0 0 _
    exact jX.sub (jsb_c rfl (jsb_c rfl jsb_n)) (ct_X2_readPlain_r95_c0d_229 hD hQ  l2 u7 u6 h (jr_of rfl (by omega)) (jr_of rfl (by omega)) (jr_of rfl (by omega)) (by omega) (jmc S12 rfl qu7) (jmc S12 rfl qu6) J Sm D)
  ·
    rw [if_pos (by omega)] at D
    refine x_iconst (v := 0) rfl ki_0 ?_
    refine x_zret rfl rfl (by decide) ?_
    exact hQ _ _ (jr_of jk_0 (by omega)) J Sm _ _ qu6 qu7 (by omega) ((congrArg Prod.fst D).symm.trans (show 0 = (0 : Int32).toInt from by have := jk_0; omega)) (congrArg Prod.snd D).symm
set_option maxRecDepth 100000 in
set_option maxHeartbeats 4000000 in
theorem ct_X2_readPlain_r95_c0d_108 {Dy : jH → Prop} {h0 : jH} {Q : Option Value → jH → Prop} {dr : (Int × jW)} (hD : jDk Dy) (hQ : ∀ (v : Int32) hx9, 0 ≤ v.toInt ∧ v.toInt ≤ 1 → jJ jSgX Dy hx9 → jSm fp_X2_readPlain_r95_c0d h0 hx9 → ∀ u0 u1 : Int32, jiv hx9 68 5 = u0 → jiv hx9 68 3 = u1 → (u0.toInt ≠ 3 ∨ u1.toInt ≤ 399) → dr.1 = v.toInt → dr.2 = vw hx9 → Q (some (.int v)) hx9) : ∀ (g0 : Int32) (g1 : Int32) (h : jH), 0 ≤ g0.toInt ∧ g0.toInt ≤ 400 → 0 ≤ g1.toInt ∧ g1.toInt ≤ 3 → (g1.toInt ≠ 3 ∨ g0.toInt ≤ 399) → jiv h 68 3 = g0 → jiv h 68 5 = g1 → jJ jSgX Dy h → jSm fp_X2_readPlain_r95_c0d h0 h → d_X2_readPlain_r95_c0d_108  (vw h) = dr → jX m_X2_readPlain 23 0 0 108 [] [] h 0 0 Q := by
  intro g0 g1 h y0 y1 y2 z0 z1  J Sm D
  unfold d_X2_readPlain_r95_c0d_108 at D
  try rw [vrf z0] at D
  try rw [vrf z1] at D
  refine x_iconst (v := 0) rfl ki_0 ?_
  refine x_zret rfl rfl (by decide) ?_
  exact hQ _ _ (jr_of jk_0 (by omega)) J Sm _ _ z1 z0 (by omega) ((congrArg Prod.fst D).symm.trans (show 0 = (0 : Int32).toInt from by have := jk_0; omega)) (congrArg Prod.snd D).symm
set_option maxRecDepth 100000 in
set_option maxHeartbeats 4000000 in
theorem ct_X2_readPlain_r95_c0d_46 {Dy : jH → Prop} {h0 : jH} {Q : Option Value → jH → Prop} {dr : (Int × jW)} (hD : jDk Dy) (hQ : ∀ (v : Int32) hx9, 0 ≤ v.toInt ∧ v.toInt ≤ 1 → jJ jSgX Dy hx9 → jSm fp_X2_readPlain_r95_c0d h0 hx9 → ∀ u0 u1 : Int32, jiv hx9 68 5 = u0 → jiv hx9 68 3 = u1 → (u0.toInt ≠ 3 ∨ u1.toInt ≤ 399) → dr.1 = v.toInt → dr.2 = vw hx9 → Q (some (.int v)) hx9) : ∀ (l2 : Int32) (g0 : Int32) (g1 : Int32) (h : jH), 0 ≤ l2.toInt ∧ l2.toInt ≤ 1 → 0 ≤ g0.toInt ∧ g0.toInt ≤ 400 → 0 ≤ g1.toInt ∧ g1.toInt ≤ 3 → (g1.toInt ≠ 3 ∨ g0.toInt ≤ 399) → jiv h 68 3 = g0 → jiv h 68 5 = g1 → jJ jSgX Dy h → jSm fp_X2_readPlain_r95_c0d h0 h → d_X2_readPlain_r95_c0d_46  l2.toInt (vw h) = dr → jX m_X2_readPlain 23 0 0 46 [(0, .ref 95), (1, .int 0), (2, .int l2)] [] h 0 0 Q := by
  intro l2 g0 g1 h y0 y1 y2 y3 z0 z1  J Sm D
  unfold d_X2_readPlain_r95_c0d_46 at D
  try rw [vrf z0] at D
  try rw [vrf z1] at D
  refine x_aloadn (x := 95) rfl rfl ?_
  refine z_getR (N := 6) (b := 68) 2 0 rfl f_2_30 rfl J rfl 12160 ⟨rfl, rfl⟩ rfl ?_
  refine x_ldcS (jstr.getD 10 jstr_0) rfl (List.mem_of_getElem? (i := 10) rfl) rfl rfl ?_
  show jX m_X2_readPlain 23 0 0 52 [(0, .ref 95), (1, .int 0), (2, .int l2)] [.ref 15, .ref 68] _ 0 0 _
  refine x_inv (N := m_X9_wordOf) (As := [.ref 15]) (b := 68) (st := []) (dx9 := 4) (mc := 0) (ms := 0) (host := "") 9 rfl t_X9_wordOf ⟨Or.inl q_2_67, i_X9_wordOf.1, i_X9_wordOf.2⟩ ⟨by decide, rfl⟩ (congrArg Prod.fst (J.1.1 68 (9, 6) rfl)) rfl (by decide) rfl rfl ⟨by decide, by decide⟩ (sf_X9_wordOf_r68_r15d  hD J rfl  (fun v4 h J S1 X2 X3 => ?_))
  have ev4 := jfull v4
  have Sm := jSm_tr rfl Sm S1
  try rw [X2] at D
  try rw [← X3] at D
  show jX m_X2_readPlain 23 0 0 55 [(0, .ref 95), (1, .int 0), (2, .int l2)] [.int v4] _ 0 0 _
  refine x_istoren (lsx9 := [(3, .int v4), (0, .ref 95), (1, .int 0), (2, .int l2)]) rfl rfl rfl ?_
  refine x_aloadn (x := 95) rfl rfl ?_
  refine z_getR (N := 6) (b := 68) 2 0 rfl f_2_30 rfl J rfl 12160 ⟨rfl, rfl⟩ rfl ?_
  refine x_bipush (v := 40) rfl kb_40 ?_
  refine x_inv (N := m_X9_isSign) (As := [.int 40]) (b := 68) (st := []) (dx9 := 1) (mc := 0) (ms := 0) (host := "") 9 rfl t_X9_isSign ⟨Or.inl q_2_55, i_X9_isSign.1, i_X9_isSign.2⟩ ⟨by decide, rfl⟩ (congrArg Prod.fst (J.1.1 68 (9, 6) rfl)) rfl (by decide) rfl rfl ⟨by decide, by decide⟩ (sf_X9_isSign_r68d (jr_of jk_40 (by omega)) hD J (jmc S1 rfl z1) (jmc S1 rfl z0) (by omega) rfl  (fun v10 h ev10 J S5 u6 u7 qu6 qu7 ru6 X8 X9 => ?_))
  have Sm := jSm_tr rfl Sm S5
  try rw [jk_40] at X8
  try rw [X8] at D
  try rw [← X9] at D
  have eu6 := (show 0 ≤ u6.toInt ∧ u6.toInt ≤ 3 from qu6 ▸ jrg_f J sg_68_5_6_1_0_1)
  have Luu6 := congrArg Int32.toInt (((jmc S5 rfl (jmc S1 rfl z1))).symm.trans qu6)
  try rw [Luu6] at D
  try rw [vrf qu6] at D
  have eu7 := (show 0 ≤ u7.toInt ∧ u7.toInt ≤ 400 from qu7 ▸ jrg_f J sg_68_3_4_1_0_1)
  have Luu7 := congrArg Int32.toInt (((jmc S5 rfl (jmc S1 rfl z0))).symm.trans qu7)
  try rw [Luu7] at D
  try rw [vrf qu7] at D
  show jX m_X2_readPlain 23 0 0 65 [(3, .int v4), (0, .ref 95), (1, .int 0), (2, .int l2)] [.int v10] _ 0 0 _
  refine x_ifeq (tgt := 110) rfl rfl (ti_eq rfl jk_0 ⟨fun c11 => ?_, fun c11 => ?_⟩)
  ·
    rw [if_pos (by omega)] at D
    refine x_iloadn (x := v4) rfl rfl ?_
    refine x_iconst (v := (-1)) rfl ki_m1 ?_
    refine x_iceq (tgt := 128) rfl rfl (ti_eq rfl jk_m1 ⟨fun c12 => ?_, fun c12 => ?_⟩)
    ·
      rw [if_pos (by omega)] at D
      refine x_aloadn (x := 95) rfl rfl ?_
      refine x_iloadn (x := 0) rfl rfl ?_
      refine x_inv (N := m_X2_readSum) (As := [.int 0]) (b := 95) (st := []) (dx9 := 22) (mc := 0) (ms := 0) (host := "") 2 rfl t_X2_readSum ⟨Or.inl q_2_86, i_X2_readSum.1, i_X2_readSum.2⟩ ⟨by decide, rfl⟩ (congrArg Prod.fst (J.1.1 95 (2, 6) rfl)) rfl (by decide) rfl rfl ⟨by decide, by decide⟩ (sf_X2_readSum_r95_c0d  hD J qu6 qu7 (by omega) rfl  (fun v18 h ev18 J S13 u14 u15 qu14 qu15 ru14 X16 X17 => ?_))
      have Sm := jSm_tr rfl Sm S13
      try rw [X16] at D
      try rw [X17] at D
      have eu14 := (show 0 ≤ u14.toInt ∧ u14.toInt ≤ 3 from qu14 ▸ jrg_f J sg_68_5_6_1_0_1)
      try rw [vrf qu14] at D
      have eu15 := (show 0 ≤ u15.toInt ∧ u15.toInt ≤ 400 from qu15 ▸ jrg_f J sg_68_3_4_1_0_1)
      try rw [vrf qu15] at D
      show jX m_X2_readPlain 23 0 0 133 [(3, .int v4), (0, .ref 95), (1, .int 0), (2, .int l2)] [.int v18] _ 0 0 _
      refine x_ifne (tgt := 138) rfl rfl (ti_ne rfl jk_0 ⟨fun c19 => ?_, fun c19 => ?_⟩)
      ·
        rw [if_neg (by omega)] at D
        refine x_aloadn (x := 95) rfl rfl ?_
        refine z_getR (N := 6) (b := 68) 2 0 rfl f_2_30 rfl J rfl 12160 ⟨rfl, rfl⟩ rfl ?_
        refine x_bipush (v := 60) rfl kb_60 ?_
        refine x_inv (N := m_X9_isSign) (As := [.int 60]) (b := 68) (st := []) (dx9 := 1) (mc := 0) (ms := 0) (host := "") 9 rfl t_X9_isSign ⟨Or.inl q_2_55, i_X9_isSign.1, i_X9_isSign.2⟩ ⟨by decide, rfl⟩ (congrArg Prod.fst (J.1.1 68 (9, 6) rfl)) rfl (by decide) rfl rfl ⟨by decide, by decide⟩ (sf_X9_isSign_r68d (jr_of jk_60 (by omega)) hD J qu14 qu15 (by omega) rfl  (fun v25 h ev25 J S20 u21 u22 qu21 qu22 ru21 X23 X24 => ?_))
        have Sm := jSm_tr rfl Sm S20
        try rw [jk_60] at X23
        try rw [X23] at D
        try rw [← X24] at D
        have eu21 := (show 0 ≤ u21.toInt ∧ u21.toInt ≤ 3 from qu21 ▸ jrg_f J sg_68_5_6_1_0_1)
        have Luu21 := congrArg Int32.toInt (((jmc S20 rfl qu14)).symm.trans qu21)
        try rw [Luu21] at D
        try rw [vrf qu21] at D
        have eu22 := (show 0 ≤ u22.toInt ∧ u22.toInt ≤ 400 from qu22 ▸ jrg_f J sg_68_3_4_1_0_1)
        have Luu22 := congrArg Int32.toInt (((jmc S20 rfl qu15)).symm.trans qu22)
        try rw [Luu22] at D
        try rw [vrf qu22] at D
        show jX m_X2_readPlain 23 0 0 147 [(3, .int v4), (0, .ref 95), (1, .int 0), (2, .int l2)] [.int v25] _ 0 0 _
        refine x_ifeq (tgt := 155) rfl rfl (ti_eq rfl jk_0 ⟨fun c26 => ?_, fun c26 => ?_⟩)
        ·
          rw [if_pos (by omega)] at D
          refine x_aloadn (x := 95) rfl rfl ?_
          refine z_getR (N := 6) (b := 68) 2 0 rfl f_2_30 rfl J rfl 12160 ⟨rfl, rfl⟩ rfl ?_
          refine x_bipush (v := 62) rfl kb_62 ?_
          refine x_inv (N := m_X9_isSign) (As := [.int 62]) (b := 68) (st := []) (dx9 := 1) (mc := 0) (ms := 0) (host := "") 9 rfl t_X9_isSign ⟨Or.inl q_2_55, i_X9_isSign.1, i_X9_isSign.2⟩ ⟨by decide, rfl⟩ (congrArg Prod.fst (J.1.1 68 (9, 6) rfl)) rfl (by decide) rfl rfl ⟨by decide, by decide⟩ (sf_X9_isSign_r68d (jr_of jk_62 (by omega)) hD J qu21 qu22 (by omega) rfl  (fun v32 h ev32 J S27 u28 u29 qu28 qu29 ru28 X30 X31 => ?_))
          have Sm := jSm_tr rfl Sm S27
          try rw [jk_62] at X30
          try rw [X30] at D
          try rw [← X31] at D
          have eu28 := (show 0 ≤ u28.toInt ∧ u28.toInt ≤ 3 from qu28 ▸ jrg_f J sg_68_5_6_1_0_1)
          have Luu28 := congrArg Int32.toInt (((jmc S27 rfl qu21)).symm.trans qu28)
          try rw [Luu28] at D
          try rw [vrf qu28] at D
          have eu29 := (show 0 ≤ u29.toInt ∧ u29.toInt ≤ 400 from qu29 ▸ jrg_f J sg_68_3_4_1_0_1)
          have Luu29 := congrArg Int32.toInt (((jmc S27 rfl qu22)).symm.trans qu29)
          try rw [Luu29] at D
          try rw [vrf qu29] at D
          show jX m_X2_readPlain 23 0 0 164 [(3, .int v4), (0, .ref 95), (1, .int 0), (2, .int l2)] [.int v32] _ 0 0 _
          refine x_ifeq (tgt := 172) rfl rfl (ti_eq rfl jk_0 ⟨fun c33 => ?_, fun c33 => ?_⟩)
          ·
            rw [if_pos (by omega)] at D
            refine x_aloadn (x := 95) rfl rfl ?_
            refine z_getR (N := 6) (b := 68) 2 0 rfl f_2_30 rfl J rfl 12160 ⟨rfl, rfl⟩ rfl ?_
            refine x_bipush (v := 61) rfl kb_61 ?_
            refine x_inv (N := m_X9_isSign) (As := [.int 61]) (b := 68) (st := []) (dx9 := 1) (mc := 0) (ms := 0) (host := "") 9 rfl t_X9_isSign ⟨Or.inl q_2_55, i_X9_isSign.1, i_X9_isSign.2⟩ ⟨by decide, rfl⟩ (congrArg Prod.fst (J.1.1 68 (9, 6) rfl)) rfl (by decide) rfl rfl ⟨by decide, by decide⟩ (sf_X9_isSign_r68d (jr_of jk_61 (by omega)) hD J qu28 qu29 (by omega) rfl  (fun v39 h ev39 J S34 u35 u36 qu35 qu36 ru35 X37 X38 => ?_))
            have Sm := jSm_tr rfl Sm S34
            try rw [jk_61] at X37
            try rw [X37] at D
            try rw [← X38] at D
            have eu35 := (show 0 ≤ u35.toInt ∧ u35.toInt ≤ 3 from qu35 ▸ jrg_f J sg_68_5_6_1_0_1)
            have Luu35 := congrArg Int32.toInt (((jmc S34 rfl qu28)).symm.trans qu35)
            try rw [Luu35] at D
            try rw [vrf qu35] at D
            have eu36 := (show 0 ≤ u36.toInt ∧ u36.toInt ≤ 400 from qu36 ▸ jrg_f J sg_68_3_4_1_0_1)
            have Luu36 := congrArg Int32.toInt (((jmc S34 rfl qu29)).symm.trans qu36)
            try rw [Luu36] at D
            try rw [vrf qu36] at D
            show jX m_X2_readPlain 23 0 0 181 [(3, .int v4), (0, .ref 95), (1, .int 0), (2, .int l2)] [.int v39] _ 0 0 _
            refine x_ifeq (tgt := 189) rfl rfl (ti_eq rfl jk_0 ⟨fun c40 => ?_, fun c40 => ?_⟩)
            ·
              rw [if_pos (by omega)] at D
              refine x_iconst (v := (-1)) rfl ki_m1 ?_
              exact jX.sub (jsb_c rfl (jsb_c rfl (jsb_c rfl jsb_n))) (ct_X2_readPlain_r95_c0d_100190 hD hQ  l2 u36 u35 h (jr_of rfl (by omega)) (jr_of rfl (by omega)) (jr_of rfl (by omega)) (by omega) qu36 qu35 J Sm D)
            ·
              rw [if_neg (by omega)] at D
              refine x_bipush (v := 9) rfl kb_9 ?_
              refine x_goto (tgt := 190) rfl rfl ?_
              exact jX.sub (jsb_c rfl (jsb_c rfl (jsb_c rfl jsb_n))) (ct_X2_readPlain_r95_c0d_190 hD hQ  l2 u36 u35 h (jr_of rfl (by omega)) (jr_of rfl (by omega)) (jr_of rfl (by omega)) (by omega) qu36 qu35 J Sm D)
          ·
            rw [if_neg (by omega)] at D
            refine x_bipush (v := 8) rfl kb_8 ?_
            refine x_goto (tgt := 190) rfl rfl ?_
            exact jX.sub (jsb_c rfl (jsb_c rfl (jsb_c rfl jsb_n))) (ct_X2_readPlain_r95_c0d_1000190 hD hQ  l2 u29 u28 h (jr_of rfl (by omega)) (jr_of rfl (by omega)) (jr_of rfl (by omega)) (by omega) qu29 qu28 J Sm D)
        ·
          rw [if_neg (by omega)] at D
          refine x_bipush (v := 7) rfl kb_7 ?_
          refine x_goto (tgt := 190) rfl rfl ?_
          exact jX.sub (jsb_c rfl (jsb_c rfl (jsb_c rfl jsb_n))) (ct_X2_readPlain_r95_c0d_900190 hD hQ  l2 u22 u21 h (jr_of rfl (by omega)) (jr_of rfl (by omega)) (jr_of rfl (by omega)) (by omega) qu22 qu21 J Sm D)
      ·
        rw [if_pos (by omega)] at D
        refine x_iconst (v := 0) rfl ki_0 ?_
        refine x_zret rfl rfl (by decide) ?_
        exact hQ _ _ (jr_of jk_0 (by omega)) J Sm _ _ qu14 qu15 (by omega) ((congrArg Prod.fst D).symm.trans (show 0 = (0 : Int32).toInt from by have := jk_0; omega)) (congrArg Prod.snd D).symm
    ·
      rw [if_neg (by omega)] at D
      refine x_aloadn (x := 95) rfl rfl ?_
      refine x_iconst (v := 2) rfl ki_2 ?_
      refine x_iconst (v := 5) rfl ki_5 ?_
      refine x_iloadn (x := v4) rfl rfl ?_
      refine z_iaddW rfl jk_5 rfl (fun v41 ev41 => ?_)
      have fv41 := jfull v41
      try rw [← ev41] at D
      refine x_inv (N := m_X2_readPart) (As := [.int 2, .int v41]) (b := 95) (st := []) (dx9 := 3) (mc := 0) (ms := 0) (host := "") 2 rfl t_X2_readPart ⟨Or.inl q_2_141, i_X2_readPart.1, i_X2_readPart.2⟩ ⟨by decide, rfl⟩ (congrArg Prod.fst (J.1.1 95 (2, 6) rfl)) rfl (by decide) rfl rfl ⟨by decide, by decide⟩ (sf_X2_readPart_r95d (jr_of jk_2 (by omega)) hD J qu6 qu7 (by omega) rfl  (fun v47 h ev47 J S42 u43 u44 qu43 qu44 ru43 X45 X46 => ?_))
      have Sm := jSm_tr rfl Sm S42
      try rw [jk_2] at X45
      try rw [jk_2] at X46
      try rw [X45] at D
      try rw [X46] at D
      have eu43 := (show 0 ≤ u43.toInt ∧ u43.toInt ≤ 3 from qu43 ▸ jrg_f J sg_68_5_6_1_0_1)
      try rw [vrf qu43] at D
      have eu44 := (show 0 ≤ u44.toInt ∧ u44.toInt ≤ 400 from qu44 ▸ jrg_f J sg_68_3_4_1_0_1)
      try rw [vrf qu44] at D
      show jX m_X2_readPlain 23 0 0 123 [(3, .int v4), (0, .ref 95), (1, .int 0), (2, .int l2)] [.int v47] _ 0 0 _
      refine x_ifne (tgt := 229) rfl rfl (ti_ne rfl jk_0 ⟨fun c48 => ?_, fun c48 => ?_⟩)
      ·
        rw [if_neg (by omega)] at D
        exact jX.sub (jsb_c rfl (jsb_c rfl jsb_n)) (ct_X2_readPlain_r95_c0d_229 hD hQ  l2 u44 u43 h (jr_of rfl (by omega)) (jr_of rfl (by omega)) (jr_of rfl (by omega)) (by omega) qu44 qu43 J Sm D)
      ·
        rw [if_pos (by omega)] at D
        refine x_iconst (v := 0) rfl ki_0 ?_
        refine x_zret rfl rfl (by decide) ?_
        exact hQ _ _ (jr_of jk_0 (by omega)) J Sm _ _ qu43 qu44 (by omega) ((congrArg Prod.fst D).symm.trans (show 0 = (0 : Int32).toInt from by have := jk_0; omega)) (congrArg Prod.snd D).symm
  ·
    rw [if_neg (by omega)] at D
    refine x_iloadn (x := 0) rfl rfl ?_
    refine x_bipush (v := 8) rfl kb_8 ?_
    refine x_iclt (tgt := 82) rfl rfl (ti_lt jk_0 jk_8 (br_t (by omega) ?_))
    refine x_aloadn (x := 95) rfl rfl ?_
    refine z_getR (N := 6) (b := 68) 2 0 rfl f_2_30 rfl J rfl 12160 ⟨rfl, rfl⟩ rfl ?_
    refine x_inv (N := m_X9_step) (As := []) (b := 68) (st := []) (dx9 := 2) (mc := 0) (ms := 0) (host := "") 9 rfl t_X9_step ⟨Or.inl q_2_62, i_X9_step.1, i_X9_step.2⟩ ⟨by decide, rfl⟩ (congrArg Prod.fst (J.1.1 68 (9, 6) rfl)) rfl (by decide) rfl rfl ⟨by decide, by decide⟩ (sf_X9_step_r68d  hD J qu6 qu7 (by omega) rfl  (fun h J S49 u50 u51 qu50 qu51 ru50 X52 => ?_))
    have Sm := jSm_tr rfl Sm S49
    rw [X52] at D
    have eu50 := (show 0 ≤ u50.toInt ∧ u50.toInt ≤ 3 from qu50 ▸ jrg_f J sg_68_5_6_1_0_1)
    try rw [vrf qu50] at D
    have eu51 := (show 0 ≤ u51.toInt ∧ u51.toInt ≤ 400 from qu51 ▸ jrg_f J sg_68_3_4_1_0_1)
    try rw [vrf qu51] at D
    show jX m_X2_readPlain 23 0 0 89 [(3, .int v4), (0, .ref 95), (1, .int 0), (2, .int l2)] [] _ 0 0 _
    refine x_aloadn (x := 95) rfl rfl ?_
    refine x_iloadn (x := 0) rfl rfl ?_
    refine x_iconst (v := 1) rfl ki_1 ?_
    refine y_iadd (v := 1) rfl (by decide) ?_
    refine x_inv (N := m_X2_readTest) (As := [.int 1]) (b := 95) (st := []) (dx9 := 22) (mc := 0) (ms := 0) (host := "") 2 rfl t_X2_readTest ⟨Or.inl q_2_96, i_X2_readTest.1, i_X2_readTest.2⟩ ⟨by decide, rfl⟩ (congrArg Prod.fst (J.1.1 95 (2, 6) rfl)) rfl (by decide) rfl rfl ⟨by decide, by decide⟩ (sf_X2_readTest_r95_c1d  hD J qu50 qu51 (by omega) rfl  (fun v58 h ev58 J S53 u54 u55 qu54 qu55 ru54 X56 X57 => ?_))
    have Sm := jSm_tr rfl Sm S53
    try rw [X56] at D
    try rw [X57] at D
    have eu54 := (show 0 ≤ u54.toInt ∧ u54.toInt ≤ 3 from qu54 ▸ jrg_f J sg_68_5_6_1_0_1)
    try rw [vrf qu54] at D
    have eu55 := (show 0 ≤ u55.toInt ∧ u55.toInt ≤ 400 from qu55 ▸ jrg_f J sg_68_3_4_1_0_1)
    try rw [vrf qu55] at D
    show jX m_X2_readPlain 23 0 0 96 [(3, .int v4), (0, .ref 95), (1, .int 0), (2, .int l2)] [.int v58] _ 0 0 _
    refine x_ifeq (tgt := 108) rfl rfl (ti_eq rfl jk_0 ⟨fun c59 => ?_, fun c59 => ?_⟩)
    ·
      rw [if_pos (by omega)] at D
      exact jX.sub jsb_n (ct_X2_readPlain_r95_c0d_108 hD hQ  u55 u54 h (jr_of rfl (by omega)) (jr_of rfl (by omega)) (by omega) qu55 qu54 J Sm D)
    ·
      rw [if_neg (by omega)] at D
      refine x_aloadn (x := 95) rfl rfl ?_
      refine x_bipush (v := 41) rfl kb_41 ?_
      refine x_inv (N := m_X2_readSign) (As := [.int 41]) (b := 95) (st := []) (dx9 := 22) (mc := 0) (ms := 0) (host := "") 2 rfl t_X2_readSign ⟨Or.inl q_2_138, i_X2_readSign.1, i_X2_readSign.2⟩ ⟨by decide, rfl⟩ (congrArg Prod.fst (J.1.1 95 (2, 6) rfl)) rfl (by decide) rfl rfl ⟨by decide, by decide⟩ (jC.of rfl k_X2_readSign rfl ?_)
      show jX m_X2_readSign 22 0 0 0 [(0, .ref 95), (1, .int 41)] [] _ 0 0 _
      refine x_aloadn (x := 95) rfl rfl ?_
      refine z_getR (N := 6) (b := 68) 2 0 rfl f_2_30 rfl J rfl 12160 ⟨rfl, rfl⟩ rfl ?_
      refine x_iloadn (x := 41) rfl rfl ?_
      refine x_inv (N := m_X9_isSign) (As := [.int 41]) (b := 68) (st := []) (dx9 := 1) (mc := 0) (ms := 0) (host := "") 9 rfl t_X9_isSign ⟨Or.inl q_2_55, i_X9_isSign.1, i_X9_isSign.2⟩ ⟨by decide, rfl⟩ (congrArg Prod.fst (J.1.1 68 (9, 6) rfl)) rfl (by decide) rfl rfl ⟨by decide, by decide⟩ (sf_X9_isSign_r68d (jr_of jk_41 (by omega)) hD J qu54 qu55 (by omega) rfl  (fun v65 h ev65 J S60 u61 u62 qu61 qu62 ru61 X63 X64 => ?_))
      have Sm := jSm_tr rfl Sm S60
      try rw [jk_41] at X63
      try rw [X63] at D
      try rw [← X64] at D
      have eu61 := (show 0 ≤ u61.toInt ∧ u61.toInt ≤ 3 from qu61 ▸ jrg_f J sg_68_5_6_1_0_1)
      have Luu61 := congrArg Int32.toInt (((jmc S60 rfl qu54)).symm.trans qu61)
      try rw [Luu61] at D
      try rw [vrf qu61] at D
      have eu62 := (show 0 ≤ u62.toInt ∧ u62.toInt ≤ 400 from qu62 ▸ jrg_f J sg_68_3_4_1_0_1)
      have Luu62 := congrArg Int32.toInt (((jmc S60 rfl qu55)).symm.trans qu62)
      try rw [Luu62] at D
      try rw [vrf qu62] at D
      show jX m_X2_readSign 22 0 0 8 [(0, .ref 95), (1, .int 41)] [.int v65] _ 0 0 _
      refine x_ifne (tgt := 19) rfl rfl (ti_ne rfl jk_0 ⟨fun c66 => ?_, fun c66 => ?_⟩)
      ·
        rw [if_neg (by omega)] at D
        refine x_aloadn (x := 95) rfl rfl ?_
        refine z_getR (N := 6) (b := 68) 2 0 rfl f_2_30 rfl J rfl 12160 ⟨rfl, rfl⟩ rfl ?_
        refine x_inv (N := m_X9_step) (As := []) (b := 68) (st := []) (dx9 := 2) (mc := 0) (ms := 0) (host := "") 9 rfl t_X9_step ⟨Or.inl q_2_62, i_X9_step.1, i_X9_step.2⟩ ⟨by decide, rfl⟩ (congrArg Prod.fst (J.1.1 68 (9, 6) rfl)) rfl (by decide) rfl rfl ⟨by decide, by decide⟩ (sf_X9_step_r68d  hD J qu61 qu62 (by omega) rfl  (fun h J S67 u68 u69 qu68 qu69 ru68 X70 => ?_))
        have Sm := jSm_tr rfl Sm S67
        rw [X70] at D
        have eu68 := (show 0 ≤ u68.toInt ∧ u68.toInt ≤ 3 from qu68 ▸ jrg_f J sg_68_5_6_1_0_1)
        try rw [vrf qu68] at D
        have eu69 := (show 0 ≤ u69.toInt ∧ u69.toInt ≤ 400 from qu69 ▸ jrg_f J sg_68_3_4_1_0_1)
        try rw [vrf qu69] at D
        show jX m_X2_readSign 22 0 0 26 [(0, .ref 95), (1, .int 41)] [] _ 0 0 _
        refine x_iconst (v := 1) rfl ki_1 ?_
        refine x_zret rfl rfl (by decide) ?_
        show jX m_X2_readPlain 23 0 0 105 [(3, .int v4), (0, .ref 95), (1, .int 0), (2, .int l2)] [.int 1] _ 0 0 _
        refine x_ifne (tgt := 229) rfl rfl (ti_ne jk_1 jk_0 (bn_t (by omega) ?_))
        exact jX.sub (jsb_c rfl (jsb_c rfl jsb_n)) (ct_X2_readPlain_r95_c0d_229 hD hQ  l2 u69 u68 h (jr_of rfl (by omega)) (jr_of rfl (by omega)) (jr_of rfl (by omega)) (by omega) qu69 qu68 J Sm D)
      ·
        rw [if_pos (by omega)] at D
        refine x_aloadn (x := 95) rfl rfl ?_
        refine z_getR (N := 6) (b := 68) 2 0 rfl f_2_30 rfl J rfl 12160 ⟨rfl, rfl⟩ rfl ?_
        refine x_inv (N := m_X9_blame) (As := []) (b := 68) (st := []) (dx9 := 21) (mc := 0) (ms := 0) (host := "") 9 rfl t_X9_blame ⟨Or.inl q_2_59, i_X9_blame.1, i_X9_blame.2⟩ ⟨by decide, rfl⟩ (congrArg Prod.fst (J.1.1 68 (9, 6) rfl)) rfl (by decide) rfl rfl ⟨by decide, by decide⟩ (jC.of rfl k_X9_blame rfl ?_)
        show jX m_X9_blame 21 0 0 0 [(0, .ref 68)] [] _ 0 0 _
        refine x_aloadn (x := 68) rfl rfl ?_
        refine x_aloadn (x := 68) rfl rfl ?_
        refine z_getM (N := 6) (v := u62) 9 3 rfl f_9_22 rfl J rfl qu62 ?_
        refine z_putI (N := 6) (w := u62.toInt) 9 2 rfl f_9_19 rfl (jfin_no TX9 RX9 6 rfl rfl) hD J Sm rfl rfl rfl (pw_68_2 (by omega)) rfl (fun h w71 J Sm => ?_)
        rw [vwf w71 (show u62.toInt = u62.toInt from by omega)] at D
        refine x_iconst (v := 0) rfl ki_0 ?_
        refine x_zret rfl rfl (by decide) ?_
        show jX m_X2_readSign 22 0 0 18 [(0, .ref 95), (1, .int 41)] [.int 0] _ 0 0 _
        refine x_zret rfl rfl (by decide) ?_
        show jX m_X2_readPlain 23 0 0 105 [(3, .int v4), (0, .ref 95), (1, .int 0), (2, .int l2)] [.int 0] _ 0 0 _
        refine x_ifne (tgt := 229) rfl rfl (ti_ne jk_0 jk_0 (bn_f (by omega) ?_))
        exact jX.sub jsb_n (ct_X2_readPlain_r95_c0d_108 hD hQ  u62 u61 h (jr_of rfl (by omega)) (jr_of rfl (by omega)) (by omega) (jmo w71 rfl qu62) (jmo w71 rfl qu61) J Sm D)
set_option maxRecDepth 100000 in
set_option maxHeartbeats 4000000 in
theorem ct_X2_readPlain_r95_c0d_300032 {Dy : jH → Prop} {h0 : jH} {Q : Option Value → jH → Prop} {dr : (Int × jW)} {K4 : Int → Int → jW → (Int × jW)} {R4 : Int} (hD : jDk Dy) (hQ : ∀ (v : Int32) hx9, 0 ≤ v.toInt ∧ v.toInt ≤ 1 → jJ jSgX Dy hx9 → jSm fp_X2_readPlain_r95_c0d h0 hx9 → ∀ u0 u1 : Int32, jiv hx9 68 5 = u0 → jiv hx9 68 3 = u1 → (u0.toInt ≠ 3 ∨ u1.toInt ≤ 399) → dr.1 = v.toInt → dr.2 = vw hx9 → Q (some (.int v)) hx9) (k4 : ∀ (l2 : Int32) (l3 : Int32) (g0 : Int32) (g1 : Int32) (h : jH), 400 - l3.toInt < R4 → 0 ≤ l2.toInt ∧ l2.toInt ≤ 1 → 0 ≤ l3.toInt ∧ l3.toInt ≤ 400 → 0 ≤ g0.toInt ∧ g0.toInt ≤ 400 → 0 ≤ g1.toInt ∧ g1.toInt ≤ 3 → (g1.toInt ≠ 3 ∨ g0.toInt ≤ 399) → jiv h 68 3 = g0 → jiv h 68 5 = g1 → jJ jSgX Dy h → jSm fp_X2_readPlain_r95_c0d h0 h → K4 l2.toInt l3.toInt (vw h) = dr → jX m_X2_readPlain 23 0 0 4 [(0, .ref 95), (1, .int 0), (2, .int l2), (3, .int l3)] [] h 0 0 Q) : ∀ (l3 : Int32) (g0 : Int32) (g1 : Int32) (h : jH), 0 ≤ l3.toInt ∧ l3.toInt ≤ 399 → 0 ≤ g0.toInt ∧ g0.toInt ≤ 400 → 0 ≤ g1.toInt ∧ g1.toInt ≤ 3 → (g1.toInt ≠ 3 ∨ g0.toInt ≤ 399) → jiv h 68 3 = g0 → jiv h 68 5 = g1 → 400 - l3.toInt ≤ R4 → jJ jSgX Dy h → jSm fp_X2_readPlain_r95_c0d h0 h → d_X2_readPlain_r95_c0d_300032 K4  l3.toInt (vw h) = dr → jX m_X2_readPlain 23 0 0 32 [(0, .ref 95), (1, .int 0), (3, .int l3)] [.int 1] h 0 0 Q := by
  intro l3 g0 g1 h y0 y1 y2 y3 z0 z1 m4 J Sm D
  unfold d_X2_readPlain_r95_c0d_300032 at D
  try rw [vrf z0] at D
  try rw [vrf z1] at D
  refine x_istoren (lsx9 := [(2, .int 1), (0, .ref 95), (1, .int 0), (3, .int l3)]) rfl rfl rfl ?_
  refine x_aloadn (x := 95) rfl rfl ?_
  refine z_getR (N := 6) (b := 68) 2 0 rfl f_2_30 rfl J rfl 12160 ⟨rfl, rfl⟩ rfl ?_
  refine x_inv (N := m_X9_step) (As := []) (b := 68) (st := []) (dx9 := 2) (mc := 0) (ms := 0) (host := "") 9 rfl t_X9_step ⟨Or.inl q_2_62, i_X9_step.1, i_X9_step.2⟩ ⟨by decide, rfl⟩ (congrArg Prod.fst (J.1.1 68 (9, 6) rfl)) rfl (by decide) rfl rfl ⟨by decide, by decide⟩ (sf_X9_step_r68d  hD J z1 z0 (by omega) rfl  (fun h J S1 u2 u3 qu2 qu3 ru2 X4 => ?_))
  have Sm := jSm_tr rfl Sm S1
  rw [X4] at D
  have eu2 := (show 0 ≤ u2.toInt ∧ u2.toInt ≤ 3 from qu2 ▸ jrg_f J sg_68_5_6_1_0_1)
  try rw [vrf qu2] at D
  have eu3 := (show 0 ≤ u3.toInt ∧ u3.toInt ≤ 400 from qu3 ▸ jrg_f J sg_68_3_4_1_0_1)
  try rw [vrf qu3] at D
  show jX m_X2_readPlain 23 0 0 40 [(2, .int 1), (0, .ref 95), (1, .int 0), (3, .int l3)] [] _ 0 0 _
  refine z_iinc (x := l3) (lsx9 := fun v5 => [(3, .int v5), (2, .int 1), (0, .ref 95), (1, .int 0)]) rfl rfl rfl jko_1 (by omega) rfl (fun _ => rfl) (fun v5 ev5 => ?_)
  refine x_goto (tgt := 4) rfl rfl ?_
  try rw [show (l3.toInt + 1) = v5.toInt from by omega] at D
  exact jX.sub (jsb_c rfl (jsb_c rfl (jsb_c rfl (jsb_c rfl jsb_n)))) (k4 1 v5 u3 u2 h (by omega) (jr_of jk_1 (by omega)) (jr_of rfl (by omega)) (jr_of rfl (by omega)) (jr_of rfl (by omega)) (by omega) qu3 qu2 J Sm (by rw [jk_1]; exact D))
set_option maxRecDepth 100000 in
set_option maxHeartbeats 4000000 in
theorem ct_X2_readPlain_r95_c0d_200032 {Dy : jH → Prop} {h0 : jH} {Q : Option Value → jH → Prop} {dr : (Int × jW)} {K4 : Int → Int → jW → (Int × jW)} {R4 : Int} (hD : jDk Dy) (hQ : ∀ (v : Int32) hx9, 0 ≤ v.toInt ∧ v.toInt ≤ 1 → jJ jSgX Dy hx9 → jSm fp_X2_readPlain_r95_c0d h0 hx9 → ∀ u0 u1 : Int32, jiv hx9 68 5 = u0 → jiv hx9 68 3 = u1 → (u0.toInt ≠ 3 ∨ u1.toInt ≤ 399) → dr.1 = v.toInt → dr.2 = vw hx9 → Q (some (.int v)) hx9) (k4 : ∀ (l2 : Int32) (l3 : Int32) (g0 : Int32) (g1 : Int32) (h : jH), 400 - l3.toInt < R4 → 0 ≤ l2.toInt ∧ l2.toInt ≤ 1 → 0 ≤ l3.toInt ∧ l3.toInt ≤ 400 → 0 ≤ g0.toInt ∧ g0.toInt ≤ 400 → 0 ≤ g1.toInt ∧ g1.toInt ≤ 3 → (g1.toInt ≠ 3 ∨ g0.toInt ≤ 399) → jiv h 68 3 = g0 → jiv h 68 5 = g1 → jJ jSgX Dy h → jSm fp_X2_readPlain_r95_c0d h0 h → K4 l2.toInt l3.toInt (vw h) = dr → jX m_X2_readPlain 23 0 0 4 [(0, .ref 95), (1, .int 0), (2, .int l2), (3, .int l3)] [] h 0 0 Q) : ∀ (l3 : Int32) (g0 : Int32) (g1 : Int32) (h : jH), 0 ≤ l3.toInt ∧ l3.toInt ≤ 399 → 0 ≤ g0.toInt ∧ g0.toInt ≤ 400 → 0 ≤ g1.toInt ∧ g1.toInt ≤ 3 → (g1.toInt ≠ 3 ∨ g0.toInt ≤ 399) → jiv h 68 3 = g0 → jiv h 68 5 = g1 → 400 - l3.toInt ≤ R4 → jJ jSgX Dy h → jSm fp_X2_readPlain_r95_c0d h0 h → d_X2_readPlain_r95_c0d_200032 K4  l3.toInt (vw h) = dr → jX m_X2_readPlain 23 0 0 32 [(0, .ref 95), (1, .int 0), (3, .int l3)] [.int 0] h 0 0 Q := by
  intro l3 g0 g1 h y0 y1 y2 y3 z0 z1 m4 J Sm D
  unfold d_X2_readPlain_r95_c0d_200032 at D
  try rw [vrf z0] at D
  try rw [vrf z1] at D
  refine x_istoren (lsx9 := [(2, .int 0), (0, .ref 95), (1, .int 0), (3, .int l3)]) rfl rfl rfl ?_
  refine x_aloadn (x := 95) rfl rfl ?_
  refine z_getR (N := 6) (b := 68) 2 0 rfl f_2_30 rfl J rfl 12160 ⟨rfl, rfl⟩ rfl ?_
  refine x_inv (N := m_X9_step) (As := []) (b := 68) (st := []) (dx9 := 2) (mc := 0) (ms := 0) (host := "") 9 rfl t_X9_step ⟨Or.inl q_2_62, i_X9_step.1, i_X9_step.2⟩ ⟨by decide, rfl⟩ (congrArg Prod.fst (J.1.1 68 (9, 6) rfl)) rfl (by decide) rfl rfl ⟨by decide, by decide⟩ (sf_X9_step_r68d  hD J z1 z0 (by omega) rfl  (fun h J S1 u2 u3 qu2 qu3 ru2 X4 => ?_))
  have Sm := jSm_tr rfl Sm S1
  rw [X4] at D
  have eu2 := (show 0 ≤ u2.toInt ∧ u2.toInt ≤ 3 from qu2 ▸ jrg_f J sg_68_5_6_1_0_1)
  try rw [vrf qu2] at D
  have eu3 := (show 0 ≤ u3.toInt ∧ u3.toInt ≤ 400 from qu3 ▸ jrg_f J sg_68_3_4_1_0_1)
  try rw [vrf qu3] at D
  show jX m_X2_readPlain 23 0 0 40 [(2, .int 0), (0, .ref 95), (1, .int 0), (3, .int l3)] [] _ 0 0 _
  refine z_iinc (x := l3) (lsx9 := fun v5 => [(3, .int v5), (2, .int 0), (0, .ref 95), (1, .int 0)]) rfl rfl rfl jko_1 (by omega) rfl (fun _ => rfl) (fun v5 ev5 => ?_)
  refine x_goto (tgt := 4) rfl rfl ?_
  try rw [show (l3.toInt + 1) = v5.toInt from by omega] at D
  exact jX.sub (jsb_c rfl (jsb_c rfl (jsb_c rfl (jsb_c rfl jsb_n)))) (k4 0 v5 u3 u2 h (by omega) (jr_of jk_0 (by omega)) (jr_of rfl (by omega)) (jr_of rfl (by omega)) (jr_of rfl (by omega)) (by omega) qu3 qu2 J Sm (by rw [jk_0]; exact D))
set_option maxRecDepth 100000 in
set_option maxHeartbeats 4000000 in
theorem ct_X2_readPlain_r95_c0d_4 {Dy : jH → Prop} {h0 : jH} {Q : Option Value → jH → Prop} {dr : (Int × jW)} (hD : jDk Dy) (hQ : ∀ (v : Int32) hx9, 0 ≤ v.toInt ∧ v.toInt ≤ 1 → jJ jSgX Dy hx9 → jSm fp_X2_readPlain_r95_c0d h0 hx9 → ∀ u0 u1 : Int32, jiv hx9 68 5 = u0 → jiv hx9 68 3 = u1 → (u0.toInt ≠ 3 ∨ u1.toInt ≤ 399) → dr.1 = v.toInt → dr.2 = vw hx9 → Q (some (.int v)) hx9) : ∀ r : Nat, ∀ (l2 : Int32) (l3 : Int32) (g0 : Int32) (g1 : Int32) (h : jH), 400 - l3.toInt < (r : Int) → 0 ≤ l2.toInt ∧ l2.toInt ≤ 1 → 0 ≤ l3.toInt ∧ l3.toInt ≤ 400 → 0 ≤ g0.toInt ∧ g0.toInt ≤ 400 → 0 ≤ g1.toInt ∧ g1.toInt ≤ 3 → (g1.toInt ≠ 3 ∨ g0.toInt ≤ 399) → jiv h 68 3 = g0 → jiv h 68 5 = g1 → jJ jSgX Dy h → jSm fp_X2_readPlain_r95_c0d h0 h → d_X2_readPlain_r95_c0d_4 r l2.toInt l3.toInt (vw h) = dr → jX m_X2_readPlain 23 0 0 4 [(0, .ref 95), (1, .int 0), (2, .int l2), (3, .int l3)] [] h 0 0 Q := by
  intro r
  induction r with
  | zero =>
    intro l2 l3 g0 g1 h hm y0 y1 y2 y3 y4 z0 z1  J Sm D
    exfalso
    omega
  | succ r ih =>
    intro l2 l3 g0 g1 h hm y0 y1 y2 y3 y4 z0 z1  J Sm D
    rw [d_X2_readPlain_r95_c0d_4.eq_2] at D
    try rw [vrf z0] at D
    try rw [vrf z1] at D
    refine x_iloadn (x := l3) rfl rfl ?_
    refine x_sipush (v := 400) rfl ks_400 ?_
    refine x_icge (tgt := 46) rfl rfl (ti_ge rfl jk_400 ⟨fun c1 => ?_, fun c1 => ?_⟩)
    ·
      rw [if_pos (by omega)] at D
      exact jX.sub (jsb_c rfl (jsb_c rfl (jsb_c rfl jsb_n))) (ct_X2_readPlain_r95_c0d_46 hD hQ  l2 g0 g1 h (jr_of rfl (by omega)) (jr_of rfl (by omega)) (jr_of rfl (by omega)) (by omega) z0 z1 J Sm D)
    ·
      rw [if_neg (by omega)] at D
      refine x_aloadn (x := 95) rfl rfl ?_
      refine z_getR (N := 6) (b := 68) 2 0 rfl f_2_30 rfl J rfl 12160 ⟨rfl, rfl⟩ rfl ?_
      refine x_ldcS (jstr.getD 9 jstr_0) rfl (List.mem_of_getElem? (i := 9) rfl) rfl rfl ?_
      show jX m_X2_readPlain 23 0 0 17 [(0, .ref 95), (1, .int 0), (2, .int l2), (3, .int l3)] [.ref 14, .ref 68] _ 0 0 _
      refine x_inv (N := m_X9_wordOf) (As := [.ref 14]) (b := 68) (st := []) (dx9 := 4) (mc := 0) (ms := 0) (host := "") 9 rfl t_X9_wordOf ⟨Or.inl q_2_67, i_X9_wordOf.1, i_X9_wordOf.2⟩ ⟨by decide, rfl⟩ (congrArg Prod.fst (J.1.1 68 (9, 6) rfl)) rfl (by decide) rfl rfl ⟨by decide, by decide⟩ (sf_X9_wordOf_r68_r14d  hD J rfl  (fun v5 h J S2 X3 X4 => ?_))
      have ev5 := jfull v5
      have Sm := jSm_tr rfl Sm S2
      try rw [X3] at D
      try rw [← X4] at D
      show jX m_X2_readPlain 23 0 0 20 [(0, .ref 95), (1, .int 0), (2, .int l2), (3, .int l3)] [.int v5] _ 0 0 _
      refine x_ifne (tgt := 46) rfl rfl (ti_ne rfl jk_0 ⟨fun c6 => ?_, fun c6 => ?_⟩)
      ·
        rw [if_neg (by omega)] at D
        exact jX.sub (jsb_c rfl (jsb_c rfl (jsb_c rfl jsb_n))) (ct_X2_readPlain_r95_c0d_46 hD hQ  l2 g0 g1 h (jr_of rfl (by omega)) (jr_of rfl (by omega)) (jr_of rfl (by omega)) (by omega) (jmc S2 rfl z0) (jmc S2 rfl z1) J Sm D)
      ·
        rw [if_pos (by omega)] at D
        refine x_iloadn (x := l2) rfl rfl ?_
        refine x_ifne (tgt := 31) rfl rfl (ti_ne rfl jk_0 ⟨fun c7 => ?_, fun c7 => ?_⟩)
        ·
          rw [if_neg (by omega)] at D
          refine x_iconst (v := 0) rfl ki_0 ?_
          exact jX.sub (jsb_c rfl (jsb_c rfl (jsb_c rfl jsb_n))) (ct_X2_readPlain_r95_c0d_200032 hD hQ ih l3 g0 g1 h (jr_of rfl (by omega)) (jr_of rfl (by omega)) (jr_of rfl (by omega)) (by omega) (jmc S2 rfl z0) (jmc S2 rfl z1) (by omega) J Sm D)
        ·
          rw [if_pos (by omega)] at D
          refine x_iconst (v := 1) rfl ki_1 ?_
          refine x_goto (tgt := 32) rfl rfl ?_
          exact jX.sub (jsb_c rfl (jsb_c rfl (jsb_c rfl jsb_n))) (ct_X2_readPlain_r95_c0d_300032 hD hQ ih l3 g0 g1 h (jr_of rfl (by omega)) (jr_of rfl (by omega)) (jr_of rfl (by omega)) (by omega) (jmc S2 rfl z0) (jmc S2 rfl z1) (by omega) J Sm D)
set_option maxRecDepth 100000 in
set_option maxHeartbeats 4000000 in
theorem sf_X2_readPlain_r95_c0d {Dy : jH → Prop} {h : jH} {Q : Option Value → jH → Prop} {dr : (Int × jW)} (hD : jDk Dy) (J : jJ jSgX Dy h) {p0 p1 : Int32} (zp0 : jiv h 68 5 = p0) (zp1 : jiv h 68 3 = p1) (rl_p0 : (p0.toInt ≠ 3 ∨ p1.toInt ≤ 399)) (D : d_X2_readPlain_r95_c0d (vw h) = dr) (hQ : ∀ (v : Int32) hx9, 0 ≤ v.toInt ∧ v.toInt ≤ 1 → jJ jSgX Dy hx9 → jSm fp_X2_readPlain_r95_c0d h hx9 → ∀ u0 u1 : Int32, jiv hx9 68 5 = u0 → jiv hx9 68 3 = u1 → (u0.toInt ≠ 3 ∨ u1.toInt ≤ 399) → dr.1 = v.toInt → dr.2 = vw hx9 → Q (some (.int v)) hx9) : jC m_X2_readPlain 23 0 0 [.ref 95, .int 0] h Q := by
  refine jC.of rfl k_X2_readPlain rfl ?_
  have Sm := jSm_rf fp_X2_readPlain_r95_c0d h
  have ep0 := (show 0 ≤ p0.toInt ∧ p0.toInt ≤ 3 from zp0 ▸ jrg_f J sg_68_5_6_1_0_1)
  have ep1 := (show 0 ≤ p1.toInt ∧ p1.toInt ≤ 400 from zp1 ▸ jrg_f J sg_68_3_4_1_0_1)
  show jX m_X2_readPlain 23 0 0 0 [(0, .ref 95), (1, .int 0)] [] _ 0 0 _
  unfold d_X2_readPlain_r95_c0d at D
  try rw [vrf zp0] at D
  try rw [vrf zp1] at D
  refine x_iconst (v := 0) rfl ki_0 ?_
  refine x_istoren (lsx9 := [(2, .int 0), (0, .ref 95), (1, .int 0)]) rfl rfl rfl ?_
  refine x_iconst (v := 0) rfl ki_0 ?_
  refine x_istoren (lsx9 := [(3, .int 0), (2, .int 0), (0, .ref 95), (1, .int 0)]) rfl rfl rfl ?_
  exact jX.sub (jsb_c rfl (jsb_c rfl (jsb_c rfl (jsb_c rfl jsb_n)))) (ct_X2_readPlain_r95_c0d_4 hD hQ  401 0 0 p1 p0 h (by have := jk_0; omega) (jr_of jk_0 (by omega)) (jr_of jk_0 (by omega)) (jr_of rfl (by omega)) (jr_of rfl (by omega)) (by omega) zp1 zp0 J Sm (by rw [jk_0]; exact D))
def fp_X2_readTest_r95_c0d : jFp := [(68, 2, 3), (68, 3, 4), (68, 4, 5), (68, 5, 6), (95, 4, 5), (95, 5, 6), (97, 0, 1200)]
set_option maxRecDepth 100000 in
set_option maxHeartbeats 4000000 in
theorem ct_X2_readTest_r95_c0d_77 {Dy : jH → Prop} {h0 : jH} {Q : Option Value → jH → Prop} {dr : (Int × jW)} {K4 : Int → Int → jW → (Int × jW)} {R4 : Int} (hD : jDk Dy) (hQ : ∀ (v : Int32) hx9, 0 ≤ v.toInt ∧ v.toInt ≤ 1 → jJ jSgX Dy hx9 → jSm fp_X2_readTest_r95_c0d h0 hx9 → ∀ u0 u1 : Int32, jiv hx9 68 5 = u0 → jiv hx9 68 3 = u1 → (u0.toInt ≠ 3 ∨ u1.toInt ≤ 399) → dr.1 = v.toInt → dr.2 = vw hx9 → Q (some (.int v)) hx9) (k4 : ∀ (l2 : Int32) (l3 : Int32) (g0 : Int32) (g1 : Int32) (h : jH), 400 - l3.toInt < R4 → (-1) ≤ l2.toInt ∧ l2.toInt ≤ 1199 → 0 ≤ l3.toInt ∧ l3.toInt ≤ 400 → 0 ≤ g0.toInt ∧ g0.toInt ≤ 400 → 0 ≤ g1.toInt ∧ g1.toInt ≤ 3 → (g1.toInt ≠ 3 ∨ g0.toInt ≤ 399) → jiv h 68 3 = g0 → jiv h 68 5 = g1 → jJ jSgX Dy h → jSm fp_X2_readTest_r95_c0d h0 h → K4 l2.toInt l3.toInt (vw h) = dr → jX m_X2_readTest 24 0 0 4 [(0, .ref 95), (1, .int 0), (2, .int l2), (3, .int l3)] [] h 0 0 Q) : ∀ (l2 : Int32) (l3 : Int32) (g0 : Int32) (g1 : Int32) (h : jH), (-1) ≤ l2.toInt ∧ l2.toInt ≤ 1199 → 0 ≤ l3.toInt ∧ l3.toInt ≤ 399 → 0 ≤ g0.toInt ∧ g0.toInt ≤ 400 → 0 ≤ g1.toInt ∧ g1.toInt ≤ 3 → (g1.toInt ≠ 3 ∨ g0.toInt ≤ 399) → jiv h 68 3 = g0 → jiv h 68 5 = g1 → 400 - l3.toInt ≤ R4 → jJ jSgX Dy h → jSm fp_X2_readTest_r95_c0d h0 h → d_X2_readTest_r95_c0d_77 K4  l2.toInt l3.toInt (vw h) = dr → jX m_X2_readTest 24 0 0 77 [(0, .ref 95), (1, .int 0), (2, .int l2), (3, .int l3)] [] h 0 0 Q := by
  intro l2 l3 g0 g1 h y0 y1 y2 y3 y4 z0 z1 m4 J Sm D
  unfold d_X2_readTest_r95_c0d_77 at D
  try rw [vrf z0] at D
  try rw [vrf z1] at D
  refine x_aloadn (x := 95) rfl rfl ?_
  refine x_iloadn (x := l2) rfl rfl ?_
  refine x_inv (N := m_X2_land) (As := [.int l2]) (b := 95) (st := []) (dx9 := 1) (mc := 0) (ms := 0) (host := "") 2 rfl t_X2_land ⟨Or.inl q_2_124, i_X2_land.1, i_X2_land.2⟩ ⟨by decide, rfl⟩ (congrArg Prod.fst (J.1.1 95 (2, 6) rfl)) rfl (by decide) rfl rfl ⟨by decide, by decide⟩ (sf_X2_land_r95d (jr_of rfl (by omega)) hD J rfl  (fun h J S1 X2 => ?_))
  have Sm := jSm_tr rfl Sm S1
  rw [X2] at D
  show jX m_X2_readTest 24 0 0 82 [(0, .ref 95), (1, .int 0), (2, .int l2), (3, .int l3)] [] _ 0 0 _
  refine x_aloadn (x := 95) rfl rfl ?_
  refine z_getR (N := 6) (b := 68) 2 0 rfl f_2_30 rfl J rfl 12160 ⟨rfl, rfl⟩ rfl ?_
  refine x_ldcS (jstr.getD 12 jstr_0) rfl (List.mem_of_getElem? (i := 12) rfl) rfl rfl ?_
  show jX m_X2_readTest 24 0 0 88 [(0, .ref 95), (1, .int 0), (2, .int l2), (3, .int l3)] [.ref 17, .ref 68] _ 0 0 _
  refine x_inv (N := m_X9_wordOf) (As := [.ref 17]) (b := 68) (st := []) (dx9 := 4) (mc := 0) (ms := 0) (host := "") 9 rfl t_X9_wordOf ⟨Or.inl q_2_67, i_X9_wordOf.1, i_X9_wordOf.2⟩ ⟨by decide, rfl⟩ (congrArg Prod.fst (J.1.1 68 (9, 6) rfl)) rfl (by decide) rfl rfl ⟨by decide, by decide⟩ (sf_X9_wordOf_r68_r17d  hD J rfl  (fun v6 h J S3 X4 X5 => ?_))
  have ev6 := jfull v6
  have Sm := jSm_tr rfl Sm S3
  try rw [X4] at D
  try rw [← X5] at D
  show jX m_X2_readTest 24 0 0 91 [(0, .ref 95), (1, .int 0), (2, .int l2), (3, .int l3)] [.int v6] _ 0 0 _
  refine x_ifeq (tgt := 96) rfl rfl (ti_eq rfl jk_0 ⟨fun c7 => ?_, fun c7 => ?_⟩)
  ·
    rw [if_pos (by omega)] at D
    refine x_aloadn (x := 95) rfl rfl ?_
    refine x_bipush (v := 11) rfl kb_11 ?_
    refine x_inv (N := m_X2_leap) (As := [.int 11]) (b := 95) (st := []) (dx9 := 2) (mc := 0) (ms := 0) (host := "") 2 rfl t_X2_leap ⟨Or.inl q_2_129, i_X2_leap.1, i_X2_leap.2⟩ ⟨by decide, rfl⟩ (congrArg Prod.fst (J.1.1 95 (2, 6) rfl)) rfl (by decide) rfl rfl ⟨by decide, by decide⟩ (sf_X2_leap_r95d (jr_of jk_11 (by omega)) hD J rfl  (fun v11 h ev11 J S8 X9 X10 => ?_))
    have Sm := jSm_tr rfl Sm S8
    try rw [jk_11] at X9
    try rw [jk_11] at X10
    try rw [X9] at D
    try rw [X10] at D
    show jX m_X2_readTest 24 0 0 102 [(0, .ref 95), (1, .int 0), (2, .int l2), (3, .int l3)] [.int v11] _ 0 0 _
    refine x_istoren (lsx9 := [(2, .int v11), (0, .ref 95), (1, .int 0), (3, .int l3)]) rfl rfl rfl ?_
    refine x_aloadn (x := 95) rfl rfl ?_
    refine z_getR (N := 6) (b := 68) 2 0 rfl f_2_30 rfl J rfl 12160 ⟨rfl, rfl⟩ rfl ?_
    refine x_inv (N := m_X9_step) (As := []) (b := 68) (st := []) (dx9 := 2) (mc := 0) (ms := 0) (host := "") 9 rfl t_X9_step ⟨Or.inl q_2_62, i_X9_step.1, i_X9_step.2⟩ ⟨by decide, rfl⟩ (congrArg Prod.fst (J.1.1 68 (9, 6) rfl)) rfl (by decide) rfl rfl ⟨by decide, by decide⟩ (sf_X9_step_r68d  hD J (jmc S8 rfl (jmc S3 rfl (jmc S1 rfl z1))) (jmc S8 rfl (jmc S3 rfl (jmc S1 rfl z0))) (by omega) rfl  (fun h J S12 u13 u14 qu13 qu14 ru13 X15 => ?_))
    have Sm := jSm_tr rfl Sm S12
    rw [X15] at D
    have eu13 := (show 0 ≤ u13.toInt ∧ u13.toInt ≤ 3 from qu13 ▸ jrg_f J sg_68_5_6_1_0_1)
    try rw [vrf qu13] at D
    have eu14 := (show 0 ≤ u14.toInt ∧ u14.toInt ≤ 400 from qu14 ▸ jrg_f J sg_68_3_4_1_0_1)
    try rw [vrf qu14] at D
    show jX m_X2_readTest 24 0 0 110 [(2, .int v11), (0, .ref 95), (1, .int 0), (3, .int l3)] [] _ 0 0 _
    refine z_iinc (x := l3) (lsx9 := fun v16 => [(3, .int v16), (2, .int v11), (0, .ref 95), (1, .int 0)]) rfl rfl rfl jko_1 (by omega) rfl (fun _ => rfl) (fun v16 ev16 => ?_)
    refine x_goto (tgt := 4) rfl rfl ?_
    try rw [show (l3.toInt + 1) = v16.toInt from by omega] at D
    exact jX.sub (jsb_c rfl (jsb_c rfl (jsb_c rfl (jsb_c rfl jsb_n)))) (k4 v11 v16 u14 u13 h (by omega) (jr_of rfl (by omega)) (jr_of rfl (by omega)) (jr_of rfl (by omega)) (jr_of rfl (by omega)) (by omega) qu14 qu13 J Sm D)
  ·
    rw [if_neg (by omega)] at D
    refine x_iconst (v := 1) rfl ki_1 ?_
    refine x_zret rfl rfl (by decide) ?_
    exact hQ _ _ (jr_of jk_1 (by omega)) J Sm _ _ (jmc S3 rfl (jmc S1 rfl z1)) (jmc S3 rfl (jmc S1 rfl z0)) (by omega) ((congrArg Prod.fst D).symm.trans (show 1 = (1 : Int32).toInt from by have := jk_1; omega)) (congrArg Prod.snd D).symm
set_option maxRecDepth 100000 in
set_option maxHeartbeats 4000000 in
theorem ct_X2_readTest_r95_c0d_17 {Dy : jH → Prop} {h0 : jH} {Q : Option Value → jH → Prop} {dr : (Int × jW)} {K4 : Int → Int → jW → (Int × jW)} {R4 : Int} (hD : jDk Dy) (hQ : ∀ (v : Int32) hx9, 0 ≤ v.toInt ∧ v.toInt ≤ 1 → jJ jSgX Dy hx9 → jSm fp_X2_readTest_r95_c0d h0 hx9 → ∀ u0 u1 : Int32, jiv hx9 68 5 = u0 → jiv hx9 68 3 = u1 → (u0.toInt ≠ 3 ∨ u1.toInt ≤ 399) → dr.1 = v.toInt → dr.2 = vw hx9 → Q (some (.int v)) hx9) (k4 : ∀ (l2 : Int32) (l3 : Int32) (g0 : Int32) (g1 : Int32) (h : jH), 400 - l3.toInt < R4 → (-1) ≤ l2.toInt ∧ l2.toInt ≤ 1199 → 0 ≤ l3.toInt ∧ l3.toInt ≤ 400 → 0 ≤ g0.toInt ∧ g0.toInt ≤ 400 → 0 ≤ g1.toInt ∧ g1.toInt ≤ 3 → (g1.toInt ≠ 3 ∨ g0.toInt ≤ 399) → jiv h 68 3 = g0 → jiv h 68 5 = g1 → jJ jSgX Dy h → jSm fp_X2_readTest_r95_c0d h0 h → K4 l2.toInt l3.toInt (vw h) = dr → jX m_X2_readTest 24 0 0 4 [(0, .ref 95), (1, .int 0), (2, .int l2), (3, .int l3)] [] h 0 0 Q) : ∀ r : Nat, ∀ (l2 : Int32) (l3 : Int32) (l4 : Int32) (l5 : Int32) (g0 : Int32) (g1 : Int32) (h : jH), 400 - l5.toInt < (r : Int) → (-1) ≤ l2.toInt ∧ l2.toInt ≤ 1199 → 0 ≤ l3.toInt ∧ l3.toInt ≤ 399 → (-1) ≤ l4.toInt ∧ l4.toInt ≤ 1199 → 0 ≤ l5.toInt ∧ l5.toInt ≤ 400 → 0 ≤ g0.toInt ∧ g0.toInt ≤ 400 → 0 ≤ g1.toInt ∧ g1.toInt ≤ 3 → (g1.toInt ≠ 3 ∨ g0.toInt ≤ 399) → jiv h 68 3 = g0 → jiv h 68 5 = g1 → 400 - l3.toInt ≤ R4 → jJ jSgX Dy h → jSm fp_X2_readTest_r95_c0d h0 h → d_X2_readTest_r95_c0d_17 K4 r l2.toInt l3.toInt l4.toInt l5.toInt (vw h) = dr → jX m_X2_readTest 24 0 0 17 [(0, .ref 95), (1, .int 0), (2, .int l2), (3, .int l3), (4, .int l4), (5, .int l5)] [] h 0 0 Q := by
  intro r
  induction r with
  | zero =>
    intro l2 l3 l4 l5 g0 g1 h hm y0 y1 y2 y3 y4 y5 y6 z0 z1 m4 J Sm D
    exfalso
    omega
  | succ r ih =>
    intro l2 l3 l4 l5 g0 g1 h hm y0 y1 y2 y3 y4 y5 y6 z0 z1 m4 J Sm D
    rw [d_X2_readTest_r95_c0d_17.eq_2] at D
    try rw [vrf z0] at D
    try rw [vrf z1] at D
    refine x_iload (x := l5) rfl rfl ?_
    refine x_sipush (v := 400) rfl ks_400 ?_
    refine x_icge (tgt := 77) rfl rfl (ti_ge rfl jk_400 ⟨fun c1 => ?_, fun c1 => ?_⟩)
    ·
      rw [if_pos (by omega)] at D
      exact jX.sub (jsb_c rfl (jsb_c rfl (jsb_c rfl (jsb_c rfl jsb_n)))) (ct_X2_readTest_r95_c0d_77 hD hQ k4 l2 l3 g0 g1 h (jr_of rfl (by omega)) (jr_of rfl (by omega)) (jr_of rfl (by omega)) (jr_of rfl (by omega)) (by omega) z0 z1 (by omega) J Sm D)
    ·
      rw [if_neg (by omega)] at D
      refine x_aloadn (x := 95) rfl rfl ?_
      refine x_iloadn (x := 0) rfl rfl ?_
      refine x_inv (N := m_X2_readPlain) (As := [.int 0]) (b := 95) (st := []) (dx9 := 23) (mc := 0) (ms := 0) (host := "") 2 rfl t_X2_readPlain ⟨Or.inl q_2_121, i_X2_readPlain.1, i_X2_readPlain.2⟩ ⟨by decide, rfl⟩ (congrArg Prod.fst (J.1.1 95 (2, 6) rfl)) rfl (by decide) rfl rfl ⟨by decide, by decide⟩ (sf_X2_readPlain_r95_c0d  hD J z1 z0 (by omega) rfl  (fun v7 h ev7 J S2 u3 u4 qu3 qu4 ru3 X5 X6 => ?_))
      have Sm := jSm_tr rfl Sm S2
      try rw [X5] at D
      try rw [X6] at D
      have eu3 := (show 0 ≤ u3.toInt ∧ u3.toInt ≤ 3 from qu3 ▸ jrg_f J sg_68_5_6_1_0_1)
      try rw [vrf qu3] at D
      have eu4 := (show 0 ≤ u4.toInt ∧ u4.toInt ≤ 400 from qu4 ▸ jrg_f J sg_68_3_4_1_0_1)
      try rw [vrf qu4] at D
      show jX m_X2_readTest 24 0 0 30 [(0, .ref 95), (1, .int 0), (2, .int l2), (3, .int l3), (4, .int l4), (5, .int l5)] [.int v7] _ 0 0 _
      refine x_ifne (tgt := 35) rfl rfl (ti_ne rfl jk_0 ⟨fun c8 => ?_, fun c8 => ?_⟩)
      ·
        rw [if_neg (by omega)] at D
        refine x_aloadn (x := 95) rfl rfl ?_
        refine x_iload (x := l4) rfl rfl ?_
        refine x_inv (N := m_X2_land) (As := [.int l4]) (b := 95) (st := []) (dx9 := 1) (mc := 0) (ms := 0) (host := "") 2 rfl t_X2_land ⟨Or.inl q_2_124, i_X2_land.1, i_X2_land.2⟩ ⟨by decide, rfl⟩ (congrArg Prod.fst (J.1.1 95 (2, 6) rfl)) rfl (by decide) rfl rfl ⟨by decide, by decide⟩ (sf_X2_land_r95d (jr_of rfl (by omega)) hD J rfl  (fun h J S9 X10 => ?_))
        have Sm := jSm_tr rfl Sm S9
        rw [X10] at D
        show jX m_X2_readTest 24 0 0 41 [(0, .ref 95), (1, .int 0), (2, .int l2), (3, .int l3), (4, .int l4), (5, .int l5)] [] _ 0 0 _
        refine x_aloadn (x := 95) rfl rfl ?_
        refine z_getR (N := 6) (b := 68) 2 0 rfl f_2_30 rfl J rfl 12160 ⟨rfl, rfl⟩ rfl ?_
        refine x_ldcS (jstr.getD 11 jstr_0) rfl (List.mem_of_getElem? (i := 11) rfl) rfl rfl ?_
        show jX m_X2_readTest 24 0 0 47 [(0, .ref 95), (1, .int 0), (2, .int l2), (3, .int l3), (4, .int l4), (5, .int l5)] [.ref 16, .ref 68] _ 0 0 _
        refine x_inv (N := m_X9_wordOf) (As := [.ref 16]) (b := 68) (st := []) (dx9 := 4) (mc := 0) (ms := 0) (host := "") 9 rfl t_X9_wordOf ⟨Or.inl q_2_67, i_X9_wordOf.1, i_X9_wordOf.2⟩ ⟨by decide, rfl⟩ (congrArg Prod.fst (J.1.1 68 (9, 6) rfl)) rfl (by decide) rfl rfl ⟨by decide, by decide⟩ (sf_X9_wordOf_r68_r16d  hD J rfl  (fun v14 h J S11 X12 X13 => ?_))
        have ev14 := jfull v14
        have Sm := jSm_tr rfl Sm S11
        try rw [X12] at D
        try rw [← X13] at D
        show jX m_X2_readTest 24 0 0 50 [(0, .ref 95), (1, .int 0), (2, .int l2), (3, .int l3), (4, .int l4), (5, .int l5)] [.int v14] _ 0 0 _
        refine x_ifeq (tgt := 56) rfl rfl (ti_eq rfl jk_0 ⟨fun c15 => ?_, fun c15 => ?_⟩)
        ·
          rw [if_pos (by omega)] at D
          refine x_aloadn (x := 95) rfl rfl ?_
          refine x_bipush (v := 12) rfl kb_12 ?_
          refine x_inv (N := m_X2_leap) (As := [.int 12]) (b := 95) (st := []) (dx9 := 2) (mc := 0) (ms := 0) (host := "") 2 rfl t_X2_leap ⟨Or.inl q_2_129, i_X2_leap.1, i_X2_leap.2⟩ ⟨by decide, rfl⟩ (congrArg Prod.fst (J.1.1 95 (2, 6) rfl)) rfl (by decide) rfl rfl ⟨by decide, by decide⟩ (sf_X2_leap_r95d (jr_of jk_12 (by omega)) hD J rfl  (fun v19 h ev19 J S16 X17 X18 => ?_))
          have Sm := jSm_tr rfl Sm S16
          try rw [jk_12] at X17
          try rw [jk_12] at X18
          try rw [X17] at D
          try rw [X18] at D
          show jX m_X2_readTest 24 0 0 62 [(0, .ref 95), (1, .int 0), (2, .int l2), (3, .int l3), (4, .int l4), (5, .int l5)] [.int v19] _ 0 0 _
          refine x_istore (lsx9 := [(4, .int v19), (0, .ref 95), (1, .int 0), (2, .int l2), (3, .int l3), (5, .int l5)]) rfl rfl rfl ?_
          refine x_aloadn (x := 95) rfl rfl ?_
          refine z_getR (N := 6) (b := 68) 2 0 rfl f_2_30 rfl J rfl 12160 ⟨rfl, rfl⟩ rfl ?_
          refine x_inv (N := m_X9_step) (As := []) (b := 68) (st := []) (dx9 := 2) (mc := 0) (ms := 0) (host := "") 9 rfl t_X9_step ⟨Or.inl q_2_62, i_X9_step.1, i_X9_step.2⟩ ⟨by decide, rfl⟩ (congrArg Prod.fst (J.1.1 68 (9, 6) rfl)) rfl (by decide) rfl rfl ⟨by decide, by decide⟩ (sf_X9_step_r68d  hD J (jmc S16 rfl (jmc S11 rfl (jmc S9 rfl qu3))) (jmc S16 rfl (jmc S11 rfl (jmc S9 rfl qu4))) (by omega) rfl  (fun h J S20 u21 u22 qu21 qu22 ru21 X23 => ?_))
          have Sm := jSm_tr rfl Sm S20
          rw [X23] at D
          have eu21 := (show 0 ≤ u21.toInt ∧ u21.toInt ≤ 3 from qu21 ▸ jrg_f J sg_68_5_6_1_0_1)
          try rw [vrf qu21] at D
          have eu22 := (show 0 ≤ u22.toInt ∧ u22.toInt ≤ 400 from qu22 ▸ jrg_f J sg_68_3_4_1_0_1)
          try rw [vrf qu22] at D
          show jX m_X2_readTest 24 0 0 71 [(4, .int v19), (0, .ref 95), (1, .int 0), (2, .int l2), (3, .int l3), (5, .int l5)] [] _ 0 0 _
          refine z_iinc (x := l5) (lsx9 := fun v24 => [(5, .int v24), (4, .int v19), (0, .ref 95), (1, .int 0), (2, .int l2), (3, .int l3)]) rfl rfl rfl jko_1 (by omega) rfl (fun _ => rfl) (fun v24 ev24 => ?_)
          refine x_goto (tgt := 17) rfl rfl ?_
          try rw [show (l5.toInt + 1) = v24.toInt from by omega] at D
          exact jX.sub (jsb_c rfl (jsb_c rfl (jsb_c rfl (jsb_c rfl (jsb_c rfl (jsb_c rfl jsb_n)))))) (ih l2 l3 v19 v24 u22 u21 h (by omega) (jr_of rfl (by omega)) (jr_of rfl (by omega)) (jr_of rfl (by omega)) (jr_of rfl (by omega)) (jr_of rfl (by omega)) (jr_of rfl (by omega)) (by omega) qu22 qu21 (by omega) J Sm D)
        ·
          rw [if_neg (by omega)] at D
          refine x_goto (tgt := 77) rfl rfl ?_
          exact jX.sub (jsb_c rfl (jsb_c rfl (jsb_c rfl (jsb_c rfl jsb_n)))) (ct_X2_readTest_r95_c0d_77 hD hQ k4 l2 l3 u4 u3 h (jr_of rfl (by omega)) (jr_of rfl (by omega)) (jr_of rfl (by omega)) (jr_of rfl (by omega)) (by omega) (jmc S11 rfl (jmc S9 rfl qu4)) (jmc S11 rfl (jmc S9 rfl qu3)) (by omega) J Sm D)
      ·
        rw [if_pos (by omega)] at D
        refine x_iconst (v := 0) rfl ki_0 ?_
        refine x_zret rfl rfl (by decide) ?_
        exact hQ _ _ (jr_of jk_0 (by omega)) J Sm _ _ qu3 qu4 (by omega) ((congrArg Prod.fst D).symm.trans (show 0 = (0 : Int32).toInt from by have := jk_0; omega)) (congrArg Prod.snd D).symm
set_option maxRecDepth 100000 in
set_option maxHeartbeats 4000000 in
theorem ct_X2_readTest_r95_c0d_4 {Dy : jH → Prop} {h0 : jH} {Q : Option Value → jH → Prop} {dr : (Int × jW)} (hD : jDk Dy) (hQ : ∀ (v : Int32) hx9, 0 ≤ v.toInt ∧ v.toInt ≤ 1 → jJ jSgX Dy hx9 → jSm fp_X2_readTest_r95_c0d h0 hx9 → ∀ u0 u1 : Int32, jiv hx9 68 5 = u0 → jiv hx9 68 3 = u1 → (u0.toInt ≠ 3 ∨ u1.toInt ≤ 399) → dr.1 = v.toInt → dr.2 = vw hx9 → Q (some (.int v)) hx9) : ∀ r : Nat, ∀ (l2 : Int32) (l3 : Int32) (g0 : Int32) (g1 : Int32) (h : jH), 400 - l3.toInt < (r : Int) → (-1) ≤ l2.toInt ∧ l2.toInt ≤ 1199 → 0 ≤ l3.toInt ∧ l3.toInt ≤ 400 → 0 ≤ g0.toInt ∧ g0.toInt ≤ 400 → 0 ≤ g1.toInt ∧ g1.toInt ≤ 3 → (g1.toInt ≠ 3 ∨ g0.toInt ≤ 399) → jiv h 68 3 = g0 → jiv h 68 5 = g1 → jJ jSgX Dy h → jSm fp_X2_readTest_r95_c0d h0 h → d_X2_readTest_r95_c0d_4 r l2.toInt l3.toInt (vw h) = dr → jX m_X2_readTest 24 0 0 4 [(0, .ref 95), (1, .int 0), (2, .int l2), (3, .int l3)] [] h 0 0 Q := by
  intro r
  induction r with
  | zero =>
    intro l2 l3 g0 g1 h hm y0 y1 y2 y3 y4 z0 z1  J Sm D
    exfalso
    omega
  | succ r ih =>
    intro l2 l3 g0 g1 h hm y0 y1 y2 y3 y4 z0 z1  J Sm D
    rw [d_X2_readTest_r95_c0d_4.eq_2] at D
    try rw [vrf z0] at D
    try rw [vrf z1] at D
    refine x_iloadn (x := l3) rfl rfl ?_
    refine x_sipush (v := 400) rfl ks_400 ?_
    refine x_icge (tgt := 116) rfl rfl (ti_ge rfl jk_400 ⟨fun c1 => ?_, fun c1 => ?_⟩)
    ·
      rw [if_pos (by omega)] at D
      refine x_aloadn (x := 95) rfl rfl ?_
      refine z_getR (N := 6) (b := 68) 2 0 rfl f_2_30 rfl J rfl 12160 ⟨rfl, rfl⟩ rfl ?_
      refine x_inv (N := m_X9_blame) (As := []) (b := 68) (st := []) (dx9 := 23) (mc := 0) (ms := 0) (host := "") 9 rfl t_X9_blame ⟨Or.inl q_2_59, i_X9_blame.1, i_X9_blame.2⟩ ⟨by decide, rfl⟩ (congrArg Prod.fst (J.1.1 68 (9, 6) rfl)) rfl (by decide) rfl rfl ⟨by decide, by decide⟩ (jC.of rfl k_X9_blame rfl ?_)
      show jX m_X9_blame 23 0 0 0 [(0, .ref 68)] [] _ 0 0 _
      refine x_aloadn (x := 68) rfl rfl ?_
      refine x_aloadn (x := 68) rfl rfl ?_
      refine z_getM (N := 6) (v := g0) 9 3 rfl f_9_22 rfl J rfl z0 ?_
      refine z_putI (N := 6) (w := g0.toInt) 9 2 rfl f_9_19 rfl (jfin_no TX9 RX9 6 rfl rfl) hD J Sm rfl rfl rfl (pw_68_2 (by omega)) rfl (fun h w2 J Sm => ?_)
      rw [vwf w2 (show g0.toInt = g0.toInt from by omega)] at D
      refine x_iconst (v := 0) rfl ki_0 ?_
      refine x_zret rfl rfl (by decide) ?_
      show jX m_X2_readTest 24 0 0 123 [(0, .ref 95), (1, .int 0), (2, .int l2), (3, .int l3)] [.int 0] _ 0 0 _
      refine x_zret rfl rfl (by decide) ?_
      exact hQ _ _ (jr_of jk_0 (by omega)) J Sm _ _ (jmo w2 rfl z1) (jmo w2 rfl z0) (by omega) ((congrArg Prod.fst D).symm.trans (show 0 = (0 : Int32).toInt from by have := jk_0; omega)) (congrArg Prod.snd D).symm
    ·
      rw [if_neg (by omega)] at D
      refine x_iconst (v := (-1)) rfl ki_m1 ?_
      refine x_istore (lsx9 := [(4, .int (-1)), (0, .ref 95), (1, .int 0), (2, .int l2), (3, .int l3)]) rfl rfl rfl ?_
      refine x_iconst (v := 0) rfl ki_0 ?_
      refine x_istore (lsx9 := [(5, .int 0), (4, .int (-1)), (0, .ref 95), (1, .int 0), (2, .int l2), (3, .int l3)]) rfl rfl rfl ?_
      exact jX.sub (jsb_c rfl (jsb_c rfl (jsb_c rfl (jsb_c rfl (jsb_c rfl (jsb_c rfl jsb_n)))))) (ct_X2_readTest_r95_c0d_17 hD hQ ih 401 l2 l3 (-1) 0 g0 g1 h (by have := jk_0; omega) (jr_of rfl (by omega)) (jr_of rfl (by omega)) (jr_of jk_m1 (by omega)) (jr_of jk_0 (by omega)) (jr_of rfl (by omega)) (jr_of rfl (by omega)) (by omega) z0 z1 (by omega) J Sm (by rw [jk_m1, jk_0]; exact D))
set_option maxRecDepth 100000 in
set_option maxHeartbeats 4000000 in
theorem sf_X2_readTest_r95_c0d {Dy : jH → Prop} {h : jH} {Q : Option Value → jH → Prop} {dr : (Int × jW)} (hD : jDk Dy) (J : jJ jSgX Dy h) {p0 p1 : Int32} (zp0 : jiv h 68 5 = p0) (zp1 : jiv h 68 3 = p1) (rl_p0 : (p0.toInt ≠ 3 ∨ p1.toInt ≤ 399)) (D : d_X2_readTest_r95_c0d (vw h) = dr) (hQ : ∀ (v : Int32) hx9, 0 ≤ v.toInt ∧ v.toInt ≤ 1 → jJ jSgX Dy hx9 → jSm fp_X2_readTest_r95_c0d h hx9 → ∀ u0 u1 : Int32, jiv hx9 68 5 = u0 → jiv hx9 68 3 = u1 → (u0.toInt ≠ 3 ∨ u1.toInt ≤ 399) → dr.1 = v.toInt → dr.2 = vw hx9 → Q (some (.int v)) hx9) : jC m_X2_readTest 24 0 0 [.ref 95, .int 0] h Q := by
  refine jC.of rfl k_X2_readTest rfl ?_
  have Sm := jSm_rf fp_X2_readTest_r95_c0d h
  have ep0 := (show 0 ≤ p0.toInt ∧ p0.toInt ≤ 3 from zp0 ▸ jrg_f J sg_68_5_6_1_0_1)
  have ep1 := (show 0 ≤ p1.toInt ∧ p1.toInt ≤ 400 from zp1 ▸ jrg_f J sg_68_3_4_1_0_1)
  show jX m_X2_readTest 24 0 0 0 [(0, .ref 95), (1, .int 0)] [] _ 0 0 _
  unfold d_X2_readTest_r95_c0d at D
  try rw [vrf zp0] at D
  try rw [vrf zp1] at D
  refine x_iconst (v := (-1)) rfl ki_m1 ?_
  refine x_istoren (lsx9 := [(2, .int (-1)), (0, .ref 95), (1, .int 0)]) rfl rfl rfl ?_
  refine x_iconst (v := 0) rfl ki_0 ?_
  refine x_istoren (lsx9 := [(3, .int 0), (2, .int (-1)), (0, .ref 95), (1, .int 0)]) rfl rfl rfl ?_
  exact jX.sub (jsb_c rfl (jsb_c rfl (jsb_c rfl (jsb_c rfl jsb_n)))) (ct_X2_readTest_r95_c0d_4 hD hQ  401 (-1) 0 p1 p0 h (by have := jk_0; omega) (jr_of jk_m1 (by omega)) (jr_of jk_0 (by omega)) (jr_of rfl (by omega)) (jr_of rfl (by omega)) (by omega) zp1 zp0 J Sm (by rw [jk_m1, jk_0]; exact D))
def fp_X9_wordOf_r68_r10d : jFp := []
set_option maxRecDepth 100000 in
set_option maxHeartbeats 4000000 in
theorem ct_X9_wordOf_r68_r10d_110 {Dy : jH → Prop} {h0 : jH} {Q : Option Value → jH → Prop} {dr : Int} {K23 : Int → Int → Int → Int → jW → Int} {R23 : Int} (hD : jDk Dy) (hQ : ∀ (v : Int32) hx9, jJ jSgX Dy hx9 → jSm fp_X9_wordOf_r68_r10d h0 hx9 → dr = v.toInt → vw hx9 = vw h0 → Q (some (.int v)) hx9) (k23 : ∀ (l2 : Int32) (l3 : Int32) (l4 : Int32) (l5 : Int32) (g0 : Int32) (h : jH), 19 - l5.toInt < R23 → 0 ≤ l3.toInt ∧ l3.toInt ≤ 419 → 0 ≤ l4.toInt ∧ l4.toInt ≤ 1 → 0 ≤ l5.toInt ∧ l5.toInt ≤ 19 → 0 ≤ g0.toInt ∧ g0.toInt ≤ 400 → l3.toInt - l5.toInt ≤ 400 → jiv h 68 3 = g0 → jJ jSgX Dy h → jSm fp_X9_wordOf_r68_r10d h0 h → K23 l2.toInt l3.toInt l4.toInt l5.toInt (vw h) = dr → vw h = vw h0 → jX m_X9_wordOf 4 0 0 23 [(0, .ref 68), (1, .ref 10), (2, .int l2), (3, .int l3), (4, .int l4), (5, .int l5)] [] h 0 0 Q) : ∀ (l2 : Int32) (l3 : Int32) (l4 : Int32) (l5 : Int32) (g0 : Int32) (h : jH), 0 ≤ l3.toInt ∧ l3.toInt ≤ 419 → 0 ≤ l4.toInt ∧ l4.toInt ≤ 1 → 0 ≤ l5.toInt ∧ l5.toInt ≤ 18 → 0 ≤ g0.toInt ∧ g0.toInt ≤ 400 → l3.toInt - l5.toInt ≤ 401 → jiv h 68 3 = g0 → 19 - l5.toInt ≤ R23 → jJ jSgX Dy h → jSm fp_X9_wordOf_r68_r10d h0 h → d_X9_wordOf_r68_r10d_110 K23  l2.toInt l3.toInt l4.toInt l5.toInt (vw h) = dr → vw h = vw h0 → jX m_X9_wordOf 4 0 0 110 [(0, .ref 68), (1, .ref 10), (2, .int l2), (3, .int l3), (4, .int l4), (5, .int l5)] [] h 0 0 Q := by
  intro l2 l3 l4 l5 g0 h y0 y1 y2 y3 y4 z0 m23 J Sm D EV
  have el2 := jfull l2
  unfold d_X9_wordOf_r68_r10d_110 at D
  try rw [vrf z0] at D
  refine z_iinc (x := l5) (lsx9 := fun v1 => [(5, .int v1), (0, .ref 68), (1, .ref 10), (2, .int l2), (3, .int l3), (4, .int l4)]) rfl rfl rfl jko_1 (by omega) rfl (fun _ => rfl) (fun v1 ev1 => ?_)
  refine x_goto (tgt := 23) rfl rfl ?_
  try rw [show (l5.toInt + 1) = v1.toInt from by omega] at D
  exact jX.sub (jsb_c rfl (jsb_c rfl (jsb_c rfl (jsb_c rfl (jsb_c rfl (jsb_c rfl jsb_n)))))) (k23 l2 l3 l4 v1 g0 h (by omega) (jr_of rfl (by omega)) (jr_of rfl (by omega)) (jr_of rfl (by omega)) (jr_of rfl (by omega)) (by omega) z0 J Sm D EV)
set_option maxRecDepth 100000 in
set_option maxHeartbeats 4000000 in
theorem ct_X9_wordOf_r68_r10d_300105 {Dy : jH → Prop} {h0 : jH} {Q : Option Value → jH → Prop} {dr : Int} {K23 : Int → Int → Int → Int → jW → Int} {R23 : Int} (hD : jDk Dy) (hQ : ∀ (v : Int32) hx9, jJ jSgX Dy hx9 → jSm fp_X9_wordOf_r68_r10d h0 hx9 → dr = v.toInt → vw hx9 = vw h0 → Q (some (.int v)) hx9) (k23 : ∀ (l2 : Int32) (l3 : Int32) (l4 : Int32) (l5 : Int32) (g0 : Int32) (h : jH), 19 - l5.toInt < R23 → 0 ≤ l3.toInt ∧ l3.toInt ≤ 419 → 0 ≤ l4.toInt ∧ l4.toInt ≤ 1 → 0 ≤ l5.toInt ∧ l5.toInt ≤ 19 → 0 ≤ g0.toInt ∧ g0.toInt ≤ 400 → l3.toInt - l5.toInt ≤ 400 → jiv h 68 3 = g0 → jJ jSgX Dy h → jSm fp_X9_wordOf_r68_r10d h0 h → K23 l2.toInt l3.toInt l4.toInt l5.toInt (vw h) = dr → vw h = vw h0 → jX m_X9_wordOf 4 0 0 23 [(0, .ref 68), (1, .ref 10), (2, .int l2), (3, .int l3), (4, .int l4), (5, .int l5)] [] h 0 0 Q) : ∀ (l2 : Int32) (l3 : Int32) (l5 : Int32) (g0 : Int32) (h : jH), 0 ≤ l3.toInt ∧ l3.toInt ≤ 399 → 0 ≤ l5.toInt ∧ l5.toInt ≤ 18 → 0 ≤ g0.toInt ∧ g0.toInt ≤ 400 → l3.toInt - l5.toInt ≤ 400 → jiv h 68 3 = g0 → 19 - l5.toInt ≤ R23 → jJ jSgX Dy h → jSm fp_X9_wordOf_r68_r10d h0 h → d_X9_wordOf_r68_r10d_300105 K23  l2.toInt l3.toInt l5.toInt (vw h) = dr → vw h = vw h0 → jX m_X9_wordOf 4 0 0 105 [(0, .ref 68), (1, .ref 10), (2, .int l2), (3, .int l3), (5, .int l5)] [.int 1] h 0 0 Q := by
  intro l2 l3 l5 g0 h y0 y1 y2 y3 z0 m23 J Sm D EV
  have el2 := jfull l2
  unfold d_X9_wordOf_r68_r10d_300105 at D
  try rw [vrf z0] at D
  refine x_istore (lsx9 := [(4, .int 1), (0, .ref 68), (1, .ref 10), (2, .int l2), (3, .int l3), (5, .int l5)]) rfl rfl rfl ?_
  refine z_iinc (x := l3) (lsx9 := fun v1 => [(3, .int v1), (4, .int 1), (0, .ref 68), (1, .ref 10), (2, .int l2), (5, .int l5)]) rfl rfl rfl jko_1 (by omega) rfl (fun _ => rfl) (fun v1 ev1 => ?_)
  try rw [show (l3.toInt + 1) = v1.toInt from by omega] at D
  exact jX.sub (jsb_c rfl (jsb_c rfl (jsb_c rfl (jsb_c rfl (jsb_c rfl (jsb_c rfl jsb_n)))))) (ct_X9_wordOf_r68_r10d_110 hD hQ k23 l2 v1 1 l5 g0 h (jr_of rfl (by omega)) (jr_of jk_1 (by omega)) (jr_of rfl (by omega)) (jr_of rfl (by omega)) (by omega) z0 (by omega) J Sm (by rw [jk_1]; exact D) EV)
set_option maxRecDepth 100000 in
set_option maxHeartbeats 4000000 in
theorem ct_X9_wordOf_r68_r10d_200105 {Dy : jH → Prop} {h0 : jH} {Q : Option Value → jH → Prop} {dr : Int} {K23 : Int → Int → Int → Int → jW → Int} {R23 : Int} (hD : jDk Dy) (hQ : ∀ (v : Int32) hx9, jJ jSgX Dy hx9 → jSm fp_X9_wordOf_r68_r10d h0 hx9 → dr = v.toInt → vw hx9 = vw h0 → Q (some (.int v)) hx9) (k23 : ∀ (l2 : Int32) (l3 : Int32) (l4 : Int32) (l5 : Int32) (g0 : Int32) (h : jH), 19 - l5.toInt < R23 → 0 ≤ l3.toInt ∧ l3.toInt ≤ 419 → 0 ≤ l4.toInt ∧ l4.toInt ≤ 1 → 0 ≤ l5.toInt ∧ l5.toInt ≤ 19 → 0 ≤ g0.toInt ∧ g0.toInt ≤ 400 → l3.toInt - l5.toInt ≤ 400 → jiv h 68 3 = g0 → jJ jSgX Dy h → jSm fp_X9_wordOf_r68_r10d h0 h → K23 l2.toInt l3.toInt l4.toInt l5.toInt (vw h) = dr → vw h = vw h0 → jX m_X9_wordOf 4 0 0 23 [(0, .ref 68), (1, .ref 10), (2, .int l2), (3, .int l3), (4, .int l4), (5, .int l5)] [] h 0 0 Q) : ∀ (l2 : Int32) (l3 : Int32) (l5 : Int32) (g0 : Int32) (h : jH), 0 ≤ l3.toInt ∧ l3.toInt ≤ 418 → 0 ≤ l5.toInt ∧ l5.toInt ≤ 18 → 0 ≤ g0.toInt ∧ g0.toInt ≤ 400 → l3.toInt - l5.toInt ≤ 400 → jiv h 68 3 = g0 → 19 - l5.toInt ≤ R23 → jJ jSgX Dy h → jSm fp_X9_wordOf_r68_r10d h0 h → d_X9_wordOf_r68_r10d_200105 K23  l2.toInt l3.toInt l5.toInt (vw h) = dr → vw h = vw h0 → jX m_X9_wordOf 4 0 0 105 [(0, .ref 68), (1, .ref 10), (2, .int l2), (3, .int l3), (5, .int l5)] [.int 0] h 0 0 Q := by
  intro l2 l3 l5 g0 h y0 y1 y2 y3 z0 m23 J Sm D EV
  have el2 := jfull l2
  unfold d_X9_wordOf_r68_r10d_200105 at D
  try rw [vrf z0] at D
  refine x_istore (lsx9 := [(4, .int 0), (0, .ref 68), (1, .ref 10), (2, .int l2), (3, .int l3), (5, .int l5)]) rfl rfl rfl ?_
  refine z_iinc (x := l3) (lsx9 := fun v1 => [(3, .int v1), (4, .int 0), (0, .ref 68), (1, .ref 10), (2, .int l2), (5, .int l5)]) rfl rfl rfl jko_1 (by omega) rfl (fun _ => rfl) (fun v1 ev1 => ?_)
  try rw [show (l3.toInt + 1) = v1.toInt from by omega] at D
  exact jX.sub (jsb_c rfl (jsb_c rfl (jsb_c rfl (jsb_c rfl (jsb_c rfl (jsb_c rfl jsb_n)))))) (ct_X9_wordOf_r68_r10d_110 hD hQ k23 l2 v1 0 l5 g0 h (jr_of rfl (by omega)) (jr_of jk_0 (by omega)) (jr_of rfl (by omega)) (jr_of rfl (by omega)) (by omega) z0 (by omega) J Sm (by rw [jk_0]; exact D) EV)
set_option maxRecDepth 100000 in
set_option maxHeartbeats 4000000 in
theorem ct_X9_wordOf_r68_r10d_104 {Dy : jH → Prop} {h0 : jH} {Q : Option Value → jH → Prop} {dr : Int} {K23 : Int → Int → Int → Int → jW → Int} {R23 : Int} (hD : jDk Dy) (hQ : ∀ (v : Int32) hx9, jJ jSgX Dy hx9 → jSm fp_X9_wordOf_r68_r10d h0 hx9 → dr = v.toInt → vw hx9 = vw h0 → Q (some (.int v)) hx9) (k23 : ∀ (l2 : Int32) (l3 : Int32) (l4 : Int32) (l5 : Int32) (g0 : Int32) (h : jH), 19 - l5.toInt < R23 → 0 ≤ l3.toInt ∧ l3.toInt ≤ 419 → 0 ≤ l4.toInt ∧ l4.toInt ≤ 1 → 0 ≤ l5.toInt ∧ l5.toInt ≤ 19 → 0 ≤ g0.toInt ∧ g0.toInt ≤ 400 → l3.toInt - l5.toInt ≤ 400 → jiv h 68 3 = g0 → jJ jSgX Dy h → jSm fp_X9_wordOf_r68_r10d h0 h → K23 l2.toInt l3.toInt l4.toInt l5.toInt (vw h) = dr → vw h = vw h0 → jX m_X9_wordOf 4 0 0 23 [(0, .ref 68), (1, .ref 10), (2, .int l2), (3, .int l3), (4, .int l4), (5, .int l5)] [] h 0 0 Q) : ∀ (l2 : Int32) (l3 : Int32) (l5 : Int32) (g0 : Int32) (h : jH), 0 ≤ l3.toInt ∧ l3.toInt ≤ 418 → 0 ≤ l5.toInt ∧ l5.toInt ≤ 18 → 0 ≤ g0.toInt ∧ g0.toInt ≤ 400 → l3.toInt - l5.toInt ≤ 400 → jiv h 68 3 = g0 → 19 - l5.toInt ≤ R23 → jJ jSgX Dy h → jSm fp_X9_wordOf_r68_r10d h0 h → d_X9_wordOf_r68_r10d_104 K23  l2.toInt l3.toInt l5.toInt (vw h) = dr → vw h = vw h0 → jX m_X9_wordOf 4 0 0 104 [(0, .ref 68), (1, .ref 10), (2, .int l2), (3, .int l3), (5, .int l5)] [] h 0 0 Q := by
  intro l2 l3 l5 g0 h y0 y1 y2 y3 z0 m23 J Sm D EV
  have el2 := jfull l2
  unfold d_X9_wordOf_r68_r10d_104 at D
  try rw [vrf z0] at D
  refine x_iconst (v := 0) rfl ki_0 ?_
  exact jX.sub (jsb_c rfl (jsb_c rfl (jsb_c rfl (jsb_c rfl (jsb_c rfl jsb_n))))) (ct_X9_wordOf_r68_r10d_200105 hD hQ k23 l2 l3 l5 g0 h (jr_of rfl (by omega)) (jr_of rfl (by omega)) (jr_of rfl (by omega)) (by omega) z0 (by omega) J Sm D EV)
set_option maxRecDepth 100000 in
set_option maxHeartbeats 4000000 in
theorem ct_X9_wordOf_r68_r10d_62 {Dy : jH → Prop} {h0 : jH} {Q : Option Value → jH → Prop} {dr : Int} {K23 : Int → Int → Int → Int → jW → Int} {R23 : Int} (hD : jDk Dy) (hQ : ∀ (v : Int32) hx9, jJ jSgX Dy hx9 → jSm fp_X9_wordOf_r68_r10d h0 hx9 → dr = v.toInt → vw hx9 = vw h0 → Q (some (.int v)) hx9) (k23 : ∀ (l2 : Int32) (l3 : Int32) (l4 : Int32) (l5 : Int32) (g0 : Int32) (h : jH), 19 - l5.toInt < R23 → 0 ≤ l3.toInt ∧ l3.toInt ≤ 419 → 0 ≤ l4.toInt ∧ l4.toInt ≤ 1 → 0 ≤ l5.toInt ∧ l5.toInt ≤ 19 → 0 ≤ g0.toInt ∧ g0.toInt ≤ 400 → l3.toInt - l5.toInt ≤ 400 → jiv h 68 3 = g0 → jJ jSgX Dy h → jSm fp_X9_wordOf_r68_r10d h0 h → K23 l2.toInt l3.toInt l4.toInt l5.toInt (vw h) = dr → vw h = vw h0 → jX m_X9_wordOf 4 0 0 23 [(0, .ref 68), (1, .ref 10), (2, .int l2), (3, .int l3), (4, .int l4), (5, .int l5)] [] h 0 0 Q) : ∀ (l2 : Int32) (l5 : Int32) (g0 : Int32) (h : jH), 0 ≤ l5.toInt ∧ l5.toInt ≤ 18 → 0 ≤ g0.toInt ∧ g0.toInt ≤ 400 → jiv h 68 3 = g0 → 19 - l5.toInt ≤ R23 → jJ jSgX Dy h → jSm fp_X9_wordOf_r68_r10d h0 h → d_X9_wordOf_r68_r10d_62 K23  l2.toInt l5.toInt (vw h) = dr → vw h = vw h0 → jX m_X9_wordOf 4 0 0 62 [(0, .ref 68), (1, .ref 10), (2, .int l2), (5, .int l5)] [] h 0 0 Q := by
  intro l2 l5 g0 h y0 y1 z0 m23 J Sm D EV
  have el2 := jfull l2
  unfold d_X9_wordOf_r68_r10d_62 at D
  try rw [vrf z0] at D
  refine z_iincW (x := l2) (lsx9 := fun v1 => [(2, .int v1), (0, .ref 68), (1, .ref 10), (5, .int l5)]) rfl rfl rfl jko_1 rfl (fun _ => rfl) (fun v1 ev1 => ?_)
  have fv1 := jfull v1
  try rw [← ev1] at D
  refine x_aloadn (x := 68) rfl rfl ?_
  refine z_getM (N := 6) (v := g0) 9 3 rfl f_9_22 rfl J rfl z0 ?_
  refine x_istoren (lsx9 := [(3, .int g0), (2, .int v1), (0, .ref 68), (1, .ref 10), (5, .int l5)]) rfl rfl rfl ?_
  refine x_iconst (v := 1) rfl ki_1 ?_
  refine x_istore (lsx9 := [(4, .int 1), (3, .int g0), (2, .int v1), (0, .ref 68), (1, .ref 10), (5, .int l5)]) rfl rfl rfl ?_
  refine x_goto (tgt := 110) rfl rfl ?_
  exact jX.sub (jsb_c rfl (jsb_c rfl (jsb_c rfl (jsb_c rfl (jsb_c rfl (jsb_c rfl jsb_n)))))) (ct_X9_wordOf_r68_r10d_110 hD hQ k23 v1 g0 1 l5 g0 h (jr_of rfl (by omega)) (jr_of jk_1 (by omega)) (jr_of rfl (by omega)) (jr_of rfl (by omega)) (by omega) z0 (by omega) J Sm (by rw [jk_1]; exact D) EV)
set_option maxRecDepth 100000 in
set_option maxHeartbeats 4000000 in
theorem ct_X9_wordOf_r68_r10d_23 {Dy : jH → Prop} {h0 : jH} {Q : Option Value → jH → Prop} {dr : Int} (hD : jDk Dy) (hQ : ∀ (v : Int32) hx9, jJ jSgX Dy hx9 → jSm fp_X9_wordOf_r68_r10d h0 hx9 → dr = v.toInt → vw hx9 = vw h0 → Q (some (.int v)) hx9) : ∀ r : Nat, ∀ (l2 : Int32) (l3 : Int32) (l4 : Int32) (l5 : Int32) (g0 : Int32) (h : jH), 19 - l5.toInt < (r : Int) → 0 ≤ l3.toInt ∧ l3.toInt ≤ 419 → 0 ≤ l4.toInt ∧ l4.toInt ≤ 1 → 0 ≤ l5.toInt ∧ l5.toInt ≤ 19 → 0 ≤ g0.toInt ∧ g0.toInt ≤ 400 → l3.toInt - l5.toInt ≤ 400 → jiv h 68 3 = g0 → jJ jSgX Dy h → jSm fp_X9_wordOf_r68_r10d h0 h → d_X9_wordOf_r68_r10d_23 r l2.toInt l3.toInt l4.toInt l5.toInt (vw h) = dr → vw h = vw h0 → jX m_X9_wordOf 4 0 0 23 [(0, .ref 68), (1, .ref 10), (2, .int l2), (3, .int l3), (4, .int l4), (5, .int l5)] [] h 0 0 Q := by
  intro r
  induction r with
  | zero =>
    intro l2 l3 l4 l5 g0 h hm y0 y1 y2 y3 y4 z0  J Sm D EV
    exfalso
    have el2 := jfull l2
    omega
  | succ r ih =>
    intro l2 l3 l4 l5 g0 h hm y0 y1 y2 y3 y4 z0  J Sm D EV
    have el2 := jfull l2
    rw [d_X9_wordOf_r68_r10d_23.eq_2] at D
    try rw [vrf z0] at D
    refine x_iload (x := l5) rfl rfl ?_
    refine x_aloadn (x := 10) rfl rfl ?_
    refine x_invS (N := m_J0_length_8abf5) (i := 5) (As := []) (st := [.int l5]) (dx9 := 1) (by decide) rfl t_J0_length_8abf5 ⟨q_9_38, i_J0_length_8abf5.1, i_J0_length_8abf5.2⟩ rfl rfl (by decide) rfl rfl (zc_slen (N := 19) (v := 19) rfl J rfl rfl (by decide) ?_)
    show jX m_X9_wordOf 4 0 0 29 [(0, .ref 68), (1, .ref 10), (2, .int l2), (3, .int l3), (4, .int l4), (5, .int l5)] [.int 19, .int l5] _ 0 0 _
    refine x_icge (tgt := 116) rfl rfl (ti_ge rfl jk_19 ⟨fun c1 => ?_, fun c1 => ?_⟩)
    ·
      rw [if_pos (by omega)] at D
      refine x_iconst (v := (-1)) rfl ki_m1 ?_
      refine x_iret rfl rfl ?_
      exact hQ _ _ J Sm (D.symm.trans (show (-1) = ((-1) : Int32).toInt from by have := jk_m1; omega)) EV
    ·
      rw [if_neg (by omega)] at D
      refine x_aloadn (x := 10) rfl rfl ?_
      refine x_iload (x := l5) rfl rfl ?_
      refine x_invS (N := m_J0_charAt_5068e) (i := 5) (As := [.int l5]) (st := []) (dx9 := 3) (by decide) rfl t_J0_charAt_5068e ⟨q_9_43, i_J0_charAt_5068e.1, i_J0_charAt_5068e.2⟩ rfl rfl (by decide) rfl rfl (zc_scharD (N := 19) rfl J rfl rfl rfl (by omega) (fun v2 ev2 => ?_))
      try rw [← ev2.1] at D
      show jX m_X9_wordOf 4 0 0 38 [(0, .ref 68), (1, .ref 10), (2, .int l2), (3, .int l3), (4, .int l4), (5, .int l5)] [.int v2] _ 0 0 _
      refine x_istore (lsx9 := [(6, .int v2), (0, .ref 68), (1, .ref 10), (2, .int l2), (3, .int l3), (4, .int l4), (5, .int l5)]) rfl rfl rfl ?_
      refine x_iload (x := v2) rfl rfl ?_
      refine x_bipush (v := 32) rfl kb_32 ?_
      refine x_icne (tgt := 76) rfl rfl (ti_ne rfl jk_32 ⟨fun c3 => ?_, fun c3 => ?_⟩)
      ·
        rw [if_neg (by omega)] at D
        refine x_iload (x := l4) rfl rfl ?_
        refine x_ifeq (tgt := 104) rfl rfl (ti_eq rfl jk_0 ⟨fun c4 => ?_, fun c4 => ?_⟩)
        ·
          rw [if_pos (by omega)] at D
          exact jX.sub (jsb_c rfl (jsb_c rfl (jsb_c rfl (jsb_c rfl (jsb_c rfl jsb_n))))) (ct_X9_wordOf_r68_r10d_104 hD hQ ih l2 l3 l5 g0 h (jr_of rfl (by omega)) (jr_of rfl (by omega)) (jr_of rfl (by omega)) (by omega) z0 (by omega) J Sm D EV)
        ·
          rw [if_neg (by omega)] at D
          refine x_iloadn (x := l3) rfl rfl ?_
          refine x_aloadn (x := 68) rfl rfl ?_
          refine z_getI (N := 6) 9 4 rfl f_9_25 rfl J rfl sg_68_4_5_1_0_1 (fun v5 qv5 ev5 => ?_)
          try rw [vrf qv5] at D
          refine x_icge (tgt := 104) rfl rfl (ti_ge rfl rfl ⟨fun c6 => ?_, fun c6 => ?_⟩)
          ·
            rw [if_pos (by omega)] at D
            exact jX.sub (jsb_c rfl (jsb_c rfl (jsb_c rfl (jsb_c rfl (jsb_c rfl jsb_n))))) (ct_X9_wordOf_r68_r10d_104 hD hQ ih l2 l3 l5 g0 h (jr_of rfl (by omega)) (jr_of rfl (by omega)) (jr_of rfl (by omega)) (by omega) z0 (by omega) J Sm D EV)
          ·
            rw [if_neg (by omega)] at D
            refine x_aloadn (x := 68) rfl rfl ?_
            refine z_getR (N := 6) (b := 69) 9 0 rfl f_9_11 rfl J rfl 8704 ⟨rfl, rfl⟩ rfl ?_
            refine x_iloadn (x := l3) rfl rfl ?_
            refine z_iald (N := 400) rfl J rfl sg_69_0_400_1_0_1 rfl (by omega) (fun v7 qv7 ev7 => ?_)
            try rw [vrd qv7 (show l3.toInt = l3.toInt from by omega)] at D
            refine x_iload (x := v2) rfl rfl ?_
            refine x_icne (tgt := 104) rfl rfl (ti_ne rfl rfl ⟨fun c8 => ?_, fun c8 => ?_⟩)
            ·
              rw [if_neg (by omega)] at D
              exact jX.sub (jsb_c rfl (jsb_c rfl (jsb_c rfl (jsb_c rfl (jsb_c rfl jsb_n))))) (ct_X9_wordOf_r68_r10d_104 hD hQ ih l2 l3 l5 g0 h (jr_of rfl (by omega)) (jr_of rfl (by omega)) (jr_of rfl (by omega)) (by omega) z0 (by omega) J Sm D EV)
            ·
              rw [if_pos (by omega)] at D
              refine x_iconst (v := 1) rfl ki_1 ?_
              refine x_goto (tgt := 105) rfl rfl ?_
              exact jX.sub (jsb_c rfl (jsb_c rfl (jsb_c rfl (jsb_c rfl (jsb_c rfl jsb_n))))) (ct_X9_wordOf_r68_r10d_300105 hD hQ ih l2 l3 l5 g0 h (jr_of rfl (by omega)) (jr_of rfl (by omega)) (jr_of rfl (by omega)) (by omega) z0 (by omega) J Sm D EV)
      ·
        rw [if_pos (by omega)] at D
        refine x_iload (x := l4) rfl rfl ?_
        refine x_ifeq (tgt := 62) rfl rfl (ti_eq rfl jk_0 ⟨fun c9 => ?_, fun c9 => ?_⟩)
        ·
          rw [if_pos (by omega)] at D
          exact jX.sub (jsb_c rfl (jsb_c rfl (jsb_c rfl (jsb_c rfl jsb_n)))) (ct_X9_wordOf_r68_r10d_62 hD hQ ih l2 l5 g0 h (jr_of rfl (by omega)) (jr_of rfl (by omega)) z0 (by omega) J Sm D EV)
        ·
          rw [if_neg (by omega)] at D
          refine x_iloadn (x := l3) rfl rfl ?_
          refine x_aloadn (x := 68) rfl rfl ?_
          refine z_getI (N := 6) 9 4 rfl f_9_25 rfl J rfl sg_68_4_5_1_0_1 (fun v10 qv10 ev10 => ?_)
          try rw [vrf qv10] at D
          refine x_icne (tgt := 62) rfl rfl (ti_ne rfl rfl ⟨fun c11 => ?_, fun c11 => ?_⟩)
          ·
            rw [if_neg (by omega)] at D
            exact jX.sub (jsb_c rfl (jsb_c rfl (jsb_c rfl (jsb_c rfl jsb_n)))) (ct_X9_wordOf_r68_r10d_62 hD hQ ih l2 l5 g0 h (jr_of rfl (by omega)) (jr_of rfl (by omega)) z0 (by omega) J Sm D EV)
          ·
            rw [if_pos (by omega)] at D
            refine x_iloadn (x := l2) rfl rfl ?_
            refine x_iret rfl rfl ?_
            exact hQ _ _ J Sm (D.symm.trans (show l2.toInt = l2.toInt from by omega)) EV
set_option maxRecDepth 100000 in
set_option maxHeartbeats 4000000 in
theorem sf_X9_wordOf_r68_r10d {Dy : jH → Prop} {h : jH} {Q : Option Value → jH → Prop} {dr : Int} (hD : jDk Dy) (J : jJ jSgX Dy h) (D : d_X9_wordOf_r68_r10d (vw h) = dr) (hQ : ∀ (v : Int32) hx9, jJ jSgX Dy hx9 → jSm fp_X9_wordOf_r68_r10d h hx9 → dr = v.toInt → vw hx9 = vw h → Q (some (.int v)) hx9) : jC m_X9_wordOf 4 0 0 [.ref 68, .ref 10] h Q := by
  refine jC.of rfl k_X9_wordOf rfl ?_
  have Sm := jSm_rf fp_X9_wordOf_r68_r10d h
  show jX m_X9_wordOf 4 0 0 0 [(0, .ref 68), (1, .ref 10)] [] _ 0 0 _
  unfold d_X9_wordOf_r68_r10d at D
  have EV : vw h = vw h := rfl
  refine x_aloadn (x := 68) rfl rfl ?_
  refine z_getI (N := 6) 9 5 rfl f_9_28 rfl J rfl sg_68_5_6_1_0_1 (fun v1 qv1 ev1 => ?_)
  try rw [vrf qv1] at D
  refine x_iconst (v := 1) rfl ki_1 ?_
  refine x_iceq (tgt := 10) rfl rfl (ti_eq rfl jk_1 ⟨fun c2 => ?_, fun c2 => ?_⟩)
  ·
    rw [if_pos (by omega)] at D
    refine x_iconst (v := 0) rfl ki_0 ?_
    refine x_istoren (lsx9 := [(2, .int 0), (0, .ref 68), (1, .ref 10)]) rfl rfl rfl ?_
    refine x_aloadn (x := 68) rfl rfl ?_
    refine z_getI (N := 6) 9 3 rfl f_9_22 rfl J rfl sg_68_3_4_1_0_1 (fun v3 qv3 ev3 => ?_)
    try rw [vrf qv3] at D
    refine x_istoren (lsx9 := [(3, .int v3), (2, .int 0), (0, .ref 68), (1, .ref 10)]) rfl rfl rfl ?_
    refine x_iconst (v := 1) rfl ki_1 ?_
    refine x_istore (lsx9 := [(4, .int 1), (3, .int v3), (2, .int 0), (0, .ref 68), (1, .ref 10)]) rfl rfl rfl ?_
    refine x_iconst (v := 0) rfl ki_0 ?_
    refine x_istore (lsx9 := [(5, .int 0), (4, .int 1), (3, .int v3), (2, .int 0), (0, .ref 68), (1, .ref 10)]) rfl rfl rfl ?_
    exact jX.sub (jsb_c rfl (jsb_c rfl (jsb_c rfl (jsb_c rfl (jsb_c rfl (jsb_c rfl jsb_n)))))) (ct_X9_wordOf_r68_r10d_23 hD hQ  20 0 v3 1 0 v3 h (by have := jk_0; omega) (jr_of rfl (by omega)) (jr_of jk_1 (by omega)) (jr_of jk_0 (by omega)) (jr_of rfl (by omega)) (by have := jk_0; omega) qv3 J Sm (by rw [jk_0, jk_1]; exact D) EV)
  ·
    rw [if_neg (by omega)] at D
    refine x_iconst (v := (-1)) rfl ki_m1 ?_
    refine x_iret rfl rfl ?_
    exact hQ _ _ J Sm (D.symm.trans (show (-1) = ((-1) : Int32).toInt from by have := jk_m1; omega)) EV
def fp_X2_readWhich_r95_r10d : jFp := [(68, 2, 3), (68, 3, 4), (68, 4, 5), (68, 5, 6), (96, 0, 72)]
set_option maxRecDepth 100000 in
set_option maxHeartbeats 4000000 in
theorem sf_X2_readWhich_r95_r10d {Dy : jH → Prop} {h : jH} {Q : Option Value → jH → Prop} {dr : (Int × jW)} (hD : jDk Dy) (J : jJ jSgX Dy h) {p0 p1 : Int32} (zp0 : jiv h 68 5 = p0) (zp1 : jiv h 68 3 = p1) (rl_p0 : (p0.toInt ≠ 3 ∨ p1.toInt ≤ 399)) (D : d_X2_readWhich_r95_r10d (vw h) = dr) (hQ : ∀ (v : Int32) hx9, 0 ≤ v.toInt ∧ v.toInt ≤ 1 → jJ jSgX Dy hx9 → jSm fp_X2_readWhich_r95_r10d h hx9 → ∀ u0 u1 : Int32, jiv hx9 68 5 = u0 → jiv hx9 68 3 = u1 → (u0.toInt ≠ 3 ∨ u1.toInt ≤ 399) → dr.1 = v.toInt → dr.2 = vw hx9 → Q (some (.int v)) hx9) : jC m_X2_readWhich 5 0 0 [.ref 95, .ref 10] h Q := by
  refine jC.of rfl k_X2_readWhich rfl ?_
  have Sm := jSm_rf fp_X2_readWhich_r95_r10d h
  have ep0 := (show 0 ≤ p0.toInt ∧ p0.toInt ≤ 3 from zp0 ▸ jrg_f J sg_68_5_6_1_0_1)
  have ep1 := (show 0 ≤ p1.toInt ∧ p1.toInt ≤ 400 from zp1 ▸ jrg_f J sg_68_3_4_1_0_1)
  show jX m_X2_readWhich 5 0 0 0 [(0, .ref 95), (1, .ref 10)] [] _ 0 0 _
  unfold d_X2_readWhich_r95_r10d at D
  try rw [vrf zp0] at D
  try rw [vrf zp1] at D
  refine x_aloadn (x := 95) rfl rfl ?_
  refine z_getR (N := 6) (b := 68) 2 0 rfl f_2_30 rfl J rfl 12160 ⟨rfl, rfl⟩ rfl ?_
  refine x_aloadn (x := 10) rfl rfl ?_
  refine x_inv (N := m_X9_wordOf) (As := [.ref 10]) (b := 68) (st := []) (dx9 := 4) (mc := 0) (ms := 0) (host := "") 9 rfl t_X9_wordOf ⟨Or.inl q_2_67, i_X9_wordOf.1, i_X9_wordOf.2⟩ ⟨by decide, rfl⟩ (congrArg Prod.fst (J.1.1 68 (9, 6) rfl)) rfl (by decide) rfl rfl ⟨by decide, by decide⟩ (sf_X9_wordOf_r68_r10d  hD J rfl  (fun v4 h J S1 X2 X3 => ?_))
  have ev4 := jfull v4
  have Sm := jSm_tr rfl Sm S1
  try rw [X2] at D
  try rw [← X3] at D
  show jX m_X2_readWhich 5 0 0 8 [(0, .ref 95), (1, .ref 10)] [.int v4] _ 0 0 _
  refine x_istoren (lsx9 := [(2, .int v4), (0, .ref 95), (1, .ref 10)]) rfl rfl rfl ?_
  refine x_iloadn (x := v4) rfl rfl ?_
  refine x_iconst (v := (-1)) rfl ki_m1 ?_
  refine x_icne (tgt := 22) rfl rfl (ti_ne rfl jk_m1 ⟨fun c5 => ?_, fun c5 => ?_⟩)
  ·
    rw [if_neg (by omega)] at D
    refine x_aloadn (x := 95) rfl rfl ?_
    refine x_iconst (v := 1) rfl ki_1 ?_
    refine x_iloadn (x := v4) rfl rfl ?_
    refine x_inv (N := m_X2_note) (As := [.int 1, .int v4]) (b := 95) (st := []) (dx9 := 1) (mc := 0) (ms := 0) (host := "") 2 rfl t_X2_note ⟨Or.inl q_2_82, i_X2_note.1, i_X2_note.2⟩ ⟨by decide, rfl⟩ (congrArg Prod.fst (J.1.1 95 (2, 6) rfl)) rfl (by decide) rfl rfl ⟨by decide, by decide⟩ (sf_X2_note_r95d (jr_of jk_1 (by omega)) hD J rfl  (fun h J S6 X7 => ?_))
    have Sm := jSm_tr rfl Sm S6
    try rw [jk_1] at X7
    rw [X7] at D
    show jX m_X2_readWhich 5 0 0 28 [(2, .int v4), (0, .ref 95), (1, .ref 10)] [] _ 0 0 _
    refine x_aloadn (x := 95) rfl rfl ?_
    refine z_getR (N := 6) (b := 68) 2 0 rfl f_2_30 rfl J rfl 12160 ⟨rfl, rfl⟩ rfl ?_
    refine x_inv (N := m_X9_step) (As := []) (b := 68) (st := []) (dx9 := 2) (mc := 0) (ms := 0) (host := "") 9 rfl t_X9_step ⟨Or.inl q_2_62, i_X9_step.1, i_X9_step.2⟩ ⟨by decide, rfl⟩ (congrArg Prod.fst (J.1.1 68 (9, 6) rfl)) rfl (by decide) rfl rfl ⟨by decide, by decide⟩ (sf_X9_step_r68d  hD J (jmc S6 rfl (jmc S1 rfl zp0)) (jmc S6 rfl (jmc S1 rfl zp1)) (by omega) rfl  (fun h J S8 u9 u10 qu9 qu10 ru9 X11 => ?_))
    have Sm := jSm_tr rfl Sm S8
    rw [X11] at D
    have eu9 := (show 0 ≤ u9.toInt ∧ u9.toInt ≤ 3 from qu9 ▸ jrg_f J sg_68_5_6_1_0_1)
    try rw [vrf qu9] at D
    have eu10 := (show 0 ≤ u10.toInt ∧ u10.toInt ≤ 400 from qu10 ▸ jrg_f J sg_68_3_4_1_0_1)
    try rw [vrf qu10] at D
    show jX m_X2_readWhich 5 0 0 35 [(2, .int v4), (0, .ref 95), (1, .ref 10)] [] _ 0 0 _
    refine x_iconst (v := 1) rfl ki_1 ?_
    refine x_zret rfl rfl (by decide) ?_
    exact hQ _ _ (jr_of jk_1 (by omega)) J Sm _ _ qu9 qu10 (by omega) ((congrArg Prod.fst D).symm.trans (show 1 = (1 : Int32).toInt from by have := jk_1; omega)) (congrArg Prod.snd D).symm
  ·
    rw [if_pos (by omega)] at D
    refine x_aloadn (x := 95) rfl rfl ?_
    refine z_getR (N := 6) (b := 68) 2 0 rfl f_2_30 rfl J rfl 12160 ⟨rfl, rfl⟩ rfl ?_
    refine x_inv (N := m_X9_blame) (As := []) (b := 68) (st := []) (dx9 := 4) (mc := 0) (ms := 0) (host := "") 9 rfl t_X9_blame ⟨Or.inl q_2_59, i_X9_blame.1, i_X9_blame.2⟩ ⟨by decide, rfl⟩ (congrArg Prod.fst (J.1.1 68 (9, 6) rfl)) rfl (by decide) rfl rfl ⟨by decide, by decide⟩ (jC.of rfl k_X9_blame rfl ?_)
    show jX m_X9_blame 4 0 0 0 [(0, .ref 68)] [] _ 0 0 _
    refine x_aloadn (x := 68) rfl rfl ?_
    refine x_aloadn (x := 68) rfl rfl ?_
    refine z_getM (N := 6) (v := p1) 9 3 rfl f_9_22 rfl J rfl (jmc S1 rfl zp1) ?_
    refine z_putI (N := 6) (w := p1.toInt) 9 2 rfl f_9_19 rfl (jfin_no TX9 RX9 6 rfl rfl) hD J Sm rfl rfl rfl (pw_68_2 (by omega)) rfl (fun h w12 J Sm => ?_)
    rw [vwf w12 (show p1.toInt = p1.toInt from by omega)] at D
    refine x_iconst (v := 0) rfl ki_0 ?_
    refine x_zret rfl rfl (by decide) ?_
    show jX m_X2_readWhich 5 0 0 21 [(2, .int v4), (0, .ref 95), (1, .ref 10)] [.int 0] _ 0 0 _
    refine x_zret rfl rfl (by decide) ?_
    exact hQ _ _ (jr_of jk_0 (by omega)) J Sm _ _ (jmo w12 rfl (jmc S1 rfl zp0)) (jmo w12 rfl (jmc S1 rfl zp1)) (by omega) ((congrArg Prod.fst D).symm.trans (show 0 = (0 : Int32).toInt from by have := jk_0; omega)) (congrArg Prod.snd D).symm
def fp_X9_wordOf_r68_r7d : jFp := []
set_option maxRecDepth 100000 in
set_option maxHeartbeats 4000000 in
theorem ct_X9_wordOf_r68_r7d_110 {Dy : jH → Prop} {h0 : jH} {Q : Option Value → jH → Prop} {dr : Int} {K23 : Int → Int → Int → Int → jW → Int} {R23 : Int} (hD : jDk Dy) (hQ : ∀ (v : Int32) hx9, jJ jSgX Dy hx9 → jSm fp_X9_wordOf_r68_r7d h0 hx9 → dr = v.toInt → vw hx9 = vw h0 → Q (some (.int v)) hx9) (k23 : ∀ (l2 : Int32) (l3 : Int32) (l4 : Int32) (l5 : Int32) (g0 : Int32) (h : jH), 35 - l5.toInt < R23 → 0 ≤ l3.toInt ∧ l3.toInt ≤ 435 → 0 ≤ l4.toInt ∧ l4.toInt ≤ 1 → 0 ≤ l5.toInt ∧ l5.toInt ≤ 35 → 0 ≤ g0.toInt ∧ g0.toInt ≤ 400 → l3.toInt - l5.toInt ≤ 400 → jiv h 68 3 = g0 → jJ jSgX Dy h → jSm fp_X9_wordOf_r68_r7d h0 h → K23 l2.toInt l3.toInt l4.toInt l5.toInt (vw h) = dr → vw h = vw h0 → jX m_X9_wordOf 4 0 0 23 [(0, .ref 68), (1, .ref 7), (2, .int l2), (3, .int l3), (4, .int l4), (5, .int l5)] [] h 0 0 Q) : ∀ (l2 : Int32) (l3 : Int32) (l4 : Int32) (l5 : Int32) (g0 : Int32) (h : jH), 0 ≤ l3.toInt ∧ l3.toInt ≤ 435 → 0 ≤ l4.toInt ∧ l4.toInt ≤ 1 → 0 ≤ l5.toInt ∧ l5.toInt ≤ 34 → 0 ≤ g0.toInt ∧ g0.toInt ≤ 400 → l3.toInt - l5.toInt ≤ 401 → jiv h 68 3 = g0 → 35 - l5.toInt ≤ R23 → jJ jSgX Dy h → jSm fp_X9_wordOf_r68_r7d h0 h → d_X9_wordOf_r68_r7d_110 K23  l2.toInt l3.toInt l4.toInt l5.toInt (vw h) = dr → vw h = vw h0 → jX m_X9_wordOf 4 0 0 110 [(0, .ref 68), (1, .ref 7), (2, .int l2), (3, .int l3), (4, .int l4), (5, .int l5)] [] h 0 0 Q := by
  intro l2 l3 l4 l5 g0 h y0 y1 y2 y3 y4 z0 m23 J Sm D EV
  have el2 := jfull l2
  unfold d_X9_wordOf_r68_r7d_110 at D
  try rw [vrf z0] at D
  refine z_iinc (x := l5) (lsx9 := fun v1 => [(5, .int v1), (0, .ref 68), (1, .ref 7), (2, .int l2), (3, .int l3), (4, .int l4)]) rfl rfl rfl jko_1 (by omega) rfl (fun _ => rfl) (fun v1 ev1 => ?_)
  refine x_goto (tgt := 23) rfl rfl ?_
  try rw [show (l5.toInt + 1) = v1.toInt from by omega] at D
  exact jX.sub (jsb_c rfl (jsb_c rfl (jsb_c rfl (jsb_c rfl (jsb_c rfl (jsb_c rfl jsb_n)))))) (k23 l2 l3 l4 v1 g0 h (by omega) (jr_of rfl (by omega)) (jr_of rfl (by omega)) (jr_of rfl (by omega)) (jr_of rfl (by omega)) (by omega) z0 J Sm D EV)
set_option maxRecDepth 100000 in
set_option maxHeartbeats 4000000 in
theorem ct_X9_wordOf_r68_r7d_300105 {Dy : jH → Prop} {h0 : jH} {Q : Option Value → jH → Prop} {dr : Int} {K23 : Int → Int → Int → Int → jW → Int} {R23 : Int} (hD : jDk Dy) (hQ : ∀ (v : Int32) hx9, jJ jSgX Dy hx9 → jSm fp_X9_wordOf_r68_r7d h0 hx9 → dr = v.toInt → vw hx9 = vw h0 → Q (some (.int v)) hx9) (k23 : ∀ (l2 : Int32) (l3 : Int32) (l4 : Int32) (l5 : Int32) (g0 : Int32) (h : jH), 35 - l5.toInt < R23 → 0 ≤ l3.toInt ∧ l3.toInt ≤ 435 → 0 ≤ l4.toInt ∧ l4.toInt ≤ 1 → 0 ≤ l5.toInt ∧ l5.toInt ≤ 35 → 0 ≤ g0.toInt ∧ g0.toInt ≤ 400 → l3.toInt - l5.toInt ≤ 400 → jiv h 68 3 = g0 → jJ jSgX Dy h → jSm fp_X9_wordOf_r68_r7d h0 h → K23 l2.toInt l3.toInt l4.toInt l5.toInt (vw h) = dr → vw h = vw h0 → jX m_X9_wordOf 4 0 0 23 [(0, .ref 68), (1, .ref 7), (2, .int l2), (3, .int l3), (4, .int l4), (5, .int l5)] [] h 0 0 Q) : ∀ (l2 : Int32) (l3 : Int32) (l5 : Int32) (g0 : Int32) (h : jH), 0 ≤ l3.toInt ∧ l3.toInt ≤ 399 → 0 ≤ l5.toInt ∧ l5.toInt ≤ 34 → 0 ≤ g0.toInt ∧ g0.toInt ≤ 400 → l3.toInt - l5.toInt ≤ 400 → jiv h 68 3 = g0 → 35 - l5.toInt ≤ R23 → jJ jSgX Dy h → jSm fp_X9_wordOf_r68_r7d h0 h → d_X9_wordOf_r68_r7d_300105 K23  l2.toInt l3.toInt l5.toInt (vw h) = dr → vw h = vw h0 → jX m_X9_wordOf 4 0 0 105 [(0, .ref 68), (1, .ref 7), (2, .int l2), (3, .int l3), (5, .int l5)] [.int 1] h 0 0 Q := by
  intro l2 l3 l5 g0 h y0 y1 y2 y3 z0 m23 J Sm D EV
  have el2 := jfull l2
  unfold d_X9_wordOf_r68_r7d_300105 at D
  try rw [vrf z0] at D
  refine x_istore (lsx9 := [(4, .int 1), (0, .ref 68), (1, .ref 7), (2, .int l2), (3, .int l3), (5, .int l5)]) rfl rfl rfl ?_
  refine z_iinc (x := l3) (lsx9 := fun v1 => [(3, .int v1), (4, .int 1), (0, .ref 68), (1, .ref 7), (2, .int l2), (5, .int l5)]) rfl rfl rfl jko_1 (by omega) rfl (fun _ => rfl) (fun v1 ev1 => ?_)
  try rw [show (l3.toInt + 1) = v1.toInt from by omega] at D
  exact jX.sub (jsb_c rfl (jsb_c rfl (jsb_c rfl (jsb_c rfl (jsb_c rfl (jsb_c rfl jsb_n)))))) (ct_X9_wordOf_r68_r7d_110 hD hQ k23 l2 v1 1 l5 g0 h (jr_of rfl (by omega)) (jr_of jk_1 (by omega)) (jr_of rfl (by omega)) (jr_of rfl (by omega)) (by omega) z0 (by omega) J Sm (by rw [jk_1]; exact D) EV)
set_option maxRecDepth 100000 in
set_option maxHeartbeats 4000000 in
theorem ct_X9_wordOf_r68_r7d_200105 {Dy : jH → Prop} {h0 : jH} {Q : Option Value → jH → Prop} {dr : Int} {K23 : Int → Int → Int → Int → jW → Int} {R23 : Int} (hD : jDk Dy) (hQ : ∀ (v : Int32) hx9, jJ jSgX Dy hx9 → jSm fp_X9_wordOf_r68_r7d h0 hx9 → dr = v.toInt → vw hx9 = vw h0 → Q (some (.int v)) hx9) (k23 : ∀ (l2 : Int32) (l3 : Int32) (l4 : Int32) (l5 : Int32) (g0 : Int32) (h : jH), 35 - l5.toInt < R23 → 0 ≤ l3.toInt ∧ l3.toInt ≤ 435 → 0 ≤ l4.toInt ∧ l4.toInt ≤ 1 → 0 ≤ l5.toInt ∧ l5.toInt ≤ 35 → 0 ≤ g0.toInt ∧ g0.toInt ≤ 400 → l3.toInt - l5.toInt ≤ 400 → jiv h 68 3 = g0 → jJ jSgX Dy h → jSm fp_X9_wordOf_r68_r7d h0 h → K23 l2.toInt l3.toInt l4.toInt l5.toInt (vw h) = dr → vw h = vw h0 → jX m_X9_wordOf 4 0 0 23 [(0, .ref 68), (1, .ref 7), (2, .int l2), (3, .int l3), (4, .int l4), (5, .int l5)] [] h 0 0 Q) : ∀ (l2 : Int32) (l3 : Int32) (l5 : Int32) (g0 : Int32) (h : jH), 0 ≤ l3.toInt ∧ l3.toInt ≤ 434 → 0 ≤ l5.toInt ∧ l5.toInt ≤ 34 → 0 ≤ g0.toInt ∧ g0.toInt ≤ 400 → l3.toInt - l5.toInt ≤ 400 → jiv h 68 3 = g0 → 35 - l5.toInt ≤ R23 → jJ jSgX Dy h → jSm fp_X9_wordOf_r68_r7d h0 h → d_X9_wordOf_r68_r7d_200105 K23  l2.toInt l3.toInt l5.toInt (vw h) = dr → vw h = vw h0 → jX m_X9_wordOf 4 0 0 105 [(0, .ref 68), (1, .ref 7), (2, .int l2), (3, .int l3), (5, .int l5)] [.int 0] h 0 0 Q := by
  intro l2 l3 l5 g0 h y0 y1 y2 y3 z0 m23 J Sm D EV
  have el2 := jfull l2
  unfold d_X9_wordOf_r68_r7d_200105 at D
  try rw [vrf z0] at D
  refine x_istore (lsx9 := [(4, .int 0), (0, .ref 68), (1, .ref 7), (2, .int l2), (3, .int l3), (5, .int l5)]) rfl rfl rfl ?_
  refine z_iinc (x := l3) (lsx9 := fun v1 => [(3, .int v1), (4, .int 0), (0, .ref 68), (1, .ref 7), (2, .int l2), (5, .int l5)]) rfl rfl rfl jko_1 (by omega) rfl (fun _ => rfl) (fun v1 ev1 => ?_)
  try rw [show (l3.toInt + 1) = v1.toInt from by omega] at D
  exact jX.sub (jsb_c rfl (jsb_c rfl (jsb_c rfl (jsb_c rfl (jsb_c rfl (jsb_c rfl jsb_n)))))) (ct_X9_wordOf_r68_r7d_110 hD hQ k23 l2 v1 0 l5 g0 h (jr_of rfl (by omega)) (jr_of jk_0 (by omega)) (jr_of rfl (by omega)) (jr_of rfl (by omega)) (by omega) z0 (by omega) J Sm (by rw [jk_0]; exact D) EV)
set_option maxRecDepth 100000 in
set_option maxHeartbeats 4000000 in
theorem ct_X9_wordOf_r68_r7d_104 {Dy : jH → Prop} {h0 : jH} {Q : Option Value → jH → Prop} {dr : Int} {K23 : Int → Int → Int → Int → jW → Int} {R23 : Int} (hD : jDk Dy) (hQ : ∀ (v : Int32) hx9, jJ jSgX Dy hx9 → jSm fp_X9_wordOf_r68_r7d h0 hx9 → dr = v.toInt → vw hx9 = vw h0 → Q (some (.int v)) hx9) (k23 : ∀ (l2 : Int32) (l3 : Int32) (l4 : Int32) (l5 : Int32) (g0 : Int32) (h : jH), 35 - l5.toInt < R23 → 0 ≤ l3.toInt ∧ l3.toInt ≤ 435 → 0 ≤ l4.toInt ∧ l4.toInt ≤ 1 → 0 ≤ l5.toInt ∧ l5.toInt ≤ 35 → 0 ≤ g0.toInt ∧ g0.toInt ≤ 400 → l3.toInt - l5.toInt ≤ 400 → jiv h 68 3 = g0 → jJ jSgX Dy h → jSm fp_X9_wordOf_r68_r7d h0 h → K23 l2.toInt l3.toInt l4.toInt l5.toInt (vw h) = dr → vw h = vw h0 → jX m_X9_wordOf 4 0 0 23 [(0, .ref 68), (1, .ref 7), (2, .int l2), (3, .int l3), (4, .int l4), (5, .int l5)] [] h 0 0 Q) : ∀ (l2 : Int32) (l3 : Int32) (l5 : Int32) (g0 : Int32) (h : jH), 0 ≤ l3.toInt ∧ l3.toInt ≤ 434 → 0 ≤ l5.toInt ∧ l5.toInt ≤ 34 → 0 ≤ g0.toInt ∧ g0.toInt ≤ 400 → l3.toInt - l5.toInt ≤ 400 → jiv h 68 3 = g0 → 35 - l5.toInt ≤ R23 → jJ jSgX Dy h → jSm fp_X9_wordOf_r68_r7d h0 h → d_X9_wordOf_r68_r7d_104 K23  l2.toInt l3.toInt l5.toInt (vw h) = dr → vw h = vw h0 → jX m_X9_wordOf 4 0 0 104 [(0, .ref 68), (1, .ref 7), (2, .int l2), (3, .int l3), (5, .int l5)] [] h 0 0 Q := by
  intro l2 l3 l5 g0 h y0 y1 y2 y3 z0 m23 J Sm D EV
  have el2 := jfull l2
  unfold d_X9_wordOf_r68_r7d_104 at D
  try rw [vrf z0] at D
  refine x_iconst (v := 0) rfl ki_0 ?_
  exact jX.sub (jsb_c rfl (jsb_c rfl (jsb_c rfl (jsb_c rfl (jsb_c rfl jsb_n))))) (ct_X9_wordOf_r68_r7d_200105 hD hQ k23 l2 l3 l5 g0 h (jr_of rfl (by omega)) (jr_of rfl (by omega)) (jr_of rfl (by omega)) (by omega) z0 (by omega) J Sm D EV)
set_option maxRecDepth 100000 in
set_option maxHeartbeats 4000000 in
theorem ct_X9_wordOf_r68_r7d_62 {Dy : jH → Prop} {h0 : jH} {Q : Option Value → jH → Prop} {dr : Int} {K23 : Int → Int → Int → Int → jW → Int} {R23 : Int} (hD : jDk Dy) (hQ : ∀ (v : Int32) hx9, jJ jSgX Dy hx9 → jSm fp_X9_wordOf_r68_r7d h0 hx9 → dr = v.toInt → vw hx9 = vw h0 → Q (some (.int v)) hx9) (k23 : ∀ (l2 : Int32) (l3 : Int32) (l4 : Int32) (l5 : Int32) (g0 : Int32) (h : jH), 35 - l5.toInt < R23 → 0 ≤ l3.toInt ∧ l3.toInt ≤ 435 → 0 ≤ l4.toInt ∧ l4.toInt ≤ 1 → 0 ≤ l5.toInt ∧ l5.toInt ≤ 35 → 0 ≤ g0.toInt ∧ g0.toInt ≤ 400 → l3.toInt - l5.toInt ≤ 400 → jiv h 68 3 = g0 → jJ jSgX Dy h → jSm fp_X9_wordOf_r68_r7d h0 h → K23 l2.toInt l3.toInt l4.toInt l5.toInt (vw h) = dr → vw h = vw h0 → jX m_X9_wordOf 4 0 0 23 [(0, .ref 68), (1, .ref 7), (2, .int l2), (3, .int l3), (4, .int l4), (5, .int l5)] [] h 0 0 Q) : ∀ (l2 : Int32) (l5 : Int32) (g0 : Int32) (h : jH), 0 ≤ l5.toInt ∧ l5.toInt ≤ 34 → 0 ≤ g0.toInt ∧ g0.toInt ≤ 400 → jiv h 68 3 = g0 → 35 - l5.toInt ≤ R23 → jJ jSgX Dy h → jSm fp_X9_wordOf_r68_r7d h0 h → d_X9_wordOf_r68_r7d_62 K23  l2.toInt l5.toInt (vw h) = dr → vw h = vw h0 → jX m_X9_wordOf 4 0 0 62 [(0, .ref 68), (1, .ref 7), (2, .int l2), (5, .int l5)] [] h 0 0 Q := by
  intro l2 l5 g0 h y0 y1 z0 m23 J Sm D EV
  have el2 := jfull l2
  unfold d_X9_wordOf_r68_r7d_62 at D
  try rw [vrf z0] at D
  refine z_iincW (x := l2) (lsx9 := fun v1 => [(2, .int v1), (0, .ref 68), (1, .ref 7), (5, .int l5)]) rfl rfl rfl jko_1 rfl (fun _ => rfl) (fun v1 ev1 => ?_)
  have fv1 := jfull v1
  try rw [← ev1] at D
  refine x_aloadn (x := 68) rfl rfl ?_
  refine z_getM (N := 6) (v := g0) 9 3 rfl f_9_22 rfl J rfl z0 ?_
  refine x_istoren (lsx9 := [(3, .int g0), (2, .int v1), (0, .ref 68), (1, .ref 7), (5, .int l5)]) rfl rfl rfl ?_
  refine x_iconst (v := 1) rfl ki_1 ?_
  refine x_istore (lsx9 := [(4, .int 1), (3, .int g0), (2, .int v1), (0, .ref 68), (1, .ref 7), (5, .int l5)]) rfl rfl rfl ?_
  refine x_goto (tgt := 110) rfl rfl ?_
  exact jX.sub (jsb_c rfl (jsb_c rfl (jsb_c rfl (jsb_c rfl (jsb_c rfl (jsb_c rfl jsb_n)))))) (ct_X9_wordOf_r68_r7d_110 hD hQ k23 v1 g0 1 l5 g0 h (jr_of rfl (by omega)) (jr_of jk_1 (by omega)) (jr_of rfl (by omega)) (jr_of rfl (by omega)) (by omega) z0 (by omega) J Sm (by rw [jk_1]; exact D) EV)
set_option maxRecDepth 100000 in
set_option maxHeartbeats 4000000 in
theorem ct_X9_wordOf_r68_r7d_23 {Dy : jH → Prop} {h0 : jH} {Q : Option Value → jH → Prop} {dr : Int} (hD : jDk Dy) (hQ : ∀ (v : Int32) hx9, jJ jSgX Dy hx9 → jSm fp_X9_wordOf_r68_r7d h0 hx9 → dr = v.toInt → vw hx9 = vw h0 → Q (some (.int v)) hx9) : ∀ r : Nat, ∀ (l2 : Int32) (l3 : Int32) (l4 : Int32) (l5 : Int32) (g0 : Int32) (h : jH), 35 - l5.toInt < (r : Int) → 0 ≤ l3.toInt ∧ l3.toInt ≤ 435 → 0 ≤ l4.toInt ∧ l4.toInt ≤ 1 → 0 ≤ l5.toInt ∧ l5.toInt ≤ 35 → 0 ≤ g0.toInt ∧ g0.toInt ≤ 400 → l3.toInt - l5.toInt ≤ 400 → jiv h 68 3 = g0 → jJ jSgX Dy h → jSm fp_X9_wordOf_r68_r7d h0 h → d_X9_wordOf_r68_r7d_23 r l2.toInt l3.toInt l4.toInt l5.toInt (vw h) = dr → vw h = vw h0 → jX m_X9_wordOf 4 0 0 23 [(0, .ref 68), (1, .ref 7), (2, .int l2), (3, .int l3), (4, .int l4), (5, .int l5)] [] h 0 0 Q := by
  intro r
  induction r with
  | zero =>
    intro l2 l3 l4 l5 g0 h hm y0 y1 y2 y3 y4 z0  J Sm D EV
    exfalso
    have el2 := jfull l2
    omega
  | succ r ih =>
    intro l2 l3 l4 l5 g0 h hm y0 y1 y2 y3 y4 z0  J Sm D EV
    have el2 := jfull l2
    rw [d_X9_wordOf_r68_r7d_23.eq_2] at D
    try rw [vrf z0] at D
    refine x_iload (x := l5) rfl rfl ?_
    refine x_aloadn (x := 7) rfl rfl ?_
    refine x_invS (N := m_J0_length_8abf5) (i := 2) (As := []) (st := [.int l5]) (dx9 := 1) (by decide) rfl t_J0_length_8abf5 ⟨q_9_38, i_J0_length_8abf5.1, i_J0_length_8abf5.2⟩ rfl rfl (by decide) rfl rfl (zc_slen (N := 35) (v := 35) rfl J rfl rfl (by decide) ?_)
    show jX m_X9_wordOf 4 0 0 29 [(0, .ref 68), (1, .ref 7), (2, .int l2), (3, .int l3), (4, .int l4), (5, .int l5)] [.int 35, .int l5] _ 0 0 _
    refine x_icge (tgt := 116) rfl rfl (ti_ge rfl jk_35 ⟨fun c1 => ?_, fun c1 => ?_⟩)
    ·
      rw [if_pos (by omega)] at D
      refine x_iconst (v := (-1)) rfl ki_m1 ?_
      refine x_iret rfl rfl ?_
      exact hQ _ _ J Sm (D.symm.trans (show (-1) = ((-1) : Int32).toInt from by have := jk_m1; omega)) EV
    ·
      rw [if_neg (by omega)] at D
      refine x_aloadn (x := 7) rfl rfl ?_
      refine x_iload (x := l5) rfl rfl ?_
      refine x_invS (N := m_J0_charAt_5068e) (i := 2) (As := [.int l5]) (st := []) (dx9 := 3) (by decide) rfl t_J0_charAt_5068e ⟨q_9_43, i_J0_charAt_5068e.1, i_J0_charAt_5068e.2⟩ rfl rfl (by decide) rfl rfl (zc_scharD (N := 35) rfl J rfl rfl rfl (by omega) (fun v2 ev2 => ?_))
      try rw [← ev2.1] at D
      show jX m_X9_wordOf 4 0 0 38 [(0, .ref 68), (1, .ref 7), (2, .int l2), (3, .int l3), (4, .int l4), (5, .int l5)] [.int v2] _ 0 0 _
      refine x_istore (lsx9 := [(6, .int v2), (0, .ref 68), (1, .ref 7), (2, .int l2), (3, .int l3), (4, .int l4), (5, .int l5)]) rfl rfl rfl ?_
      refine x_iload (x := v2) rfl rfl ?_
      refine x_bipush (v := 32) rfl kb_32 ?_
      refine x_icne (tgt := 76) rfl rfl (ti_ne rfl jk_32 ⟨fun c3 => ?_, fun c3 => ?_⟩)
      ·
        rw [if_neg (by omega)] at D
        refine x_iload (x := l4) rfl rfl ?_
        refine x_ifeq (tgt := 104) rfl rfl (ti_eq rfl jk_0 ⟨fun c4 => ?_, fun c4 => ?_⟩)
        ·
          rw [if_pos (by omega)] at D
          exact jX.sub (jsb_c rfl (jsb_c rfl (jsb_c rfl (jsb_c rfl (jsb_c rfl jsb_n))))) (ct_X9_wordOf_r68_r7d_104 hD hQ ih l2 l3 l5 g0 h (jr_of rfl (by omega)) (jr_of rfl (by omega)) (jr_of rfl (by omega)) (by omega) z0 (by omega) J Sm D EV)
        ·
          rw [if_neg (by omega)] at D
          refine x_iloadn (x := l3) rfl rfl ?_
          refine x_aloadn (x := 68) rfl rfl ?_
          refine z_getI (N := 6) 9 4 rfl f_9_25 rfl J rfl sg_68_4_5_1_0_1 (fun v5 qv5 ev5 => ?_)
          try rw [vrf qv5] at D
          refine x_icge (tgt := 104) rfl rfl (ti_ge rfl rfl ⟨fun c6 => ?_, fun c6 => ?_⟩)
          ·
            rw [if_pos (by omega)] at D
            exact jX.sub (jsb_c rfl (jsb_c rfl (jsb_c rfl (jsb_c rfl (jsb_c rfl jsb_n))))) (ct_X9_wordOf_r68_r7d_104 hD hQ ih l2 l3 l5 g0 h (jr_of rfl (by omega)) (jr_of rfl (by omega)) (jr_of rfl (by omega)) (by omega) z0 (by omega) J Sm D EV)
          ·
            rw [if_neg (by omega)] at D
            refine x_aloadn (x := 68) rfl rfl ?_
            refine z_getR (N := 6) (b := 69) 9 0 rfl f_9_11 rfl J rfl 8704 ⟨rfl, rfl⟩ rfl ?_
            refine x_iloadn (x := l3) rfl rfl ?_
            refine z_iald (N := 400) rfl J rfl sg_69_0_400_1_0_1 rfl (by omega) (fun v7 qv7 ev7 => ?_)
            try rw [vrd qv7 (show l3.toInt = l3.toInt from by omega)] at D
            refine x_iload (x := v2) rfl rfl ?_
            refine x_icne (tgt := 104) rfl rfl (ti_ne rfl rfl ⟨fun c8 => ?_, fun c8 => ?_⟩)
            ·
              rw [if_neg (by omega)] at D
              exact jX.sub (jsb_c rfl (jsb_c rfl (jsb_c rfl (jsb_c rfl (jsb_c rfl jsb_n))))) (ct_X9_wordOf_r68_r7d_104 hD hQ ih l2 l3 l5 g0 h (jr_of rfl (by omega)) (jr_of rfl (by omega)) (jr_of rfl (by omega)) (by omega) z0 (by omega) J Sm D EV)
            ·
              rw [if_pos (by omega)] at D
              refine x_iconst (v := 1) rfl ki_1 ?_
              refine x_goto (tgt := 105) rfl rfl ?_
              exact jX.sub (jsb_c rfl (jsb_c rfl (jsb_c rfl (jsb_c rfl (jsb_c rfl jsb_n))))) (ct_X9_wordOf_r68_r7d_300105 hD hQ ih l2 l3 l5 g0 h (jr_of rfl (by omega)) (jr_of rfl (by omega)) (jr_of rfl (by omega)) (by omega) z0 (by omega) J Sm D EV)
      ·
        rw [if_pos (by omega)] at D
        refine x_iload (x := l4) rfl rfl ?_
        refine x_ifeq (tgt := 62) rfl rfl (ti_eq rfl jk_0 ⟨fun c9 => ?_, fun c9 => ?_⟩)
        ·
          rw [if_pos (by omega)] at D
          exact jX.sub (jsb_c rfl (jsb_c rfl (jsb_c rfl (jsb_c rfl jsb_n)))) (ct_X9_wordOf_r68_r7d_62 hD hQ ih l2 l5 g0 h (jr_of rfl (by omega)) (jr_of rfl (by omega)) z0 (by omega) J Sm D EV)
        ·
          rw [if_neg (by omega)] at D
          refine x_iloadn (x := l3) rfl rfl ?_
          refine x_aloadn (x := 68) rfl rfl ?_
          refine z_getI (N := 6) 9 4 rfl f_9_25 rfl J rfl sg_68_4_5_1_0_1 (fun v10 qv10 ev10 => ?_)
          try rw [vrf qv10] at D
          refine x_icne (tgt := 62) rfl rfl (ti_ne rfl rfl ⟨fun c11 => ?_, fun c11 => ?_⟩)
          ·
            rw [if_neg (by omega)] at D
            exact jX.sub (jsb_c rfl (jsb_c rfl (jsb_c rfl (jsb_c rfl jsb_n)))) (ct_X9_wordOf_r68_r7d_62 hD hQ ih l2 l5 g0 h (jr_of rfl (by omega)) (jr_of rfl (by omega)) z0 (by omega) J Sm D EV)
          ·
            rw [if_pos (by omega)] at D
            refine x_iloadn (x := l2) rfl rfl ?_
            refine x_iret rfl rfl ?_
            exact hQ _ _ J Sm (D.symm.trans (show l2.toInt = l2.toInt from by omega)) EV
set_option maxRecDepth 100000 in
set_option maxHeartbeats 4000000 in
theorem sf_X9_wordOf_r68_r7d {Dy : jH → Prop} {h : jH} {Q : Option Value → jH → Prop} {dr : Int} (hD : jDk Dy) (J : jJ jSgX Dy h) (D : d_X9_wordOf_r68_r7d (vw h) = dr) (hQ : ∀ (v : Int32) hx9, jJ jSgX Dy hx9 → jSm fp_X9_wordOf_r68_r7d h hx9 → dr = v.toInt → vw hx9 = vw h → Q (some (.int v)) hx9) : jC m_X9_wordOf 4 0 0 [.ref 68, .ref 7] h Q := by
  refine jC.of rfl k_X9_wordOf rfl ?_
  have Sm := jSm_rf fp_X9_wordOf_r68_r7d h
  show jX m_X9_wordOf 4 0 0 0 [(0, .ref 68), (1, .ref 7)] [] _ 0 0 _
  unfold d_X9_wordOf_r68_r7d at D
  have EV : vw h = vw h := rfl
  refine x_aloadn (x := 68) rfl rfl ?_
  refine z_getI (N := 6) 9 5 rfl f_9_28 rfl J rfl sg_68_5_6_1_0_1 (fun v1 qv1 ev1 => ?_)
  try rw [vrf qv1] at D
  refine x_iconst (v := 1) rfl ki_1 ?_
  refine x_iceq (tgt := 10) rfl rfl (ti_eq rfl jk_1 ⟨fun c2 => ?_, fun c2 => ?_⟩)
  ·
    rw [if_pos (by omega)] at D
    refine x_iconst (v := 0) rfl ki_0 ?_
    refine x_istoren (lsx9 := [(2, .int 0), (0, .ref 68), (1, .ref 7)]) rfl rfl rfl ?_
    refine x_aloadn (x := 68) rfl rfl ?_
    refine z_getI (N := 6) 9 3 rfl f_9_22 rfl J rfl sg_68_3_4_1_0_1 (fun v3 qv3 ev3 => ?_)
    try rw [vrf qv3] at D
    refine x_istoren (lsx9 := [(3, .int v3), (2, .int 0), (0, .ref 68), (1, .ref 7)]) rfl rfl rfl ?_
    refine x_iconst (v := 1) rfl ki_1 ?_
    refine x_istore (lsx9 := [(4, .int 1), (3, .int v3), (2, .int 0), (0, .ref 68), (1, .ref 7)]) rfl rfl rfl ?_
    refine x_iconst (v := 0) rfl ki_0 ?_
    refine x_istore (lsx9 := [(5, .int 0), (4, .int 1), (3, .int v3), (2, .int 0), (0, .ref 68), (1, .ref 7)]) rfl rfl rfl ?_
    exact jX.sub (jsb_c rfl (jsb_c rfl (jsb_c rfl (jsb_c rfl (jsb_c rfl (jsb_c rfl jsb_n)))))) (ct_X9_wordOf_r68_r7d_23 hD hQ  36 0 v3 1 0 v3 h (by have := jk_0; omega) (jr_of rfl (by omega)) (jr_of jk_1 (by omega)) (jr_of jk_0 (by omega)) (jr_of rfl (by omega)) (by have := jk_0; omega) qv3 J Sm (by rw [jk_0, jk_1]; exact D) EV)
  ·
    rw [if_neg (by omega)] at D
    refine x_iconst (v := (-1)) rfl ki_m1 ?_
    refine x_iret rfl rfl ?_
    exact hQ _ _ J Sm (D.symm.trans (show (-1) = ((-1) : Int32).toInt from by have := jk_m1; omega)) EV
def fp_X2_readWhich_r95_r7d : jFp := [(68, 2, 3), (68, 3, 4), (68, 4, 5), (68, 5, 6), (96, 0, 72)]
set_option maxRecDepth 100000 in
set_option maxHeartbeats 4000000 in
theorem sf_X2_readWhich_r95_r7d {Dy : jH → Prop} {h : jH} {Q : Option Value → jH → Prop} {dr : (Int × jW)} (hD : jDk Dy) (J : jJ jSgX Dy h) {p0 p1 : Int32} (zp0 : jiv h 68 5 = p0) (zp1 : jiv h 68 3 = p1) (rl_p0 : (p0.toInt ≠ 3 ∨ p1.toInt ≤ 399)) (D : d_X2_readWhich_r95_r7d (vw h) = dr) (hQ : ∀ (v : Int32) hx9, 0 ≤ v.toInt ∧ v.toInt ≤ 1 → jJ jSgX Dy hx9 → jSm fp_X2_readWhich_r95_r7d h hx9 → ∀ u0 u1 : Int32, jiv hx9 68 5 = u0 → jiv hx9 68 3 = u1 → (u0.toInt ≠ 3 ∨ u1.toInt ≤ 399) → dr.1 = v.toInt → dr.2 = vw hx9 → Q (some (.int v)) hx9) : jC m_X2_readWhich 5 0 0 [.ref 95, .ref 7] h Q := by
  refine jC.of rfl k_X2_readWhich rfl ?_
  have Sm := jSm_rf fp_X2_readWhich_r95_r7d h
  have ep0 := (show 0 ≤ p0.toInt ∧ p0.toInt ≤ 3 from zp0 ▸ jrg_f J sg_68_5_6_1_0_1)
  have ep1 := (show 0 ≤ p1.toInt ∧ p1.toInt ≤ 400 from zp1 ▸ jrg_f J sg_68_3_4_1_0_1)
  show jX m_X2_readWhich 5 0 0 0 [(0, .ref 95), (1, .ref 7)] [] _ 0 0 _
  unfold d_X2_readWhich_r95_r7d at D
  try rw [vrf zp0] at D
  try rw [vrf zp1] at D
  refine x_aloadn (x := 95) rfl rfl ?_
  refine z_getR (N := 6) (b := 68) 2 0 rfl f_2_30 rfl J rfl 12160 ⟨rfl, rfl⟩ rfl ?_
  refine x_aloadn (x := 7) rfl rfl ?_
  refine x_inv (N := m_X9_wordOf) (As := [.ref 7]) (b := 68) (st := []) (dx9 := 4) (mc := 0) (ms := 0) (host := "") 9 rfl t_X9_wordOf ⟨Or.inl q_2_67, i_X9_wordOf.1, i_X9_wordOf.2⟩ ⟨by decide, rfl⟩ (congrArg Prod.fst (J.1.1 68 (9, 6) rfl)) rfl (by decide) rfl rfl ⟨by decide, by decide⟩ (sf_X9_wordOf_r68_r7d  hD J rfl  (fun v4 h J S1 X2 X3 => ?_))
  have ev4 := jfull v4
  have Sm := jSm_tr rfl Sm S1
  try rw [X2] at D
  try rw [← X3] at D
  show jX m_X2_readWhich 5 0 0 8 [(0, .ref 95), (1, .ref 7)] [.int v4] _ 0 0 _
  refine x_istoren (lsx9 := [(2, .int v4), (0, .ref 95), (1, .ref 7)]) rfl rfl rfl ?_
  refine x_iloadn (x := v4) rfl rfl ?_
  refine x_iconst (v := (-1)) rfl ki_m1 ?_
  refine x_icne (tgt := 22) rfl rfl (ti_ne rfl jk_m1 ⟨fun c5 => ?_, fun c5 => ?_⟩)
  ·
    rw [if_neg (by omega)] at D
    refine x_aloadn (x := 95) rfl rfl ?_
    refine x_iconst (v := 1) rfl ki_1 ?_
    refine x_iloadn (x := v4) rfl rfl ?_
    refine x_inv (N := m_X2_note) (As := [.int 1, .int v4]) (b := 95) (st := []) (dx9 := 1) (mc := 0) (ms := 0) (host := "") 2 rfl t_X2_note ⟨Or.inl q_2_82, i_X2_note.1, i_X2_note.2⟩ ⟨by decide, rfl⟩ (congrArg Prod.fst (J.1.1 95 (2, 6) rfl)) rfl (by decide) rfl rfl ⟨by decide, by decide⟩ (sf_X2_note_r95d (jr_of jk_1 (by omega)) hD J rfl  (fun h J S6 X7 => ?_))
    have Sm := jSm_tr rfl Sm S6
    try rw [jk_1] at X7
    rw [X7] at D
    show jX m_X2_readWhich 5 0 0 28 [(2, .int v4), (0, .ref 95), (1, .ref 7)] [] _ 0 0 _
    refine x_aloadn (x := 95) rfl rfl ?_
    refine z_getR (N := 6) (b := 68) 2 0 rfl f_2_30 rfl J rfl 12160 ⟨rfl, rfl⟩ rfl ?_
    refine x_inv (N := m_X9_step) (As := []) (b := 68) (st := []) (dx9 := 2) (mc := 0) (ms := 0) (host := "") 9 rfl t_X9_step ⟨Or.inl q_2_62, i_X9_step.1, i_X9_step.2⟩ ⟨by decide, rfl⟩ (congrArg Prod.fst (J.1.1 68 (9, 6) rfl)) rfl (by decide) rfl rfl ⟨by decide, by decide⟩ (sf_X9_step_r68d  hD J (jmc S6 rfl (jmc S1 rfl zp0)) (jmc S6 rfl (jmc S1 rfl zp1)) (by omega) rfl  (fun h J S8 u9 u10 qu9 qu10 ru9 X11 => ?_))
    have Sm := jSm_tr rfl Sm S8
    rw [X11] at D
    have eu9 := (show 0 ≤ u9.toInt ∧ u9.toInt ≤ 3 from qu9 ▸ jrg_f J sg_68_5_6_1_0_1)
    try rw [vrf qu9] at D
    have eu10 := (show 0 ≤ u10.toInt ∧ u10.toInt ≤ 400 from qu10 ▸ jrg_f J sg_68_3_4_1_0_1)
    try rw [vrf qu10] at D
    show jX m_X2_readWhich 5 0 0 35 [(2, .int v4), (0, .ref 95), (1, .ref 7)] [] _ 0 0 _
    refine x_iconst (v := 1) rfl ki_1 ?_
    refine x_zret rfl rfl (by decide) ?_
    exact hQ _ _ (jr_of jk_1 (by omega)) J Sm _ _ qu9 qu10 (by omega) ((congrArg Prod.fst D).symm.trans (show 1 = (1 : Int32).toInt from by have := jk_1; omega)) (congrArg Prod.snd D).symm
  ·
    rw [if_pos (by omega)] at D
    refine x_aloadn (x := 95) rfl rfl ?_
    refine z_getR (N := 6) (b := 68) 2 0 rfl f_2_30 rfl J rfl 12160 ⟨rfl, rfl⟩ rfl ?_
    refine x_inv (N := m_X9_blame) (As := []) (b := 68) (st := []) (dx9 := 4) (mc := 0) (ms := 0) (host := "") 9 rfl t_X9_blame ⟨Or.inl q_2_59, i_X9_blame.1, i_X9_blame.2⟩ ⟨by decide, rfl⟩ (congrArg Prod.fst (J.1.1 68 (9, 6) rfl)) rfl (by decide) rfl rfl ⟨by decide, by decide⟩ (jC.of rfl k_X9_blame rfl ?_)
    show jX m_X9_blame 4 0 0 0 [(0, .ref 68)] [] _ 0 0 _
    refine x_aloadn (x := 68) rfl rfl ?_
    refine x_aloadn (x := 68) rfl rfl ?_
    refine z_getM (N := 6) (v := p1) 9 3 rfl f_9_22 rfl J rfl (jmc S1 rfl zp1) ?_
    refine z_putI (N := 6) (w := p1.toInt) 9 2 rfl f_9_19 rfl (jfin_no TX9 RX9 6 rfl rfl) hD J Sm rfl rfl rfl (pw_68_2 (by omega)) rfl (fun h w12 J Sm => ?_)
    rw [vwf w12 (show p1.toInt = p1.toInt from by omega)] at D
    refine x_iconst (v := 0) rfl ki_0 ?_
    refine x_zret rfl rfl (by decide) ?_
    show jX m_X2_readWhich 5 0 0 21 [(2, .int v4), (0, .ref 95), (1, .ref 7)] [.int 0] _ 0 0 _
    refine x_zret rfl rfl (by decide) ?_
    exact hQ _ _ (jr_of jk_0 (by omega)) J Sm _ _ (jmo w12 rfl (jmc S1 rfl zp0)) (jmo w12 rfl (jmc S1 rfl zp1)) (by omega) ((congrArg Prod.fst D).symm.trans (show 0 = (0 : Int32).toInt from by have := jk_0; omega)) (congrArg Prod.snd D).symm
def fp_X9_wordOf_r68_r8d : jFp := []
set_option maxRecDepth 100000 in
set_option maxHeartbeats 4000000 in
theorem ct_X9_wordOf_r68_r8d_110 {Dy : jH → Prop} {h0 : jH} {Q : Option Value → jH → Prop} {dr : Int} {K23 : Int → Int → Int → Int → jW → Int} {R23 : Int} (hD : jDk Dy) (hQ : ∀ (v : Int32) hx9, jJ jSgX Dy hx9 → jSm fp_X9_wordOf_r68_r8d h0 hx9 → dr = v.toInt → vw hx9 = vw h0 → Q (some (.int v)) hx9) (k23 : ∀ (l2 : Int32) (l3 : Int32) (l4 : Int32) (l5 : Int32) (g0 : Int32) (h : jH), 16 - l5.toInt < R23 → 0 ≤ l3.toInt ∧ l3.toInt ≤ 416 → 0 ≤ l4.toInt ∧ l4.toInt ≤ 1 → 0 ≤ l5.toInt ∧ l5.toInt ≤ 16 → 0 ≤ g0.toInt ∧ g0.toInt ≤ 400 → l3.toInt - l5.toInt ≤ 400 → jiv h 68 3 = g0 → jJ jSgX Dy h → jSm fp_X9_wordOf_r68_r8d h0 h → K23 l2.toInt l3.toInt l4.toInt l5.toInt (vw h) = dr → vw h = vw h0 → jX m_X9_wordOf 4 0 0 23 [(0, .ref 68), (1, .ref 8), (2, .int l2), (3, .int l3), (4, .int l4), (5, .int l5)] [] h 0 0 Q) : ∀ (l2 : Int32) (l3 : Int32) (l4 : Int32) (l5 : Int32) (g0 : Int32) (h : jH), 0 ≤ l3.toInt ∧ l3.toInt ≤ 416 → 0 ≤ l4.toInt ∧ l4.toInt ≤ 1 → 0 ≤ l5.toInt ∧ l5.toInt ≤ 15 → 0 ≤ g0.toInt ∧ g0.toInt ≤ 400 → l3.toInt - l5.toInt ≤ 401 → jiv h 68 3 = g0 → 16 - l5.toInt ≤ R23 → jJ jSgX Dy h → jSm fp_X9_wordOf_r68_r8d h0 h → d_X9_wordOf_r68_r8d_110 K23  l2.toInt l3.toInt l4.toInt l5.toInt (vw h) = dr → vw h = vw h0 → jX m_X9_wordOf 4 0 0 110 [(0, .ref 68), (1, .ref 8), (2, .int l2), (3, .int l3), (4, .int l4), (5, .int l5)] [] h 0 0 Q := by
  intro l2 l3 l4 l5 g0 h y0 y1 y2 y3 y4 z0 m23 J Sm D EV
  have el2 := jfull l2
  unfold d_X9_wordOf_r68_r8d_110 at D
  try rw [vrf z0] at D
  refine z_iinc (x := l5) (lsx9 := fun v1 => [(5, .int v1), (0, .ref 68), (1, .ref 8), (2, .int l2), (3, .int l3), (4, .int l4)]) rfl rfl rfl jko_1 (by omega) rfl (fun _ => rfl) (fun v1 ev1 => ?_)
  refine x_goto (tgt := 23) rfl rfl ?_
  try rw [show (l5.toInt + 1) = v1.toInt from by omega] at D
  exact jX.sub (jsb_c rfl (jsb_c rfl (jsb_c rfl (jsb_c rfl (jsb_c rfl (jsb_c rfl jsb_n)))))) (k23 l2 l3 l4 v1 g0 h (by omega) (jr_of rfl (by omega)) (jr_of rfl (by omega)) (jr_of rfl (by omega)) (jr_of rfl (by omega)) (by omega) z0 J Sm D EV)
set_option maxRecDepth 100000 in
set_option maxHeartbeats 4000000 in
theorem ct_X9_wordOf_r68_r8d_300105 {Dy : jH → Prop} {h0 : jH} {Q : Option Value → jH → Prop} {dr : Int} {K23 : Int → Int → Int → Int → jW → Int} {R23 : Int} (hD : jDk Dy) (hQ : ∀ (v : Int32) hx9, jJ jSgX Dy hx9 → jSm fp_X9_wordOf_r68_r8d h0 hx9 → dr = v.toInt → vw hx9 = vw h0 → Q (some (.int v)) hx9) (k23 : ∀ (l2 : Int32) (l3 : Int32) (l4 : Int32) (l5 : Int32) (g0 : Int32) (h : jH), 16 - l5.toInt < R23 → 0 ≤ l3.toInt ∧ l3.toInt ≤ 416 → 0 ≤ l4.toInt ∧ l4.toInt ≤ 1 → 0 ≤ l5.toInt ∧ l5.toInt ≤ 16 → 0 ≤ g0.toInt ∧ g0.toInt ≤ 400 → l3.toInt - l5.toInt ≤ 400 → jiv h 68 3 = g0 → jJ jSgX Dy h → jSm fp_X9_wordOf_r68_r8d h0 h → K23 l2.toInt l3.toInt l4.toInt l5.toInt (vw h) = dr → vw h = vw h0 → jX m_X9_wordOf 4 0 0 23 [(0, .ref 68), (1, .ref 8), (2, .int l2), (3, .int l3), (4, .int l4), (5, .int l5)] [] h 0 0 Q) : ∀ (l2 : Int32) (l3 : Int32) (l5 : Int32) (g0 : Int32) (h : jH), 0 ≤ l3.toInt ∧ l3.toInt ≤ 399 → 0 ≤ l5.toInt ∧ l5.toInt ≤ 15 → 0 ≤ g0.toInt ∧ g0.toInt ≤ 400 → l3.toInt - l5.toInt ≤ 400 → jiv h 68 3 = g0 → 16 - l5.toInt ≤ R23 → jJ jSgX Dy h → jSm fp_X9_wordOf_r68_r8d h0 h → d_X9_wordOf_r68_r8d_300105 K23  l2.toInt l3.toInt l5.toInt (vw h) = dr → vw h = vw h0 → jX m_X9_wordOf 4 0 0 105 [(0, .ref 68), (1, .ref 8), (2, .int l2), (3, .int l3), (5, .int l5)] [.int 1] h 0 0 Q := by
  intro l2 l3 l5 g0 h y0 y1 y2 y3 z0 m23 J Sm D EV
  have el2 := jfull l2
  unfold d_X9_wordOf_r68_r8d_300105 at D
  try rw [vrf z0] at D
  refine x_istore (lsx9 := [(4, .int 1), (0, .ref 68), (1, .ref 8), (2, .int l2), (3, .int l3), (5, .int l5)]) rfl rfl rfl ?_
  refine z_iinc (x := l3) (lsx9 := fun v1 => [(3, .int v1), (4, .int 1), (0, .ref 68), (1, .ref 8), (2, .int l2), (5, .int l5)]) rfl rfl rfl jko_1 (by omega) rfl (fun _ => rfl) (fun v1 ev1 => ?_)
  try rw [show (l3.toInt + 1) = v1.toInt from by omega] at D
  exact jX.sub (jsb_c rfl (jsb_c rfl (jsb_c rfl (jsb_c rfl (jsb_c rfl (jsb_c rfl jsb_n)))))) (ct_X9_wordOf_r68_r8d_110 hD hQ k23 l2 v1 1 l5 g0 h (jr_of rfl (by omega)) (jr_of jk_1 (by omega)) (jr_of rfl (by omega)) (jr_of rfl (by omega)) (by omega) z0 (by omega) J Sm (by rw [jk_1]; exact D) EV)
set_option maxRecDepth 100000 in
set_option maxHeartbeats 4000000 in
theorem ct_X9_wordOf_r68_r8d_200105 {Dy : jH → Prop} {h0 : jH} {Q : Option Value → jH → Prop} {dr : Int} {K23 : Int → Int → Int → Int → jW → Int} {R23 : Int} (hD : jDk Dy) (hQ : ∀ (v : Int32) hx9, jJ jSgX Dy hx9 → jSm fp_X9_wordOf_r68_r8d h0 hx9 → dr = v.toInt → vw hx9 = vw h0 → Q (some (.int v)) hx9) (k23 : ∀ (l2 : Int32) (l3 : Int32) (l4 : Int32) (l5 : Int32) (g0 : Int32) (h : jH), 16 - l5.toInt < R23 → 0 ≤ l3.toInt ∧ l3.toInt ≤ 416 → 0 ≤ l4.toInt ∧ l4.toInt ≤ 1 → 0 ≤ l5.toInt ∧ l5.toInt ≤ 16 → 0 ≤ g0.toInt ∧ g0.toInt ≤ 400 → l3.toInt - l5.toInt ≤ 400 → jiv h 68 3 = g0 → jJ jSgX Dy h → jSm fp_X9_wordOf_r68_r8d h0 h → K23 l2.toInt l3.toInt l4.toInt l5.toInt (vw h) = dr → vw h = vw h0 → jX m_X9_wordOf 4 0 0 23 [(0, .ref 68), (1, .ref 8), (2, .int l2), (3, .int l3), (4, .int l4), (5, .int l5)] [] h 0 0 Q) : ∀ (l2 : Int32) (l3 : Int32) (l5 : Int32) (g0 : Int32) (h : jH), 0 ≤ l3.toInt ∧ l3.toInt ≤ 415 → 0 ≤ l5.toInt ∧ l5.toInt ≤ 15 → 0 ≤ g0.toInt ∧ g0.toInt ≤ 400 → l3.toInt - l5.toInt ≤ 400 → jiv h 68 3 = g0 → 16 - l5.toInt ≤ R23 → jJ jSgX Dy h → jSm fp_X9_wordOf_r68_r8d h0 h → d_X9_wordOf_r68_r8d_200105 K23  l2.toInt l3.toInt l5.toInt (vw h) = dr → vw h = vw h0 → jX m_X9_wordOf 4 0 0 105 [(0, .ref 68), (1, .ref 8), (2, .int l2), (3, .int l3), (5, .int l5)] [.int 0] h 0 0 Q := by
  intro l2 l3 l5 g0 h y0 y1 y2 y3 z0 m23 J Sm D EV
  have el2 := jfull l2
  unfold d_X9_wordOf_r68_r8d_200105 at D
  try rw [vrf z0] at D
  refine x_istore (lsx9 := [(4, .int 0), (0, .ref 68), (1, .ref 8), (2, .int l2), (3, .int l3), (5, .int l5)]) rfl rfl rfl ?_
  refine z_iinc (x := l3) (lsx9 := fun v1 => [(3, .int v1), (4, .int 0), (0, .ref 68), (1, .ref 8), (2, .int l2), (5, .int l5)]) rfl rfl rfl jko_1 (by omega) rfl (fun _ => rfl) (fun v1 ev1 => ?_)
  try rw [show (l3.toInt + 1) = v1.toInt from by omega] at D
  exact jX.sub (jsb_c rfl (jsb_c rfl (jsb_c rfl (jsb_c rfl (jsb_c rfl (jsb_c rfl jsb_n)))))) (ct_X9_wordOf_r68_r8d_110 hD hQ k23 l2 v1 0 l5 g0 h (jr_of rfl (by omega)) (jr_of jk_0 (by omega)) (jr_of rfl (by omega)) (jr_of rfl (by omega)) (by omega) z0 (by omega) J Sm (by rw [jk_0]; exact D) EV)
set_option maxRecDepth 100000 in
set_option maxHeartbeats 4000000 in
theorem ct_X9_wordOf_r68_r8d_104 {Dy : jH → Prop} {h0 : jH} {Q : Option Value → jH → Prop} {dr : Int} {K23 : Int → Int → Int → Int → jW → Int} {R23 : Int} (hD : jDk Dy) (hQ : ∀ (v : Int32) hx9, jJ jSgX Dy hx9 → jSm fp_X9_wordOf_r68_r8d h0 hx9 → dr = v.toInt → vw hx9 = vw h0 → Q (some (.int v)) hx9) (k23 : ∀ (l2 : Int32) (l3 : Int32) (l4 : Int32) (l5 : Int32) (g0 : Int32) (h : jH), 16 - l5.toInt < R23 → 0 ≤ l3.toInt ∧ l3.toInt ≤ 416 → 0 ≤ l4.toInt ∧ l4.toInt ≤ 1 → 0 ≤ l5.toInt ∧ l5.toInt ≤ 16 → 0 ≤ g0.toInt ∧ g0.toInt ≤ 400 → l3.toInt - l5.toInt ≤ 400 → jiv h 68 3 = g0 → jJ jSgX Dy h → jSm fp_X9_wordOf_r68_r8d h0 h → K23 l2.toInt l3.toInt l4.toInt l5.toInt (vw h) = dr → vw h = vw h0 → jX m_X9_wordOf 4 0 0 23 [(0, .ref 68), (1, .ref 8), (2, .int l2), (3, .int l3), (4, .int l4), (5, .int l5)] [] h 0 0 Q) : ∀ (l2 : Int32) (l3 : Int32) (l5 : Int32) (g0 : Int32) (h : jH), 0 ≤ l3.toInt ∧ l3.toInt ≤ 415 → 0 ≤ l5.toInt ∧ l5.toInt ≤ 15 → 0 ≤ g0.toInt ∧ g0.toInt ≤ 400 → l3.toInt - l5.toInt ≤ 400 → jiv h 68 3 = g0 → 16 - l5.toInt ≤ R23 → jJ jSgX Dy h → jSm fp_X9_wordOf_r68_r8d h0 h → d_X9_wordOf_r68_r8d_104 K23  l2.toInt l3.toInt l5.toInt (vw h) = dr → vw h = vw h0 → jX m_X9_wordOf 4 0 0 104 [(0, .ref 68), (1, .ref 8), (2, .int l2), (3, .int l3), (5, .int l5)] [] h 0 0 Q := by
  intro l2 l3 l5 g0 h y0 y1 y2 y3 z0 m23 J Sm D EV
  have el2 := jfull l2
  unfold d_X9_wordOf_r68_r8d_104 at D
  try rw [vrf z0] at D
  refine x_iconst (v := 0) rfl ki_0 ?_
  exact jX.sub (jsb_c rfl (jsb_c rfl (jsb_c rfl (jsb_c rfl (jsb_c rfl jsb_n))))) (ct_X9_wordOf_r68_r8d_200105 hD hQ k23 l2 l3 l5 g0 h (jr_of rfl (by omega)) (jr_of rfl (by omega)) (jr_of rfl (by omega)) (by omega) z0 (by omega) J Sm D EV)
set_option maxRecDepth 100000 in
set_option maxHeartbeats 4000000 in
theorem ct_X9_wordOf_r68_r8d_62 {Dy : jH → Prop} {h0 : jH} {Q : Option Value → jH → Prop} {dr : Int} {K23 : Int → Int → Int → Int → jW → Int} {R23 : Int} (hD : jDk Dy) (hQ : ∀ (v : Int32) hx9, jJ jSgX Dy hx9 → jSm fp_X9_wordOf_r68_r8d h0 hx9 → dr = v.toInt → vw hx9 = vw h0 → Q (some (.int v)) hx9) (k23 : ∀ (l2 : Int32) (l3 : Int32) (l4 : Int32) (l5 : Int32) (g0 : Int32) (h : jH), 16 - l5.toInt < R23 → 0 ≤ l3.toInt ∧ l3.toInt ≤ 416 → 0 ≤ l4.toInt ∧ l4.toInt ≤ 1 → 0 ≤ l5.toInt ∧ l5.toInt ≤ 16 → 0 ≤ g0.toInt ∧ g0.toInt ≤ 400 → l3.toInt - l5.toInt ≤ 400 → jiv h 68 3 = g0 → jJ jSgX Dy h → jSm fp_X9_wordOf_r68_r8d h0 h → K23 l2.toInt l3.toInt l4.toInt l5.toInt (vw h) = dr → vw h = vw h0 → jX m_X9_wordOf 4 0 0 23 [(0, .ref 68), (1, .ref 8), (2, .int l2), (3, .int l3), (4, .int l4), (5, .int l5)] [] h 0 0 Q) : ∀ (l2 : Int32) (l5 : Int32) (g0 : Int32) (h : jH), 0 ≤ l5.toInt ∧ l5.toInt ≤ 15 → 0 ≤ g0.toInt ∧ g0.toInt ≤ 400 → jiv h 68 3 = g0 → 16 - l5.toInt ≤ R23 → jJ jSgX Dy h → jSm fp_X9_wordOf_r68_r8d h0 h → d_X9_wordOf_r68_r8d_62 K23  l2.toInt l5.toInt (vw h) = dr → vw h = vw h0 → jX m_X9_wordOf 4 0 0 62 [(0, .ref 68), (1, .ref 8), (2, .int l2), (5, .int l5)] [] h 0 0 Q := by
  intro l2 l5 g0 h y0 y1 z0 m23 J Sm D EV
  have el2 := jfull l2
  unfold d_X9_wordOf_r68_r8d_62 at D
  try rw [vrf z0] at D
  refine z_iincW (x := l2) (lsx9 := fun v1 => [(2, .int v1), (0, .ref 68), (1, .ref 8), (5, .int l5)]) rfl rfl rfl jko_1 rfl (fun _ => rfl) (fun v1 ev1 => ?_)
  have fv1 := jfull v1
  try rw [← ev1] at D
  refine x_aloadn (x := 68) rfl rfl ?_
  refine z_getM (N := 6) (v := g0) 9 3 rfl f_9_22 rfl J rfl z0 ?_
  refine x_istoren (lsx9 := [(3, .int g0), (2, .int v1), (0, .ref 68), (1, .ref 8), (5, .int l5)]) rfl rfl rfl ?_
  refine x_iconst (v := 1) rfl ki_1 ?_
  refine x_istore (lsx9 := [(4, .int 1), (3, .int g0), (2, .int v1), (0, .ref 68), (1, .ref 8), (5, .int l5)]) rfl rfl rfl ?_
  refine x_goto (tgt := 110) rfl rfl ?_
  exact jX.sub (jsb_c rfl (jsb_c rfl (jsb_c rfl (jsb_c rfl (jsb_c rfl (jsb_c rfl jsb_n)))))) (ct_X9_wordOf_r68_r8d_110 hD hQ k23 v1 g0 1 l5 g0 h (jr_of rfl (by omega)) (jr_of jk_1 (by omega)) (jr_of rfl (by omega)) (jr_of rfl (by omega)) (by omega) z0 (by omega) J Sm (by rw [jk_1]; exact D) EV)
set_option maxRecDepth 100000 in
set_option maxHeartbeats 4000000 in
theorem ct_X9_wordOf_r68_r8d_23 {Dy : jH → Prop} {h0 : jH} {Q : Option Value → jH → Prop} {dr : Int} (hD : jDk Dy) (hQ : ∀ (v : Int32) hx9, jJ jSgX Dy hx9 → jSm fp_X9_wordOf_r68_r8d h0 hx9 → dr = v.toInt → vw hx9 = vw h0 → Q (some (.int v)) hx9) : ∀ r : Nat, ∀ (l2 : Int32) (l3 : Int32) (l4 : Int32) (l5 : Int32) (g0 : Int32) (h : jH), 16 - l5.toInt < (r : Int) → 0 ≤ l3.toInt ∧ l3.toInt ≤ 416 → 0 ≤ l4.toInt ∧ l4.toInt ≤ 1 → 0 ≤ l5.toInt ∧ l5.toInt ≤ 16 → 0 ≤ g0.toInt ∧ g0.toInt ≤ 400 → l3.toInt - l5.toInt ≤ 400 → jiv h 68 3 = g0 → jJ jSgX Dy h → jSm fp_X9_wordOf_r68_r8d h0 h → d_X9_wordOf_r68_r8d_23 r l2.toInt l3.toInt l4.toInt l5.toInt (vw h) = dr → vw h = vw h0 → jX m_X9_wordOf 4 0 0 23 [(0, .ref 68), (1, .ref 8), (2, .int l2), (3, .int l3), (4, .int l4), (5, .int l5)] [] h 0 0 Q := by
  intro r
  induction r with
  | zero =>
    intro l2 l3 l4 l5 g0 h hm y0 y1 y2 y3 y4 z0  J Sm D EV
    exfalso
    have el2 := jfull l2
    omega
  | succ r ih =>
    intro l2 l3 l4 l5 g0 h hm y0 y1 y2 y3 y4 z0  J Sm D EV
    have el2 := jfull l2
    rw [d_X9_wordOf_r68_r8d_23.eq_2] at D
    try rw [vrf z0] at D
    refine x_iload (x := l5) rfl rfl ?_
    refine x_aloadn (x := 8) rfl rfl ?_
    refine x_invS (N := m_J0_length_8abf5) (i := 3) (As := []) (st := [.int l5]) (dx9 := 1) (by decide) rfl t_J0_length_8abf5 ⟨q_9_38, i_J0_length_8abf5.1, i_J0_length_8abf5.2⟩ rfl rfl (by decide) rfl rfl (zc_slen (N := 16) (v := 16) rfl J rfl rfl (by decide) ?_)
    show jX m_X9_wordOf 4 0 0 29 [(0, .ref 68), (1, .ref 8), (2, .int l2), (3, .int l3), (4, .int l4), (5, .int l5)] [.int 16, .int l5] _ 0 0 _
    refine x_icge (tgt := 116) rfl rfl (ti_ge rfl jk_16 ⟨fun c1 => ?_, fun c1 => ?_⟩)
    ·
      rw [if_pos (by omega)] at D
      refine x_iconst (v := (-1)) rfl ki_m1 ?_
      refine x_iret rfl rfl ?_
      exact hQ _ _ J Sm (D.symm.trans (show (-1) = ((-1) : Int32).toInt from by have := jk_m1; omega)) EV
    ·
      rw [if_neg (by omega)] at D
      refine x_aloadn (x := 8) rfl rfl ?_
      refine x_iload (x := l5) rfl rfl ?_
      refine x_invS (N := m_J0_charAt_5068e) (i := 3) (As := [.int l5]) (st := []) (dx9 := 3) (by decide) rfl t_J0_charAt_5068e ⟨q_9_43, i_J0_charAt_5068e.1, i_J0_charAt_5068e.2⟩ rfl rfl (by decide) rfl rfl (zc_scharD (N := 16) rfl J rfl rfl rfl (by omega) (fun v2 ev2 => ?_))
      try rw [← ev2.1] at D
      show jX m_X9_wordOf 4 0 0 38 [(0, .ref 68), (1, .ref 8), (2, .int l2), (3, .int l3), (4, .int l4), (5, .int l5)] [.int v2] _ 0 0 _
      refine x_istore (lsx9 := [(6, .int v2), (0, .ref 68), (1, .ref 8), (2, .int l2), (3, .int l3), (4, .int l4), (5, .int l5)]) rfl rfl rfl ?_
      refine x_iload (x := v2) rfl rfl ?_
      refine x_bipush (v := 32) rfl kb_32 ?_
      refine x_icne (tgt := 76) rfl rfl (ti_ne rfl jk_32 ⟨fun c3 => ?_, fun c3 => ?_⟩)
      ·
        rw [if_neg (by omega)] at D
        refine x_iload (x := l4) rfl rfl ?_
        refine x_ifeq (tgt := 104) rfl rfl (ti_eq rfl jk_0 ⟨fun c4 => ?_, fun c4 => ?_⟩)
        ·
          rw [if_pos (by omega)] at D
          exact jX.sub (jsb_c rfl (jsb_c rfl (jsb_c rfl (jsb_c rfl (jsb_c rfl jsb_n))))) (ct_X9_wordOf_r68_r8d_104 hD hQ ih l2 l3 l5 g0 h (jr_of rfl (by omega)) (jr_of rfl (by omega)) (jr_of rfl (by omega)) (by omega) z0 (by omega) J Sm D EV)
        ·
          rw [if_neg (by omega)] at D
          refine x_iloadn (x := l3) rfl rfl ?_
          refine x_aloadn (x := 68) rfl rfl ?_
          refine z_getI (N := 6) 9 4 rfl f_9_25 rfl J rfl sg_68_4_5_1_0_1 (fun v5 qv5 ev5 => ?_)
          try rw [vrf qv5] at D
          refine x_icge (tgt := 104) rfl rfl (ti_ge rfl rfl ⟨fun c6 => ?_, fun c6 => ?_⟩)
          ·
            rw [if_pos (by omega)] at D
            exact jX.sub (jsb_c rfl (jsb_c rfl (jsb_c rfl (jsb_c rfl (jsb_c rfl jsb_n))))) (ct_X9_wordOf_r68_r8d_104 hD hQ ih l2 l3 l5 g0 h (jr_of rfl (by omega)) (jr_of rfl (by omega)) (jr_of rfl (by omega)) (by omega) z0 (by omega) J Sm D EV)
          ·
            rw [if_neg (by omega)] at D
            refine x_aloadn (x := 68) rfl rfl ?_
            refine z_getR (N := 6) (b := 69) 9 0 rfl f_9_11 rfl J rfl 8704 ⟨rfl, rfl⟩ rfl ?_
            refine x_iloadn (x := l3) rfl rfl ?_
            refine z_iald (N := 400) rfl J rfl sg_69_0_400_1_0_1 rfl (by omega) (fun v7 qv7 ev7 => ?_)
            try rw [vrd qv7 (show l3.toInt = l3.toInt from by omega)] at D
            refine x_iload (x := v2) rfl rfl ?_
            refine x_icne (tgt := 104) rfl rfl (ti_ne rfl rfl ⟨fun c8 => ?_, fun c8 => ?_⟩)
            ·
              rw [if_neg (by omega)] at D
              exact jX.sub (jsb_c rfl (jsb_c rfl (jsb_c rfl (jsb_c rfl (jsb_c rfl jsb_n))))) (ct_X9_wordOf_r68_r8d_104 hD hQ ih l2 l3 l5 g0 h (jr_of rfl (by omega)) (jr_of rfl (by omega)) (jr_of rfl (by omega)) (by omega) z0 (by omega) J Sm D EV)
            ·
              rw [if_pos (by omega)] at D
              refine x_iconst (v := 1) rfl ki_1 ?_
              refine x_goto (tgt := 105) rfl rfl ?_
              exact jX.sub (jsb_c rfl (jsb_c rfl (jsb_c rfl (jsb_c rfl (jsb_c rfl jsb_n))))) (ct_X9_wordOf_r68_r8d_300105 hD hQ ih l2 l3 l5 g0 h (jr_of rfl (by omega)) (jr_of rfl (by omega)) (jr_of rfl (by omega)) (by omega) z0 (by omega) J Sm D EV)
      ·
        rw [if_pos (by omega)] at D
        refine x_iload (x := l4) rfl rfl ?_
        refine x_ifeq (tgt := 62) rfl rfl (ti_eq rfl jk_0 ⟨fun c9 => ?_, fun c9 => ?_⟩)
        ·
          rw [if_pos (by omega)] at D
          exact jX.sub (jsb_c rfl (jsb_c rfl (jsb_c rfl (jsb_c rfl jsb_n)))) (ct_X9_wordOf_r68_r8d_62 hD hQ ih l2 l5 g0 h (jr_of rfl (by omega)) (jr_of rfl (by omega)) z0 (by omega) J Sm D EV)
        ·
          rw [if_neg (by omega)] at D
          refine x_iloadn (x := l3) rfl rfl ?_
          refine x_aloadn (x := 68) rfl rfl ?_
          refine z_getI (N := 6) 9 4 rfl f_9_25 rfl J rfl sg_68_4_5_1_0_1 (fun v10 qv10 ev10 => ?_)
          try rw [vrf qv10] at D
          refine x_icne (tgt := 62) rfl rfl (ti_ne rfl rfl ⟨fun c11 => ?_, fun c11 => ?_⟩)
          ·
            rw [if_neg (by omega)] at D
            exact jX.sub (jsb_c rfl (jsb_c rfl (jsb_c rfl (jsb_c rfl jsb_n)))) (ct_X9_wordOf_r68_r8d_62 hD hQ ih l2 l5 g0 h (jr_of rfl (by omega)) (jr_of rfl (by omega)) z0 (by omega) J Sm D EV)
          ·
            rw [if_pos (by omega)] at D
            refine x_iloadn (x := l2) rfl rfl ?_
            refine x_iret rfl rfl ?_
            exact hQ _ _ J Sm (D.symm.trans (show l2.toInt = l2.toInt from by omega)) EV
set_option maxRecDepth 100000 in
set_option maxHeartbeats 4000000 in
theorem sf_X9_wordOf_r68_r8d {Dy : jH → Prop} {h : jH} {Q : Option Value → jH → Prop} {dr : Int} (hD : jDk Dy) (J : jJ jSgX Dy h) (D : d_X9_wordOf_r68_r8d (vw h) = dr) (hQ : ∀ (v : Int32) hx9, jJ jSgX Dy hx9 → jSm fp_X9_wordOf_r68_r8d h hx9 → dr = v.toInt → vw hx9 = vw h → Q (some (.int v)) hx9) : jC m_X9_wordOf 4 0 0 [.ref 68, .ref 8] h Q := by
  refine jC.of rfl k_X9_wordOf rfl ?_
  have Sm := jSm_rf fp_X9_wordOf_r68_r8d h
  show jX m_X9_wordOf 4 0 0 0 [(0, .ref 68), (1, .ref 8)] [] _ 0 0 _
  unfold d_X9_wordOf_r68_r8d at D
  have EV : vw h = vw h := rfl
  refine x_aloadn (x := 68) rfl rfl ?_
  refine z_getI (N := 6) 9 5 rfl f_9_28 rfl J rfl sg_68_5_6_1_0_1 (fun v1 qv1 ev1 => ?_)
  try rw [vrf qv1] at D
  refine x_iconst (v := 1) rfl ki_1 ?_
  refine x_iceq (tgt := 10) rfl rfl (ti_eq rfl jk_1 ⟨fun c2 => ?_, fun c2 => ?_⟩)
  ·
    rw [if_pos (by omega)] at D
    refine x_iconst (v := 0) rfl ki_0 ?_
    refine x_istoren (lsx9 := [(2, .int 0), (0, .ref 68), (1, .ref 8)]) rfl rfl rfl ?_
    refine x_aloadn (x := 68) rfl rfl ?_
    refine z_getI (N := 6) 9 3 rfl f_9_22 rfl J rfl sg_68_3_4_1_0_1 (fun v3 qv3 ev3 => ?_)
    try rw [vrf qv3] at D
    refine x_istoren (lsx9 := [(3, .int v3), (2, .int 0), (0, .ref 68), (1, .ref 8)]) rfl rfl rfl ?_
    refine x_iconst (v := 1) rfl ki_1 ?_
    refine x_istore (lsx9 := [(4, .int 1), (3, .int v3), (2, .int 0), (0, .ref 68), (1, .ref 8)]) rfl rfl rfl ?_
    refine x_iconst (v := 0) rfl ki_0 ?_
    refine x_istore (lsx9 := [(5, .int 0), (4, .int 1), (3, .int v3), (2, .int 0), (0, .ref 68), (1, .ref 8)]) rfl rfl rfl ?_
    exact jX.sub (jsb_c rfl (jsb_c rfl (jsb_c rfl (jsb_c rfl (jsb_c rfl (jsb_c rfl jsb_n)))))) (ct_X9_wordOf_r68_r8d_23 hD hQ  17 0 v3 1 0 v3 h (by have := jk_0; omega) (jr_of rfl (by omega)) (jr_of jk_1 (by omega)) (jr_of jk_0 (by omega)) (jr_of rfl (by omega)) (by have := jk_0; omega) qv3 J Sm (by rw [jk_0, jk_1]; exact D) EV)
  ·
    rw [if_neg (by omega)] at D
    refine x_iconst (v := (-1)) rfl ki_m1 ?_
    refine x_iret rfl rfl ?_
    exact hQ _ _ J Sm (D.symm.trans (show (-1) = ((-1) : Int32).toInt from by have := jk_m1; omega)) EV
def fp_X2_readWhich_r95_r8d : jFp := [(68, 2, 3), (68, 3, 4), (68, 4, 5), (68, 5, 6), (96, 0, 72)]
set_option maxRecDepth 100000 in
set_option maxHeartbeats 4000000 in
theorem sf_X2_readWhich_r95_r8d {Dy : jH → Prop} {h : jH} {Q : Option Value → jH → Prop} {dr : (Int × jW)} (hD : jDk Dy) (J : jJ jSgX Dy h) {p0 p1 : Int32} (zp0 : jiv h 68 5 = p0) (zp1 : jiv h 68 3 = p1) (rl_p0 : (p0.toInt ≠ 3 ∨ p1.toInt ≤ 399)) (D : d_X2_readWhich_r95_r8d (vw h) = dr) (hQ : ∀ (v : Int32) hx9, 0 ≤ v.toInt ∧ v.toInt ≤ 1 → jJ jSgX Dy hx9 → jSm fp_X2_readWhich_r95_r8d h hx9 → ∀ u0 u1 : Int32, jiv hx9 68 5 = u0 → jiv hx9 68 3 = u1 → (u0.toInt ≠ 3 ∨ u1.toInt ≤ 399) → dr.1 = v.toInt → dr.2 = vw hx9 → Q (some (.int v)) hx9) : jC m_X2_readWhich 5 0 0 [.ref 95, .ref 8] h Q := by
  refine jC.of rfl k_X2_readWhich rfl ?_
  have Sm := jSm_rf fp_X2_readWhich_r95_r8d h
  have ep0 := (show 0 ≤ p0.toInt ∧ p0.toInt ≤ 3 from zp0 ▸ jrg_f J sg_68_5_6_1_0_1)
  have ep1 := (show 0 ≤ p1.toInt ∧ p1.toInt ≤ 400 from zp1 ▸ jrg_f J sg_68_3_4_1_0_1)
  show jX m_X2_readWhich 5 0 0 0 [(0, .ref 95), (1, .ref 8)] [] _ 0 0 _
  unfold d_X2_readWhich_r95_r8d at D
  try rw [vrf zp0] at D
  try rw [vrf zp1] at D
  refine x_aloadn (x := 95) rfl rfl ?_
  refine z_getR (N := 6) (b := 68) 2 0 rfl f_2_30 rfl J rfl 12160 ⟨rfl, rfl⟩ rfl ?_
  refine x_aloadn (x := 8) rfl rfl ?_
  refine x_inv (N := m_X9_wordOf) (As := [.ref 8]) (b := 68) (st := []) (dx9 := 4) (mc := 0) (ms := 0) (host := "") 9 rfl t_X9_wordOf ⟨Or.inl q_2_67, i_X9_wordOf.1, i_X9_wordOf.2⟩ ⟨by decide, rfl⟩ (congrArg Prod.fst (J.1.1 68 (9, 6) rfl)) rfl (by decide) rfl rfl ⟨by decide, by decide⟩ (sf_X9_wordOf_r68_r8d  hD J rfl  (fun v4 h J S1 X2 X3 => ?_))
  have ev4 := jfull v4
  have Sm := jSm_tr rfl Sm S1
  try rw [X2] at D
  try rw [← X3] at D
  show jX m_X2_readWhich 5 0 0 8 [(0, .ref 95), (1, .ref 8)] [.int v4] _ 0 0 _
  refine x_istoren (lsx9 := [(2, .int v4), (0, .ref 95), (1, .ref 8)]) rfl rfl rfl ?_
  refine x_iloadn (x := v4) rfl rfl ?_
  refine x_iconst (v := (-1)) rfl ki_m1 ?_
  refine x_icne (tgt := 22) rfl rfl (ti_ne rfl jk_m1 ⟨fun c5 => ?_, fun c5 => ?_⟩)
  ·
    rw [if_neg (by omega)] at D
    refine x_aloadn (x := 95) rfl rfl ?_
    refine x_iconst (v := 1) rfl ki_1 ?_
    refine x_iloadn (x := v4) rfl rfl ?_
    refine x_inv (N := m_X2_note) (As := [.int 1, .int v4]) (b := 95) (st := []) (dx9 := 1) (mc := 0) (ms := 0) (host := "") 2 rfl t_X2_note ⟨Or.inl q_2_82, i_X2_note.1, i_X2_note.2⟩ ⟨by decide, rfl⟩ (congrArg Prod.fst (J.1.1 95 (2, 6) rfl)) rfl (by decide) rfl rfl ⟨by decide, by decide⟩ (sf_X2_note_r95d (jr_of jk_1 (by omega)) hD J rfl  (fun h J S6 X7 => ?_))
    have Sm := jSm_tr rfl Sm S6
    try rw [jk_1] at X7
    rw [X7] at D
    show jX m_X2_readWhich 5 0 0 28 [(2, .int v4), (0, .ref 95), (1, .ref 8)] [] _ 0 0 _
    refine x_aloadn (x := 95) rfl rfl ?_
    refine z_getR (N := 6) (b := 68) 2 0 rfl f_2_30 rfl J rfl 12160 ⟨rfl, rfl⟩ rfl ?_
    refine x_inv (N := m_X9_step) (As := []) (b := 68) (st := []) (dx9 := 2) (mc := 0) (ms := 0) (host := "") 9 rfl t_X9_step ⟨Or.inl q_2_62, i_X9_step.1, i_X9_step.2⟩ ⟨by decide, rfl⟩ (congrArg Prod.fst (J.1.1 68 (9, 6) rfl)) rfl (by decide) rfl rfl ⟨by decide, by decide⟩ (sf_X9_step_r68d  hD J (jmc S6 rfl (jmc S1 rfl zp0)) (jmc S6 rfl (jmc S1 rfl zp1)) (by omega) rfl  (fun h J S8 u9 u10 qu9 qu10 ru9 X11 => ?_))
    have Sm := jSm_tr rfl Sm S8
    rw [X11] at D
    have eu9 := (show 0 ≤ u9.toInt ∧ u9.toInt ≤ 3 from qu9 ▸ jrg_f J sg_68_5_6_1_0_1)
    try rw [vrf qu9] at D
    have eu10 := (show 0 ≤ u10.toInt ∧ u10.toInt ≤ 400 from qu10 ▸ jrg_f J sg_68_3_4_1_0_1)
    try rw [vrf qu10] at D
    show jX m_X2_readWhich 5 0 0 35 [(2, .int v4), (0, .ref 95), (1, .ref 8)] [] _ 0 0 _
    refine x_iconst (v := 1) rfl ki_1 ?_
    refine x_zret rfl rfl (by decide) ?_
    exact hQ _ _ (jr_of jk_1 (by omega)) J Sm _ _ qu9 qu10 (by omega) ((congrArg Prod.fst D).symm.trans (show 1 = (1 : Int32).toInt from by have := jk_1; omega)) (congrArg Prod.snd D).symm
  ·
    rw [if_pos (by omega)] at D
    refine x_aloadn (x := 95) rfl rfl ?_
    refine z_getR (N := 6) (b := 68) 2 0 rfl f_2_30 rfl J rfl 12160 ⟨rfl, rfl⟩ rfl ?_
    refine x_inv (N := m_X9_blame) (As := []) (b := 68) (st := []) (dx9 := 4) (mc := 0) (ms := 0) (host := "") 9 rfl t_X9_blame ⟨Or.inl q_2_59, i_X9_blame.1, i_X9_blame.2⟩ ⟨by decide, rfl⟩ (congrArg Prod.fst (J.1.1 68 (9, 6) rfl)) rfl (by decide) rfl rfl ⟨by decide, by decide⟩ (jC.of rfl k_X9_blame rfl ?_)
    show jX m_X9_blame 4 0 0 0 [(0, .ref 68)] [] _ 0 0 _
    refine x_aloadn (x := 68) rfl rfl ?_
    refine x_aloadn (x := 68) rfl rfl ?_
    refine z_getM (N := 6) (v := p1) 9 3 rfl f_9_22 rfl J rfl (jmc S1 rfl zp1) ?_
    refine z_putI (N := 6) (w := p1.toInt) 9 2 rfl f_9_19 rfl (jfin_no TX9 RX9 6 rfl rfl) hD J Sm rfl rfl rfl (pw_68_2 (by omega)) rfl (fun h w12 J Sm => ?_)
    rw [vwf w12 (show p1.toInt = p1.toInt from by omega)] at D
    refine x_iconst (v := 0) rfl ki_0 ?_
    refine x_zret rfl rfl (by decide) ?_
    show jX m_X2_readWhich 5 0 0 21 [(2, .int v4), (0, .ref 95), (1, .ref 8)] [.int 0] _ 0 0 _
    refine x_zret rfl rfl (by decide) ?_
    exact hQ _ _ (jr_of jk_0 (by omega)) J Sm _ _ (jmo w12 rfl (jmc S1 rfl zp0)) (jmo w12 rfl (jmc S1 rfl zp1)) (by omega) ((congrArg Prod.fst D).symm.trans (show 0 = (0 : Int32).toInt from by have := jk_0; omega)) (congrArg Prod.snd D).symm
def fp_X9_wordOf_r68_r9d : jFp := []
set_option maxRecDepth 100000 in
set_option maxHeartbeats 4000000 in
theorem ct_X9_wordOf_r68_r9d_110 {Dy : jH → Prop} {h0 : jH} {Q : Option Value → jH → Prop} {dr : Int} {K23 : Int → Int → Int → Int → jW → Int} {R23 : Int} (hD : jDk Dy) (hQ : ∀ (v : Int32) hx9, jJ jSgX Dy hx9 → jSm fp_X9_wordOf_r68_r9d h0 hx9 → dr = v.toInt → vw hx9 = vw h0 → Q (some (.int v)) hx9) (k23 : ∀ (l2 : Int32) (l3 : Int32) (l4 : Int32) (l5 : Int32) (g0 : Int32) (h : jH), 35 - l5.toInt < R23 → 0 ≤ l3.toInt ∧ l3.toInt ≤ 435 → 0 ≤ l4.toInt ∧ l4.toInt ≤ 1 → 0 ≤ l5.toInt ∧ l5.toInt ≤ 35 → 0 ≤ g0.toInt ∧ g0.toInt ≤ 400 → l3.toInt - l5.toInt ≤ 400 → jiv h 68 3 = g0 → jJ jSgX Dy h → jSm fp_X9_wordOf_r68_r9d h0 h → K23 l2.toInt l3.toInt l4.toInt l5.toInt (vw h) = dr → vw h = vw h0 → jX m_X9_wordOf 4 0 0 23 [(0, .ref 68), (1, .ref 9), (2, .int l2), (3, .int l3), (4, .int l4), (5, .int l5)] [] h 0 0 Q) : ∀ (l2 : Int32) (l3 : Int32) (l4 : Int32) (l5 : Int32) (g0 : Int32) (h : jH), 0 ≤ l3.toInt ∧ l3.toInt ≤ 435 → 0 ≤ l4.toInt ∧ l4.toInt ≤ 1 → 0 ≤ l5.toInt ∧ l5.toInt ≤ 34 → 0 ≤ g0.toInt ∧ g0.toInt ≤ 400 → l3.toInt - l5.toInt ≤ 401 → jiv h 68 3 = g0 → 35 - l5.toInt ≤ R23 → jJ jSgX Dy h → jSm fp_X9_wordOf_r68_r9d h0 h → d_X9_wordOf_r68_r9d_110 K23  l2.toInt l3.toInt l4.toInt l5.toInt (vw h) = dr → vw h = vw h0 → jX m_X9_wordOf 4 0 0 110 [(0, .ref 68), (1, .ref 9), (2, .int l2), (3, .int l3), (4, .int l4), (5, .int l5)] [] h 0 0 Q := by
  intro l2 l3 l4 l5 g0 h y0 y1 y2 y3 y4 z0 m23 J Sm D EV
  have el2 := jfull l2
  unfold d_X9_wordOf_r68_r9d_110 at D
  try rw [vrf z0] at D
  refine z_iinc (x := l5) (lsx9 := fun v1 => [(5, .int v1), (0, .ref 68), (1, .ref 9), (2, .int l2), (3, .int l3), (4, .int l4)]) rfl rfl rfl jko_1 (by omega) rfl (fun _ => rfl) (fun v1 ev1 => ?_)
  refine x_goto (tgt := 23) rfl rfl ?_
  try rw [show (l5.toInt + 1) = v1.toInt from by omega] at D
  exact jX.sub (jsb_c rfl (jsb_c rfl (jsb_c rfl (jsb_c rfl (jsb_c rfl (jsb_c rfl jsb_n)))))) (k23 l2 l3 l4 v1 g0 h (by omega) (jr_of rfl (by omega)) (jr_of rfl (by omega)) (jr_of rfl (by omega)) (jr_of rfl (by omega)) (by omega) z0 J Sm D EV)
set_option maxRecDepth 100000 in
set_option maxHeartbeats 4000000 in
theorem ct_X9_wordOf_r68_r9d_300105 {Dy : jH → Prop} {h0 : jH} {Q : Option Value → jH → Prop} {dr : Int} {K23 : Int → Int → Int → Int → jW → Int} {R23 : Int} (hD : jDk Dy) (hQ : ∀ (v : Int32) hx9, jJ jSgX Dy hx9 → jSm fp_X9_wordOf_r68_r9d h0 hx9 → dr = v.toInt → vw hx9 = vw h0 → Q (some (.int v)) hx9) (k23 : ∀ (l2 : Int32) (l3 : Int32) (l4 : Int32) (l5 : Int32) (g0 : Int32) (h : jH), 35 - l5.toInt < R23 → 0 ≤ l3.toInt ∧ l3.toInt ≤ 435 → 0 ≤ l4.toInt ∧ l4.toInt ≤ 1 → 0 ≤ l5.toInt ∧ l5.toInt ≤ 35 → 0 ≤ g0.toInt ∧ g0.toInt ≤ 400 → l3.toInt - l5.toInt ≤ 400 → jiv h 68 3 = g0 → jJ jSgX Dy h → jSm fp_X9_wordOf_r68_r9d h0 h → K23 l2.toInt l3.toInt l4.toInt l5.toInt (vw h) = dr → vw h = vw h0 → jX m_X9_wordOf 4 0 0 23 [(0, .ref 68), (1, .ref 9), (2, .int l2), (3, .int l3), (4, .int l4), (5, .int l5)] [] h 0 0 Q) : ∀ (l2 : Int32) (l3 : Int32) (l5 : Int32) (g0 : Int32) (h : jH), 0 ≤ l3.toInt ∧ l3.toInt ≤ 399 → 0 ≤ l5.toInt ∧ l5.toInt ≤ 34 → 0 ≤ g0.toInt ∧ g0.toInt ≤ 400 → l3.toInt - l5.toInt ≤ 400 → jiv h 68 3 = g0 → 35 - l5.toInt ≤ R23 → jJ jSgX Dy h → jSm fp_X9_wordOf_r68_r9d h0 h → d_X9_wordOf_r68_r9d_300105 K23  l2.toInt l3.toInt l5.toInt (vw h) = dr → vw h = vw h0 → jX m_X9_wordOf 4 0 0 105 [(0, .ref 68), (1, .ref 9), (2, .int l2), (3, .int l3), (5, .int l5)] [.int 1] h 0 0 Q := by
  intro l2 l3 l5 g0 h y0 y1 y2 y3 z0 m23 J Sm D EV
  have el2 := jfull l2
  unfold d_X9_wordOf_r68_r9d_300105 at D
  try rw [vrf z0] at D
  refine x_istore (lsx9 := [(4, .int 1), (0, .ref 68), (1, .ref 9), (2, .int l2), (3, .int l3), (5, .int l5)]) rfl rfl rfl ?_
  refine z_iinc (x := l3) (lsx9 := fun v1 => [(3, .int v1), (4, .int 1), (0, .ref 68), (1, .ref 9), (2, .int l2), (5, .int l5)]) rfl rfl rfl jko_1 (by omega) rfl (fun _ => rfl) (fun v1 ev1 => ?_)
  try rw [show (l3.toInt + 1) = v1.toInt from by omega] at D
  exact jX.sub (jsb_c rfl (jsb_c rfl (jsb_c rfl (jsb_c rfl (jsb_c rfl (jsb_c rfl jsb_n)))))) (ct_X9_wordOf_r68_r9d_110 hD hQ k23 l2 v1 1 l5 g0 h (jr_of rfl (by omega)) (jr_of jk_1 (by omega)) (jr_of rfl (by omega)) (jr_of rfl (by omega)) (by omega) z0 (by omega) J Sm (by rw [jk_1]; exact D) EV)
set_option maxRecDepth 100000 in
set_option maxHeartbeats 4000000 in
theorem ct_X9_wordOf_r68_r9d_200105 {Dy : jH → Prop} {h0 : jH} {Q : Option Value → jH → Prop} {dr : Int} {K23 : Int → Int → Int → Int → jW → Int} {R23 : Int} (hD : jDk Dy) (hQ : ∀ (v : Int32) hx9, jJ jSgX Dy hx9 → jSm fp_X9_wordOf_r68_r9d h0 hx9 → dr = v.toInt → vw hx9 = vw h0 → Q (some (.int v)) hx9) (k23 : ∀ (l2 : Int32) (l3 : Int32) (l4 : Int32) (l5 : Int32) (g0 : Int32) (h : jH), 35 - l5.toInt < R23 → 0 ≤ l3.toInt ∧ l3.toInt ≤ 435 → 0 ≤ l4.toInt ∧ l4.toInt ≤ 1 → 0 ≤ l5.toInt ∧ l5.toInt ≤ 35 → 0 ≤ g0.toInt ∧ g0.toInt ≤ 400 → l3.toInt - l5.toInt ≤ 400 → jiv h 68 3 = g0 → jJ jSgX Dy h → jSm fp_X9_wordOf_r68_r9d h0 h → K23 l2.toInt l3.toInt l4.toInt l5.toInt (vw h) = dr → vw h = vw h0 → jX m_X9_wordOf 4 0 0 23 [(0, .ref 68), (1, .ref 9), (2, .int l2), (3, .int l3), (4, .int l4), (5, .int l5)] [] h 0 0 Q) : ∀ (l2 : Int32) (l3 : Int32) (l5 : Int32) (g0 : Int32) (h : jH), 0 ≤ l3.toInt ∧ l3.toInt ≤ 434 → 0 ≤ l5.toInt ∧ l5.toInt ≤ 34 → 0 ≤ g0.toInt ∧ g0.toInt ≤ 400 → l3.toInt - l5.toInt ≤ 400 → jiv h 68 3 = g0 → 35 - l5.toInt ≤ R23 → jJ jSgX Dy h → jSm fp_X9_wordOf_r68_r9d h0 h → d_X9_wordOf_r68_r9d_200105 K23  l2.toInt l3.toInt l5.toInt (vw h) = dr → vw h = vw h0 → jX m_X9_wordOf 4 0 0 105 [(0, .ref 68), (1, .ref 9), (2, .int l2), (3, .int l3), (5, .int l5)] [.int 0] h 0 0 Q := by
  intro l2 l3 l5 g0 h y0 y1 y2 y3 z0 m23 J Sm D EV
  have el2 := jfull l2
  unfold d_X9_wordOf_r68_r9d_200105 at D
  try rw [vrf z0] at D
  refine x_istore (lsx9 := [(4, .int 0), (0, .ref 68), (1, .ref 9), (2, .int l2), (3, .int l3), (5, .int l5)]) rfl rfl rfl ?_
  refine z_iinc (x := l3) (lsx9 := fun v1 => [(3, .int v1), (4, .int 0), (0, .ref 68), (1, .ref 9), (2, .int l2), (5, .int l5)]) rfl rfl rfl jko_1 (by omega) rfl (fun _ => rfl) (fun v1 ev1 => ?_)
  try rw [show (l3.toInt + 1) = v1.toInt from by omega] at D
  exact jX.sub (jsb_c rfl (jsb_c rfl (jsb_c rfl (jsb_c rfl (jsb_c rfl (jsb_c rfl jsb_n)))))) (ct_X9_wordOf_r68_r9d_110 hD hQ k23 l2 v1 0 l5 g0 h (jr_of rfl (by omega)) (jr_of jk_0 (by omega)) (jr_of rfl (by omega)) (jr_of rfl (by omega)) (by omega) z0 (by omega) J Sm (by rw [jk_0]; exact D) EV)
set_option maxRecDepth 100000 in
set_option maxHeartbeats 4000000 in
theorem ct_X9_wordOf_r68_r9d_104 {Dy : jH → Prop} {h0 : jH} {Q : Option Value → jH → Prop} {dr : Int} {K23 : Int → Int → Int → Int → jW → Int} {R23 : Int} (hD : jDk Dy) (hQ : ∀ (v : Int32) hx9, jJ jSgX Dy hx9 → jSm fp_X9_wordOf_r68_r9d h0 hx9 → dr = v.toInt → vw hx9 = vw h0 → Q (some (.int v)) hx9) (k23 : ∀ (l2 : Int32) (l3 : Int32) (l4 : Int32) (l5 : Int32) (g0 : Int32) (h : jH), 35 - l5.toInt < R23 → 0 ≤ l3.toInt ∧ l3.toInt ≤ 435 → 0 ≤ l4.toInt ∧ l4.toInt ≤ 1 → 0 ≤ l5.toInt ∧ l5.toInt ≤ 35 → 0 ≤ g0.toInt ∧ g0.toInt ≤ 400 → l3.toInt - l5.toInt ≤ 400 → jiv h 68 3 = g0 → jJ jSgX Dy h → jSm fp_X9_wordOf_r68_r9d h0 h → K23 l2.toInt l3.toInt l4.toInt l5.toInt (vw h) = dr → vw h = vw h0 → jX m_X9_wordOf 4 0 0 23 [(0, .ref 68), (1, .ref 9), (2, .int l2), (3, .int l3), (4, .int l4), (5, .int l5)] [] h 0 0 Q) : ∀ (l2 : Int32) (l3 : Int32) (l5 : Int32) (g0 : Int32) (h : jH), 0 ≤ l3.toInt ∧ l3.toInt ≤ 434 → 0 ≤ l5.toInt ∧ l5.toInt ≤ 34 → 0 ≤ g0.toInt ∧ g0.toInt ≤ 400 → l3.toInt - l5.toInt ≤ 400 → jiv h 68 3 = g0 → 35 - l5.toInt ≤ R23 → jJ jSgX Dy h → jSm fp_X9_wordOf_r68_r9d h0 h → d_X9_wordOf_r68_r9d_104 K23  l2.toInt l3.toInt l5.toInt (vw h) = dr → vw h = vw h0 → jX m_X9_wordOf 4 0 0 104 [(0, .ref 68), (1, .ref 9), (2, .int l2), (3, .int l3), (5, .int l5)] [] h 0 0 Q := by
  intro l2 l3 l5 g0 h y0 y1 y2 y3 z0 m23 J Sm D EV
  have el2 := jfull l2
  unfold d_X9_wordOf_r68_r9d_104 at D
  try rw [vrf z0] at D
  refine x_iconst (v := 0) rfl ki_0 ?_
  exact jX.sub (jsb_c rfl (jsb_c rfl (jsb_c rfl (jsb_c rfl (jsb_c rfl jsb_n))))) (ct_X9_wordOf_r68_r9d_200105 hD hQ k23 l2 l3 l5 g0 h (jr_of rfl (by omega)) (jr_of rfl (by omega)) (jr_of rfl (by omega)) (by omega) z0 (by omega) J Sm D EV)
set_option maxRecDepth 100000 in
set_option maxHeartbeats 4000000 in
theorem ct_X9_wordOf_r68_r9d_62 {Dy : jH → Prop} {h0 : jH} {Q : Option Value → jH → Prop} {dr : Int} {K23 : Int → Int → Int → Int → jW → Int} {R23 : Int} (hD : jDk Dy) (hQ : ∀ (v : Int32) hx9, jJ jSgX Dy hx9 → jSm fp_X9_wordOf_r68_r9d h0 hx9 → dr = v.toInt → vw hx9 = vw h0 → Q (some (.int v)) hx9) (k23 : ∀ (l2 : Int32) (l3 : Int32) (l4 : Int32) (l5 : Int32) (g0 : Int32) (h : jH), 35 - l5.toInt < R23 → 0 ≤ l3.toInt ∧ l3.toInt ≤ 435 → 0 ≤ l4.toInt ∧ l4.toInt ≤ 1 → 0 ≤ l5.toInt ∧ l5.toInt ≤ 35 → 0 ≤ g0.toInt ∧ g0.toInt ≤ 400 → l3.toInt - l5.toInt ≤ 400 → jiv h 68 3 = g0 → jJ jSgX Dy h → jSm fp_X9_wordOf_r68_r9d h0 h → K23 l2.toInt l3.toInt l4.toInt l5.toInt (vw h) = dr → vw h = vw h0 → jX m_X9_wordOf 4 0 0 23 [(0, .ref 68), (1, .ref 9), (2, .int l2), (3, .int l3), (4, .int l4), (5, .int l5)] [] h 0 0 Q) : ∀ (l2 : Int32) (l5 : Int32) (g0 : Int32) (h : jH), 0 ≤ l5.toInt ∧ l5.toInt ≤ 34 → 0 ≤ g0.toInt ∧ g0.toInt ≤ 400 → jiv h 68 3 = g0 → 35 - l5.toInt ≤ R23 → jJ jSgX Dy h → jSm fp_X9_wordOf_r68_r9d h0 h → d_X9_wordOf_r68_r9d_62 K23  l2.toInt l5.toInt (vw h) = dr → vw h = vw h0 → jX m_X9_wordOf 4 0 0 62 [(0, .ref 68), (1, .ref 9), (2, .int l2), (5, .int l5)] [] h 0 0 Q := by
  intro l2 l5 g0 h y0 y1 z0 m23 J Sm D EV
  have el2 := jfull l2
  unfold d_X9_wordOf_r68_r9d_62 at D
  try rw [vrf z0] at D
  refine z_iincW (x := l2) (lsx9 := fun v1 => [(2, .int v1), (0, .ref 68), (1, .ref 9), (5, .int l5)]) rfl rfl rfl jko_1 rfl (fun _ => rfl) (fun v1 ev1 => ?_)
  have fv1 := jfull v1
  try rw [← ev1] at D
  refine x_aloadn (x := 68) rfl rfl ?_
  refine z_getM (N := 6) (v := g0) 9 3 rfl f_9_22 rfl J rfl z0 ?_
  refine x_istoren (lsx9 := [(3, .int g0), (2, .int v1), (0, .ref 68), (1, .ref 9), (5, .int l5)]) rfl rfl rfl ?_
  refine x_iconst (v := 1) rfl ki_1 ?_
  refine x_istore (lsx9 := [(4, .int 1), (3, .int g0), (2, .int v1), (0, .ref 68), (1, .ref 9), (5, .int l5)]) rfl rfl rfl ?_
  refine x_goto (tgt := 110) rfl rfl ?_
  exact jX.sub (jsb_c rfl (jsb_c rfl (jsb_c rfl (jsb_c rfl (jsb_c rfl (jsb_c rfl jsb_n)))))) (ct_X9_wordOf_r68_r9d_110 hD hQ k23 v1 g0 1 l5 g0 h (jr_of rfl (by omega)) (jr_of jk_1 (by omega)) (jr_of rfl (by omega)) (jr_of rfl (by omega)) (by omega) z0 (by omega) J Sm (by rw [jk_1]; exact D) EV)
set_option maxRecDepth 100000 in
set_option maxHeartbeats 4000000 in
theorem ct_X9_wordOf_r68_r9d_23 {Dy : jH → Prop} {h0 : jH} {Q : Option Value → jH → Prop} {dr : Int} (hD : jDk Dy) (hQ : ∀ (v : Int32) hx9, jJ jSgX Dy hx9 → jSm fp_X9_wordOf_r68_r9d h0 hx9 → dr = v.toInt → vw hx9 = vw h0 → Q (some (.int v)) hx9) : ∀ r : Nat, ∀ (l2 : Int32) (l3 : Int32) (l4 : Int32) (l5 : Int32) (g0 : Int32) (h : jH), 35 - l5.toInt < (r : Int) → 0 ≤ l3.toInt ∧ l3.toInt ≤ 435 → 0 ≤ l4.toInt ∧ l4.toInt ≤ 1 → 0 ≤ l5.toInt ∧ l5.toInt ≤ 35 → 0 ≤ g0.toInt ∧ g0.toInt ≤ 400 → l3.toInt - l5.toInt ≤ 400 → jiv h 68 3 = g0 → jJ jSgX Dy h → jSm fp_X9_wordOf_r68_r9d h0 h → d_X9_wordOf_r68_r9d_23 r l2.toInt l3.toInt l4.toInt l5.toInt (vw h) = dr → vw h = vw h0 → jX m_X9_wordOf 4 0 0 23 [(0, .ref 68), (1, .ref 9), (2, .int l2), (3, .int l3), (4, .int l4), (5, .int l5)] [] h 0 0 Q := by
  intro r
  induction r with
  | zero =>
    intro l2 l3 l4 l5 g0 h hm y0 y1 y2 y3 y4 z0  J Sm D EV
    exfalso
    have el2 := jfull l2
    omega
  | succ r ih =>
    intro l2 l3 l4 l5 g0 h hm y0 y1 y2 y3 y4 z0  J Sm D EV
    have el2 := jfull l2
    rw [d_X9_wordOf_r68_r9d_23.eq_2] at D
    try rw [vrf z0] at D
    refine x_iload (x := l5) rfl rfl ?_
    refine x_aloadn (x := 9) rfl rfl ?_
    refine x_invS (N := m_J0_length_8abf5) (i := 4) (As := []) (st := [.int l5]) (dx9 := 1) (by decide) rfl t_J0_length_8abf5 ⟨q_9_38, i_J0_length_8abf5.1, i_J0_length_8abf5.2⟩ rfl rfl (by decide) rfl rfl (zc_slen (N := 35) (v := 35) rfl J rfl rfl (by decide) ?_)
    show jX m_X9_wordOf 4 0 0 29 [(0, .ref 68), (1, .ref 9), (2, .int l2), (3, .int l3), (4, .int l4), (5, .int l5)] [.int 35, .int l5] _ 0 0 _
    refine x_icge (tgt := 116) rfl rfl (ti_ge rfl jk_35 ⟨fun c1 => ?_, fun c1 => ?_⟩)
    ·
      rw [if_pos (by omega)] at D
      refine x_iconst (v := (-1)) rfl ki_m1 ?_
      refine x_iret rfl rfl ?_
      exact hQ _ _ J Sm (D.symm.trans (show (-1) = ((-1) : Int32).toInt from by have := jk_m1; omega)) EV
    ·
      rw [if_neg (by omega)] at D
      refine x_aloadn (x := 9) rfl rfl ?_
      refine x_iload (x := l5) rfl rfl ?_
      refine x_invS (N := m_J0_charAt_5068e) (i := 4) (As := [.int l5]) (st := []) (dx9 := 3) (by decide) rfl t_J0_charAt_5068e ⟨q_9_43, i_J0_charAt_5068e.1, i_J0_charAt_5068e.2⟩ rfl rfl (by decide) rfl rfl (zc_scharD (N := 35) rfl J rfl rfl rfl (by omega) (fun v2 ev2 => ?_))
      try rw [← ev2.1] at D
      show jX m_X9_wordOf 4 0 0 38 [(0, .ref 68), (1, .ref 9), (2, .int l2), (3, .int l3), (4, .int l4), (5, .int l5)] [.int v2] _ 0 0 _
      refine x_istore (lsx9 := [(6, .int v2), (0, .ref 68), (1, .ref 9), (2, .int l2), (3, .int l3), (4, .int l4), (5, .int l5)]) rfl rfl rfl ?_
      refine x_iload (x := v2) rfl rfl ?_
      refine x_bipush (v := 32) rfl kb_32 ?_
      refine x_icne (tgt := 76) rfl rfl (ti_ne rfl jk_32 ⟨fun c3 => ?_, fun c3 => ?_⟩)
      ·
        rw [if_neg (by omega)] at D
        refine x_iload (x := l4) rfl rfl ?_
        refine x_ifeq (tgt := 104) rfl rfl (ti_eq rfl jk_0 ⟨fun c4 => ?_, fun c4 => ?_⟩)
        ·
          rw [if_pos (by omega)] at D
          exact jX.sub (jsb_c rfl (jsb_c rfl (jsb_c rfl (jsb_c rfl (jsb_c rfl jsb_n))))) (ct_X9_wordOf_r68_r9d_104 hD hQ ih l2 l3 l5 g0 h (jr_of rfl (by omega)) (jr_of rfl (by omega)) (jr_of rfl (by omega)) (by omega) z0 (by omega) J Sm D EV)
        ·
          rw [if_neg (by omega)] at D
          refine x_iloadn (x := l3) rfl rfl ?_
          refine x_aloadn (x := 68) rfl rfl ?_
          refine z_getI (N := 6) 9 4 rfl f_9_25 rfl J rfl sg_68_4_5_1_0_1 (fun v5 qv5 ev5 => ?_)
          try rw [vrf qv5] at D
          refine x_icge (tgt := 104) rfl rfl (ti_ge rfl rfl ⟨fun c6 => ?_, fun c6 => ?_⟩)
          ·
            rw [if_pos (by omega)] at D
            exact jX.sub (jsb_c rfl (jsb_c rfl (jsb_c rfl (jsb_c rfl (jsb_c rfl jsb_n))))) (ct_X9_wordOf_r68_r9d_104 hD hQ ih l2 l3 l5 g0 h (jr_of rfl (by omega)) (jr_of rfl (by omega)) (jr_of rfl (by omega)) (by omega) z0 (by omega) J Sm D EV)
          ·
            rw [if_neg (by omega)] at D
            refine x_aloadn (x := 68) rfl rfl ?_
            refine z_getR (N := 6) (b := 69) 9 0 rfl f_9_11 rfl J rfl 8704 ⟨rfl, rfl⟩ rfl ?_
            refine x_iloadn (x := l3) rfl rfl ?_
            refine z_iald (N := 400) rfl J rfl sg_69_0_400_1_0_1 rfl (by omega) (fun v7 qv7 ev7 => ?_)
            try rw [vrd qv7 (show l3.toInt = l3.toInt from by omega)] at D
            refine x_iload (x := v2) rfl rfl ?_
            refine x_icne (tgt := 104) rfl rfl (ti_ne rfl rfl ⟨fun c8 => ?_, fun c8 => ?_⟩)
            ·
              rw [if_neg (by omega)] at D
              exact jX.sub (jsb_c rfl (jsb_c rfl (jsb_c rfl (jsb_c rfl (jsb_c rfl jsb_n))))) (ct_X9_wordOf_r68_r9d_104 hD hQ ih l2 l3 l5 g0 h (jr_of rfl (by omega)) (jr_of rfl (by omega)) (jr_of rfl (by omega)) (by omega) z0 (by omega) J Sm D EV)
            ·
              rw [if_pos (by omega)] at D
              refine x_iconst (v := 1) rfl ki_1 ?_
              refine x_goto (tgt := 105) rfl rfl ?_
              exact jX.sub (jsb_c rfl (jsb_c rfl (jsb_c rfl (jsb_c rfl (jsb_c rfl jsb_n))))) (ct_X9_wordOf_r68_r9d_300105 hD hQ ih l2 l3 l5 g0 h (jr_of rfl (by omega)) (jr_of rfl (by omega)) (jr_of rfl (by omega)) (by omega) z0 (by omega) J Sm D EV)
      ·
        rw [if_pos (by omega)] at D
        refine x_iload (x := l4) rfl rfl ?_
        refine x_ifeq (tgt := 62) rfl rfl (ti_eq rfl jk_0 ⟨fun c9 => ?_, fun c9 => ?_⟩)
        ·
          rw [if_pos (by omega)] at D
          exact jX.sub (jsb_c rfl (jsb_c rfl (jsb_c rfl (jsb_c rfl jsb_n)))) (ct_X9_wordOf_r68_r9d_62 hD hQ ih l2 l5 g0 h (jr_of rfl (by omega)) (jr_of rfl (by omega)) z0 (by omega) J Sm D EV)
        ·
          rw [if_neg (by omega)] at D
          refine x_iloadn (x := l3) rfl rfl ?_
          refine x_aloadn (x := 68) rfl rfl ?_
          refine z_getI (N := 6) 9 4 rfl f_9_25 rfl J rfl sg_68_4_5_1_0_1 (fun v10 qv10 ev10 => ?_)
          try rw [vrf qv10] at D
          refine x_icne (tgt := 62) rfl rfl (ti_ne rfl rfl ⟨fun c11 => ?_, fun c11 => ?_⟩)
          ·
            rw [if_neg (by omega)] at D
            exact jX.sub (jsb_c rfl (jsb_c rfl (jsb_c rfl (jsb_c rfl jsb_n)))) (ct_X9_wordOf_r68_r9d_62 hD hQ ih l2 l5 g0 h (jr_of rfl (by omega)) (jr_of rfl (by omega)) z0 (by omega) J Sm D EV)
          ·
            rw [if_pos (by omega)] at D
            refine x_iloadn (x := l2) rfl rfl ?_
            refine x_iret rfl rfl ?_
            exact hQ _ _ J Sm (D.symm.trans (show l2.toInt = l2.toInt from by omega)) EV
set_option maxRecDepth 100000 in
set_option maxHeartbeats 4000000 in
theorem sf_X9_wordOf_r68_r9d {Dy : jH → Prop} {h : jH} {Q : Option Value → jH → Prop} {dr : Int} (hD : jDk Dy) (J : jJ jSgX Dy h) (D : d_X9_wordOf_r68_r9d (vw h) = dr) (hQ : ∀ (v : Int32) hx9, jJ jSgX Dy hx9 → jSm fp_X9_wordOf_r68_r9d h hx9 → dr = v.toInt → vw hx9 = vw h → Q (some (.int v)) hx9) : jC m_X9_wordOf 4 0 0 [.ref 68, .ref 9] h Q := by
  refine jC.of rfl k_X9_wordOf rfl ?_
  have Sm := jSm_rf fp_X9_wordOf_r68_r9d h
  show jX m_X9_wordOf 4 0 0 0 [(0, .ref 68), (1, .ref 9)] [] _ 0 0 _
  unfold d_X9_wordOf_r68_r9d at D
  have EV : vw h = vw h := rfl
  refine x_aloadn (x := 68) rfl rfl ?_
  refine z_getI (N := 6) 9 5 rfl f_9_28 rfl J rfl sg_68_5_6_1_0_1 (fun v1 qv1 ev1 => ?_)
  try rw [vrf qv1] at D
  refine x_iconst (v := 1) rfl ki_1 ?_
  refine x_iceq (tgt := 10) rfl rfl (ti_eq rfl jk_1 ⟨fun c2 => ?_, fun c2 => ?_⟩)
  ·
    rw [if_pos (by omega)] at D
    refine x_iconst (v := 0) rfl ki_0 ?_
    refine x_istoren (lsx9 := [(2, .int 0), (0, .ref 68), (1, .ref 9)]) rfl rfl rfl ?_
    refine x_aloadn (x := 68) rfl rfl ?_
    refine z_getI (N := 6) 9 3 rfl f_9_22 rfl J rfl sg_68_3_4_1_0_1 (fun v3 qv3 ev3 => ?_)
    try rw [vrf qv3] at D
    refine x_istoren (lsx9 := [(3, .int v3), (2, .int 0), (0, .ref 68), (1, .ref 9)]) rfl rfl rfl ?_
    refine x_iconst (v := 1) rfl ki_1 ?_
    refine x_istore (lsx9 := [(4, .int 1), (3, .int v3), (2, .int 0), (0, .ref 68), (1, .ref 9)]) rfl rfl rfl ?_
    refine x_iconst (v := 0) rfl ki_0 ?_
    refine x_istore (lsx9 := [(5, .int 0), (4, .int 1), (3, .int v3), (2, .int 0), (0, .ref 68), (1, .ref 9)]) rfl rfl rfl ?_
    exact jX.sub (jsb_c rfl (jsb_c rfl (jsb_c rfl (jsb_c rfl (jsb_c rfl (jsb_c rfl jsb_n)))))) (ct_X9_wordOf_r68_r9d_23 hD hQ  36 0 v3 1 0 v3 h (by have := jk_0; omega) (jr_of rfl (by omega)) (jr_of jk_1 (by omega)) (jr_of jk_0 (by omega)) (jr_of rfl (by omega)) (by have := jk_0; omega) qv3 J Sm (by rw [jk_0, jk_1]; exact D) EV)
  ·
    rw [if_neg (by omega)] at D
    refine x_iconst (v := (-1)) rfl ki_m1 ?_
    refine x_iret rfl rfl ?_
    exact hQ _ _ J Sm (D.symm.trans (show (-1) = ((-1) : Int32).toInt from by have := jk_m1; omega)) EV
