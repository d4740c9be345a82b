def fp_X12_findBest_r125d : jFp := [(125, 28, 29), (125, 31, 32), (125, 43, 44), (125, 44, 45), (125, 45, 46), (125, 46, 47), (125, 57, 58), (137, 0, 80), (138, 0, 2), (139, 0, 600), (140, 0, 200), (142, 0, 81), (143, 0, 81), (144, 0, 81), (145, 0, 9), (146, 0, 9)]
set_option maxRecDepth 100000 in
set_option maxHeartbeats 4000000 in
theorem ct_X12_findBest_r125d_300204 {Dy : jH → Prop} {h0 : jH} {Q : Option Value → jH → Prop} {dr : jW} {K171 : Int → Int → jW → jW} {R171 : Int} (hD : jDk Dy) (hQ : ∀ hx9, jJ jSgM Dy hx9 → jSm fp_X12_findBest_r125d h0 hx9 → dr = vw hx9 → Q none hx9) (k171 : ∀ (l1 : Int32) (l2 : Int32) (g0 : Int32) (g1 : Int32) (h : jH), jdm h + l2.toInt < R171 → 0 ≤ l2.toInt ∧ l2.toInt ≤ 1 → (-1) ≤ g0.toInt ∧ g0.toInt ≤ 2147483647 → jGp h → jiv h 125 43 = g0 → jiv h 125 46 = g1 → jJ jSgM Dy h → jSm fp_X12_findBest_r125d h0 h → K171 l1.toInt l2.toInt (vw h) = dr → jX m_X12_findBest 10 0 0 171 [(0, .ref 125), (1, .int l1), (2, .int l2)] [] h 0 0 Q) : ∀ (l1 : Int32) (s1 : Int32) (g0 : Int32) (h : jH), (-1) ≤ g0.toInt ∧ g0.toInt ≤ 2147483647 → jGp h → jiv h 125 43 = g0 → jdm h + 1 ≤ R171 → jJ jSgM Dy h → jSm fp_X12_findBest_r125d h0 h → d_X12_findBest_r125d_300204 K171  l1.toInt s1.toInt (vw h) = dr → jX m_X12_findBest 10 0 0 204 [(0, .ref 125), (1, .int l1)] [.int 1, .int s1, .ref 125] h 0 0 Q := by
  intro l1 s1 g0 h y0 C0 z0 m171 J Sm D
  have el1 := jfull l1
  have es1 := jfull s1
  unfold d_X12_findBest_r125d_300204 at D
  try rw [vrf z0] at D
  refine z_iaddW rfl rfl jk_1 (fun v1 ev1 => ?_)
  have fv1 := jfull v1
  try rw [← ev1] at D
  refine z_putI (N := 92) (w := v1.toInt) 12 46 rfl f_12_463 rfl (jfin_no TX12 RX12 92 rfl rfl) hD J Sm rfl rfl rfl (pw_125_46 trivial) rfl (fun h w2 J Sm => ?_)
  rw [vwf w2 (show v1.toInt = v1.toInt from by omega)] at D
  refine x_aloadn (x := 125) rfl rfl ?_
  refine x_inv (N := m_X12_nextGroups) (As := []) (b := 125) (st := []) (dx9 := 1) (mc := 0) (ms := 0) (host := "") 12 rfl t_X12_nextGroups ⟨Or.inl q_12_459, i_X12_nextGroups.1, i_X12_nextGroups.2⟩ ⟨by decide, rfl⟩ (congrArg Prod.fst (J.1.1 125 (12, 92) rfl)) rfl (by decide) rfl rfl ⟨by decide, by decide⟩ (sf_X12_nextGroups_r125d  (jgp_e (jeq_o w2 rfl jeq_0) C0) hD J rfl  (fun v7 h ev7 J S3 P4 X5 X6 => ?_))
  have Sm := jSm_tr rfl Sm S3
  try rw [X5] at D
  try rw [X6] at D
  show jX m_X12_findBest 10 0 0 212 [(0, .ref 125), (1, .int l1)] [.int v7] _ 0 0 _
  refine x_istoren (lsx9 := [(2, .int v7), (0, .ref 125), (1, .int l1)]) rfl rfl rfl ?_
  refine x_goto (tgt := 171) rfl rfl ?_
  exact jX.sub (jsb_c rfl (jsb_c rfl (jsb_c rfl jsb_n))) (k171 l1 v7 g0 v1 h (by have q := jdm_e (jeq_o w2 rfl jeq_0); have := P4.2; omega) (jr_of rfl (by omega)) (jr_of rfl (by omega)) (jgp_e jeq_0 P4.1) (jmc S3 rfl (jmo w2 rfl z0)) (jmc S3 rfl (jmw w2)) J Sm D)
set_option maxRecDepth 100000 in
set_option maxHeartbeats 4000000 in
theorem ct_X12_findBest_r125d_200204 {Dy : jH → Prop} {h0 : jH} {Q : Option Value → jH → Prop} {dr : jW} {K171 : Int → Int → jW → jW} {R171 : Int} (hD : jDk Dy) (hQ : ∀ hx9, jJ jSgM Dy hx9 → jSm fp_X12_findBest_r125d h0 hx9 → dr = vw hx9 → Q none hx9) (k171 : ∀ (l1 : Int32) (l2 : Int32) (g0 : Int32) (g1 : Int32) (h : jH), jdm h + l2.toInt < R171 → 0 ≤ l2.toInt ∧ l2.toInt ≤ 1 → (-1) ≤ g0.toInt ∧ g0.toInt ≤ 2147483647 → jGp h → jiv h 125 43 = g0 → jiv h 125 46 = g1 → jJ jSgM Dy h → jSm fp_X12_findBest_r125d h0 h → K171 l1.toInt l2.toInt (vw h) = dr → jX m_X12_findBest 10 0 0 171 [(0, .ref 125), (1, .int l1), (2, .int l2)] [] h 0 0 Q) : ∀ (l1 : Int32) (s1 : Int32) (g0 : Int32) (h : jH), (-1) ≤ g0.toInt ∧ g0.toInt ≤ 2147483647 → jGp h → jiv h 125 43 = g0 → jdm h + 1 ≤ R171 → jJ jSgM Dy h → jSm fp_X12_findBest_r125d h0 h → d_X12_findBest_r125d_200204 K171  l1.toInt s1.toInt (vw h) = dr → jX m_X12_findBest 10 0 0 204 [(0, .ref 125), (1, .int l1)] [.int 0, .int s1, .ref 125] h 0 0 Q := by
  intro l1 s1 g0 h y0 C0 z0 m171 J Sm D
  have el1 := jfull l1
  have es1 := jfull s1
  unfold d_X12_findBest_r125d_200204 at D
  try rw [vrf z0] at D
  refine z_iadd rfl rfl jk_0 (by omega) (fun v1 ev1 => ?_)
  refine z_putI (N := 92) (w := v1.toInt) 12 46 rfl f_12_463 rfl (jfin_no TX12 RX12 92 rfl rfl) hD J Sm rfl rfl rfl (pw_125_46 trivial) rfl (fun h w2 J Sm => ?_)
  rw [vwf w2 (show (s1.toInt + 0) = v1.toInt from by omega)] at D
  refine x_aloadn (x := 125) rfl rfl ?_
  refine x_inv (N := m_X12_nextGroups) (As := []) (b := 125) (st := []) (dx9 := 1) (mc := 0) (ms := 0) (host := "") 12 rfl t_X12_nextGroups ⟨Or.inl q_12_459, i_X12_nextGroups.1, i_X12_nextGroups.2⟩ ⟨by decide, rfl⟩ (congrArg Prod.fst (J.1.1 125 (12, 92) rfl)) rfl (by decide) rfl rfl ⟨by decide, by decide⟩ (sf_X12_nextGroups_r125d  (jgp_e (jeq_o w2 rfl jeq_0) C0) hD J rfl  (fun v7 h ev7 J S3 P4 X5 X6 => ?_))
  have Sm := jSm_tr rfl Sm S3
  try rw [X5] at D
  try rw [X6] at D
  show jX m_X12_findBest 10 0 0 212 [(0, .ref 125), (1, .int l1)] [.int v7] _ 0 0 _
  refine x_istoren (lsx9 := [(2, .int v7), (0, .ref 125), (1, .int l1)]) rfl rfl rfl ?_
  refine x_goto (tgt := 171) rfl rfl ?_
  exact jX.sub (jsb_c rfl (jsb_c rfl (jsb_c rfl jsb_n))) (k171 l1 v7 g0 v1 h (by have q := jdm_e (jeq_o w2 rfl jeq_0); have := P4.2; omega) (jr_of rfl (by omega)) (jr_of rfl (by omega)) (jgp_e jeq_0 P4.1) (jmc S3 rfl (jmo w2 rfl z0)) (jmc S3 rfl (jmw w2)) J Sm D)
set_option maxRecDepth 100000 in
set_option maxHeartbeats 4000000 in
theorem ct_X12_findBest_r125d_203 {Dy : jH → Prop} {h0 : jH} {Q : Option Value → jH → Prop} {dr : jW} {K171 : Int → Int → jW → jW} {R171 : Int} (hD : jDk Dy) (hQ : ∀ hx9, jJ jSgM Dy hx9 → jSm fp_X12_findBest_r125d h0 hx9 → dr = vw hx9 → Q none hx9) (k171 : ∀ (l1 : Int32) (l2 : Int32) (g0 : Int32) (g1 : Int32) (h : jH), jdm h + l2.toInt < R171 → 0 ≤ l2.toInt ∧ l2.toInt ≤ 1 → (-1) ≤ g0.toInt ∧ g0.toInt ≤ 2147483647 → jGp h → jiv h 125 43 = g0 → jiv h 125 46 = g1 → jJ jSgM Dy h → jSm fp_X12_findBest_r125d h0 h → K171 l1.toInt l2.toInt (vw h) = dr → jX m_X12_findBest 10 0 0 171 [(0, .ref 125), (1, .int l1), (2, .int l2)] [] h 0 0 Q) : ∀ (l1 : Int32) (s0 : Int32) (g0 : Int32) (h : jH), (-1) ≤ g0.toInt ∧ g0.toInt ≤ 2147483647 → jGp h → jiv h 125 43 = g0 → jdm h + 1 ≤ R171 → jJ jSgM Dy h → jSm fp_X12_findBest_r125d h0 h → d_X12_findBest_r125d_203 K171  l1.toInt s0.toInt (vw h) = dr → jX m_X12_findBest 10 0 0 203 [(0, .ref 125), (1, .int l1)] [.int s0, .ref 125] h 0 0 Q := by
  intro l1 s0 g0 h y0 C0 z0 m171 J Sm D
  have el1 := jfull l1
  have es0 := jfull s0
  unfold d_X12_findBest_r125d_203 at D
  try rw [vrf z0] at D
  refine x_iconst (v := 0) rfl ki_0 ?_
  exact jX.sub (jsb_c rfl (jsb_c rfl jsb_n)) (ct_X12_findBest_r125d_200204 hD hQ k171 l1 s0 g0 h (jr_of rfl (by omega)) (jgp_e jeq_0 C0) z0 (by omega) J Sm D)
set_option maxRecDepth 100000 in
set_option maxHeartbeats 4000000 in
theorem ct_X12_findBest_r125d_171 {Dy : jH → Prop} {h0 : jH} {Q : Option Value → jH → Prop} {dr : jW} (hD : jDk Dy) (hQ : ∀ hx9, jJ jSgM Dy hx9 → jSm fp_X12_findBest_r125d h0 hx9 → dr = vw hx9 → Q none hx9) : ∀ r : Nat, ∀ (l1 : Int32) (l2 : Int32) (g0 : Int32) (g1 : Int32) (h : jH), jdm h + l2.toInt < (r : Int) → 0 ≤ l2.toInt ∧ l2.toInt ≤ 1 → (-1) ≤ g0.toInt ∧ g0.toInt ≤ 2147483647 → jGp h → jiv h 125 43 = g0 → jiv h 125 46 = g1 → jJ jSgM Dy h → jSm fp_X12_findBest_r125d h0 h → d_X12_findBest_r125d_171 r l1.toInt l2.toInt (vw h) = dr → jX m_X12_findBest 10 0 0 171 [(0, .ref 125), (1, .int l1), (2, .int l2)] [] h 0 0 Q := by
  intro r
  induction r with
  | zero =>
    intro l1 l2 g0 g1 h hm y0 y1 C0 z0 z1  J Sm D
    exfalso
    have el1 := jfull l1
    have eg1 := jfull g1
    have := jdm_nn C0; omega
  | succ r ih =>
    intro l1 l2 g0 g1 h hm y0 y1 C0 z0 z1  J Sm D
    have el1 := jfull l1
    have eg1 := jfull g1
    rw [d_X12_findBest_r125d_171.eq_2] at D
    try rw [vrf z0] at D
    try rw [vrf z1] at D
    refine x_iloadn (x := l2) rfl rfl ?_
    refine x_ifeq (tgt := 216) rfl rfl (ti_eq rfl jk_0 ⟨fun c1 => ?_, fun c1 => ?_⟩)
    ·
      rw [if_pos (by omega)] at D
      refine x_vret rfl rfl ?_
      exact hQ _ J Sm D.symm
    ·
      rw [if_neg (by omega)] at D
      refine x_aloadn (x := 125) rfl rfl ?_
      refine x_inv (N := m_X12_groupsWorth) (As := []) (b := 125) (st := []) (dx9 := 1) (mc := 0) (ms := 0) (host := "") 12 rfl t_X12_groupsWorth ⟨Or.inl q_12_455, i_X12_groupsWorth.1, i_X12_groupsWorth.2⟩ ⟨by decide, rfl⟩ (congrArg Prod.fst (J.1.1 125 (12, 92) rfl)) rfl (by decide) rfl rfl ⟨by decide, by decide⟩ (sf_X12_groupsWorth_r125d  hD J rfl  (fun v5 h J S2 X3 X4 => ?_))
      have ev5 := jfull v5
      have Sm := jSm_tr rfl Sm S2
      try rw [X3] at D
      try rw [← X4] at D
      show jX m_X12_findBest 10 0 0 179 [(0, .ref 125), (1, .int l1), (2, .int l2)] [.int v5] _ 0 0 _
      refine x_istoren (lsx9 := [(3, .int v5), (0, .ref 125), (1, .int l1), (2, .int l2)]) rfl rfl rfl ?_
      refine x_aloadn (x := 125) rfl rfl ?_
      refine x_dup rfl rfl ?_
      refine z_getM (N := 92) (v := g1) 12 46 rfl f_12_463 rfl J rfl (jmc S2 rfl z1) ?_
      refine x_iloadn (x := v5) rfl rfl ?_
      refine x_iflt (tgt := 203) rfl rfl (ti_lt rfl jk_0 ⟨fun c6 => ?_, fun c6 => ?_⟩)
      ·
        rw [if_pos (by omega)] at D
        exact jX.sub (jsb_c rfl (jsb_c rfl jsb_n)) (ct_X12_findBest_r125d_203 hD hQ ih l1 g1 g0 h (jr_of rfl (by omega)) (jgp_e (jeq_c S2 rfl jeq_0) C0) (jmc S2 rfl z0) (by have q := jdm_e (jeq_c S2 rfl jeq_0); omega) J Sm D)
      ·
        rw [if_neg (by omega)] at D
        refine x_iloadn (x := v5) rfl rfl ?_
        refine x_aloadn (x := 125) rfl rfl ?_
        refine z_getM (N := 92) (v := g0) 12 43 rfl f_12_446 rfl J rfl (jmc S2 rfl z0) ?_
        refine x_iloadn (x := l1) rfl rfl ?_
        refine z_isubW rfl rfl rfl (fun v7 ev7 => ?_)
        have fv7 := jfull v7
        try rw [← ev7] at D
        refine x_iclt (tgt := 203) rfl rfl (ti_lt rfl rfl ⟨fun c8 => ?_, fun c8 => ?_⟩)
        ·
          rw [if_pos (by omega)] at D
          exact jX.sub (jsb_c rfl (jsb_c rfl jsb_n)) (ct_X12_findBest_r125d_203 hD hQ ih l1 g1 g0 h (jr_of rfl (by omega)) (jgp_e (jeq_c S2 rfl jeq_0) C0) (jmc S2 rfl z0) (by have q := jdm_e (jeq_c S2 rfl jeq_0); omega) J Sm D)
        ·
          rw [if_neg (by omega)] at D
          refine x_iconst (v := 1) rfl ki_1 ?_
          refine x_goto (tgt := 204) rfl rfl ?_
          exact jX.sub (jsb_c rfl (jsb_c rfl jsb_n)) (ct_X12_findBest_r125d_300204 hD hQ ih l1 g1 g0 h (jr_of rfl (by omega)) (jgp_e (jeq_c S2 rfl jeq_0) C0) (jmc S2 rfl z0) (by have q := jdm_e (jeq_c S2 rfl jeq_0); omega) J Sm D)
set_option maxRecDepth 100000 in
set_option maxHeartbeats 4000000 in
theorem ct_X12_findBest_r125d_152 {Dy : jH → Prop} {h0 : jH} {Q : Option Value → jH → Prop} {dr : jW} {K20 : Int → Int → jW → jW} {R20 : Int} (hD : jDk Dy) (hQ : ∀ hx9, jJ jSgM Dy hx9 → jSm fp_X12_findBest_r125d h0 hx9 → dr = vw hx9 → Q none hx9) (k20 : ∀ (l1 : Int32) (l2 : Int32) (g0 : Int32) (g1 : Int32) (h : jH), jdm h + l2.toInt < R20 → 0 ≤ l2.toInt ∧ l2.toInt ≤ 1 → (-1) ≤ g0.toInt ∧ g0.toInt ≤ 2147483647 → 0 ≤ g1.toInt ∧ g1.toInt ≤ 9 → jGp h → jiv h 125 43 = g0 → jiv h 125 44 = g1 → jJ jSgM Dy h → jSm fp_X12_findBest_r125d h0 h → K20 l1.toInt l2.toInt (vw h) = dr → jX m_X12_findBest 10 0 0 20 [(0, .ref 125), (1, .int l1), (2, .int l2)] [] h 0 0 Q) : ∀ (l1 : Int32) (g0 : Int32) (g1 : Int32) (h : jH), (-1) ≤ g0.toInt ∧ g0.toInt ≤ 2147483647 → 0 ≤ g1.toInt ∧ g1.toInt ≤ 9 → jGp h → jiv h 125 43 = g0 → jiv h 125 44 = g1 → jdm h + 1 ≤ R20 → jJ jSgM Dy h → jSm fp_X12_findBest_r125d h0 h → d_X12_findBest_r125d_152 K20  l1.toInt (vw h) = dr → jX m_X12_findBest 10 0 0 152 [(0, .ref 125), (1, .int l1)] [] h 0 0 Q := by
  intro l1 g0 g1 h y0 y1 C0 z0 z1 m20 J Sm D
  have el1 := jfull l1
  unfold d_X12_findBest_r125d_152 at D
  try rw [vrf z0] at D
  try rw [vrf z1] at D
  refine x_aloadn (x := 125) rfl rfl ?_
  refine x_inv (N := m_X12_nextGroups) (As := []) (b := 125) (st := []) (dx9 := 1) (mc := 0) (ms := 0) (host := "") 12 rfl t_X12_nextGroups ⟨Or.inl q_12_459, i_X12_nextGroups.1, i_X12_nextGroups.2⟩ ⟨by decide, rfl⟩ (congrArg Prod.fst (J.1.1 125 (12, 92) rfl)) rfl (by decide) rfl rfl ⟨by decide, by decide⟩ (sf_X12_nextGroups_r125d  (jgp_e jeq_0 C0) hD J rfl  (fun v5 h ev5 J S1 P2 X3 X4 => ?_))
  have Sm := jSm_tr rfl Sm S1
  try rw [X3] at D
  try rw [X4] at D
  show jX m_X12_findBest 10 0 0 156 [(0, .ref 125), (1, .int l1)] [.int v5] _ 0 0 _
  refine x_istoren (lsx9 := [(2, .int v5), (0, .ref 125), (1, .int l1)]) rfl rfl rfl ?_
  refine x_goto (tgt := 20) rfl rfl ?_
  exact jX.sub (jsb_c rfl (jsb_c rfl (jsb_c rfl jsb_n))) (k20 l1 v5 g0 g1 h (by have := P2.2; omega) (jr_of rfl (by omega)) (jr_of rfl (by omega)) (jr_of rfl (by omega)) (jgp_e jeq_0 P2.1) (jmc S1 rfl z0) (jmc S1 rfl z1) J Sm D)
set_option maxRecDepth 100000 in
set_option maxHeartbeats 4000000 in
theorem ct_X12_findBest_r125d_123 {Dy : jH → Prop} {h0 : jH} {Q : Option Value → jH → Prop} {dr : jW} {K20 : Int → Int → jW → jW} {R20 : Int} (hD : jDk Dy) (hQ : ∀ hx9, jJ jSgM Dy hx9 → jSm fp_X12_findBest_r125d h0 hx9 → dr = vw hx9 → Q none hx9) (k20 : ∀ (l1 : Int32) (l2 : Int32) (g0 : Int32) (g1 : Int32) (h : jH), jdm h + l2.toInt < R20 → 0 ≤ l2.toInt ∧ l2.toInt ≤ 1 → (-1) ≤ g0.toInt ∧ g0.toInt ≤ 2147483647 → 0 ≤ g1.toInt ∧ g1.toInt ≤ 9 → jGp h → jiv h 125 43 = g0 → jiv h 125 44 = g1 → jJ jSgM Dy h → jSm fp_X12_findBest_r125d h0 h → K20 l1.toInt l2.toInt (vw h) = dr → jX m_X12_findBest 10 0 0 20 [(0, .ref 125), (1, .int l1), (2, .int l2)] [] h 0 0 Q) : ∀ r : Nat, ∀ (l1 : Int32) (l5 : Int32) (g0 : Int32) (g1 : Int32) (g2 : Int32) (h : jH), 9 - l5.toInt < (r : Int) → 0 ≤ l5.toInt ∧ l5.toInt ≤ 9 → 0 ≤ g0.toInt ∧ g0.toInt ≤ 9 → 0 ≤ g1.toInt ∧ g1.toInt ≤ 2147483647 → 0 ≤ g2.toInt ∧ g2.toInt ≤ 9 → jGp h → jiv h 125 36 = g0 → jiv h 125 43 = g1 → jiv h 125 44 = g2 → jdm h + 1 ≤ R20 → jJ jSgM Dy h → jSm fp_X12_findBest_r125d h0 h → d_X12_findBest_r125d_123 K20 r l1.toInt l5.toInt (vw h) = dr → jX m_X12_findBest 10 0 0 123 [(0, .ref 125), (1, .int l1), (5, .int l5)] [] h 0 0 Q := by
  intro r
  induction r with
  | zero =>
    intro l1 l5 g0 g1 g2 h hm y0 y1 y2 y3 C0 z0 z1 z2 m20 J Sm D
    exfalso
    have el1 := jfull l1
    omega
  | succ r ih =>
    intro l1 l5 g0 g1 g2 h hm y0 y1 y2 y3 C0 z0 z1 z2 m20 J Sm D
    have el1 := jfull l1
    rw [d_X12_findBest_r125d_123.eq_2] at D
    try rw [vrf z0] at D
    try rw [vrf z1] at D
    try rw [vrf z2] at D
    refine x_iload (x := l5) rfl rfl ?_
    refine x_aloadn (x := 125) rfl rfl ?_
    refine z_getM (N := 92) (v := g0) 12 36 rfl f_12_204 rfl J rfl z0 ?_
    refine x_icge (tgt := 152) rfl rfl (ti_ge rfl rfl ⟨fun c1 => ?_, fun c1 => ?_⟩)
    ·
      rw [if_pos (by omega)] at D
      exact jX.sub (jsb_c rfl (jsb_c rfl jsb_n)) (ct_X12_findBest_r125d_152 hD hQ k20 l1 g1 g2 h (jr_of rfl (by omega)) (jr_of rfl (by omega)) (jgp_e jeq_0 C0) z1 z2 (by omega) J Sm D)
    ·
      rw [if_neg (by omega)] at D
      refine x_aloadn (x := 125) rfl rfl ?_
      refine z_getR (N := 92) (b := 146) 12 42 rfl f_12_93 rfl J rfl 16042 ⟨rfl, rfl⟩ rfl ?_
      refine x_iload (x := l5) rfl rfl ?_
      refine x_aloadn (x := 125) rfl rfl ?_
      refine z_getR (N := 92) (b := 145) 12 41 rfl f_12_90 rfl J rfl 16041 ⟨rfl, rfl⟩ rfl ?_
      refine x_iload (x := l5) rfl rfl ?_
      refine z_iald (N := 9) rfl J rfl sg_145_0_9_1_0_1 rfl (by omega) (fun v2 qv2 ev2 => ?_)
      try rw [vrd qv2 (show l5.toInt = l5.toInt from by omega)] at D
      refine z_iast (N := 9) (l := 0) (u := 9) (w := v2.toInt) rfl hD J Sm rfl rfl rfl (by omega) rfl (wr_146 (fun q1 q2 q3 q4 => by omega)) rfl (fun h w3 J Sm => ?_)
      rw [vww w3 (show l5.toInt = l5.toInt from by omega) (show v2.toInt = v2.toInt from by omega)] at D
      refine z_iinc (x := l5) (lsx9 := fun v4 => [(5, .int v4), (0, .ref 125), (1, .int l1)]) rfl rfl rfl jko_1 (by omega) rfl (fun _ => rfl) (fun v4 ev4 => ?_)
      refine x_goto (tgt := 123) rfl rfl ?_
      try rw [show (l5.toInt + 1) = v4.toInt from by omega] at D
      exact jX.sub (jsb_c rfl (jsb_c rfl (jsb_c rfl jsb_n))) (ih l1 v4 g0 g1 g2 h (by omega) (jr_of rfl (by omega)) (jr_of rfl (by omega)) (jr_of rfl (by omega)) (jr_of rfl (by omega)) (jgp_e (jeq_o w3 rfl jeq_0) C0) (jmo w3 rfl z0) (jmo w3 rfl z1) (jmo w3 rfl z2) (by have q := jdm_e (jeq_o w3 rfl jeq_0); omega) J Sm D)
set_option maxRecDepth 100000 in
set_option maxHeartbeats 4000000 in
theorem ct_X12_findBest_r125d_109 {Dy : jH → Prop} {h0 : jH} {Q : Option Value → jH → Prop} {dr : jW} {K20 : Int → Int → jW → jW} {R20 : Int} (hD : jDk Dy) (hQ : ∀ hx9, jJ jSgM Dy hx9 → jSm fp_X12_findBest_r125d h0 hx9 → dr = vw hx9 → Q none hx9) (k20 : ∀ (l1 : Int32) (l2 : Int32) (g0 : Int32) (g1 : Int32) (h : jH), jdm h + l2.toInt < R20 → 0 ≤ l2.toInt ∧ l2.toInt ≤ 1 → (-1) ≤ g0.toInt ∧ g0.toInt ≤ 2147483647 → 0 ≤ g1.toInt ∧ g1.toInt ≤ 9 → jGp h → jiv h 125 43 = g0 → jiv h 125 44 = g1 → jJ jSgM Dy h → jSm fp_X12_findBest_r125d h0 h → K20 l1.toInt l2.toInt (vw h) = dr → jX m_X12_findBest 10 0 0 20 [(0, .ref 125), (1, .int l1), (2, .int l2)] [] h 0 0 Q) : ∀ (l1 : Int32) (l3 : Int32) (l4 : Int32) (g0 : Int32) (h : jH), 0 ≤ l3.toInt ∧ l3.toInt ≤ 2147483647 → 0 ≤ l4.toInt ∧ l4.toInt ≤ 9 → 0 ≤ g0.toInt ∧ g0.toInt ≤ 9 → jGp h → jiv h 125 36 = g0 → jdm h + 1 ≤ R20 → jJ jSgM Dy h → jSm fp_X12_findBest_r125d h0 h → d_X12_findBest_r125d_109 K20  l1.toInt l3.toInt l4.toInt (vw h) = dr → jX m_X12_findBest 10 0 0 109 [(0, .ref 125), (1, .int l1), (3, .int l3), (4, .int l4)] [] h 0 0 Q := by
  intro l1 l3 l4 g0 h y0 y1 y2 C0 z0 m20 J Sm D
  have el1 := jfull l1
  unfold d_X12_findBest_r125d_109 at D
  try rw [vrf z0] at D
  refine x_aloadn (x := 125) rfl rfl ?_
  refine x_iloadn (x := l3) rfl rfl ?_
  refine z_putI (N := 92) (w := l3.toInt) 12 43 rfl f_12_446 rfl (jfin_no TX12 RX12 92 rfl rfl) hD J Sm rfl rfl rfl (pw_125_43 (by omega)) rfl (fun h w1 J Sm => ?_)
  rw [vwf w1 (show l3.toInt = l3.toInt from by omega)] at D
  refine x_aloadn (x := 125) rfl rfl ?_
  refine x_iload (x := l4) rfl rfl ?_
  refine z_putI (N := 92) (w := l4.toInt) 12 44 rfl f_12_449 rfl (jfin_no TX12 RX12 92 rfl rfl) hD J Sm rfl rfl rfl (pw_125_44 (by omega)) rfl (fun h w2 J Sm => ?_)
  rw [vwf w2 (show l4.toInt = l4.toInt from by omega)] at D
  refine x_iconst (v := 0) rfl ki_0 ?_
  refine x_istore (lsx9 := [(5, .int 0), (0, .ref 125), (1, .int l1), (3, .int l3), (4, .int l4)]) rfl rfl rfl ?_
  exact jX.sub (jsb_c rfl (jsb_c rfl (jsb_c rfl jsb_n))) (ct_X12_findBest_r125d_123 hD hQ k20 10 l1 0 g0 l3 l4 h (by have := jk_0; omega) (jr_of jk_0 (by omega)) (jr_of rfl (by omega)) (jr_of rfl (by omega)) (jr_of rfl (by omega)) (jgp_e (jeq_o w2 rfl (jeq_o w1 rfl jeq_0)) C0) (jmo w2 rfl (jmo w1 rfl z0)) (jmo w2 rfl (jmw w1)) (jmw w2) (by have q := jdm_e (jeq_o w2 rfl (jeq_o w1 rfl jeq_0)); omega) J Sm (by rw [jk_0]; exact D))
set_option maxRecDepth 100000 in
set_option maxHeartbeats 4000000 in
theorem ct_X12_findBest_r125d_72 {Dy : jH → Prop} {h0 : jH} {Q : Option Value → jH → Prop} {dr : jW} {K20 : Int → Int → jW → jW} {K35 : Int → Int → Int → Int → jW → jW} {R20 : Int} {R35 : Int} (hD : jDk Dy) (hQ : ∀ hx9, jJ jSgM Dy hx9 → jSm fp_X12_findBest_r125d h0 hx9 → dr = vw hx9 → Q none hx9) (k20 : ∀ (l1 : Int32) (l2 : Int32) (g0 : Int32) (g1 : Int32) (h : jH), jdm h + l2.toInt < R20 → 0 ≤ l2.toInt ∧ l2.toInt ≤ 1 → (-1) ≤ g0.toInt ∧ g0.toInt ≤ 2147483647 → 0 ≤ g1.toInt ∧ g1.toInt ≤ 9 → jGp h → jiv h 125 43 = g0 → jiv h 125 44 = g1 → jJ jSgM Dy h → jSm fp_X12_findBest_r125d h0 h → K20 l1.toInt l2.toInt (vw h) = dr → jX m_X12_findBest 10 0 0 20 [(0, .ref 125), (1, .int l1), (2, .int l2)] [] h 0 0 Q) (k35 : ∀ (l1 : Int32) (l3 : Int32) (l4 : Int32) (l5 : Int32) (g0 : Int32) (g1 : Int32) (h : jH), 9 - l5.toInt < R35 → 0 ≤ l4.toInt ∧ l4.toInt ≤ 9 → 0 ≤ l5.toInt ∧ l5.toInt ≤ 9 → (-1) ≤ g0.toInt ∧ g0.toInt ≤ 2147483647 → 0 ≤ g1.toInt ∧ g1.toInt ≤ 9 → jGp h → jiv h 125 43 = g0 → jiv h 125 44 = g1 → jdm h + 1 ≤ R20 → jJ jSgM Dy h → jSm fp_X12_findBest_r125d h0 h → K35 l1.toInt l3.toInt l4.toInt l5.toInt (vw h) = dr → jX m_X12_findBest 10 0 0 35 [(0, .ref 125), (1, .int l1), (3, .int l3), (4, .int l4), (5, .int l5)] [] h 0 0 Q) : ∀ (l1 : Int32) (l3 : Int32) (l5 : Int32) (s0 : Int32) (g0 : Int32) (g1 : Int32) (h : jH), 0 ≤ l5.toInt ∧ l5.toInt ≤ 8 → 1 ≤ s0.toInt ∧ s0.toInt ≤ 9 → (-1) ≤ g0.toInt ∧ g0.toInt ≤ 2147483647 → 0 ≤ g1.toInt ∧ g1.toInt ≤ 9 → jGp h → jiv h 125 43 = g0 → jiv h 125 44 = g1 → jdm h + 1 ≤ R20 → 9 - l5.toInt ≤ R35 → jJ jSgM Dy h → jSm fp_X12_findBest_r125d h0 h → d_X12_findBest_r125d_72 K20 K35  l1.toInt l3.toInt l5.toInt s0.toInt (vw h) = dr → jX m_X12_findBest 10 0 0 72 [(0, .ref 125), (1, .int l1), (3, .int l3), (5, .int l5)] [.int s0] h 0 0 Q := by
  intro l1 l3 l5 s0 g0 g1 h y0 y1 y2 y3 C0 z0 z1 m20 m35 J Sm D
  have el1 := jfull l1
  have el3 := jfull l3
  unfold d_X12_findBest_r125d_72 at D
  try rw [vrf z0] at D
  try rw [vrf z1] at D
  refine x_istore (lsx9 := [(4, .int s0), (0, .ref 125), (1, .int l1), (3, .int l3), (5, .int l5)]) rfl rfl rfl ?_
  refine z_iinc (x := l5) (lsx9 := fun v1 => [(5, .int v1), (4, .int s0), (0, .ref 125), (1, .int l1), (3, .int l3)]) rfl rfl rfl jko_1 (by omega) rfl (fun _ => rfl) (fun v1 ev1 => ?_)
  refine x_goto (tgt := 35) rfl rfl ?_
  try rw [show (l5.toInt + 1) = v1.toInt from by omega] at D
  exact jX.sub (jsb_c rfl (jsb_c rfl (jsb_c rfl (jsb_c rfl (jsb_c rfl jsb_n))))) (k35 l1 l3 s0 v1 g0 g1 h (by omega) (jr_of rfl (by omega)) (jr_of rfl (by omega)) (jr_of rfl (by omega)) (jr_of rfl (by omega)) (jgp_e jeq_0 C0) z0 z1 (by omega) J Sm D)
set_option maxRecDepth 100000 in
set_option maxHeartbeats 4000000 in
theorem ct_X12_findBest_r125d_35 {Dy : jH → Prop} {h0 : jH} {Q : Option Value → jH → Prop} {dr : jW} {K20 : Int → Int → jW → jW} {R20 : Int} (hD : jDk Dy) (hQ : ∀ hx9, jJ jSgM Dy hx9 → jSm fp_X12_findBest_r125d h0 hx9 → dr = vw hx9 → Q none hx9) (k20 : ∀ (l1 : Int32) (l2 : Int32) (g0 : Int32) (g1 : Int32) (h : jH), jdm h + l2.toInt < R20 → 0 ≤ l2.toInt ∧ l2.toInt ≤ 1 → (-1) ≤ g0.toInt ∧ g0.toInt ≤ 2147483647 → 0 ≤ g1.toInt ∧ g1.toInt ≤ 9 → jGp h → jiv h 125 43 = g0 → jiv h 125 44 = g1 → jJ jSgM Dy h → jSm fp_X12_findBest_r125d h0 h → K20 l1.toInt l2.toInt (vw h) = dr → jX m_X12_findBest 10 0 0 20 [(0, .ref 125), (1, .int l1), (2, .int l2)] [] h 0 0 Q) : ∀ r : Nat, ∀ (l1 : Int32) (l3 : Int32) (l4 : Int32) (l5 : Int32) (g0 : Int32) (g1 : Int32) (h : jH), 9 - l5.toInt < (r : Int) → 0 ≤ l4.toInt ∧ l4.toInt ≤ 9 → 0 ≤ l5.toInt ∧ l5.toInt ≤ 9 → (-1) ≤ g0.toInt ∧ g0.toInt ≤ 2147483647 → 0 ≤ g1.toInt ∧ g1.toInt ≤ 9 → jGp h → jiv h 125 43 = g0 → jiv h 125 44 = g1 → jdm h + 1 ≤ R20 → jJ jSgM Dy h → jSm fp_X12_findBest_r125d h0 h → d_X12_findBest_r125d_35 K20 r l1.toInt l3.toInt l4.toInt l5.toInt (vw h) = dr → jX m_X12_findBest 10 0 0 35 [(0, .ref 125), (1, .int l1), (3, .int l3), (4, .int l4), (5, .int l5)] [] h 0 0 Q := by
  intro r
  induction r with
  | zero =>
    intro l1 l3 l4 l5 g0 g1 h hm y0 y1 y2 y3 C0 z0 z1 m20 J Sm D
    exfalso
    have el1 := jfull l1
    have el3 := jfull l3
    omega
  | succ r ih =>
    intro l1 l3 l4 l5 g0 g1 h hm y0 y1 y2 y3 C0 z0 z1 m20 J Sm D
    have el1 := jfull l1
    have el3 := jfull l3
    rw [d_X12_findBest_r125d_35.eq_2] at D
    try rw [vrf z0] at D
    try rw [vrf z1] at D
    refine x_iload (x := l5) rfl rfl ?_
    refine x_aloadn (x := 125) rfl rfl ?_
    refine z_getI (N := 92) 12 36 rfl f_12_204 rfl J rfl sg_125_36_37_1_0_1 (fun v1 qv1 ev1 => ?_)
    try rw [vrf qv1] at D
    refine x_icge (tgt := 80) rfl rfl (ti_ge rfl rfl ⟨fun c2 => ?_, fun c2 => ?_⟩)
    ·
      rw [if_pos (by omega)] at D
      refine x_iloadn (x := l3) rfl rfl ?_
      refine x_aloadn (x := 125) rfl rfl ?_
      refine z_getM (N := 92) (v := g0) 12 43 rfl f_12_446 rfl J rfl z0 ?_
      refine x_icgt (tgt := 109) rfl rfl (ti_gt rfl rfl ⟨fun c3 => ?_, fun c3 => ?_⟩)
      ·
        rw [if_pos (by omega)] at D
        exact jX.sub (jsb_c rfl (jsb_c rfl (jsb_c rfl (jsb_c rfl jsb_n)))) (ct_X12_findBest_r125d_109 hD hQ k20 l1 l3 l4 v1 h (jr_of rfl (by omega)) (jr_of rfl (by omega)) (jr_of rfl (by omega)) (jgp_e jeq_0 C0) qv1 (by omega) J Sm D)
      ·
        rw [if_neg (by omega)] at D
        refine x_iloadn (x := l3) rfl rfl ?_
        refine x_iflt (tgt := 152) rfl rfl (ti_lt rfl jk_0 ⟨fun c4 => ?_, fun c4 => ?_⟩)
        ·
          rw [if_pos (by omega)] at D
          exact jX.sub (jsb_c rfl (jsb_c rfl jsb_n)) (ct_X12_findBest_r125d_152 hD hQ k20 l1 g0 g1 h (jr_of rfl (by omega)) (jr_of rfl (by omega)) (jgp_e jeq_0 C0) z0 z1 (by omega) J Sm D)
        ·
          rw [if_neg (by omega)] at D
          refine x_iloadn (x := l3) rfl rfl ?_
          refine x_aloadn (x := 125) rfl rfl ?_
          refine z_getM (N := 92) (v := g0) 12 43 rfl f_12_446 rfl J rfl z0 ?_
          refine x_icne (tgt := 152) rfl rfl (ti_ne rfl rfl ⟨fun c5 => ?_, fun c5 => ?_⟩)
          ·
            rw [if_neg (by omega)] at D
            exact jX.sub (jsb_c rfl (jsb_c rfl jsb_n)) (ct_X12_findBest_r125d_152 hD hQ k20 l1 g0 g1 h (jr_of rfl (by omega)) (jr_of rfl (by omega)) (jgp_e jeq_0 C0) z0 z1 (by omega) J Sm D)
          ·
            rw [if_pos (by omega)] at D
            refine x_iload (x := l4) rfl rfl ?_
            refine x_aloadn (x := 125) rfl rfl ?_
            refine z_getM (N := 92) (v := g1) 12 44 rfl f_12_449 rfl J rfl z1 ?_
            refine x_icge (tgt := 152) rfl rfl (ti_ge rfl rfl ⟨fun c6 => ?_, fun c6 => ?_⟩)
            ·
              rw [if_pos (by omega)] at D
              exact jX.sub (jsb_c rfl (jsb_c rfl jsb_n)) (ct_X12_findBest_r125d_152 hD hQ k20 l1 g0 g1 h (jr_of rfl (by omega)) (jr_of rfl (by omega)) (jgp_e jeq_0 C0) z0 z1 (by omega) J Sm D)
            ·
              rw [if_neg (by omega)] at D
              exact jX.sub (jsb_c rfl (jsb_c rfl (jsb_c rfl (jsb_c rfl jsb_n)))) (ct_X12_findBest_r125d_109 hD hQ k20 l1 l3 l4 v1 h (jr_of rfl (by omega)) (jr_of rfl (by omega)) (jr_of rfl (by omega)) (jgp_e jeq_0 C0) qv1 (by omega) J Sm D)
    ·
      rw [if_neg (by omega)] at D
      refine x_aloadn (x := 125) rfl rfl ?_
      refine z_getR (N := 92) (b := 145) 12 41 rfl f_12_90 rfl J rfl 16041 ⟨rfl, rfl⟩ rfl ?_
      refine x_iload (x := l5) rfl rfl ?_
      refine z_iald (N := 9) rfl J rfl sg_145_0_9_1_0_1 rfl (by omega) (fun v7 qv7 ev7 => ?_)
      try rw [vrd qv7 (show l5.toInt = l5.toInt from by omega)] at D
      refine x_iconst (v := 1) rfl ki_1 ?_
      refine z_iadd rfl rfl jk_1 (by omega) (fun v8 ev8 => ?_)
      refine x_iload (x := l4) rfl rfl ?_
      refine x_icle (tgt := 70) rfl rfl (ti_le rfl rfl ⟨fun c9 => ?_, fun c9 => ?_⟩)
      ·
        rw [if_pos (by omega)] at D
        refine x_iload (x := l4) rfl rfl ?_
        exact jX.sub (jsb_c rfl (jsb_c rfl (jsb_c rfl (jsb_c rfl jsb_n)))) (ct_X12_findBest_r125d_72 hD hQ k20 ih l1 l3 l5 l4 g0 g1 h (jr_of rfl (by omega)) (jr_of rfl (by omega)) (jr_of rfl (by omega)) (jr_of rfl (by omega)) (jgp_e jeq_0 C0) z0 z1 (by omega) (by omega) J Sm D)
      ·
        rw [if_neg (by omega)] at D
        refine x_aloadn (x := 125) rfl rfl ?_
        refine z_getR (N := 92) (b := 145) 12 41 rfl f_12_90 rfl J rfl 16041 ⟨rfl, rfl⟩ rfl ?_
        refine x_iload (x := l5) rfl rfl ?_
        refine z_ialdM (N := 9) (v := v7) rfl J rfl rfl (by omega) qv7 ?_
        refine x_iconst (v := 1) rfl ki_1 ?_
        refine z_iadd rfl rfl jk_1 (by omega) (fun v10 ev10 => ?_)
        refine x_goto (tgt := 72) rfl rfl ?_
        try rw [show (v7.toInt + 1) = v10.toInt from by omega] at D
        exact jX.sub (jsb_c rfl (jsb_c rfl (jsb_c rfl (jsb_c rfl jsb_n)))) (ct_X12_findBest_r125d_72 hD hQ k20 ih l1 l3 l5 v10 g0 g1 h (jr_of rfl (by omega)) (jr_of rfl (by omega)) (jr_of rfl (by omega)) (jr_of rfl (by omega)) (jgp_e jeq_0 C0) z0 z1 (by omega) (by omega) J Sm D)
set_option maxRecDepth 100000 in
set_option maxHeartbeats 4000000 in
theorem ct_X12_findBest_r125d_20 {Dy : jH → Prop} {h0 : jH} {Q : Option Value → jH → Prop} {dr : jW} (hD : jDk Dy) (hQ : ∀ hx9, jJ jSgM Dy hx9 → jSm fp_X12_findBest_r125d h0 hx9 → dr = vw hx9 → Q none hx9) : ∀ r : Nat, ∀ (l1 : Int32) (l2 : Int32) (g0 : Int32) (g1 : Int32) (h : jH), jdm h + l2.toInt < (r : Int) → 0 ≤ l2.toInt ∧ l2.toInt ≤ 1 → (-1) ≤ g0.toInt ∧ g0.toInt ≤ 2147483647 → 0 ≤ g1.toInt ∧ g1.toInt ≤ 9 → jGp h → jiv h 125 43 = g0 → jiv h 125 44 = g1 → jJ jSgM Dy h → jSm fp_X12_findBest_r125d h0 h → d_X12_findBest_r125d_20 r l1.toInt l2.toInt (vw h) = dr → jX m_X12_findBest 10 0 0 20 [(0, .ref 125), (1, .int l1), (2, .int l2)] [] h 0 0 Q := by
  intro r
  induction r with
  | zero =>
    intro l1 l2 g0 g1 h hm y0 y1 y2 C0 z0 z1  J Sm D
    exfalso
    have el1 := jfull l1
    have := jdm_nn C0; omega
  | succ r ih =>
    intro l1 l2 g0 g1 h hm y0 y1 y2 C0 z0 z1  J Sm D
    have el1 := jfull l1
    rw [d_X12_findBest_r125d_20.eq_2] at D
    try rw [vrf z0] at D
    try rw [vrf z1] at D
    refine x_iloadn (x := l2) rfl rfl ?_
    refine x_ifeq (tgt := 160) rfl rfl (ti_eq rfl jk_0 ⟨fun c1 => ?_, fun c1 => ?_⟩)
    ·
      rw [if_pos (by omega)] at D
      refine x_aloadn (x := 125) rfl rfl ?_
      refine x_iconst (v := 0) rfl ki_0 ?_
      refine z_putI (N := 92) (w := 0) 12 46 rfl f_12_463 rfl (jfin_no TX12 RX12 92 rfl rfl) hD J Sm rfl rfl jk_0 (pw_125_46 trivial) rfl (fun h w2 J Sm => ?_)
      rw [vwf w2 (show 0 = (0 : Int32).toInt from by have := jk_0; omega)] at D
      refine x_aloadn (x := 125) rfl rfl ?_
      refine x_inv (N := m_X12_firstGroups) (As := []) (b := 125) (st := []) (dx9 := 1) (mc := 0) (ms := 0) (host := "") 12 rfl t_X12_firstGroups ⟨Or.inl q_12_452, i_X12_firstGroups.1, i_X12_firstGroups.2⟩ ⟨by decide, rfl⟩ (congrArg Prod.fst (J.1.1 125 (12, 92) rfl)) rfl (by decide) rfl rfl ⟨by decide, by decide⟩ (sf_X12_firstGroups_r125d  hD J rfl  (fun h J S3 P4 X5 => ?_))
      have Sm := jSm_tr rfl Sm S3
      rw [X5] at D
      show jX m_X12_findBest 10 0 0 169 [(0, .ref 125), (1, .int l1), (2, .int l2)] [] _ 0 0 _
      refine x_iconst (v := 1) rfl ki_1 ?_
      refine x_istoren (lsx9 := [(2, .int 1), (0, .ref 125), (1, .int l1)]) rfl rfl rfl ?_
      exact jX.sub (jsb_c rfl (jsb_c rfl (jsb_c rfl jsb_n))) (ct_X12_findBest_r125d_171 hD hQ  387420491 l1 1 g0 0 h (by have := jdm_top ((jgp_e jeq_0 P4)); have := jk_1; omega) (jr_of jk_1 (by omega)) (jr_of rfl (by omega)) (jgp_e jeq_0 P4) (jmc S3 rfl (jmo w2 rfl z0)) (jmc S3 rfl (jmw w2)) J Sm (by rw [jk_1]; exact D))
    ·
      rw [if_neg (by omega)] at D
      refine x_aloadn (x := 125) rfl rfl ?_
      refine x_inv (N := m_X12_groupsWorth) (As := []) (b := 125) (st := []) (dx9 := 1) (mc := 0) (ms := 0) (host := "") 12 rfl t_X12_groupsWorth ⟨Or.inl q_12_455, i_X12_groupsWorth.1, i_X12_groupsWorth.2⟩ ⟨by decide, rfl⟩ (congrArg Prod.fst (J.1.1 125 (12, 92) rfl)) rfl (by decide) rfl rfl ⟨by decide, by decide⟩ (sf_X12_groupsWorth_r125d  hD J rfl  (fun v9 h J S6 X7 X8 => ?_))
      have ev9 := jfull v9
      have Sm := jSm_tr rfl Sm S6
      try rw [X7] at D
      try rw [← X8] at D
      show jX m_X12_findBest 10 0 0 28 [(0, .ref 125), (1, .int l1), (2, .int l2)] [.int v9] _ 0 0 _
      refine x_istoren (lsx9 := [(3, .int v9), (0, .ref 125), (1, .int l1), (2, .int l2)]) rfl rfl rfl ?_
      refine x_iconst (v := 0) rfl ki_0 ?_
      refine x_istore (lsx9 := [(4, .int 0), (3, .int v9), (0, .ref 125), (1, .int l1), (2, .int l2)]) rfl rfl rfl ?_
      refine x_iconst (v := 0) rfl ki_0 ?_
      refine x_istore (lsx9 := [(5, .int 0), (4, .int 0), (3, .int v9), (0, .ref 125), (1, .int l1), (2, .int l2)]) rfl rfl rfl ?_
      exact jX.sub (jsb_c rfl (jsb_c rfl (jsb_c rfl (jsb_c rfl (jsb_c rfl jsb_n))))) (ct_X12_findBest_r125d_35 hD hQ ih 10 l1 v9 0 0 g0 g1 h (by have := jk_0; omega) (jr_of jk_0 (by omega)) (jr_of jk_0 (by omega)) (jr_of rfl (by omega)) (jr_of rfl (by omega)) (jgp_e (jeq_c S6 rfl jeq_0) C0) (jmc S6 rfl z0) (jmc S6 rfl z1) (by have q := jdm_e (jeq_c S6 rfl jeq_0); omega) J Sm (by rw [jk_0]; exact D))
set_option maxRecDepth 100000 in
set_option maxHeartbeats 4000000 in
theorem sf_X12_findBest_r125d {Dy : jH → Prop} {h : jH} {Q : Option Value → jH → Prop} {dr : jW} {a1 : Int32} (hD : jDk Dy) (J : jJ jSgM Dy h) (D : d_X12_findBest_r125d a1.toInt (vw h) = dr) (hQ : ∀ hx9, jJ jSgM Dy hx9 → jSm fp_X12_findBest_r125d h hx9 → dr = vw hx9 → Q none hx9) : jC m_X12_findBest 10 0 0 [.ref 125, .int a1] h Q := by
  refine jC.of rfl k_X12_findBest rfl ?_
  have Sm := jSm_rf fp_X12_findBest_r125d h
  have ea1 := jfull a1
  show jX m_X12_findBest 10 0 0 0 [(0, .ref 125), (1, .int a1)] [] _ 0 0 _
  unfold d_X12_findBest_r125d at D
  refine x_aloadn (x := 125) rfl rfl ?_
  refine x_inv (N := m_X12_weigh) (As := []) (b := 125) (st := []) (dx9 := 9) (mc := 0) (ms := 0) (host := "") 12 rfl t_X12_weigh ⟨Or.inl q_12_443, i_X12_weigh.1, i_X12_weigh.2⟩ ⟨by decide, rfl⟩ (congrArg Prod.fst (J.1.1 125 (12, 92) rfl)) rfl (by decide) rfl rfl ⟨by decide, by decide⟩ (sf_X12_weigh_r125d  hD J rfl  (fun h J S1 X2 => ?_))
  have Sm := jSm_tr rfl Sm S1
  rw [X2] at D
  show jX m_X12_findBest 10 0 0 4 [(0, .ref 125), (1, .int a1)] [] _ 0 0 _
  refine x_aloadn (x := 125) rfl rfl ?_
  refine x_iconst (v := (-1)) rfl ki_m1 ?_
  refine z_putI (N := 92) (w := (-1)) 12 43 rfl f_12_446 rfl (jfin_no TX12 RX12 92 rfl rfl) hD J Sm rfl rfl jk_m1 (pw_125_43 (by omega)) rfl (fun h w3 J Sm => ?_)
  rw [vwf w3 (show (-1) = ((-1) : Int32).toInt from by have := jk_m1; omega)] at D
  refine x_aloadn (x := 125) rfl rfl ?_
  refine x_iconst (v := 0) rfl ki_0 ?_
  refine z_putI (N := 92) (w := 0) 12 44 rfl f_12_449 rfl (jfin_no TX12 RX12 92 rfl rfl) hD J Sm rfl rfl jk_0 (pw_125_44 (by omega)) rfl (fun h w4 J Sm => ?_)
  rw [vwf w4 (show 0 = (0 : Int32).toInt from by have := jk_0; omega)] at D
  refine x_aloadn (x := 125) rfl rfl ?_
  refine x_inv (N := m_X12_firstGroups) (As := []) (b := 125) (st := []) (dx9 := 1) (mc := 0) (ms := 0) (host := "") 12 rfl t_X12_firstGroups ⟨Or.inl q_12_452, i_X12_firstGroups.1, i_X12_firstGroups.2⟩ ⟨by decide, rfl⟩ (congrArg Prod.fst (J.1.1 125 (12, 92) rfl)) rfl (by decide) rfl rfl ⟨by decide, by decide⟩ (sf_X12_firstGroups_r125d  hD J rfl  (fun h J S5 P6 X7 => ?_))
  have Sm := jSm_tr rfl Sm S5
  rw [X7] at D
  show jX m_X12_findBest 10 0 0 18 [(0, .ref 125), (1, .int a1)] [] _ 0 0 _
  refine x_iconst (v := 1) rfl ki_1 ?_
  refine x_istoren (lsx9 := [(2, .int 1), (0, .ref 125), (1, .int a1)]) rfl rfl rfl ?_
  exact jX.sub (jsb_c rfl (jsb_c rfl (jsb_c rfl jsb_n))) (ct_X12_findBest_r125d_20 hD hQ  387420491 a1 1 (-1) 0 h (by have := jdm_top ((jgp_e jeq_0 P6)); have := jk_1; omega) (jr_of jk_1 (by omega)) (jr_of jk_m1 (by omega)) (jr_of jk_0 (by omega)) (jgp_e jeq_0 P6) (jmc S5 rfl (jmo w4 rfl (jmw w3))) (jmc S5 rfl (jmw w4)) J Sm (by rw [jk_1]; exact D))
def fp_X12_best_r125d : jFp := [(125, 0, 1), (125, 28, 29), (125, 31, 32), (125, 43, 44), (125, 44, 45), (125, 45, 46), (125, 46, 47), (125, 57, 58), (137, 0, 80), (138, 0, 2), (139, 0, 600), (140, 0, 200), (142, 0, 81), (143, 0, 81), (144, 0, 81), (145, 0, 9), (146, 0, 9)]
set_option maxRecDepth 100000 in
set_option maxHeartbeats 4000000 in
theorem ct_X12_best_r125d_34 {Dy : jH → Prop} {h0 : jH} {Q : Option Value → jH → Prop} {dr : (Int × jW)} (hD : jDk Dy) (hQ : ∀ (v : Int32) hx9, jJ jSgM Dy hx9 → jSm fp_X12_best_r125d h0 hx9 → dr.1 = v.toInt → dr.2 = vw hx9 → Q (some (.int v)) hx9) : ∀ (h : jH), jJ jSgM Dy h → jSm fp_X12_best_r125d h0 h → d_X12_best_r125d_34  (vw h) = dr → jX m_X12_best 11 0 0 34 [] [] h 0 0 Q := by
  intro  h    J Sm D
  unfold d_X12_best_r125d_34 at D
  refine x_iconst (v := (-1)) rfl ki_m1 ?_
  refine x_iret rfl rfl ?_
  exact hQ _ _ J Sm ((congrArg Prod.fst D).symm.trans (show (-1) = ((-1) : Int32).toInt from by have := jk_m1; omega)) (congrArg Prod.snd D).symm
set_option maxRecDepth 100000 in
set_option maxHeartbeats 4000000 in
theorem ct_X12_best_r125d_89 {Dy : jH → Prop} {h0 : jH} {Q : Option Value → jH → Prop} {dr : (Int × jW)} (hD : jDk Dy) (hQ : ∀ (v : Int32) hx9, jJ jSgM Dy hx9 → jSm fp_X12_best_r125d h0 hx9 → dr.1 = v.toInt → dr.2 = vw hx9 → Q (some (.int v)) hx9) : ∀ (s0 : Int32) (h : jH), jJ jSgM Dy h → jSm fp_X12_best_r125d h0 h → d_X12_best_r125d_89  s0.toInt (vw h) = dr → jX m_X12_best 11 0 0 89 [] [.int s0] h 0 0 Q := by
  intro s0 h    J Sm D
  have es0 := jfull s0
  unfold d_X12_best_r125d_89 at D
  refine x_iret rfl rfl ?_
  exact hQ _ _ J Sm ((congrArg Prod.fst D).symm.trans (show s0.toInt = s0.toInt from by omega)) (congrArg Prod.snd D).symm
set_option maxRecDepth 100000 in
set_option maxHeartbeats 4000000 in
theorem ct_X12_best_r125d_200047 {Dy : jH → Prop} {h0 : jH} {Q : Option Value → jH → Prop} {dr : (Int × jW)} (hD : jDk Dy) (hQ : ∀ (v : Int32) hx9, jJ jSgM Dy hx9 → jSm fp_X12_best_r125d h0 hx9 → dr.1 = v.toInt → dr.2 = vw hx9 → Q (some (.int v)) hx9) : ∀ (l1 : Int32) (h : jH), 0 ≤ l1.toInt ∧ l1.toInt ≤ 2 → jJ jSgM Dy h → jSm fp_X12_best_r125d h0 h → d_X12_best_r125d_200047  l1.toInt (vw h) = dr → jX m_X12_best 11 0 0 47 [(0, .ref 125), (1, .int l1)] [.int 0, .ref 125] h 0 0 Q := by
  intro l1 h y0   J Sm D
  unfold d_X12_best_r125d_200047 at D
  refine x_inv (N := m_X12_findBest) (As := [.int 0]) (b := 125) (st := []) (dx9 := 10) (mc := 0) (ms := 0) (host := "") 12 rfl t_X12_findBest ⟨Or.inl q_12_468, i_X12_findBest.1, i_X12_findBest.2⟩ ⟨by decide, rfl⟩ (congrArg Prod.fst (J.1.1 125 (12, 92) rfl)) rfl (by decide) rfl rfl ⟨by decide, by decide⟩ (sf_X12_findBest_r125d  hD J rfl  (fun h J S1 X2 => ?_))
  have Sm := jSm_tr rfl Sm S1
  try rw [jk_0] at X2
  rw [X2] at D
  show jX m_X12_best 11 0 0 50 [(0, .ref 125), (1, .int l1)] [] _ 0 0 _
  refine x_iloadn (x := l1) rfl rfl ?_
  refine x_ifne (tgt := 61) rfl rfl (ti_ne rfl jk_0 ⟨fun c3 => ?_, fun c3 => ?_⟩)
  ·
    rw [if_neg (by omega)] at D
    refine x_iloadn (x := l1) rfl rfl ?_
    refine x_iconst (v := 1) rfl ki_1 ?_
    refine x_icne (tgt := 73) rfl rfl (ti_ne rfl jk_1 ⟨fun c4 => ?_, fun c4 => ?_⟩)
    ·
      rw [if_neg (by omega)] at D
      refine x_iloadn (x := l1) rfl rfl ?_
      refine x_iconst (v := 2) rfl ki_2 ?_
      refine x_icne (tgt := 85) rfl rfl (ti_ne rfl jk_2 (bn_f (by omega) ?_))
      refine x_aloadn (x := 125) rfl rfl ?_
      refine z_getI0 (N := 92) 12 45 rfl f_12_440 rfl J rfl (fun v5 qv5 => ?_)
      have ev5 := jfull v5
      try rw [vrf qv5] at D
      refine x_goto (tgt := 89) rfl rfl ?_
      exact jX.sub jsb_n (ct_X12_best_r125d_89 hD hQ  v5 h J Sm D)
    ·
      rw [if_pos (by omega)] at D
      refine x_aloadn (x := 125) rfl rfl ?_
      refine z_getI (N := 92) 12 44 rfl f_12_449 rfl J rfl sg_125_44_45_1_0_1 (fun v6 qv6 ev6 => ?_)
      try rw [vrf qv6] at D
      refine x_goto (tgt := 89) rfl rfl ?_
      exact jX.sub jsb_n (ct_X12_best_r125d_89 hD hQ  v6 h J Sm D)
  ·
    rw [if_pos (by omega)] at D
    refine x_aloadn (x := 125) rfl rfl ?_
    refine z_getI (N := 92) 12 43 rfl f_12_446 rfl J rfl sg_125_43_44_1_0_1 (fun v7 qv7 ev7 => ?_)
    try rw [vrf qv7] at D
    refine x_goto (tgt := 89) rfl rfl ?_
    exact jX.sub jsb_n (ct_X12_best_r125d_89 hD hQ  v7 h J Sm D)
set_option maxRecDepth 100000 in
set_option maxHeartbeats 4000000 in
theorem ct_X12_best_r125d_47 {Dy : jH → Prop} {h0 : jH} {Q : Option Value → jH → Prop} {dr : (Int × jW)} (hD : jDk Dy) (hQ : ∀ (v : Int32) hx9, jJ jSgM Dy hx9 → jSm fp_X12_best_r125d h0 hx9 → dr.1 = v.toInt → dr.2 = vw hx9 → Q (some (.int v)) hx9) : ∀ (l1 : Int32) (s0 : Int32) (h : jH), 3 ≤ l1.toInt ∧ l1.toInt ≤ 3 → jJ jSgM Dy h → jSm fp_X12_best_r125d h0 h → d_X12_best_r125d_47  l1.toInt s0.toInt (vw h) = dr → jX m_X12_best 11 0 0 47 [(0, .ref 125), (1, .int l1)] [.int s0, .ref 125] h 0 0 Q := by
  intro l1 s0 h y0   J Sm D
  have es0 := jfull s0
  unfold d_X12_best_r125d_47 at D
  refine x_inv (N := m_X12_findBest) (As := [.int s0]) (b := 125) (st := []) (dx9 := 10) (mc := 0) (ms := 0) (host := "") 12 rfl t_X12_findBest ⟨Or.inl q_12_468, i_X12_findBest.1, i_X12_findBest.2⟩ ⟨by decide, rfl⟩ (congrArg Prod.fst (J.1.1 125 (12, 92) rfl)) rfl (by decide) rfl rfl ⟨by decide, by decide⟩ (sf_X12_findBest_r125d  hD J rfl  (fun h J S1 X2 => ?_))
  have Sm := jSm_tr rfl Sm S1
  rw [X2] at D
  show jX m_X12_best 11 0 0 50 [(0, .ref 125), (1, .int l1)] [] _ 0 0 _
  refine x_iloadn (x := l1) rfl rfl ?_
  refine x_ifne (tgt := 61) rfl rfl (ti_ne rfl jk_0 (bn_t (by omega) ?_))
  refine x_iloadn (x := l1) rfl rfl ?_
  refine x_iconst (v := 1) rfl ki_1 ?_
  refine x_icne (tgt := 73) rfl rfl (ti_ne rfl jk_1 (bn_t (by omega) ?_))
  refine x_iloadn (x := l1) rfl rfl ?_
  refine x_iconst (v := 2) rfl ki_2 ?_
  refine x_icne (tgt := 85) rfl rfl (ti_ne rfl jk_2 (bn_t (by omega) ?_))
  refine x_aloadn (x := 125) rfl rfl ?_
  refine z_getI0 (N := 92) 12 46 rfl f_12_463 rfl J rfl (fun v3 qv3 => ?_)
  have ev3 := jfull v3
  try rw [vrf qv3] at D
  exact jX.sub jsb_n (ct_X12_best_r125d_89 hD hQ  v3 h J Sm D)
set_option maxRecDepth 100000 in
set_option maxHeartbeats 4000000 in
theorem ct_X12_best_r125d_36 {Dy : jH → Prop} {h0 : jH} {Q : Option Value → jH → Prop} {dr : (Int × jW)} (hD : jDk Dy) (hQ : ∀ (v : Int32) hx9, jJ jSgM Dy hx9 → jSm fp_X12_best_r125d h0 hx9 → dr.1 = v.toInt → dr.2 = vw hx9 → Q (some (.int v)) hx9) : ∀ (l1 : Int32) (l2 : Int32) (h : jH), 0 ≤ l1.toInt ∧ l1.toInt ≤ 3 → jJ jSgM Dy h → jSm fp_X12_best_r125d h0 h → d_X12_best_r125d_36  l1.toInt l2.toInt (vw h) = dr → jX m_X12_best 11 0 0 36 [(0, .ref 125), (1, .int l1), (2, .int l2)] [] h 0 0 Q := by
  intro l1 l2 h y0   J Sm D
  have el2 := jfull l2
  unfold d_X12_best_r125d_36 at D
  refine x_aloadn (x := 125) rfl rfl ?_
  refine x_iloadn (x := l1) rfl rfl ?_
  refine x_iconst (v := 3) rfl ki_3 ?_
  refine x_icne (tgt := 46) rfl rfl (ti_ne rfl jk_3 ⟨fun c1 => ?_, fun c1 => ?_⟩)
  ·
    rw [if_neg (by omega)] at D
    refine x_iconst (v := 0) rfl ki_0 ?_
    exact jX.sub (jsb_c rfl (jsb_c rfl jsb_n)) (ct_X12_best_r125d_200047 hD hQ  l1 h (jr_of rfl (by omega)) J Sm D)
  ·
    rw [if_pos (by omega)] at D
    refine x_iloadn (x := l2) rfl rfl ?_
    refine x_goto (tgt := 47) rfl rfl ?_
    exact jX.sub (jsb_c rfl (jsb_c rfl jsb_n)) (ct_X12_best_r125d_47 hD hQ  l1 l2 h (jr_of rfl (by omega)) J Sm D)
set_option maxRecDepth 100000 in
set_option maxHeartbeats 4000000 in
theorem sf_X12_best_r125d {Dy : jH → Prop} {h : jH} {Q : Option Value → jH → Prop} {dr : (Int × jW)} {a1 : Int32} {a2 : Int32} (hD : jDk Dy) (J : jJ jSgM Dy h) (D : d_X12_best_r125d a1.toInt a2.toInt (vw h) = dr) (hQ : ∀ (v : Int32) hx9, jJ jSgM Dy hx9 → jSm fp_X12_best_r125d h hx9 → dr.1 = v.toInt → dr.2 = vw hx9 → Q (some (.int v)) hx9) : jC m_X12_best 11 0 0 [.ref 125, .int a1, .int a2] h Q := by
  refine jC.of rfl k_X12_best rfl ?_
  have Sm := jSm_rf fp_X12_best_r125d h
  have ea1 := jfull a1
  have ea2 := jfull a2
  show jX m_X12_best 11 0 0 0 [(0, .ref 125), (1, .int a1), (2, .int a2)] [] _ 0 0 _
  unfold d_X12_best_r125d at D
  refine x_aloadn (x := 125) rfl rfl ?_
  refine x_iconst (v := 0) rfl ki_0 ?_
  refine z_putI (N := 92) (w := 0) 12 0 rfl f_12_180 rfl (jfin_no TX12 RX12 92 rfl rfl) hD J Sm rfl rfl jk_0 (pw_125_0 (by omega)) rfl (fun h w1 J Sm => ?_)
  rw [vwf w1 (show 0 = (0 : Int32).toInt from by have := jk_0; omega)] at D
  refine x_iloadn (x := a1) rfl rfl ?_
  refine z_i2l rfl rfl (fun v2 ev2 => ?_)
  refine x_lconst (v := 0) rfl kl_0 ?_
  refine x_ldc2 (v := 3) rfl z_12_195 ?_
  refine x_inst (N := m_X12_in) (As := [.long v2, .long 0, .long 3]) (st := []) (dx9 := 1) (mc := 0) (ms := 0) (host := "") rfl t_X12_in ⟨Or.inl q_12_188, s_X12_in⟩ rfl (by decide) rfl rfl ⟨by decide, by decide⟩ (zc_X12_in rfl jkl_0 jkl_3 (fun v3 ev3 => ?_))
  show jX m_X12_best 11 0 0 14 [(0, .ref 125), (1, .int a1), (2, .int a2)] [.int v3] _ 0 0 _
  refine x_ifeq (tgt := 34) rfl rfl (ti_eq rfl jk_0 ⟨fun c4 => ?_, fun c4 => ?_⟩)
  ·
    rw [if_neg (by omega)] at D
    exact jX.sub jsb_n (ct_X12_best_r125d_34 hD hQ  h J Sm D)
  ·
    rw [if_pos (by omega)] at D
    refine x_iloadn (x := a1) rfl rfl ?_
    refine x_iconst (v := 3) rfl ki_3 ?_
    refine x_icne (tgt := 36) rfl rfl (ti_ne rfl jk_3 ⟨fun c5 => ?_, fun c5 => ?_⟩)
    ·
      rw [if_neg (by omega)] at D
      exact jX.sub (jsb_c rfl (jsb_c rfl (jsb_c rfl jsb_n))) (ct_X12_best_r125d_36 hD hQ  a1 a2 h (jr_of rfl (by omega)) J Sm D)
    ·
      rw [if_pos (by omega)] at D
      refine x_iloadn (x := a2) rfl rfl ?_
      refine z_i2l rfl rfl (fun v6 ev6 => ?_)
      refine x_lconst (v := 0) rfl kl_0 ?_
      refine x_ldc2 (v := 1000) rfl z_12_466 ?_
      refine x_inst (N := m_X12_in) (As := [.long v6, .long 0, .long 1000]) (st := []) (dx9 := 1) (mc := 0) (ms := 0) (host := "") rfl t_X12_in ⟨Or.inl q_12_188, s_X12_in⟩ rfl (by decide) rfl rfl ⟨by decide, by decide⟩ (zc_X12_in rfl jkl_0 jkl_1000 (fun v7 ev7 => ?_))
      show jX m_X12_best 11 0 0 31 [(0, .ref 125), (1, .int a1), (2, .int a2)] [.int v7] _ 0 0 _
      refine x_ifne (tgt := 36) rfl rfl (ti_ne rfl jk_0 ⟨fun c8 => ?_, fun c8 => ?_⟩)
      ·
        rw [if_pos (by omega)] at D
        exact jX.sub (jsb_c rfl (jsb_c rfl (jsb_c rfl jsb_n))) (ct_X12_best_r125d_36 hD hQ  a1 a2 h (jr_of rfl (by omega)) J Sm D)
      ·
        rw [if_neg (by omega)] at D
        exact jX.sub jsb_n (ct_X12_best_r125d_34 hD hQ  h J Sm D)
def fp_X12_beyond_r125d : jFp := [(125, 0, 1), (125, 28, 29), (125, 31, 32), (125, 32, 33), (125, 33, 34), (125, 34, 35), (125, 35, 36), (125, 57, 58), (125, 61, 62), (125, 62, 63), (125, 63, 64), (125, 64, 65), (125, 65, 66), (125, 66, 67), (137, 0, 80), (138, 0, 2), (139, 0, 600), (140, 0, 200), (152, 0, 360), (153, 0, 30), (154, 0, 400), (155, 0, 360), (162, 0, 40), (163, 0, 40), (164, 0, 40)]
set_option maxRecDepth 100000 in
set_option maxHeartbeats 4000000 in
theorem ct_X12_beyond_r125d_38 {Dy : jH → Prop} {h0 : jH} {Q : Option Value → jH → Prop} {dr : (Int × jW)} (hD : jDk Dy) (hQ : ∀ (v : Int32) hx9, jJ jSgM Dy hx9 → jSm fp_X12_beyond_r125d h0 hx9 → dr.1 = v.toInt → dr.2 = vw hx9 → Q (some (.int v)) hx9) : ∀ (h : jH), jJ jSgM Dy h → jSm fp_X12_beyond_r125d h0 h → d_X12_beyond_r125d_38  (vw h) = dr → jX m_X12_beyond 12 0 0 38 [] [] h 0 0 Q := by
  intro  h    J Sm D
  unfold d_X12_beyond_r125d_38 at D
  refine x_iconst (v := (-1)) rfl ki_m1 ?_
  refine x_iret rfl rfl ?_
  exact hQ _ _ J Sm ((congrArg Prod.fst D).symm.trans (show (-1) = ((-1) : Int32).toInt from by have := jk_m1; omega)) (congrArg Prod.snd D).symm
set_option maxRecDepth 100000 in
set_option maxHeartbeats 4000000 in
theorem ct_X12_beyond_r125d_106 {Dy : jH → Prop} {h0 : jH} {Q : Option Value → jH → Prop} {dr : (Int × jW)} (hD : jDk Dy) (hQ : ∀ (v : Int32) hx9, jJ jSgM Dy hx9 → jSm fp_X12_beyond_r125d h0 hx9 → dr.1 = v.toInt → dr.2 = vw hx9 → Q (some (.int v)) hx9) : ∀ (s0 : Int32) (h : jH), jJ jSgM Dy h → jSm fp_X12_beyond_r125d h0 h → d_X12_beyond_r125d_106  s0.toInt (vw h) = dr → jX m_X12_beyond 12 0 0 106 [] [.int s0] h 0 0 Q := by
  intro s0 h    J Sm D
  have es0 := jfull s0
  unfold d_X12_beyond_r125d_106 at D
  refine x_iret rfl rfl ?_
  exact hQ _ _ J Sm ((congrArg Prod.fst D).symm.trans (show s0.toInt = s0.toInt from by omega)) (congrArg Prod.snd D).symm
set_option maxRecDepth 100000 in
set_option maxHeartbeats 4000000 in
theorem ct_X12_beyond_r125d_200106 {Dy : jH → Prop} {h0 : jH} {Q : Option Value → jH → Prop} {dr : (Int × jW)} (hD : jDk Dy) (hQ : ∀ (v : Int32) hx9, jJ jSgM Dy hx9 → jSm fp_X12_beyond_r125d h0 hx9 → dr.1 = v.toInt → dr.2 = vw hx9 → Q (some (.int v)) hx9) : ∀ (h : jH), jJ jSgM Dy h → jSm fp_X12_beyond_r125d h0 h → d_X12_beyond_r125d_200106  (vw h) = dr → jX m_X12_beyond 12 0 0 106 [] [.int 0] h 0 0 Q := by
  intro  h    J Sm D
  unfold d_X12_beyond_r125d_200106 at D
  refine x_iret rfl rfl ?_
  exact hQ _ _ J Sm ((congrArg Prod.fst D).symm.trans (show 0 = (0 : Int32).toInt from by have := jk_0; omega)) (congrArg Prod.snd D).symm
set_option maxRecDepth 100000 in
set_option maxHeartbeats 4000000 in
theorem ct_X12_beyond_r125d_81 {Dy : jH → Prop} {h0 : jH} {Q : Option Value → jH → Prop} {dr : (Int × jW)} (hD : jDk Dy) (hQ : ∀ (v : Int32) hx9, jJ jSgM Dy hx9 → jSm fp_X12_beyond_r125d h0 hx9 → dr.1 = v.toInt → dr.2 = vw hx9 → Q (some (.int v)) hx9) : ∀ (l1 : Int32) (s0 : Int64) (h : jH), 0 ≤ l1.toInt ∧ l1.toInt ≤ 199 → jJ jSgM Dy h → jSm fp_X12_beyond_r125d h0 h → d_X12_beyond_r125d_81  l1.toInt s0.toInt (vw h) = dr → jX m_X12_beyond 12 0 0 81 [(0, .ref 125), (1, .int l1)] [.long s0] h 0 0 Q := by
  intro l1 s0 h y0   J Sm D
  have es0 := jfullL s0
  unfold d_X12_beyond_r125d_81 at D
  refine x_lstoren (lsx9 := [(3, .long s0), (0, .ref 125), (1, .int l1)]) rfl rfl rfl ?_
  refine x_aloadn (x := 125) rfl rfl ?_
  refine x_iloadn (x := l1) rfl rfl ?_
  refine x_inv (N := m_X12_numberOf) (As := [.int l1]) (b := 125) (st := []) (dx9 := 11) (mc := 0) (ms := 0) (host := "") 12 rfl t_X12_numberOf ⟨Or.inl q_12_296, i_X12_numberOf.1, i_X12_numberOf.2⟩ ⟨by decide, rfl⟩ (congrArg Prod.fst (J.1.1 125 (12, 92) rfl)) rfl (by decide) rfl rfl ⟨by decide, by decide⟩ (jC.of rfl k_X12_numberOf rfl ?_)
  show jX m_X12_numberOf 11 0 0 0 [(0, .ref 125), (1, .int l1)] [] _ 0 0 _
  refine x_aloadn (x := 125) rfl rfl ?_
  refine z_getR (N := 92) (b := 126) 12 2 rfl f_12_8 rfl J rfl 16002 ⟨rfl, rfl⟩ rfl ?_
  refine x_aloadn (x := 125) rfl rfl ?_
  refine x_iloadn (x := l1) rfl rfl ?_
  refine x_inv (N := m_X12_at) (As := [.int l1]) (b := 125) (st := [.ref 126]) (dx9 := 10) (mc := 0) (ms := 0) (host := "") 12 rfl t_X12_at ⟨Or.inl q_12_254, i_X12_at.1, i_X12_at.2⟩ ⟨by decide, rfl⟩ (congrArg Prod.fst (J.1.1 125 (12, 92) rfl)) rfl (by decide) rfl rfl ⟨by decide, by decide⟩ (jC.of rfl k_X12_at rfl ?_)
  show jX m_X12_at 10 0 0 0 [(0, .ref 125), (1, .int l1)] [] _ 0 0 _
  refine x_bipush (v := 20) rfl kb_20 ?_
  refine x_bipush (v := 90) rfl kb_90 ?_
  refine x_iloadn (x := l1) rfl rfl ?_
  refine z_imul rfl jk_90 rfl (by omega) (fun v1 ev1 => ?_)
  refine z_iadd rfl jk_20 rfl (by omega) (fun v2 ev2 => ?_)
  refine x_iret rfl rfl ?_
  show jX m_X12_numberOf 11 0 0 9 [(0, .ref 125), (1, .int l1)] [.int v2, .ref 126] _ 0 0 _
  refine x_iconst (v := 4) rfl ki_4 ?_
  refine z_iadd rfl rfl jk_4 (by omega) (fun v3 ev3 => ?_)
  refine z_iald0 (N := 50660) rfl J rfl rfl (by omega) (fun v4 qv4 => ?_)
  have ev4 := jfull v4
  try rw [vrd qv4 (show ((20 + (90 * l1.toInt)) + 4) = v3.toInt from by omega)] at D
  refine x_iret rfl rfl ?_
  show jX m_X12_beyond 12 0 0 87 [(3, .long s0), (0, .ref 125), (1, .int l1)] [.int v4] _ 0 0 _
  refine z_i2l rfl rfl (fun v5 ev5 => ?_)
  refine x_lloadn (x := s0) rfl rfl ?_
  refine z_lsubW rfl rfl rfl (fun v6 ev6 => ?_)
  have fv6 := jfullL v6
  try rw [show v4.toInt = v5.toInt from by omega] at D
  try rw [← ev6] at D
  refine x_lstore (lsx9 := [(5, .long v6), (3, .long s0), (0, .ref 125), (1, .int l1)]) rfl rfl rfl ?_
  refine x_lload (x := v6) rfl rfl ?_
  refine x_lconst (v := 0) rfl kl_0 ?_
  refine z_lcmp rfl rfl jkl_0 (fun v7 ev7 => ?_)
  refine x_ifge (tgt := 103) rfl rfl (ti_ge rfl jk_0 ⟨fun c8 => ?_, fun c8 => ?_⟩)
  ·
    rw [if_pos (by omega)] at D
    refine x_lload (x := v6) rfl rfl ?_
    refine z_l2iD rfl rfl (fun v9 ev9 => ?_)
    have fv9 := jfull v9
    try rw [← ev9] at D
    exact jX.sub jsb_n (ct_X12_beyond_r125d_106 hD hQ  v9 h J Sm D)
  ·
    rw [if_neg (by omega)] at D
    refine x_iconst (v := 0) rfl ki_0 ?_
    refine x_goto (tgt := 106) rfl rfl ?_
    exact jX.sub jsb_n (ct_X12_beyond_r125d_200106 hD hQ  h J Sm D)
set_option maxRecDepth 100000 in
set_option maxHeartbeats 4000000 in
theorem ct_X12_beyond_r125d_5000081 {Dy : jH → Prop} {h0 : jH} {Q : Option Value → jH → Prop} {dr : (Int × jW)} (hD : jDk Dy) (hQ : ∀ (v : Int32) hx9, jJ jSgM Dy hx9 → jSm fp_X12_beyond_r125d h0 hx9 → dr.1 = v.toInt → dr.2 = vw hx9 → Q (some (.int v)) hx9) : ∀ (l1 : Int32) (h : jH), 0 ≤ l1.toInt ∧ l1.toInt ≤ 199 → jJ jSgM Dy h → jSm fp_X12_beyond_r125d h0 h → d_X12_beyond_r125d_5000081  l1.toInt (vw h) = dr → jX m_X12_beyond 12 0 0 81 [(0, .ref 125), (1, .int l1)] [.long 0] h 0 0 Q := by
  intro l1 h y0   J Sm D
  unfold d_X12_beyond_r125d_5000081 at D
  refine x_lstoren (lsx9 := [(3, .long 0), (0, .ref 125), (1, .int l1)]) rfl rfl rfl ?_
  refine x_aloadn (x := 125) rfl rfl ?_
  refine x_iloadn (x := l1) rfl rfl ?_
  refine x_inv (N := m_X12_numberOf) (As := [.int l1]) (b := 125) (st := []) (dx9 := 11) (mc := 0) (ms := 0) (host := "") 12 rfl t_X12_numberOf ⟨Or.inl q_12_296, i_X12_numberOf.1, i_X12_numberOf.2⟩ ⟨by decide, rfl⟩ (congrArg Prod.fst (J.1.1 125 (12, 92) rfl)) rfl (by decide) rfl rfl ⟨by decide, by decide⟩ (jC.of rfl k_X12_numberOf rfl ?_)
  show jX m_X12_numberOf 11 0 0 0 [(0, .ref 125), (1, .int l1)] [] _ 0 0 _
  refine x_aloadn (x := 125) rfl rfl ?_
  refine z_getR (N := 92) (b := 126) 12 2 rfl f_12_8 rfl J rfl 16002 ⟨rfl, rfl⟩ rfl ?_
  refine x_aloadn (x := 125) rfl rfl ?_
  refine x_iloadn (x := l1) rfl rfl ?_
  refine x_inv (N := m_X12_at) (As := [.int l1]) (b := 125) (st := [.ref 126]) (dx9 := 10) (mc := 0) (ms := 0) (host := "") 12 rfl t_X12_at ⟨Or.inl q_12_254, i_X12_at.1, i_X12_at.2⟩ ⟨by decide, rfl⟩ (congrArg Prod.fst (J.1.1 125 (12, 92) rfl)) rfl (by decide) rfl rfl ⟨by decide, by decide⟩ (jC.of rfl k_X12_at rfl ?_)
  show jX m_X12_at 10 0 0 0 [(0, .ref 125), (1, .int l1)] [] _ 0 0 _
  refine x_bipush (v := 20) rfl kb_20 ?_
  refine x_bipush (v := 90) rfl kb_90 ?_
  refine x_iloadn (x := l1) rfl rfl ?_
  refine z_imul rfl jk_90 rfl (by omega) (fun v1 ev1 => ?_)
  refine z_iadd rfl jk_20 rfl (by omega) (fun v2 ev2 => ?_)
  refine x_iret rfl rfl ?_
  show jX m_X12_numberOf 11 0 0 9 [(0, .ref 125), (1, .int l1)] [.int v2, .ref 126] _ 0 0 _
  refine x_iconst (v := 4) rfl ki_4 ?_
  refine z_iadd rfl rfl jk_4 (by omega) (fun v3 ev3 => ?_)
  refine z_iald0 (N := 50660) rfl J rfl rfl (by omega) (fun v4 qv4 => ?_)
  have ev4 := jfull v4
  try rw [vrd qv4 (show ((20 + (90 * l1.toInt)) + 4) = v3.toInt from by omega)] at D
  refine x_iret rfl rfl ?_
  show jX m_X12_beyond 12 0 0 87 [(3, .long 0), (0, .ref 125), (1, .int l1)] [.int v4] _ 0 0 _
  refine z_i2l rfl rfl (fun v5 ev5 => ?_)
  refine x_lloadn (x := 0) rfl rfl ?_
  refine z_lsub rfl rfl jkl_0 (by omega) (fun v6 ev6 => ?_)
  refine x_lstore (lsx9 := [(5, .long v6), (3, .long 0), (0, .ref 125), (1, .int l1)]) rfl rfl rfl ?_
  refine x_lload (x := v6) rfl rfl ?_
  refine x_lconst (v := 0) rfl kl_0 ?_
  refine z_lcmp rfl rfl jkl_0 (fun v7 ev7 => ?_)
  refine x_ifge (tgt := 103) rfl rfl (ti_ge rfl jk_0 ⟨fun c8 => ?_, fun c8 => ?_⟩)
  ·
    rw [if_pos (by omega)] at D
    refine x_lload (x := v6) rfl rfl ?_
    refine z_l2i rfl rfl (by omega) (fun v9 ev9 => ?_)
    try rw [show (v4.toInt - 0) = v9.toInt from by omega] at D
    exact jX.sub jsb_n (ct_X12_beyond_r125d_106 hD hQ  v9 h J Sm D)
  ·
    rw [if_neg (by omega)] at D
    refine x_iconst (v := 0) rfl ki_0 ?_
    refine x_goto (tgt := 106) rfl rfl ?_
    exact jX.sub jsb_n (ct_X12_beyond_r125d_200106 hD hQ  h J Sm D)
set_option maxRecDepth 100000 in
set_option maxHeartbeats 4000000 in
theorem sf_X12_beyond_r125d {Dy : jH → Prop} {h : jH} {Q : Option Value → jH → Prop} {dr : (Int × jW)} {a1 : Int32} {a2 : Int32} (hD : jDk Dy) (J : jJ jSgM Dy h) (D : d_X12_beyond_r125d a1.toInt a2.toInt (vw h) = dr) (hQ : ∀ (v : Int32) hx9, jJ jSgM Dy hx9 → jSm fp_X12_beyond_r125d h hx9 → dr.1 = v.toInt → dr.2 = vw hx9 → Q (some (.int v)) hx9) : jC m_X12_beyond 12 0 0 [.ref 125, .int a1, .int a2] h Q := by
  refine jC.of rfl k_X12_beyond rfl ?_
  have Sm := jSm_rf fp_X12_beyond_r125d h
  have ea1 := jfull a1
  have ea2 := jfull a2
  show jX m_X12_beyond 12 0 0 0 [(0, .ref 125), (1, .int a1), (2, .int a2)] [] _ 0 0 _
  unfold d_X12_beyond_r125d at D
  refine x_aloadn (x := 125) rfl rfl ?_
  refine x_iconst (v := 0) rfl ki_0 ?_
  refine z_putI (N := 92) (w := 0) 12 0 rfl f_12_180 rfl (jfin_no TX12 RX12 92 rfl rfl) hD J Sm rfl rfl jk_0 (pw_125_0 (by omega)) rfl (fun h w1 J Sm => ?_)
  rw [vwf w1 (show 0 = (0 : Int32).toInt from by have := jk_0; omega)] at D
  refine x_aloadn (x := 125) rfl rfl ?_
  refine x_iloadn (x := a1) rfl rfl ?_
  refine x_inv (N := m_X12_isLine) (As := [.int a1]) (b := 125) (st := []) (dx9 := 11) (mc := 0) (ms := 0) (host := "") 12 rfl t_X12_isLine ⟨Or.inl q_12_293, i_X12_isLine.1, i_X12_isLine.2⟩ ⟨by decide, rfl⟩ (congrArg Prod.fst (J.1.1 125 (12, 92) rfl)) rfl (by decide) rfl rfl ⟨by decide, by decide⟩ (jC.of rfl k_X12_isLine rfl ?_)
  show jX m_X12_isLine 11 0 0 0 [(0, .ref 125), (1, .int a1)] [] _ 0 0 _
  refine x_iloadn (x := a1) rfl rfl ?_
  refine z_i2l rfl rfl (fun v2 ev2 => ?_)
  refine x_lconst (v := 0) rfl kl_0 ?_
  refine x_aloadn (x := 125) rfl rfl ?_
  refine z_getR (N := 92) (b := 126) 12 2 rfl f_12_8 rfl J rfl 16002 ⟨rfl, rfl⟩ rfl ?_
  refine x_iconst (v := 0) rfl ki_0 ?_
  refine z_iald (N := 50660) rfl J rfl sg_126_0_1_1_0_1 jk_0 (by omega) (fun v3 qv3 ev3 => ?_)
  try rw [vrn (n := 0) (by decide) (jmb_w w1 qv3 rfl)] at D
  refine z_i2l rfl rfl (fun v4 ev4 => ?_)
  refine x_lconst (v := 1) rfl kl_1 ?_
  refine z_lsub rfl rfl jkl_1 (by omega) (fun v5 ev5 => ?_)
  refine x_inst (N := m_X12_in) (As := [.long v2, .long 0, .long v5]) (st := []) (dx9 := 1) (mc := 0) (ms := 0) (host := "") rfl t_X12_in ⟨Or.inl q_12_188, s_X12_in⟩ rfl (by decide) rfl rfl ⟨by decide, by decide⟩ (zc_X12_in rfl jkl_0 rfl (fun v6 ev6 => ?_))
  show jX m_X12_isLine 11 0 0 15 [(0, .ref 125), (1, .int a1)] [.int v6] _ 0 0 _
  refine x_zret rfl rfl (jz01 (by omega)) ?_
  show jX m_X12_beyond 12 0 0 10 [(0, .ref 125), (1, .int a1), (2, .int a2)] [.int v6] _ 0 0 _
  refine x_ifeq (tgt := 38) rfl rfl (ti_eq rfl jk_0 ⟨fun c7 => ?_, fun c7 => ?_⟩)
  ·
    rw [if_neg (by omega)] at D
    exact jX.sub jsb_n (ct_X12_beyond_r125d_38 hD hQ  h J Sm D)
  ·
    rw [if_pos (by omega)] at D
    refine x_aloadn (x := 125) rfl rfl ?_
    refine x_iloadn (x := a1) rfl rfl ?_
    refine x_inv (N := m_X12_bookOf) (As := [.int a1]) (b := 125) (st := []) (dx9 := 11) (mc := 0) (ms := 0) (host := "") 12 rfl t_X12_bookOf ⟨Or.inl q_12_299, i_X12_bookOf.1, i_X12_bookOf.2⟩ ⟨by decide, rfl⟩ (congrArg Prod.fst (J.1.1 125 (12, 92) rfl)) rfl (by decide) rfl rfl ⟨by decide, by decide⟩ (jC.of rfl k_X12_bookOf rfl ?_)
    show jX m_X12_bookOf 11 0 0 0 [(0, .ref 125), (1, .int a1)] [] _ 0 0 _
    refine x_aloadn (x := 125) rfl rfl ?_
    refine z_getR (N := 92) (b := 126) 12 2 rfl f_12_8 rfl J rfl 16002 ⟨rfl, rfl⟩ rfl ?_
    refine x_aloadn (x := 125) rfl rfl ?_
    refine x_iloadn (x := a1) rfl rfl ?_
    refine x_inv (N := m_X12_at) (As := [.int a1]) (b := 125) (st := [.ref 126]) (dx9 := 10) (mc := 0) (ms := 0) (host := "") 12 rfl t_X12_at ⟨Or.inl q_12_254, i_X12_at.1, i_X12_at.2⟩ ⟨by decide, rfl⟩ (congrArg Prod.fst (J.1.1 125 (12, 92) rfl)) rfl (by decide) rfl rfl ⟨by decide, by decide⟩ (jC.of rfl k_X12_at rfl ?_)
    show jX m_X12_at 10 0 0 0 [(0, .ref 125), (1, .int a1)] [] _ 0 0 _
    refine x_bipush (v := 20) rfl kb_20 ?_
    refine x_bipush (v := 90) rfl kb_90 ?_
    refine x_iloadn (x := a1) rfl rfl ?_
    refine z_imul rfl jk_90 rfl (by omega) (fun v8 ev8 => ?_)
    refine z_iadd rfl jk_20 rfl (by omega) (fun v9 ev9 => ?_)
    refine x_iret rfl rfl ?_
    show jX m_X12_bookOf 11 0 0 9 [(0, .ref 125), (1, .int a1)] [.int v9, .ref 126] _ 0 0 _
    refine z_iald (N := 50660) rfl J rfl sg_126_20_18020_90_0_1 rfl (by omega) (fun v10 qv10 ev10 => ?_)
    try rw [vrd (jmb_w w1 qv10 rfl) (show (20 + (90 * a1.toInt)) = v9.toInt from by omega)] at D
    refine x_iret rfl rfl ?_
    show jX m_X12_beyond 12 0 0 18 [(0, .ref 125), (1, .int a1), (2, .int a2)] [.int v10] _ 0 0 _
    refine x_iconst (v := 4) rfl ki_4 ?_
    refine x_icne (tgt := 38) rfl rfl (ti_ne rfl jk_4 ⟨fun c11 => ?_, fun c11 => ?_⟩)
    ·
      rw [if_neg (by omega)] at D
      exact jX.sub jsb_n (ct_X12_beyond_r125d_38 hD hQ  h J Sm D)
    ·
      rw [if_pos (by omega)] at D
      refine x_iloadn (x := a2) rfl rfl ?_
      refine x_inst (N := m_X12_isDay) (As := [.int a2]) (st := []) (dx9 := 2) (mc := 0) (ms := 0) (host := "") rfl t_X12_isDay ⟨Or.inl q_12_273, s_X12_isDay⟩ rfl (by decide) rfl rfl ⟨by decide, by decide⟩ (zc_X12_isDay (d := 1) rfl (fun v12 ev12 => ?_))
      show jX m_X12_beyond 12 0 0 26 [(0, .ref 125), (1, .int a1), (2, .int a2)] [.int v12] _ 0 0 _
      refine x_ifeq (tgt := 38) rfl rfl (ti_eq rfl jk_0 ⟨fun c13 => ?_, fun c13 => ?_⟩)
      ·
        rw [if_neg (by omega)] at D
        exact jX.sub jsb_n (ct_X12_beyond_r125d_38 hD hQ  h J Sm D)
      ·
        rw [if_pos (by omega)] at D
        refine x_aloadn (x := 125) rfl rfl ?_
        refine x_iloadn (x := a1) rfl rfl ?_
        refine x_iloadn (x := a2) rfl rfl ?_
        refine x_inv (N := m_X12_isKnown) (As := [.int a1, .int a2]) (b := 125) (st := []) (dx9 := 11) (mc := 0) (ms := 0) (host := "") 12 rfl t_X12_isKnown ⟨Or.inl q_12_383, i_X12_isKnown.1, i_X12_isKnown.2⟩ ⟨by decide, rfl⟩ (congrArg Prod.fst (J.1.1 125 (12, 92) rfl)) rfl (by decide) rfl rfl ⟨by decide, by decide⟩ (jC.of rfl k_X12_isKnown rfl ?_)
        show jX m_X12_isKnown 11 0 0 0 [(0, .ref 125), (1, .int a1), (2, .int a2)] [] _ 0 0 _
        refine x_aloadn (x := 125) rfl rfl ?_
        refine z_getR (N := 92) (b := 126) 12 2 rfl f_12_8 rfl J rfl 16002 ⟨rfl, rfl⟩ rfl ?_
        refine x_aloadn (x := 125) rfl rfl ?_
        refine x_iloadn (x := a1) rfl rfl ?_
        refine x_inv (N := m_X12_at) (As := [.int a1]) (b := 125) (st := [.ref 126]) (dx9 := 10) (mc := 0) (ms := 0) (host := "") 12 rfl t_X12_at ⟨Or.inl q_12_254, i_X12_at.1, i_X12_at.2⟩ ⟨by decide, rfl⟩ (congrArg Prod.fst (J.1.1 125 (12, 92) rfl)) rfl (by decide) rfl rfl ⟨by decide, by decide⟩ (jC.of rfl k_X12_at rfl ?_)
        show jX m_X12_at 10 0 0 0 [(0, .ref 125), (1, .int a1)] [] _ 0 0 _
        refine x_bipush (v := 20) rfl kb_20 ?_
        refine x_bipush (v := 90) rfl kb_90 ?_
        refine x_iloadn (x := a1) rfl rfl ?_
        refine z_imul rfl jk_90 rfl (by omega) (fun v14 ev14 => ?_)
        refine z_iadd rfl jk_20 rfl (by omega) (fun v15 ev15 => ?_)
        refine x_iret rfl rfl ?_
        show jX m_X12_isKnown 11 0 0 9 [(0, .ref 125), (1, .int a1), (2, .int a2)] [.int v15, .ref 126] _ 0 0 _
        refine x_iconst (v := 3) rfl ki_3 ?_
        refine z_iadd rfl rfl jk_3 (by omega) (fun v16 ev16 => ?_)
        refine z_iald (N := 50660) rfl J rfl sg_126_20_18020_90_3_4 rfl (by omega) (fun v17 qv17 ev17 => ?_)
        try rw [vrd (jmb_w w1 qv17 rfl) (show ((20 + (90 * a1.toInt)) + 3) = v16.toInt from by omega)] at D
        refine x_iloadn (x := a2) rfl rfl ?_
        refine x_icgt (tgt := 20) rfl rfl (ti_gt rfl rfl ⟨fun c18 => ?_, fun c18 => ?_⟩)
        ·
          rw [if_pos (by omega)] at D
          refine x_iconst (v := 0) rfl ki_0 ?_
          refine x_zret rfl rfl (by decide) ?_
          show jX m_X12_beyond 12 0 0 35 [(0, .ref 125), (1, .int a1), (2, .int a2)] [.int 0] _ 0 0 _
          refine x_ifne (tgt := 40) rfl rfl (ti_ne jk_0 jk_0 (bn_f (by omega) ?_))
          exact jX.sub jsb_n (ct_X12_beyond_r125d_38 hD hQ  h J Sm D)
        ·
          rw [if_neg (by omega)] at D
          refine x_iconst (v := 1) rfl ki_1 ?_
          refine x_goto (tgt := 21) rfl rfl ?_
          refine x_zret rfl rfl (by decide) ?_
          show jX m_X12_beyond 12 0 0 35 [(0, .ref 125), (1, .int a1), (2, .int a2)] [.int 1] _ 0 0 _
          refine x_ifne (tgt := 40) rfl rfl (ti_ne jk_1 jk_0 (bn_t (by omega) ?_))
          refine x_aloadn (x := 125) rfl rfl ?_
          refine x_iloadn (x := a2) rfl rfl ?_
          refine x_inv (N := m_X12_find) (As := [.int a2]) (b := 125) (st := []) (dx9 := 8) (mc := 0) (ms := 0) (host := "") 12 rfl t_X12_find ⟨Or.inl q_12_393, i_X12_find.1, i_X12_find.2⟩ ⟨by decide, rfl⟩ (congrArg Prod.fst (J.1.1 125 (12, 92) rfl)) rfl (by decide) rfl rfl ⟨by decide, by decide⟩ (sf_X12_find_r125d (jr_of rfl (by omega)) hD J rfl  (fun h J S19 X20 => ?_))
          have Sm := jSm_tr rfl Sm S19
          rw [X20] at D
          show jX m_X12_beyond 12 0 0 45 [(0, .ref 125), (1, .int a1), (2, .int a2)] [] _ 0 0 _
          refine x_aloadn (x := 125) rfl rfl ?_
          refine x_iconst (v := 4) rfl ki_4 ?_
          refine x_iconst (v := 0) rfl ki_0 ?_
          refine x_aloadn (x := 125) rfl rfl ?_
          refine z_getR (N := 92) (b := 139) 12 29 rfl f_12_72 rfl J rfl 16029 ⟨rfl, rfl⟩ rfl ?_
          refine x_iconst (v := 3) rfl ki_3 ?_
          refine x_iloadn (x := a1) rfl rfl ?_
          refine z_imul rfl jk_3 rfl (by omega) (fun v21 ev21 => ?_)
          refine z_iald (N := 600) rfl J rfl sg_139_0_600_1_0_1 rfl (by omega) (fun v22 qv22 ev22 => ?_)
          try rw [vrd qv22 (show (3 * a1.toInt) = v21.toInt from by omega)] at D
          refine x_aloadn (x := 125) rfl rfl ?_
          refine x_iloadn (x := a1) rfl rfl ?_
          refine x_inv (N := m_X12_dayOf) (As := [.int a1]) (b := 125) (st := [.int v22, .int 0, .int 4, .ref 125]) (dx9 := 11) (mc := 0) (ms := 0) (host := "") 12 rfl t_X12_dayOf ⟨Or.inl q_12_335, i_X12_dayOf.1, i_X12_dayOf.2⟩ ⟨by decide, rfl⟩ (congrArg Prod.fst (J.1.1 125 (12, 92) rfl)) rfl (by decide) rfl rfl ⟨by decide, by decide⟩ (jC.of rfl k_X12_dayOf rfl ?_)
          show jX m_X12_dayOf 11 0 0 0 [(0, .ref 125), (1, .int a1)] [] _ 0 0 _
          refine x_aloadn (x := 125) rfl rfl ?_
          refine z_getR (N := 92) (b := 126) 12 2 rfl f_12_8 rfl J rfl 16002 ⟨rfl, rfl⟩ rfl ?_
          refine x_aloadn (x := 125) rfl rfl ?_
          refine x_iloadn (x := a1) rfl rfl ?_
          refine x_inv (N := m_X12_at) (As := [.int a1]) (b := 125) (st := [.ref 126]) (dx9 := 10) (mc := 0) (ms := 0) (host := "") 12 rfl t_X12_at ⟨Or.inl q_12_254, i_X12_at.1, i_X12_at.2⟩ ⟨by decide, rfl⟩ (congrArg Prod.fst (J.1.1 125 (12, 92) rfl)) rfl (by decide) rfl rfl ⟨by decide, by decide⟩ (jC.of rfl k_X12_at rfl ?_)
          show jX m_X12_at 10 0 0 0 [(0, .ref 125), (1, .int a1)] [] _ 0 0 _
          refine x_bipush (v := 20) rfl kb_20 ?_
          refine x_bipush (v := 90) rfl kb_90 ?_
          refine x_iloadn (x := a1) rfl rfl ?_
          refine z_imul rfl jk_90 rfl (by omega) (fun v23 ev23 => ?_)
          refine z_iadd rfl jk_20 rfl (by omega) (fun v24 ev24 => ?_)
          refine x_iret rfl rfl ?_
          show jX m_X12_dayOf 11 0 0 9 [(0, .ref 125), (1, .int a1)] [.int v24, .ref 126] _ 0 0 _
          refine x_iconst (v := 2) rfl ki_2 ?_
          refine z_iadd rfl rfl jk_2 (by omega) (fun v25 ev25 => ?_)
          refine z_iald (N := 50660) rfl J rfl sg_126_20_18020_90_2_3 rfl (by omega) (fun v26 qv26 ev26 => ?_)
          try rw [vrd (jmb_w w1 (jmb_c S19 qv26 rfl) rfl) (show ((20 + (90 * a1.toInt)) + 2) = v25.toInt from by omega)] at D
          refine x_iret rfl rfl ?_
          show jX m_X12_beyond 12 0 0 61 [(0, .ref 125), (1, .int a1), (2, .int a2)] [.int v26, .int v22, .int 0, .int 4, .ref 125] _ 0 0 _
          refine x_inv (N := m_X12_findCount) (As := [.int 4, .int 0, .int v22, .int v26]) (b := 125) (st := []) (dx9 := 11) (mc := 0) (ms := 0) (host := "") 12 rfl t_X12_findCount ⟨Or.inl q_12_765, i_X12_findCount.1, i_X12_findCount.2⟩ ⟨by decide, rfl⟩ (congrArg Prod.fst (J.1.1 125 (12, 92) rfl)) rfl (by decide) rfl rfl ⟨by decide, by decide⟩ (sf_X12_findCount_r125d (jr_of jk_4 (by omega)) (jr_of jk_0 (by omega)) (jr_of rfl (by omega)) (jr_of rfl (by omega)) hD J rfl  (fun h J S27 X28 => ?_))
          have Sm := jSm_tr rfl Sm S27
          try rw [jk_4] at X28
          try rw [jk_0] at X28
          rw [X28] at D
          show jX m_X12_beyond 12 0 0 64 [(0, .ref 125), (1, .int a1), (2, .int a2)] [] _ 0 0 _
          refine x_aloadn (x := 125) rfl rfl ?_
          refine z_getLQ (N := 92) 12 64 rfl f_12_755 rfl J rfl (fun v29 qv29 => ?_)
          have ev29 := jfullL v29
          try rw [vrfL qv29] at D
          refine x_lconst (v := 0) rfl kl_0 ?_
          refine z_lcmp rfl rfl jkl_0 (fun v30 ev30 => ?_)
          refine x_ifge (tgt := 77) rfl rfl (ti_ge rfl jk_0 ⟨fun c31 => ?_, fun c31 => ?_⟩)
          ·
            rw [if_pos (by omega)] at D
            refine x_aloadn (x := 125) rfl rfl ?_
            refine z_getLQ (N := 92) 12 64 rfl f_12_755 rfl J rfl (fun v32 qv32 => ?_)
            have ev32 := jfullL v32
            try rw [show v29.toInt = v32.toInt from ((vrfL qv29).symm.trans (vrfL qv32))] at D
            try rw [vrfL qv32] at D
            exact jX.sub (jsb_c rfl (jsb_c rfl jsb_n)) (ct_X12_beyond_r125d_81 hD hQ  a1 v32 h (jr_of rfl (by omega)) J Sm D)
          ·
            rw [if_neg (by omega)] at D
            refine x_lconst (v := 0) rfl kl_0 ?_
            refine x_goto (tgt := 81) rfl rfl ?_
            exact jX.sub (jsb_c rfl (jsb_c rfl jsb_n)) (ct_X12_beyond_r125d_5000081 hD hQ  a1 h (jr_of rfl (by omega)) J Sm D)
def fp_X12_clear_r125d : jFp := [(125, 0, 1), (125, 36, 37)]
set_option maxRecDepth 100000 in
set_option maxHeartbeats 4000000 in
theorem sf_X12_clear_r125d {Dy : jH → Prop} {h : jH} {Q : Option Value → jH → Prop} {dr : (Int × jW)} (hD : jDk Dy) (J : jJ jSgM Dy h) (D : d_X12_clear_r125d (vw h) = dr) (hQ : ∀ (v : Int32) hx9, 0 ≤ v.toInt ∧ v.toInt ≤ 9 → jJ jSgM Dy hx9 → jSm fp_X12_clear_r125d h hx9 → dr.1 = v.toInt → dr.2 = vw hx9 → Q (some (.int v)) hx9) : jC m_X12_clear 1 0 0 [.ref 125] h Q := by
  refine jC.of rfl k_X12_clear rfl ?_
  have Sm := jSm_rf fp_X12_clear_r125d h
  show jX m_X12_clear 1 0 0 0 [(0, .ref 125)] [] _ 0 0 _
  unfold d_X12_clear_r125d at D
  refine x_aloadn (x := 125) rfl rfl ?_
  refine x_iconst (v := 0) rfl ki_0 ?_
  refine z_putI (N := 92) (w := 0) 12 0 rfl f_12_180 rfl (jfin_no TX12 RX12 92 rfl rfl) hD J Sm rfl rfl jk_0 (pw_125_0 (by omega)) rfl (fun h w1 J Sm => ?_)
  rw [vwf w1 (show 0 = (0 : Int32).toInt from by have := jk_0; omega)] at D
  refine x_aloadn (x := 125) rfl rfl ?_
  refine z_getI (N := 92) 12 36 rfl f_12_204 rfl J rfl sg_125_36_37_1_0_1 (fun v2 qv2 ev2 => ?_)
  try rw [vrf (jmb_w w1 qv2 rfl)] at D
  refine x_istoren (lsx9 := [(1, .int v2), (0, .ref 125)]) rfl rfl rfl ?_
  refine x_aloadn (x := 125) rfl rfl ?_
  refine x_iconst (v := 0) rfl ki_0 ?_
  refine z_putI (N := 92) (w := 0) 12 36 rfl f_12_204 rfl (jfin_no TX12 RX12 92 rfl rfl) hD J Sm rfl rfl jk_0 (pw_125_36 (by omega)) rfl (fun h w3 J Sm => ?_)
  rw [vwf w3 (show 0 = (0 : Int32).toInt from by have := jk_0; omega)] at D
  refine x_iloadn (x := v2) rfl rfl ?_
  refine x_iret rfl rfl ?_
  exact hQ _ _ (jr_of rfl (by omega)) J Sm ((congrArg Prod.fst D).symm.trans (show v2.toInt = v2.toInt from by omega)) (congrArg Prod.snd D).symm
def fp_X12_close__r125d : jFp := [(125, 0, 1), (125, 1, 2), (126, 14, 15), (126, 49360, 49520)]
set_option maxRecDepth 100000 in
set_option maxHeartbeats 4000000 in
theorem ct_X12_close__r125d_32 {Dy : jH → Prop} {h0 : jH} {Q : Option Value → jH → Prop} {dr : (Int × jW)} (hD : jDk Dy) (hQ : ∀ (v : Int32) hx9, jJ jSgM Dy hx9 → jSm fp_X12_close__r125d h0 hx9 → dr.1 = v.toInt → dr.2 = vw hx9 → Q (some (.int v)) hx9) : ∀ (h : jH), jJ jSgM Dy h → jSm fp_X12_close__r125d h0 h → d_X12_close__r125d_32  (vw h) = dr → jX m_X12_close_ 3 0 0 32 [(0, .ref 125)] [] h 0 0 Q := by
  intro  h    J Sm D
  unfold d_X12_close__r125d_32 at D
  refine x_aloadn (x := 125) rfl rfl ?_
  refine x_iconst (v := (-1)) rfl ki_m1 ?_
  refine x_inv (N := m_X12_told) (As := [.int (-1)]) (b := 125) (st := []) (dx9 := 1) (mc := 0) (ms := 0) (host := "") 12 rfl t_X12_told ⟨Or.inl q_12_197, i_X12_told.1, i_X12_told.2⟩ ⟨by decide, rfl⟩ (congrArg Prod.fst (J.1.1 125 (12, 92) rfl)) rfl (by decide) rfl rfl ⟨by decide, by decide⟩ (sf_X12_told_r125d  hD J rfl  (fun v4 h J S1 X2 X3 => ?_))
  have ev4 := jfull v4
  have Sm := jSm_tr rfl Sm S1
  try rw [jk_m1] at X2
  try rw [jk_m1] at X3
  try rw [X2] at D
  try rw [X3] at D
  show jX m_X12_close_ 3 0 0 37 [(0, .ref 125)] [.int v4] _ 0 0 _
  refine x_iret rfl rfl ?_
  exact hQ _ _ J Sm ((congrArg Prod.fst D).symm.trans X2) ((congrArg Prod.snd D).symm.trans X3)
set_option maxRecDepth 100000 in
set_option maxHeartbeats 4000000 in
theorem ct_X12_close__r125d_127 {Dy : jH → Prop} {h0 : jH} {Q : Option Value → jH → Prop} {dr : (Int × jW)} (hD : jDk Dy) (hQ : ∀ (v : Int32) hx9, jJ jSgM Dy hx9 → jSm fp_X12_close__r125d h0 hx9 → dr.1 = v.toInt → dr.2 = vw hx9 → Q (some (.int v)) hx9) : ∀ (h : jH), jJ jSgM Dy h → jSm fp_X12_close__r125d h0 h → d_X12_close__r125d_127  (vw h) = dr → jX m_X12_close_ 3 0 0 127 [(0, .ref 125)] [] h 0 0 Q := by
  intro  h    J Sm D
  unfold d_X12_close__r125d_127 at D
  refine x_aloadn (x := 125) rfl rfl ?_
  refine x_bipush (v := (-3)) rfl kb_m3 ?_
  refine x_inv (N := m_X12_told) (As := [.int (-3)]) (b := 125) (st := []) (dx9 := 1) (mc := 0) (ms := 0) (host := "") 12 rfl t_X12_told ⟨Or.inl q_12_197, i_X12_told.1, i_X12_told.2⟩ ⟨by decide, rfl⟩ (congrArg Prod.fst (J.1.1 125 (12, 92) rfl)) rfl (by decide) rfl rfl ⟨by decide, by decide⟩ (sf_X12_told_r125d  hD J rfl  (fun v4 h J S1 X2 X3 => ?_))
  have ev4 := jfull v4
  have Sm := jSm_tr rfl Sm S1
  try rw [jk_m3] at X2
  try rw [jk_m3] at X3
  try rw [X2] at D
  try rw [X3] at D
  show jX m_X12_close_ 3 0 0 133 [(0, .ref 125)] [.int v4] _ 0 0 _
  refine x_iret rfl rfl ?_
  exact hQ _ _ J Sm ((congrArg Prod.fst D).symm.trans X2) ((congrArg Prod.snd D).symm.trans X3)
set_option maxRecDepth 100000 in
set_option maxHeartbeats 4000000 in
theorem ct_X12_close__r125d_115 {Dy : jH → Prop} {h0 : jH} {Q : Option Value → jH → Prop} {dr : (Int × jW)} (hD : jDk Dy) (hQ : ∀ (v : Int32) hx9, jJ jSgM Dy hx9 → jSm fp_X12_close__r125d h0 hx9 → dr.1 = v.toInt → dr.2 = vw hx9 → Q (some (.int v)) hx9) : ∀ (l1 : Int32) (l2 : Int32) (l3 : Int32) (l4 : Int32) (g0 : Int32) (h : jH), 0 ≤ l1.toInt ∧ l1.toInt ≤ 3 → 0 ≤ l2.toInt ∧ l2.toInt ≤ 399 → 0 ≤ l4.toInt ∧ l4.toInt ≤ 146399 → 0 ≤ g0.toInt ∧ g0.toInt ≤ 40 → jiv h 126 (14 : Int32).toNatClampNeg = g0 → jJ jSgM Dy h → jSm fp_X12_close__r125d h0 h → d_X12_close__r125d_115  l1.toInt l2.toInt l3.toInt l4.toInt (vw h) = dr → jX m_X12_close_ 3 0 0 115 [(0, .ref 125), (1, .int l1), (2, .int l2), (3, .int l3), (4, .int l4)] [] h 0 0 Q := by
  intro l1 l2 l3 l4 g0 h y0 y1 y2 y3 z0  J Sm D
  have el3 := jfull l3
  unfold d_X12_close__r125d_115 at D
  try rw [vrn (n := 14) (by decide) z0] at D
  refine x_iloadn (x := l3) rfl rfl ?_
  refine x_aloadn (x := 125) rfl rfl ?_
  refine x_iloadn (x := l1) rfl rfl ?_
  refine x_iloadn (x := l2) rfl rfl ?_
  refine x_iload (x := l4) rfl rfl ?_
  refine x_inv (N := m_X12_balanceOf) (As := [.int l1, .int l2, .int l4]) (b := 125) (st := [.int l3]) (dx9 := 2) (mc := 0) (ms := 0) (host := "") 12 rfl t_X12_balanceOf ⟨Or.inl q_12_848, i_X12_balanceOf.1, i_X12_balanceOf.2⟩ ⟨by decide, rfl⟩ (congrArg Prod.fst (J.1.1 125 (12, 92) rfl)) rfl (by decide) rfl rfl ⟨by decide, by decide⟩ (sf_X12_balanceOf_r125d (jr_of rfl (by omega)) (jr_of rfl (by omega)) (jr_of rfl (by omega)) hD J rfl  (fun v4 h J S1 X2 X3 => ?_))
  have ev4 := jfull v4
  have Sm := jSm_tr rfl Sm S1
  try rw [X2] at D
  try rw [← X3] at D
  show jX m_X12_close_ 3 0 0 124 [(0, .ref 125), (1, .int l1), (2, .int l2), (3, .int l3), (4, .int l4)] [.int v4, .int l3] _ 0 0 _
  refine x_iceq (tgt := 134) rfl rfl (ti_eq rfl rfl ⟨fun c5 => ?_, fun c5 => ?_⟩)
  ·
    rw [if_pos (by omega)] at D
    refine x_aloadn (x := 125) rfl rfl ?_
    refine z_getR (N := 92) (b := 126) 12 2 rfl f_12_8 rfl J rfl 16002 ⟨rfl, rfl⟩ rfl ?_
    refine x_bipush (v := 14) rfl kb_14 ?_
    refine z_ialdM (N := 50660) (v := g0) rfl J rfl jk_14 (by omega) (jmc S1 rfl z0) ?_
    refine x_bipush (v := 40) rfl kb_40 ?_
    refine x_icne (tgt := 153) rfl rfl (ti_ne rfl jk_40 ⟨fun c6 => ?_, fun c6 => ?_⟩)
    ·
      rw [if_neg (by omega)] at D
      refine x_aloadn (x := 125) rfl rfl ?_
      refine x_ldcw (v := 49360) rfl z_12_844 ?_
      refine x_iconst (v := 4) rfl ki_4 ?_
      refine x_aloadn (x := 125) rfl rfl ?_
      refine z_getR (N := 92) (b := 126) 12 2 rfl f_12_8 rfl J rfl 16002 ⟨rfl, rfl⟩ rfl ?_
      refine x_bipush (v := 14) rfl kb_14 ?_
      refine z_ialdM (N := 50660) (v := g0) rfl J rfl jk_14 (by omega) (jmc S1 rfl z0) ?_
      refine z_imul rfl jk_4 rfl (by omega) (fun v7 ev7 => ?_)
      refine z_iadd rfl jk_49360 rfl (by omega) (fun v8 ev8 => ?_)
      refine x_iloadn (x := l1) rfl rfl ?_
      refine x_iloadn (x := l2) rfl rfl ?_
      refine x_iloadn (x := l3) rfl rfl ?_
      refine x_iload (x := l4) rfl rfl ?_
      refine x_inv (N := m_X12_addFour) (As := [.int v8, .int l1, .int l2, .int l3, .int l4]) (b := 125) (st := []) (dx9 := 2) (mc := 0) (ms := 0) (host := "") 12 rfl t_X12_addFour ⟨Or.inl q_12_814, i_X12_addFour.1, i_X12_addFour.2⟩ ⟨by decide, rfl⟩ (congrArg Prod.fst (J.1.1 125 (12, 92) rfl)) rfl (by decide) rfl rfl ⟨by decide, by decide⟩ (jC.of rfl k_X12_addFour rfl ?_)
      show jX m_X12_addFour 2 0 0 0 [(0, .ref 125), (1, .int v8), (2, .int l1), (3, .int l2), (4, .int l3), (5, .int l4)] [] _ 0 0 _
      refine x_aloadn (x := 125) rfl rfl ?_
      refine z_getR (N := 92) (b := 126) 12 2 rfl f_12_8 rfl J rfl 16002 ⟨rfl, rfl⟩ rfl ?_
      refine x_iloadn (x := v8) rfl rfl ?_
      refine x_iloadn (x := l1) rfl rfl ?_
      refine z_iast (N := 50660) (l := 49360) (u := 49520) (w := l1.toInt) rfl hD J Sm rfl rfl rfl (by omega) rfl (wr_126_49360 (by omega) (fun q1 q2 q3 q4 => by omega) (fun q1 q2 q3 q4 => by omega) (fun q1 q2 q3 q4 => by omega)) rfl (fun h w9 J Sm => ?_)
      rw [vww w9 (show (49360 + (4 * g0.toInt)) = v8.toInt from by omega) (show l1.toInt = l1.toInt from by omega)] at D
      refine x_aloadn (x := 125) rfl rfl ?_
      refine z_getR (N := 92) (b := 126) 12 2 rfl f_12_8 rfl J rfl 16002 ⟨rfl, rfl⟩ rfl ?_
      refine x_iloadn (x := v8) rfl rfl ?_
      refine x_iconst (v := 1) rfl ki_1 ?_
      refine z_iadd rfl rfl jk_1 (by omega) (fun v10 ev10 => ?_)
      refine x_iloadn (x := l2) rfl rfl ?_
      refine z_iast (N := 50660) (l := 49360) (u := 49520) (w := l2.toInt) rfl hD J Sm rfl rfl rfl (by omega) rfl (wr_126_49360 (by omega) (fun q1 q2 q3 q4 => by omega) (fun q1 q2 q3 q4 => by omega) (fun q1 q2 q3 q4 => by omega)) rfl (fun h w11 J Sm => ?_)
      rw [vww w11 (show ((49360 + (4 * g0.toInt)) + 1) = v10.toInt from by omega) (show l2.toInt = l2.toInt from by omega)] at D
      refine x_aloadn (x := 125) rfl rfl ?_
      refine z_getR (N := 92) (b := 126) 12 2 rfl f_12_8 rfl J rfl 16002 ⟨rfl, rfl⟩ rfl ?_
      refine x_iloadn (x := v8) rfl rfl ?_
      refine x_iconst (v := 2) rfl ki_2 ?_
      refine z_iadd rfl rfl jk_2 (by omega) (fun v12 ev12 => ?_)
      refine x_iload (x := l3) rfl rfl ?_
      refine z_iast (N := 50660) (l := 49360) (u := 49520) (w := l3.toInt) rfl hD J Sm rfl rfl rfl (by omega) rfl (wr_126_49360 (by omega) (fun q1 q2 q3 q4 => by omega) (fun q1 q2 q3 q4 => by omega) (fun q1 q2 q3 q4 => by omega)) rfl (fun h w13 J Sm => ?_)
      rw [vww w13 (show ((49360 + (4 * g0.toInt)) + 2) = v12.toInt from by omega) (show l3.toInt = l3.toInt from by omega)] at D
      refine x_aloadn (x := 125) rfl rfl ?_
      refine z_getR (N := 92) (b := 126) 12 2 rfl f_12_8 rfl J rfl 16002 ⟨rfl, rfl⟩ rfl ?_
      refine x_iloadn (x := v8) rfl rfl ?_
      refine x_iconst (v := 3) rfl ki_3 ?_
      refine z_iadd rfl rfl jk_3 (by omega) (fun v14 ev14 => ?_)
      refine x_iload (x := l4) rfl rfl ?_
      refine z_iast (N := 50660) (l := 49360) (u := 49520) (w := l4.toInt) rfl hD J Sm rfl rfl rfl (by omega) rfl (wr_126_49360 (by omega) (fun q1 q2 q3 q4 => by omega) (fun q1 q2 q3 q4 => by omega) (fun q1 q2 q3 q4 => by omega)) rfl (fun h w15 J Sm => ?_)
      rw [vww w15 (show ((49360 + (4 * g0.toInt)) + 3) = v14.toInt from by omega) (show l4.toInt = l4.toInt from by omega)] at D
      refine x_vret rfl rfl ?_
      show jX m_X12_close_ 3 0 0 175 [(0, .ref 125), (1, .int l1), (2, .int l2), (3, .int l3), (4, .int l4)] [] _ 0 0 _
      refine x_aloadn (x := 125) rfl rfl ?_
      refine z_getR (N := 92) (b := 126) 12 2 rfl f_12_8 rfl J rfl 16002 ⟨rfl, rfl⟩ rfl ?_
      refine x_bipush (v := 14) rfl kb_14 ?_
      refine x_dup2 rfl rfl rfl ?_
      refine z_ialdM (N := 50660) (v := g0) rfl J rfl jk_14 (by omega) (jmo2 w15 rfl jk_14 (by omega) (jmo2 w13 rfl jk_14 (by omega) (jmo2 w11 rfl jk_14 (by omega) (jmo2 w9 rfl jk_14 (by omega) (jmc S1 rfl z0))))) ?_
      refine x_iconst (v := 1) rfl ki_1 ?_
      refine z_iadd rfl rfl jk_1 (by omega) (fun v16 ev16 => ?_)
      refine z_iast (N := 50660) (l := 14) (u := 15) (w := v16.toInt) rfl hD J Sm rfl rfl jk_14 (by omega) rfl (wr_126_14 (by omega) (fun q1 q2 q3 q4 => by omega)) rfl (fun h w17 J Sm => ?_)
      rw [vwn (n := 14) (by decide) w17 (show (g0.toInt + 1) = v16.toInt from by omega)] at D
      refine x_aloadn (x := 125) rfl rfl ?_
      refine x_iconst (v := 0) rfl ki_0 ?_
      refine x_inv (N := m_X12_told) (As := [.int 0]) (b := 125) (st := []) (dx9 := 1) (mc := 0) (ms := 0) (host := "") 12 rfl t_X12_told ⟨Or.inl q_12_197, i_X12_told.1, i_X12_told.2⟩ ⟨by decide, rfl⟩ (congrArg Prod.fst (J.1.1 125 (12, 92) rfl)) rfl (by decide) rfl rfl ⟨by decide, by decide⟩ (sf_X12_told_r125d  hD J rfl  (fun v21 h J S18 X19 X20 => ?_))
      have ev21 := jfull v21
      have Sm := jSm_tr rfl Sm S18
      try rw [jk_0] at X19
      try rw [jk_0] at X20
      try rw [X19] at D
      try rw [X20] at D
      show jX m_X12_close_ 3 0 0 191 [(0, .ref 125), (1, .int l1), (2, .int l2), (3, .int l3), (4, .int l4)] [.int v21] _ 0 0 _
      refine x_iret rfl rfl ?_
      exact hQ _ _ J Sm ((congrArg Prod.fst D).symm.trans X19) ((congrArg Prod.snd D).symm.trans X20)
    ·
      rw [if_pos (by omega)] at D
      refine x_aloadn (x := 125) rfl rfl ?_
      refine x_bipush (v := (-5)) rfl kb_m5 ?_
      refine x_inv (N := m_X12_told) (As := [.int (-5)]) (b := 125) (st := []) (dx9 := 1) (mc := 0) (ms := 0) (host := "") 12 rfl t_X12_told ⟨Or.inl q_12_197, i_X12_told.1, i_X12_told.2⟩ ⟨by decide, rfl⟩ (congrArg Prod.fst (J.1.1 125 (12, 92) rfl)) rfl (by decide) rfl rfl ⟨by decide, by decide⟩ (sf_X12_told_r125d  hD J rfl  (fun v25 h J S22 X23 X24 => ?_))
      have ev25 := jfull v25
      have Sm := jSm_tr rfl Sm S22
      try rw [jk_m5] at X23
      try rw [jk_m5] at X24
      try rw [X23] at D
      try rw [X24] at D
      show jX m_X12_close_ 3 0 0 152 [(0, .ref 125), (1, .int l1), (2, .int l2), (3, .int l3), (4, .int l4)] [.int v25] _ 0 0 _
      refine x_iret rfl rfl ?_
      exact hQ _ _ J Sm ((congrArg Prod.fst D).symm.trans X23) ((congrArg Prod.snd D).symm.trans X24)
  ·
    rw [if_neg (by omega)] at D
    exact jX.sub (jsb_c rfl jsb_n) (ct_X12_close__r125d_127 hD hQ  h J Sm D)
set_option maxRecDepth 100000 in
set_option maxHeartbeats 4000000 in
theorem ct_X12_close__r125d_93 {Dy : jH → Prop} {h0 : jH} {Q : Option Value → jH → Prop} {dr : (Int × jW)} {K44 : Int → Int → Int → Int → Int → Int → jW → (Int × jW)} {R44 : Int} (hD : jDk Dy) (hQ : ∀ (v : Int32) hx9, jJ jSgM Dy hx9 → jSm fp_X12_close__r125d h0 hx9 → dr.1 = v.toInt → dr.2 = vw hx9 → Q (some (.int v)) hx9) (k44 : ∀ (l1 : Int32) (l2 : Int32) (l3 : Int32) (l4 : Int32) (l5 : Int32) (l6 : Int32) (h : jH), 40 - l6.toInt < R44 → 0 ≤ l1.toInt ∧ l1.toInt ≤ 3 → 0 ≤ l2.toInt ∧ l2.toInt ≤ 399 → 0 ≤ l4.toInt ∧ l4.toInt ≤ 146399 → (-1) ≤ l5.toInt ∧ l5.toInt ≤ 399 → 0 ≤ l6.toInt ∧ l6.toInt ≤ 40 → jJ jSgM Dy h → jSm fp_X12_close__r125d h0 h → K44 l1.toInt l2.toInt l3.toInt l4.toInt l5.toInt l6.toInt (vw h) = dr → jX m_X12_close_ 3 0 0 44 [(0, .ref 125), (1, .int l1), (2, .int l2), (3, .int l3), (4, .int l4), (5, .int l5), (6, .int l6)] [] h 0 0 Q) : ∀ (l1 : Int32) (l2 : Int32) (l3 : Int32) (l4 : Int32) (l6 : Int32) (s0 : Int32) (h : jH), 0 ≤ l1.toInt ∧ l1.toInt ≤ 3 → 0 ≤ l2.toInt ∧ l2.toInt ≤ 399 → 0 ≤ l4.toInt ∧ l4.toInt ≤ 146399 → 0 ≤ l6.toInt ∧ l6.toInt ≤ 39 → (-1) ≤ s0.toInt ∧ s0.toInt ≤ 399 → 40 - l6.toInt ≤ R44 → jJ jSgM Dy h → jSm fp_X12_close__r125d h0 h → d_X12_close__r125d_93 K44  l1.toInt l2.toInt l3.toInt l4.toInt l6.toInt s0.toInt (vw h) = dr → jX m_X12_close_ 3 0 0 93 [(0, .ref 125), (1, .int l1), (2, .int l2), (3, .int l3), (4, .int l4), (6, .int l6)] [.int s0] h 0 0 Q := by
  intro l1 l2 l3 l4 l6 s0 h y0 y1 y2 y3 y4  m44 J Sm D
  have el3 := jfull l3
  unfold d_X12_close__r125d_93 at D
  refine x_istore (lsx9 := [(5, .int s0), (0, .ref 125), (1, .int l1), (2, .int l2), (3, .int l3), (4, .int l4), (6, .int l6)]) rfl rfl rfl ?_
  refine z_iinc (x := l6) (lsx9 := fun v1 => [(6, .int v1), (5, .int s0), (0, .ref 125), (1, .int l1), (2, .int l2), (3, .int l3), (4, .int l4)]) rfl rfl rfl jko_1 (by omega) rfl (fun _ => rfl) (fun v1 ev1 => ?_)
  refine x_goto (tgt := 44) rfl rfl ?_
  try rw [show (l6.toInt + 1) = v1.toInt from by omega] at D
  exact jX.sub (jsb_c rfl (jsb_c rfl (jsb_c rfl (jsb_c rfl (jsb_c rfl (jsb_c rfl (jsb_c rfl jsb_n))))))) (k44 l1 l2 l3 l4 s0 v1 h (by omega) (jr_of rfl (by omega)) (jr_of rfl (by omega)) (jr_of rfl (by omega)) (jr_of rfl (by omega)) (jr_of rfl (by omega)) J Sm D)
set_option maxRecDepth 100000 in
set_option maxHeartbeats 4000000 in
theorem ct_X12_close__r125d_44 {Dy : jH → Prop} {h0 : jH} {Q : Option Value → jH → Prop} {dr : (Int × jW)} (hD : jDk Dy) (hQ : ∀ (v : Int32) hx9, jJ jSgM Dy hx9 → jSm fp_X12_close__r125d h0 hx9 → dr.1 = v.toInt → dr.2 = vw hx9 → Q (some (.int v)) hx9) : ∀ r : Nat, ∀ (l1 : Int32) (l2 : Int32) (l3 : Int32) (l4 : Int32) (l5 : Int32) (l6 : Int32) (h : jH), 40 - l6.toInt < (r : Int) → 0 ≤ l1.toInt ∧ l1.toInt ≤ 3 → 0 ≤ l2.toInt ∧ l2.toInt ≤ 399 → 0 ≤ l4.toInt ∧ l4.toInt ≤ 146399 → (-1) ≤ l5.toInt ∧ l5.toInt ≤ 399 → 0 ≤ l6.toInt ∧ l6.toInt ≤ 40 → jJ jSgM Dy h → jSm fp_X12_close__r125d h0 h → d_X12_close__r125d_44 r l1.toInt l2.toInt l3.toInt l4.toInt l5.toInt l6.toInt (vw h) = dr → jX m_X12_close_ 3 0 0 44 [(0, .ref 125), (1, .int l1), (2, .int l2), (3, .int l3), (4, .int l4), (5, .int l5), (6, .int l6)] [] h 0 0 Q := by
  intro r
  induction r with
  | zero =>
    intro l1 l2 l3 l4 l5 l6 h hm y0 y1 y2 y3 y4   J Sm D
    exfalso
    have el3 := jfull l3
    omega
  | succ r ih =>
    intro l1 l2 l3 l4 l5 l6 h hm y0 y1 y2 y3 y4   J Sm D
    have el3 := jfull l3
    rw [d_X12_close__r125d_44.eq_2] at D
    refine x_iload (x := l6) rfl rfl ?_
    refine x_aloadn (x := 125) rfl rfl ?_
    refine z_getR (N := 92) (b := 126) 12 2 rfl f_12_8 rfl J rfl 16002 ⟨rfl, rfl⟩ rfl ?_
    refine x_bipush (v := 14) rfl kb_14 ?_
    refine z_iald (N := 50660) rfl J rfl sg_126_14_15_1_0_1 jk_14 (by omega) (fun v1 qv1 ev1 => ?_)
    try rw [vrn (n := 14) (by decide) qv1] at D
    refine x_icge (tgt := 101) rfl rfl (ti_ge rfl rfl ⟨fun c2 => ?_, fun c2 => ?_⟩)
    ·
      rw [if_pos (by omega)] at D
      refine x_iload (x := l5) rfl rfl ?_
      refine x_iconst (v := (-1)) rfl ki_m1 ?_
      refine x_iceq (tgt := 115) rfl rfl (ti_eq rfl jk_m1 ⟨fun c3 => ?_, fun c3 => ?_⟩)
      ·
        rw [if_pos (by omega)] at D
        exact jX.sub (jsb_c rfl (jsb_c rfl (jsb_c rfl (jsb_c rfl (jsb_c rfl jsb_n))))) (ct_X12_close__r125d_115 hD hQ  l1 l2 l3 l4 v1 h (jr_of rfl (by omega)) (jr_of rfl (by omega)) (jr_of rfl (by omega)) (jr_of rfl (by omega)) qv1 J Sm D)
      ·
        rw [if_neg (by omega)] at D
        refine x_iloadn (x := l2) rfl rfl ?_
        refine x_iload (x := l5) rfl rfl ?_
        refine x_iconst (v := 1) rfl ki_1 ?_
        refine z_iadd rfl rfl jk_1 (by omega) (fun v4 ev4 => ?_)
        refine x_icne (tgt := 127) rfl rfl (ti_ne rfl rfl ⟨fun c5 => ?_, fun c5 => ?_⟩)
        ·
          rw [if_neg (by omega)] at D
          exact jX.sub (jsb_c rfl jsb_n) (ct_X12_close__r125d_127 hD hQ  h J Sm D)
        ·
          rw [if_pos (by omega)] at D
          exact jX.sub (jsb_c rfl (jsb_c rfl (jsb_c rfl (jsb_c rfl (jsb_c rfl jsb_n))))) (ct_X12_close__r125d_115 hD hQ  l1 l2 l3 l4 v1 h (jr_of rfl (by omega)) (jr_of rfl (by omega)) (jr_of rfl (by omega)) (jr_of rfl (by omega)) qv1 J Sm D)
    ·
      rw [if_neg (by omega)] at D
      refine x_aloadn (x := 125) rfl rfl ?_
      refine z_getR (N := 92) (b := 126) 12 2 rfl f_12_8 rfl J rfl 16002 ⟨rfl, rfl⟩ rfl ?_
      refine x_ldcw (v := 49360) rfl z_12_844 ?_
      refine x_iconst (v := 4) rfl ki_4 ?_
      refine x_iload (x := l6) rfl rfl ?_
      refine z_imul rfl jk_4 rfl (by omega) (fun v6 ev6 => ?_)
      refine z_iadd rfl jk_49360 rfl (by omega) (fun v7 ev7 => ?_)
      refine z_iald (N := 50660) rfl J rfl sg_126_49360_49520_4_0_1 rfl (by omega) (fun v8 qv8 ev8 => ?_)
      try rw [vrd qv8 (show (49360 + (4 * l6.toInt)) = v7.toInt from by omega)] at D
      refine x_iloadn (x := l1) rfl rfl ?_
      refine x_icne (tgt := 91) rfl rfl (ti_ne rfl rfl ⟨fun c9 => ?_, fun c9 => ?_⟩)
      ·
        rw [if_neg (by omega)] at D
        refine x_iload (x := l5) rfl rfl ?_
        exact jX.sub (jsb_c rfl (jsb_c rfl (jsb_c rfl (jsb_c rfl (jsb_c rfl (jsb_c rfl jsb_n)))))) (ct_X12_close__r125d_93 hD hQ ih l1 l2 l3 l4 l6 l5 h (jr_of rfl (by omega)) (jr_of rfl (by omega)) (jr_of rfl (by omega)) (jr_of rfl (by omega)) (jr_of rfl (by omega)) (by omega) J Sm D)
      ·
        rw [if_pos (by omega)] at D
        refine x_aloadn (x := 125) rfl rfl ?_
        refine z_getR (N := 92) (b := 126) 12 2 rfl f_12_8 rfl J rfl 16002 ⟨rfl, rfl⟩ rfl ?_
        refine x_ldcw (v := 49360) rfl z_12_844 ?_
        refine x_iconst (v := 4) rfl ki_4 ?_
        refine x_iload (x := l6) rfl rfl ?_
        refine z_imul rfl jk_4 rfl (by omega) (fun v10 ev10 => ?_)
        refine z_iadd rfl jk_49360 rfl (by omega) (fun v11 ev11 => ?_)
        refine x_iconst (v := 1) rfl ki_1 ?_
        refine z_iadd rfl rfl jk_1 (by omega) (fun v12 ev12 => ?_)
        refine z_iald (N := 50660) rfl J rfl sg_126_49360_49520_4_1_2 rfl (by omega) (fun v13 qv13 ev13 => ?_)
        try rw [vrd qv13 (show ((49360 + (4 * l6.toInt)) + 1) = v12.toInt from by omega)] at D
        refine x_goto (tgt := 93) rfl rfl ?_
        exact jX.sub (jsb_c rfl (jsb_c rfl (jsb_c rfl (jsb_c rfl (jsb_c rfl (jsb_c rfl jsb_n)))))) (ct_X12_close__r125d_93 hD hQ ih l1 l2 l3 l4 l6 v13 h (jr_of rfl (by omega)) (jr_of rfl (by omega)) (jr_of rfl (by omega)) (jr_of rfl (by omega)) (jr_of rfl (by omega)) (by omega) J Sm D)
set_option maxRecDepth 100000 in
set_option maxHeartbeats 4000000 in
theorem sf_X12_close__r125d {Dy : jH → Prop} {h : jH} {Q : Option Value → jH → Prop} {dr : (Int × jW)} {a1 : Int32} {a2 : Int32} {a3 : Int32} {a4 : Int32} (hD : jDk Dy) (J : jJ jSgM Dy h) (D : d_X12_close__r125d a1.toInt a2.toInt a3.toInt a4.toInt (vw h) = dr) (hQ : ∀ (v : Int32) hx9, jJ jSgM Dy hx9 → jSm fp_X12_close__r125d h hx9 → dr.1 = v.toInt → dr.2 = vw hx9 → Q (some (.int v)) hx9) : jC m_X12_close_ 3 0 0 [.ref 125, .int a1, .int a2, .int a3, .int a4] h Q := by
  refine jC.of rfl k_X12_close_ rfl ?_
  have Sm := jSm_rf fp_X12_close__r125d h
  have ea1 := jfull a1
  have ea2 := jfull a2
  have ea3 := jfull a3
  have ea4 := jfull a4
  show jX m_X12_close_ 3 0 0 0 [(0, .ref 125), (1, .int a1), (2, .int a2), (3, .int a3), (4, .int a4)] [] _ 0 0 _
  unfold d_X12_close__r125d at D
  refine x_aloadn (x := 125) rfl rfl ?_
  refine x_iconst (v := 0) rfl ki_0 ?_
  refine z_putI (N := 92) (w := 0) 12 0 rfl f_12_180 rfl (jfin_no TX12 RX12 92 rfl rfl) hD J Sm rfl rfl jk_0 (pw_125_0 (by omega)) rfl (fun h w1 J Sm => ?_)
  rw [vwf w1 (show 0 = (0 : Int32).toInt from by have := jk_0; omega)] at D
  refine x_iloadn (x := a1) rfl rfl ?_
  refine z_i2l rfl rfl (fun v2 ev2 => ?_)
  refine x_lconst (v := 0) rfl kl_0 ?_
  refine x_ldc2 (v := 3) rfl z_12_195 ?_
  refine x_inst (N := m_X12_in) (As := [.long v2, .long 0, .long 3]) (st := []) (dx9 := 1) (mc := 0) (ms := 0) (host := "") rfl t_X12_in ⟨Or.inl q_12_188, s_X12_in⟩ rfl (by decide) rfl rfl ⟨by decide, by decide⟩ (zc_X12_in rfl jkl_0 jkl_3 (fun v3 ev3 => ?_))
  show jX m_X12_close_ 3 0 0 14 [(0, .ref 125), (1, .int a1), (2, .int a2), (3, .int a3), (4, .int a4)] [.int v3] _ 0 0 _
  refine x_ifeq (tgt := 32) rfl rfl (ti_eq rfl jk_0 ⟨fun c4 => ?_, fun c4 => ?_⟩)
  ·
    rw [if_neg (by omega)] at D
    exact jX.sub (jsb_c rfl jsb_n) (ct_X12_close__r125d_32 hD hQ  h J Sm D)
  ·
    rw [if_pos (by omega)] at D
    refine x_iloadn (x := a2) rfl rfl ?_
    refine x_inst (N := m_X12_isYear) (As := [.int a2]) (st := []) (dx9 := 2) (mc := 0) (ms := 0) (host := "") rfl t_X12_isYear ⟨Or.inl q_12_817, s_X12_isYear⟩ rfl (by decide) rfl rfl ⟨by decide, by decide⟩ (zc_X12_isYear (d := 1) rfl (fun v5 ev5 => ?_))
    show jX m_X12_close_ 3 0 0 21 [(0, .ref 125), (1, .int a1), (2, .int a2), (3, .int a3), (4, .int a4)] [.int v5] _ 0 0 _
    refine x_ifeq (tgt := 32) rfl rfl (ti_eq rfl jk_0 ⟨fun c6 => ?_, fun c6 => ?_⟩)
    ·
      rw [if_neg (by omega)] at D
      exact jX.sub (jsb_c rfl jsb_n) (ct_X12_close__r125d_32 hD hQ  h J Sm D)
    ·
      rw [if_pos (by omega)] at D
      refine x_iload (x := a4) rfl rfl ?_
      refine x_inst (N := m_X12_isDay) (As := [.int a4]) (st := []) (dx9 := 2) (mc := 0) (ms := 0) (host := "") rfl t_X12_isDay ⟨Or.inl q_12_273, s_X12_isDay⟩ rfl (by decide) rfl rfl ⟨by decide, by decide⟩ (zc_X12_isDay (d := 1) rfl (fun v7 ev7 => ?_))
      show jX m_X12_close_ 3 0 0 29 [(0, .ref 125), (1, .int a1), (2, .int a2), (3, .int a3), (4, .int a4)] [.int v7] _ 0 0 _
      refine x_ifne (tgt := 38) rfl rfl (ti_ne rfl jk_0 ⟨fun c8 => ?_, fun c8 => ?_⟩)
      ·
        rw [if_pos (by omega)] at D
        refine x_iconst (v := (-1)) rfl ki_m1 ?_
        refine x_istore (lsx9 := [(5, .int (-1)), (0, .ref 125), (1, .int a1), (2, .int a2), (3, .int a3), (4, .int a4)]) rfl rfl rfl ?_
        refine x_iconst (v := 0) rfl ki_0 ?_
        refine x_istore (lsx9 := [(6, .int 0), (5, .int (-1)), (0, .ref 125), (1, .int a1), (2, .int a2), (3, .int a3), (4, .int a4)]) rfl rfl rfl ?_
        exact jX.sub (jsb_c rfl (jsb_c rfl (jsb_c rfl (jsb_c rfl (jsb_c rfl (jsb_c rfl (jsb_c rfl jsb_n))))))) (ct_X12_close__r125d_44 hD hQ  41 a1 a2 a3 a4 (-1) 0 h (by have := jk_0; omega) (jr_of rfl (by omega)) (jr_of rfl (by omega)) (jr_of rfl (by omega)) (jr_of jk_m1 (by omega)) (jr_of jk_0 (by omega)) J Sm (by rw [jk_m1, jk_0]; exact D))
      ·
        rw [if_neg (by omega)] at D
        exact jX.sub (jsb_c rfl jsb_n) (ct_X12_close__r125d_32 hD hQ  h J Sm D)
def fp_X12_priceOf_r125d : jFp := []
set_option maxRecDepth 100000 in
set_option maxHeartbeats 4000000 in
theorem ct_X12_priceOf_r125d_79 {Dy : jH → Prop} {h0 : jH} {Q : Option Value → jH → Prop} {dr : Int} {K6 : Int → Int → Int → Int → Int → jW → Int} {R6 : Int} (hD : jDk Dy) (hQ : ∀ (v : Int32) hx9, (-1) ≤ v.toInt ∧ v.toInt ≤ 10000 → jJ jSgM Dy hx9 → jSm fp_X12_priceOf_r125d h0 hx9 → dr = v.toInt → vw hx9 = vw h0 → Q (some (.int v)) hx9) (k6 : ∀ (l1 : Int32) (l2 : Int32) (l3 : Int32) (l4 : Int32) (l5 : Int32) (h : jH), 100 - l5.toInt < R6 → 0 ≤ l1.toInt ∧ l1.toInt ≤ 2 → (-7) ≤ l2.toInt ∧ l2.toInt ≤ 398 → 0 ≤ l3.toInt ∧ l3.toInt ≤ 146399 → (-1) ≤ l4.toInt ∧ l4.toInt ≤ 10000 → 0 ≤ l5.toInt ∧ l5.toInt ≤ 100 → jJ jSgM Dy h → jSm fp_X12_priceOf_r125d h0 h → K6 l1.toInt l2.toInt l3.toInt l4.toInt l5.toInt (vw h) = dr → vw h = vw h0 → jX m_X12_priceOf 1 0 0 6 [(0, .ref 125), (1, .int l1), (2, .int l2), (3, .int l3), (4, .int l4), (5, .int l5)] [] h 0 0 Q) : ∀ (l1 : Int32) (l2 : Int32) (l3 : Int32) (l5 : Int32) (s0 : Int32) (h : jH), 0 ≤ l1.toInt ∧ l1.toInt ≤ 2 → (-7) ≤ l2.toInt ∧ l2.toInt ≤ 398 → 0 ≤ l3.toInt ∧ l3.toInt ≤ 146399 → 0 ≤ l5.toInt ∧ l5.toInt ≤ 99 → (-1) ≤ s0.toInt ∧ s0.toInt ≤ 10000 → 100 - l5.toInt ≤ R6 → jJ jSgM Dy h → jSm fp_X12_priceOf_r125d h0 h → d_X12_priceOf_r125d_79 K6  l1.toInt l2.toInt l3.toInt l5.toInt s0.toInt (vw h) = dr → vw h = vw h0 → jX m_X12_priceOf 1 0 0 79 [(0, .ref 125), (1, .int l1), (2, .int l2), (3, .int l3), (5, .int l5)] [.int s0] h 0 0 Q := by
  intro l1 l2 l3 l5 s0 h y0 y1 y2 y3 y4  m6 J Sm D EV
  unfold d_X12_priceOf_r125d_79 at D
  refine x_istore (lsx9 := [(4, .int s0), (0, .ref 125), (1, .int l1), (2, .int l2), (3, .int l3), (5, .int l5)]) rfl rfl rfl ?_
  refine z_iinc (x := l5) (lsx9 := fun v1 => [(5, .int v1), (4, .int s0), (0, .ref 125), (1, .int l1), (2, .int l2), (3, .int l3)]) rfl rfl rfl jko_1 (by omega) rfl (fun _ => rfl) (fun v1 ev1 => ?_)
  refine x_goto (tgt := 6) rfl rfl ?_
  try rw [show (l5.toInt + 1) = v1.toInt from by omega] at D
  exact jX.sub (jsb_c rfl (jsb_c rfl (jsb_c rfl (jsb_c rfl (jsb_c rfl (jsb_c rfl jsb_n)))))) (k6 l1 l2 l3 s0 v1 h (by omega) (jr_of rfl (by omega)) (jr_of rfl (by omega)) (jr_of rfl (by omega)) (jr_of rfl (by omega)) (jr_of rfl (by omega)) J Sm D EV)
set_option maxRecDepth 100000 in
set_option maxHeartbeats 4000000 in
theorem ct_X12_priceOf_r125d_77 {Dy : jH → Prop} {h0 : jH} {Q : Option Value → jH → Prop} {dr : Int} {K6 : Int → Int → Int → Int → Int → jW → Int} {R6 : Int} (hD : jDk Dy) (hQ : ∀ (v : Int32) hx9, (-1) ≤ v.toInt ∧ v.toInt ≤ 10000 → jJ jSgM Dy hx9 → jSm fp_X12_priceOf_r125d h0 hx9 → dr = v.toInt → vw hx9 = vw h0 → Q (some (.int v)) hx9) (k6 : ∀ (l1 : Int32) (l2 : Int32) (l3 : Int32) (l4 : Int32) (l5 : Int32) (h : jH), 100 - l5.toInt < R6 → 0 ≤ l1.toInt ∧ l1.toInt ≤ 2 → (-7) ≤ l2.toInt ∧ l2.toInt ≤ 398 → 0 ≤ l3.toInt ∧ l3.toInt ≤ 146399 → (-1) ≤ l4.toInt ∧ l4.toInt ≤ 10000 → 0 ≤ l5.toInt ∧ l5.toInt ≤ 100 → jJ jSgM Dy h → jSm fp_X12_priceOf_r125d h0 h → K6 l1.toInt l2.toInt l3.toInt l4.toInt l5.toInt (vw h) = dr → vw h = vw h0 → jX m_X12_priceOf 1 0 0 6 [(0, .ref 125), (1, .int l1), (2, .int l2), (3, .int l3), (4, .int l4), (5, .int l5)] [] h 0 0 Q) : ∀ (l1 : Int32) (l2 : Int32) (l3 : Int32) (l4 : Int32) (l5 : Int32) (h : jH), 0 ≤ l1.toInt ∧ l1.toInt ≤ 2 → (-7) ≤ l2.toInt ∧ l2.toInt ≤ 398 → 0 ≤ l3.toInt ∧ l3.toInt ≤ 146399 → (-1) ≤ l4.toInt ∧ l4.toInt ≤ 10000 → 0 ≤ l5.toInt ∧ l5.toInt ≤ 99 → 100 - l5.toInt ≤ R6 → jJ jSgM Dy h → jSm fp_X12_priceOf_r125d h0 h → d_X12_priceOf_r125d_77 K6  l1.toInt l2.toInt l3.toInt l4.toInt l5.toInt (vw h) = dr → vw h = vw h0 → jX m_X12_priceOf 1 0 0 77 [(0, .ref 125), (1, .int l1), (2, .int l2), (3, .int l3), (4, .int l4), (5, .int l5)] [] h 0 0 Q := by
  intro l1 l2 l3 l4 l5 h y0 y1 y2 y3 y4  m6 J Sm D EV
  unfold d_X12_priceOf_r125d_77 at D
  refine x_iload (x := l4) rfl rfl ?_
  exact jX.sub (jsb_c rfl (jsb_c rfl (jsb_c rfl (jsb_c rfl (jsb_c rfl jsb_n))))) (ct_X12_priceOf_r125d_79 hD hQ k6 l1 l2 l3 l5 l4 h (jr_of rfl (by omega)) (jr_of rfl (by omega)) (jr_of rfl (by omega)) (jr_of rfl (by omega)) (jr_of rfl (by omega)) (by omega) J Sm D EV)
set_option maxRecDepth 100000 in
set_option maxHeartbeats 4000000 in
theorem ct_X12_priceOf_r125d_6 {Dy : jH → Prop} {h0 : jH} {Q : Option Value → jH → Prop} {dr : Int} (hD : jDk Dy) (hQ : ∀ (v : Int32) hx9, (-1) ≤ v.toInt ∧ v.toInt ≤ 10000 → jJ jSgM Dy hx9 → jSm fp_X12_priceOf_r125d h0 hx9 → dr = v.toInt → vw hx9 = vw h0 → Q (some (.int v)) hx9) : ∀ r : Nat, ∀ (l1 : Int32) (l2 : Int32) (l3 : Int32) (l4 : Int32) (l5 : Int32) (h : jH), 100 - l5.toInt < (r : Int) → 0 ≤ l1.toInt ∧ l1.toInt ≤ 2 → (-7) ≤ l2.toInt ∧ l2.toInt ≤ 398 → 0 ≤ l3.toInt ∧ l3.toInt ≤ 146399 → (-1) ≤ l4.toInt ∧ l4.toInt ≤ 10000 → 0 ≤ l5.toInt ∧ l5.toInt ≤ 100 → jJ jSgM Dy h → jSm fp_X12_priceOf_r125d h0 h → d_X12_priceOf_r125d_6 r l1.toInt l2.toInt l3.toInt l4.toInt l5.toInt (vw h) = dr → vw h = vw h0 → jX m_X12_priceOf 1 0 0 6 [(0, .ref 125), (1, .int l1), (2, .int l2), (3, .int l3), (4, .int l4), (5, .int l5)] [] h 0 0 Q := by
  intro r
  induction r with
  | zero =>
    intro l1 l2 l3 l4 l5 h hm y0 y1 y2 y3 y4   J Sm D EV
    exfalso
    omega
  | succ r ih =>
    intro l1 l2 l3 l4 l5 h hm y0 y1 y2 y3 y4   J Sm D EV
    rw [d_X12_priceOf_r125d_6.eq_2] at D
    refine x_iload (x := l5) rfl rfl ?_
    refine x_aloadn (x := 125) rfl rfl ?_
    refine z_getR (N := 92) (b := 126) 12 2 rfl f_12_8 rfl J rfl 16002 ⟨rfl, rfl⟩ rfl ?_
    refine x_bipush (v := 15) rfl kb_15 ?_
    refine z_iald (N := 50660) rfl J rfl sg_126_15_16_1_0_1 jk_15 (by omega) (fun v1 qv1 ev1 => ?_)
    try rw [vrn (n := 15) (by decide) qv1] at D
    refine x_icge (tgt := 87) rfl rfl (ti_ge rfl rfl ⟨fun c2 => ?_, fun c2 => ?_⟩)
    ·
      rw [if_pos (by omega)] at D
      refine x_iload (x := l4) rfl rfl ?_
      refine x_iret rfl rfl ?_
      exact hQ _ _ (jr_of rfl (by omega)) J Sm (D.symm.trans (show l4.toInt = l4.toInt from by omega)) EV
    ·
      rw [if_neg (by omega)] at D
      refine x_ldcw (v := 49520) rfl z_12_857 ?_
      refine x_iconst (v := 4) rfl ki_4 ?_
      refine x_iload (x := l5) rfl rfl ?_
      refine z_imul rfl jk_4 rfl (by omega) (fun v3 ev3 => ?_)
      refine z_iadd rfl jk_49520 rfl (by omega) (fun v4 ev4 => ?_)
      refine x_istore (lsx9 := [(6, .int v4), (0, .ref 125), (1, .int l1), (2, .int l2), (3, .int l3), (4, .int l4), (5, .int l5)]) rfl rfl rfl ?_
      refine x_aloadn (x := 125) rfl rfl ?_
      refine z_getR (N := 92) (b := 126) 12 2 rfl f_12_8 rfl J rfl 16002 ⟨rfl, rfl⟩ rfl ?_
      refine x_iload (x := v4) rfl rfl ?_
      refine z_iald (N := 50660) rfl J rfl sg_126_49520_49920_4_0_1 rfl (by omega) (fun v5 qv5 ev5 => ?_)
      try rw [vrd qv5 (show (49520 + (4 * l5.toInt)) = v4.toInt from by omega)] at D
      refine x_iloadn (x := l1) rfl rfl ?_
      refine x_icne (tgt := 77) rfl rfl (ti_ne rfl rfl ⟨fun c6 => ?_, fun c6 => ?_⟩)
      ·
        rw [if_neg (by omega)] at D
        exact jX.sub (jsb_c rfl (jsb_c rfl (jsb_c rfl (jsb_c rfl (jsb_c rfl (jsb_c rfl jsb_n)))))) (ct_X12_priceOf_r125d_77 hD hQ ih l1 l2 l3 l4 l5 h (jr_of rfl (by omega)) (jr_of rfl (by omega)) (jr_of rfl (by omega)) (jr_of rfl (by omega)) (jr_of rfl (by omega)) (by omega) J Sm D EV)
      ·
        rw [if_pos (by omega)] at D
        refine x_aloadn (x := 125) rfl rfl ?_
        refine z_getR (N := 92) (b := 126) 12 2 rfl f_12_8 rfl J rfl 16002 ⟨rfl, rfl⟩ rfl ?_
        refine x_iload (x := v4) rfl rfl ?_
        refine x_iconst (v := 1) rfl ki_1 ?_
        refine z_iadd rfl rfl jk_1 (by omega) (fun v7 ev7 => ?_)
        refine z_iald (N := 50660) rfl J rfl sg_126_49520_49920_4_1_2 rfl (by omega) (fun v8 qv8 ev8 => ?_)
        try rw [vrd qv8 (show ((49520 + (4 * l5.toInt)) + 1) = v7.toInt from by omega)] at D
        refine x_iloadn (x := l2) rfl rfl ?_
        refine x_icne (tgt := 77) rfl rfl (ti_ne rfl rfl ⟨fun c9 => ?_, fun c9 => ?_⟩)
        ·
          rw [if_neg (by omega)] at D
          exact jX.sub (jsb_c rfl (jsb_c rfl (jsb_c rfl (jsb_c rfl (jsb_c rfl (jsb_c rfl jsb_n)))))) (ct_X12_priceOf_r125d_77 hD hQ ih l1 l2 l3 l4 l5 h (jr_of rfl (by omega)) (jr_of rfl (by omega)) (jr_of rfl (by omega)) (jr_of rfl (by omega)) (jr_of rfl (by omega)) (by omega) J Sm D EV)
        ·
          rw [if_pos (by omega)] at D
          refine x_aloadn (x := 125) rfl rfl ?_
          refine z_getR (N := 92) (b := 126) 12 2 rfl f_12_8 rfl J rfl 16002 ⟨rfl, rfl⟩ rfl ?_
          refine x_iload (x := v4) rfl rfl ?_
          refine x_iconst (v := 3) rfl ki_3 ?_
          refine z_iadd rfl rfl jk_3 (by omega) (fun v10 ev10 => ?_)
          refine z_iald (N := 50660) rfl J rfl sg_126_49520_49920_4_3_4 rfl (by omega) (fun v11 qv11 ev11 => ?_)
          try rw [vrd qv11 (show ((49520 + (4 * l5.toInt)) + 3) = v10.toInt from by omega)] at D
          refine x_iloadn (x := l3) rfl rfl ?_
          refine x_icgt (tgt := 77) rfl rfl (ti_gt rfl rfl ⟨fun c12 => ?_, fun c12 => ?_⟩)
          ·
            rw [if_pos (by omega)] at D
            exact jX.sub (jsb_c rfl (jsb_c rfl (jsb_c rfl (jsb_c rfl (jsb_c rfl (jsb_c rfl jsb_n)))))) (ct_X12_priceOf_r125d_77 hD hQ ih l1 l2 l3 l4 l5 h (jr_of rfl (by omega)) (jr_of rfl (by omega)) (jr_of rfl (by omega)) (jr_of rfl (by omega)) (jr_of rfl (by omega)) (by omega) J Sm D EV)
          ·
            rw [if_neg (by omega)] at D
            refine x_aloadn (x := 125) rfl rfl ?_
            refine z_getR (N := 92) (b := 126) 12 2 rfl f_12_8 rfl J rfl 16002 ⟨rfl, rfl⟩ rfl ?_
            refine x_iload (x := v4) rfl rfl ?_
            refine x_iconst (v := 2) rfl ki_2 ?_
            refine z_iadd rfl rfl jk_2 (by omega) (fun v13 ev13 => ?_)
            refine z_iald (N := 50660) rfl J rfl sg_126_49520_49920_4_2_3 rfl (by omega) (fun v14 qv14 ev14 => ?_)
            try rw [vrd qv14 (show ((49520 + (4 * l5.toInt)) + 2) = v13.toInt from by omega)] at D
            refine x_goto (tgt := 79) rfl rfl ?_
            exact jX.sub (jsb_c rfl (jsb_c rfl (jsb_c rfl (jsb_c rfl (jsb_c rfl jsb_n))))) (ct_X12_priceOf_r125d_79 hD hQ ih l1 l2 l3 l5 v14 h (jr_of rfl (by omega)) (jr_of rfl (by omega)) (jr_of rfl (by omega)) (jr_of rfl (by omega)) (jr_of rfl (by omega)) (by omega) J Sm D EV)
set_option maxRecDepth 100000 in
set_option maxHeartbeats 4000000 in
theorem sf_X12_priceOf_r125d {Dy : jH → Prop} {h : jH} {Q : Option Value → jH → Prop} {dr : Int} {a1 : Int32} {a2 : Int32} {a3 : Int32} (y1 : 0 ≤ a1.toInt ∧ a1.toInt ≤ 2) (y2 : (-7) ≤ a2.toInt ∧ a2.toInt ≤ 398) (y3 : 0 ≤ a3.toInt ∧ a3.toInt ≤ 146399) (hD : jDk Dy) (J : jJ jSgM Dy h) (D : d_X12_priceOf_r125d a1.toInt a2.toInt a3.toInt (vw h) = dr) (hQ : ∀ (v : Int32) hx9, (-1) ≤ v.toInt ∧ v.toInt ≤ 10000 → jJ jSgM Dy hx9 → jSm fp_X12_priceOf_r125d h hx9 → dr = v.toInt → vw hx9 = vw h → Q (some (.int v)) hx9) : jC m_X12_priceOf 1 0 0 [.ref 125, .int a1, .int a2, .int a3] h Q := by
  refine jC.of rfl k_X12_priceOf rfl ?_
  have Sm := jSm_rf fp_X12_priceOf_r125d h
  show jX m_X12_priceOf 1 0 0 0 [(0, .ref 125), (1, .int a1), (2, .int a2), (3, .int a3)] [] _ 0 0 _
  unfold d_X12_priceOf_r125d at D
  have EV : vw h = vw h := rfl
  refine x_iconst (v := (-1)) rfl ki_m1 ?_
  refine x_istore (lsx9 := [(4, .int (-1)), (0, .ref 125), (1, .int a1), (2, .int a2), (3, .int a3)]) rfl rfl rfl ?_
  refine x_iconst (v := 0) rfl ki_0 ?_
  refine x_istore (lsx9 := [(5, .int 0), (4, .int (-1)), (0, .ref 125), (1, .int a1), (2, .int a2), (3, .int a3)]) rfl rfl rfl ?_
  exact jX.sub (jsb_c rfl (jsb_c rfl (jsb_c rfl (jsb_c rfl (jsb_c rfl (jsb_c rfl jsb_n)))))) (ct_X12_priceOf_r125d_6 hD hQ  101 a1 a2 a3 (-1) 0 h (by have := jk_0; omega) (jr_of rfl (by omega)) (jr_of rfl (by omega)) (jr_of rfl (by omega)) (jr_of jk_m1 (by omega)) (jr_of jk_0 (by omega)) J Sm (by rw [jk_m1, jk_0]; exact D) EV)
def fp_X12_coin_r125d : jFp := [(125, 0, 1)]
set_option maxRecDepth 100000 in
set_option maxHeartbeats 4000000 in
theorem ct_X12_coin_r125d_27 {Dy : jH → Prop} {h0 : jH} {Q : Option Value → jH → Prop} {dr : (Int × jW)} (hD : jDk Dy) (hQ : ∀ (v : Int32) hx9, jJ jSgM Dy hx9 → jSm fp_X12_coin_r125d h0 hx9 → dr.1 = v.toInt → dr.2 = vw hx9 → Q (some (.int v)) hx9) : ∀ (h : jH), jJ jSgM Dy h → jSm fp_X12_coin_r125d h0 h → d_X12_coin_r125d_27  (vw h) = dr → jX m_X12_coin 3 0 0 27 [] [] h 0 0 Q := by
  intro  h    J Sm D
  unfold d_X12_coin_r125d_27 at D
  refine x_iconst (v := (-1)) rfl ki_m1 ?_
  refine x_iret rfl rfl ?_
  exact hQ _ _ J Sm ((congrArg Prod.fst D).symm.trans (show (-1) = ((-1) : Int32).toInt from by have := jk_m1; omega)) (congrArg Prod.snd D).symm
set_option maxRecDepth 100000 in
set_option maxHeartbeats 4000000 in
theorem ct_X12_coin_r125d_5000144 {Dy : jH → Prop} {h0 : jH} {Q : Option Value → jH → Prop} {dr : (Int × jW)} {K35 : Int → Int → Int → Int → Int → jW → (Int × jW)} {R35 : Int} (hD : jDk Dy) (hQ : ∀ (v : Int32) hx9, jJ jSgM Dy hx9 → jSm fp_X12_coin_r125d h0 hx9 → dr.1 = v.toInt → dr.2 = vw hx9 → Q (some (.int v)) hx9) (k35 : ∀ (l1 : Int32) (l2 : Int32) (l3 : Int32) (l4 : Int64) (l6 : Int32) (h : jH), 3 - l6.toInt < R35 → 0 ≤ l1.toInt ∧ l1.toInt ≤ 39 → 0 ≤ l2.toInt ∧ l2.toInt ≤ 399 → 0 ≤ l3.toInt ∧ l3.toInt ≤ 146399 → 0 ≤ l6.toInt ∧ l6.toInt ≤ 3 → jJ jSgM Dy h → jSm fp_X12_coin_r125d h0 h → K35 l1.toInt l2.toInt l3.toInt l4.toInt l6.toInt (vw h) = dr → jX m_X12_coin 3 0 0 35 [(0, .ref 125), (1, .int l1), (2, .int l2), (3, .int l3), (4, .long l4), (6, .int l6)] [] h 0 0 Q) : ∀ (l1 : Int32) (l2 : Int32) (l3 : Int32) (l6 : Int32) (s1 : Int64) (h : jH), 0 ≤ l1.toInt ∧ l1.toInt ≤ 39 → 0 ≤ l2.toInt ∧ l2.toInt ≤ 399 → 0 ≤ l3.toInt ∧ l3.toInt ≤ 146399 → 0 ≤ l6.toInt ∧ l6.toInt ≤ 2 → 3 - l6.toInt ≤ R35 → jJ jSgM Dy h → jSm fp_X12_coin_r125d h0 h → d_X12_coin_r125d_5000144 K35  l1.toInt l2.toInt l3.toInt l6.toInt s1.toInt (vw h) = dr → jX m_X12_coin 3 0 0 144 [(0, .ref 125), (1, .int l1), (2, .int l2), (3, .int l3), (6, .int l6)] [.long 0, .long s1] h 0 0 Q := by
  intro l1 l2 l3 l6 s1 h y0 y1 y2 y3  m35 J Sm D
  have es1 := jfullL s1
  unfold d_X12_coin_r125d_5000144 at D
  refine z_ladd rfl rfl jkl_0 (by omega) (fun v1 ev1 => ?_)
  refine x_lstore (lsx9 := [(4, .long v1), (0, .ref 125), (1, .int l1), (2, .int l2), (3, .int l3), (6, .int l6)]) rfl rfl rfl ?_
  refine z_iinc (x := l6) (lsx9 := fun v2 => [(6, .int v2), (4, .long v1), (0, .ref 125), (1, .int l1), (2, .int l2), (3, .int l3)]) rfl rfl rfl jko_1 (by omega) rfl (fun _ => rfl) (fun v2 ev2 => ?_)
  refine x_goto (tgt := 35) rfl rfl ?_
  try rw [show (s1.toInt + 0) = v1.toInt from by omega] at D
  try rw [show (l6.toInt + 1) = v2.toInt from by omega] at D
  exact jX.sub (jsb_c rfl (jsb_c rfl (jsb_c rfl (jsb_c rfl (jsb_c rfl (jsb_c rfl jsb_n)))))) (k35 l1 l2 l3 v1 v2 h (by omega) (jr_of rfl (by omega)) (jr_of rfl (by omega)) (jr_of rfl (by omega)) (jr_of rfl (by omega)) J Sm D)
set_option maxRecDepth 100000 in
set_option maxHeartbeats 4000000 in
theorem ct_X12_coin_r125d_144 {Dy : jH → Prop} {h0 : jH} {Q : Option Value → jH → Prop} {dr : (Int × jW)} {K35 : Int → Int → Int → Int → Int → jW → (Int × jW)} {R35 : Int} (hD : jDk Dy) (hQ : ∀ (v : Int32) hx9, jJ jSgM Dy hx9 → jSm fp_X12_coin_r125d h0 hx9 → dr.1 = v.toInt → dr.2 = vw hx9 → Q (some (.int v)) hx9) (k35 : ∀ (l1 : Int32) (l2 : Int32) (l3 : Int32) (l4 : Int64) (l6 : Int32) (h : jH), 3 - l6.toInt < R35 → 0 ≤ l1.toInt ∧ l1.toInt ≤ 39 → 0 ≤ l2.toInt ∧ l2.toInt ≤ 399 → 0 ≤ l3.toInt ∧ l3.toInt ≤ 146399 → 0 ≤ l6.toInt ∧ l6.toInt ≤ 3 → jJ jSgM Dy h → jSm fp_X12_coin_r125d h0 h → K35 l1.toInt l2.toInt l3.toInt l4.toInt l6.toInt (vw h) = dr → jX m_X12_coin 3 0 0 35 [(0, .ref 125), (1, .int l1), (2, .int l2), (3, .int l3), (4, .long l4), (6, .int l6)] [] h 0 0 Q) : ∀ (l1 : Int32) (l2 : Int32) (l3 : Int32) (l6 : Int32) (s0 : Int64) (s1 : Int64) (h : jH), 0 ≤ l1.toInt ∧ l1.toInt ≤ 39 → 0 ≤ l2.toInt ∧ l2.toInt ≤ 399 → 0 ≤ l3.toInt ∧ l3.toInt ≤ 146399 → 0 ≤ l6.toInt ∧ l6.toInt ≤ 2 → 3 - l6.toInt ≤ R35 → jJ jSgM Dy h → jSm fp_X12_coin_r125d h0 h → d_X12_coin_r125d_144 K35  l1.toInt l2.toInt l3.toInt l6.toInt s0.toInt s1.toInt (vw h) = dr → jX m_X12_coin 3 0 0 144 [(0, .ref 125), (1, .int l1), (2, .int l2), (3, .int l3), (6, .int l6)] [.long s0, .long s1] h 0 0 Q := by
  intro l1 l2 l3 l6 s0 s1 h y0 y1 y2 y3  m35 J Sm D
  have es0 := jfullL s0
  have es1 := jfullL s1
  unfold d_X12_coin_r125d_144 at D
  refine z_laddW rfl rfl rfl (fun v1 ev1 => ?_)
  have fv1 := jfullL v1
  try rw [← ev1] at D
  refine x_lstore (lsx9 := [(4, .long v1), (0, .ref 125), (1, .int l1), (2, .int l2), (3, .int l3), (6, .int l6)]) rfl rfl rfl ?_
  refine z_iinc (x := l6) (lsx9 := fun v2 => [(6, .int v2), (4, .long v1), (0, .ref 125), (1, .int l1), (2, .int l2), (3, .int l3)]) rfl rfl rfl jko_1 (by omega) rfl (fun _ => rfl) (fun v2 ev2 => ?_)
  refine x_goto (tgt := 35) rfl rfl ?_
  try rw [show (l6.toInt + 1) = v2.toInt from by omega] at D
  exact jX.sub (jsb_c rfl (jsb_c rfl (jsb_c rfl (jsb_c rfl (jsb_c rfl (jsb_c rfl jsb_n)))))) (k35 l1 l2 l3 v1 v2 h (by omega) (jr_of rfl (by omega)) (jr_of rfl (by omega)) (jr_of rfl (by omega)) (jr_of rfl (by omega)) J Sm D)
set_option maxRecDepth 100000 in
set_option maxHeartbeats 4000000 in
theorem ct_X12_coin_r125d_300101 {Dy : jH → Prop} {h0 : jH} {Q : Option Value → jH → Prop} {dr : (Int × jW)} {K35 : Int → Int → Int → Int → Int → jW → (Int × jW)} {K53 : Int → Int → Int → Int → Int → Int → Int → Int → jW → (Int × jW)} {R35 : Int} {R53 : Int} (hD : jDk Dy) (hQ : ∀ (v : Int32) hx9, jJ jSgM Dy hx9 → jSm fp_X12_coin_r125d h0 hx9 → dr.1 = v.toInt → dr.2 = vw hx9 → Q (some (.int v)) hx9) (k35 : ∀ (l1 : Int32) (l2 : Int32) (l3 : Int32) (l4 : Int64) (l6 : Int32) (h : jH), 3 - l6.toInt < R35 → 0 ≤ l1.toInt ∧ l1.toInt ≤ 39 → 0 ≤ l2.toInt ∧ l2.toInt ≤ 399 → 0 ≤ l3.toInt ∧ l3.toInt ≤ 146399 → 0 ≤ l6.toInt ∧ l6.toInt ≤ 3 → jJ jSgM Dy h → jSm fp_X12_coin_r125d h0 h → K35 l1.toInt l2.toInt l3.toInt l4.toInt l6.toInt (vw h) = dr → jX m_X12_coin 3 0 0 35 [(0, .ref 125), (1, .int l1), (2, .int l2), (3, .int l3), (4, .long l4), (6, .int l6)] [] h 0 0 Q) (k53 : ∀ (l1 : Int32) (l2 : Int32) (l3 : Int32) (l4 : Int64) (l6 : Int32) (l7 : Int64) (l9 : Int32) (l10 : Int32) (h : jH), 399 - l10.toInt < R53 → 0 ≤ l1.toInt ∧ l1.toInt ≤ 39 → 0 ≤ l2.toInt ∧ l2.toInt ≤ 399 → 0 ≤ l3.toInt ∧ l3.toInt ≤ 146399 → 0 ≤ l6.toInt ∧ l6.toInt ≤ 2 → (-7) ≤ l10.toInt ∧ l10.toInt ≤ 399 → 3 - l6.toInt ≤ R35 → jJ jSgM Dy h → jSm fp_X12_coin_r125d h0 h → K53 l1.toInt l2.toInt l3.toInt l4.toInt l6.toInt l7.toInt l9.toInt l10.toInt (vw h) = dr → jX m_X12_coin 3 0 0 53 [(0, .ref 125), (1, .int l1), (2, .int l2), (3, .int l3), (4, .long l4), (6, .int l6), (7, .long l7), (9, .int l9), (10, .int l10)] [] h 0 0 Q) : ∀ (l1 : Int32) (l2 : Int32) (l3 : Int32) (l4 : Int64) (l6 : Int32) (l7 : Int64) (l10 : Int32) (s1 : Int32) (h : jH), 0 ≤ l1.toInt ∧ l1.toInt ≤ 39 → 0 ≤ l2.toInt ∧ l2.toInt ≤ 399 → 0 ≤ l3.toInt ∧ l3.toInt ≤ 146399 → 0 ≤ l6.toInt ∧ l6.toInt ≤ 2 → (-7) ≤ l10.toInt ∧ l10.toInt ≤ 398 → 3 - l6.toInt ≤ R35 → 399 - l10.toInt ≤ R53 → jJ jSgM Dy h → jSm fp_X12_coin_r125d h0 h → d_X12_coin_r125d_300101 K35 K53  l1.toInt l2.toInt l3.toInt l4.toInt l6.toInt l7.toInt l10.toInt s1.toInt (vw h) = dr → jX m_X12_coin 3 0 0 101 [(0, .ref 125), (1, .int l1), (2, .int l2), (3, .int l3), (4, .long l4), (6, .int l6), (7, .long l7), (10, .int l10)] [.int 1, .int s1] h 0 0 Q := by
  intro l1 l2 l3 l4 l6 l7 l10 s1 h y0 y1 y2 y3 y4  m35 m53 J Sm D
  have el4 := jfullL l4
  have el7 := jfullL l7
  have es1 := jfull s1
  unfold d_X12_coin_r125d_300101 at D
  refine z_iaddW rfl rfl jk_1 (fun v1 ev1 => ?_)
  have fv1 := jfull v1
  try rw [← ev1] at D
  refine x_istore (lsx9 := [(9, .int v1), (0, .ref 125), (1, .int l1), (2, .int l2), (3, .int l3), (4, .long l4), (6, .int l6), (7, .long l7), (10, .int l10)]) rfl rfl rfl ?_
  refine z_iinc (x := l10) (lsx9 := fun v2 => [(10, .int v2), (9, .int v1), (0, .ref 125), (1, .int l1), (2, .int l2), (3, .int l3), (4, .long l4), (6, .int l6), (7, .long l7)]) rfl rfl rfl jko_1 (by omega) rfl (fun _ => rfl) (fun v2 ev2 => ?_)
  refine x_goto (tgt := 53) rfl rfl ?_
  try rw [show (l10.toInt + 1) = v2.toInt from by omega] at D
  exact jX.sub (jsb_c rfl (jsb_c rfl (jsb_c rfl (jsb_c rfl (jsb_c rfl (jsb_c rfl (jsb_c rfl (jsb_c rfl (jsb_c rfl jsb_n))))))))) (k53 l1 l2 l3 l4 l6 l7 v1 v2 h (by omega) (jr_of rfl (by omega)) (jr_of rfl (by omega)) (jr_of rfl (by omega)) (jr_of rfl (by omega)) (jr_of rfl (by omega)) (by omega) J Sm D)
set_option maxRecDepth 100000 in
set_option maxHeartbeats 4000000 in
theorem ct_X12_coin_r125d_200101 {Dy : jH → Prop} {h0 : jH} {Q : Option Value → jH → Prop} {dr : (Int × jW)} {K35 : Int → Int → Int → Int → Int → jW → (Int × jW)} {K53 : Int → Int → Int → Int → Int → Int → Int → Int → jW → (Int × jW)} {R35 : Int} {R53 : Int} (hD : jDk Dy) (hQ : ∀ (v : Int32) hx9, jJ jSgM Dy hx9 → jSm fp_X12_coin_r125d h0 hx9 → dr.1 = v.toInt → dr.2 = vw hx9 → Q (some (.int v)) hx9) (k35 : ∀ (l1 : Int32) (l2 : Int32) (l3 : Int32) (l4 : Int64) (l6 : Int32) (h : jH), 3 - l6.toInt < R35 → 0 ≤ l1.toInt ∧ l1.toInt ≤ 39 → 0 ≤ l2.toInt ∧ l2.toInt ≤ 399 → 0 ≤ l3.toInt ∧ l3.toInt ≤ 146399 → 0 ≤ l6.toInt ∧ l6.toInt ≤ 3 → jJ jSgM Dy h → jSm fp_X12_coin_r125d h0 h → K35 l1.toInt l2.toInt l3.toInt l4.toInt l6.toInt (vw h) = dr → jX m_X12_coin 3 0 0 35 [(0, .ref 125), (1, .int l1), (2, .int l2), (3, .int l3), (4, .long l4), (6, .int l6)] [] h 0 0 Q) (k53 : ∀ (l1 : Int32) (l2 : Int32) (l3 : Int32) (l4 : Int64) (l6 : Int32) (l7 : Int64) (l9 : Int32) (l10 : Int32) (h : jH), 399 - l10.toInt < R53 → 0 ≤ l1.toInt ∧ l1.toInt ≤ 39 → 0 ≤ l2.toInt ∧ l2.toInt ≤ 399 → 0 ≤ l3.toInt ∧ l3.toInt ≤ 146399 → 0 ≤ l6.toInt ∧ l6.toInt ≤ 2 → (-7) ≤ l10.toInt ∧ l10.toInt ≤ 399 → 3 - l6.toInt ≤ R35 → jJ jSgM Dy h → jSm fp_X12_coin_r125d h0 h → K53 l1.toInt l2.toInt l3.toInt l4.toInt l6.toInt l7.toInt l9.toInt l10.toInt (vw h) = dr → jX m_X12_coin 3 0 0 53 [(0, .ref 125), (1, .int l1), (2, .int l2), (3, .int l3), (4, .long l4), (6, .int l6), (7, .long l7), (9, .int l9), (10, .int l10)] [] h 0 0 Q) : ∀ (l1 : Int32) (l2 : Int32) (l3 : Int32) (l4 : Int64) (l6 : Int32) (l7 : Int64) (l10 : Int32) (s1 : Int32) (h : jH), 0 ≤ l1.toInt ∧ l1.toInt ≤ 39 → 0 ≤ l2.toInt ∧ l2.toInt ≤ 399 → 0 ≤ l3.toInt ∧ l3.toInt ≤ 146399 → 0 ≤ l6.toInt ∧ l6.toInt ≤ 2 → (-7) ≤ l10.toInt ∧ l10.toInt ≤ 398 → 3 - l6.toInt ≤ R35 → 399 - l10.toInt ≤ R53 → jJ jSgM Dy h → jSm fp_X12_coin_r125d h0 h → d_X12_coin_r125d_200101 K35 K53  l1.toInt l2.toInt l3.toInt l4.toInt l6.toInt l7.toInt l10.toInt s1.toInt (vw h) = dr → jX m_X12_coin 3 0 0 101 [(0, .ref 125), (1, .int l1), (2, .int l2), (3, .int l3), (4, .long l4), (6, .int l6), (7, .long l7), (10, .int l10)] [.int 0, .int s1] h 0 0 Q := by
  intro l1 l2 l3 l4 l6 l7 l10 s1 h y0 y1 y2 y3 y4  m35 m53 J Sm D
  have el4 := jfullL l4
  have el7 := jfullL l7
  have es1 := jfull s1
  unfold d_X12_coin_r125d_200101 at D
  refine z_iadd rfl rfl jk_0 (by omega) (fun v1 ev1 => ?_)
  refine x_istore (lsx9 := [(9, .int v1), (0, .ref 125), (1, .int l1), (2, .int l2), (3, .int l3), (4, .long l4), (6, .int l6), (7, .long l7), (10, .int l10)]) rfl rfl rfl ?_
  refine z_iinc (x := l10) (lsx9 := fun v2 => [(10, .int v2), (9, .int v1), (0, .ref 125), (1, .int l1), (2, .int l2), (3, .int l3), (4, .long l4), (6, .int l6), (7, .long l7)]) rfl rfl rfl jko_1 (by omega) rfl (fun _ => rfl) (fun v2 ev2 => ?_)
  refine x_goto (tgt := 53) rfl rfl ?_
  try rw [show (s1.toInt + 0) = v1.toInt from by omega] at D
  try rw [show (l10.toInt + 1) = v2.toInt from by omega] at D
  exact jX.sub (jsb_c rfl (jsb_c rfl (jsb_c rfl (jsb_c rfl (jsb_c rfl (jsb_c rfl (jsb_c rfl (jsb_c rfl (jsb_c rfl jsb_n))))))))) (k53 l1 l2 l3 l4 l6 l7 v1 v2 h (by omega) (jr_of rfl (by omega)) (jr_of rfl (by omega)) (jr_of rfl (by omega)) (jr_of rfl (by omega)) (jr_of rfl (by omega)) (by omega) J Sm D)
set_option maxRecDepth 100000 in
set_option maxHeartbeats 4000000 in
theorem ct_X12_coin_r125d_85 {Dy : jH → Prop} {h0 : jH} {Q : Option Value → jH → Prop} {dr : (Int × jW)} {K35 : Int → Int → Int → Int → Int → jW → (Int × jW)} {K53 : Int → Int → Int → Int → Int → Int → Int → Int → jW → (Int × jW)} {R35 : Int} {R53 : Int} (hD : jDk Dy) (hQ : ∀ (v : Int32) hx9, jJ jSgM Dy hx9 → jSm fp_X12_coin_r125d h0 hx9 → dr.1 = v.toInt → dr.2 = vw hx9 → Q (some (.int v)) hx9) (k35 : ∀ (l1 : Int32) (l2 : Int32) (l3 : Int32) (l4 : Int64) (l6 : Int32) (h : jH), 3 - l6.toInt < R35 → 0 ≤ l1.toInt ∧ l1.toInt ≤ 39 → 0 ≤ l2.toInt ∧ l2.toInt ≤ 399 → 0 ≤ l3.toInt ∧ l3.toInt ≤ 146399 → 0 ≤ l6.toInt ∧ l6.toInt ≤ 3 → jJ jSgM Dy h → jSm fp_X12_coin_r125d h0 h → K35 l1.toInt l2.toInt l3.toInt l4.toInt l6.toInt (vw h) = dr → jX m_X12_coin 3 0 0 35 [(0, .ref 125), (1, .int l1), (2, .int l2), (3, .int l3), (4, .long l4), (6, .int l6)] [] h 0 0 Q) (k53 : ∀ (l1 : Int32) (l2 : Int32) (l3 : Int32) (l4 : Int64) (l6 : Int32) (l7 : Int64) (l9 : Int32) (l10 : Int32) (h : jH), 399 - l10.toInt < R53 → 0 ≤ l1.toInt ∧ l1.toInt ≤ 39 → 0 ≤ l2.toInt ∧ l2.toInt ≤ 399 → 0 ≤ l3.toInt ∧ l3.toInt ≤ 146399 → 0 ≤ l6.toInt ∧ l6.toInt ≤ 2 → (-7) ≤ l10.toInt ∧ l10.toInt ≤ 399 → 3 - l6.toInt ≤ R35 → jJ jSgM Dy h → jSm fp_X12_coin_r125d h0 h → K53 l1.toInt l2.toInt l3.toInt l4.toInt l6.toInt l7.toInt l9.toInt l10.toInt (vw h) = dr → jX m_X12_coin 3 0 0 53 [(0, .ref 125), (1, .int l1), (2, .int l2), (3, .int l3), (4, .long l4), (6, .int l6), (7, .long l7), (9, .int l9), (10, .int l10)] [] h 0 0 Q) : ∀ (l1 : Int32) (l2 : Int32) (l3 : Int32) (l4 : Int64) (l6 : Int32) (l9 : Int32) (l10 : Int32) (l11 : Int32) (s0 : Int64) (s1 : Int64) (h : jH), 0 ≤ l1.toInt ∧ l1.toInt ≤ 39 → 0 ≤ l2.toInt ∧ l2.toInt ≤ 399 → 0 ≤ l3.toInt ∧ l3.toInt ≤ 146399 → 0 ≤ l6.toInt ∧ l6.toInt ≤ 2 → (-7) ≤ l10.toInt ∧ l10.toInt ≤ 398 → 0 ≤ l11.toInt ∧ l11.toInt ≤ 10000 → 0 ≤ s0.toInt ∧ s0.toInt ≤ 10000 → 3 - l6.toInt ≤ R35 → 399 - l10.toInt ≤ R53 → jJ jSgM Dy h → jSm fp_X12_coin_r125d h0 h → d_X12_coin_r125d_85 K35 K53  l1.toInt l2.toInt l3.toInt l4.toInt l6.toInt l9.toInt l10.toInt l11.toInt s0.toInt s1.toInt (vw h) = dr → jX m_X12_coin 3 0 0 85 [(0, .ref 125), (1, .int l1), (2, .int l2), (3, .int l3), (4, .long l4), (6, .int l6), (9, .int l9), (10, .int l10), (11, .int l11)] [.long s0, .long s1] h 0 0 Q := by
  intro l1 l2 l3 l4 l6 l9 l10 l11 s0 s1 h y0 y1 y2 y3 y4 y5 y6  m35 m53 J Sm D
  have el4 := jfullL l4
  have el9 := jfull l9
  have es1 := jfullL s1
  unfold d_X12_coin_r125d_85 at D
  refine z_laddW rfl rfl rfl (fun v1 ev1 => ?_)
  have fv1 := jfullL v1
  try rw [← ev1] at D
  refine x_lstore (lsx9 := [(7, .long v1), (0, .ref 125), (1, .int l1), (2, .int l2), (3, .int l3), (4, .long l4), (6, .int l6), (9, .int l9), (10, .int l10), (11, .int l11)]) rfl rfl rfl ?_
  refine x_iload (x := l9) rfl rfl ?_
  refine x_iload (x := l11) rfl rfl ?_
  refine x_iconst (v := (-1)) rfl ki_m1 ?_
  refine x_icne (tgt := 100) rfl rfl (ti_ne rfl jk_m1 (bn_t (by omega) ?_))
  refine x_iconst (v := 1) rfl ki_1 ?_
  exact jX.sub (jsb_c rfl (jsb_c rfl (jsb_c rfl (jsb_c rfl (jsb_c rfl (jsb_c rfl (jsb_c rfl (jsb_c rfl jsb_n)))))))) (ct_X12_coin_r125d_300101 hD hQ k35 k53 l1 l2 l3 l4 l6 v1 l10 l9 h (jr_of rfl (by omega)) (jr_of rfl (by omega)) (jr_of rfl (by omega)) (jr_of rfl (by omega)) (jr_of rfl (by omega)) (by omega) (by omega) J Sm D)
set_option maxRecDepth 100000 in
set_option maxHeartbeats 4000000 in
theorem ct_X12_coin_r125d_5000085 {Dy : jH → Prop} {h0 : jH} {Q : Option Value → jH → Prop} {dr : (Int × jW)} {K35 : Int → Int → Int → Int → Int → jW → (Int × jW)} {K53 : Int → Int → Int → Int → Int → Int → Int → Int → jW → (Int × jW)} {R35 : Int} {R53 : Int} (hD : jDk Dy) (hQ : ∀ (v : Int32) hx9, jJ jSgM Dy hx9 → jSm fp_X12_coin_r125d h0 hx9 → dr.1 = v.toInt → dr.2 = vw hx9 → Q (some (.int v)) hx9) (k35 : ∀ (l1 : Int32) (l2 : Int32) (l3 : Int32) (l4 : Int64) (l6 : Int32) (h : jH), 3 - l6.toInt < R35 → 0 ≤ l1.toInt ∧ l1.toInt ≤ 39 → 0 ≤ l2.toInt ∧ l2.toInt ≤ 399 → 0 ≤ l3.toInt ∧ l3.toInt ≤ 146399 → 0 ≤ l6.toInt ∧ l6.toInt ≤ 3 → jJ jSgM Dy h → jSm fp_X12_coin_r125d h0 h → K35 l1.toInt l2.toInt l3.toInt l4.toInt l6.toInt (vw h) = dr → jX m_X12_coin 3 0 0 35 [(0, .ref 125), (1, .int l1), (2, .int l2), (3, .int l3), (4, .long l4), (6, .int l6)] [] h 0 0 Q) (k53 : ∀ (l1 : Int32) (l2 : Int32) (l3 : Int32) (l4 : Int64) (l6 : Int32) (l7 : Int64) (l9 : Int32) (l10 : Int32) (h : jH), 399 - l10.toInt < R53 → 0 ≤ l1.toInt ∧ l1.toInt ≤ 39 → 0 ≤ l2.toInt ∧ l2.toInt ≤ 399 → 0 ≤ l3.toInt ∧ l3.toInt ≤ 146399 → 0 ≤ l6.toInt ∧ l6.toInt ≤ 2 → (-7) ≤ l10.toInt ∧ l10.toInt ≤ 399 → 3 - l6.toInt ≤ R35 → jJ jSgM Dy h → jSm fp_X12_coin_r125d h0 h → K53 l1.toInt l2.toInt l3.toInt l4.toInt l6.toInt l7.toInt l9.toInt l10.toInt (vw h) = dr → jX m_X12_coin 3 0 0 53 [(0, .ref 125), (1, .int l1), (2, .int l2), (3, .int l3), (4, .long l4), (6, .int l6), (7, .long l7), (9, .int l9), (10, .int l10)] [] h 0 0 Q) : ∀ (l1 : Int32) (l2 : Int32) (l3 : Int32) (l4 : Int64) (l6 : Int32) (l9 : Int32) (l10 : Int32) (l11 : Int32) (s1 : Int64) (h : jH), 0 ≤ l1.toInt ∧ l1.toInt ≤ 39 → 0 ≤ l2.toInt ∧ l2.toInt ≤ 399 → 0 ≤ l3.toInt ∧ l3.toInt ≤ 146399 → 0 ≤ l6.toInt ∧ l6.toInt ≤ 2 → (-7) ≤ l10.toInt ∧ l10.toInt ≤ 398 → (-1) ≤ l11.toInt ∧ l11.toInt ≤ (-1) → 3 - l6.toInt ≤ R35 → 399 - l10.toInt ≤ R53 → jJ jSgM Dy h → jSm fp_X12_coin_r125d h0 h → d_X12_coin_r125d_5000085 K35 K53  l1.toInt l2.toInt l3.toInt l4.toInt l6.toInt l9.toInt l10.toInt l11.toInt s1.toInt (vw h) = dr → jX m_X12_coin 3 0 0 85 [(0, .ref 125), (1, .int l1), (2, .int l2), (3, .int l3), (4, .long l4), (6, .int l6), (9, .int l9), (10, .int l10), (11, .int l11)] [.long 0, .long s1] h 0 0 Q := by
  intro l1 l2 l3 l4 l6 l9 l10 l11 s1 h y0 y1 y2 y3 y4 y5  m35 m53 J Sm D
  have el4 := jfullL l4
  have el9 := jfull l9
  have es1 := jfullL s1
  unfold d_X12_coin_r125d_5000085 at D
  refine z_ladd rfl rfl jkl_0 (by omega) (fun v1 ev1 => ?_)
  refine x_lstore (lsx9 := [(7, .long v1), (0, .ref 125), (1, .int l1), (2, .int l2), (3, .int l3), (4, .long l4), (6, .int l6), (9, .int l9), (10, .int l10), (11, .int l11)]) rfl rfl rfl ?_
  refine x_iload (x := l9) rfl rfl ?_
  refine x_iload (x := l11) rfl rfl ?_
  refine x_iconst (v := (-1)) rfl ki_m1 ?_
  refine x_icne (tgt := 100) rfl rfl (ti_ne rfl jk_m1 (bn_f (by omega) ?_))
  refine x_iconst (v := 0) rfl ki_0 ?_
  refine x_goto (tgt := 101) rfl rfl ?_
  try rw [show (s1.toInt + 0) = v1.toInt from by omega] at D
  exact jX.sub (jsb_c rfl (jsb_c rfl (jsb_c rfl (jsb_c rfl (jsb_c rfl (jsb_c rfl (jsb_c rfl (jsb_c rfl jsb_n)))))))) (ct_X12_coin_r125d_200101 hD hQ k35 k53 l1 l2 l3 l4 l6 v1 l10 l9 h (jr_of rfl (by omega)) (jr_of rfl (by omega)) (jr_of rfl (by omega)) (jr_of rfl (by omega)) (jr_of rfl (by omega)) (by omega) (by omega) J Sm D)
set_option maxRecDepth 100000 in
set_option maxHeartbeats 4000000 in
theorem ct_X12_coin_r125d_53 {Dy : jH → Prop} {h0 : jH} {Q : Option Value → jH → Prop} {dr : (Int × jW)} {K35 : Int → Int → Int → Int → Int → jW → (Int × jW)} {R35 : Int} (hD : jDk Dy) (hQ : ∀ (v : Int32) hx9, jJ jSgM Dy hx9 → jSm fp_X12_coin_r125d h0 hx9 → dr.1 = v.toInt → dr.2 = vw hx9 → Q (some (.int v)) hx9) (k35 : ∀ (l1 : Int32) (l2 : Int32) (l3 : Int32) (l4 : Int64) (l6 : Int32) (h : jH), 3 - l6.toInt < R35 → 0 ≤ l1.toInt ∧ l1.toInt ≤ 39 → 0 ≤ l2.toInt ∧ l2.toInt ≤ 399 → 0 ≤ l3.toInt ∧ l3.toInt ≤ 146399 → 0 ≤ l6.toInt ∧ l6.toInt ≤ 3 → jJ jSgM Dy h → jSm fp_X12_coin_r125d h0 h → K35 l1.toInt l2.toInt l3.toInt l4.toInt l6.toInt (vw h) = dr → jX m_X12_coin 3 0 0 35 [(0, .ref 125), (1, .int l1), (2, .int l2), (3, .int l3), (4, .long l4), (6, .int l6)] [] h 0 0 Q) : ∀ r : Nat, ∀ (l1 : Int32) (l2 : Int32) (l3 : Int32) (l4 : Int64) (l6 : Int32) (l7 : Int64) (l9 : Int32) (l10 : Int32) (h : jH), 399 - l10.toInt < (r : Int) → 0 ≤ l1.toInt ∧ l1.toInt ≤ 39 → 0 ≤ l2.toInt ∧ l2.toInt ≤ 399 → 0 ≤ l3.toInt ∧ l3.toInt ≤ 146399 → 0 ≤ l6.toInt ∧ l6.toInt ≤ 2 → (-7) ≤ l10.toInt ∧ l10.toInt ≤ 399 → 3 - l6.toInt ≤ R35 → jJ jSgM Dy h → jSm fp_X12_coin_r125d h0 h → d_X12_coin_r125d_53 K35 r l1.toInt l2.toInt l3.toInt l4.toInt l6.toInt l7.toInt l9.toInt l10.toInt (vw h) = dr → jX m_X12_coin 3 0 0 53 [(0, .ref 125), (1, .int l1), (2, .int l2), (3, .int l3), (4, .long l4), (6, .int l6), (7, .long l7), (9, .int l9), (10, .int l10)] [] h 0 0 Q := by
  intro r
  induction r with
  | zero =>
    intro l1 l2 l3 l4 l6 l7 l9 l10 h hm y0 y1 y2 y3 y4  m35 J Sm D
    exfalso
    have el4 := jfullL l4
    have el7 := jfullL l7
    have el9 := jfull l9
    omega
  | succ r ih =>
    intro l1 l2 l3 l4 l6 l7 l9 l10 h hm y0 y1 y2 y3 y4  m35 J Sm D
    have el4 := jfullL l4
    have el7 := jfullL l7
    have el9 := jfull l9
    rw [d_X12_coin_r125d_53.eq_2] at D
    refine x_iload (x := l10) rfl rfl ?_
    refine x_iloadn (x := l2) rfl rfl ?_
    refine x_icge (tgt := 110) rfl rfl (ti_ge rfl rfl ⟨fun c1 => ?_, fun c1 => ?_⟩)
    ·
      rw [if_pos (by omega)] at D
      refine x_lload (x := l4) rfl rfl ?_
      refine x_iload (x := l9) rfl rfl ?_
      refine x_ifne (tgt := 121) rfl rfl (ti_ne rfl jk_0 ⟨fun c2 => ?_, fun c2 => ?_⟩)
      ·
        rw [if_neg (by omega)] at D
        refine x_aloadn (x := 125) rfl rfl ?_
        refine z_getR (N := 92) (b := 173) 12 88 rfl f_12_177 rfl J rfl 16088 ⟨rfl, rfl⟩ rfl ?_
        refine x_iconst (v := 3) rfl ki_3 ?_
        refine x_iloadn (x := l1) rfl rfl ?_
        refine z_imul rfl jk_3 rfl (by omega) (fun v3 ev3 => ?_)
        refine x_iload (x := l6) rfl rfl ?_
        refine z_iadd rfl rfl rfl (by omega) (fun v4 ev4 => ?_)
        refine z_iald (N := 120) rfl J rfl sg_173_0_120_1_0_1 rfl (by omega) (fun v5 qv5 ev5 => ?_)
        try rw [vrd qv5 (show ((3 * l1.toInt) + l6.toInt) = v4.toInt from by omega)] at D
        refine z_i2l rfl rfl (fun v6 ev6 => ?_)
        refine x_lload (x := l7) rfl rfl ?_
        refine z_lmulW rfl rfl rfl (fun v7 ev7 => ?_)
        have fv7 := jfullL v7
        try rw [show v5.toInt = v6.toInt from by omega] at D
        try rw [← ev7] at D
        refine x_sipush (v := 420) rfl ks_420 ?_
        refine x_iload (x := l9) rfl rfl ?_
        refine z_idivW rfl jk_420 rfl (by omega) (fun v8 ev8 => ?_)
        have fv8 := jfull v8
        try rw [← ev8] at D
        refine z_i2l rfl rfl (fun v9 ev9 => ?_)
        refine z_lmulW rfl rfl rfl (fun v10 ev10 => ?_)
        have fv10 := jfullL v10
        try rw [show v8.toInt = v9.toInt from by omega] at D
        try rw [← ev10] at D
        exact jX.sub (jsb_c rfl (jsb_c rfl (jsb_c rfl (jsb_c rfl (jsb_c rfl jsb_n))))) (ct_X12_coin_r125d_144 hD hQ k35 l1 l2 l3 l6 v10 l4 h (jr_of rfl (by omega)) (jr_of rfl (by omega)) (jr_of rfl (by omega)) (jr_of rfl (by omega)) (by omega) J Sm D)
      ·
        rw [if_pos (by omega)] at D
        refine x_lconst (v := 0) rfl kl_0 ?_
        refine x_goto (tgt := 144) rfl rfl ?_
        exact jX.sub (jsb_c rfl (jsb_c rfl (jsb_c rfl (jsb_c rfl (jsb_c rfl jsb_n))))) (ct_X12_coin_r125d_5000144 hD hQ k35 l1 l2 l3 l6 l4 h (jr_of rfl (by omega)) (jr_of rfl (by omega)) (jr_of rfl (by omega)) (jr_of rfl (by omega)) (by omega) J Sm D)
    ·
      rw [if_neg (by omega)] at D
      refine x_aloadn (x := 125) rfl rfl ?_
      refine x_iload (x := l6) rfl rfl ?_
      refine x_iload (x := l10) rfl rfl ?_
      refine x_iloadn (x := l3) rfl rfl ?_
      refine x_inv (N := m_X12_priceOf) (As := [.int l6, .int l10, .int l3]) (b := 125) (st := []) (dx9 := 1) (mc := 0) (ms := 0) (host := "") 12 rfl t_X12_priceOf ⟨Or.inl q_12_858, i_X12_priceOf.1, i_X12_priceOf.2⟩ ⟨by decide, rfl⟩ (congrArg Prod.fst (J.1.1 125 (12, 92) rfl)) rfl (by decide) rfl rfl ⟨by decide, by decide⟩ (sf_X12_priceOf_r125d (jr_of rfl (by omega)) (jr_of rfl (by omega)) (jr_of rfl (by omega)) hD J rfl  (fun v14 h ev14 J S11 X12 X13 => ?_))
      have Sm := jSm_tr rfl Sm S11
      try rw [X12] at D
      try rw [← X13] at D
      show jX m_X12_coin 3 0 0 68 [(0, .ref 125), (1, .int l1), (2, .int l2), (3, .int l3), (4, .long l4), (6, .int l6), (7, .long l7), (9, .int l9), (10, .int l10)] [.int v14] _ 0 0 _
      refine x_istore (lsx9 := [(11, .int v14), (0, .ref 125), (1, .int l1), (2, .int l2), (3, .int l3), (4, .long l4), (6, .int l6), (7, .long l7), (9, .int l9), (10, .int l10)]) rfl rfl rfl ?_
      refine x_lload (x := l7) rfl rfl ?_
      refine x_iload (x := v14) rfl rfl ?_
      refine x_iconst (v := (-1)) rfl ki_m1 ?_
      refine x_icne (tgt := 82) rfl rfl (ti_ne rfl jk_m1 ⟨fun c15 => ?_, fun c15 => ?_⟩)
      ·
        rw [if_neg (by omega)] at D
        refine x_iload (x := v14) rfl rfl ?_
        refine z_i2l rfl rfl (fun v16 ev16 => ?_)
        try rw [show v14.toInt = v16.toInt from by omega] at D
        exact jX.sub (jsb_c rfl (jsb_c rfl (jsb_c rfl (jsb_c rfl (jsb_c rfl (jsb_c rfl (jsb_c rfl (jsb_c rfl (jsb_c rfl jsb_n))))))))) (ct_X12_coin_r125d_85 hD hQ k35 ih l1 l2 l3 l4 l6 l9 l10 v14 v16 l7 h (jr_of rfl (by omega)) (jr_of rfl (by omega)) (jr_of rfl (by omega)) (jr_of rfl (by omega)) (jr_of rfl (by omega)) (jr_of rfl (by omega)) (jr_ofl rfl (by omega)) (by omega) (by omega) J Sm (by rw [show v14.toInt = v16.toInt from by omega]; exact D))
      ·
        rw [if_pos (by omega)] at D
        refine x_lconst (v := 0) rfl kl_0 ?_
        refine x_goto (tgt := 85) rfl rfl ?_
        exact jX.sub (jsb_c rfl (jsb_c rfl (jsb_c rfl (jsb_c rfl (jsb_c rfl (jsb_c rfl (jsb_c rfl (jsb_c rfl (jsb_c rfl jsb_n))))))))) (ct_X12_coin_r125d_5000085 hD hQ k35 ih l1 l2 l3 l4 l6 l9 l10 v14 l7 h (jr_of rfl (by omega)) (jr_of rfl (by omega)) (jr_of rfl (by omega)) (jr_of rfl (by omega)) (jr_of rfl (by omega)) (jr_of rfl (by omega)) (by omega) (by omega) J Sm D)
set_option maxRecDepth 100000 in
set_option maxHeartbeats 4000000 in
theorem ct_X12_coin_r125d_35 {Dy : jH → Prop} {h0 : jH} {Q : Option Value → jH → Prop} {dr : (Int × jW)} (hD : jDk Dy) (hQ : ∀ (v : Int32) hx9, jJ jSgM Dy hx9 → jSm fp_X12_coin_r125d h0 hx9 → dr.1 = v.toInt → dr.2 = vw hx9 → Q (some (.int v)) hx9) : ∀ r : Nat, ∀ (l1 : Int32) (l2 : Int32) (l3 : Int32) (l4 : Int64) (l6 : Int32) (h : jH), 3 - l6.toInt < (r : Int) → 0 ≤ l1.toInt ∧ l1.toInt ≤ 39 → 0 ≤ l2.toInt ∧ l2.toInt ≤ 399 → 0 ≤ l3.toInt ∧ l3.toInt ≤ 146399 → 0 ≤ l6.toInt ∧ l6.toInt ≤ 3 → jJ jSgM Dy h → jSm fp_X12_coin_r125d h0 h → d_X12_coin_r125d_35 r l1.toInt l2.toInt l3.toInt l4.toInt l6.toInt (vw h) = dr → jX m_X12_coin 3 0 0 35 [(0, .ref 125), (1, .int l1), (2, .int l2), (3, .int l3), (4, .long l4), (6, .int l6)] [] h 0 0 Q := by
  intro r
  induction r with
  | zero =>
    intro l1 l2 l3 l4 l6 h hm y0 y1 y2 y3   J Sm D
    exfalso
    have el4 := jfullL l4
    omega
  | succ r ih =>
    intro l1 l2 l3 l4 l6 h hm y0 y1 y2 y3   J Sm D
    have el4 := jfullL l4
    rw [d_X12_coin_r125d_35.eq_2] at D
    refine x_iload (x := l6) rfl rfl ?_
    refine x_iconst (v := 3) rfl ki_3 ?_
    refine x_icge (tgt := 153) rfl rfl (ti_ge rfl jk_3 ⟨fun c1 => ?_, fun c1 => ?_⟩)
    ·
      rw [if_pos (by omega)] at D
      refine x_lload (x := l4) rfl rfl ?_
      refine x_ldc2 (v := 4200) rfl z_12_861 ?_
      refine z_ldivW rfl rfl jkl_4200 (by omega) (fun v2 ev2 => ?_)
      have fv2 := jfullL v2
      try rw [← ev2] at D
      refine z_l2iD rfl rfl (fun v3 ev3 => ?_)
      have fv3 := jfull v3
      try rw [← ev3] at D
      refine x_iret rfl rfl ?_
      exact hQ _ _ J Sm ((congrArg Prod.fst D).symm.trans (show v3.toInt = v3.toInt from by omega)) (congrArg Prod.snd D).symm
    ·
      rw [if_neg (by omega)] at D
      refine x_lconst (v := 0) rfl kl_0 ?_
      refine x_lstore (lsx9 := [(7, .long 0), (0, .ref 125), (1, .int l1), (2, .int l2), (3, .int l3), (4, .long l4), (6, .int l6)]) rfl rfl rfl ?_
      refine x_iconst (v := 0) rfl ki_0 ?_
      refine x_istore (lsx9 := [(9, .int 0), (7, .long 0), (0, .ref 125), (1, .int l1), (2, .int l2), (3, .int l3), (4, .long l4), (6, .int l6)]) rfl rfl rfl ?_
      refine x_iloadn (x := l2) rfl rfl ?_
      refine x_bipush (v := 7) rfl kb_7 ?_
      refine z_isub rfl rfl jk_7 (by omega) (fun v4 ev4 => ?_)
      refine x_istore (lsx9 := [(10, .int v4), (9, .int 0), (7, .long 0), (0, .ref 125), (1, .int l1), (2, .int l2), (3, .int l3), (4, .long l4), (6, .int l6)]) rfl rfl rfl ?_
      try rw [show (l2.toInt - 7) = v4.toInt from by omega] at D
      exact jX.sub (jsb_c rfl (jsb_c rfl (jsb_c rfl (jsb_c rfl (jsb_c rfl (jsb_c rfl (jsb_c rfl (jsb_c rfl (jsb_c rfl jsb_n))))))))) (ct_X12_coin_r125d_53 hD hQ ih 407 l1 l2 l3 l4 l6 0 0 v4 h (by omega) (jr_of rfl (by omega)) (jr_of rfl (by omega)) (jr_of rfl (by omega)) (jr_of rfl (by omega)) (jr_of rfl (by omega)) (by omega) J Sm (by rw [jkl_0, jk_0]; exact D))
set_option maxRecDepth 100000 in
set_option maxHeartbeats 4000000 in
theorem sf_X12_coin_r125d {Dy : jH → Prop} {h : jH} {Q : Option Value → jH → Prop} {dr : (Int × jW)} {a1 : Int32} {a2 : Int32} {a3 : Int32} (hD : jDk Dy) (J : jJ jSgM Dy h) (D : d_X12_coin_r125d a1.toInt a2.toInt a3.toInt (vw h) = dr) (hQ : ∀ (v : Int32) hx9, jJ jSgM Dy hx9 → jSm fp_X12_coin_r125d h hx9 → dr.1 = v.toInt → dr.2 = vw hx9 → Q (some (.int v)) hx9) : jC m_X12_coin 3 0 0 [.ref 125, .int a1, .int a2, .int a3] h Q := by
  refine jC.of rfl k_X12_coin rfl ?_
  have Sm := jSm_rf fp_X12_coin_r125d h
  have ea1 := jfull a1
  have ea2 := jfull a2
  have ea3 := jfull a3
  show jX m_X12_coin 3 0 0 0 [(0, .ref 125), (1, .int a1), (2, .int a2), (3, .int a3)] [] _ 0 0 _
  unfold d_X12_coin_r125d at D
  refine x_aloadn (x := 125) rfl rfl ?_
  refine x_iconst (v := 0) rfl ki_0 ?_
  refine z_putI (N := 92) (w := 0) 12 0 rfl f_12_180 rfl (jfin_no TX12 RX12 92 rfl rfl) hD J Sm rfl rfl jk_0 (pw_125_0 (by omega)) rfl (fun h w1 J Sm => ?_)
  rw [vwf w1 (show 0 = (0 : Int32).toInt from by have := jk_0; omega)] at D
  refine x_aloadn (x := 125) rfl rfl ?_
  refine x_iloadn (x := a1) rfl rfl ?_
  refine x_inv (N := m_X12_isHolding) (As := [.int a1]) (b := 125) (st := []) (dx9 := 2) (mc := 0) (ms := 0) (host := "") 12 rfl t_X12_isHolding ⟨Or.inl q_12_811, i_X12_isHolding.1, i_X12_isHolding.2⟩ ⟨by decide, rfl⟩ (congrArg Prod.fst (J.1.1 125 (12, 92) rfl)) rfl (by decide) rfl rfl ⟨by decide, by decide⟩ (jC.of rfl k_X12_isHolding rfl ?_)
  show jX m_X12_isHolding 2 0 0 0 [(0, .ref 125), (1, .int a1)] [] _ 0 0 _
  refine x_iloadn (x := a1) rfl rfl ?_
  refine z_i2l rfl rfl (fun v2 ev2 => ?_)
  refine x_lconst (v := 0) rfl kl_0 ?_
  refine x_aloadn (x := 125) rfl rfl ?_
  refine z_getR (N := 92) (b := 126) 12 2 rfl f_12_8 rfl J rfl 16002 ⟨rfl, rfl⟩ rfl ?_
  refine x_bipush (v := 7) rfl kb_7 ?_
  refine z_iald (N := 50660) rfl J rfl sg_126_7_8_1_0_1 jk_7 (by omega) (fun v3 qv3 ev3 => ?_)
  try rw [vrn (n := 7) (by decide) (jmb_w w1 qv3 rfl)] at D
  refine z_i2l rfl rfl (fun v4 ev4 => ?_)
  refine x_lconst (v := 1) rfl kl_1 ?_
  refine z_lsub rfl rfl jkl_1 (by omega) (fun v5 ev5 => ?_)
  refine x_inst (N := m_X12_in) (As := [.long v2, .long 0, .long v5]) (st := []) (dx9 := 1) (mc := 0) (ms := 0) (host := "") rfl t_X12_in ⟨Or.inl q_12_188, s_X12_in⟩ rfl (by decide) rfl rfl ⟨by decide, by decide⟩ (zc_X12_in rfl jkl_0 rfl (fun v6 ev6 => ?_))
  show jX m_X12_isHolding 2 0 0 16 [(0, .ref 125), (1, .int a1)] [.int v6] _ 0 0 _
  refine x_zret rfl rfl (jz01 (by omega)) ?_
  show jX m_X12_coin 3 0 0 10 [(0, .ref 125), (1, .int a1), (2, .int a2), (3, .int a3)] [.int v6] _ 0 0 _
  refine x_ifeq (tgt := 27) rfl rfl (ti_eq rfl jk_0 ⟨fun c7 => ?_, fun c7 => ?_⟩)
  ·
    rw [if_neg (by omega)] at D
    exact jX.sub jsb_n (ct_X12_coin_r125d_27 hD hQ  h J Sm D)
  ·
    rw [if_pos (by omega)] at D
    refine x_iloadn (x := a2) rfl rfl ?_
    refine x_inst (N := m_X12_isYear) (As := [.int a2]) (st := []) (dx9 := 2) (mc := 0) (ms := 0) (host := "") rfl t_X12_isYear ⟨Or.inl q_12_817, s_X12_isYear⟩ rfl (by decide) rfl rfl ⟨by decide, by decide⟩ (zc_X12_isYear (d := 1) rfl (fun v8 ev8 => ?_))
    show jX m_X12_coin 3 0 0 17 [(0, .ref 125), (1, .int a1), (2, .int a2), (3, .int a3)] [.int v8] _ 0 0 _
    refine x_ifeq (tgt := 27) rfl rfl (ti_eq rfl jk_0 ⟨fun c9 => ?_, fun c9 => ?_⟩)
    ·
      rw [if_neg (by omega)] at D
      exact jX.sub jsb_n (ct_X12_coin_r125d_27 hD hQ  h J Sm D)
    ·
      rw [if_pos (by omega)] at D
      refine x_iloadn (x := a3) rfl rfl ?_
      refine x_inst (N := m_X12_isDay) (As := [.int a3]) (st := []) (dx9 := 2) (mc := 0) (ms := 0) (host := "") rfl t_X12_isDay ⟨Or.inl q_12_273, s_X12_isDay⟩ rfl (by decide) rfl rfl ⟨by decide, by decide⟩ (zc_X12_isDay (d := 1) rfl (fun v10 ev10 => ?_))
      show jX m_X12_coin 3 0 0 24 [(0, .ref 125), (1, .int a1), (2, .int a2), (3, .int a3)] [.int v10] _ 0 0 _
      refine x_ifne (tgt := 29) rfl rfl (ti_ne rfl jk_0 ⟨fun c11 => ?_, fun c11 => ?_⟩)
      ·
        rw [if_pos (by omega)] at D
        refine x_lconst (v := 0) rfl kl_0 ?_
        refine x_lstore (lsx9 := [(4, .long 0), (0, .ref 125), (1, .int a1), (2, .int a2), (3, .int a3)]) rfl rfl rfl ?_
        refine x_iconst (v := 0) rfl ki_0 ?_
        refine x_istore (lsx9 := [(6, .int 0), (4, .long 0), (0, .ref 125), (1, .int a1), (2, .int a2), (3, .int a3)]) rfl rfl rfl ?_
        exact jX.sub (jsb_c rfl (jsb_c rfl (jsb_c rfl (jsb_c rfl (jsb_c rfl (jsb_c rfl jsb_n)))))) (ct_X12_coin_r125d_35 hD hQ  4 a1 a2 a3 0 0 h (by have := jk_0; omega) (jr_of rfl (by omega)) (jr_of rfl (by omega)) (jr_of rfl (by omega)) (jr_of jk_0 (by omega)) J Sm (by rw [jkl_0, jk_0]; exact D))
      ·
        rw [if_neg (by omega)] at D
        exact jX.sub jsb_n (ct_X12_coin_r125d_27 hD hQ  h J Sm D)
def fp_X12_count_r125d : jFp := [(125, 0, 1)]
set_option maxRecDepth 100000 in
set_option maxHeartbeats 4000000 in
theorem sf_X12_count_r125d {Dy : jH → Prop} {h : jH} {Q : Option Value → jH → Prop} {dr : (Int × jW)} {a1 : Int32} (hD : jDk Dy) (J : jJ jSgM Dy h) (D : d_X12_count_r125d a1.toInt (vw h) = dr) (hQ : ∀ (v : Int32) hx9, (-1) ≤ v.toInt ∧ v.toInt ≤ 400 → jJ jSgM Dy hx9 → jSm fp_X12_count_r125d h hx9 → dr.1 = v.toInt → dr.2 = vw hx9 → Q (some (.int v)) hx9) : jC m_X12_count 1 0 0 [.ref 125, .int a1] h Q := by
  refine jC.of rfl k_X12_count rfl ?_
  have Sm := jSm_rf fp_X12_count_r125d h
  have ea1 := jfull a1
  show jX m_X12_count 1 0 0 0 [(0, .ref 125), (1, .int a1)] [] _ 0 0 _
  unfold d_X12_count_r125d at D
  refine x_aloadn (x := 125) rfl rfl ?_
  refine x_iconst (v := 0) rfl ki_0 ?_
  refine z_putI (N := 92) (w := 0) 12 0 rfl f_12_180 rfl (jfin_no TX12 RX12 92 rfl rfl) hD J Sm rfl rfl jk_0 (pw_125_0 (by omega)) rfl (fun h w1 J Sm => ?_)
  rw [vwf w1 (show 0 = (0 : Int32).toInt from by have := jk_0; omega)] at D
  refine x_iloadn (x := a1) rfl rfl ?_
  by_cases c2 : a1.toInt = 0
  ·
    refine x_tableIn (tgt := 68) 0 rfl c2 (by decide) (by decide) rfl rfl ?_
    rw [if_pos c2] at D
    refine x_aloadn (x := 125) rfl rfl ?_
    refine z_getR (N := 92) (b := 126) 12 2 rfl f_12_8 rfl J rfl 16002 ⟨rfl, rfl⟩ rfl ?_
    refine x_iconst (v := 0) rfl ki_0 ?_
    refine z_iald (N := 50660) rfl J rfl sg_126_0_1_1_0_1 jk_0 (by omega) (fun v3 qv3 ev3 => ?_)
    try rw [vrn (n := 0) (by decide) (jmb_w w1 qv3 rfl)] at D
    refine x_iret rfl rfl ?_
    exact hQ _ _ (jr_of rfl (by omega)) J Sm ((congrArg Prod.fst D).symm.trans (show v3.toInt = v3.toInt from by omega)) (congrArg Prod.snd D).symm
  rw [if_neg c2] at D
  by_cases c4 : a1.toInt = 1
  ·
    refine x_tableIn (tgt := 75) 1 rfl c4 (by decide) (by decide) rfl rfl ?_
    rw [if_pos c4] at D
    refine x_aloadn (x := 125) rfl rfl ?_
    refine z_getR (N := 92) (b := 126) 12 2 rfl f_12_8 rfl J rfl 16002 ⟨rfl, rfl⟩ rfl ?_
    refine x_iconst (v := 4) rfl ki_4 ?_
    refine z_iald (N := 50660) rfl J rfl sg_126_4_5_1_0_1 jk_4 (by omega) (fun v5 qv5 ev5 => ?_)
    try rw [vrn (n := 4) (by decide) (jmb_w w1 qv5 rfl)] at D
    refine x_iret rfl rfl ?_
    exact hQ _ _ (jr_of rfl (by omega)) J Sm ((congrArg Prod.fst D).symm.trans (show v5.toInt = v5.toInt from by omega)) (congrArg Prod.snd D).symm
  rw [if_neg c4] at D
  by_cases c6 : a1.toInt = 2
  ·
    refine x_tableIn (tgt := 82) 2 rfl c6 (by decide) (by decide) rfl rfl ?_
    rw [if_pos c6] at D
    refine x_aloadn (x := 125) rfl rfl ?_
    refine z_getR (N := 92) (b := 126) 12 2 rfl f_12_8 rfl J rfl 16002 ⟨rfl, rfl⟩ rfl ?_
    refine x_iconst (v := 5) rfl ki_5 ?_
    refine z_iald (N := 50660) rfl J rfl sg_126_5_6_1_0_1 jk_5 (by omega) (fun v7 qv7 ev7 => ?_)
    try rw [vrn (n := 5) (by decide) (jmb_w w1 qv7 rfl)] at D
    refine x_iret rfl rfl ?_
    exact hQ _ _ (jr_of rfl (by omega)) J Sm ((congrArg Prod.fst D).symm.trans (show v7.toInt = v7.toInt from by omega)) (congrArg Prod.snd D).symm
  rw [if_neg c6] at D
  by_cases c8 : a1.toInt = 3
  ·
    refine x_tableIn (tgt := 89) 3 rfl c8 (by decide) (by decide) rfl rfl ?_
    rw [if_pos c8] at D
    refine x_aloadn (x := 125) rfl rfl ?_
    refine z_getR (N := 92) (b := 126) 12 2 rfl f_12_8 rfl J rfl 16002 ⟨rfl, rfl⟩ rfl ?_
    refine x_bipush (v := 7) rfl kb_7 ?_
    refine z_iald (N := 50660) rfl J rfl sg_126_7_8_1_0_1 jk_7 (by omega) (fun v9 qv9 ev9 => ?_)
    try rw [vrn (n := 7) (by decide) (jmb_w w1 qv9 rfl)] at D
    refine x_iret rfl rfl ?_
    exact hQ _ _ (jr_of rfl (by omega)) J Sm ((congrArg Prod.fst D).symm.trans (show v9.toInt = v9.toInt from by omega)) (congrArg Prod.snd D).symm
  rw [if_neg c8] at D
  by_cases c10 : a1.toInt = 4
  ·
    refine x_tableIn (tgt := 97) 4 rfl c10 (by decide) (by decide) rfl rfl ?_
    rw [if_pos c10] at D
    refine x_aloadn (x := 125) rfl rfl ?_
    refine z_getR (N := 92) (b := 126) 12 2 rfl f_12_8 rfl J rfl 16002 ⟨rfl, rfl⟩ rfl ?_
    refine x_bipush (v := 16) rfl kb_16 ?_
    refine z_iald (N := 50660) rfl J rfl sg_126_16_17_1_0_1 jk_16 (by omega) (fun v11 qv11 ev11 => ?_)
    try rw [vrn (n := 16) (by decide) (jmb_w w1 qv11 rfl)] at D
    refine x_iret rfl rfl ?_
    exact hQ _ _ (jr_of rfl (by omega)) J Sm ((congrArg Prod.fst D).symm.trans (show v11.toInt = v11.toInt from by omega)) (congrArg Prod.snd D).symm
  rw [if_neg c10] at D
  by_cases c12 : a1.toInt = 5
  ·
    refine x_tableIn (tgt := 105) 5 rfl c12 (by decide) (by decide) rfl rfl ?_
    rw [if_pos c12] at D
    refine x_aloadn (x := 125) rfl rfl ?_
    refine z_getR (N := 92) (b := 126) 12 2 rfl f_12_8 rfl J rfl 16002 ⟨rfl, rfl⟩ rfl ?_
    refine x_bipush (v := 11) rfl kb_11 ?_
    refine z_iald (N := 50660) rfl J rfl sg_126_11_12_1_0_1 jk_11 (by omega) (fun v13 qv13 ev13 => ?_)
    try rw [vrn (n := 11) (by decide) (jmb_w w1 qv13 rfl)] at D
    refine x_iret rfl rfl ?_
    exact hQ _ _ (jr_of rfl (by omega)) J Sm ((congrArg Prod.fst D).symm.trans (show v13.toInt = v13.toInt from by omega)) (congrArg Prod.snd D).symm
  rw [if_neg c12] at D
  by_cases c14 : a1.toInt = 6
  ·
    refine x_tableIn (tgt := 113) 6 rfl c14 (by decide) (by decide) rfl rfl ?_
    rw [if_pos c14] at D
    refine x_aloadn (x := 125) rfl rfl ?_
    refine z_getR (N := 92) (b := 126) 12 2 rfl f_12_8 rfl J rfl 16002 ⟨rfl, rfl⟩ rfl ?_
    refine x_iconst (v := 2) rfl ki_2 ?_
    refine z_iald (N := 50660) rfl J rfl sg_126_2_3_1_0_1 jk_2 (by omega) (fun v15 qv15 ev15 => ?_)
    try rw [vrn (n := 2) (by decide) (jmb_w w1 qv15 rfl)] at D
    refine x_iret rfl rfl ?_
    exact hQ _ _ (jr_of rfl (by omega)) J Sm ((congrArg Prod.fst D).symm.trans (show v15.toInt = v15.toInt from by omega)) (congrArg Prod.snd D).symm
  rw [if_neg c14] at D
  by_cases c16 : a1.toInt = 7
  ·
    refine x_tableIn (tgt := 120) 7 rfl c16 (by decide) (by decide) rfl rfl ?_
    rw [if_pos c16] at D
    refine x_aloadn (x := 125) rfl rfl ?_
    refine z_getI (N := 92) 12 36 rfl f_12_204 rfl J rfl sg_125_36_37_1_0_1 (fun v17 qv17 ev17 => ?_)
    try rw [vrf (jmb_w w1 qv17 rfl)] at D
    refine x_iret rfl rfl ?_
    exact hQ _ _ (jr_of rfl (by omega)) J Sm ((congrArg Prod.fst D).symm.trans (show v17.toInt = v17.toInt from by omega)) (congrArg Prod.snd D).symm
  rw [if_neg c16] at D
  by_cases c18 : a1.toInt = 8
  ·
    refine x_tableIn (tgt := 125) 8 rfl c18 (by decide) (by decide) rfl rfl ?_
    rw [if_pos c18] at D
    refine x_aloadn (x := 125) rfl rfl ?_
    refine z_getI (N := 92) 12 8 rfl f_12_201 rfl J rfl sg_125_8_9_1_0_1 (fun v19 qv19 ev19 => ?_)
    try rw [vrf (jmb_w w1 qv19 rfl)] at D
    refine x_iret rfl rfl ?_
    exact hQ _ _ (jr_of rfl (by omega)) J Sm ((congrArg Prod.fst D).symm.trans (show v19.toInt = v19.toInt from by omega)) (congrArg Prod.snd D).symm
  rw [if_neg c18] at D
  by_cases c20 : a1.toInt = 9
  ·
    refine x_tableIn (tgt := 130) 9 rfl c20 (by decide) (by decide) rfl rfl ?_
    rw [if_pos c20] at D
    refine x_aloadn (x := 125) rfl rfl ?_
    refine z_getR (N := 92) (b := 126) 12 2 rfl f_12_8 rfl J rfl 16002 ⟨rfl, rfl⟩ rfl ?_
    refine x_bipush (v := 6) rfl kb_6 ?_
    refine z_iald (N := 50660) rfl J rfl sg_126_6_7_1_0_1 jk_6 (by omega) (fun v21 qv21 ev21 => ?_)
    try rw [vrn (n := 6) (by decide) (jmb_w w1 qv21 rfl)] at D
    refine x_iret rfl rfl ?_
    exact hQ _ _ (jr_of rfl (by omega)) J Sm ((congrArg Prod.fst D).symm.trans (show v21.toInt = v21.toInt from by omega)) (congrArg Prod.snd D).symm
  rw [if_neg c20] at D
  by_cases c22 : a1.toInt = 10
  ·
    refine x_tableIn (tgt := 138) 10 rfl c22 (by decide) (by decide) rfl rfl ?_
    rw [if_pos c22] at D
    refine x_aloadn (x := 125) rfl rfl ?_
    refine z_getR (N := 92) (b := 126) 12 2 rfl f_12_8 rfl J rfl 16002 ⟨rfl, rfl⟩ rfl ?_
    refine x_bipush (v := 12) rfl kb_12 ?_
    refine z_iald (N := 50660) rfl J rfl sg_126_12_13_1_0_1 jk_12 (by omega) (fun v23 qv23 ev23 => ?_)
    try rw [vrn (n := 12) (by decide) (jmb_w w1 qv23 rfl)] at D
    refine x_iret rfl rfl ?_
    exact hQ _ _ (jr_of rfl (by omega)) J Sm ((congrArg Prod.fst D).symm.trans (show v23.toInt = v23.toInt from by omega)) (congrArg Prod.snd D).symm
  rw [if_neg c22] at D
  by_cases c24 : a1.toInt = 11
  ·
    refine x_tableIn (tgt := 146) 11 rfl c24 (by decide) (by decide) rfl rfl ?_
    rw [if_pos c24] at D
    refine x_aloadn (x := 125) rfl rfl ?_
    refine z_getR (N := 92) (b := 126) 12 2 rfl f_12_8 rfl J rfl 16002 ⟨rfl, rfl⟩ rfl ?_
    refine x_bipush (v := 13) rfl kb_13 ?_
    refine z_iald (N := 50660) rfl J rfl sg_126_13_14_1_0_1 jk_13 (by omega) (fun v25 qv25 ev25 => ?_)
    try rw [vrn (n := 13) (by decide) (jmb_w w1 qv25 rfl)] at D
    refine x_iret rfl rfl ?_
    exact hQ _ _ (jr_of rfl (by omega)) J Sm ((congrArg Prod.fst D).symm.trans (show v25.toInt = v25.toInt from by omega)) (congrArg Prod.snd D).symm
  rw [if_neg c24] at D
  refine x_tableOut (tgt := 154) rfl (by omega) rfl ?_
  refine x_iconst (v := (-1)) rfl ki_m1 ?_
  refine x_iret rfl rfl ?_
  exact hQ _ _ (jr_of jk_m1 (by omega)) J Sm ((congrArg Prod.fst D).symm.trans (show (-1) = ((-1) : Int32).toInt from by have := jk_m1; omega)) (congrArg Prod.snd D).symm
def fp_X12_counts_r125d : jFp := [(125, 0, 1), (125, 28, 29), (125, 31, 32), (125, 32, 33), (125, 33, 34), (125, 34, 35), (125, 35, 36), (125, 57, 58), (125, 61, 62), (125, 62, 63), (125, 63, 64), (125, 64, 65), (125, 65, 66), (125, 66, 67), (137, 0, 80), (138, 0, 2), (139, 0, 600), (140, 0, 200), (152, 0, 360), (153, 0, 30), (154, 0, 400), (155, 0, 360), (162, 0, 40), (163, 0, 40), (164, 0, 40)]
set_option maxRecDepth 100000 in
set_option maxHeartbeats 4000000 in
theorem ct_X12_counts_r125d_52 {Dy : jH → Prop} {h0 : jH} {Q : Option Value → jH → Prop} {dr : (Int × jW)} (hD : jDk Dy) (hQ : ∀ (v : Int64) hx9, jJ jSgM Dy hx9 → jSm fp_X12_counts_r125d h0 hx9 → dr.1 = v.toInt → dr.2 = vw hx9 → Q (some (.long v)) hx9) : ∀ (h : jH), jJ jSgM Dy h → jSm fp_X12_counts_r125d h0 h → d_X12_counts_r125d_52  (vw h) = dr → jX m_X12_counts 12 0 0 52 [] [] h 0 0 Q := by
  intro  h    J Sm D
  unfold d_X12_counts_r125d_52 at D
  refine x_ldc2 (v := (-2000000000000)) rfl z_12_763 ?_
  refine x_lret rfl rfl ?_
  exact hQ _ _ J Sm ((congrArg Prod.fst D).symm.trans (show (-2000000000000) = ((-2000000000000) : Int64).toInt from by have := jkl_m2000000000000; omega)) (congrArg Prod.snd D).symm
set_option maxRecDepth 100000 in
set_option maxHeartbeats 4000000 in
theorem ct_X12_counts_r125d_166 {Dy : jH → Prop} {h0 : jH} {Q : Option Value → jH → Prop} {dr : (Int × jW)} (hD : jDk Dy) (hQ : ∀ (v : Int64) hx9, jJ jSgM Dy hx9 → jSm fp_X12_counts_r125d h0 hx9 → dr.1 = v.toInt → dr.2 = vw hx9 → Q (some (.long v)) hx9) : ∀ (s0 : Int64) (h : jH), jJ jSgM Dy h → jSm fp_X12_counts_r125d h0 h → d_X12_counts_r125d_166  s0.toInt (vw h) = dr → jX m_X12_counts 12 0 0 166 [] [.long s0] h 0 0 Q := by
  intro s0 h    J Sm D
  have es0 := jfullL s0
  unfold d_X12_counts_r125d_166 at D
  refine x_lret rfl rfl ?_
  exact hQ _ _ J Sm ((congrArg Prod.fst D).symm.trans (show s0.toInt = s0.toInt from by omega)) (congrArg Prod.snd D).symm
set_option maxRecDepth 100000 in
set_option maxHeartbeats 4000000 in
theorem ct_X12_counts_r125d_5000166 {Dy : jH → Prop} {h0 : jH} {Q : Option Value → jH → Prop} {dr : (Int × jW)} (hD : jDk Dy) (hQ : ∀ (v : Int64) hx9, jJ jSgM Dy hx9 → jSm fp_X12_counts_r125d h0 hx9 → dr.1 = v.toInt → dr.2 = vw hx9 → Q (some (.long v)) hx9) : ∀ (h : jH), jJ jSgM Dy h → jSm fp_X12_counts_r125d h0 h → d_X12_counts_r125d_5000166  (vw h) = dr → jX m_X12_counts 12 0 0 166 [] [.long (-2000000000000)] h 0 0 Q := by
  intro  h    J Sm D
  unfold d_X12_counts_r125d_5000166 at D
  refine x_lret rfl rfl ?_
  exact hQ _ _ J Sm ((congrArg Prod.fst D).symm.trans (show (-2000000000000) = ((-2000000000000) : Int64).toInt from by have := jkl_m2000000000000; omega)) (congrArg Prod.snd D).symm
set_option maxRecDepth 100000 in
set_option maxHeartbeats 4000000 in
theorem ct_X12_counts_r125d_115 {Dy : jH → Prop} {h0 : jH} {Q : Option Value → jH → Prop} {dr : (Int × jW)} (hD : jDk Dy) (hQ : ∀ (v : Int64) hx9, jJ jSgM Dy hx9 → jSm fp_X12_counts_r125d h0 hx9 → dr.1 = v.toInt → dr.2 = vw hx9 → Q (some (.long v)) hx9) : ∀ (l3 : Int32) (l5 : Int32) (l6 : Int32) (s0 : Int32) (s1 : Int32) (h : jH), 0 ≤ l3.toInt ∧ l3.toInt ≤ 146399 → 0 ≤ l5.toInt ∧ l5.toInt ≤ 2 → 0 ≤ l6.toInt ∧ l6.toInt ≤ 599 → 0 ≤ s0.toInt ∧ s0.toInt ≤ 2 → 3 ≤ s1.toInt ∧ s1.toInt ≤ 7 → s1.toInt % 4 = 3 → jJ jSgM Dy h → jSm fp_X12_counts_r125d h0 h → d_X12_counts_r125d_115  l3.toInt l5.toInt l6.toInt s0.toInt s1.toInt (vw h) = dr → jX m_X12_counts 12 0 0 115 [(0, .ref 125), (3, .int l3), (5, .int l5), (6, .int l6)] [.int s0, .int s1, .ref 125] h 0 0 Q := by
  intro l3 l5 l6 s0 s1 h y0 y1 y2 y3 y4 y5   J Sm D
  unfold d_X12_counts_r125d_115 at D
  refine x_iload (x := l6) rfl rfl ?_
  refine x_iloadn (x := l3) rfl rfl ?_
  refine x_inv (N := m_X12_findCount) (As := [.int s1, .int s0, .int l6, .int l3]) (b := 125) (st := []) (dx9 := 11) (mc := 0) (ms := 0) (host := "") 12 rfl t_X12_findCount ⟨Or.inl q_12_765, i_X12_findCount.1, i_X12_findCount.2⟩ ⟨by decide, rfl⟩ (congrArg Prod.fst (J.1.1 125 (12, 92) rfl)) rfl (by decide) rfl rfl ⟨by decide, by decide⟩ (sf_X12_findCount_r125d (jr_of rfl (by omega)) (jr_of rfl (by omega)) (jr_of rfl (by omega)) (jr_of rfl (by omega)) hD J rfl  (fun h J S1 X2 => ?_))
  have Sm := jSm_tr rfl Sm S1
  rw [X2] at D
  show jX m_X12_counts 12 0 0 121 [(0, .ref 125), (3, .int l3), (5, .int l5), (6, .int l6)] [] _ 0 0 _
  refine x_aloadn (x := 125) rfl rfl ?_
  refine z_getI (N := 92) 12 65 rfl f_12_752 rfl J rfl sg_125_65_66_1_0_1 (fun v3 qv3 ev3 => ?_)
  try rw [vrf qv3] at D
  refine x_iconst (v := (-1)) rfl ki_m1 ?_
  refine x_icne (tgt := 135) rfl rfl (ti_ne rfl jk_m1 ⟨fun c4 => ?_, fun c4 => ?_⟩)
  ·
    rw [if_neg (by omega)] at D
    refine x_iload (x := l5) rfl rfl ?_
    refine x_ifne (tgt := 147) rfl rfl (ti_ne rfl jk_0 ⟨fun c5 => ?_, fun c5 => ?_⟩)
    ·
      rw [if_neg (by omega)] at D
      refine x_iload (x := l5) rfl rfl ?_
      refine x_iconst (v := 1) rfl ki_1 ?_
      refine x_icne (tgt := 161) rfl rfl (ti_ne rfl jk_1 ⟨fun c6 => ?_, fun c6 => ?_⟩)
      ·
        rw [if_neg (by omega)] at D
        refine x_aloadn (x := 125) rfl rfl ?_
        refine z_getI0 (N := 92) 12 66 rfl f_12_758 rfl J rfl (fun v7 qv7 => ?_)
        have ev7 := jfull v7
        try rw [vrf qv7] at D
        refine z_i2l rfl rfl (fun v8 ev8 => ?_)
        try rw [show v7.toInt = v8.toInt from by omega] at D
        exact jX.sub jsb_n (ct_X12_counts_r125d_166 hD hQ  v8 h J Sm D)
      ·
        rw [if_pos (by omega)] at D
        refine x_aloadn (x := 125) rfl rfl ?_
        refine z_getM (N := 92) (v := v3) 12 65 rfl f_12_752 rfl J rfl qv3 ?_
        refine z_i2l rfl rfl (fun v9 ev9 => ?_)
        refine x_goto (tgt := 166) rfl rfl ?_
        try rw [show v3.toInt = v9.toInt from by omega] at D
        exact jX.sub jsb_n (ct_X12_counts_r125d_166 hD hQ  v9 h J Sm D)
    ·
      rw [if_pos (by omega)] at D
      refine x_aloadn (x := 125) rfl rfl ?_
      refine z_getLQ (N := 92) 12 64 rfl f_12_755 rfl J rfl (fun v10 qv10 => ?_)
      have ev10 := jfullL v10
      try rw [vrfL qv10] at D
      refine x_goto (tgt := 166) rfl rfl ?_
      exact jX.sub jsb_n (ct_X12_counts_r125d_166 hD hQ  v10 h J Sm D)
  ·
    rw [if_pos (by omega)] at D
    refine x_ldc2 (v := (-2000000000000)) rfl z_12_763 ?_
    refine x_goto (tgt := 166) rfl rfl ?_
    exact jX.sub jsb_n (ct_X12_counts_r125d_5000166 hD hQ  h J Sm D)
set_option maxRecDepth 100000 in
set_option maxHeartbeats 4000000 in
theorem ct_X12_counts_r125d_200115 {Dy : jH → Prop} {h0 : jH} {Q : Option Value → jH → Prop} {dr : (Int × jW)} (hD : jDk Dy) (hQ : ∀ (v : Int64) hx9, jJ jSgM Dy hx9 → jSm fp_X12_counts_r125d h0 hx9 → dr.1 = v.toInt → dr.2 = vw hx9 → Q (some (.long v)) hx9) : ∀ (l3 : Int32) (l5 : Int32) (l6 : Int32) (s1 : Int32) (h : jH), 0 ≤ l3.toInt ∧ l3.toInt ≤ 146399 → 0 ≤ l5.toInt ∧ l5.toInt ≤ 2 → 0 ≤ l6.toInt ∧ l6.toInt ≤ 599 → 4 ≤ s1.toInt ∧ s1.toInt ≤ 8 → s1.toInt % 4 = 0 → jJ jSgM Dy h → jSm fp_X12_counts_r125d h0 h → d_X12_counts_r125d_200115  l3.toInt l5.toInt l6.toInt s1.toInt (vw h) = dr → jX m_X12_counts 12 0 0 115 [(0, .ref 125), (3, .int l3), (5, .int l5), (6, .int l6)] [.int 0, .int s1, .ref 125] h 0 0 Q := by
  intro l3 l5 l6 s1 h y0 y1 y2 y3 y4   J Sm D
  unfold d_X12_counts_r125d_200115 at D
  refine x_iload (x := l6) rfl rfl ?_
  refine x_iloadn (x := l3) rfl rfl ?_
  refine x_inv (N := m_X12_findCount) (As := [.int s1, .int 0, .int l6, .int l3]) (b := 125) (st := []) (dx9 := 11) (mc := 0) (ms := 0) (host := "") 12 rfl t_X12_findCount ⟨Or.inl q_12_765, i_X12_findCount.1, i_X12_findCount.2⟩ ⟨by decide, rfl⟩ (congrArg Prod.fst (J.1.1 125 (12, 92) rfl)) rfl (by decide) rfl rfl ⟨by decide, by decide⟩ (sf_X12_findCount_r125d (jr_of rfl (by omega)) (jr_of jk_0 (by omega)) (jr_of rfl (by omega)) (jr_of rfl (by omega)) hD J rfl  (fun h J S1 X2 => ?_))
  have Sm := jSm_tr rfl Sm S1
  try rw [jk_0] at X2
  rw [X2] at D
  show jX m_X12_counts 12 0 0 121 [(0, .ref 125), (3, .int l3), (5, .int l5), (6, .int l6)] [] _ 0 0 _
  refine x_aloadn (x := 125) rfl rfl ?_
  refine z_getI (N := 92) 12 65 rfl f_12_752 rfl J rfl sg_125_65_66_1_0_1 (fun v3 qv3 ev3 => ?_)
  try rw [vrf qv3] at D
  refine x_iconst (v := (-1)) rfl ki_m1 ?_
  refine x_icne (tgt := 135) rfl rfl (ti_ne rfl jk_m1 ⟨fun c4 => ?_, fun c4 => ?_⟩)
  ·
    rw [if_neg (by omega)] at D
    refine x_iload (x := l5) rfl rfl ?_
    refine x_ifne (tgt := 147) rfl rfl (ti_ne rfl jk_0 ⟨fun c5 => ?_, fun c5 => ?_⟩)
    ·
      rw [if_neg (by omega)] at D
      refine x_iload (x := l5) rfl rfl ?_
      refine x_iconst (v := 1) rfl ki_1 ?_
      refine x_icne (tgt := 161) rfl rfl (ti_ne rfl jk_1 ⟨fun c6 => ?_, fun c6 => ?_⟩)
      ·
        rw [if_neg (by omega)] at D
        refine x_aloadn (x := 125) rfl rfl ?_
        refine z_getI0 (N := 92) 12 66 rfl f_12_758 rfl J rfl (fun v7 qv7 => ?_)
        have ev7 := jfull v7
        try rw [vrf qv7] at D
        refine z_i2l rfl rfl (fun v8 ev8 => ?_)
        try rw [show v7.toInt = v8.toInt from by omega] at D
        exact jX.sub jsb_n (ct_X12_counts_r125d_166 hD hQ  v8 h J Sm D)
      ·
        rw [if_pos (by omega)] at D
        refine x_aloadn (x := 125) rfl rfl ?_
        refine z_getM (N := 92) (v := v3) 12 65 rfl f_12_752 rfl J rfl qv3 ?_
        refine z_i2l rfl rfl (fun v9 ev9 => ?_)
        refine x_goto (tgt := 166) rfl rfl ?_
        try rw [show v3.toInt = v9.toInt from by omega] at D
        exact jX.sub jsb_n (ct_X12_counts_r125d_166 hD hQ  v9 h J Sm D)
    ·
      rw [if_pos (by omega)] at D
      refine x_aloadn (x := 125) rfl rfl ?_
      refine z_getLQ (N := 92) 12 64 rfl f_12_755 rfl J rfl (fun v10 qv10 => ?_)
      have ev10 := jfullL v10
      try rw [vrfL qv10] at D
      refine x_goto (tgt := 166) rfl rfl ?_
      exact jX.sub jsb_n (ct_X12_counts_r125d_166 hD hQ  v10 h J Sm D)
  ·
    rw [if_pos (by omega)] at D
    refine x_ldc2 (v := (-2000000000000)) rfl z_12_763 ?_
    refine x_goto (tgt := 166) rfl rfl ?_
    exact jX.sub jsb_n (ct_X12_counts_r125d_5000166 hD hQ  h J Sm D)
set_option maxRecDepth 100000 in
set_option maxHeartbeats 4000000 in
theorem ct_X12_counts_r125d_1000114 {Dy : jH → Prop} {h0 : jH} {Q : Option Value → jH → Prop} {dr : (Int × jW)} (hD : jDk Dy) (hQ : ∀ (v : Int64) hx9, jJ jSgM Dy hx9 → jSm fp_X12_counts_r125d h0 hx9 → dr.1 = v.toInt → dr.2 = vw hx9 → Q (some (.long v)) hx9) : ∀ (l3 : Int32) (l5 : Int32) (l6 : Int32) (h : jH), 0 ≤ l3.toInt ∧ l3.toInt ≤ 146399 → 0 ≤ l5.toInt ∧ l5.toInt ≤ 2 → 0 ≤ l6.toInt ∧ l6.toInt ≤ 599 → jJ jSgM Dy h → jSm fp_X12_counts_r125d h0 h → d_X12_counts_r125d_1000114  l3.toInt l5.toInt l6.toInt (vw h) = dr → jX m_X12_counts 12 0 0 114 [(0, .ref 125), (3, .int l3), (5, .int l5), (6, .int l6)] [.int 8, .ref 125] h 0 0 Q := by
  intro l3 l5 l6 h y0 y1 y2   J Sm D
  unfold d_X12_counts_r125d_1000114 at D
  refine x_iconst (v := 0) rfl ki_0 ?_
  exact jX.sub (jsb_c rfl (jsb_c rfl (jsb_c rfl (jsb_c rfl jsb_n)))) (ct_X12_counts_r125d_200115 hD hQ  l3 l5 l6 8 h (jr_of rfl (by omega)) (jr_of rfl (by omega)) (jr_of rfl (by omega)) (jr_of jk_8 (by omega)) (jr_mod jk_8 (by omega)) J Sm (by rw [jk_8]; exact D))
set_option maxRecDepth 100000 in
set_option maxHeartbeats 4000000 in
theorem ct_X12_counts_r125d_600114 {Dy : jH → Prop} {h0 : jH} {Q : Option Value → jH → Prop} {dr : (Int × jW)} (hD : jDk Dy) (hQ : ∀ (v : Int64) hx9, jJ jSgM Dy hx9 → jSm fp_X12_counts_r125d h0 hx9 → dr.1 = v.toInt → dr.2 = vw hx9 → Q (some (.long v)) hx9) : ∀ (l3 : Int32) (l5 : Int32) (l6 : Int32) (h : jH), 0 ≤ l3.toInt ∧ l3.toInt ≤ 146399 → 0 ≤ l5.toInt ∧ l5.toInt ≤ 2 → 0 ≤ l6.toInt ∧ l6.toInt ≤ 599 → jJ jSgM Dy h → jSm fp_X12_counts_r125d h0 h → d_X12_counts_r125d_600114  l3.toInt l5.toInt l6.toInt (vw h) = dr → jX m_X12_counts 12 0 0 114 [(0, .ref 125), (3, .int l3), (5, .int l5), (6, .int l6)] [.int 4, .ref 125] h 0 0 Q := by
  intro l3 l5 l6 h y0 y1 y2   J Sm D
  unfold d_X12_counts_r125d_600114 at D
  refine x_iconst (v := 0) rfl ki_0 ?_
  exact jX.sub (jsb_c rfl (jsb_c rfl (jsb_c rfl (jsb_c rfl jsb_n)))) (ct_X12_counts_r125d_200115 hD hQ  l3 l5 l6 4 h (jr_of rfl (by omega)) (jr_of rfl (by omega)) (jr_of rfl (by omega)) (jr_of jk_4 (by omega)) (jr_mod jk_4 (by omega)) J Sm (by rw [jk_4]; exact D))
set_option maxRecDepth 100000 in
set_option maxHeartbeats 4000000 in
theorem ct_X12_counts_r125d_1000088 {Dy : jH → Prop} {h0 : jH} {Q : Option Value → jH → Prop} {dr : (Int × jW)} (hD : jDk Dy) (hQ : ∀ (v : Int64) hx9, jJ jSgM Dy hx9 → jSm fp_X12_counts_r125d h0 hx9 → dr.1 = v.toInt → dr.2 = vw hx9 → Q (some (.long v)) hx9) : ∀ (l1 : Int32) (l3 : Int32) (l5 : Int32) (l6 : Int32) (h : jH), 7 ≤ l1.toInt ∧ l1.toInt ≤ 7 → 0 ≤ l3.toInt ∧ l3.toInt ≤ 146399 → 0 ≤ l5.toInt ∧ l5.toInt ≤ 2 → 0 ≤ l6.toInt ∧ l6.toInt ≤ 599 → jJ jSgM Dy h → jSm fp_X12_counts_r125d h0 h → d_X12_counts_r125d_1000088  l1.toInt l3.toInt l5.toInt l6.toInt (vw h) = dr → jX m_X12_counts 12 0 0 88 [(0, .ref 125), (1, .int l1), (3, .int l3), (5, .int l5), (6, .int l6)] [.int 8, .ref 125] h 0 0 Q := by
  intro l1 l3 l5 l6 h y0 y1 y2 y3   J Sm D
  unfold d_X12_counts_r125d_1000088 at D
  refine x_iloadn (x := l1) rfl rfl ?_
  refine x_iconst (v := 3) rfl ki_3 ?_
  refine x_icge (tgt := 97) rfl rfl (ti_ge rfl jk_3 (br_t (by omega) ?_))
  refine x_iloadn (x := l1) rfl rfl ?_
  refine x_iconst (v := 3) rfl ki_3 ?_
  refine x_icle (tgt := 114) rfl rfl (ti_le rfl jk_3 (br_f (by omega) ?_))
  refine x_iloadn (x := l1) rfl rfl ?_
  refine x_bipush (v := 7) rfl kb_7 ?_
  refine x_icge (tgt := 114) rfl rfl (ti_ge rfl jk_7 (br_t (by omega) ?_))
  exact jX.sub (jsb_c rfl (jsb_c rfl (jsb_c rfl (jsb_c rfl jsb_n)))) (ct_X12_counts_r125d_1000114 hD hQ  l3 l5 l6 h (jr_of rfl (by omega)) (jr_of rfl (by omega)) (jr_of rfl (by omega)) J Sm D)
set_option maxRecDepth 100000 in
set_option maxHeartbeats 4000000 in
theorem ct_X12_counts_r125d_900088 {Dy : jH → Prop} {h0 : jH} {Q : Option Value → jH → Prop} {dr : (Int × jW)} (hD : jDk Dy) (hQ : ∀ (v : Int64) hx9, jJ jSgM Dy hx9 → jSm fp_X12_counts_r125d h0 hx9 → dr.1 = v.toInt → dr.2 = vw hx9 → Q (some (.long v)) hx9) : ∀ (l1 : Int32) (l3 : Int32) (l5 : Int32) (l6 : Int32) (h : jH), 4 ≤ l1.toInt ∧ l1.toInt ≤ 6 → 0 ≤ l3.toInt ∧ l3.toInt ≤ 146399 → 0 ≤ l5.toInt ∧ l5.toInt ≤ 2 → 0 ≤ l6.toInt ∧ l6.toInt ≤ 599 → jJ jSgM Dy h → jSm fp_X12_counts_r125d h0 h → d_X12_counts_r125d_900088  l1.toInt l3.toInt l5.toInt l6.toInt (vw h) = dr → jX m_X12_counts 12 0 0 88 [(0, .ref 125), (1, .int l1), (3, .int l3), (5, .int l5), (6, .int l6)] [.int 7, .ref 125] h 0 0 Q := by
  intro l1 l3 l5 l6 h y0 y1 y2 y3   J Sm D
  unfold d_X12_counts_r125d_900088 at D
  refine x_iloadn (x := l1) rfl rfl ?_
  refine x_iconst (v := 3) rfl ki_3 ?_
  refine x_icge (tgt := 97) rfl rfl (ti_ge rfl jk_3 (br_t (by omega) ?_))
  refine x_iloadn (x := l1) rfl rfl ?_
  refine x_iconst (v := 3) rfl ki_3 ?_
  refine x_icle (tgt := 114) rfl rfl (ti_le rfl jk_3 (br_f (by omega) ?_))
  refine x_iloadn (x := l1) rfl rfl ?_
  refine x_bipush (v := 7) rfl kb_7 ?_
  refine x_icge (tgt := 114) rfl rfl (ti_ge rfl jk_7 (br_f (by omega) ?_))
  refine x_iloadn (x := l1) rfl rfl ?_
  refine x_iconst (v := 4) rfl ki_4 ?_
  refine z_isub rfl rfl jk_4 (by omega) (fun v1 ev1 => ?_)
  refine x_goto (tgt := 115) rfl rfl ?_
  try rw [show (l1.toInt - 4) = v1.toInt from by omega] at D
  exact jX.sub (jsb_c rfl (jsb_c rfl (jsb_c rfl (jsb_c rfl jsb_n)))) (ct_X12_counts_r125d_115 hD hQ  l3 l5 l6 v1 7 h (jr_of rfl (by omega)) (jr_of rfl (by omega)) (jr_of rfl (by omega)) (jr_of rfl (by omega)) (jr_of jk_7 (by omega)) (jr_mod jk_7 (by omega)) J Sm (by rw [jk_7]; exact D))
set_option maxRecDepth 100000 in
set_option maxHeartbeats 4000000 in
theorem ct_X12_counts_r125d_600088 {Dy : jH → Prop} {h0 : jH} {Q : Option Value → jH → Prop} {dr : (Int × jW)} (hD : jDk Dy) (hQ : ∀ (v : Int64) hx9, jJ jSgM Dy hx9 → jSm fp_X12_counts_r125d h0 hx9 → dr.1 = v.toInt → dr.2 = vw hx9 → Q (some (.long v)) hx9) : ∀ (l1 : Int32) (l3 : Int32) (l5 : Int32) (l6 : Int32) (h : jH), 3 ≤ l1.toInt ∧ l1.toInt ≤ 3 → 0 ≤ l3.toInt ∧ l3.toInt ≤ 146399 → 0 ≤ l5.toInt ∧ l5.toInt ≤ 2 → 0 ≤ l6.toInt ∧ l6.toInt ≤ 599 → jJ jSgM Dy h → jSm fp_X12_counts_r125d h0 h → d_X12_counts_r125d_600088  l1.toInt l3.toInt l5.toInt l6.toInt (vw h) = dr → jX m_X12_counts 12 0 0 88 [(0, .ref 125), (1, .int l1), (3, .int l3), (5, .int l5), (6, .int l6)] [.int 4, .ref 125] h 0 0 Q := by
  intro l1 l3 l5 l6 h y0 y1 y2 y3   J Sm D
  unfold d_X12_counts_r125d_600088 at D
  refine x_iloadn (x := l1) rfl rfl ?_
  refine x_iconst (v := 3) rfl ki_3 ?_
  refine x_icge (tgt := 97) rfl rfl (ti_ge rfl jk_3 (br_t (by omega) ?_))
  refine x_iloadn (x := l1) rfl rfl ?_
  refine x_iconst (v := 3) rfl ki_3 ?_
  refine x_icle (tgt := 114) rfl rfl (ti_le rfl jk_3 (br_t (by omega) ?_))
  exact jX.sub (jsb_c rfl (jsb_c rfl (jsb_c rfl (jsb_c rfl jsb_n)))) (ct_X12_counts_r125d_600114 hD hQ  l3 l5 l6 h (jr_of rfl (by omega)) (jr_of rfl (by omega)) (jr_of rfl (by omega)) J Sm D)
set_option maxRecDepth 100000 in
set_option maxHeartbeats 4000000 in
theorem ct_X12_counts_r125d_500088 {Dy : jH → Prop} {h0 : jH} {Q : Option Value → jH → Prop} {dr : (Int × jW)} (hD : jDk Dy) (hQ : ∀ (v : Int64) hx9, jJ jSgM Dy hx9 → jSm fp_X12_counts_r125d h0 hx9 → dr.1 = v.toInt → dr.2 = vw hx9 → Q (some (.long v)) hx9) : ∀ (l1 : Int32) (l3 : Int32) (l5 : Int32) (l6 : Int32) (h : jH), 0 ≤ l1.toInt ∧ l1.toInt ≤ 2 → 0 ≤ l3.toInt ∧ l3.toInt ≤ 146399 → 0 ≤ l5.toInt ∧ l5.toInt ≤ 2 → 0 ≤ l6.toInt ∧ l6.toInt ≤ 599 → jJ jSgM Dy h → jSm fp_X12_counts_r125d h0 h → d_X12_counts_r125d_500088  l1.toInt l3.toInt l5.toInt l6.toInt (vw h) = dr → jX m_X12_counts 12 0 0 88 [(0, .ref 125), (1, .int l1), (3, .int l3), (5, .int l5), (6, .int l6)] [.int 3, .ref 125] h 0 0 Q := by
  intro l1 l3 l5 l6 h y0 y1 y2 y3   J Sm D
  unfold d_X12_counts_r125d_500088 at D
  refine x_iloadn (x := l1) rfl rfl ?_
  refine x_iconst (v := 3) rfl ki_3 ?_
  refine x_icge (tgt := 97) rfl rfl (ti_ge rfl jk_3 (br_f (by omega) ?_))
  refine x_iloadn (x := l1) rfl rfl ?_
  refine x_goto (tgt := 115) rfl rfl ?_
  exact jX.sub (jsb_c rfl (jsb_c rfl (jsb_c rfl (jsb_c rfl jsb_n)))) (ct_X12_counts_r125d_115 hD hQ  l3 l5 l6 l1 3 h (jr_of rfl (by omega)) (jr_of rfl (by omega)) (jr_of rfl (by omega)) (jr_of rfl (by omega)) (jr_of jk_3 (by omega)) (jr_mod jk_3 (by omega)) J Sm (by rw [jk_3]; exact D))
set_option maxRecDepth 100000 in
set_option maxHeartbeats 4000000 in
theorem sf_X12_counts_r125d {Dy : jH → Prop} {h : jH} {Q : Option Value → jH → Prop} {dr : (Int × jW)} {a1 : Int32} {a2 : Int32} {a3 : Int32} {a4 : Int32} {a5 : Int32} (hD : jDk Dy) (J : jJ jSgM Dy h) (D : d_X12_counts_r125d a1.toInt a2.toInt a3.toInt a4.toInt a5.toInt (vw h) = dr) (hQ : ∀ (v : Int64) hx9, jJ jSgM Dy hx9 → jSm fp_X12_counts_r125d h hx9 → dr.1 = v.toInt → dr.2 = vw hx9 → Q (some (.long v)) hx9) : jC m_X12_counts 12 0 0 [.ref 125, .int a1, .int a2, .int a3, .int a4, .int a5] h Q := by
  refine jC.of rfl k_X12_counts rfl ?_
  have Sm := jSm_rf fp_X12_counts_r125d h
  have ea1 := jfull a1
  have ea2 := jfull a2
  have ea3 := jfull a3
  have ea4 := jfull a4
  have ea5 := jfull a5
  show jX m_X12_counts 12 0 0 0 [(0, .ref 125), (1, .int a1), (2, .int a2), (3, .int a3), (4, .int a4), (5, .int a5)] [] _ 0 0 _
  unfold d_X12_counts_r125d at D
  refine x_aloadn (x := 125) rfl rfl ?_
  refine x_iconst (v := 0) rfl ki_0 ?_
  refine z_putI (N := 92) (w := 0) 12 0 rfl f_12_180 rfl (jfin_no TX12 RX12 92 rfl rfl) hD J Sm rfl rfl jk_0 (pw_125_0 (by omega)) rfl (fun h w1 J Sm => ?_)
  rw [vwf w1 (show 0 = (0 : Int32).toInt from by have := jk_0; omega)] at D
  refine x_aloadn (x := 125) rfl rfl ?_
  refine x_iloadn (x := a2) rfl rfl ?_
  refine x_iload (x := a4) rfl rfl ?_
  refine x_inv (N := m_X12_soulAt) (As := [.int a2, .int a4]) (b := 125) (st := []) (dx9 := 11) (mc := 0) (ms := 0) (host := "") 12 rfl t_X12_soulAt ⟨Or.inl q_12_399, i_X12_soulAt.1, i_X12_soulAt.2⟩ ⟨by decide, rfl⟩ (congrArg Prod.fst (J.1.1 125 (12, 92) rfl)) rfl (by decide) rfl rfl ⟨by decide, by decide⟩ (jC.of rfl k_X12_soulAt rfl ?_)
  show jX m_X12_soulAt 11 0 0 0 [(0, .ref 125), (1, .int a2), (2, .int a4)] [] _ 0 0 _
  refine x_aloadn (x := 125) rfl rfl ?_
  refine x_iloadn (x := a2) rfl rfl ?_
  refine x_inv (N := m_X12_isMention) (As := [.int a2]) (b := 125) (st := []) (dx9 := 10) (mc := 0) (ms := 0) (host := "") 12 rfl t_X12_isMention ⟨Or.inl q_12_322, i_X12_isMention.1, i_X12_isMention.2⟩ ⟨by decide, rfl⟩ (congrArg Prod.fst (J.1.1 125 (12, 92) rfl)) rfl (by decide) rfl rfl ⟨by decide, by decide⟩ (jC.of rfl k_X12_isMention rfl ?_)
  show jX m_X12_isMention 10 0 0 0 [(0, .ref 125), (1, .int a2)] [] _ 0 0 _
  refine x_iloadn (x := a2) rfl rfl ?_
  refine x_iflt (tgt := 34) rfl rfl (ti_lt rfl jk_0 ⟨fun c2 => ?_, fun c2 => ?_⟩)
  ·
    rw [if_pos (by omega)] at D
    refine x_iconst (v := 0) rfl ki_0 ?_
    refine x_zret rfl rfl (by decide) ?_
    show jX m_X12_soulAt 11 0 0 5 [(0, .ref 125), (1, .int a2), (2, .int a4)] [.int 0] _ 0 0 _
    refine x_ifeq (tgt := 15) rfl rfl (ti_eq jk_0 jk_0 (br_t (by omega) ?_))
    refine x_iconst (v := (-1)) rfl ki_m1 ?_
    refine x_iret rfl rfl ?_
    show jX m_X12_counts 12 0 0 12 [(0, .ref 125), (1, .int a1), (2, .int a2), (3, .int a3), (4, .int a4), (5, .int a5)] [.int (-1)] _ 0 0 _
    refine x_istore (lsx9 := [(6, .int (-1)), (0, .ref 125), (1, .int a1), (2, .int a2), (3, .int a3), (4, .int a4), (5, .int a5)]) rfl rfl rfl ?_
    refine x_iload (x := (-1)) rfl rfl ?_
    refine x_iconst (v := (-1)) rfl ki_m1 ?_
    refine x_iceq (tgt := 52) rfl rfl (ti_eq jk_m1 jk_m1 (br_t (by omega) ?_))
    exact jX.sub jsb_n (ct_X12_counts_r125d_52 hD hQ  h J Sm D)
  ·
    rw [if_neg (by omega)] at D
    refine x_aloadn (x := 125) rfl rfl ?_
    refine x_iloadn (x := a2) rfl rfl ?_
    refine x_iconst (v := 3) rfl ki_3 ?_
    refine z_idiv rfl rfl jk_3 (by omega) (by omega) (fun v3 ev3 => ?_)
    refine x_inv (N := m_X12_isLine) (As := [.int v3]) (b := 125) (st := []) (dx9 := 9) (mc := 0) (ms := 0) (host := "") 12 rfl t_X12_isLine ⟨Or.inl q_12_293, i_X12_isLine.1, i_X12_isLine.2⟩ ⟨by decide, rfl⟩ (congrArg Prod.fst (J.1.1 125 (12, 92) rfl)) rfl (by decide) rfl rfl ⟨by decide, by decide⟩ (jC.of rfl k_X12_isLine rfl ?_)
    show jX m_X12_isLine 9 0 0 0 [(0, .ref 125), (1, .int v3)] [] _ 0 0 _
    refine x_iloadn (x := v3) rfl rfl ?_
    refine z_i2l rfl rfl (fun v4 ev4 => ?_)
    refine x_lconst (v := 0) rfl kl_0 ?_
    refine x_aloadn (x := 125) rfl rfl ?_
    refine z_getR (N := 92) (b := 126) 12 2 rfl f_12_8 rfl J rfl 16002 ⟨rfl, rfl⟩ rfl ?_
    refine x_iconst (v := 0) rfl ki_0 ?_
    refine z_iald (N := 50660) rfl J rfl sg_126_0_1_1_0_1 jk_0 (by omega) (fun v5 qv5 ev5 => ?_)
    try rw [vrn (n := 0) (by decide) (jmb_w w1 qv5 rfl)] at D
    refine z_i2l rfl rfl (fun v6 ev6 => ?_)
    refine x_lconst (v := 1) rfl kl_1 ?_
    refine z_lsub rfl rfl jkl_1 (by omega) (fun v7 ev7 => ?_)
    refine x_inst (N := m_X12_in) (As := [.long v4, .long 0, .long v7]) (st := []) (dx9 := 1) (mc := 0) (ms := 0) (host := "") rfl t_X12_in ⟨Or.inl q_12_188, s_X12_in⟩ rfl (by decide) rfl rfl ⟨by decide, by decide⟩ (zc_X12_in rfl jkl_0 rfl (fun v8 ev8 => ?_))
    show jX m_X12_isLine 9 0 0 15 [(0, .ref 125), (1, .int v3)] [.int v8] _ 0 0 _
    refine x_zret rfl rfl (jz01 (by omega)) ?_
    show jX m_X12_isMention 10 0 0 11 [(0, .ref 125), (1, .int a2)] [.int v8] _ 0 0 _
    refine x_ifeq (tgt := 34) rfl rfl (ti_eq rfl jk_0 ⟨fun c9 => ?_, fun c9 => ?_⟩)
    ·
      rw [if_neg (by omega)] at D
      refine x_iconst (v := 0) rfl ki_0 ?_
      refine x_zret rfl rfl (by decide) ?_
      show jX m_X12_soulAt 11 0 0 5 [(0, .ref 125), (1, .int a2), (2, .int a4)] [.int 0] _ 0 0 _
      refine x_ifeq (tgt := 15) rfl rfl (ti_eq jk_0 jk_0 (br_t (by omega) ?_))
      refine x_iconst (v := (-1)) rfl ki_m1 ?_
      refine x_iret rfl rfl ?_
      show jX m_X12_counts 12 0 0 12 [(0, .ref 125), (1, .int a1), (2, .int a2), (3, .int a3), (4, .int a4), (5, .int a5)] [.int (-1)] _ 0 0 _
      refine x_istore (lsx9 := [(6, .int (-1)), (0, .ref 125), (1, .int a1), (2, .int a2), (3, .int a3), (4, .int a4), (5, .int a5)]) rfl rfl rfl ?_
      refine x_iload (x := (-1)) rfl rfl ?_
      refine x_iconst (v := (-1)) rfl ki_m1 ?_
      refine x_iceq (tgt := 52) rfl rfl (ti_eq jk_m1 jk_m1 (br_t (by omega) ?_))
      exact jX.sub jsb_n (ct_X12_counts_r125d_52 hD hQ  h J Sm D)
    ·
      rw [if_pos (by omega)] at D
      refine x_iloadn (x := a2) rfl rfl ?_
      refine x_iconst (v := 3) rfl ki_3 ?_
      refine z_irem rfl rfl jk_3 (by omega) (by omega) (fun v10 ev10 => ?_)
      refine x_aloadn (x := 125) rfl rfl ?_
      refine x_iloadn (x := a2) rfl rfl ?_
      refine x_iconst (v := 3) rfl ki_3 ?_
      refine z_idiv rfl rfl jk_3 (by omega) (by omega) (fun v11 ev11 => ?_)
      refine x_inv (N := m_X12_bookOf) (As := [.int v11]) (b := 125) (st := [.int v10]) (dx9 := 9) (mc := 0) (ms := 0) (host := "") 12 rfl t_X12_bookOf ⟨Or.inl q_12_299, i_X12_bookOf.1, i_X12_bookOf.2⟩ ⟨by decide, rfl⟩ (congrArg Prod.fst (J.1.1 125 (12, 92) rfl)) rfl (by decide) rfl rfl ⟨by decide, by decide⟩ (jC.of rfl k_X12_bookOf rfl ?_)
      show jX m_X12_bookOf 9 0 0 0 [(0, .ref 125), (1, .int v11)] [] _ 0 0 _
      refine x_aloadn (x := 125) rfl rfl ?_
      refine z_getR (N := 92) (b := 126) 12 2 rfl f_12_8 rfl J rfl 16002 ⟨rfl, rfl⟩ rfl ?_
      refine x_aloadn (x := 125) rfl rfl ?_
      refine x_iloadn (x := v11) rfl rfl ?_
      refine x_inv (N := m_X12_at) (As := [.int v11]) (b := 125) (st := [.ref 126]) (dx9 := 8) (mc := 0) (ms := 0) (host := "") 12 rfl t_X12_at ⟨Or.inl q_12_254, i_X12_at.1, i_X12_at.2⟩ ⟨by decide, rfl⟩ (congrArg Prod.fst (J.1.1 125 (12, 92) rfl)) rfl (by decide) rfl rfl ⟨by decide, by decide⟩ (jC.of rfl k_X12_at rfl ?_)
      show jX m_X12_at 8 0 0 0 [(0, .ref 125), (1, .int v11)] [] _ 0 0 _
      refine x_bipush (v := 20) rfl kb_20 ?_
      refine x_bipush (v := 90) rfl kb_90 ?_
      refine x_iloadn (x := v11) rfl rfl ?_
      refine z_imul rfl jk_90 rfl (by omega) (fun v12 ev12 => ?_)
      refine z_iadd rfl jk_20 rfl (by omega) (fun v13 ev13 => ?_)
      refine x_iret rfl rfl ?_
      show jX m_X12_bookOf 9 0 0 9 [(0, .ref 125), (1, .int v11)] [.int v13, .ref 126] _ 0 0 _
      refine z_iald (N := 50660) rfl J rfl sg_126_20_18020_90_0_1 rfl (by omega) (fun v14 qv14 ev14 => ?_)
      try rw [vrd (jmb_w w1 qv14 rfl) (show (20 + (90 * (a2.toInt / 3))) = v13.toInt from by omega)] at D
      refine x_iret rfl rfl ?_
      show jX m_X12_isMention 10 0 0 24 [(0, .ref 125), (1, .int a2)] [.int v14, .int v10] _ 0 0 _
      refine x_inst (N := m_X12_rolesOf) (As := [.int v14]) (st := [.int v10]) (dx9 := 9) (mc := 0) (ms := 0) (host := "") rfl t_X12_rolesOf ⟨Or.inl q_12_286, s_X12_rolesOf⟩ rfl (by decide) rfl rfl ⟨by decide, by decide⟩ (jC.of rfl k_X12_rolesOf rfl ?_)
      show jX m_X12_rolesOf 9 0 0 0 [(0, .int v14)] [] _ 0 0 _
      refine x_iloadn (x := v14) rfl rfl ?_
      refine x_ifne (tgt := 8) rfl rfl (ti_ne rfl jk_0 ⟨fun c15 => ?_, fun c15 => ?_⟩)
      ·
        rw [if_neg (by omega)] at D
        refine x_iloadn (x := v14) rfl rfl ?_
        refine x_iconst (v := 1) rfl ki_1 ?_
        refine x_icne (tgt := 17) rfl rfl (ti_ne rfl jk_1 ⟨fun c16 => ?_, fun c16 => ?_⟩)
        ·
          rw [if_neg (by omega)] at D
          refine x_iconst (v := 1) rfl ki_1 ?_
          refine x_iret rfl rfl ?_
          show jX m_X12_isMention 10 0 0 27 [(0, .ref 125), (1, .int a2)] [.int 1, .int v10] _ 0 0 _
          refine x_icge (tgt := 34) rfl rfl (ti_ge rfl jk_1 ⟨fun c17 => ?_, fun c17 => ?_⟩)
          ·
            rw [if_pos (by omega)] at D
            refine x_iconst (v := 0) rfl ki_0 ?_
            refine x_zret rfl rfl (by decide) ?_
            show jX m_X12_soulAt 11 0 0 5 [(0, .ref 125), (1, .int a2), (2, .int a4)] [.int 0] _ 0 0 _
            refine x_ifeq (tgt := 15) rfl rfl (ti_eq jk_0 jk_0 (br_t (by omega) ?_))
            refine x_iconst (v := (-1)) rfl ki_m1 ?_
            refine x_iret rfl rfl ?_
            show jX m_X12_counts 12 0 0 12 [(0, .ref 125), (1, .int a1), (2, .int a2), (3, .int a3), (4, .int a4), (5, .int a5)] [.int (-1)] _ 0 0 _
            refine x_istore (lsx9 := [(6, .int (-1)), (0, .ref 125), (1, .int a1), (2, .int a2), (3, .int a3), (4, .int a4), (5, .int a5)]) rfl rfl rfl ?_
            refine x_iload (x := (-1)) rfl rfl ?_
            refine x_iconst (v := (-1)) rfl ki_m1 ?_
            refine x_iceq (tgt := 52) rfl rfl (ti_eq jk_m1 jk_m1 (br_t (by omega) ?_))
            exact jX.sub jsb_n (ct_X12_counts_r125d_52 hD hQ  h J Sm D)
          ·
            rw [if_neg (by omega)] at D
            refine x_iconst (v := 1) rfl ki_1 ?_
            refine x_goto (tgt := 35) rfl rfl ?_
            refine x_zret rfl rfl (by decide) ?_
            show jX m_X12_soulAt 11 0 0 5 [(0, .ref 125), (1, .int a2), (2, .int a4)] [.int 1] _ 0 0 _
            refine x_ifeq (tgt := 15) rfl rfl (ti_eq jk_1 jk_0 (br_f (by omega) ?_))
            refine x_iloadn (x := a4) rfl rfl ?_
            refine x_inst (N := m_X12_isDay) (As := [.int a4]) (st := []) (dx9 := 2) (mc := 0) (ms := 0) (host := "") rfl t_X12_isDay ⟨Or.inl q_12_273, s_X12_isDay⟩ rfl (by decide) rfl rfl ⟨by decide, by decide⟩ (zc_X12_isDay (d := 1) rfl (fun v18 ev18 => ?_))
            show jX m_X12_soulAt 11 0 0 12 [(0, .ref 125), (1, .int a2), (2, .int a4)] [.int v18] _ 0 0 _
            refine x_ifne (tgt := 17) rfl rfl (ti_ne rfl jk_0 ⟨fun c19 => ?_, fun c19 => ?_⟩)
            ·
              rw [if_pos (by omega)] at D
              refine x_aloadn (x := 125) rfl rfl ?_
              refine x_iloadn (x := a4) rfl rfl ?_
              refine x_inv (N := m_X12_find) (As := [.int a4]) (b := 125) (st := []) (dx9 := 8) (mc := 0) (ms := 0) (host := "") 12 rfl t_X12_find ⟨Or.inl q_12_393, i_X12_find.1, i_X12_find.2⟩ ⟨by decide, rfl⟩ (congrArg Prod.fst (J.1.1 125 (12, 92) rfl)) rfl (by decide) rfl rfl ⟨by decide, by decide⟩ (sf_X12_find_r125d (jr_of rfl (by omega)) hD J rfl  (fun h J S20 X21 => ?_))
              have Sm := jSm_tr rfl Sm S20
              rw [X21] at D
              show jX m_X12_soulAt 11 0 0 22 [(0, .ref 125), (1, .int a2), (2, .int a4)] [] _ 0 0 _
              refine x_aloadn (x := 125) rfl rfl ?_
              refine z_getR (N := 92) (b := 139) 12 29 rfl f_12_72 rfl J rfl 16029 ⟨rfl, rfl⟩ rfl ?_
              refine x_iloadn (x := a2) rfl rfl ?_
              refine z_iald (N := 600) rfl J rfl sg_139_0_600_1_0_1 rfl (by omega) (fun v22 qv22 ev22 => ?_)
              try rw [vrd qv22 (show a2.toInt = a2.toInt from by omega)] at D
              refine x_iret rfl rfl ?_
              show jX m_X12_counts 12 0 0 12 [(0, .ref 125), (1, .int a1), (2, .int a2), (3, .int a3), (4, .int a4), (5, .int a5)] [.int v22] _ 0 0 _
              refine x_istore (lsx9 := [(6, .int v22), (0, .ref 125), (1, .int a1), (2, .int a2), (3, .int a3), (4, .int a4), (5, .int a5)]) rfl rfl rfl ?_
              refine x_iload (x := v22) rfl rfl ?_
              refine x_iconst (v := (-1)) rfl ki_m1 ?_
              refine x_iceq (tgt := 52) rfl rfl (ti_eq rfl jk_m1 ⟨fun c23 => ?_, fun c23 => ?_⟩)
              ·
                rw [if_pos (by omega)] at D
                exact jX.sub jsb_n (ct_X12_counts_r125d_52 hD hQ  h J Sm D)
              ·
                rw [if_neg (by omega)] at D
                refine x_iloadn (x := a1) rfl rfl ?_
                refine z_i2l rfl rfl (fun v24 ev24 => ?_)
                refine x_lconst (v := 0) rfl kl_0 ?_
                refine x_ldc2 (v := 7) rfl z_12_761 ?_
                refine x_inst (N := m_X12_in) (As := [.long v24, .long 0, .long 7]) (st := []) (dx9 := 1) (mc := 0) (ms := 0) (host := "") rfl t_X12_in ⟨Or.inl q_12_188, s_X12_in⟩ rfl (by decide) rfl rfl ⟨by decide, by decide⟩ (zc_X12_in rfl jkl_0 jkl_7 (fun v25 ev25 => ?_))
                show jX m_X12_counts 12 0 0 29 [(6, .int v22), (0, .ref 125), (1, .int a1), (2, .int a2), (3, .int a3), (4, .int a4), (5, .int a5)] [.int v25] _ 0 0 _
                refine x_ifeq (tgt := 52) rfl rfl (ti_eq rfl jk_0 ⟨fun c26 => ?_, fun c26 => ?_⟩)
                ·
                  rw [if_neg (by omega)] at D
                  exact jX.sub jsb_n (ct_X12_counts_r125d_52 hD hQ  h J Sm D)
                ·
                  rw [if_pos (by omega)] at D
                  refine x_iloadn (x := a3) rfl rfl ?_
                  refine x_inst (N := m_X12_isDay) (As := [.int a3]) (st := []) (dx9 := 2) (mc := 0) (ms := 0) (host := "") rfl t_X12_isDay ⟨Or.inl q_12_273, s_X12_isDay⟩ rfl (by decide) rfl rfl ⟨by decide, by decide⟩ (zc_X12_isDay (d := 1) rfl (fun v27 ev27 => ?_))
                  show jX m_X12_counts 12 0 0 36 [(6, .int v22), (0, .ref 125), (1, .int a1), (2, .int a2), (3, .int a3), (4, .int a4), (5, .int a5)] [.int v27] _ 0 0 _
                  refine x_ifeq (tgt := 52) rfl rfl (ti_eq rfl jk_0 ⟨fun c28 => ?_, fun c28 => ?_⟩)
                  ·
                    rw [if_neg (by omega)] at D
                    exact jX.sub jsb_n (ct_X12_counts_r125d_52 hD hQ  h J Sm D)
                  ·
                    rw [if_pos (by omega)] at D
                    refine x_iload (x := a5) rfl rfl ?_
                    refine z_i2l rfl rfl (fun v29 ev29 => ?_)
                    refine x_lconst (v := 0) rfl kl_0 ?_
                    refine x_ldc2 (v := 2) rfl z_12_482 ?_
                    refine x_inst (N := m_X12_in) (As := [.long v29, .long 0, .long 2]) (st := []) (dx9 := 1) (mc := 0) (ms := 0) (host := "") rfl t_X12_in ⟨Or.inl q_12_188, s_X12_in⟩ rfl (by decide) rfl rfl ⟨by decide, by decide⟩ (zc_X12_in rfl jkl_0 jkl_2 (fun v30 ev30 => ?_))
                    show jX m_X12_counts 12 0 0 49 [(6, .int v22), (0, .ref 125), (1, .int a1), (2, .int a2), (3, .int a3), (4, .int a4), (5, .int a5)] [.int v30] _ 0 0 _
                    refine x_ifne (tgt := 56) rfl rfl (ti_ne rfl jk_0 ⟨fun c31 => ?_, fun c31 => ?_⟩)
                    ·
                      rw [if_pos (by omega)] at D
                      refine x_aloadn (x := 125) rfl rfl ?_
                      refine x_iloadn (x := a1) rfl rfl ?_
                      refine x_iconst (v := 3) rfl ki_3 ?_
                      refine x_icge (tgt := 66) rfl rfl (ti_ge rfl jk_3 ⟨fun c32 => ?_, fun c32 => ?_⟩)
                      ·
                        rw [if_pos (by omega)] at D
                        refine x_iloadn (x := a1) rfl rfl ?_
                        refine x_iconst (v := 3) rfl ki_3 ?_
                        refine x_icne (tgt := 75) rfl rfl (ti_ne rfl jk_3 ⟨fun c33 => ?_, fun c33 => ?_⟩)
                        ·
                          rw [if_neg (by omega)] at D
                          refine x_iloadn (x := a1) rfl rfl ?_
                          refine x_bipush (v := 7) rfl kb_7 ?_
                          refine x_icge (tgt := 86) rfl rfl (ti_ge rfl jk_7 ⟨fun c34 => ?_, fun c34 => ?_⟩)
                          ·
                            rw [if_pos (by omega)] at D
                            refine x_bipush (v := 8) rfl kb_8 ?_
                            exact jX.sub (jsb_c rfl (jsb_c rfl (jsb_c rfl (jsb_c rfl (jsb_c rfl jsb_n))))) (ct_X12_counts_r125d_1000088 hD hQ  a1 a3 a5 v22 h (jr_of rfl (by omega)) (jr_of rfl (by omega)) (jr_of rfl (by omega)) (jr_of rfl (by omega)) J Sm D)
                          ·
                            rw [if_neg (by omega)] at D
                            refine x_bipush (v := 7) rfl kb_7 ?_
                            refine x_goto (tgt := 88) rfl rfl ?_
                            exact jX.sub (jsb_c rfl (jsb_c rfl (jsb_c rfl (jsb_c rfl (jsb_c rfl jsb_n))))) (ct_X12_counts_r125d_900088 hD hQ  a1 a3 a5 v22 h (jr_of rfl (by omega)) (jr_of rfl (by omega)) (jr_of rfl (by omega)) (jr_of rfl (by omega)) J Sm D)
                        ·
                          rw [if_pos (by omega)] at D
                          refine x_iconst (v := 4) rfl ki_4 ?_
                          refine x_goto (tgt := 88) rfl rfl ?_
                          exact jX.sub (jsb_c rfl (jsb_c rfl (jsb_c rfl (jsb_c rfl (jsb_c rfl jsb_n))))) (ct_X12_counts_r125d_600088 hD hQ  a1 a3 a5 v22 h (jr_of rfl (by omega)) (jr_of rfl (by omega)) (jr_of rfl (by omega)) (jr_of rfl (by omega)) J Sm D)
                      ·
                        rw [if_neg (by omega)] at D
                        refine x_iconst (v := 3) rfl ki_3 ?_
                        refine x_goto (tgt := 88) rfl rfl ?_
                        exact jX.sub (jsb_c rfl (jsb_c rfl (jsb_c rfl (jsb_c rfl (jsb_c rfl jsb_n))))) (ct_X12_counts_r125d_500088 hD hQ  a1 a3 a5 v22 h (jr_of rfl (by omega)) (jr_of rfl (by omega)) (jr_of rfl (by omega)) (jr_of rfl (by omega)) J Sm D)
                    ·
                      rw [if_neg (by omega)] at D
                      exact jX.sub jsb_n (ct_X12_counts_r125d_52 hD hQ  h J Sm D)
            ·
              rw [if_neg (by omega)] at D
              refine x_iconst (v := (-1)) rfl ki_m1 ?_
              refine x_iret rfl rfl ?_
              show jX m_X12_counts 12 0 0 12 [(0, .ref 125), (1, .int a1), (2, .int a2), (3, .int a3), (4, .int a4), (5, .int a5)] [.int (-1)] _ 0 0 _
              refine x_istore (lsx9 := [(6, .int (-1)), (0, .ref 125), (1, .int a1), (2, .int a2), (3, .int a3), (4, .int a4), (5, .int a5)]) rfl rfl rfl ?_
              refine x_iload (x := (-1)) rfl rfl ?_
              refine x_iconst (v := (-1)) rfl ki_m1 ?_
              refine x_iceq (tgt := 52) rfl rfl (ti_eq jk_m1 jk_m1 (br_t (by omega) ?_))
              exact jX.sub jsb_n (ct_X12_counts_r125d_52 hD hQ  h J Sm D)
        ·
          rw [if_pos (by omega)] at D
          refine x_iconst (v := 2) rfl ki_2 ?_
          refine x_goto (tgt := 18) rfl rfl ?_
          refine x_iret rfl rfl ?_
          show jX m_X12_isMention 10 0 0 27 [(0, .ref 125), (1, .int a2)] [.int 2, .int v10] _ 0 0 _
          refine x_icge (tgt := 34) rfl rfl (ti_ge rfl jk_2 ⟨fun c35 => ?_, fun c35 => ?_⟩)
          ·
            rw [if_pos (by omega)] at D
            refine x_iconst (v := 0) rfl ki_0 ?_
            refine x_zret rfl rfl (by decide) ?_
            show jX m_X12_soulAt 11 0 0 5 [(0, .ref 125), (1, .int a2), (2, .int a4)] [.int 0] _ 0 0 _
            refine x_ifeq (tgt := 15) rfl rfl (ti_eq jk_0 jk_0 (br_t (by omega) ?_))
            refine x_iconst (v := (-1)) rfl ki_m1 ?_
            refine x_iret rfl rfl ?_
            show jX m_X12_counts 12 0 0 12 [(0, .ref 125), (1, .int a1), (2, .int a2), (3, .int a3), (4, .int a4), (5, .int a5)] [.int (-1)] _ 0 0 _
            refine x_istore (lsx9 := [(6, .int (-1)), (0, .ref 125), (1, .int a1), (2, .int a2), (3, .int a3), (4, .int a4), (5, .int a5)]) rfl rfl rfl ?_
            refine x_iload (x := (-1)) rfl rfl ?_
            refine x_iconst (v := (-1)) rfl ki_m1 ?_
            refine x_iceq (tgt := 52) rfl rfl (ti_eq jk_m1 jk_m1 (br_t (by omega) ?_))
            exact jX.sub jsb_n (ct_X12_counts_r125d_52 hD hQ  h J Sm D)
          ·
            rw [if_neg (by omega)] at D
            refine x_iconst (v := 1) rfl ki_1 ?_
            refine x_goto (tgt := 35) rfl rfl ?_
            refine x_zret rfl rfl (by decide) ?_
            show jX m_X12_soulAt 11 0 0 5 [(0, .ref 125), (1, .int a2), (2, .int a4)] [.int 1] _ 0 0 _
            refine x_ifeq (tgt := 15) rfl rfl (ti_eq jk_1 jk_0 (br_f (by omega) ?_))
            refine x_iloadn (x := a4) rfl rfl ?_
            refine x_inst (N := m_X12_isDay) (As := [.int a4]) (st := []) (dx9 := 2) (mc := 0) (ms := 0) (host := "") rfl t_X12_isDay ⟨Or.inl q_12_273, s_X12_isDay⟩ rfl (by decide) rfl rfl ⟨by decide, by decide⟩ (zc_X12_isDay (d := 1) rfl (fun v36 ev36 => ?_))
            show jX m_X12_soulAt 11 0 0 12 [(0, .ref 125), (1, .int a2), (2, .int a4)] [.int v36] _ 0 0 _
            refine x_ifne (tgt := 17) rfl rfl (ti_ne rfl jk_0 ⟨fun c37 => ?_, fun c37 => ?_⟩)
            ·
              rw [if_pos (by omega)] at D
              refine x_aloadn (x := 125) rfl rfl ?_
              refine x_iloadn (x := a4) rfl rfl ?_
              refine x_inv (N := m_X12_find) (As := [.int a4]) (b := 125) (st := []) (dx9 := 8) (mc := 0) (ms := 0) (host := "") 12 rfl t_X12_find ⟨Or.inl q_12_393, i_X12_find.1, i_X12_find.2⟩ ⟨by decide, rfl⟩ (congrArg Prod.fst (J.1.1 125 (12, 92) rfl)) rfl (by decide) rfl rfl ⟨by decide, by decide⟩ (sf_X12_find_r125d (jr_of rfl (by omega)) hD J rfl  (fun h J S38 X39 => ?_))
              have Sm := jSm_tr rfl Sm S38
              rw [X39] at D
              show jX m_X12_soulAt 11 0 0 22 [(0, .ref 125), (1, .int a2), (2, .int a4)] [] _ 0 0 _
              refine x_aloadn (x := 125) rfl rfl ?_
              refine z_getR (N := 92) (b := 139) 12 29 rfl f_12_72 rfl J rfl 16029 ⟨rfl, rfl⟩ rfl ?_
              refine x_iloadn (x := a2) rfl rfl ?_
              refine z_iald (N := 600) rfl J rfl sg_139_0_600_1_0_1 rfl (by omega) (fun v40 qv40 ev40 => ?_)
              try rw [vrd qv40 (show a2.toInt = a2.toInt from by omega)] at D
              refine x_iret rfl rfl ?_
              show jX m_X12_counts 12 0 0 12 [(0, .ref 125), (1, .int a1), (2, .int a2), (3, .int a3), (4, .int a4), (5, .int a5)] [.int v40] _ 0 0 _
              refine x_istore (lsx9 := [(6, .int v40), (0, .ref 125), (1, .int a1), (2, .int a2), (3, .int a3), (4, .int a4), (5, .int a5)]) rfl rfl rfl ?_
              refine x_iload (x := v40) rfl rfl ?_
              refine x_iconst (v := (-1)) rfl ki_m1 ?_
              refine x_iceq (tgt := 52) rfl rfl (ti_eq rfl jk_m1 ⟨fun c41 => ?_, fun c41 => ?_⟩)
              ·
                rw [if_pos (by omega)] at D
                exact jX.sub jsb_n (ct_X12_counts_r125d_52 hD hQ  h J Sm D)
              ·
                rw [if_neg (by omega)] at D
                refine x_iloadn (x := a1) rfl rfl ?_
                refine z_i2l rfl rfl (fun v42 ev42 => ?_)
                refine x_lconst (v := 0) rfl kl_0 ?_
                refine x_ldc2 (v := 7) rfl z_12_761 ?_
                refine x_inst (N := m_X12_in) (As := [.long v42, .long 0, .long 7]) (st := []) (dx9 := 1) (mc := 0) (ms := 0) (host := "") rfl t_X12_in ⟨Or.inl q_12_188, s_X12_in⟩ rfl (by decide) rfl rfl ⟨by decide, by decide⟩ (zc_X12_in rfl jkl_0 jkl_7 (fun v43 ev43 => ?_))
                show jX m_X12_counts 12 0 0 29 [(6, .int v40), (0, .ref 125), (1, .int a1), (2, .int a2), (3, .int a3), (4, .int a4), (5, .int a5)] [.int v43] _ 0 0 _
                refine x_ifeq (tgt := 52) rfl rfl (ti_eq rfl jk_0 ⟨fun c44 => ?_, fun c44 => ?_⟩)
                ·
                  rw [if_neg (by omega)] at D
                  exact jX.sub jsb_n (ct_X12_counts_r125d_52 hD hQ  h J Sm D)
                ·
                  rw [if_pos (by omega)] at D
                  refine x_iloadn (x := a3) rfl rfl ?_
                  refine x_inst (N := m_X12_isDay) (As := [.int a3]) (st := []) (dx9 := 2) (mc := 0) (ms := 0) (host := "") rfl t_X12_isDay ⟨Or.inl q_12_273, s_X12_isDay⟩ rfl (by decide) rfl rfl ⟨by decide, by decide⟩ (zc_X12_isDay (d := 1) rfl (fun v45 ev45 => ?_))
                  show jX m_X12_counts 12 0 0 36 [(6, .int v40), (0, .ref 125), (1, .int a1), (2, .int a2), (3, .int a3), (4, .int a4), (5, .int a5)] [.int v45] _ 0 0 _
                  refine x_ifeq (tgt := 52) rfl rfl (ti_eq rfl jk_0 ⟨fun c46 => ?_, fun c46 => ?_⟩)
                  ·
                    rw [if_neg (by omega)] at D
                    exact jX.sub jsb_n (ct_X12_counts_r125d_52 hD hQ  h J Sm D)
                  ·
                    rw [if_pos (by omega)] at D
                    refine x_iload (x := a5) rfl rfl ?_
                    refine z_i2l rfl rfl (fun v47 ev47 => ?_)
                    refine x_lconst (v := 0) rfl kl_0 ?_
                    refine x_ldc2 (v := 2) rfl z_12_482 ?_
                    refine x_inst (N := m_X12_in) (As := [.long v47, .long 0, .long 2]) (st := []) (dx9 := 1) (mc := 0) (ms := 0) (host := "") rfl t_X12_in ⟨Or.inl q_12_188, s_X12_in⟩ rfl (by decide) rfl rfl ⟨by decide, by decide⟩ (zc_X12_in rfl jkl_0 jkl_2 (fun v48 ev48 => ?_))
                    show jX m_X12_counts 12 0 0 49 [(6, .int v40), (0, .ref 125), (1, .int a1), (2, .int a2), (3, .int a3), (4, .int a4), (5, .int a5)] [.int v48] _ 0 0 _
                    refine x_ifne (tgt := 56) rfl rfl (ti_ne rfl jk_0 ⟨fun c49 => ?_, fun c49 => ?_⟩)
                    ·
                      rw [if_pos (by omega)] at D
                      refine x_aloadn (x := 125) rfl rfl ?_
                      refine x_iloadn (x := a1) rfl rfl ?_
                      refine x_iconst (v := 3) rfl ki_3 ?_
                      refine x_icge (tgt := 66) rfl rfl (ti_ge rfl jk_3 ⟨fun c50 => ?_, fun c50 => ?_⟩)
                      ·
                        rw [if_pos (by omega)] at D
                        refine x_iloadn (x := a1) rfl rfl ?_
                        refine x_iconst (v := 3) rfl ki_3 ?_
                        refine x_icne (tgt := 75) rfl rfl (ti_ne rfl jk_3 ⟨fun c51 => ?_, fun c51 => ?_⟩)
                        ·
                          rw [if_neg (by omega)] at D
                          refine x_iloadn (x := a1) rfl rfl ?_
                          refine x_bipush (v := 7) rfl kb_7 ?_
                          refine x_icge (tgt := 86) rfl rfl (ti_ge rfl jk_7 ⟨fun c52 => ?_, fun c52 => ?_⟩)
                          ·
                            rw [if_pos (by omega)] at D
                            refine x_bipush (v := 8) rfl kb_8 ?_
                            exact jX.sub (jsb_c rfl (jsb_c rfl (jsb_c rfl (jsb_c rfl (jsb_c rfl jsb_n))))) (ct_X12_counts_r125d_1000088 hD hQ  a1 a3 a5 v40 h (jr_of rfl (by omega)) (jr_of rfl (by omega)) (jr_of rfl (by omega)) (jr_of rfl (by omega)) J Sm D)
                          ·
                            rw [if_neg (by omega)] at D
                            refine x_bipush (v := 7) rfl kb_7 ?_
                            refine x_goto (tgt := 88) rfl rfl ?_
                            exact jX.sub (jsb_c rfl (jsb_c rfl (jsb_c rfl (jsb_c rfl (jsb_c rfl jsb_n))))) (ct_X12_counts_r125d_900088 hD hQ  a1 a3 a5 v40 h (jr_of rfl (by omega)) (jr_of rfl (by omega)) (jr_of rfl (by omega)) (jr_of rfl (by omega)) J Sm D)
                        ·
                          rw [if_pos (by omega)] at D
                          refine x_iconst (v := 4) rfl ki_4 ?_
                          refine x_goto (tgt := 88) rfl rfl ?_
                          exact jX.sub (jsb_c rfl (jsb_c rfl (jsb_c rfl (jsb_c rfl (jsb_c rfl jsb_n))))) (ct_X12_counts_r125d_600088 hD hQ  a1 a3 a5 v40 h (jr_of rfl (by omega)) (jr_of rfl (by omega)) (jr_of rfl (by omega)) (jr_of rfl (by omega)) J Sm D)
                      ·
                        rw [if_neg (by omega)] at D
                        refine x_iconst (v := 3) rfl ki_3 ?_
                        refine x_goto (tgt := 88) rfl rfl ?_
                        exact jX.sub (jsb_c rfl (jsb_c rfl (jsb_c rfl (jsb_c rfl (jsb_c rfl jsb_n))))) (ct_X12_counts_r125d_500088 hD hQ  a1 a3 a5 v40 h (jr_of rfl (by omega)) (jr_of rfl (by omega)) (jr_of rfl (by omega)) (jr_of rfl (by omega)) J Sm D)
                    ·
                      rw [if_neg (by omega)] at D
                      exact jX.sub jsb_n (ct_X12_counts_r125d_52 hD hQ  h J Sm D)
            ·
              rw [if_neg (by omega)] at D
              refine x_iconst (v := (-1)) rfl ki_m1 ?_
              refine x_iret rfl rfl ?_
              show jX m_X12_counts 12 0 0 12 [(0, .ref 125), (1, .int a1), (2, .int a2), (3, .int a3), (4, .int a4), (5, .int a5)] [.int (-1)] _ 0 0 _
              refine x_istore (lsx9 := [(6, .int (-1)), (0, .ref 125), (1, .int a1), (2, .int a2), (3, .int a3), (4, .int a4), (5, .int a5)]) rfl rfl rfl ?_
              refine x_iload (x := (-1)) rfl rfl ?_
              refine x_iconst (v := (-1)) rfl ki_m1 ?_
              refine x_iceq (tgt := 52) rfl rfl (ti_eq jk_m1 jk_m1 (br_t (by omega) ?_))
              exact jX.sub jsb_n (ct_X12_counts_r125d_52 hD hQ  h J Sm D)
      ·
        rw [if_pos (by omega)] at D
        refine x_iconst (v := 3) rfl ki_3 ?_
        refine x_goto (tgt := 18) rfl rfl ?_
        refine x_iret rfl rfl ?_
        show jX m_X12_isMention 10 0 0 27 [(0, .ref 125), (1, .int a2)] [.int 3, .int v10] _ 0 0 _
        refine x_icge (tgt := 34) rfl rfl (ti_ge rfl jk_3 (br_f (by omega) ?_))
        refine x_iconst (v := 1) rfl ki_1 ?_
        refine x_goto (tgt := 35) rfl rfl ?_
        refine x_zret rfl rfl (by decide) ?_
        show jX m_X12_soulAt 11 0 0 5 [(0, .ref 125), (1, .int a2), (2, .int a4)] [.int 1] _ 0 0 _
        refine x_ifeq (tgt := 15) rfl rfl (ti_eq jk_1 jk_0 (br_f (by omega) ?_))
        refine x_iloadn (x := a4) rfl rfl ?_
        refine x_inst (N := m_X12_isDay) (As := [.int a4]) (st := []) (dx9 := 2) (mc := 0) (ms := 0) (host := "") rfl t_X12_isDay ⟨Or.inl q_12_273, s_X12_isDay⟩ rfl (by decide) rfl rfl ⟨by decide, by decide⟩ (zc_X12_isDay (d := 1) rfl (fun v53 ev53 => ?_))
        show jX m_X12_soulAt 11 0 0 12 [(0, .ref 125), (1, .int a2), (2, .int a4)] [.int v53] _ 0 0 _
        refine x_ifne (tgt := 17) rfl rfl (ti_ne rfl jk_0 ⟨fun c54 => ?_, fun c54 => ?_⟩)
        ·
          rw [if_pos (by omega)] at D
          refine x_aloadn (x := 125) rfl rfl ?_
          refine x_iloadn (x := a4) rfl rfl ?_
          refine x_inv (N := m_X12_find) (As := [.int a4]) (b := 125) (st := []) (dx9 := 8) (mc := 0) (ms := 0) (host := "") 12 rfl t_X12_find ⟨Or.inl q_12_393, i_X12_find.1, i_X12_find.2⟩ ⟨by decide, rfl⟩ (congrArg Prod.fst (J.1.1 125 (12, 92) rfl)) rfl (by decide) rfl rfl ⟨by decide, by decide⟩ (sf_X12_find_r125d (jr_of rfl (by omega)) hD J rfl  (fun h J S55 X56 => ?_))
          have Sm := jSm_tr rfl Sm S55
          rw [X56] at D
          show jX m_X12_soulAt 11 0 0 22 [(0, .ref 125), (1, .int a2), (2, .int a4)] [] _ 0 0 _
          refine x_aloadn (x := 125) rfl rfl ?_
          refine z_getR (N := 92) (b := 139) 12 29 rfl f_12_72 rfl J rfl 16029 ⟨rfl, rfl⟩ rfl ?_
          refine x_iloadn (x := a2) rfl rfl ?_
          refine z_iald (N := 600) rfl J rfl sg_139_0_600_1_0_1 rfl (by omega) (fun v57 qv57 ev57 => ?_)
          try rw [vrd qv57 (show a2.toInt = a2.toInt from by omega)] at D
          refine x_iret rfl rfl ?_
          show jX m_X12_counts 12 0 0 12 [(0, .ref 125), (1, .int a1), (2, .int a2), (3, .int a3), (4, .int a4), (5, .int a5)] [.int v57] _ 0 0 _
          refine x_istore (lsx9 := [(6, .int v57), (0, .ref 125), (1, .int a1), (2, .int a2), (3, .int a3), (4, .int a4), (5, .int a5)]) rfl rfl rfl ?_
          refine x_iload (x := v57) rfl rfl ?_
          refine x_iconst (v := (-1)) rfl ki_m1 ?_
          refine x_iceq (tgt := 52) rfl rfl (ti_eq rfl jk_m1 ⟨fun c58 => ?_, fun c58 => ?_⟩)
          ·
            rw [if_pos (by omega)] at D
            exact jX.sub jsb_n (ct_X12_counts_r125d_52 hD hQ  h J Sm D)
          ·
            rw [if_neg (by omega)] at D
            refine x_iloadn (x := a1) rfl rfl ?_
            refine z_i2l rfl rfl (fun v59 ev59 => ?_)
            refine x_lconst (v := 0) rfl kl_0 ?_
            refine x_ldc2 (v := 7) rfl z_12_761 ?_
            refine x_inst (N := m_X12_in) (As := [.long v59, .long 0, .long 7]) (st := []) (dx9 := 1) (mc := 0) (ms := 0) (host := "") rfl t_X12_in ⟨Or.inl q_12_188, s_X12_in⟩ rfl (by decide) rfl rfl ⟨by decide, by decide⟩ (zc_X12_in rfl jkl_0 jkl_7 (fun v60 ev60 => ?_))
            show jX m_X12_counts 12 0 0 29 [(6, .int v57), (0, .ref 125), (1, .int a1), (2, .int a2), (3, .int a3), (4, .int a4), (5, .int a5)] [.int v60] _ 0 0 _
            refine x_ifeq (tgt := 52) rfl rfl (ti_eq rfl jk_0 ⟨fun c61 => ?_, fun c61 => ?_⟩)
            ·
              rw [if_neg (by omega)] at D
              exact jX.sub jsb_n (ct_X12_counts_r125d_52 hD hQ  h J Sm D)
            ·
              rw [if_pos (by omega)] at D
              refine x_iloadn (x := a3) rfl rfl ?_
              refine x_inst (N := m_X12_isDay) (As := [.int a3]) (st := []) (dx9 := 2) (mc := 0) (ms := 0) (host := "") rfl t_X12_isDay ⟨Or.inl q_12_273, s_X12_isDay⟩ rfl (by decide) rfl rfl ⟨by decide, by decide⟩ (zc_X12_isDay (d := 1) rfl (fun v62 ev62 => ?_))
              show jX m_X12_counts 12 0 0 36 [(6, .int v57), (0, .ref 125), (1, .int a1), (2, .int a2), (3, .int a3), (4, .int a4), (5, .int a5)] [.int v62] _ 0 0 _
              refine x_ifeq (tgt := 52) rfl rfl (ti_eq rfl jk_0 ⟨fun c63 => ?_, fun c63 => ?_⟩)
              ·
                rw [if_neg (by omega)] at D
                exact jX.sub jsb_n (ct_X12_counts_r125d_52 hD hQ  h J Sm D)
              ·
                rw [if_pos (by omega)] at D
                refine x_iload (x := a5) rfl rfl ?_
                refine z_i2l rfl rfl (fun v64 ev64 => ?_)
                refine x_lconst (v := 0) rfl kl_0 ?_
                refine x_ldc2 (v := 2) rfl z_12_482 ?_
                refine x_inst (N := m_X12_in) (As := [.long v64, .long 0, .long 2]) (st := []) (dx9 := 1) (mc := 0) (ms := 0) (host := "") rfl t_X12_in ⟨Or.inl q_12_188, s_X12_in⟩ rfl (by decide) rfl rfl ⟨by decide, by decide⟩ (zc_X12_in rfl jkl_0 jkl_2 (fun v65 ev65 => ?_))
                show jX m_X12_counts 12 0 0 49 [(6, .int v57), (0, .ref 125), (1, .int a1), (2, .int a2), (3, .int a3), (4, .int a4), (5, .int a5)] [.int v65] _ 0 0 _
                refine x_ifne (tgt := 56) rfl rfl (ti_ne rfl jk_0 ⟨fun c66 => ?_, fun c66 => ?_⟩)
                ·
                  rw [if_pos (by omega)] at D
                  refine x_aloadn (x := 125) rfl rfl ?_
                  refine x_iloadn (x := a1) rfl rfl ?_
                  refine x_iconst (v := 3) rfl ki_3 ?_
                  refine x_icge (tgt := 66) rfl rfl (ti_ge rfl jk_3 ⟨fun c67 => ?_, fun c67 => ?_⟩)
                  ·
                    rw [if_pos (by omega)] at D
                    refine x_iloadn (x := a1) rfl rfl ?_
                    refine x_iconst (v := 3) rfl ki_3 ?_
                    refine x_icne (tgt := 75) rfl rfl (ti_ne rfl jk_3 ⟨fun c68 => ?_, fun c68 => ?_⟩)
                    ·
                      rw [if_neg (by omega)] at D
                      refine x_iloadn (x := a1) rfl rfl ?_
                      refine x_bipush (v := 7) rfl kb_7 ?_
                      refine x_icge (tgt := 86) rfl rfl (ti_ge rfl jk_7 ⟨fun c69 => ?_, fun c69 => ?_⟩)
                      ·
                        rw [if_pos (by omega)] at D
                        refine x_bipush (v := 8) rfl kb_8 ?_
                        exact jX.sub (jsb_c rfl (jsb_c rfl (jsb_c rfl (jsb_c rfl (jsb_c rfl jsb_n))))) (ct_X12_counts_r125d_1000088 hD hQ  a1 a3 a5 v57 h (jr_of rfl (by omega)) (jr_of rfl (by omega)) (jr_of rfl (by omega)) (jr_of rfl (by omega)) J Sm D)
                      ·
                        rw [if_neg (by omega)] at D
                        refine x_bipush (v := 7) rfl kb_7 ?_
                        refine x_goto (tgt := 88) rfl rfl ?_
                        exact jX.sub (jsb_c rfl (jsb_c rfl (jsb_c rfl (jsb_c rfl (jsb_c rfl jsb_n))))) (ct_X12_counts_r125d_900088 hD hQ  a1 a3 a5 v57 h (jr_of rfl (by omega)) (jr_of rfl (by omega)) (jr_of rfl (by omega)) (jr_of rfl (by omega)) J Sm D)
                    ·
                      rw [if_pos (by omega)] at D
                      refine x_iconst (v := 4) rfl ki_4 ?_
                      refine x_goto (tgt := 88) rfl rfl ?_
                      exact jX.sub (jsb_c rfl (jsb_c rfl (jsb_c rfl (jsb_c rfl (jsb_c rfl jsb_n))))) (ct_X12_counts_r125d_600088 hD hQ  a1 a3 a5 v57 h (jr_of rfl (by omega)) (jr_of rfl (by omega)) (jr_of rfl (by omega)) (jr_of rfl (by omega)) J Sm D)
                  ·
                    rw [if_neg (by omega)] at D
                    refine x_iconst (v := 3) rfl ki_3 ?_
                    refine x_goto (tgt := 88) rfl rfl ?_
                    exact jX.sub (jsb_c rfl (jsb_c rfl (jsb_c rfl (jsb_c rfl (jsb_c rfl jsb_n))))) (ct_X12_counts_r125d_500088 hD hQ  a1 a3 a5 v57 h (jr_of rfl (by omega)) (jr_of rfl (by omega)) (jr_of rfl (by omega)) (jr_of rfl (by omega)) J Sm D)
                ·
                  rw [if_neg (by omega)] at D
                  exact jX.sub jsb_n (ct_X12_counts_r125d_52 hD hQ  h J Sm D)
        ·
          rw [if_neg (by omega)] at D
          refine x_iconst (v := (-1)) rfl ki_m1 ?_
          refine x_iret rfl rfl ?_
          show jX m_X12_counts 12 0 0 12 [(0, .ref 125), (1, .int a1), (2, .int a2), (3, .int a3), (4, .int a4), (5, .int a5)] [.int (-1)] _ 0 0 _
          refine x_istore (lsx9 := [(6, .int (-1)), (0, .ref 125), (1, .int a1), (2, .int a2), (3, .int a3), (4, .int a4), (5, .int a5)]) rfl rfl rfl ?_
          refine x_iload (x := (-1)) rfl rfl ?_
          refine x_iconst (v := (-1)) rfl ki_m1 ?_
          refine x_iceq (tgt := 52) rfl rfl (ti_eq jk_m1 jk_m1 (br_t (by omega) ?_))
          exact jX.sub jsb_n (ct_X12_counts_r125d_52 hD hQ  h J Sm D)
def fp_X12_end_r125d : jFp := [(125, 0, 1), (125, 8, 9)]
set_option maxRecDepth 100000 in
set_option maxHeartbeats 4000000 in
theorem ct_X12_end_r125d_17 {Dy : jH → Prop} {h0 : jH} {Q : Option Value → jH → Prop} {dr : (Int × jW)} (hD : jDk Dy) (hQ : ∀ (v : Int32) hx9, (-1) ≤ v.toInt ∧ v.toInt ≤ 400 → jJ jSgM Dy hx9 → jSm fp_X12_end_r125d h0 hx9 → dr.1 = v.toInt → dr.2 = vw hx9 → Q (some (.int v)) hx9) : ∀ (h : jH), jJ jSgM Dy h → jSm fp_X12_end_r125d h0 h → d_X12_end_r125d_17  (vw h) = dr → jX m_X12_end 1 0 0 17 [] [] h 0 0 Q := by
  intro  h    J Sm D
  unfold d_X12_end_r125d_17 at D
  refine x_iconst (v := (-1)) rfl ki_m1 ?_
  refine x_iret rfl rfl ?_
  exact hQ _ _ (jr_of jk_m1 (by omega)) J Sm ((congrArg Prod.fst D).symm.trans (show (-1) = ((-1) : Int32).toInt from by have := jk_m1; omega)) (congrArg Prod.snd D).symm
set_option maxRecDepth 100000 in
set_option maxHeartbeats 4000000 in
theorem sf_X12_end_r125d {Dy : jH → Prop} {h : jH} {Q : Option Value → jH → Prop} {dr : (Int × jW)} {a1 : Int32} (hD : jDk Dy) (J : jJ jSgM Dy h) (D : d_X12_end_r125d a1.toInt (vw h) = dr) (hQ : ∀ (v : Int32) hx9, (-1) ≤ v.toInt ∧ v.toInt ≤ 400 → jJ jSgM Dy hx9 → jSm fp_X12_end_r125d h hx9 → dr.1 = v.toInt → dr.2 = vw hx9 → Q (some (.int v)) hx9) : jC m_X12_end 1 0 0 [.ref 125, .int a1] h Q := by
  refine jC.of rfl k_X12_end rfl ?_
  have Sm := jSm_rf fp_X12_end_r125d h
  have ea1 := jfull a1
  show jX m_X12_end 1 0 0 0 [(0, .ref 125), (1, .int a1)] [] _ 0 0 _
  unfold d_X12_end_r125d at D
  refine x_aloadn (x := 125) rfl rfl ?_
  refine x_iconst (v := 0) rfl ki_0 ?_
  refine z_putI (N := 92) (w := 0) 12 0 rfl f_12_180 rfl (jfin_no TX12 RX12 92 rfl rfl) hD J Sm rfl rfl jk_0 (pw_125_0 (by omega)) rfl (fun h w1 J Sm => ?_)
  rw [vwf w1 (show 0 = (0 : Int32).toInt from by have := jk_0; omega)] at D
  refine x_iloadn (x := a1) rfl rfl ?_
  refine x_iflt (tgt := 17) rfl rfl (ti_lt rfl jk_0 ⟨fun c2 => ?_, fun c2 => ?_⟩)
  ·
    rw [if_pos (by omega)] at D
    exact jX.sub jsb_n (ct_X12_end_r125d_17 hD hQ  h J Sm D)
  ·
    rw [if_neg (by omega)] at D
    refine x_iloadn (x := a1) rfl rfl ?_
    refine x_aloadn (x := 125) rfl rfl ?_
    refine z_getI (N := 92) 12 8 rfl f_12_201 rfl J rfl sg_125_8_9_1_0_1 (fun v3 qv3 ev3 => ?_)
    try rw [vrf (jmb_w w1 qv3 rfl)] at D
    refine x_icle (tgt := 19) rfl rfl (ti_le rfl rfl ⟨fun c4 => ?_, fun c4 => ?_⟩)
    ·
      rw [if_pos (by omega)] at D
      refine x_aloadn (x := 125) rfl rfl ?_
      refine x_iloadn (x := a1) rfl rfl ?_
      refine z_putI (N := 92) (w := a1.toInt) 12 8 rfl f_12_201 rfl (jfin_no TX12 RX12 92 rfl rfl) hD J Sm rfl rfl rfl (pw_125_8 (by omega)) rfl (fun h w5 J Sm => ?_)
      rw [vwf w5 (show a1.toInt = a1.toInt from by omega)] at D
      refine x_iloadn (x := a1) rfl rfl ?_
      refine x_iret rfl rfl ?_
      exact hQ _ _ (jr_of rfl (by omega)) J Sm ((congrArg Prod.fst D).symm.trans (show a1.toInt = a1.toInt from by omega)) (congrArg Prod.snd D).symm
    ·
      rw [if_neg (by omega)] at D
      exact jX.sub jsb_n (ct_X12_end_r125d_17 hD hQ  h J Sm D)
def fp_X12_entry_r125d : jFp := [(125, 0, 1), (125, 1, 2), (126, 13, 14), (126, 48960, 49360)]
set_option maxRecDepth 100000 in
set_option maxHeartbeats 4000000 in
theorem ct_X12_entry_r125d_46 {Dy : jH → Prop} {h0 : jH} {Q : Option Value → jH → Prop} {dr : (Int × jW)} (hD : jDk Dy) (hQ : ∀ (v : Int32) hx9, jJ jSgM Dy hx9 → jSm fp_X12_entry_r125d h0 hx9 → dr.1 = v.toInt → dr.2 = vw hx9 → Q (some (.int v)) hx9) : ∀ (h : jH), jJ jSgM Dy h → jSm fp_X12_entry_r125d h0 h → d_X12_entry_r125d_46  (vw h) = dr → jX m_X12_entry 3 0 0 46 [(0, .ref 125)] [] h 0 0 Q := by
  intro  h    J Sm D
  unfold d_X12_entry_r125d_46 at D
  refine x_aloadn (x := 125) rfl rfl ?_
  refine x_iconst (v := (-1)) rfl ki_m1 ?_
  refine x_inv (N := m_X12_told) (As := [.int (-1)]) (b := 125) (st := []) (dx9 := 1) (mc := 0) (ms := 0) (host := "") 12 rfl t_X12_told ⟨Or.inl q_12_197, i_X12_told.1, i_X12_told.2⟩ ⟨by decide, rfl⟩ (congrArg Prod.fst (J.1.1 125 (12, 92) rfl)) rfl (by decide) rfl rfl ⟨by decide, by decide⟩ (sf_X12_told_r125d  hD J rfl  (fun v4 h J S1 X2 X3 => ?_))
  have ev4 := jfull v4
  have Sm := jSm_tr rfl Sm S1
  try rw [jk_m1] at X2
  try rw [jk_m1] at X3
  try rw [X2] at D
  try rw [X3] at D
  show jX m_X12_entry 3 0 0 51 [(0, .ref 125)] [.int v4] _ 0 0 _
  refine x_iret rfl rfl ?_
  exact hQ _ _ J Sm ((congrArg Prod.fst D).symm.trans X2) ((congrArg Prod.snd D).symm.trans X3)
set_option maxRecDepth 100000 in
set_option maxHeartbeats 4000000 in
theorem sf_X12_entry_r125d {Dy : jH → Prop} {h : jH} {Q : Option Value → jH → Prop} {dr : (Int × jW)} {a1 : Int32} {a2 : Int32} {a3 : Int32} {a4 : Int32} (hD : jDk Dy) (J : jJ jSgM Dy h) (D : d_X12_entry_r125d a1.toInt a2.toInt a3.toInt a4.toInt (vw h) = dr) (hQ : ∀ (v : Int32) hx9, jJ jSgM Dy hx9 → jSm fp_X12_entry_r125d h hx9 → dr.1 = v.toInt → dr.2 = vw hx9 → Q (some (.int v)) hx9) : jC m_X12_entry 3 0 0 [.ref 125, .int a1, .int a2, .int a3, .int a4] h Q := by
  refine jC.of rfl k_X12_entry rfl ?_
  have Sm := jSm_rf fp_X12_entry_r125d h
  have ea1 := jfull a1
  have ea2 := jfull a2
  have ea3 := jfull a3
  have ea4 := jfull a4
  show jX m_X12_entry 3 0 0 0 [(0, .ref 125), (1, .int a1), (2, .int a2), (3, .int a3), (4, .int a4)] [] _ 0 0 _
  unfold d_X12_entry_r125d at D
  refine x_aloadn (x := 125) rfl rfl ?_
  refine x_iconst (v := 0) rfl ki_0 ?_
  refine z_putI (N := 92) (w := 0) 12 0 rfl f_12_180 rfl (jfin_no TX12 RX12 92 rfl rfl) hD J Sm rfl rfl jk_0 (pw_125_0 (by omega)) rfl (fun h w1 J Sm => ?_)
  rw [vwf w1 (show 0 = (0 : Int32).toInt from by have := jk_0; omega)] at D
  refine x_iloadn (x := a1) rfl rfl ?_
  refine z_i2l rfl rfl (fun v2 ev2 => ?_)
  refine x_lconst (v := 0) rfl kl_0 ?_
  refine x_ldc2 (v := 3) rfl z_12_195 ?_
  refine x_inst (N := m_X12_in) (As := [.long v2, .long 0, .long 3]) (st := []) (dx9 := 1) (mc := 0) (ms := 0) (host := "") rfl t_X12_in ⟨Or.inl q_12_188, s_X12_in⟩ rfl (by decide) rfl rfl ⟨by decide, by decide⟩ (zc_X12_in rfl jkl_0 jkl_3 (fun v3 ev3 => ?_))
  show jX m_X12_entry 3 0 0 14 [(0, .ref 125), (1, .int a1), (2, .int a2), (3, .int a3), (4, .int a4)] [.int v3] _ 0 0 _
  refine x_ifeq (tgt := 46) rfl rfl (ti_eq rfl jk_0 ⟨fun c4 => ?_, fun c4 => ?_⟩)
  ·
    rw [if_neg (by omega)] at D
    exact jX.sub (jsb_c rfl jsb_n) (ct_X12_entry_r125d_46 hD hQ  h J Sm D)
  ·
    rw [if_pos (by omega)] at D
    refine x_iloadn (x := a2) rfl rfl ?_
    refine x_inst (N := m_X12_isYear) (As := [.int a2]) (st := []) (dx9 := 2) (mc := 0) (ms := 0) (host := "") rfl t_X12_isYear ⟨Or.inl q_12_817, s_X12_isYear⟩ rfl (by decide) rfl rfl ⟨by decide, by decide⟩ (zc_X12_isYear (d := 1) rfl (fun v5 ev5 => ?_))
    show jX m_X12_entry 3 0 0 21 [(0, .ref 125), (1, .int a1), (2, .int a2), (3, .int a3), (4, .int a4)] [.int v5] _ 0 0 _
    refine x_ifeq (tgt := 46) rfl rfl (ti_eq rfl jk_0 ⟨fun c6 => ?_, fun c6 => ?_⟩)
    ·
      rw [if_neg (by omega)] at D
      exact jX.sub (jsb_c rfl jsb_n) (ct_X12_entry_r125d_46 hD hQ  h J Sm D)
    ·
      rw [if_pos (by omega)] at D
      refine x_iloadn (x := a3) rfl rfl ?_
      refine z_i2l rfl rfl (fun v7 ev7 => ?_)
      refine x_ldc2 (v := (-1000000)) rfl z_12_841 ?_
      refine x_ldc2 (v := 1000000) rfl z_12_244 ?_
      refine x_inst (N := m_X12_in) (As := [.long v7, .long (-1000000), .long 1000000]) (st := []) (dx9 := 1) (mc := 0) (ms := 0) (host := "") rfl t_X12_in ⟨Or.inl q_12_188, s_X12_in⟩ rfl (by decide) rfl rfl ⟨by decide, by decide⟩ (zc_X12_in rfl jkl_m1000000 jkl_1000000 (fun v8 ev8 => ?_))
      show jX m_X12_entry 3 0 0 35 [(0, .ref 125), (1, .int a1), (2, .int a2), (3, .int a3), (4, .int a4)] [.int v8] _ 0 0 _
      refine x_ifeq (tgt := 46) rfl rfl (ti_eq rfl jk_0 ⟨fun c9 => ?_, fun c9 => ?_⟩)
      ·
        rw [if_neg (by omega)] at D
        exact jX.sub (jsb_c rfl jsb_n) (ct_X12_entry_r125d_46 hD hQ  h J Sm D)
      ·
        rw [if_pos (by omega)] at D
        refine x_iload (x := a4) rfl rfl ?_
        refine x_inst (N := m_X12_isDay) (As := [.int a4]) (st := []) (dx9 := 2) (mc := 0) (ms := 0) (host := "") rfl t_X12_isDay ⟨Or.inl q_12_273, s_X12_isDay⟩ rfl (by decide) rfl rfl ⟨by decide, by decide⟩ (zc_X12_isDay (d := 1) rfl (fun v10 ev10 => ?_))
        show jX m_X12_entry 3 0 0 43 [(0, .ref 125), (1, .int a1), (2, .int a2), (3, .int a3), (4, .int a4)] [.int v10] _ 0 0 _
        refine x_ifne (tgt := 52) rfl rfl (ti_ne rfl jk_0 ⟨fun c11 => ?_, fun c11 => ?_⟩)
        ·
          rw [if_pos (by omega)] at D
          refine x_aloadn (x := 125) rfl rfl ?_
          refine z_getR (N := 92) (b := 126) 12 2 rfl f_12_8 rfl J rfl 16002 ⟨rfl, rfl⟩ rfl ?_
          refine x_bipush (v := 13) rfl kb_13 ?_
          refine z_iald (N := 50660) rfl J rfl sg_126_13_14_1_0_1 jk_13 (by omega) (fun v12 qv12 ev12 => ?_)
          try rw [vrn (n := 13) (by decide) (jmb_w w1 qv12 rfl)] at D
          refine x_bipush (v := 100) rfl kb_100 ?_
          refine x_icne (tgt := 71) rfl rfl (ti_ne rfl jk_100 ⟨fun c13 => ?_, fun c13 => ?_⟩)
          ·
            rw [if_neg (by omega)] at D
            refine x_aloadn (x := 125) rfl rfl ?_
            refine x_ldcw (v := 48960) rfl z_12_843 ?_
            refine x_iconst (v := 4) rfl ki_4 ?_
            refine x_aloadn (x := 125) rfl rfl ?_
            refine z_getR (N := 92) (b := 126) 12 2 rfl f_12_8 rfl J rfl 16002 ⟨rfl, rfl⟩ rfl ?_
            refine x_bipush (v := 13) rfl kb_13 ?_
            refine z_ialdM (N := 50660) (v := v12) rfl J rfl jk_13 (by omega) qv12 ?_
            refine z_imul rfl jk_4 rfl (by omega) (fun v14 ev14 => ?_)
            refine z_iadd rfl jk_48960 rfl (by omega) (fun v15 ev15 => ?_)
            refine x_iloadn (x := a1) rfl rfl ?_
            refine x_iloadn (x := a2) rfl rfl ?_
            refine x_iloadn (x := a3) rfl rfl ?_
            refine x_iload (x := a4) rfl rfl ?_
            refine x_inv (N := m_X12_addFour) (As := [.int v15, .int a1, .int a2, .int a3, .int a4]) (b := 125) (st := []) (dx9 := 2) (mc := 0) (ms := 0) (host := "") 12 rfl t_X12_addFour ⟨Or.inl q_12_814, i_X12_addFour.1, i_X12_addFour.2⟩ ⟨by decide, rfl⟩ (congrArg Prod.fst (J.1.1 125 (12, 92) rfl)) rfl (by decide) rfl rfl ⟨by decide, by decide⟩ (jC.of rfl k_X12_addFour rfl ?_)
            show jX m_X12_addFour 2 0 0 0 [(0, .ref 125), (1, .int v15), (2, .int a1), (3, .int a2), (4, .int a3), (5, .int a4)] [] _ 0 0 _
            refine x_aloadn (x := 125) rfl rfl ?_
            refine z_getR (N := 92) (b := 126) 12 2 rfl f_12_8 rfl J rfl 16002 ⟨rfl, rfl⟩ rfl ?_
            refine x_iloadn (x := v15) rfl rfl ?_
            refine x_iloadn (x := a1) rfl rfl ?_
            refine z_iast (N := 50660) (l := 48960) (u := 49360) (w := a1.toInt) rfl hD J Sm rfl rfl rfl (by omega) rfl (wr_126_48960 (by omega) (fun q1 q2 q3 q4 => by omega) (fun q1 q2 q3 q4 => by omega) (fun q1 q2 q3 q4 => by omega) (fun q1 q2 q3 q4 => by omega)) rfl (fun h w16 J Sm => ?_)
            rw [vww w16 (show (48960 + (4 * v12.toInt)) = v15.toInt from by omega) (show a1.toInt = a1.toInt from by omega)] at D
            refine x_aloadn (x := 125) rfl rfl ?_
            refine z_getR (N := 92) (b := 126) 12 2 rfl f_12_8 rfl J rfl 16002 ⟨rfl, rfl⟩ rfl ?_
            refine x_iloadn (x := v15) rfl rfl ?_
            refine x_iconst (v := 1) rfl ki_1 ?_
            refine z_iadd rfl rfl jk_1 (by omega) (fun v17 ev17 => ?_)
            refine x_iloadn (x := a2) rfl rfl ?_
            refine z_iast (N := 50660) (l := 48960) (u := 49360) (w := a2.toInt) rfl hD J Sm rfl rfl rfl (by omega) rfl (wr_126_48960 (by omega) (fun q1 q2 q3 q4 => by omega) (fun q1 q2 q3 q4 => by omega) (fun q1 q2 q3 q4 => by omega) (fun q1 q2 q3 q4 => by omega)) rfl (fun h w18 J Sm => ?_)
            rw [vww w18 (show ((48960 + (4 * v12.toInt)) + 1) = v17.toInt from by omega) (show a2.toInt = a2.toInt from by omega)] at D
            refine x_aloadn (x := 125) rfl rfl ?_
            refine z_getR (N := 92) (b := 126) 12 2 rfl f_12_8 rfl J rfl 16002 ⟨rfl, rfl⟩ rfl ?_
            refine x_iloadn (x := v15) rfl rfl ?_
            refine x_iconst (v := 2) rfl ki_2 ?_
            refine z_iadd rfl rfl jk_2 (by omega) (fun v19 ev19 => ?_)
            refine x_iload (x := a3) rfl rfl ?_
            refine z_iast (N := 50660) (l := 48960) (u := 49360) (w := a3.toInt) rfl hD J Sm rfl rfl rfl (by omega) rfl (wr_126_48960 (by omega) (fun q1 q2 q3 q4 => by omega) (fun q1 q2 q3 q4 => by omega) (fun q1 q2 q3 q4 => by omega) (fun q1 q2 q3 q4 => by omega)) rfl (fun h w20 J Sm => ?_)
            rw [vww w20 (show ((48960 + (4 * v12.toInt)) + 2) = v19.toInt from by omega) (show a3.toInt = a3.toInt from by omega)] at D
            refine x_aloadn (x := 125) rfl rfl ?_
            refine z_getR (N := 92) (b := 126) 12 2 rfl f_12_8 rfl J rfl 16002 ⟨rfl, rfl⟩ rfl ?_
            refine x_iloadn (x := v15) rfl rfl ?_
            refine x_iconst (v := 3) rfl ki_3 ?_
            refine z_iadd rfl rfl jk_3 (by omega) (fun v21 ev21 => ?_)
            refine x_iload (x := a4) rfl rfl ?_
            refine z_iast (N := 50660) (l := 48960) (u := 49360) (w := a4.toInt) rfl hD J Sm rfl rfl rfl (by omega) rfl (wr_126_48960 (by omega) (fun q1 q2 q3 q4 => by omega) (fun q1 q2 q3 q4 => by omega) (fun q1 q2 q3 q4 => by omega) (fun q1 q2 q3 q4 => by omega)) rfl (fun h w22 J Sm => ?_)
            rw [vww w22 (show ((48960 + (4 * v12.toInt)) + 3) = v21.toInt from by omega) (show a4.toInt = a4.toInt from by omega)] at D
            refine x_vret rfl rfl ?_
            show jX m_X12_entry 3 0 0 93 [(0, .ref 125), (1, .int a1), (2, .int a2), (3, .int a3), (4, .int a4)] [] _ 0 0 _
            refine x_aloadn (x := 125) rfl rfl ?_
            refine z_getR (N := 92) (b := 126) 12 2 rfl f_12_8 rfl J rfl 16002 ⟨rfl, rfl⟩ rfl ?_
            refine x_bipush (v := 13) rfl kb_13 ?_
            refine x_dup2 rfl rfl rfl ?_
            refine z_ialdM (N := 50660) (v := v12) rfl J rfl jk_13 (by omega) (jmo2 w22 rfl jk_13 (by omega) (jmo2 w20 rfl jk_13 (by omega) (jmo2 w18 rfl jk_13 (by omega) (jmo2 w16 rfl jk_13 (by omega) qv12)))) ?_
            refine x_iconst (v := 1) rfl ki_1 ?_
            refine z_iadd rfl rfl jk_1 (by omega) (fun v23 ev23 => ?_)
            refine z_iast (N := 50660) (l := 13) (u := 14) (w := v23.toInt) rfl hD J Sm rfl rfl jk_13 (by omega) rfl (wr_126_13 (by omega) (fun q1 q2 q3 q4 => by omega)) rfl (fun h w24 J Sm => ?_)
            rw [vwn (n := 13) (by decide) w24 (show (v12.toInt + 1) = v23.toInt from by omega)] at D
            refine x_aloadn (x := 125) rfl rfl ?_
            refine x_aloadn (x := 125) rfl rfl ?_
            refine z_getR (N := 92) (b := 126) 12 2 rfl f_12_8 rfl J rfl 16002 ⟨rfl, rfl⟩ rfl ?_
            refine x_bipush (v := 13) rfl kb_13 ?_
            refine z_ialdM (N := 50660) (v := v23) rfl J rfl jk_13 (by omega) (jmw w24) ?_
            try rw [show (v12.toInt + 1) = v23.toInt from by omega] at D
            refine x_inv (N := m_X12_told) (As := [.int v23]) (b := 125) (st := []) (dx9 := 1) (mc := 0) (ms := 0) (host := "") 12 rfl t_X12_told ⟨Or.inl q_12_197, i_X12_told.1, i_X12_told.2⟩ ⟨by decide, rfl⟩ (congrArg Prod.fst (J.1.1 125 (12, 92) rfl)) rfl (by decide) rfl rfl ⟨by decide, by decide⟩ (sf_X12_told_r125d  hD J rfl  (fun v28 h J S25 X26 X27 => ?_))
            have ev28 := jfull v28
            have Sm := jSm_tr rfl Sm S25
            try rw [X26] at D
            try rw [X27] at D
            show jX m_X12_entry 3 0 0 115 [(0, .ref 125), (1, .int a1), (2, .int a2), (3, .int a3), (4, .int a4)] [.int v28] _ 0 0 _
            refine x_iret rfl rfl ?_
            exact hQ _ _ J Sm ((congrArg Prod.fst D).symm.trans X26) ((congrArg Prod.snd D).symm.trans X27)
          ·
            rw [if_pos (by omega)] at D
            refine x_aloadn (x := 125) rfl rfl ?_
            refine x_bipush (v := (-5)) rfl kb_m5 ?_
            refine x_inv (N := m_X12_told) (As := [.int (-5)]) (b := 125) (st := []) (dx9 := 1) (mc := 0) (ms := 0) (host := "") 12 rfl t_X12_told ⟨Or.inl q_12_197, i_X12_told.1, i_X12_told.2⟩ ⟨by decide, rfl⟩ (congrArg Prod.fst (J.1.1 125 (12, 92) rfl)) rfl (by decide) rfl rfl ⟨by decide, by decide⟩ (sf_X12_told_r125d  hD J rfl  (fun v32 h J S29 X30 X31 => ?_))
            have ev32 := jfull v32
            have Sm := jSm_tr rfl Sm S29
            try rw [jk_m5] at X30
            try rw [jk_m5] at X31
            try rw [X30] at D
            try rw [X31] at D
            show jX m_X12_entry 3 0 0 70 [(0, .ref 125), (1, .int a1), (2, .int a2), (3, .int a3), (4, .int a4)] [.int v32] _ 0 0 _
            refine x_iret rfl rfl ?_
            exact hQ _ _ J Sm ((congrArg Prod.fst D).symm.trans X30) ((congrArg Prod.snd D).symm.trans X31)
        ·
          rw [if_neg (by omega)] at D
          exact jX.sub (jsb_c rfl jsb_n) (ct_X12_entry_r125d_46 hD hQ  h J Sm D)
def fp_X12_fact_r125d : jFp := [(125, 0, 1), (125, 1, 2), (126, 5, 6), (126, 16, 17), (126, 46540, 47140), (126, 49920, 50660)]
set_option maxRecDepth 100000 in
set_option maxHeartbeats 4000000 in
theorem ct_X12_fact_r125d_58 {Dy : jH → Prop} {h0 : jH} {Q : Option Value → jH → Prop} {dr : (Int × jW)} (hD : jDk Dy) (hQ : ∀ (v : Int32) hx9, jJ jSgM Dy hx9 → jSm fp_X12_fact_r125d h0 hx9 → ∀ u0 u1 u2 u3 u4 : Int32, jiv hx9 126 (16 : Int32).toNatClampNeg = u0 → jiv hx9 126 (0 : Int32).toNatClampNeg = u1 → jiv hx9 126 (4 : Int32).toNatClampNeg = u2 → jiv hx9 126 (5 : Int32).toNatClampNeg = u3 → jiv hx9 126 (7 : Int32).toNatClampNeg = u4 → u0.toInt = u1.toInt + u2.toInt + u3.toInt + u4.toInt → dr.1 = v.toInt → dr.2 = vw hx9 → Q (some (.int v)) hx9) : ∀ (g0 : Int32) (g1 : Int32) (g2 : Int32) (g3 : Int32) (g4 : Int32) (h : jH), 0 ≤ g0.toInt ∧ g0.toInt ≤ 200 → 0 ≤ g1.toInt ∧ g1.toInt ≤ 370 → 0 ≤ g2.toInt ∧ g2.toInt ≤ 30 → 0 ≤ g3.toInt ∧ g3.toInt ≤ 100 → 0 ≤ g4.toInt ∧ g4.toInt ≤ 40 → g1.toInt = g0.toInt + g2.toInt + g3.toInt + g4.toInt → jiv h 126 (0 : Int32).toNatClampNeg = g0 → jiv h 126 (16 : Int32).toNatClampNeg = g1 → jiv h 126 (4 : Int32).toNatClampNeg = g2 → jiv h 126 (5 : Int32).toNatClampNeg = g3 → jiv h 126 (7 : Int32).toNatClampNeg = g4 → jJ jSgM Dy h → jSm fp_X12_fact_r125d h0 h → d_X12_fact_r125d_58  (vw h) = dr → jX m_X12_fact 4 0 0 58 [(0, .ref 125)] [] h 0 0 Q := by
  intro g0 g1 g2 g3 g4 h y0 y1 y2 y3 y4 y5 z0 z1 z2 z3 z4  J Sm D
  unfold d_X12_fact_r125d_58 at D
  try rw [vrn (n := 0) (by decide) z0] at D
  try rw [vrn (n := 16) (by decide) z1] at D
  try rw [vrn (n := 4) (by decide) z2] at D
  try rw [vrn (n := 5) (by decide) z3] at D
  try rw [vrn (n := 7) (by decide) z4] at D
  refine x_aloadn (x := 125) rfl rfl ?_
  refine x_iconst (v := (-1)) rfl ki_m1 ?_
  refine x_inv (N := m_X12_told) (As := [.int (-1)]) (b := 125) (st := []) (dx9 := 1) (mc := 0) (ms := 0) (host := "") 12 rfl t_X12_told ⟨Or.inl q_12_197, i_X12_told.1, i_X12_told.2⟩ ⟨by decide, rfl⟩ (congrArg Prod.fst (J.1.1 125 (12, 92) rfl)) rfl (by decide) rfl rfl ⟨by decide, by decide⟩ (sf_X12_told_r125d  hD J rfl  (fun v4 h J S1 X2 X3 => ?_))
  have ev4 := jfull v4
  have Sm := jSm_tr rfl Sm S1
  try rw [jk_m1] at X2
  try rw [jk_m1] at X3
  try rw [X2] at D
  try rw [X3] at D
  show jX m_X12_fact 4 0 0 63 [(0, .ref 125)] [.int v4] _ 0 0 _
  refine x_iret rfl rfl ?_
  exact hQ _ _ J Sm _ _ _ _ _ (jmc S1 rfl z1) (jmc S1 rfl z0) (jmc S1 rfl z2) (jmc S1 rfl z3) (jmc S1 rfl z4) (by omega) ((congrArg Prod.fst D).symm.trans X2) ((congrArg Prod.snd D).symm.trans X3)
set_option maxRecDepth 100000 in
set_option maxHeartbeats 4000000 in
theorem sf_X12_fact_r125d {Dy : jH → Prop} {h : jH} {Q : Option Value → jH → Prop} {dr : (Int × jW)} {a1 : Int32} {a2 : Int32} {a3 : Int32} {a4 : Int32} {a5 : Int32} {a6 : Int32} (hD : jDk Dy) (J : jJ jSgM Dy h) {p0 p1 p2 p3 p4 : Int32} (zp0 : jiv h 126 (16 : Int32).toNatClampNeg = p0) (zp1 : jiv h 126 (0 : Int32).toNatClampNeg = p1) (zp2 : jiv h 126 (4 : Int32).toNatClampNeg = p2) (zp3 : jiv h 126 (5 : Int32).toNatClampNeg = p3) (zp4 : jiv h 126 (7 : Int32).toNatClampNeg = p4) (rl_p0 : p0.toInt = p1.toInt + p2.toInt + p3.toInt + p4.toInt) (D : d_X12_fact_r125d a1.toInt a2.toInt a3.toInt a4.toInt a5.toInt a6.toInt (vw h) = dr) (hQ : ∀ (v : Int32) hx9, jJ jSgM Dy hx9 → jSm fp_X12_fact_r125d h hx9 → ∀ u0 u1 u2 u3 u4 : Int32, jiv hx9 126 (16 : Int32).toNatClampNeg = u0 → jiv hx9 126 (0 : Int32).toNatClampNeg = u1 → jiv hx9 126 (4 : Int32).toNatClampNeg = u2 → jiv hx9 126 (5 : Int32).toNatClampNeg = u3 → jiv hx9 126 (7 : Int32).toNatClampNeg = u4 → u0.toInt = u1.toInt + u2.toInt + u3.toInt + u4.toInt → dr.1 = v.toInt → dr.2 = vw hx9 → Q (some (.int v)) hx9) : jC m_X12_fact 4 0 0 [.ref 125, .int a1, .int a2, .int a3, .int a4, .int a5, .int a6] h Q := by
  refine jC.of rfl k_X12_fact rfl ?_
  have Sm := jSm_rf fp_X12_fact_r125d h
  have ep0 := (show 0 ≤ p0.toInt ∧ p0.toInt ≤ 370 from zp0 ▸ jrg_c J sg_126_16_17_1_0_1 jk_16 (by omega))
  have ep1 := (show 0 ≤ p1.toInt ∧ p1.toInt ≤ 200 from zp1 ▸ jrg_c J sg_126_0_1_1_0_1 jk_0 (by omega))
  have ep2 := (show 0 ≤ p2.toInt ∧ p2.toInt ≤ 30 from zp2 ▸ jrg_c J sg_126_4_5_1_0_1 jk_4 (by omega))
  have ep3 := (show 0 ≤ p3.toInt ∧ p3.toInt ≤ 100 from zp3 ▸ jrg_c J sg_126_5_6_1_0_1 jk_5 (by omega))
  have ep4 := (show 0 ≤ p4.toInt ∧ p4.toInt ≤ 40 from zp4 ▸ jrg_c J sg_126_7_8_1_0_1 jk_7 (by omega))
  have ea1 := jfull a1
  have ea2 := jfull a2
  have ea3 := jfull a3
  have ea4 := jfull a4
  have ea5 := jfull a5
  have ea6 := jfull a6
  show jX m_X12_fact 4 0 0 0 [(0, .ref 125), (1, .int a1), (2, .int a2), (3, .int a3), (4, .int a4), (5, .int a5), (6, .int a6)] [] _ 0 0 _
  unfold d_X12_fact_r125d at D
  try rw [vrn (n := 16) (by decide) zp0] at D
  try rw [vrn (n := 0) (by decide) zp1] at D
  try rw [vrn (n := 4) (by decide) zp2] at D
  try rw [vrn (n := 5) (by decide) zp3] at D
  try rw [vrn (n := 7) (by decide) zp4] at D
  refine x_aloadn (x := 125) rfl rfl ?_
  refine x_iconst (v := 0) rfl ki_0 ?_
  refine z_putI (N := 92) (w := 0) 12 0 rfl f_12_180 rfl (jfin_no TX12 RX12 92 rfl rfl) hD J Sm rfl rfl jk_0 (pw_125_0 (by omega)) rfl (fun h w1 J Sm => ?_)
  rw [vwf w1 (show 0 = (0 : Int32).toInt from by have := jk_0; omega)] at D
  refine x_iloadn (x := a2) rfl rfl ?_
  refine z_i2l rfl rfl (fun v2 ev2 => ?_)
  refine x_lconst (v := 0) rfl kl_0 ?_
  refine x_ldc2 (v := 4) rfl z_12_769 ?_
  refine x_inst (N := m_X12_in) (As := [.long v2, .long 0, .long 4]) (st := []) (dx9 := 1) (mc := 0) (ms := 0) (host := "") rfl t_X12_in ⟨Or.inl q_12_188, s_X12_in⟩ rfl (by decide) rfl rfl ⟨by decide, by decide⟩ (zc_X12_in rfl jkl_0 jkl_4 (fun v3 ev3 => ?_))
  show jX m_X12_fact 4 0 0 14 [(0, .ref 125), (1, .int a1), (2, .int a2), (3, .int a3), (4, .int a4), (5, .int a5), (6, .int a6)] [.int v3] _ 0 0 _
  refine x_ifeq (tgt := 58) rfl rfl (ti_eq rfl jk_0 ⟨fun c4 => ?_, fun c4 => ?_⟩)
  ·
    rw [if_neg (by omega)] at D
    exact jX.sub (jsb_c rfl jsb_n) (ct_X12_fact_r125d_58 hD hQ  p1 p0 p2 p3 p4 h (jr_of rfl (by omega)) (jr_of rfl (by omega)) (jr_of rfl (by omega)) (jr_of rfl (by omega)) (jr_of rfl (by omega)) (by omega) (jmo w1 rfl zp1) (jmo w1 rfl zp0) (jmo w1 rfl zp2) (jmo w1 rfl zp3) (jmo w1 rfl zp4) J Sm D)
  ·
    rw [if_pos (by omega)] at D
    refine x_iloadn (x := a3) rfl rfl ?_
    refine z_i2l rfl rfl (fun v5 ev5 => ?_)
    refine x_lconst (v := 0) rfl kl_0 ?_
    refine x_ldc2 (v := 11) rfl z_12_267 ?_
    refine x_inst (N := m_X12_in) (As := [.long v5, .long 0, .long 11]) (st := []) (dx9 := 1) (mc := 0) (ms := 0) (host := "") rfl t_X12_in ⟨Or.inl q_12_188, s_X12_in⟩ rfl (by decide) rfl rfl ⟨by decide, by decide⟩ (zc_X12_in rfl jkl_0 jkl_11 (fun v6 ev6 => ?_))
    show jX m_X12_fact 4 0 0 26 [(0, .ref 125), (1, .int a1), (2, .int a2), (3, .int a3), (4, .int a4), (5, .int a5), (6, .int a6)] [.int v6] _ 0 0 _
    refine x_ifeq (tgt := 58) rfl rfl (ti_eq rfl jk_0 ⟨fun c7 => ?_, fun c7 => ?_⟩)
    ·
      rw [if_neg (by omega)] at D
      exact jX.sub (jsb_c rfl jsb_n) (ct_X12_fact_r125d_58 hD hQ  p1 p0 p2 p3 p4 h (jr_of rfl (by omega)) (jr_of rfl (by omega)) (jr_of rfl (by omega)) (jr_of rfl (by omega)) (jr_of rfl (by omega)) (by omega) (jmo w1 rfl zp1) (jmo w1 rfl zp0) (jmo w1 rfl zp2) (jmo w1 rfl zp3) (jmo w1 rfl zp4) J Sm D)
    ·
      rw [if_pos (by omega)] at D
      refine x_iload (x := a5) rfl rfl ?_
      refine x_inst (N := m_X12_isDay) (As := [.int a5]) (st := []) (dx9 := 2) (mc := 0) (ms := 0) (host := "") rfl t_X12_isDay ⟨Or.inl q_12_273, s_X12_isDay⟩ rfl (by decide) rfl rfl ⟨by decide, by decide⟩ (zc_X12_isDay (d := 1) rfl (fun v8 ev8 => ?_))
      show jX m_X12_fact 4 0 0 34 [(0, .ref 125), (1, .int a1), (2, .int a2), (3, .int a3), (4, .int a4), (5, .int a5), (6, .int a6)] [.int v8] _ 0 0 _
      refine x_ifeq (tgt := 58) rfl rfl (ti_eq rfl jk_0 ⟨fun c9 => ?_, fun c9 => ?_⟩)
      ·
        rw [if_neg (by omega)] at D
        exact jX.sub (jsb_c rfl jsb_n) (ct_X12_fact_r125d_58 hD hQ  p1 p0 p2 p3 p4 h (jr_of rfl (by omega)) (jr_of rfl (by omega)) (jr_of rfl (by omega)) (jr_of rfl (by omega)) (jr_of rfl (by omega)) (by omega) (jmo w1 rfl zp1) (jmo w1 rfl zp0) (jmo w1 rfl zp2) (jmo w1 rfl zp3) (jmo w1 rfl zp4) J Sm D)
      ·
        rw [if_pos (by omega)] at D
        refine x_iload (x := a4) rfl rfl ?_
        refine z_i2l rfl rfl (fun v10 ev10 => ?_)
        refine x_lconst (v := 0) rfl kl_0 ?_
        refine x_iload (x := a5) rfl rfl ?_
        refine z_i2l rfl rfl (fun v11 ev11 => ?_)
        refine x_inst (N := m_X12_in) (As := [.long v10, .long 0, .long v11]) (st := []) (dx9 := 1) (mc := 0) (ms := 0) (host := "") rfl t_X12_in ⟨Or.inl q_12_188, s_X12_in⟩ rfl (by decide) rfl rfl ⟨by decide, by decide⟩ (zc_X12_in rfl jkl_0 rfl (fun v12 ev12 => ?_))
        show jX m_X12_fact 4 0 0 47 [(0, .ref 125), (1, .int a1), (2, .int a2), (3, .int a3), (4, .int a4), (5, .int a5), (6, .int a6)] [.int v12] _ 0 0 _
        refine x_ifeq (tgt := 58) rfl rfl (ti_eq rfl jk_0 ⟨fun c13 => ?_, fun c13 => ?_⟩)
        ·
          rw [if_neg (by omega)] at D
          exact jX.sub (jsb_c rfl jsb_n) (ct_X12_fact_r125d_58 hD hQ  p1 p0 p2 p3 p4 h (jr_of rfl (by omega)) (jr_of rfl (by omega)) (jr_of rfl (by omega)) (jr_of rfl (by omega)) (jr_of rfl (by omega)) (by omega) (jmo w1 rfl zp1) (jmo w1 rfl zp0) (jmo w1 rfl zp2) (jmo w1 rfl zp3) (jmo w1 rfl zp4) J Sm D)
        ·
          rw [if_pos (by omega)] at D
          refine x_iload (x := a6) rfl rfl ?_
          refine x_inst (N := m_X12_isDay) (As := [.int a6]) (st := []) (dx9 := 2) (mc := 0) (ms := 0) (host := "") rfl t_X12_isDay ⟨Or.inl q_12_273, s_X12_isDay⟩ rfl (by decide) rfl rfl ⟨by decide, by decide⟩ (zc_X12_isDay (d := 1) rfl (fun v14 ev14 => ?_))
          show jX m_X12_fact 4 0 0 55 [(0, .ref 125), (1, .int a1), (2, .int a2), (3, .int a3), (4, .int a4), (5, .int a5), (6, .int a6)] [.int v14] _ 0 0 _
          refine x_ifne (tgt := 64) rfl rfl (ti_ne rfl jk_0 ⟨fun c15 => ?_, fun c15 => ?_⟩)
          ·
            rw [if_pos (by omega)] at D
            refine x_aloadn (x := 125) rfl rfl ?_
            refine x_iloadn (x := a1) rfl rfl ?_
            refine x_inv (N := m_X12_isMention) (As := [.int a1]) (b := 125) (st := []) (dx9 := 3) (mc := 0) (ms := 0) (host := "") 12 rfl t_X12_isMention ⟨Or.inl q_12_322, i_X12_isMention.1, i_X12_isMention.2⟩ ⟨by decide, rfl⟩ (congrArg Prod.fst (J.1.1 125 (12, 92) rfl)) rfl (by decide) rfl rfl ⟨by decide, by decide⟩ (jC.of rfl k_X12_isMention rfl ?_)
            show jX m_X12_isMention 3 0 0 0 [(0, .ref 125), (1, .int a1)] [] _ 0 0 _
            refine x_iloadn (x := a1) rfl rfl ?_
            refine x_iflt (tgt := 34) rfl rfl (ti_lt rfl jk_0 ⟨fun c16 => ?_, fun c16 => ?_⟩)
            ·
              rw [if_pos (by omega)] at D
              refine x_iconst (v := 0) rfl ki_0 ?_
              refine x_zret rfl rfl (by decide) ?_
              show jX m_X12_fact 4 0 0 69 [(0, .ref 125), (1, .int a1), (2, .int a2), (3, .int a3), (4, .int a4), (5, .int a5), (6, .int a6)] [.int 0] _ 0 0 _
              refine x_ifne (tgt := 79) rfl rfl (ti_ne jk_0 jk_0 (bn_f (by omega) ?_))
              refine x_aloadn (x := 125) rfl rfl ?_
              refine x_bipush (v := (-2)) rfl kb_m2 ?_
              refine x_inv (N := m_X12_told) (As := [.int (-2)]) (b := 125) (st := []) (dx9 := 1) (mc := 0) (ms := 0) (host := "") 12 rfl t_X12_told ⟨Or.inl q_12_197, i_X12_told.1, i_X12_told.2⟩ ⟨by decide, rfl⟩ (congrArg Prod.fst (J.1.1 125 (12, 92) rfl)) rfl (by decide) rfl rfl ⟨by decide, by decide⟩ (sf_X12_told_r125d  hD J rfl  (fun v20 h J S17 X18 X19 => ?_))
              have ev20 := jfull v20
              have Sm := jSm_tr rfl Sm S17
              try rw [jk_m2] at X18
              try rw [jk_m2] at X19
              try rw [X18] at D
              try rw [X19] at D
              show jX m_X12_fact 4 0 0 78 [(0, .ref 125), (1, .int a1), (2, .int a2), (3, .int a3), (4, .int a4), (5, .int a5), (6, .int a6)] [.int v20] _ 0 0 _
              refine x_iret rfl rfl ?_
              exact hQ _ _ J Sm _ _ _ _ _ (jmc S17 rfl (jmo w1 rfl zp0)) (jmc S17 rfl (jmo w1 rfl zp1)) (jmc S17 rfl (jmo w1 rfl zp2)) (jmc S17 rfl (jmo w1 rfl zp3)) (jmc S17 rfl (jmo w1 rfl zp4)) (by omega) ((congrArg Prod.fst D).symm.trans X18) ((congrArg Prod.snd D).symm.trans X19)
            ·
              rw [if_neg (by omega)] at D
              refine x_aloadn (x := 125) rfl rfl ?_
              refine x_iloadn (x := a1) rfl rfl ?_
              refine x_iconst (v := 3) rfl ki_3 ?_
              refine z_idiv rfl rfl jk_3 (by omega) (by omega) (fun v21 ev21 => ?_)
              refine x_inv (N := m_X12_isLine) (As := [.int v21]) (b := 125) (st := []) (dx9 := 2) (mc := 0) (ms := 0) (host := "") 12 rfl t_X12_isLine ⟨Or.inl q_12_293, i_X12_isLine.1, i_X12_isLine.2⟩ ⟨by decide, rfl⟩ (congrArg Prod.fst (J.1.1 125 (12, 92) rfl)) rfl (by decide) rfl rfl ⟨by decide, by decide⟩ (jC.of rfl k_X12_isLine rfl ?_)
              show jX m_X12_isLine 2 0 0 0 [(0, .ref 125), (1, .int v21)] [] _ 0 0 _
              refine x_iloadn (x := v21) rfl rfl ?_
              refine z_i2l rfl rfl (fun v22 ev22 => ?_)
              refine x_lconst (v := 0) rfl kl_0 ?_
              refine x_aloadn (x := 125) rfl rfl ?_
              refine z_getR (N := 92) (b := 126) 12 2 rfl f_12_8 rfl J rfl 16002 ⟨rfl, rfl⟩ rfl ?_
              refine x_iconst (v := 0) rfl ki_0 ?_
              refine z_ialdM (N := 50660) (v := p1) rfl J rfl jk_0 (by omega) (jmo w1 rfl zp1) ?_
              refine z_i2l rfl rfl (fun v23 ev23 => ?_)
              refine x_lconst (v := 1) rfl kl_1 ?_
              refine z_lsub rfl rfl jkl_1 (by omega) (fun v24 ev24 => ?_)
              refine x_inst (N := m_X12_in) (As := [.long v22, .long 0, .long v24]) (st := []) (dx9 := 1) (mc := 0) (ms := 0) (host := "") rfl t_X12_in ⟨Or.inl q_12_188, s_X12_in⟩ rfl (by decide) rfl rfl ⟨by decide, by decide⟩ (zc_X12_in rfl jkl_0 rfl (fun v25 ev25 => ?_))
              show jX m_X12_isLine 2 0 0 15 [(0, .ref 125), (1, .int v21)] [.int v25] _ 0 0 _
              refine x_zret rfl rfl (jz01 (by omega)) ?_
              show jX m_X12_isMention 3 0 0 11 [(0, .ref 125), (1, .int a1)] [.int v25] _ 0 0 _
              refine x_ifeq (tgt := 34) rfl rfl (ti_eq rfl jk_0 ⟨fun c26 => ?_, fun c26 => ?_⟩)
              ·
                rw [if_neg (by omega)] at D
                refine x_iconst (v := 0) rfl ki_0 ?_
                refine x_zret rfl rfl (by decide) ?_
                show jX m_X12_fact 4 0 0 69 [(0, .ref 125), (1, .int a1), (2, .int a2), (3, .int a3), (4, .int a4), (5, .int a5), (6, .int a6)] [.int 0] _ 0 0 _
                refine x_ifne (tgt := 79) rfl rfl (ti_ne jk_0 jk_0 (bn_f (by omega) ?_))
                refine x_aloadn (x := 125) rfl rfl ?_
                refine x_bipush (v := (-2)) rfl kb_m2 ?_
                refine x_inv (N := m_X12_told) (As := [.int (-2)]) (b := 125) (st := []) (dx9 := 1) (mc := 0) (ms := 0) (host := "") 12 rfl t_X12_told ⟨Or.inl q_12_197, i_X12_told.1, i_X12_told.2⟩ ⟨by decide, rfl⟩ (congrArg Prod.fst (J.1.1 125 (12, 92) rfl)) rfl (by decide) rfl rfl ⟨by decide, by decide⟩ (sf_X12_told_r125d  hD J rfl  (fun v30 h J S27 X28 X29 => ?_))
                have ev30 := jfull v30
                have Sm := jSm_tr rfl Sm S27
                try rw [jk_m2] at X28
                try rw [jk_m2] at X29
                try rw [X28] at D
                try rw [X29] at D
                show jX m_X12_fact 4 0 0 78 [(0, .ref 125), (1, .int a1), (2, .int a2), (3, .int a3), (4, .int a4), (5, .int a5), (6, .int a6)] [.int v30] _ 0 0 _
                refine x_iret rfl rfl ?_
                exact hQ _ _ J Sm _ _ _ _ _ (jmc S27 rfl (jmo w1 rfl zp0)) (jmc S27 rfl (jmo w1 rfl zp1)) (jmc S27 rfl (jmo w1 rfl zp2)) (jmc S27 rfl (jmo w1 rfl zp3)) (jmc S27 rfl (jmo w1 rfl zp4)) (by omega) ((congrArg Prod.fst D).symm.trans X28) ((congrArg Prod.snd D).symm.trans X29)
              ·
                rw [if_pos (by omega)] at D
                refine x_iloadn (x := a1) rfl rfl ?_
                refine x_iconst (v := 3) rfl ki_3 ?_
                refine z_irem rfl rfl jk_3 (by omega) (by omega) (fun v31 ev31 => ?_)
                refine x_aloadn (x := 125) rfl rfl ?_
                refine x_iloadn (x := a1) rfl rfl ?_
                refine x_iconst (v := 3) rfl ki_3 ?_
                refine z_idiv rfl rfl jk_3 (by omega) (by omega) (fun v32 ev32 => ?_)
                refine x_inv (N := m_X12_bookOf) (As := [.int v32]) (b := 125) (st := [.int v31]) (dx9 := 2) (mc := 0) (ms := 0) (host := "") 12 rfl t_X12_bookOf ⟨Or.inl q_12_299, i_X12_bookOf.1, i_X12_bookOf.2⟩ ⟨by decide, rfl⟩ (congrArg Prod.fst (J.1.1 125 (12, 92) rfl)) rfl (by decide) rfl rfl ⟨by decide, by decide⟩ (jC.of rfl k_X12_bookOf rfl ?_)
                show jX m_X12_bookOf 2 0 0 0 [(0, .ref 125), (1, .int v32)] [] _ 0 0 _
                refine x_aloadn (x := 125) rfl rfl ?_
                refine z_getR (N := 92) (b := 126) 12 2 rfl f_12_8 rfl J rfl 16002 ⟨rfl, rfl⟩ rfl ?_
                refine x_aloadn (x := 125) rfl rfl ?_
                refine x_iloadn (x := v32) rfl rfl ?_
                refine x_inv (N := m_X12_at) (As := [.int v32]) (b := 125) (st := [.ref 126]) (dx9 := 1) (mc := 0) (ms := 0) (host := "") 12 rfl t_X12_at ⟨Or.inl q_12_254, i_X12_at.1, i_X12_at.2⟩ ⟨by decide, rfl⟩ (congrArg Prod.fst (J.1.1 125 (12, 92) rfl)) rfl (by decide) rfl rfl ⟨by decide, by decide⟩ (jC.of rfl k_X12_at rfl ?_)
                show jX m_X12_at 1 0 0 0 [(0, .ref 125), (1, .int v32)] [] _ 0 0 _
                refine x_bipush (v := 20) rfl kb_20 ?_
                refine x_bipush (v := 90) rfl kb_90 ?_
                refine x_iloadn (x := v32) rfl rfl ?_
                refine z_imul rfl jk_90 rfl (by omega) (fun v33 ev33 => ?_)
                refine z_iadd rfl jk_20 rfl (by omega) (fun v34 ev34 => ?_)
                refine x_iret rfl rfl ?_
                show jX m_X12_bookOf 2 0 0 9 [(0, .ref 125), (1, .int v32)] [.int v34, .ref 126] _ 0 0 _
                refine z_iald (N := 50660) rfl J rfl sg_126_20_18020_90_0_1 rfl (by omega) (fun v35 qv35 ev35 => ?_)
                try rw [vrd (jmb_w w1 qv35 rfl) (show (20 + (90 * (a1.toInt / 3))) = v34.toInt from by omega)] at D
                refine x_iret rfl rfl ?_
                show jX m_X12_isMention 3 0 0 24 [(0, .ref 125), (1, .int a1)] [.int v35, .int v31] _ 0 0 _
                refine x_inst (N := m_X12_rolesOf) (As := [.int v35]) (st := [.int v31]) (dx9 := 2) (mc := 0) (ms := 0) (host := "") rfl t_X12_rolesOf ⟨Or.inl q_12_286, s_X12_rolesOf⟩ rfl (by decide) rfl rfl ⟨by decide, by decide⟩ (jC.of rfl k_X12_rolesOf rfl ?_)
                show jX m_X12_rolesOf 2 0 0 0 [(0, .int v35)] [] _ 0 0 _
                refine x_iloadn (x := v35) rfl rfl ?_
                refine x_ifne (tgt := 8) rfl rfl (ti_ne rfl jk_0 ⟨fun c36 => ?_, fun c36 => ?_⟩)
                ·
                  rw [if_neg (by omega)] at D
                  refine x_iloadn (x := v35) rfl rfl ?_
                  refine x_iconst (v := 1) rfl ki_1 ?_
                  refine x_icne (tgt := 17) rfl rfl (ti_ne rfl jk_1 ⟨fun c37 => ?_, fun c37 => ?_⟩)
                  ·
                    rw [if_neg (by omega)] at D
                    refine x_iconst (v := 1) rfl ki_1 ?_
                    refine x_iret rfl rfl ?_
                    show jX m_X12_isMention 3 0 0 27 [(0, .ref 125), (1, .int a1)] [.int 1, .int v31] _ 0 0 _
                    refine x_icge (tgt := 34) rfl rfl (ti_ge rfl jk_1 ⟨fun c38 => ?_, fun c38 => ?_⟩)
                    ·
                      rw [if_pos (by omega)] at D
                      refine x_iconst (v := 0) rfl ki_0 ?_
                      refine x_zret rfl rfl (by decide) ?_
                      show jX m_X12_fact 4 0 0 69 [(0, .ref 125), (1, .int a1), (2, .int a2), (3, .int a3), (4, .int a4), (5, .int a5), (6, .int a6)] [.int 0] _ 0 0 _
                      refine x_ifne (tgt := 79) rfl rfl (ti_ne jk_0 jk_0 (bn_f (by omega) ?_))
                      refine x_aloadn (x := 125) rfl rfl ?_
                      refine x_bipush (v := (-2)) rfl kb_m2 ?_
                      refine x_inv (N := m_X12_told) (As := [.int (-2)]) (b := 125) (st := []) (dx9 := 1) (mc := 0) (ms := 0) (host := "") 12 rfl t_X12_told ⟨Or.inl q_12_197, i_X12_told.1, i_X12_told.2⟩ ⟨by decide, rfl⟩ (congrArg Prod.fst (J.1.1 125 (12, 92) rfl)) rfl (by decide) rfl rfl ⟨by decide, by decide⟩ (sf_X12_told_r125d  hD J rfl  (fun v42 h J S39 X40 X41 => ?_))
                      have ev42 := jfull v42
                      have Sm := jSm_tr rfl Sm S39
                      try rw [jk_m2] at X40
                      try rw [jk_m2] at X41
                      try rw [X40] at D
                      try rw [X41] at D
                      show jX m_X12_fact 4 0 0 78 [(0, .ref 125), (1, .int a1), (2, .int a2), (3, .int a3), (4, .int a4), (5, .int a5), (6, .int a6)] [.int v42] _ 0 0 _
                      refine x_iret rfl rfl ?_
                      exact hQ _ _ J Sm _ _ _ _ _ (jmc S39 rfl (jmo w1 rfl zp0)) (jmc S39 rfl (jmo w1 rfl zp1)) (jmc S39 rfl (jmo w1 rfl zp2)) (jmc S39 rfl (jmo w1 rfl zp3)) (jmc S39 rfl (jmo w1 rfl zp4)) (by omega) ((congrArg Prod.fst D).symm.trans X40) ((congrArg Prod.snd D).symm.trans X41)
                    ·
                      rw [if_neg (by omega)] at D
                      refine x_iconst (v := 1) rfl ki_1 ?_
                      refine x_goto (tgt := 35) rfl rfl ?_
                      refine x_zret rfl rfl (by decide) ?_
                      show jX m_X12_fact 4 0 0 69 [(0, .ref 125), (1, .int a1), (2, .int a2), (3, .int a3), (4, .int a4), (5, .int a5), (6, .int a6)] [.int 1] _ 0 0 _
                      refine x_ifne (tgt := 79) rfl rfl (ti_ne jk_1 jk_0 (bn_t (by omega) ?_))
                      refine x_aloadn (x := 125) rfl rfl ?_
                      refine z_getR (N := 92) (b := 126) 12 2 rfl f_12_8 rfl J rfl 16002 ⟨rfl, rfl⟩ rfl ?_
                      refine x_iconst (v := 5) rfl ki_5 ?_
                      refine z_ialdM (N := 50660) (v := p3) rfl J rfl jk_5 (by omega) (jmo w1 rfl zp3) ?_
                      refine x_bipush (v := 100) rfl kb_100 ?_
                      refine x_icne (tgt := 97) rfl rfl (ti_ne rfl jk_100 ⟨fun c43 => ?_, fun c43 => ?_⟩)
                      ·
                        rw [if_neg (by omega)] at D
                        refine x_ldcw (v := 46540) rfl z_12_700 ?_
                        refine x_bipush (v := 6) rfl kb_6 ?_
                        refine x_aloadn (x := 125) rfl rfl ?_
                        refine z_getR (N := 92) (b := 126) 12 2 rfl f_12_8 rfl J rfl 16002 ⟨rfl, rfl⟩ rfl ?_
                        refine x_iconst (v := 5) rfl ki_5 ?_
                        refine z_ialdM (N := 50660) (v := p3) rfl J rfl jk_5 (by omega) (jmo w1 rfl zp3) ?_
                        refine z_imul rfl jk_6 rfl (by omega) (fun v44 ev44 => ?_)
                        refine z_iadd rfl jk_46540 rfl (by omega) (fun v45 ev45 => ?_)
                        refine x_istore (lsx9 := [(7, .int v45), (0, .ref 125), (1, .int a1), (2, .int a2), (3, .int a3), (4, .int a4), (5, .int a5), (6, .int a6)]) rfl rfl rfl ?_
                        refine x_aloadn (x := 125) rfl rfl ?_
                        refine z_getR (N := 92) (b := 126) 12 2 rfl f_12_8 rfl J rfl 16002 ⟨rfl, rfl⟩ rfl ?_
                        refine x_iload (x := v45) rfl rfl ?_
                        refine x_iloadn (x := a1) rfl rfl ?_
                        refine z_iast (N := 50660) (l := 46540) (u := 47140) (w := a1.toInt) rfl hD J Sm rfl rfl rfl (by omega) rfl (wr_126_46540 (by omega) (fun q1 q2 q3 q4 => by omega) (fun q1 q2 q3 q4 => by omega) (fun q1 q2 q3 q4 => by omega) (fun q1 q2 q3 q4 => by omega) (fun q1 q2 q3 q4 => by omega) (fun q1 q2 q3 q4 => by omega)) rfl (fun h w46 J Sm => ?_)
                        rw [vww w46 (show (46540 + (6 * p3.toInt)) = v45.toInt from by omega) (show a1.toInt = a1.toInt from by omega)] at D
                        refine x_aloadn (x := 125) rfl rfl ?_
                        refine z_getR (N := 92) (b := 126) 12 2 rfl f_12_8 rfl J rfl 16002 ⟨rfl, rfl⟩ rfl ?_
                        refine x_iload (x := v45) rfl rfl ?_
                        refine x_iconst (v := 1) rfl ki_1 ?_
                        refine z_iadd rfl rfl jk_1 (by omega) (fun v47 ev47 => ?_)
                        refine x_iloadn (x := a2) rfl rfl ?_
                        refine z_iast (N := 50660) (l := 46540) (u := 47140) (w := a2.toInt) rfl hD J Sm rfl rfl rfl (by omega) rfl (wr_126_46540 (by omega) (fun q1 q2 q3 q4 => by omega) (fun q1 q2 q3 q4 => by omega) (fun q1 q2 q3 q4 => by omega) (fun q1 q2 q3 q4 => by omega) (fun q1 q2 q3 q4 => by omega) (fun q1 q2 q3 q4 => by omega)) rfl (fun h w48 J Sm => ?_)
                        rw [vww w48 (show ((46540 + (6 * p3.toInt)) + 1) = v47.toInt from by omega) (show a2.toInt = a2.toInt from by omega)] at D
                        refine x_aloadn (x := 125) rfl rfl ?_
                        refine z_getR (N := 92) (b := 126) 12 2 rfl f_12_8 rfl J rfl 16002 ⟨rfl, rfl⟩ rfl ?_
                        refine x_iload (x := v45) rfl rfl ?_
                        refine x_iconst (v := 2) rfl ki_2 ?_
                        refine z_iadd rfl rfl jk_2 (by omega) (fun v49 ev49 => ?_)
                        refine x_iloadn (x := a3) rfl rfl ?_
                        refine z_iast (N := 50660) (l := 46540) (u := 47140) (w := a3.toInt) rfl hD J Sm rfl rfl rfl (by omega) rfl (wr_126_46540 (by omega) (fun q1 q2 q3 q4 => by omega) (fun q1 q2 q3 q4 => by omega) (fun q1 q2 q3 q4 => by omega) (fun q1 q2 q3 q4 => by omega) (fun q1 q2 q3 q4 => by omega) (fun q1 q2 q3 q4 => by omega)) rfl (fun h w50 J Sm => ?_)
                        rw [vww w50 (show ((46540 + (6 * p3.toInt)) + 2) = v49.toInt from by omega) (show a3.toInt = a3.toInt from by omega)] at D
                        refine x_aloadn (x := 125) rfl rfl ?_
                        refine z_getR (N := 92) (b := 126) 12 2 rfl f_12_8 rfl J rfl 16002 ⟨rfl, rfl⟩ rfl ?_
                        refine x_iload (x := v45) rfl rfl ?_
                        refine x_iconst (v := 3) rfl ki_3 ?_
                        refine z_iadd rfl rfl jk_3 (by omega) (fun v51 ev51 => ?_)
                        refine x_iload (x := a4) rfl rfl ?_
                        refine z_iast (N := 50660) (l := 46540) (u := 47140) (w := a4.toInt) rfl hD J Sm rfl rfl rfl (by omega) rfl (wr_126_46540 (by omega) (fun q1 q2 q3 q4 => by omega) (fun q1 q2 q3 q4 => by omega) (fun q1 q2 q3 q4 => by omega) (fun q1 q2 q3 q4 => by omega) (fun q1 q2 q3 q4 => by omega) (fun q1 q2 q3 q4 => by omega)) rfl (fun h w52 J Sm => ?_)
                        rw [vww w52 (show ((46540 + (6 * p3.toInt)) + 3) = v51.toInt from by omega) (show a4.toInt = a4.toInt from by omega)] at D
                        refine x_aloadn (x := 125) rfl rfl ?_
                        refine z_getR (N := 92) (b := 126) 12 2 rfl f_12_8 rfl J rfl 16002 ⟨rfl, rfl⟩ rfl ?_
                        refine x_iload (x := v45) rfl rfl ?_
                        refine x_iconst (v := 4) rfl ki_4 ?_
                        refine z_iadd rfl rfl jk_4 (by omega) (fun v53 ev53 => ?_)
                        refine x_iload (x := a5) rfl rfl ?_
                        refine z_iast (N := 50660) (l := 46540) (u := 47140) (w := a5.toInt) rfl hD J Sm rfl rfl rfl (by omega) rfl (wr_126_46540 (by omega) (fun q1 q2 q3 q4 => by omega) (fun q1 q2 q3 q4 => by omega) (fun q1 q2 q3 q4 => by omega) (fun q1 q2 q3 q4 => by omega) (fun q1 q2 q3 q4 => by omega) (fun q1 q2 q3 q4 => by omega)) rfl (fun h w54 J Sm => ?_)
                        rw [vww w54 (show ((46540 + (6 * p3.toInt)) + 4) = v53.toInt from by omega) (show a5.toInt = a5.toInt from by omega)] at D
                        refine x_aloadn (x := 125) rfl rfl ?_
                        refine z_getR (N := 92) (b := 126) 12 2 rfl f_12_8 rfl J rfl 16002 ⟨rfl, rfl⟩ rfl ?_
                        refine x_iload (x := v45) rfl rfl ?_
                        refine x_iconst (v := 5) rfl ki_5 ?_
                        refine z_iadd rfl rfl jk_5 (by omega) (fun v55 ev55 => ?_)
                        refine x_iload (x := a6) rfl rfl ?_
                        refine z_iast (N := 50660) (l := 46540) (u := 47140) (w := a6.toInt) rfl hD J Sm rfl rfl rfl (by omega) rfl (wr_126_46540 (by omega) (fun q1 q2 q3 q4 => by omega) (fun q1 q2 q3 q4 => by omega) (fun q1 q2 q3 q4 => by omega) (fun q1 q2 q3 q4 => by omega) (fun q1 q2 q3 q4 => by omega) (fun q1 q2 q3 q4 => by omega)) rfl (fun h w56 J Sm => ?_)
                        rw [vww w56 (show ((46540 + (6 * p3.toInt)) + 5) = v55.toInt from by omega) (show a6.toInt = a6.toInt from by omega)] at D
                        refine x_aloadn (x := 125) rfl rfl ?_
                        refine z_getR (N := 92) (b := 126) 12 2 rfl f_12_8 rfl J rfl 16002 ⟨rfl, rfl⟩ rfl ?_
                        refine x_iconst (v := 5) rfl ki_5 ?_
                        refine x_dup2 rfl rfl rfl ?_
                        refine z_ialdM (N := 50660) (v := p3) rfl J rfl jk_5 (by omega) (jmo2 w56 rfl jk_5 (by omega) (jmo2 w54 rfl jk_5 (by omega) (jmo2 w52 rfl jk_5 (by omega) (jmo2 w50 rfl jk_5 (by omega) (jmo2 w48 rfl jk_5 (by omega) (jmo2 w46 rfl jk_5 (by omega) (jmo w1 rfl zp3))))))) ?_
                        refine x_iconst (v := 1) rfl ki_1 ?_
                        refine z_iadd rfl rfl jk_1 (by omega) (fun v57 ev57 => ?_)
                        refine z_iast (N := 50660) (l := 5) (u := 6) (w := v57.toInt) rfl hD J Sm rfl rfl jk_5 (by omega) rfl (wr_126_5 (by omega) (fun q1 q2 q3 q4 => by omega)) rfl (fun h w58 J Sm => ?_)
                        rw [vwn (n := 5) (by decide) w58 (show (p3.toInt + 1) = v57.toInt from by omega)] at D
                        refine x_aloadn (x := 125) rfl rfl ?_
                        refine x_iconst (v := 2) rfl ki_2 ?_
                        refine x_aloadn (x := 125) rfl rfl ?_
                        refine z_getR (N := 92) (b := 126) 12 2 rfl f_12_8 rfl J rfl 16002 ⟨rfl, rfl⟩ rfl ?_
                        refine x_iconst (v := 5) rfl ki_5 ?_
                        refine z_ialdM (N := 50660) (v := v57) rfl J rfl jk_5 (by omega) (jmw w58) ?_
                        refine x_iconst (v := 1) rfl ki_1 ?_
                        refine z_isub rfl rfl jk_1 (by omega) (fun v59 ev59 => ?_)
                        refine x_inv (N := m_X12_thing) (As := [.int 2, .int v59]) (b := 125) (st := []) (dx9 := 3) (mc := 0) (ms := 0) (host := "") 12 rfl t_X12_thing ⟨Or.inl q_12_289, i_X12_thing.1, i_X12_thing.2⟩ ⟨by decide, rfl⟩ (congrArg Prod.fst (J.1.1 125 (12, 92) rfl)) rfl (by decide) rfl rfl ⟨by decide, by decide⟩ (jC.of rfl k_X12_thing rfl ?_)
                        show jX m_X12_thing 3 0 0 0 [(0, .ref 125), (1, .int 2), (2, .int v59)] [] _ 0 0 _
                        refine x_ldc (v := 49920) rfl z_12_194 ?_
                        refine x_iconst (v := 2) rfl ki_2 ?_
                        refine x_aloadn (x := 125) rfl rfl ?_
                        refine z_getR (N := 92) (b := 126) 12 2 rfl f_12_8 rfl J rfl 16002 ⟨rfl, rfl⟩ rfl ?_
                        refine x_bipush (v := 16) rfl kb_16 ?_
                        refine z_ialdM (N := 50660) (v := p0) rfl J rfl jk_16 (by omega) (jmo2 w58 jk_5 jk_16 (by omega) (jmo2 w56 rfl jk_16 (by omega) (jmo2 w54 rfl jk_16 (by omega) (jmo2 w52 rfl jk_16 (by omega) (jmo2 w50 rfl jk_16 (by omega) (jmo2 w48 rfl jk_16 (by omega) (jmo2 w46 rfl jk_16 (by omega) (jmo w1 rfl zp0)))))))) ?_
                        refine z_imul rfl jk_2 rfl (by omega) (fun v60 ev60 => ?_)
                        refine z_iadd rfl jk_49920 rfl (by omega) (fun v61 ev61 => ?_)
                        refine x_istoren (lsx9 := [(3, .int v61), (0, .ref 125), (1, .int 2), (2, .int v59)]) rfl rfl rfl ?_
                        refine x_aloadn (x := 125) rfl rfl ?_
                        refine z_getR (N := 92) (b := 126) 12 2 rfl f_12_8 rfl J rfl 16002 ⟨rfl, rfl⟩ rfl ?_
                        refine x_iloadn (x := v61) rfl rfl ?_
                        refine x_iloadn (x := 2) rfl rfl ?_
                        refine z_iast (N := 50660) (l := 49920) (u := 50660) (w := 2) rfl hD J Sm rfl rfl rfl (by omega) jk_2 (wr_126_49920 (by omega) (fun q1 q2 q3 q4 => by omega) (fun q1 q2 q3 q4 => by omega)) rfl (fun h w62 J Sm => ?_)
                        rw [vww w62 (show (49920 + (2 * p0.toInt)) = v61.toInt from by omega) (show 2 = (2 : Int32).toInt from by have := jk_2; omega)] at D
                        refine x_aloadn (x := 125) rfl rfl ?_
                        refine z_getR (N := 92) (b := 126) 12 2 rfl f_12_8 rfl J rfl 16002 ⟨rfl, rfl⟩ rfl ?_
                        refine x_iloadn (x := v61) rfl rfl ?_
                        refine x_iconst (v := 1) rfl ki_1 ?_
                        refine z_iadd rfl rfl jk_1 (by omega) (fun v63 ev63 => ?_)
                        refine x_iloadn (x := v59) rfl rfl ?_
                        refine z_iast (N := 50660) (l := 49920) (u := 50660) (w := v59.toInt) rfl hD J Sm rfl rfl rfl (by omega) rfl (wr_126_49920 (by omega) (fun q1 q2 q3 q4 => by omega) (fun q1 q2 q3 q4 => by omega)) rfl (fun h w64 J Sm => ?_)
                        rw [vww w64 (show ((49920 + (2 * p0.toInt)) + 1) = v63.toInt from by omega) (show ((p3.toInt + 1) - 1) = v59.toInt from by omega)] at D
                        refine x_aloadn (x := 125) rfl rfl ?_
                        refine z_getR (N := 92) (b := 126) 12 2 rfl f_12_8 rfl J rfl 16002 ⟨rfl, rfl⟩ rfl ?_
                        refine x_bipush (v := 16) rfl kb_16 ?_
                        refine x_dup2 rfl rfl rfl ?_
                        refine z_ialdM (N := 50660) (v := p0) rfl J rfl jk_16 (by omega) (jmo2 w64 rfl jk_16 (by omega) (jmo2 w62 rfl jk_16 (by omega) (jmo2 w58 jk_5 jk_16 (by omega) (jmo2 w56 rfl jk_16 (by omega) (jmo2 w54 rfl jk_16 (by omega) (jmo2 w52 rfl jk_16 (by omega) (jmo2 w50 rfl jk_16 (by omega) (jmo2 w48 rfl jk_16 (by omega) (jmo2 w46 rfl jk_16 (by omega) (jmo w1 rfl zp0)))))))))) ?_
                        refine x_iconst (v := 1) rfl ki_1 ?_
                        refine z_iadd rfl rfl jk_1 (by omega) (fun v65 ev65 => ?_)
                        refine z_iast (N := 50660) (l := 16) (u := 17) (w := v65.toInt) rfl hD J Sm rfl rfl jk_16 (by omega) rfl (wr_126_16 (by omega) (fun q1 q2 q3 q4 => by omega)) rfl (fun h w66 J Sm => ?_)
                        rw [vwn (n := 16) (by decide) w66 (show (p0.toInt + 1) = v65.toInt from by omega)] at D
                        refine x_vret rfl rfl ?_
                        show jX m_X12_fact 4 0 0 196 [(7, .int v45), (0, .ref 125), (1, .int a1), (2, .int a2), (3, .int a3), (4, .int a4), (5, .int a5), (6, .int a6)] [] _ 0 0 _
                        refine x_aloadn (x := 125) rfl rfl ?_
                        refine x_aloadn (x := 125) rfl rfl ?_
                        refine z_getR (N := 92) (b := 126) 12 2 rfl f_12_8 rfl J rfl 16002 ⟨rfl, rfl⟩ rfl ?_
                        refine x_iconst (v := 5) rfl ki_5 ?_
                        refine z_ialdM (N := 50660) (v := v57) rfl J rfl jk_5 (by omega) (jmo2 w66 jk_16 jk_5 (by omega) (jmo2 w64 rfl jk_5 (by omega) (jmo2 w62 rfl jk_5 (by omega) (jmw w58)))) ?_
                        try rw [show (p3.toInt + 1) = v57.toInt from by omega] at D
                        refine x_inv (N := m_X12_told) (As := [.int v57]) (b := 125) (st := []) (dx9 := 1) (mc := 0) (ms := 0) (host := "") 12 rfl t_X12_told ⟨Or.inl q_12_197, i_X12_told.1, i_X12_told.2⟩ ⟨by decide, rfl⟩ (congrArg Prod.fst (J.1.1 125 (12, 92) rfl)) rfl (by decide) rfl rfl ⟨by decide, by decide⟩ (sf_X12_told_r125d  hD J rfl  (fun v70 h J S67 X68 X69 => ?_))
                        have ev70 := jfull v70
                        have Sm := jSm_tr rfl Sm S67
                        try rw [X68] at D
                        try rw [X69] at D
                        show jX m_X12_fact 4 0 0 206 [(7, .int v45), (0, .ref 125), (1, .int a1), (2, .int a2), (3, .int a3), (4, .int a4), (5, .int a5), (6, .int a6)] [.int v70] _ 0 0 _
                        refine x_iret rfl rfl ?_
                        exact hQ _ _ J Sm _ _ _ _ _ (jmc S67 rfl (jmw w66)) (jmc S67 rfl (jmo2 w66 jk_16 jk_0 (by omega) (jmo2 w64 rfl jk_0 (by omega) (jmo2 w62 rfl jk_0 (by omega) (jmo2 w58 jk_5 jk_0 (by omega) (jmo2 w56 rfl jk_0 (by omega) (jmo2 w54 rfl jk_0 (by omega) (jmo2 w52 rfl jk_0 (by omega) (jmo2 w50 rfl jk_0 (by omega) (jmo2 w48 rfl jk_0 (by omega) (jmo2 w46 rfl jk_0 (by omega) (jmo w1 rfl zp1)))))))))))) (jmc S67 rfl (jmo2 w66 jk_16 jk_4 (by omega) (jmo2 w64 rfl jk_4 (by omega) (jmo2 w62 rfl jk_4 (by omega) (jmo2 w58 jk_5 jk_4 (by omega) (jmo2 w56 rfl jk_4 (by omega) (jmo2 w54 rfl jk_4 (by omega) (jmo2 w52 rfl jk_4 (by omega) (jmo2 w50 rfl jk_4 (by omega) (jmo2 w48 rfl jk_4 (by omega) (jmo2 w46 rfl jk_4 (by omega) (jmo w1 rfl zp2)))))))))))) (jmc S67 rfl (jmo2 w66 jk_16 jk_5 (by omega) (jmo2 w64 rfl jk_5 (by omega) (jmo2 w62 rfl jk_5 (by omega) (jmw w58))))) (jmc S67 rfl (jmo2 w66 jk_16 jk_7 (by omega) (jmo2 w64 rfl jk_7 (by omega) (jmo2 w62 rfl jk_7 (by omega) (jmo2 w58 jk_5 jk_7 (by omega) (jmo2 w56 rfl jk_7 (by omega) (jmo2 w54 rfl jk_7 (by omega) (jmo2 w52 rfl jk_7 (by omega) (jmo2 w50 rfl jk_7 (by omega) (jmo2 w48 rfl jk_7 (by omega) (jmo2 w46 rfl jk_7 (by omega) (jmo w1 rfl zp4)))))))))))) (by omega) ((congrArg Prod.fst D).symm.trans X68) ((congrArg Prod.snd D).symm.trans X69)
                      ·
                        rw [if_pos (by omega)] at D
                        refine x_aloadn (x := 125) rfl rfl ?_
                        refine x_bipush (v := (-5)) rfl kb_m5 ?_
                        refine x_inv (N := m_X12_told) (As := [.int (-5)]) (b := 125) (st := []) (dx9 := 1) (mc := 0) (ms := 0) (host := "") 12 rfl t_X12_told ⟨Or.inl q_12_197, i_X12_told.1, i_X12_told.2⟩ ⟨by decide, rfl⟩ (congrArg Prod.fst (J.1.1 125 (12, 92) rfl)) rfl (by decide) rfl rfl ⟨by decide, by decide⟩ (sf_X12_told_r125d  hD J rfl  (fun v74 h J S71 X72 X73 => ?_))
                        have ev74 := jfull v74
                        have Sm := jSm_tr rfl Sm S71
                        try rw [jk_m5] at X72
                        try rw [jk_m5] at X73
                        try rw [X72] at D
                        try rw [X73] at D
                        show jX m_X12_fact 4 0 0 96 [(0, .ref 125), (1, .int a1), (2, .int a2), (3, .int a3), (4, .int a4), (5, .int a5), (6, .int a6)] [.int v74] _ 0 0 _
                        refine x_iret rfl rfl ?_
                        exact hQ _ _ J Sm _ _ _ _ _ (jmc S71 rfl (jmo w1 rfl zp0)) (jmc S71 rfl (jmo w1 rfl zp1)) (jmc S71 rfl (jmo w1 rfl zp2)) (jmc S71 rfl (jmo w1 rfl zp3)) (jmc S71 rfl (jmo w1 rfl zp4)) (by omega) ((congrArg Prod.fst D).symm.trans X72) ((congrArg Prod.snd D).symm.trans X73)
                  ·
                    rw [if_pos (by omega)] at D
                    refine x_iconst (v := 2) rfl ki_2 ?_
                    refine x_goto (tgt := 18) rfl rfl ?_
                    refine x_iret rfl rfl ?_
                    show jX m_X12_isMention 3 0 0 27 [(0, .ref 125), (1, .int a1)] [.int 2, .int v31] _ 0 0 _
                    refine x_icge (tgt := 34) rfl rfl (ti_ge rfl jk_2 ⟨fun c75 => ?_, fun c75 => ?_⟩)
                    ·
                      rw [if_pos (by omega)] at D
                      refine x_iconst (v := 0) rfl ki_0 ?_
                      refine x_zret rfl rfl (by decide) ?_
                      show jX m_X12_fact 4 0 0 69 [(0, .ref 125), (1, .int a1), (2, .int a2), (3, .int a3), (4, .int a4), (5, .int a5), (6, .int a6)] [.int 0] _ 0 0 _
                      refine x_ifne (tgt := 79) rfl rfl (ti_ne jk_0 jk_0 (bn_f (by omega) ?_))
                      refine x_aloadn (x := 125) rfl rfl ?_
                      refine x_bipush (v := (-2)) rfl kb_m2 ?_
                      refine x_inv (N := m_X12_told) (As := [.int (-2)]) (b := 125) (st := []) (dx9 := 1) (mc := 0) (ms := 0) (host := "") 12 rfl t_X12_told ⟨Or.inl q_12_197, i_X12_told.1, i_X12_told.2⟩ ⟨by decide, rfl⟩ (congrArg Prod.fst (J.1.1 125 (12, 92) rfl)) rfl (by decide) rfl rfl ⟨by decide, by decide⟩ (sf_X12_told_r125d  hD J rfl  (fun v79 h J S76 X77 X78 => ?_))
                      have ev79 := jfull v79
                      have Sm := jSm_tr rfl Sm S76
                      try rw [jk_m2] at X77
                      try rw [jk_m2] at X78
                      try rw [X77] at D
                      try rw [X78] at D
                      show jX m_X12_fact 4 0 0 78 [(0, .ref 125), (1, .int a1), (2, .int a2), (3, .int a3), (4, .int a4), (5, .int a5), (6, .int a6)] [.int v79] _ 0 0 _
                      refine x_iret rfl rfl ?_
                      exact hQ _ _ J Sm _ _ _ _ _ (jmc S76 rfl (jmo w1 rfl zp0)) (jmc S76 rfl (jmo w1 rfl zp1)) (jmc S76 rfl (jmo w1 rfl zp2)) (jmc S76 rfl (jmo w1 rfl zp3)) (jmc S76 rfl (jmo w1 rfl zp4)) (by omega) ((congrArg Prod.fst D).symm.trans X77) ((congrArg Prod.snd D).symm.trans X78)
                    ·
                      rw [if_neg (by omega)] at D
                      refine x_iconst (v := 1) rfl ki_1 ?_
                      refine x_goto (tgt := 35) rfl rfl ?_
                      refine x_zret rfl rfl (by decide) ?_
                      show jX m_X12_fact 4 0 0 69 [(0, .ref 125), (1, .int a1), (2, .int a2), (3, .int a3), (4, .int a4), (5, .int a5), (6, .int a6)] [.int 1] _ 0 0 _
                      refine x_ifne (tgt := 79) rfl rfl (ti_ne jk_1 jk_0 (bn_t (by omega) ?_))
                      refine x_aloadn (x := 125) rfl rfl ?_
                      refine z_getR (N := 92) (b := 126) 12 2 rfl f_12_8 rfl J rfl 16002 ⟨rfl, rfl⟩ rfl ?_
                      refine x_iconst (v := 5) rfl ki_5 ?_
                      refine z_ialdM (N := 50660) (v := p3) rfl J rfl jk_5 (by omega) (jmo w1 rfl zp3) ?_
                      refine x_bipush (v := 100) rfl kb_100 ?_
                      refine x_icne (tgt := 97) rfl rfl (ti_ne rfl jk_100 ⟨fun c80 => ?_, fun c80 => ?_⟩)
                      ·
                        rw [if_neg (by omega)] at D
                        refine x_ldcw (v := 46540) rfl z_12_700 ?_
                        refine x_bipush (v := 6) rfl kb_6 ?_
                        refine x_aloadn (x := 125) rfl rfl ?_
                        refine z_getR (N := 92) (b := 126) 12 2 rfl f_12_8 rfl J rfl 16002 ⟨rfl, rfl⟩ rfl ?_
                        refine x_iconst (v := 5) rfl ki_5 ?_
                        refine z_ialdM (N := 50660) (v := p3) rfl J rfl jk_5 (by omega) (jmo w1 rfl zp3) ?_
                        refine z_imul rfl jk_6 rfl (by omega) (fun v81 ev81 => ?_)
                        refine z_iadd rfl jk_46540 rfl (by omega) (fun v82 ev82 => ?_)
                        refine x_istore (lsx9 := [(7, .int v82), (0, .ref 125), (1, .int a1), (2, .int a2), (3, .int a3), (4, .int a4), (5, .int a5), (6, .int a6)]) rfl rfl rfl ?_
                        refine x_aloadn (x := 125) rfl rfl ?_
                        refine z_getR (N := 92) (b := 126) 12 2 rfl f_12_8 rfl J rfl 16002 ⟨rfl, rfl⟩ rfl ?_
                        refine x_iload (x := v82) rfl rfl ?_
                        refine x_iloadn (x := a1) rfl rfl ?_
                        refine z_iast (N := 50660) (l := 46540) (u := 47140) (w := a1.toInt) rfl hD J Sm rfl rfl rfl (by omega) rfl (wr_126_46540 (by omega) (fun q1 q2 q3 q4 => by omega) (fun q1 q2 q3 q4 => by omega) (fun q1 q2 q3 q4 => by omega) (fun q1 q2 q3 q4 => by omega) (fun q1 q2 q3 q4 => by omega) (fun q1 q2 q3 q4 => by omega)) rfl (fun h w83 J Sm => ?_)
                        rw [vww w83 (show (46540 + (6 * p3.toInt)) = v82.toInt from by omega) (show a1.toInt = a1.toInt from by omega)] at D
                        refine x_aloadn (x := 125) rfl rfl ?_
                        refine z_getR (N := 92) (b := 126) 12 2 rfl f_12_8 rfl J rfl 16002 ⟨rfl, rfl⟩ rfl ?_
                        refine x_iload (x := v82) rfl rfl ?_
                        refine x_iconst (v := 1) rfl ki_1 ?_
                        refine z_iadd rfl rfl jk_1 (by omega) (fun v84 ev84 => ?_)
                        refine x_iloadn (x := a2) rfl rfl ?_
                        refine z_iast (N := 50660) (l := 46540) (u := 47140) (w := a2.toInt) rfl hD J Sm rfl rfl rfl (by omega) rfl (wr_126_46540 (by omega) (fun q1 q2 q3 q4 => by omega) (fun q1 q2 q3 q4 => by omega) (fun q1 q2 q3 q4 => by omega) (fun q1 q2 q3 q4 => by omega) (fun q1 q2 q3 q4 => by omega) (fun q1 q2 q3 q4 => by omega)) rfl (fun h w85 J Sm => ?_)
                        rw [vww w85 (show ((46540 + (6 * p3.toInt)) + 1) = v84.toInt from by omega) (show a2.toInt = a2.toInt from by omega)] at D
                        refine x_aloadn (x := 125) rfl rfl ?_
                        refine z_getR (N := 92) (b := 126) 12 2 rfl f_12_8 rfl J rfl 16002 ⟨rfl, rfl⟩ rfl ?_
                        refine x_iload (x := v82) rfl rfl ?_
                        refine x_iconst (v := 2) rfl ki_2 ?_
                        refine z_iadd rfl rfl jk_2 (by omega) (fun v86 ev86 => ?_)
                        refine x_iloadn (x := a3) rfl rfl ?_
                        refine z_iast (N := 50660) (l := 46540) (u := 47140) (w := a3.toInt) rfl hD J Sm rfl rfl rfl (by omega) rfl (wr_126_46540 (by omega) (fun q1 q2 q3 q4 => by omega) (fun q1 q2 q3 q4 => by omega) (fun q1 q2 q3 q4 => by omega) (fun q1 q2 q3 q4 => by omega) (fun q1 q2 q3 q4 => by omega) (fun q1 q2 q3 q4 => by omega)) rfl (fun h w87 J Sm => ?_)
                        rw [vww w87 (show ((46540 + (6 * p3.toInt)) + 2) = v86.toInt from by omega) (show a3.toInt = a3.toInt from by omega)] at D
                        refine x_aloadn (x := 125) rfl rfl ?_
                        refine z_getR (N := 92) (b := 126) 12 2 rfl f_12_8 rfl J rfl 16002 ⟨rfl, rfl⟩ rfl ?_
                        refine x_iload (x := v82) rfl rfl ?_
                        refine x_iconst (v := 3) rfl ki_3 ?_
                        refine z_iadd rfl rfl jk_3 (by omega) (fun v88 ev88 => ?_)
                        refine x_iload (x := a4) rfl rfl ?_
                        refine z_iast (N := 50660) (l := 46540) (u := 47140) (w := a4.toInt) rfl hD J Sm rfl rfl rfl (by omega) rfl (wr_126_46540 (by omega) (fun q1 q2 q3 q4 => by omega) (fun q1 q2 q3 q4 => by omega) (fun q1 q2 q3 q4 => by omega) (fun q1 q2 q3 q4 => by omega) (fun q1 q2 q3 q4 => by omega) (fun q1 q2 q3 q4 => by omega)) rfl (fun h w89 J Sm => ?_)
                        rw [vww w89 (show ((46540 + (6 * p3.toInt)) + 3) = v88.toInt from by omega) (show a4.toInt = a4.toInt from by omega)] at D
                        refine x_aloadn (x := 125) rfl rfl ?_
                        refine z_getR (N := 92) (b := 126) 12 2 rfl f_12_8 rfl J rfl 16002 ⟨rfl, rfl⟩ rfl ?_
                        refine x_iload (x := v82) rfl rfl ?_
                        refine x_iconst (v := 4) rfl ki_4 ?_
                        refine z_iadd rfl rfl jk_4 (by omega) (fun v90 ev90 => ?_)
                        refine x_iload (x := a5) rfl rfl ?_
                        refine z_iast (N := 50660) (l := 46540) (u := 47140) (w := a5.toInt) rfl hD J Sm rfl rfl rfl (by omega) rfl (wr_126_46540 (by omega) (fun q1 q2 q3 q4 => by omega) (fun q1 q2 q3 q4 => by omega) (fun q1 q2 q3 q4 => by omega) (fun q1 q2 q3 q4 => by omega) (fun q1 q2 q3 q4 => by omega) (fun q1 q2 q3 q4 => by omega)) rfl (fun h w91 J Sm => ?_)
                        rw [vww w91 (show ((46540 + (6 * p3.toInt)) + 4) = v90.toInt from by omega) (show a5.toInt = a5.toInt from by omega)] at D
                        refine x_aloadn (x := 125) rfl rfl ?_
                        refine z_getR (N := 92) (b := 126) 12 2 rfl f_12_8 rfl J rfl 16002 ⟨rfl, rfl⟩ rfl ?_
                        refine x_iload (x := v82) rfl rfl ?_
                        refine x_iconst (v := 5) rfl ki_5 ?_
                        refine z_iadd rfl rfl jk_5 (by omega) (fun v92 ev92 => ?_)
                        refine x_iload (x := a6) rfl rfl ?_
                        refine z_iast (N := 50660) (l := 46540) (u := 47140) (w := a6.toInt) rfl hD J Sm rfl rfl rfl (by omega) rfl (wr_126_46540 (by omega) (fun q1 q2 q3 q4 => by omega) (fun q1 q2 q3 q4 => by omega) (fun q1 q2 q3 q4 => by omega) (fun q1 q2 q3 q4 => by omega) (fun q1 q2 q3 q4 => by omega) (fun q1 q2 q3 q4 => by omega)) rfl (fun h w93 J Sm => ?_)
                        rw [vww w93 (show ((46540 + (6 * p3.toInt)) + 5) = v92.toInt from by omega) (show a6.toInt = a6.toInt from by omega)] at D
                        refine x_aloadn (x := 125) rfl rfl ?_
                        refine z_getR (N := 92) (b := 126) 12 2 rfl f_12_8 rfl J rfl 16002 ⟨rfl, rfl⟩ rfl ?_
                        refine x_iconst (v := 5) rfl ki_5 ?_
                        refine x_dup2 rfl rfl rfl ?_
                        refine z_ialdM (N := 50660) (v := p3) rfl J rfl jk_5 (by omega) (jmo2 w93 rfl jk_5 (by omega) (jmo2 w91 rfl jk_5 (by omega) (jmo2 w89 rfl jk_5 (by omega) (jmo2 w87 rfl jk_5 (by omega) (jmo2 w85 rfl jk_5 (by omega) (jmo2 w83 rfl jk_5 (by omega) (jmo w1 rfl zp3))))))) ?_
                        refine x_iconst (v := 1) rfl ki_1 ?_
                        refine z_iadd rfl rfl jk_1 (by omega) (fun v94 ev94 => ?_)
                        refine z_iast (N := 50660) (l := 5) (u := 6) (w := v94.toInt) rfl hD J Sm rfl rfl jk_5 (by omega) rfl (wr_126_5 (by omega) (fun q1 q2 q3 q4 => by omega)) rfl (fun h w95 J Sm => ?_)
                        rw [vwn (n := 5) (by decide) w95 (show (p3.toInt + 1) = v94.toInt from by omega)] at D
                        refine x_aloadn (x := 125) rfl rfl ?_
                        refine x_iconst (v := 2) rfl ki_2 ?_
                        refine x_aloadn (x := 125) rfl rfl ?_
                        refine z_getR (N := 92) (b := 126) 12 2 rfl f_12_8 rfl J rfl 16002 ⟨rfl, rfl⟩ rfl ?_
                        refine x_iconst (v := 5) rfl ki_5 ?_
                        refine z_ialdM (N := 50660) (v := v94) rfl J rfl jk_5 (by omega) (jmw w95) ?_
                        refine x_iconst (v := 1) rfl ki_1 ?_
                        refine z_isub rfl rfl jk_1 (by omega) (fun v96 ev96 => ?_)
                        refine x_inv (N := m_X12_thing) (As := [.int 2, .int v96]) (b := 125) (st := []) (dx9 := 3) (mc := 0) (ms := 0) (host := "") 12 rfl t_X12_thing ⟨Or.inl q_12_289, i_X12_thing.1, i_X12_thing.2⟩ ⟨by decide, rfl⟩ (congrArg Prod.fst (J.1.1 125 (12, 92) rfl)) rfl (by decide) rfl rfl ⟨by decide, by decide⟩ (jC.of rfl k_X12_thing rfl ?_)
                        show jX m_X12_thing 3 0 0 0 [(0, .ref 125), (1, .int 2), (2, .int v96)] [] _ 0 0 _
                        refine x_ldc (v := 49920) rfl z_12_194 ?_
                        refine x_iconst (v := 2) rfl ki_2 ?_
                        refine x_aloadn (x := 125) rfl rfl ?_
                        refine z_getR (N := 92) (b := 126) 12 2 rfl f_12_8 rfl J rfl 16002 ⟨rfl, rfl⟩ rfl ?_
                        refine x_bipush (v := 16) rfl kb_16 ?_
                        refine z_ialdM (N := 50660) (v := p0) rfl J rfl jk_16 (by omega) (jmo2 w95 jk_5 jk_16 (by omega) (jmo2 w93 rfl jk_16 (by omega) (jmo2 w91 rfl jk_16 (by omega) (jmo2 w89 rfl jk_16 (by omega) (jmo2 w87 rfl jk_16 (by omega) (jmo2 w85 rfl jk_16 (by omega) (jmo2 w83 rfl jk_16 (by omega) (jmo w1 rfl zp0)))))))) ?_
                        refine z_imul rfl jk_2 rfl (by omega) (fun v97 ev97 => ?_)
                        refine z_iadd rfl jk_49920 rfl (by omega) (fun v98 ev98 => ?_)
                        refine x_istoren (lsx9 := [(3, .int v98), (0, .ref 125), (1, .int 2), (2, .int v96)]) rfl rfl rfl ?_
                        refine x_aloadn (x := 125) rfl rfl ?_
                        refine z_getR (N := 92) (b := 126) 12 2 rfl f_12_8 rfl J rfl 16002 ⟨rfl, rfl⟩ rfl ?_
                        refine x_iloadn (x := v98) rfl rfl ?_
                        refine x_iloadn (x := 2) rfl rfl ?_
                        refine z_iast (N := 50660) (l := 49920) (u := 50660) (w := 2) rfl hD J Sm rfl rfl rfl (by omega) jk_2 (wr_126_49920 (by omega) (fun q1 q2 q3 q4 => by omega) (fun q1 q2 q3 q4 => by omega)) rfl (fun h w99 J Sm => ?_)
                        rw [vww w99 (show (49920 + (2 * p0.toInt)) = v98.toInt from by omega) (show 2 = (2 : Int32).toInt from by have := jk_2; omega)] at D
                        refine x_aloadn (x := 125) rfl rfl ?_
                        refine z_getR (N := 92) (b := 126) 12 2 rfl f_12_8 rfl J rfl 16002 ⟨rfl, rfl⟩ rfl ?_
                        refine x_iloadn (x := v98) rfl rfl ?_
                        refine x_iconst (v := 1) rfl ki_1 ?_
                        refine z_iadd rfl rfl jk_1 (by omega) (fun v100 ev100 => ?_)
                        refine x_iloadn (x := v96) rfl rfl ?_
                        refine z_iast (N := 50660) (l := 49920) (u := 50660) (w := v96.toInt) rfl hD J Sm rfl rfl rfl (by omega) rfl (wr_126_49920 (by omega) (fun q1 q2 q3 q4 => by omega) (fun q1 q2 q3 q4 => by omega)) rfl (fun h w101 J Sm => ?_)
                        rw [vww w101 (show ((49920 + (2 * p0.toInt)) + 1) = v100.toInt from by omega) (show ((p3.toInt + 1) - 1) = v96.toInt from by omega)] at D
                        refine x_aloadn (x := 125) rfl rfl ?_
                        refine z_getR (N := 92) (b := 126) 12 2 rfl f_12_8 rfl J rfl 16002 ⟨rfl, rfl⟩ rfl ?_
                        refine x_bipush (v := 16) rfl kb_16 ?_
                        refine x_dup2 rfl rfl rfl ?_
                        refine z_ialdM (N := 50660) (v := p0) rfl J rfl jk_16 (by omega) (jmo2 w101 rfl jk_16 (by omega) (jmo2 w99 rfl jk_16 (by omega) (jmo2 w95 jk_5 jk_16 (by omega) (jmo2 w93 rfl jk_16 (by omega) (jmo2 w91 rfl jk_16 (by omega) (jmo2 w89 rfl jk_16 (by omega) (jmo2 w87 rfl jk_16 (by omega) (jmo2 w85 rfl jk_16 (by omega) (jmo2 w83 rfl jk_16 (by omega) (jmo w1 rfl zp0)))))))))) ?_
                        refine x_iconst (v := 1) rfl ki_1 ?_
                        refine z_iadd rfl rfl jk_1 (by omega) (fun v102 ev102 => ?_)
                        refine z_iast (N := 50660) (l := 16) (u := 17) (w := v102.toInt) rfl hD J Sm rfl rfl jk_16 (by omega) rfl (wr_126_16 (by omega) (fun q1 q2 q3 q4 => by omega)) rfl (fun h w103 J Sm => ?_)
                        rw [vwn (n := 16) (by decide) w103 (show (p0.toInt + 1) = v102.toInt from by omega)] at D
                        refine x_vret rfl rfl ?_
                        show jX m_X12_fact 4 0 0 196 [(7, .int v82), (0, .ref 125), (1, .int a1), (2, .int a2), (3, .int a3), (4, .int a4), (5, .int a5), (6, .int a6)] [] _ 0 0 _
                        refine x_aloadn (x := 125) rfl rfl ?_
                        refine x_aloadn (x := 125) rfl rfl ?_
                        refine z_getR (N := 92) (b := 126) 12 2 rfl f_12_8 rfl J rfl 16002 ⟨rfl, rfl⟩ rfl ?_
                        refine x_iconst (v := 5) rfl ki_5 ?_
                        refine z_ialdM (N := 50660) (v := v94) rfl J rfl jk_5 (by omega) (jmo2 w103 jk_16 jk_5 (by omega) (jmo2 w101 rfl jk_5 (by omega) (jmo2 w99 rfl jk_5 (by omega) (jmw w95)))) ?_
                        try rw [show (p3.toInt + 1) = v94.toInt from by omega] at D
                        refine x_inv (N := m_X12_told) (As := [.int v94]) (b := 125) (st := []) (dx9 := 1) (mc := 0) (ms := 0) (host := "") 12 rfl t_X12_told ⟨Or.inl q_12_197, i_X12_told.1, i_X12_told.2⟩ ⟨by decide, rfl⟩ (congrArg Prod.fst (J.1.1 125 (12, 92) rfl)) rfl (by decide) rfl rfl ⟨by decide, by decide⟩ (sf_X12_told_r125d  hD J rfl  (fun v107 h J S104 X105 X106 => ?_))
                        have ev107 := jfull v107
                        have Sm := jSm_tr rfl Sm S104
                        try rw [X105] at D
                        try rw [X106] at D
                        show jX m_X12_fact 4 0 0 206 [(7, .int v82), (0, .ref 125), (1, .int a1), (2, .int a2), (3, .int a3), (4, .int a4), (5, .int a5), (6, .int a6)] [.int v107] _ 0 0 _
                        refine x_iret rfl rfl ?_
                        exact hQ _ _ J Sm _ _ _ _ _ (jmc S104 rfl (jmw w103)) (jmc S104 rfl (jmo2 w103 jk_16 jk_0 (by omega) (jmo2 w101 rfl jk_0 (by omega) (jmo2 w99 rfl jk_0 (by omega) (jmo2 w95 jk_5 jk_0 (by omega) (jmo2 w93 rfl jk_0 (by omega) (jmo2 w91 rfl jk_0 (by omega) (jmo2 w89 rfl jk_0 (by omega) (jmo2 w87 rfl jk_0 (by omega) (jmo2 w85 rfl jk_0 (by omega) (jmo2 w83 rfl jk_0 (by omega) (jmo w1 rfl zp1)))))))))))) (jmc S104 rfl (jmo2 w103 jk_16 jk_4 (by omega) (jmo2 w101 rfl jk_4 (by omega) (jmo2 w99 rfl jk_4 (by omega) (jmo2 w95 jk_5 jk_4 (by omega) (jmo2 w93 rfl jk_4 (by omega) (jmo2 w91 rfl jk_4 (by omega) (jmo2 w89 rfl jk_4 (by omega) (jmo2 w87 rfl jk_4 (by omega) (jmo2 w85 rfl jk_4 (by omega) (jmo2 w83 rfl jk_4 (by omega) (jmo w1 rfl zp2)))))))))))) (jmc S104 rfl (jmo2 w103 jk_16 jk_5 (by omega) (jmo2 w101 rfl jk_5 (by omega) (jmo2 w99 rfl jk_5 (by omega) (jmw w95))))) (jmc S104 rfl (jmo2 w103 jk_16 jk_7 (by omega) (jmo2 w101 rfl jk_7 (by omega) (jmo2 w99 rfl jk_7 (by omega) (jmo2 w95 jk_5 jk_7 (by omega) (jmo2 w93 rfl jk_7 (by omega) (jmo2 w91 rfl jk_7 (by omega) (jmo2 w89 rfl jk_7 (by omega) (jmo2 w87 rfl jk_7 (by omega) (jmo2 w85 rfl jk_7 (by omega) (jmo2 w83 rfl jk_7 (by omega) (jmo w1 rfl zp4)))))))))))) (by omega) ((congrArg Prod.fst D).symm.trans X105) ((congrArg Prod.snd D).symm.trans X106)
                      ·
                        rw [if_pos (by omega)] at D
                        refine x_aloadn (x := 125) rfl rfl ?_
                        refine x_bipush (v := (-5)) rfl kb_m5 ?_
                        refine x_inv (N := m_X12_told) (As := [.int (-5)]) (b := 125) (st := []) (dx9 := 1) (mc := 0) (ms := 0) (host := "") 12 rfl t_X12_told ⟨Or.inl q_12_197, i_X12_told.1, i_X12_told.2⟩ ⟨by decide, rfl⟩ (congrArg Prod.fst (J.1.1 125 (12, 92) rfl)) rfl (by decide) rfl rfl ⟨by decide, by decide⟩ (sf_X12_told_r125d  hD J rfl  (fun v111 h J S108 X109 X110 => ?_))
                        have ev111 := jfull v111
                        have Sm := jSm_tr rfl Sm S108
                        try rw [jk_m5] at X109
                        try rw [jk_m5] at X110
                        try rw [X109] at D
                        try rw [X110] at D
                        show jX m_X12_fact 4 0 0 96 [(0, .ref 125), (1, .int a1), (2, .int a2), (3, .int a3), (4, .int a4), (5, .int a5), (6, .int a6)] [.int v111] _ 0 0 _
                        refine x_iret rfl rfl ?_
                        exact hQ _ _ J Sm _ _ _ _ _ (jmc S108 rfl (jmo w1 rfl zp0)) (jmc S108 rfl (jmo w1 rfl zp1)) (jmc S108 rfl (jmo w1 rfl zp2)) (jmc S108 rfl (jmo w1 rfl zp3)) (jmc S108 rfl (jmo w1 rfl zp4)) (by omega) ((congrArg Prod.fst D).symm.trans X109) ((congrArg Prod.snd D).symm.trans X110)
                ·
                  rw [if_pos (by omega)] at D
                  refine x_iconst (v := 3) rfl ki_3 ?_
                  refine x_goto (tgt := 18) rfl rfl ?_
                  refine x_iret rfl rfl ?_
                  show jX m_X12_isMention 3 0 0 27 [(0, .ref 125), (1, .int a1)] [.int 3, .int v31] _ 0 0 _
                  refine x_icge (tgt := 34) rfl rfl (ti_ge rfl jk_3 (br_f (by omega) ?_))
                  refine x_iconst (v := 1) rfl ki_1 ?_
                  refine x_goto (tgt := 35) rfl rfl ?_
                  refine x_zret rfl rfl (by decide) ?_
                  show jX m_X12_fact 4 0 0 69 [(0, .ref 125), (1, .int a1), (2, .int a2), (3, .int a3), (4, .int a4), (5, .int a5), (6, .int a6)] [.int 1] _ 0 0 _
                  refine x_ifne (tgt := 79) rfl rfl (ti_ne jk_1 jk_0 (bn_t (by omega) ?_))
                  refine x_aloadn (x := 125) rfl rfl ?_
                  refine z_getR (N := 92) (b := 126) 12 2 rfl f_12_8 rfl J rfl 16002 ⟨rfl, rfl⟩ rfl ?_
                  refine x_iconst (v := 5) rfl ki_5 ?_
                  refine z_ialdM (N := 50660) (v := p3) rfl J rfl jk_5 (by omega) (jmo w1 rfl zp3) ?_
                  refine x_bipush (v := 100) rfl kb_100 ?_
                  refine x_icne (tgt := 97) rfl rfl (ti_ne rfl jk_100 ⟨fun c112 => ?_, fun c112 => ?_⟩)
                  ·
                    rw [if_neg (by omega)] at D
                    refine x_ldcw (v := 46540) rfl z_12_700 ?_
                    refine x_bipush (v := 6) rfl kb_6 ?_
                    refine x_aloadn (x := 125) rfl rfl ?_
                    refine z_getR (N := 92) (b := 126) 12 2 rfl f_12_8 rfl J rfl 16002 ⟨rfl, rfl⟩ rfl ?_
                    refine x_iconst (v := 5) rfl ki_5 ?_
                    refine z_ialdM (N := 50660) (v := p3) rfl J rfl jk_5 (by omega) (jmo w1 rfl zp3) ?_
                    refine z_imul rfl jk_6 rfl (by omega) (fun v113 ev113 => ?_)
                    refine z_iadd rfl jk_46540 rfl (by omega) (fun v114 ev114 => ?_)
                    refine x_istore (lsx9 := [(7, .int v114), (0, .ref 125), (1, .int a1), (2, .int a2), (3, .int a3), (4, .int a4), (5, .int a5), (6, .int a6)]) rfl rfl rfl ?_
                    refine x_aloadn (x := 125) rfl rfl ?_
                    refine z_getR (N := 92) (b := 126) 12 2 rfl f_12_8 rfl J rfl 16002 ⟨rfl, rfl⟩ rfl ?_
                    refine x_iload (x := v114) rfl rfl ?_
                    refine x_iloadn (x := a1) rfl rfl ?_
                    refine z_iast (N := 50660) (l := 46540) (u := 47140) (w := a1.toInt) rfl hD J Sm rfl rfl rfl (by omega) rfl (wr_126_46540 (by omega) (fun q1 q2 q3 q4 => by omega) (fun q1 q2 q3 q4 => by omega) (fun q1 q2 q3 q4 => by omega) (fun q1 q2 q3 q4 => by omega) (fun q1 q2 q3 q4 => by omega) (fun q1 q2 q3 q4 => by omega)) rfl (fun h w115 J Sm => ?_)
                    rw [vww w115 (show (46540 + (6 * p3.toInt)) = v114.toInt from by omega) (show a1.toInt = a1.toInt from by omega)] at D
                    refine x_aloadn (x := 125) rfl rfl ?_
                    refine z_getR (N := 92) (b := 126) 12 2 rfl f_12_8 rfl J rfl 16002 ⟨rfl, rfl⟩ rfl ?_
                    refine x_iload (x := v114) rfl rfl ?_
                    refine x_iconst (v := 1) rfl ki_1 ?_
                    refine z_iadd rfl rfl jk_1 (by omega) (fun v116 ev116 => ?_)
                    refine x_iloadn (x := a2) rfl rfl ?_
                    refine z_iast (N := 50660) (l := 46540) (u := 47140) (w := a2.toInt) rfl hD J Sm rfl rfl rfl (by omega) rfl (wr_126_46540 (by omega) (fun q1 q2 q3 q4 => by omega) (fun q1 q2 q3 q4 => by omega) (fun q1 q2 q3 q4 => by omega) (fun q1 q2 q3 q4 => by omega) (fun q1 q2 q3 q4 => by omega) (fun q1 q2 q3 q4 => by omega)) rfl (fun h w117 J Sm => ?_)
                    rw [vww w117 (show ((46540 + (6 * p3.toInt)) + 1) = v116.toInt from by omega) (show a2.toInt = a2.toInt from by omega)] at D
                    refine x_aloadn (x := 125) rfl rfl ?_
                    refine z_getR (N := 92) (b := 126) 12 2 rfl f_12_8 rfl J rfl 16002 ⟨rfl, rfl⟩ rfl ?_
                    refine x_iload (x := v114) rfl rfl ?_
                    refine x_iconst (v := 2) rfl ki_2 ?_
                    refine z_iadd rfl rfl jk_2 (by omega) (fun v118 ev118 => ?_)
                    refine x_iloadn (x := a3) rfl rfl ?_
                    refine z_iast (N := 50660) (l := 46540) (u := 47140) (w := a3.toInt) rfl hD J Sm rfl rfl rfl (by omega) rfl (wr_126_46540 (by omega) (fun q1 q2 q3 q4 => by omega) (fun q1 q2 q3 q4 => by omega) (fun q1 q2 q3 q4 => by omega) (fun q1 q2 q3 q4 => by omega) (fun q1 q2 q3 q4 => by omega) (fun q1 q2 q3 q4 => by omega)) rfl (fun h w119 J Sm => ?_)
                    rw [vww w119 (show ((46540 + (6 * p3.toInt)) + 2) = v118.toInt from by omega) (show a3.toInt = a3.toInt from by omega)] at D
                    refine x_aloadn (x := 125) rfl rfl ?_
                    refine z_getR (N := 92) (b := 126) 12 2 rfl f_12_8 rfl J rfl 16002 ⟨rfl, rfl⟩ rfl ?_
                    refine x_iload (x := v114) rfl rfl ?_
                    refine x_iconst (v := 3) rfl ki_3 ?_
                    refine z_iadd rfl rfl jk_3 (by omega) (fun v120 ev120 => ?_)
                    refine x_iload (x := a4) rfl rfl ?_
                    refine z_iast (N := 50660) (l := 46540) (u := 47140) (w := a4.toInt) rfl hD J Sm rfl rfl rfl (by omega) rfl (wr_126_46540 (by omega) (fun q1 q2 q3 q4 => by omega) (fun q1 q2 q3 q4 => by omega) (fun q1 q2 q3 q4 => by omega) (fun q1 q2 q3 q4 => by omega) (fun q1 q2 q3 q4 => by omega) (fun q1 q2 q3 q4 => by omega)) rfl (fun h w121 J Sm => ?_)
                    rw [vww w121 (show ((46540 + (6 * p3.toInt)) + 3) = v120.toInt from by omega) (show a4.toInt = a4.toInt from by omega)] at D
                    refine x_aloadn (x := 125) rfl rfl ?_
                    refine z_getR (N := 92) (b := 126) 12 2 rfl f_12_8 rfl J rfl 16002 ⟨rfl, rfl⟩ rfl ?_
                    refine x_iload (x := v114) rfl rfl ?_
                    refine x_iconst (v := 4) rfl ki_4 ?_
                    refine z_iadd rfl rfl jk_4 (by omega) (fun v122 ev122 => ?_)
                    refine x_iload (x := a5) rfl rfl ?_
                    refine z_iast (N := 50660) (l := 46540) (u := 47140) (w := a5.toInt) rfl hD J Sm rfl rfl rfl (by omega) rfl (wr_126_46540 (by omega) (fun q1 q2 q3 q4 => by omega) (fun q1 q2 q3 q4 => by omega) (fun q1 q2 q3 q4 => by omega) (fun q1 q2 q3 q4 => by omega) (fun q1 q2 q3 q4 => by omega) (fun q1 q2 q3 q4 => by omega)) rfl (fun h w123 J Sm => ?_)
                    rw [vww w123 (show ((46540 + (6 * p3.toInt)) + 4) = v122.toInt from by omega) (show a5.toInt = a5.toInt from by omega)] at D
                    refine x_aloadn (x := 125) rfl rfl ?_
                    refine z_getR (N := 92) (b := 126) 12 2 rfl f_12_8 rfl J rfl 16002 ⟨rfl, rfl⟩ rfl ?_
                    refine x_iload (x := v114) rfl rfl ?_
                    refine x_iconst (v := 5) rfl ki_5 ?_
                    refine z_iadd rfl rfl jk_5 (by omega) (fun v124 ev124 => ?_)
                    refine x_iload (x := a6) rfl rfl ?_
                    refine z_iast (N := 50660) (l := 46540) (u := 47140) (w := a6.toInt) rfl hD J Sm rfl rfl rfl (by omega) rfl (wr_126_46540 (by omega) (fun q1 q2 q3 q4 => by omega) (fun q1 q2 q3 q4 => by omega) (fun q1 q2 q3 q4 => by omega) (fun q1 q2 q3 q4 => by omega) (fun q1 q2 q3 q4 => by omega) (fun q1 q2 q3 q4 => by omega)) rfl (fun h w125 J Sm => ?_)
                    rw [vww w125 (show ((46540 + (6 * p3.toInt)) + 5) = v124.toInt from by omega) (show a6.toInt = a6.toInt from by omega)] at D
                    refine x_aloadn (x := 125) rfl rfl ?_
                    refine z_getR (N := 92) (b := 126) 12 2 rfl f_12_8 rfl J rfl 16002 ⟨rfl, rfl⟩ rfl ?_
                    refine x_iconst (v := 5) rfl ki_5 ?_
                    refine x_dup2 rfl rfl rfl ?_
                    refine z_ialdM (N := 50660) (v := p3) rfl J rfl jk_5 (by omega) (jmo2 w125 rfl jk_5 (by omega) (jmo2 w123 rfl jk_5 (by omega) (jmo2 w121 rfl jk_5 (by omega) (jmo2 w119 rfl jk_5 (by omega) (jmo2 w117 rfl jk_5 (by omega) (jmo2 w115 rfl jk_5 (by omega) (jmo w1 rfl zp3))))))) ?_
                    refine x_iconst (v := 1) rfl ki_1 ?_
                    refine z_iadd rfl rfl jk_1 (by omega) (fun v126 ev126 => ?_)
                    refine z_iast (N := 50660) (l := 5) (u := 6) (w := v126.toInt) rfl hD J Sm rfl rfl jk_5 (by omega) rfl (wr_126_5 (by omega) (fun q1 q2 q3 q4 => by omega)) rfl (fun h w127 J Sm => ?_)
                    rw [vwn (n := 5) (by decide) w127 (show (p3.toInt + 1) = v126.toInt from by omega)] at D
                    refine x_aloadn (x := 125) rfl rfl ?_
                    refine x_iconst (v := 2) rfl ki_2 ?_
                    refine x_aloadn (x := 125) rfl rfl ?_
                    refine z_getR (N := 92) (b := 126) 12 2 rfl f_12_8 rfl J rfl 16002 ⟨rfl, rfl⟩ rfl ?_
                    refine x_iconst (v := 5) rfl ki_5 ?_
                    refine z_ialdM (N := 50660) (v := v126) rfl J rfl jk_5 (by omega) (jmw w127) ?_
                    refine x_iconst (v := 1) rfl ki_1 ?_
                    refine z_isub rfl rfl jk_1 (by omega) (fun v128 ev128 => ?_)
                    refine x_inv (N := m_X12_thing) (As := [.int 2, .int v128]) (b := 125) (st := []) (dx9 := 3) (mc := 0) (ms := 0) (host := "") 12 rfl t_X12_thing ⟨Or.inl q_12_289, i_X12_thing.1, i_X12_thing.2⟩ ⟨by decide, rfl⟩ (congrArg Prod.fst (J.1.1 125 (12, 92) rfl)) rfl (by decide) rfl rfl ⟨by decide, by decide⟩ (jC.of rfl k_X12_thing rfl ?_)
                    show jX m_X12_thing 3 0 0 0 [(0, .ref 125), (1, .int 2), (2, .int v128)] [] _ 0 0 _
                    refine x_ldc (v := 49920) rfl z_12_194 ?_
                    refine x_iconst (v := 2) rfl ki_2 ?_
                    refine x_aloadn (x := 125) rfl rfl ?_
                    refine z_getR (N := 92) (b := 126) 12 2 rfl f_12_8 rfl J rfl 16002 ⟨rfl, rfl⟩ rfl ?_
                    refine x_bipush (v := 16) rfl kb_16 ?_
                    refine z_ialdM (N := 50660) (v := p0) rfl J rfl jk_16 (by omega) (jmo2 w127 jk_5 jk_16 (by omega) (jmo2 w125 rfl jk_16 (by omega) (jmo2 w123 rfl jk_16 (by omega) (jmo2 w121 rfl jk_16 (by omega) (jmo2 w119 rfl jk_16 (by omega) (jmo2 w117 rfl jk_16 (by omega) (jmo2 w115 rfl jk_16 (by omega) (jmo w1 rfl zp0)))))))) ?_
                    refine z_imul rfl jk_2 rfl (by omega) (fun v129 ev129 => ?_)
                    refine z_iadd rfl jk_49920 rfl (by omega) (fun v130 ev130 => ?_)
                    refine x_istoren (lsx9 := [(3, .int v130), (0, .ref 125), (1, .int 2), (2, .int v128)]) rfl rfl rfl ?_
                    refine x_aloadn (x := 125) rfl rfl ?_
                    refine z_getR (N := 92) (b := 126) 12 2 rfl f_12_8 rfl J rfl 16002 ⟨rfl, rfl⟩ rfl ?_
                    refine x_iloadn (x := v130) rfl rfl ?_
                    refine x_iloadn (x := 2) rfl rfl ?_
                    refine z_iast (N := 50660) (l := 49920) (u := 50660) (w := 2) rfl hD J Sm rfl rfl rfl (by omega) jk_2 (wr_126_49920 (by omega) (fun q1 q2 q3 q4 => by omega) (fun q1 q2 q3 q4 => by omega)) rfl (fun h w131 J Sm => ?_)
                    rw [vww w131 (show (49920 + (2 * p0.toInt)) = v130.toInt from by omega) (show 2 = (2 : Int32).toInt from by have := jk_2; omega)] at D
                    refine x_aloadn (x := 125) rfl rfl ?_
                    refine z_getR (N := 92) (b := 126) 12 2 rfl f_12_8 rfl J rfl 16002 ⟨rfl, rfl⟩ rfl ?_
                    refine x_iloadn (x := v130) rfl rfl ?_
                    refine x_iconst (v := 1) rfl ki_1 ?_
                    refine z_iadd rfl rfl jk_1 (by omega) (fun v132 ev132 => ?_)
                    refine x_iloadn (x := v128) rfl rfl ?_
                    refine z_iast (N := 50660) (l := 49920) (u := 50660) (w := v128.toInt) rfl hD J Sm rfl rfl rfl (by omega) rfl (wr_126_49920 (by omega) (fun q1 q2 q3 q4 => by omega) (fun q1 q2 q3 q4 => by omega)) rfl (fun h w133 J Sm => ?_)
                    rw [vww w133 (show ((49920 + (2 * p0.toInt)) + 1) = v132.toInt from by omega) (show ((p3.toInt + 1) - 1) = v128.toInt from by omega)] at D
                    refine x_aloadn (x := 125) rfl rfl ?_
                    refine z_getR (N := 92) (b := 126) 12 2 rfl f_12_8 rfl J rfl 16002 ⟨rfl, rfl⟩ rfl ?_
                    refine x_bipush (v := 16) rfl kb_16 ?_
                    refine x_dup2 rfl rfl rfl ?_
                    refine z_ialdM (N := 50660) (v := p0) rfl J rfl jk_16 (by omega) (jmo2 w133 rfl jk_16 (by omega) (jmo2 w131 rfl jk_16 (by omega) (jmo2 w127 jk_5 jk_16 (by omega) (jmo2 w125 rfl jk_16 (by omega) (jmo2 w123 rfl jk_16 (by omega) (jmo2 w121 rfl jk_16 (by omega) (jmo2 w119 rfl jk_16 (by omega) (jmo2 w117 rfl jk_16 (by omega) (jmo2 w115 rfl jk_16 (by omega) (jmo w1 rfl zp0)))))))))) ?_
                    refine x_iconst (v := 1) rfl ki_1 ?_
                    refine z_iadd rfl rfl jk_1 (by omega) (fun v134 ev134 => ?_)
                    refine z_iast (N := 50660) (l := 16) (u := 17) (w := v134.toInt) rfl hD J Sm rfl rfl jk_16 (by omega) rfl (wr_126_16 (by omega) (fun q1 q2 q3 q4 => by omega)) rfl (fun h w135 J Sm => ?_)
                    rw [vwn (n := 16) (by decide) w135 (show (p0.toInt + 1) = v134.toInt from by omega)] at D
                    refine x_vret rfl rfl ?_
                    show jX m_X12_fact 4 0 0 196 [(7, .int v114), (0, .ref 125), (1, .int a1), (2, .int a2), (3, .int a3), (4, .int a4), (5, .int a5), (6, .int a6)] [] _ 0 0 _
                    refine x_aloadn (x := 125) rfl rfl ?_
                    refine x_aloadn (x := 125) rfl rfl ?_
                    refine z_getR (N := 92) (b := 126) 12 2 rfl f_12_8 rfl J rfl 16002 ⟨rfl, rfl⟩ rfl ?_
                    refine x_iconst (v := 5) rfl ki_5 ?_
                    refine z_ialdM (N := 50660) (v := v126) rfl J rfl jk_5 (by omega) (jmo2 w135 jk_16 jk_5 (by omega) (jmo2 w133 rfl jk_5 (by omega) (jmo2 w131 rfl jk_5 (by omega) (jmw w127)))) ?_
                    try rw [show (p3.toInt + 1) = v126.toInt from by omega] at D
                    refine x_inv (N := m_X12_told) (As := [.int v126]) (b := 125) (st := []) (dx9 := 1) (mc := 0) (ms := 0) (host := "") 12 rfl t_X12_told ⟨Or.inl q_12_197, i_X12_told.1, i_X12_told.2⟩ ⟨by decide, rfl⟩ (congrArg Prod.fst (J.1.1 125 (12, 92) rfl)) rfl (by decide) rfl rfl ⟨by decide, by decide⟩ (sf_X12_told_r125d  hD J rfl  (fun v139 h J S136 X137 X138 => ?_))
                    have ev139 := jfull v139
                    have Sm := jSm_tr rfl Sm S136
                    try rw [X137] at D
                    try rw [X138] at D
                    show jX m_X12_fact 4 0 0 206 [(7, .int v114), (0, .ref 125), (1, .int a1), (2, .int a2), (3, .int a3), (4, .int a4), (5, .int a5), (6, .int a6)] [.int v139] _ 0 0 _
                    refine x_iret rfl rfl ?_
                    exact hQ _ _ J Sm _ _ _ _ _ (jmc S136 rfl (jmw w135)) (jmc S136 rfl (jmo2 w135 jk_16 jk_0 (by omega) (jmo2 w133 rfl jk_0 (by omega) (jmo2 w131 rfl jk_0 (by omega) (jmo2 w127 jk_5 jk_0 (by omega) (jmo2 w125 rfl jk_0 (by omega) (jmo2 w123 rfl jk_0 (by omega) (jmo2 w121 rfl jk_0 (by omega) (jmo2 w119 rfl jk_0 (by omega) (jmo2 w117 rfl jk_0 (by omega) (jmo2 w115 rfl jk_0 (by omega) (jmo w1 rfl zp1)))))))))))) (jmc S136 rfl (jmo2 w135 jk_16 jk_4 (by omega) (jmo2 w133 rfl jk_4 (by omega) (jmo2 w131 rfl jk_4 (by omega) (jmo2 w127 jk_5 jk_4 (by omega) (jmo2 w125 rfl jk_4 (by omega) (jmo2 w123 rfl jk_4 (by omega) (jmo2 w121 rfl jk_4 (by omega) (jmo2 w119 rfl jk_4 (by omega) (jmo2 w117 rfl jk_4 (by omega) (jmo2 w115 rfl jk_4 (by omega) (jmo w1 rfl zp2)))))))))))) (jmc S136 rfl (jmo2 w135 jk_16 jk_5 (by omega) (jmo2 w133 rfl jk_5 (by omega) (jmo2 w131 rfl jk_5 (by omega) (jmw w127))))) (jmc S136 rfl (jmo2 w135 jk_16 jk_7 (by omega) (jmo2 w133 rfl jk_7 (by omega) (jmo2 w131 rfl jk_7 (by omega) (jmo2 w127 jk_5 jk_7 (by omega) (jmo2 w125 rfl jk_7 (by omega) (jmo2 w123 rfl jk_7 (by omega) (jmo2 w121 rfl jk_7 (by omega) (jmo2 w119 rfl jk_7 (by omega) (jmo2 w117 rfl jk_7 (by omega) (jmo2 w115 rfl jk_7 (by omega) (jmo w1 rfl zp4)))))))))))) (by omega) ((congrArg Prod.fst D).symm.trans X137) ((congrArg Prod.snd D).symm.trans X138)
                  ·
                    rw [if_pos (by omega)] at D
                    refine x_aloadn (x := 125) rfl rfl ?_
                    refine x_bipush (v := (-5)) rfl kb_m5 ?_
                    refine x_inv (N := m_X12_told) (As := [.int (-5)]) (b := 125) (st := []) (dx9 := 1) (mc := 0) (ms := 0) (host := "") 12 rfl t_X12_told ⟨Or.inl q_12_197, i_X12_told.1, i_X12_told.2⟩ ⟨by decide, rfl⟩ (congrArg Prod.fst (J.1.1 125 (12, 92) rfl)) rfl (by decide) rfl rfl ⟨by decide, by decide⟩ (sf_X12_told_r125d  hD J rfl  (fun v143 h J S140 X141 X142 => ?_))
                    have ev143 := jfull v143
                    have Sm := jSm_tr rfl Sm S140
                    try rw [jk_m5] at X141
                    try rw [jk_m5] at X142
                    try rw [X141] at D
                    try rw [X142] at D
                    show jX m_X12_fact 4 0 0 96 [(0, .ref 125), (1, .int a1), (2, .int a2), (3, .int a3), (4, .int a4), (5, .int a5), (6, .int a6)] [.int v143] _ 0 0 _
                    refine x_iret rfl rfl ?_
                    exact hQ _ _ J Sm _ _ _ _ _ (jmc S140 rfl (jmo w1 rfl zp0)) (jmc S140 rfl (jmo w1 rfl zp1)) (jmc S140 rfl (jmo w1 rfl zp2)) (jmc S140 rfl (jmo w1 rfl zp3)) (jmc S140 rfl (jmo w1 rfl zp4)) (by omega) ((congrArg Prod.fst D).symm.trans X141) ((congrArg Prod.snd D).symm.trans X142)
          ·
            rw [if_neg (by omega)] at D
            exact jX.sub (jsb_c rfl jsb_n) (ct_X12_fact_r125d_58 hD hQ  p1 p0 p2 p3 p4 h (jr_of rfl (by omega)) (jr_of rfl (by omega)) (jr_of rfl (by omega)) (jr_of rfl (by omega)) (jr_of rfl (by omega)) (by omega) (jmo w1 rfl zp1) (jmo w1 rfl zp0) (jmo w1 rfl zp2) (jmo w1 rfl zp3) (jmo w1 rfl zp4) J Sm D)
def fp_X12_fault_r125d : jFp := [(125, 0, 1)]
set_option maxRecDepth 100000 in
set_option maxHeartbeats 4000000 in
theorem sf_X12_fault_r125d {Dy : jH → Prop} {h : jH} {Q : Option Value → jH → Prop} {dr : (Int × jW)} (hD : jDk Dy) (J : jJ jSgM Dy h) (D : d_X12_fault_r125d (vw h) = dr) (hQ : ∀ (v : Int32) hx9, (-1) ≤ v.toInt ∧ v.toInt ≤ 400 → jJ jSgM Dy hx9 → jSm fp_X12_fault_r125d h hx9 → dr.1 = v.toInt → dr.2 = vw hx9 → Q (some (.int v)) hx9) : jC m_X12_fault 1 0 0 [.ref 125] h Q := by
  refine jC.of rfl k_X12_fault rfl ?_
  have Sm := jSm_rf fp_X12_fault_r125d h
  show jX m_X12_fault 1 0 0 0 [(0, .ref 125)] [] _ 0 0 _
  unfold d_X12_fault_r125d at D
  refine x_aloadn (x := 125) rfl rfl ?_
  refine x_iconst (v := 0) rfl ki_0 ?_
  refine z_putI (N := 92) (w := 0) 12 0 rfl f_12_180 rfl (jfin_no TX12 RX12 92 rfl rfl) hD J Sm rfl rfl jk_0 (pw_125_0 (by omega)) rfl (fun h w1 J Sm => ?_)
  rw [vwf w1 (show 0 = (0 : Int32).toInt from by have := jk_0; omega)] at D
  refine x_aloadn (x := 125) rfl rfl ?_
  refine z_getI (N := 92) 12 13 rfl f_12_32 rfl J rfl sg_125_13_14_1_0_1 (fun v2 qv2 ev2 => ?_)
  try rw [vrf (jmb_w w1 qv2 rfl)] at D
  refine x_iret rfl rfl ?_
  exact hQ _ _ (jr_of rfl (by omega)) J Sm ((congrArg Prod.fst D).symm.trans (show v2.toInt = v2.toInt from by omega)) (congrArg Prod.snd D).symm
def fp_X12_fee_r125d : jFp := [(125, 0, 1), (125, 28, 29), (125, 31, 32), (125, 32, 33), (125, 33, 34), (125, 34, 35), (125, 35, 36), (125, 57, 58), (125, 61, 62), (125, 62, 63), (125, 63, 64), (125, 64, 65), (125, 65, 66), (125, 66, 67), (137, 0, 80), (138, 0, 2), (139, 0, 600), (140, 0, 200), (152, 0, 360), (153, 0, 30), (154, 0, 400), (155, 0, 360), (162, 0, 40), (163, 0, 40), (164, 0, 40)]
set_option maxRecDepth 100000 in
set_option maxHeartbeats 4000000 in
theorem ct_X12_fee_r125d_29 {Dy : jH → Prop} {h0 : jH} {Q : Option Value → jH → Prop} {dr : (Int × jW)} (hD : jDk Dy) (hQ : ∀ (v : Int64) hx9, jJ jSgM Dy hx9 → jSm fp_X12_fee_r125d h0 hx9 → dr.1 = v.toInt → dr.2 = vw hx9 → Q (some (.long v)) hx9) : ∀ (h : jH), jJ jSgM Dy h → jSm fp_X12_fee_r125d h0 h → d_X12_fee_r125d_29  (vw h) = dr → jX m_X12_fee 13 0 0 29 [] [] h 0 0 Q := by
  intro  h    J Sm D
  unfold d_X12_fee_r125d_29 at D
  refine x_ldc2 (v := (-1)) rfl z_12_242 ?_
  refine x_lret rfl rfl ?_
  exact hQ _ _ J Sm ((congrArg Prod.fst D).symm.trans (show (-1) = ((-1) : Int64).toInt from by have := jkl_m1; omega)) (congrArg Prod.snd D).symm
set_option maxRecDepth 100000 in
set_option maxHeartbeats 4000000 in
theorem ct_X12_fee_r125d_5000104 {Dy : jH → Prop} {h0 : jH} {Q : Option Value → jH → Prop} {dr : (Int × jW)} (hD : jDk Dy) (hQ : ∀ (v : Int64) hx9, jJ jSgM Dy hx9 → jSm fp_X12_fee_r125d h0 hx9 → dr.1 = v.toInt → dr.2 = vw hx9 → Q (some (.long v)) hx9) : ∀ (h : jH), jJ jSgM Dy h → jSm fp_X12_fee_r125d h0 h → d_X12_fee_r125d_5000104  (vw h) = dr → jX m_X12_fee 13 0 0 104 [] [.long 0] h 0 0 Q := by
  intro  h    J Sm D
  unfold d_X12_fee_r125d_5000104 at D
  refine x_lret rfl rfl ?_
  exact hQ _ _ J Sm ((congrArg Prod.fst D).symm.trans (show 0 = (0 : Int64).toInt from by have := jkl_0; omega)) (congrArg Prod.snd D).symm
set_option maxRecDepth 100000 in
set_option maxHeartbeats 4000000 in
theorem ct_X12_fee_r125d_104 {Dy : jH → Prop} {h0 : jH} {Q : Option Value → jH → Prop} {dr : (Int × jW)} (hD : jDk Dy) (hQ : ∀ (v : Int64) hx9, jJ jSgM Dy hx9 → jSm fp_X12_fee_r125d h0 hx9 → dr.1 = v.toInt → dr.2 = vw hx9 → Q (some (.long v)) hx9) : ∀ (s0 : Int64) (h : jH), jJ jSgM Dy h → jSm fp_X12_fee_r125d h0 h → d_X12_fee_r125d_104  s0.toInt (vw h) = dr → jX m_X12_fee 13 0 0 104 [] [.long s0] h 0 0 Q := by
  intro s0 h    J Sm D
  have es0 := jfullL s0
  unfold d_X12_fee_r125d_104 at D
  refine x_lret rfl rfl ?_
  exact hQ _ _ J Sm ((congrArg Prod.fst D).symm.trans (show s0.toInt = s0.toInt from by omega)) (congrArg Prod.snd D).symm
set_option maxRecDepth 100000 in
set_option maxHeartbeats 4000000 in
theorem sf_X12_fee_r125d {Dy : jH → Prop} {h : jH} {Q : Option Value → jH → Prop} {dr : (Int × jW)} {a1 : Int32} {a2 : Int32} (hD : jDk Dy) (J : jJ jSgM Dy h) (D : d_X12_fee_r125d a1.toInt a2.toInt (vw h) = dr) (hQ : ∀ (v : Int64) hx9, jJ jSgM Dy hx9 → jSm fp_X12_fee_r125d h hx9 → dr.1 = v.toInt → dr.2 = vw hx9 → Q (some (.long v)) hx9) : jC m_X12_fee 13 0 0 [.ref 125, .int a1, .int a2] h Q := by
  refine jC.of rfl k_X12_fee rfl ?_
  have Sm := jSm_rf fp_X12_fee_r125d h
  have ea1 := jfull a1
  have ea2 := jfull a2
  show jX m_X12_fee 13 0 0 0 [(0, .ref 125), (1, .int a1), (2, .int a2)] [] _ 0 0 _
  unfold d_X12_fee_r125d at D
  refine x_aloadn (x := 125) rfl rfl ?_
  refine x_iconst (v := 0) rfl ki_0 ?_
  refine z_putI (N := 92) (w := 0) 12 0 rfl f_12_180 rfl (jfin_no TX12 RX12 92 rfl rfl) hD J Sm rfl rfl jk_0 (pw_125_0 (by omega)) rfl (fun h w1 J Sm => ?_)
  rw [vwf w1 (show 0 = (0 : Int32).toInt from by have := jk_0; omega)] at D
  refine x_aloadn (x := 125) rfl rfl ?_
  refine x_iloadn (x := a1) rfl rfl ?_
  refine x_inv (N := m_X12_isLine) (As := [.int a1]) (b := 125) (st := []) (dx9 := 12) (mc := 0) (ms := 0) (host := "") 12 rfl t_X12_isLine ⟨Or.inl q_12_293, i_X12_isLine.1, i_X12_isLine.2⟩ ⟨by decide, rfl⟩ (congrArg Prod.fst (J.1.1 125 (12, 92) rfl)) rfl (by decide) rfl rfl ⟨by decide, by decide⟩ (jC.of rfl k_X12_isLine rfl ?_)
  show jX m_X12_isLine 12 0 0 0 [(0, .ref 125), (1, .int a1)] [] _ 0 0 _
  refine x_iloadn (x := a1) rfl rfl ?_
  refine z_i2l rfl rfl (fun v2 ev2 => ?_)
  refine x_lconst (v := 0) rfl kl_0 ?_
  refine x_aloadn (x := 125) rfl rfl ?_
  refine z_getR (N := 92) (b := 126) 12 2 rfl f_12_8 rfl J rfl 16002 ⟨rfl, rfl⟩ rfl ?_
  refine x_iconst (v := 0) rfl ki_0 ?_
  refine z_iald (N := 50660) rfl J rfl sg_126_0_1_1_0_1 jk_0 (by omega) (fun v3 qv3 ev3 => ?_)
  try rw [vrn (n := 0) (by decide) (jmb_w w1 qv3 rfl)] at D
  refine z_i2l rfl rfl (fun v4 ev4 => ?_)
  refine x_lconst (v := 1) rfl kl_1 ?_
  refine z_lsub rfl rfl jkl_1 (by omega) (fun v5 ev5 => ?_)
  refine x_inst (N := m_X12_in) (As := [.long v2, .long 0, .long v5]) (st := []) (dx9 := 1) (mc := 0) (ms := 0) (host := "") rfl t_X12_in ⟨Or.inl q_12_188, s_X12_in⟩ rfl (by decide) rfl rfl ⟨by decide, by decide⟩ (zc_X12_in rfl jkl_0 rfl (fun v6 ev6 => ?_))
  show jX m_X12_isLine 12 0 0 15 [(0, .ref 125), (1, .int a1)] [.int v6] _ 0 0 _
  refine x_zret rfl rfl (jz01 (by omega)) ?_
  show jX m_X12_fee 13 0 0 10 [(0, .ref 125), (1, .int a1), (2, .int a2)] [.int v6] _ 0 0 _
  refine x_ifeq (tgt := 29) rfl rfl (ti_eq rfl jk_0 ⟨fun c7 => ?_, fun c7 => ?_⟩)
  ·
    rw [if_neg (by omega)] at D
    exact jX.sub jsb_n (ct_X12_fee_r125d_29 hD hQ  h J Sm D)
  ·
    rw [if_pos (by omega)] at D
    refine x_iloadn (x := a2) rfl rfl ?_
    refine x_inst (N := m_X12_isDay) (As := [.int a2]) (st := []) (dx9 := 2) (mc := 0) (ms := 0) (host := "") rfl t_X12_isDay ⟨Or.inl q_12_273, s_X12_isDay⟩ rfl (by decide) rfl rfl ⟨by decide, by decide⟩ (zc_X12_isDay (d := 1) rfl (fun v8 ev8 => ?_))
    show jX m_X12_fee 13 0 0 17 [(0, .ref 125), (1, .int a1), (2, .int a2)] [.int v8] _ 0 0 _
    refine x_ifeq (tgt := 29) rfl rfl (ti_eq rfl jk_0 ⟨fun c9 => ?_, fun c9 => ?_⟩)
    ·
      rw [if_neg (by omega)] at D
      exact jX.sub jsb_n (ct_X12_fee_r125d_29 hD hQ  h J Sm D)
    ·
      rw [if_pos (by omega)] at D
      refine x_aloadn (x := 125) rfl rfl ?_
      refine x_iloadn (x := a1) rfl rfl ?_
      refine x_iloadn (x := a2) rfl rfl ?_
      refine x_inv (N := m_X12_isKnown) (As := [.int a1, .int a2]) (b := 125) (st := []) (dx9 := 12) (mc := 0) (ms := 0) (host := "") 12 rfl t_X12_isKnown ⟨Or.inl q_12_383, i_X12_isKnown.1, i_X12_isKnown.2⟩ ⟨by decide, rfl⟩ (congrArg Prod.fst (J.1.1 125 (12, 92) rfl)) rfl (by decide) rfl rfl ⟨by decide, by decide⟩ (jC.of rfl k_X12_isKnown rfl ?_)
      show jX m_X12_isKnown 12 0 0 0 [(0, .ref 125), (1, .int a1), (2, .int a2)] [] _ 0 0 _
      refine x_aloadn (x := 125) rfl rfl ?_
      refine z_getR (N := 92) (b := 126) 12 2 rfl f_12_8 rfl J rfl 16002 ⟨rfl, rfl⟩ rfl ?_
      refine x_aloadn (x := 125) rfl rfl ?_
      refine x_iloadn (x := a1) rfl rfl ?_
      refine x_inv (N := m_X12_at) (As := [.int a1]) (b := 125) (st := [.ref 126]) (dx9 := 11) (mc := 0) (ms := 0) (host := "") 12 rfl t_X12_at ⟨Or.inl q_12_254, i_X12_at.1, i_X12_at.2⟩ ⟨by decide, rfl⟩ (congrArg Prod.fst (J.1.1 125 (12, 92) rfl)) rfl (by decide) rfl rfl ⟨by decide, by decide⟩ (jC.of rfl k_X12_at rfl ?_)
      show jX m_X12_at 11 0 0 0 [(0, .ref 125), (1, .int a1)] [] _ 0 0 _
      refine x_bipush (v := 20) rfl kb_20 ?_
      refine x_bipush (v := 90) rfl kb_90 ?_
      refine x_iloadn (x := a1) rfl rfl ?_
      refine z_imul rfl jk_90 rfl (by omega) (fun v10 ev10 => ?_)
      refine z_iadd rfl jk_20 rfl (by omega) (fun v11 ev11 => ?_)
      refine x_iret rfl rfl ?_
      show jX m_X12_isKnown 12 0 0 9 [(0, .ref 125), (1, .int a1), (2, .int a2)] [.int v11, .ref 126] _ 0 0 _
      refine x_iconst (v := 3) rfl ki_3 ?_
      refine z_iadd rfl rfl jk_3 (by omega) (fun v12 ev12 => ?_)
      refine z_iald (N := 50660) rfl J rfl sg_126_20_18020_90_3_4 rfl (by omega) (fun v13 qv13 ev13 => ?_)
      try rw [vrd (jmb_w w1 qv13 rfl) (show ((20 + (90 * a1.toInt)) + 3) = v12.toInt from by omega)] at D
      refine x_iloadn (x := a2) rfl rfl ?_
      refine x_icgt (tgt := 20) rfl rfl (ti_gt rfl rfl ⟨fun c14 => ?_, fun c14 => ?_⟩)
      ·
        rw [if_pos (by omega)] at D
        refine x_iconst (v := 0) rfl ki_0 ?_
        refine x_zret rfl rfl (by decide) ?_
        show jX m_X12_fee 13 0 0 26 [(0, .ref 125), (1, .int a1), (2, .int a2)] [.int 0] _ 0 0 _
        refine x_ifne (tgt := 33) rfl rfl (ti_ne jk_0 jk_0 (bn_f (by omega) ?_))
        exact jX.sub jsb_n (ct_X12_fee_r125d_29 hD hQ  h J Sm D)
      ·
        rw [if_neg (by omega)] at D
        refine x_iconst (v := 1) rfl ki_1 ?_
        refine x_goto (tgt := 21) rfl rfl ?_
        refine x_zret rfl rfl (by decide) ?_
        show jX m_X12_fee 13 0 0 26 [(0, .ref 125), (1, .int a1), (2, .int a2)] [.int 1] _ 0 0 _
        refine x_ifne (tgt := 33) rfl rfl (ti_ne jk_1 jk_0 (bn_t (by omega) ?_))
        refine x_aloadn (x := 125) rfl rfl ?_
        refine x_iloadn (x := a2) rfl rfl ?_
        refine x_inv (N := m_X12_find) (As := [.int a2]) (b := 125) (st := []) (dx9 := 8) (mc := 0) (ms := 0) (host := "") 12 rfl t_X12_find ⟨Or.inl q_12_393, i_X12_find.1, i_X12_find.2⟩ ⟨by decide, rfl⟩ (congrArg Prod.fst (J.1.1 125 (12, 92) rfl)) rfl (by decide) rfl rfl ⟨by decide, by decide⟩ (sf_X12_find_r125d (jr_of rfl (by omega)) hD J rfl  (fun h J S15 X16 => ?_))
        have Sm := jSm_tr rfl Sm S15
        rw [X16] at D
        show jX m_X12_fee 13 0 0 38 [(0, .ref 125), (1, .int a1), (2, .int a2)] [] _ 0 0 _
        refine x_aloadn (x := 125) rfl rfl ?_
        refine z_getR (N := 92) (b := 139) 12 29 rfl f_12_72 rfl J rfl 16029 ⟨rfl, rfl⟩ rfl ?_
        refine x_iconst (v := 3) rfl ki_3 ?_
        refine x_iloadn (x := a1) rfl rfl ?_
        refine z_imul rfl jk_3 rfl (by omega) (fun v17 ev17 => ?_)
        refine z_iald (N := 600) rfl J rfl sg_139_0_600_1_0_1 rfl (by omega) (fun v18 qv18 ev18 => ?_)
        try rw [vrd qv18 (show (3 * a1.toInt) = v17.toInt from by omega)] at D
        refine x_istoren (lsx9 := [(3, .int v18), (0, .ref 125), (1, .int a1), (2, .int a2)]) rfl rfl rfl ?_
        refine x_aloadn (x := 125) rfl rfl ?_
        refine x_iloadn (x := a1) rfl rfl ?_
        refine x_inv (N := m_X12_dayOf) (As := [.int a1]) (b := 125) (st := []) (dx9 := 12) (mc := 0) (ms := 0) (host := "") 12 rfl t_X12_dayOf ⟨Or.inl q_12_335, i_X12_dayOf.1, i_X12_dayOf.2⟩ ⟨by decide, rfl⟩ (congrArg Prod.fst (J.1.1 125 (12, 92) rfl)) rfl (by decide) rfl rfl ⟨by decide, by decide⟩ (jC.of rfl k_X12_dayOf rfl ?_)
        show jX m_X12_dayOf 12 0 0 0 [(0, .ref 125), (1, .int a1)] [] _ 0 0 _
        refine x_aloadn (x := 125) rfl rfl ?_
        refine z_getR (N := 92) (b := 126) 12 2 rfl f_12_8 rfl J rfl 16002 ⟨rfl, rfl⟩ rfl ?_
        refine x_aloadn (x := 125) rfl rfl ?_
        refine x_iloadn (x := a1) rfl rfl ?_
        refine x_inv (N := m_X12_at) (As := [.int a1]) (b := 125) (st := [.ref 126]) (dx9 := 11) (mc := 0) (ms := 0) (host := "") 12 rfl t_X12_at ⟨Or.inl q_12_254, i_X12_at.1, i_X12_at.2⟩ ⟨by decide, rfl⟩ (congrArg Prod.fst (J.1.1 125 (12, 92) rfl)) rfl (by decide) rfl rfl ⟨by decide, by decide⟩ (jC.of rfl k_X12_at rfl ?_)
        show jX m_X12_at 11 0 0 0 [(0, .ref 125), (1, .int a1)] [] _ 0 0 _
        refine x_bipush (v := 20) rfl kb_20 ?_
        refine x_bipush (v := 90) rfl kb_90 ?_
        refine x_iloadn (x := a1) rfl rfl ?_
        refine z_imul rfl jk_90 rfl (by omega) (fun v19 ev19 => ?_)
        refine z_iadd rfl jk_20 rfl (by omega) (fun v20 ev20 => ?_)
        refine x_iret rfl rfl ?_
        show jX m_X12_dayOf 12 0 0 9 [(0, .ref 125), (1, .int a1)] [.int v20, .ref 126] _ 0 0 _
        refine x_iconst (v := 2) rfl ki_2 ?_
        refine z_iadd rfl rfl jk_2 (by omega) (fun v21 ev21 => ?_)
        refine z_iald (N := 50660) rfl J rfl sg_126_20_18020_90_2_3 rfl (by omega) (fun v22 qv22 ev22 => ?_)
        try rw [vrd (jmb_w w1 (jmb_c S15 qv22 rfl) rfl) (show ((20 + (90 * a1.toInt)) + 2) = v21.toInt from by omega)] at D
        refine x_iret rfl rfl ?_
        show jX m_X12_fee 13 0 0 52 [(3, .int v18), (0, .ref 125), (1, .int a1), (2, .int a2)] [.int v22] _ 0 0 _
        refine x_istore (lsx9 := [(4, .int v22), (3, .int v18), (0, .ref 125), (1, .int a1), (2, .int a2)]) rfl rfl rfl ?_
        refine x_aloadn (x := 125) rfl rfl ?_
        refine x_iloadn (x := a1) rfl rfl ?_
        refine x_inv (N := m_X12_bookOf) (As := [.int a1]) (b := 125) (st := []) (dx9 := 12) (mc := 0) (ms := 0) (host := "") 12 rfl t_X12_bookOf ⟨Or.inl q_12_299, i_X12_bookOf.1, i_X12_bookOf.2⟩ ⟨by decide, rfl⟩ (congrArg Prod.fst (J.1.1 125 (12, 92) rfl)) rfl (by decide) rfl rfl ⟨by decide, by decide⟩ (jC.of rfl k_X12_bookOf rfl ?_)
        show jX m_X12_bookOf 12 0 0 0 [(0, .ref 125), (1, .int a1)] [] _ 0 0 _
        refine x_aloadn (x := 125) rfl rfl ?_
        refine z_getR (N := 92) (b := 126) 12 2 rfl f_12_8 rfl J rfl 16002 ⟨rfl, rfl⟩ rfl ?_
        refine x_aloadn (x := 125) rfl rfl ?_
        refine x_iloadn (x := a1) rfl rfl ?_
        refine x_inv (N := m_X12_at) (As := [.int a1]) (b := 125) (st := [.ref 126]) (dx9 := 11) (mc := 0) (ms := 0) (host := "") 12 rfl t_X12_at ⟨Or.inl q_12_254, i_X12_at.1, i_X12_at.2⟩ ⟨by decide, rfl⟩ (congrArg Prod.fst (J.1.1 125 (12, 92) rfl)) rfl (by decide) rfl rfl ⟨by decide, by decide⟩ (jC.of rfl k_X12_at rfl ?_)
        show jX m_X12_at 11 0 0 0 [(0, .ref 125), (1, .int a1)] [] _ 0 0 _
        refine x_bipush (v := 20) rfl kb_20 ?_
        refine x_bipush (v := 90) rfl kb_90 ?_
        refine x_iloadn (x := a1) rfl rfl ?_
        refine z_imul rfl jk_90 rfl (by omega) (fun v23 ev23 => ?_)
        refine z_iadd rfl jk_20 rfl (by omega) (fun v24 ev24 => ?_)
        refine x_iret rfl rfl ?_
        show jX m_X12_bookOf 12 0 0 9 [(0, .ref 125), (1, .int a1)] [.int v24, .ref 126] _ 0 0 _
        refine z_iald (N := 50660) rfl J rfl sg_126_20_18020_90_0_1 rfl (by omega) (fun v25 qv25 ev25 => ?_)
        try rw [vrd (jmb_w w1 (jmb_c S15 qv25 rfl) rfl) (show (20 + (90 * a1.toInt)) = v24.toInt from by omega)] at D
        refine x_iret rfl rfl ?_
        show jX m_X12_fee 13 0 0 59 [(4, .int v22), (3, .int v18), (0, .ref 125), (1, .int a1), (2, .int a2)] [.int v25] _ 0 0 _
        refine x_iconst (v := 1) rfl ki_1 ?_
        refine x_icne (tgt := 74) rfl rfl (ti_ne rfl jk_1 ⟨fun c26 => ?_, fun c26 => ?_⟩)
        ·
          rw [if_neg (by omega)] at D
          refine x_aloadn (x := 125) rfl rfl ?_
          refine x_iloadn (x := a1) rfl rfl ?_
          refine x_inv (N := m_X12_bookOf) (As := [.int a1]) (b := 125) (st := []) (dx9 := 12) (mc := 0) (ms := 0) (host := "") 12 rfl t_X12_bookOf ⟨Or.inl q_12_299, i_X12_bookOf.1, i_X12_bookOf.2⟩ ⟨by decide, rfl⟩ (congrArg Prod.fst (J.1.1 125 (12, 92) rfl)) rfl (by decide) rfl rfl ⟨by decide, by decide⟩ (jC.of rfl k_X12_bookOf rfl ?_)
          show jX m_X12_bookOf 12 0 0 0 [(0, .ref 125), (1, .int a1)] [] _ 0 0 _
          refine x_aloadn (x := 125) rfl rfl ?_
          refine z_getR (N := 92) (b := 126) 12 2 rfl f_12_8 rfl J rfl 16002 ⟨rfl, rfl⟩ rfl ?_
          refine x_aloadn (x := 125) rfl rfl ?_
          refine x_iloadn (x := a1) rfl rfl ?_
          refine x_inv (N := m_X12_at) (As := [.int a1]) (b := 125) (st := [.ref 126]) (dx9 := 11) (mc := 0) (ms := 0) (host := "") 12 rfl t_X12_at ⟨Or.inl q_12_254, i_X12_at.1, i_X12_at.2⟩ ⟨by decide, rfl⟩ (congrArg Prod.fst (J.1.1 125 (12, 92) rfl)) rfl (by decide) rfl rfl ⟨by decide, by decide⟩ (jC.of rfl k_X12_at rfl ?_)
          show jX m_X12_at 11 0 0 0 [(0, .ref 125), (1, .int a1)] [] _ 0 0 _
          refine x_bipush (v := 20) rfl kb_20 ?_
          refine x_bipush (v := 90) rfl kb_90 ?_
          refine x_iloadn (x := a1) rfl rfl ?_
          refine z_imul rfl jk_90 rfl (by omega) (fun v27 ev27 => ?_)
          refine z_iadd rfl jk_20 rfl (by omega) (fun v28 ev28 => ?_)
          refine x_iret rfl rfl ?_
          show jX m_X12_bookOf 12 0 0 9 [(0, .ref 125), (1, .int a1)] [.int v28, .ref 126] _ 0 0 _
          refine z_iald (N := 50660) rfl J rfl sg_126_20_18020_90_0_1 rfl (by omega) (fun v29 qv29 ev29 => ?_)
          try rw [show v25.toInt = v29.toInt from ((vrd (jmb_w w1 (jmb_c S15 qv25 rfl) rfl) (show (20 + (90 * a1.toInt)) = v24.toInt from by omega)).symm.trans (vrd (jmb_w w1 (jmb_c S15 qv29 rfl) rfl) (show (20 + (90 * a1.toInt)) = v28.toInt from by omega)))] at D
          try rw [vrd (jmb_w w1 (jmb_c S15 qv29 rfl) rfl) (show (20 + (90 * a1.toInt)) = v28.toInt from by omega)] at D
          refine x_iret rfl rfl ?_
          show jX m_X12_fee 13 0 0 79 [(4, .int v22), (3, .int v18), (0, .ref 125), (1, .int a1), (2, .int a2)] [.int v29] _ 0 0 _
          refine x_iconst (v := 2) rfl ki_2 ?_
          refine x_icne (tgt := 103) rfl rfl (ti_ne rfl jk_2 ⟨fun c30 => ?_, fun c30 => ?_⟩)
          ·
            rw [if_neg (by omega)] at D
            refine x_lconst (v := 0) rfl kl_0 ?_
            exact jX.sub jsb_n (ct_X12_fee_r125d_5000104 hD hQ  h J Sm D)
          ·
            rw [if_pos (by omega)] at D
            refine x_aloadn (x := 125) rfl rfl ?_
            refine x_iconst (v := 0) rfl ki_0 ?_
            refine x_iloadn (x := v18) rfl rfl ?_
            refine x_iload (x := v22) rfl rfl ?_
            refine x_inv (N := m_X12_feeFor) (As := [.int 0, .int v18, .int v22]) (b := 125) (st := []) (dx9 := 12) (mc := 0) (ms := 0) (host := "") 12 rfl t_X12_feeFor ⟨Or.inl q_12_854, i_X12_feeFor.1, i_X12_feeFor.2⟩ ⟨by decide, rfl⟩ (congrArg Prod.fst (J.1.1 125 (12, 92) rfl)) rfl (by decide) rfl rfl ⟨by decide, by decide⟩ (jC.of rfl k_X12_feeFor rfl ?_)
            show jX m_X12_feeFor 12 0 0 0 [(0, .ref 125), (1, .int 0), (2, .int v18), (3, .int v22)] [] _ 0 0 _
            refine x_aloadn (x := 125) rfl rfl ?_
            refine x_bipush (v := 7) rfl kb_7 ?_
            refine x_iloadn (x := 0) rfl rfl ?_
            refine x_iloadn (x := v18) rfl rfl ?_
            refine x_iloadn (x := v22) rfl rfl ?_
            refine x_inv (N := m_X12_findCount) (As := [.int 7, .int 0, .int v18, .int v22]) (b := 125) (st := []) (dx9 := 11) (mc := 0) (ms := 0) (host := "") 12 rfl t_X12_findCount ⟨Or.inl q_12_765, i_X12_findCount.1, i_X12_findCount.2⟩ ⟨by decide, rfl⟩ (congrArg Prod.fst (J.1.1 125 (12, 92) rfl)) rfl (by decide) rfl rfl ⟨by decide, by decide⟩ (sf_X12_findCount_r125d (jr_of jk_7 (by omega)) (jr_of jk_0 (by omega)) (jr_of rfl (by omega)) (jr_of rfl (by omega)) hD J rfl  (fun h J S31 X32 => ?_))
            have Sm := jSm_tr rfl Sm S31
            try rw [jk_7] at X32
            try rw [jk_0] at X32
            rw [X32] at D
            show jX m_X12_feeFor 12 0 0 9 [(0, .ref 125), (1, .int 0), (2, .int v18), (3, .int v22)] [] _ 0 0 _
            refine x_aloadn (x := 125) rfl rfl ?_
            refine z_getLQ (N := 92) 12 64 rfl f_12_755 rfl J rfl (fun v33 qv33 => ?_)
            have ev33 := jfullL v33
            try rw [vrfL qv33] at D
            refine x_lconst (v := 0) rfl kl_0 ?_
            refine z_lcmp rfl rfl jkl_0 (fun v34 ev34 => ?_)
            refine x_ifge (tgt := 22) rfl rfl (ti_ge rfl jk_0 ⟨fun c35 => ?_, fun c35 => ?_⟩)
            ·
              rw [if_pos (by omega)] at D
              refine x_aloadn (x := 125) rfl rfl ?_
              refine z_getLQ (N := 92) 12 64 rfl f_12_755 rfl J rfl (fun v36 qv36 => ?_)
              have ev36 := jfullL v36
              try rw [show v33.toInt = v36.toInt from ((vrfL qv33).symm.trans (vrfL qv36))] at D
              try rw [vrfL qv36] at D
              refine x_lret rfl rfl ?_
              show jX m_X12_fee 13 0 0 91 [(4, .int v22), (3, .int v18), (0, .ref 125), (1, .int a1), (2, .int a2)] [.long v36] _ 0 0 _
              refine x_aloadn (x := 125) rfl rfl ?_
              refine x_iconst (v := 1) rfl ki_1 ?_
              refine x_iloadn (x := v18) rfl rfl ?_
              refine x_iload (x := v22) rfl rfl ?_
              refine x_inv (N := m_X12_feeFor) (As := [.int 1, .int v18, .int v22]) (b := 125) (st := [.long v36]) (dx9 := 12) (mc := 0) (ms := 0) (host := "") 12 rfl t_X12_feeFor ⟨Or.inl q_12_854, i_X12_feeFor.1, i_X12_feeFor.2⟩ ⟨by decide, rfl⟩ (congrArg Prod.fst (J.1.1 125 (12, 92) rfl)) rfl (by decide) rfl rfl ⟨by decide, by decide⟩ (jC.of rfl k_X12_feeFor rfl ?_)
              show jX m_X12_feeFor 12 0 0 0 [(0, .ref 125), (1, .int 1), (2, .int v18), (3, .int v22)] [] _ 0 0 _
              refine x_aloadn (x := 125) rfl rfl ?_
              refine x_bipush (v := 7) rfl kb_7 ?_
              refine x_iloadn (x := 1) rfl rfl ?_
              refine x_iloadn (x := v18) rfl rfl ?_
              refine x_iloadn (x := v22) rfl rfl ?_
              refine x_inv (N := m_X12_findCount) (As := [.int 7, .int 1, .int v18, .int v22]) (b := 125) (st := []) (dx9 := 11) (mc := 0) (ms := 0) (host := "") 12 rfl t_X12_findCount ⟨Or.inl q_12_765, i_X12_findCount.1, i_X12_findCount.2⟩ ⟨by decide, rfl⟩ (congrArg Prod.fst (J.1.1 125 (12, 92) rfl)) rfl (by decide) rfl rfl ⟨by decide, by decide⟩ (sf_X12_findCount_r125d (jr_of jk_7 (by omega)) (jr_of jk_1 (by omega)) (jr_of rfl (by omega)) (jr_of rfl (by omega)) hD J rfl  (fun h J S37 X38 => ?_))
              have Sm := jSm_tr rfl Sm S37
              try rw [jk_7] at X38
              try rw [jk_1] at X38
              rw [X38] at D
              show jX m_X12_feeFor 12 0 0 9 [(0, .ref 125), (1, .int 1), (2, .int v18), (3, .int v22)] [] _ 0 0 _
              refine x_aloadn (x := 125) rfl rfl ?_
              refine z_getLQ (N := 92) 12 64 rfl f_12_755 rfl J rfl (fun v39 qv39 => ?_)
              have ev39 := jfullL v39
              try rw [vrfL qv39] at D
              refine x_lconst (v := 0) rfl kl_0 ?_
              refine z_lcmp rfl rfl jkl_0 (fun v40 ev40 => ?_)
              refine x_ifge (tgt := 22) rfl rfl (ti_ge rfl jk_0 ⟨fun c41 => ?_, fun c41 => ?_⟩)
              ·
                rw [if_pos (by omega)] at D
                refine x_aloadn (x := 125) rfl rfl ?_
                refine z_getLQ (N := 92) 12 64 rfl f_12_755 rfl J rfl (fun v42 qv42 => ?_)
                have ev42 := jfullL v42
                try rw [show v39.toInt = v42.toInt from ((vrfL qv39).symm.trans (vrfL qv42))] at D
                try rw [vrfL qv42] at D
                refine x_lret rfl rfl ?_
                show jX m_X12_fee 13 0 0 99 [(4, .int v22), (3, .int v18), (0, .ref 125), (1, .int a1), (2, .int a2)] [.long v42, .long v36] _ 0 0 _
                refine z_laddW rfl rfl rfl (fun v43 ev43 => ?_)
                have fv43 := jfullL v43
                try rw [← ev43] at D
                refine x_goto (tgt := 104) rfl rfl ?_
                exact jX.sub jsb_n (ct_X12_fee_r125d_104 hD hQ  v43 h J Sm D)
              ·
                rw [if_neg (by omega)] at D
                refine x_lconst (v := 0) rfl kl_0 ?_
                refine x_goto (tgt := 26) rfl rfl ?_
                refine x_lret rfl rfl ?_
                show jX m_X12_fee 13 0 0 99 [(4, .int v22), (3, .int v18), (0, .ref 125), (1, .int a1), (2, .int a2)] [.long 0, .long v36] _ 0 0 _
                refine z_ladd rfl rfl jkl_0 (by omega) (fun v44 ev44 => ?_)
                refine x_goto (tgt := 104) rfl rfl ?_
                try rw [show (v36.toInt + 0) = v44.toInt from by omega] at D
                exact jX.sub jsb_n (ct_X12_fee_r125d_104 hD hQ  v44 h J Sm D)
            ·
              rw [if_neg (by omega)] at D
              refine x_lconst (v := 0) rfl kl_0 ?_
              refine x_goto (tgt := 26) rfl rfl ?_
              refine x_lret rfl rfl ?_
              show jX m_X12_fee 13 0 0 91 [(4, .int v22), (3, .int v18), (0, .ref 125), (1, .int a1), (2, .int a2)] [.long 0] _ 0 0 _
              refine x_aloadn (x := 125) rfl rfl ?_
              refine x_iconst (v := 1) rfl ki_1 ?_
              refine x_iloadn (x := v18) rfl rfl ?_
              refine x_iload (x := v22) rfl rfl ?_
              refine x_inv (N := m_X12_feeFor) (As := [.int 1, .int v18, .int v22]) (b := 125) (st := [.long 0]) (dx9 := 12) (mc := 0) (ms := 0) (host := "") 12 rfl t_X12_feeFor ⟨Or.inl q_12_854, i_X12_feeFor.1, i_X12_feeFor.2⟩ ⟨by decide, rfl⟩ (congrArg Prod.fst (J.1.1 125 (12, 92) rfl)) rfl (by decide) rfl rfl ⟨by decide, by decide⟩ (jC.of rfl k_X12_feeFor rfl ?_)
              show jX m_X12_feeFor 12 0 0 0 [(0, .ref 125), (1, .int 1), (2, .int v18), (3, .int v22)] [] _ 0 0 _
              refine x_aloadn (x := 125) rfl rfl ?_
              refine x_bipush (v := 7) rfl kb_7 ?_
              refine x_iloadn (x := 1) rfl rfl ?_
              refine x_iloadn (x := v18) rfl rfl ?_
              refine x_iloadn (x := v22) rfl rfl ?_
              refine x_inv (N := m_X12_findCount) (As := [.int 7, .int 1, .int v18, .int v22]) (b := 125) (st := []) (dx9 := 11) (mc := 0) (ms := 0) (host := "") 12 rfl t_X12_findCount ⟨Or.inl q_12_765, i_X12_findCount.1, i_X12_findCount.2⟩ ⟨by decide, rfl⟩ (congrArg Prod.fst (J.1.1 125 (12, 92) rfl)) rfl (by decide) rfl rfl ⟨by decide, by decide⟩ (sf_X12_findCount_r125d (jr_of jk_7 (by omega)) (jr_of jk_1 (by omega)) (jr_of rfl (by omega)) (jr_of rfl (by omega)) hD J rfl  (fun h J S45 X46 => ?_))
              have Sm := jSm_tr rfl Sm S45
              try rw [jk_7] at X46
              try rw [jk_1] at X46
              rw [X46] at D
              show jX m_X12_feeFor 12 0 0 9 [(0, .ref 125), (1, .int 1), (2, .int v18), (3, .int v22)] [] _ 0 0 _
              refine x_aloadn (x := 125) rfl rfl ?_
              refine z_getLQ (N := 92) 12 64 rfl f_12_755 rfl J rfl (fun v47 qv47 => ?_)
              have ev47 := jfullL v47
              try rw [vrfL qv47] at D
              refine x_lconst (v := 0) rfl kl_0 ?_
              refine z_lcmp rfl rfl jkl_0 (fun v48 ev48 => ?_)
              refine x_ifge (tgt := 22) rfl rfl (ti_ge rfl jk_0 ⟨fun c49 => ?_, fun c49 => ?_⟩)
              ·
                rw [if_pos (by omega)] at D
                refine x_aloadn (x := 125) rfl rfl ?_
                refine z_getLQ (N := 92) 12 64 rfl f_12_755 rfl J rfl (fun v50 qv50 => ?_)
                have ev50 := jfullL v50
                try rw [show v47.toInt = v50.toInt from ((vrfL qv47).symm.trans (vrfL qv50))] at D
                try rw [vrfL qv50] at D
                refine x_lret rfl rfl ?_
                show jX m_X12_fee 13 0 0 99 [(4, .int v22), (3, .int v18), (0, .ref 125), (1, .int a1), (2, .int a2)] [.long v50, .long 0] _ 0 0 _
                refine z_ladd rfl jkl_0 rfl (by omega) (fun v51 ev51 => ?_)
                refine x_goto (tgt := 104) rfl rfl ?_
                try rw [show (0 + v50.toInt) = v51.toInt from by omega] at D
                exact jX.sub jsb_n (ct_X12_fee_r125d_104 hD hQ  v51 h J Sm D)
              ·
                rw [if_neg (by omega)] at D
                refine x_lconst (v := 0) rfl kl_0 ?_
                refine x_goto (tgt := 26) rfl rfl ?_
                refine x_lret rfl rfl ?_
                show jX m_X12_fee 13 0 0 99 [(4, .int v22), (3, .int v18), (0, .ref 125), (1, .int a1), (2, .int a2)] [.long 0, .long 0] _ 0 0 _
                refine z_ladd rfl jkl_0 jkl_0 (by omega) (fun v52 ev52 => ?_)
                refine x_goto (tgt := 104) rfl rfl ?_
                try rw [show (0 + 0) = v52.toInt from by omega] at D
                exact jX.sub jsb_n (ct_X12_fee_r125d_104 hD hQ  v52 h J Sm D)
        ·
          rw [if_pos (by omega)] at D
          refine x_aloadn (x := 125) rfl rfl ?_
          refine x_iconst (v := 2) rfl ki_2 ?_
          refine x_iloadn (x := v18) rfl rfl ?_
          refine x_iload (x := v22) rfl rfl ?_
          refine x_inv (N := m_X12_feeFor) (As := [.int 2, .int v18, .int v22]) (b := 125) (st := []) (dx9 := 12) (mc := 0) (ms := 0) (host := "") 12 rfl t_X12_feeFor ⟨Or.inl q_12_854, i_X12_feeFor.1, i_X12_feeFor.2⟩ ⟨by decide, rfl⟩ (congrArg Prod.fst (J.1.1 125 (12, 92) rfl)) rfl (by decide) rfl rfl ⟨by decide, by decide⟩ (jC.of rfl k_X12_feeFor rfl ?_)
          show jX m_X12_feeFor 12 0 0 0 [(0, .ref 125), (1, .int 2), (2, .int v18), (3, .int v22)] [] _ 0 0 _
          refine x_aloadn (x := 125) rfl rfl ?_
          refine x_bipush (v := 7) rfl kb_7 ?_
          refine x_iloadn (x := 2) rfl rfl ?_
          refine x_iloadn (x := v18) rfl rfl ?_
          refine x_iloadn (x := v22) rfl rfl ?_
          refine x_inv (N := m_X12_findCount) (As := [.int 7, .int 2, .int v18, .int v22]) (b := 125) (st := []) (dx9 := 11) (mc := 0) (ms := 0) (host := "") 12 rfl t_X12_findCount ⟨Or.inl q_12_765, i_X12_findCount.1, i_X12_findCount.2⟩ ⟨by decide, rfl⟩ (congrArg Prod.fst (J.1.1 125 (12, 92) rfl)) rfl (by decide) rfl rfl ⟨by decide, by decide⟩ (sf_X12_findCount_r125d (jr_of jk_7 (by omega)) (jr_of jk_2 (by omega)) (jr_of rfl (by omega)) (jr_of rfl (by omega)) hD J rfl  (fun h J S53 X54 => ?_))
          have Sm := jSm_tr rfl Sm S53
          try rw [jk_7] at X54
          try rw [jk_2] at X54
          rw [X54] at D
          show jX m_X12_feeFor 12 0 0 9 [(0, .ref 125), (1, .int 2), (2, .int v18), (3, .int v22)] [] _ 0 0 _
          refine x_aloadn (x := 125) rfl rfl ?_
          refine z_getLQ (N := 92) 12 64 rfl f_12_755 rfl J rfl (fun v55 qv55 => ?_)
          have ev55 := jfullL v55
          try rw [vrfL qv55] at D
          refine x_lconst (v := 0) rfl kl_0 ?_
          refine z_lcmp rfl rfl jkl_0 (fun v56 ev56 => ?_)
          refine x_ifge (tgt := 22) rfl rfl (ti_ge rfl jk_0 ⟨fun c57 => ?_, fun c57 => ?_⟩)
          ·
            rw [if_pos (by omega)] at D
            refine x_aloadn (x := 125) rfl rfl ?_
            refine z_getLQ (N := 92) 12 64 rfl f_12_755 rfl J rfl (fun v58 qv58 => ?_)
            have ev58 := jfullL v58
            try rw [show v55.toInt = v58.toInt from ((vrfL qv55).symm.trans (vrfL qv58))] at D
            try rw [vrfL qv58] at D
            refine x_lret rfl rfl ?_
            show jX m_X12_fee 13 0 0 71 [(4, .int v22), (3, .int v18), (0, .ref 125), (1, .int a1), (2, .int a2)] [.long v58] _ 0 0 _
            refine x_goto (tgt := 104) rfl rfl ?_
            exact jX.sub jsb_n (ct_X12_fee_r125d_104 hD hQ  v58 h J Sm D)
          ·
            rw [if_neg (by omega)] at D
            refine x_lconst (v := 0) rfl kl_0 ?_
            refine x_goto (tgt := 26) rfl rfl ?_
            refine x_lret rfl rfl ?_
            show jX m_X12_fee 13 0 0 71 [(4, .int v22), (3, .int v18), (0, .ref 125), (1, .int a1), (2, .int a2)] [.long 0] _ 0 0 _
            refine x_goto (tgt := 104) rfl rfl ?_
            exact jX.sub jsb_n (ct_X12_fee_r125d_5000104 hD hQ  h J Sm D)
def fp_X12_feed_r125d : jFp := [(125, 0, 1), (125, 8, 9), (131, 0, 400)]
set_option maxRecDepth 100000 in
set_option maxHeartbeats 4000000 in
theorem sf_X12_feed_r125d {Dy : jH → Prop} {h : jH} {Q : Option Value → jH → Prop} {dr : (Int × jW)} {a1 : Int32} {a2 : Int32} {a3 : Int32} {a4 : Int32} {a5 : Int32} (hD : jDk Dy) (J : jJ jSgM Dy h) (D : d_X12_feed_r125d a1.toInt a2.toInt a3.toInt a4.toInt a5.toInt (vw h) = dr) (hQ : ∀ (v : Int32) hx9, (-1) ≤ v.toInt ∧ v.toInt ≤ 400 → jJ jSgM Dy hx9 → jSm fp_X12_feed_r125d h hx9 → dr.1 = v.toInt → dr.2 = vw hx9 → Q (some (.int v)) hx9) : jC m_X12_feed 2 0 0 [.ref 125, .int a1, .int a2, .int a3, .int a4, .int a5] h Q := by
  refine jC.of rfl k_X12_feed rfl ?_
  have Sm := jSm_rf fp_X12_feed_r125d h
  have ea1 := jfull a1
  have ea2 := jfull a2
  have ea3 := jfull a3
  have ea4 := jfull a4
  have ea5 := jfull a5
  show jX m_X12_feed 2 0 0 0 [(0, .ref 125), (1, .int a1), (2, .int a2), (3, .int a3), (4, .int a4), (5, .int a5)] [] _ 0 0 _
  unfold d_X12_feed_r125d at D
  refine x_aloadn (x := 125) rfl rfl ?_
  refine x_iconst (v := 0) rfl ki_0 ?_
  refine z_putI (N := 92) (w := 0) 12 0 rfl f_12_180 rfl (jfin_no TX12 RX12 92 rfl rfl) hD J Sm rfl rfl jk_0 (pw_125_0 (by omega)) rfl (fun h w1 J Sm => ?_)
  rw [vwf w1 (show 0 = (0 : Int32).toInt from by have := jk_0; omega)] at D
  refine x_aloadn (x := 125) rfl rfl ?_
  refine z_getI (N := 92) 12 8 rfl f_12_201 rfl J rfl sg_125_8_9_1_0_1 (fun v2 qv2 ev2 => ?_)
  try rw [vrf (jmb_w w1 qv2 rfl)] at D
  refine x_bipush (v := 20) rfl kb_20 ?_
  refine z_iadd rfl rfl jk_20 (by omega) (fun v3 ev3 => ?_)
  refine x_sipush (v := 400) rfl ks_400 ?_
  refine x_icle (tgt := 20) rfl rfl (ti_le rfl jk_400 ⟨fun c4 => ?_, fun c4 => ?_⟩)
  ·
    rw [if_pos (by omega)] at D
    refine x_aloadn (x := 125) rfl rfl ?_
    refine x_iloadn (x := a1) rfl rfl ?_
    refine x_inv (N := m_X12_four) (As := [.int a1]) (b := 125) (st := []) (dx9 := 1) (mc := 0) (ms := 0) (host := "") 12 rfl t_X12_four ⟨Or.inl q_12_207, i_X12_four.1, i_X12_four.2⟩ ⟨by decide, rfl⟩ (congrArg Prod.fst (J.1.1 125 (12, 92) rfl)) rfl (by decide) rfl rfl ⟨by decide, by decide⟩ (jC.of rfl k_X12_four rfl ?_)
    show jX m_X12_four 1 0 0 0 [(0, .ref 125), (1, .int a1)] [] _ 0 0 _
    refine x_bipush (v := 24) rfl kb_24 ?_
    refine x_istoren (lsx9 := [(2, .int 24), (0, .ref 125), (1, .int a1)]) rfl rfl rfl ?_
    refine x_iloadn (x := 24) rfl rfl ?_
    refine x_iflt (tgt := 39) rfl rfl (ti_lt jk_24 jk_0 (br_f (by omega) ?_))
    refine x_aloadn (x := 125) rfl rfl ?_
    refine z_getR (N := 92) (b := 131) 12 7 rfl f_12_29 rfl J rfl 16007 ⟨rfl, rfl⟩ rfl ?_
    refine x_aloadn (x := 125) rfl rfl ?_
    refine z_getM (N := 92) (v := v2) 12 8 rfl f_12_201 rfl J rfl qv2 ?_
    refine x_iloadn (x := a1) rfl rfl ?_
    refine x_iloadn (x := 24) rfl rfl ?_
    refine z_ishrW rfl rfl jk_24 (fun v5 ev5 => ?_)
    have fv5 := jfull v5
    try rw [← ev5] at D
    refine x_sipush (v := 255) rfl ks_255 ?_
    refine z_iandQ rfl rfl jk_255 (by decide) (fun v6 ev6 => ?_)
    try rw [← ev6.1] at D
    refine z_iast (N := 400) (l := 0) (u := 400) (w := v6.toInt) rfl hD J Sm rfl rfl rfl (by omega) rfl (wr_131 (fun q1 q2 q3 q4 => by omega)) rfl (fun h w7 J Sm => ?_)
    rw [vww w7 (show v2.toInt = v2.toInt from by omega) (show v6.toInt = v6.toInt from by omega)] at D
    refine x_aloadn (x := 125) rfl rfl ?_
    refine x_dup rfl rfl ?_
    refine z_getM (N := 92) (v := v2) 12 8 rfl f_12_201 rfl J rfl (jmo w7 rfl qv2) ?_
    refine x_iconst (v := 1) rfl ki_1 ?_
    refine z_iadd rfl rfl jk_1 (by omega) (fun v8 ev8 => ?_)
    refine z_putI (N := 92) (w := v8.toInt) 12 8 rfl f_12_201 rfl (jfin_no TX12 RX12 92 rfl rfl) hD J Sm rfl rfl rfl (pw_125_8 (by omega)) rfl (fun h w9 J Sm => ?_)
    rw [vwf w9 (show (v2.toInt + 1) = v8.toInt from by omega)] at D
    refine z_iinc (x := 24) (lsx9 := fun v10 => [(2, .int v10), (0, .ref 125), (1, .int a1)]) rfl rfl jk_24 jko_m8 (by omega) rfl (fun _ => rfl) (fun v10 ev10 => ?_)
    refine x_goto (tgt := 3) rfl rfl ?_
    refine x_iloadn (x := v10) rfl rfl ?_
    refine x_iflt (tgt := 39) rfl rfl (ti_lt rfl jk_0 (br_f (by omega) ?_))
    refine x_aloadn (x := 125) rfl rfl ?_
    refine z_getR (N := 92) (b := 131) 12 7 rfl f_12_29 rfl J rfl 16007 ⟨rfl, rfl⟩ rfl ?_
    refine x_aloadn (x := 125) rfl rfl ?_
    refine z_getM (N := 92) (v := v8) 12 8 rfl f_12_201 rfl J rfl (jmw w9) ?_
    refine x_iloadn (x := a1) rfl rfl ?_
    refine x_iloadn (x := v10) rfl rfl ?_
    refine z_ishrW rfl rfl rfl (fun v11 ev11 => ?_)
    have fv11 := jfull v11
    try rw [show (24 + (-8)) = v10.toInt from by omega] at D
    try rw [← ev11] at D
    refine x_sipush (v := 255) rfl ks_255 ?_
    refine z_iandQ rfl rfl jk_255 (by decide) (fun v12 ev12 => ?_)
    try rw [← ev12.1] at D
    refine z_iast (N := 400) (l := 0) (u := 400) (w := v12.toInt) rfl hD J Sm rfl rfl rfl (by omega) rfl (wr_131 (fun q1 q2 q3 q4 => by omega)) rfl (fun h w13 J Sm => ?_)
    rw [vww w13 (show (v2.toInt + 1) = v8.toInt from by omega) (show v12.toInt = v12.toInt from by omega)] at D
    refine x_aloadn (x := 125) rfl rfl ?_
    refine x_dup rfl rfl ?_
    refine z_getM (N := 92) (v := v8) 12 8 rfl f_12_201 rfl J rfl (jmo w13 rfl (jmw w9)) ?_
    refine x_iconst (v := 1) rfl ki_1 ?_
    refine z_iadd rfl rfl jk_1 (by omega) (fun v14 ev14 => ?_)
    refine z_putI (N := 92) (w := v14.toInt) 12 8 rfl f_12_201 rfl (jfin_no TX12 RX12 92 rfl rfl) hD J Sm rfl rfl rfl (pw_125_8 (by omega)) rfl (fun h w15 J Sm => ?_)
    rw [vwf w15 (show ((v2.toInt + 1) + 1) = v14.toInt from by omega)] at D
    refine z_iinc (x := v10) (lsx9 := fun v16 => [(2, .int v16), (0, .ref 125), (1, .int a1)]) rfl rfl rfl jko_m8 (by omega) rfl (fun _ => rfl) (fun v16 ev16 => ?_)
    refine x_goto (tgt := 3) rfl rfl ?_
    refine x_iloadn (x := v16) rfl rfl ?_
    refine x_iflt (tgt := 39) rfl rfl (ti_lt rfl jk_0 (br_f (by omega) ?_))
    refine x_aloadn (x := 125) rfl rfl ?_
    refine z_getR (N := 92) (b := 131) 12 7 rfl f_12_29 rfl J rfl 16007 ⟨rfl, rfl⟩ rfl ?_
    refine x_aloadn (x := 125) rfl rfl ?_
    refine z_getM (N := 92) (v := v14) 12 8 rfl f_12_201 rfl J rfl (jmw w15) ?_
    refine x_iloadn (x := a1) rfl rfl ?_
    refine x_iloadn (x := v16) rfl rfl ?_
    refine z_ishrW rfl rfl rfl (fun v17 ev17 => ?_)
    have fv17 := jfull v17
    try rw [show (v10.toInt + (-8)) = v16.toInt from by omega] at D
    try rw [← ev17] at D
    refine x_sipush (v := 255) rfl ks_255 ?_
    refine z_iandQ rfl rfl jk_255 (by decide) (fun v18 ev18 => ?_)
    try rw [← ev18.1] at D
    refine z_iast (N := 400) (l := 0) (u := 400) (w := v18.toInt) rfl hD J Sm rfl rfl rfl (by omega) rfl (wr_131 (fun q1 q2 q3 q4 => by omega)) rfl (fun h w19 J Sm => ?_)
    rw [vww w19 (show ((v2.toInt + 1) + 1) = v14.toInt from by omega) (show v18.toInt = v18.toInt from by omega)] at D
    refine x_aloadn (x := 125) rfl rfl ?_
    refine x_dup rfl rfl ?_
    refine z_getM (N := 92) (v := v14) 12 8 rfl f_12_201 rfl J rfl (jmo w19 rfl (jmw w15)) ?_
    refine x_iconst (v := 1) rfl ki_1 ?_
    refine z_iadd rfl rfl jk_1 (by omega) (fun v20 ev20 => ?_)
    refine z_putI (N := 92) (w := v20.toInt) 12 8 rfl f_12_201 rfl (jfin_no TX12 RX12 92 rfl rfl) hD J Sm rfl rfl rfl (pw_125_8 (by omega)) rfl (fun h w21 J Sm => ?_)
    rw [vwf w21 (show (((v2.toInt + 1) + 1) + 1) = v20.toInt from by omega)] at D
    refine z_iinc (x := v16) (lsx9 := fun v22 => [(2, .int v22), (0, .ref 125), (1, .int a1)]) rfl rfl rfl jko_m8 (by omega) rfl (fun _ => rfl) (fun v22 ev22 => ?_)
    refine x_goto (tgt := 3) rfl rfl ?_
    refine x_iloadn (x := v22) rfl rfl ?_
    refine x_iflt (tgt := 39) rfl rfl (ti_lt rfl jk_0 (br_f (by omega) ?_))
    refine x_aloadn (x := 125) rfl rfl ?_
    refine z_getR (N := 92) (b := 131) 12 7 rfl f_12_29 rfl J rfl 16007 ⟨rfl, rfl⟩ rfl ?_
    refine x_aloadn (x := 125) rfl rfl ?_
    refine z_getM (N := 92) (v := v20) 12 8 rfl f_12_201 rfl J rfl (jmw w21) ?_
    refine x_iloadn (x := a1) rfl rfl ?_
    refine x_iloadn (x := v22) rfl rfl ?_
    refine z_ishrW rfl rfl rfl (fun v23 ev23 => ?_)
    have fv23 := jfull v23
    try rw [show (v16.toInt + (-8)) = v22.toInt from by omega] at D
    try rw [← ev23] at D
    refine x_sipush (v := 255) rfl ks_255 ?_
    refine z_iandQ rfl rfl jk_255 (by decide) (fun v24 ev24 => ?_)
    try rw [← ev24.1] at D
    refine z_iast (N := 400) (l := 0) (u := 400) (w := v24.toInt) rfl hD J Sm rfl rfl rfl (by omega) rfl (wr_131 (fun q1 q2 q3 q4 => by omega)) rfl (fun h w25 J Sm => ?_)
    rw [vww w25 (show (((v2.toInt + 1) + 1) + 1) = v20.toInt from by omega) (show v24.toInt = v24.toInt from by omega)] at D
    refine x_aloadn (x := 125) rfl rfl ?_
    refine x_dup rfl rfl ?_
    refine z_getM (N := 92) (v := v20) 12 8 rfl f_12_201 rfl J rfl (jmo w25 rfl (jmw w21)) ?_
    refine x_iconst (v := 1) rfl ki_1 ?_
    refine z_iadd rfl rfl jk_1 (by omega) (fun v26 ev26 => ?_)
    refine z_putI (N := 92) (w := v26.toInt) 12 8 rfl f_12_201 rfl (jfin_no TX12 RX12 92 rfl rfl) hD J Sm rfl rfl rfl (pw_125_8 (by omega)) rfl (fun h w27 J Sm => ?_)
    rw [vwf w27 (show ((((v2.toInt + 1) + 1) + 1) + 1) = v26.toInt from by omega)] at D
    refine z_iinc (x := v22) (lsx9 := fun v28 => [(2, .int v28), (0, .ref 125), (1, .int a1)]) rfl rfl rfl jko_m8 (by omega) rfl (fun _ => rfl) (fun v28 ev28 => ?_)
    refine x_goto (tgt := 3) rfl rfl ?_
    refine x_iloadn (x := v28) rfl rfl ?_
    refine x_iflt (tgt := 39) rfl rfl (ti_lt rfl jk_0 (br_t (by omega) ?_))
    refine x_vret rfl rfl ?_
    show jX m_X12_feed 2 0 0 25 [(0, .ref 125), (1, .int a1), (2, .int a2), (3, .int a3), (4, .int a4), (5, .int a5)] [] _ 0 0 _
    refine x_aloadn (x := 125) rfl rfl ?_
    refine x_iloadn (x := a2) rfl rfl ?_
    refine x_inv (N := m_X12_four) (As := [.int a2]) (b := 125) (st := []) (dx9 := 1) (mc := 0) (ms := 0) (host := "") 12 rfl t_X12_four ⟨Or.inl q_12_207, i_X12_four.1, i_X12_four.2⟩ ⟨by decide, rfl⟩ (congrArg Prod.fst (J.1.1 125 (12, 92) rfl)) rfl (by decide) rfl rfl ⟨by decide, by decide⟩ (jC.of rfl k_X12_four rfl ?_)
    show jX m_X12_four 1 0 0 0 [(0, .ref 125), (1, .int a2)] [] _ 0 0 _
    refine x_bipush (v := 24) rfl kb_24 ?_
    refine x_istoren (lsx9 := [(2, .int 24), (0, .ref 125), (1, .int a2)]) rfl rfl rfl ?_
    refine x_iloadn (x := 24) rfl rfl ?_
    refine x_iflt (tgt := 39) rfl rfl (ti_lt jk_24 jk_0 (br_f (by omega) ?_))
    refine x_aloadn (x := 125) rfl rfl ?_
    refine z_getR (N := 92) (b := 131) 12 7 rfl f_12_29 rfl J rfl 16007 ⟨rfl, rfl⟩ rfl ?_
    refine x_aloadn (x := 125) rfl rfl ?_
    refine z_getM (N := 92) (v := v26) 12 8 rfl f_12_201 rfl J rfl (jmw w27) ?_
    refine x_iloadn (x := a2) rfl rfl ?_
    refine x_iloadn (x := 24) rfl rfl ?_
    refine z_ishrW rfl rfl jk_24 (fun v29 ev29 => ?_)
    have fv29 := jfull v29
    try rw [← ev29] at D
    refine x_sipush (v := 255) rfl ks_255 ?_
    refine z_iandQ rfl rfl jk_255 (by decide) (fun v30 ev30 => ?_)
    try rw [← ev30.1] at D
    refine z_iast (N := 400) (l := 0) (u := 400) (w := v30.toInt) rfl hD J Sm rfl rfl rfl (by omega) rfl (wr_131 (fun q1 q2 q3 q4 => by omega)) rfl (fun h w31 J Sm => ?_)
    rw [vww w31 (show ((((v2.toInt + 1) + 1) + 1) + 1) = v26.toInt from by omega) (show v30.toInt = v30.toInt from by omega)] at D
    refine x_aloadn (x := 125) rfl rfl ?_
    refine x_dup rfl rfl ?_
    refine z_getM (N := 92) (v := v26) 12 8 rfl f_12_201 rfl J rfl (jmo w31 rfl (jmw w27)) ?_
    refine x_iconst (v := 1) rfl ki_1 ?_
    refine z_iadd rfl rfl jk_1 (by omega) (fun v32 ev32 => ?_)
    refine z_putI (N := 92) (w := v32.toInt) 12 8 rfl f_12_201 rfl (jfin_no TX12 RX12 92 rfl rfl) hD J Sm rfl rfl rfl (pw_125_8 (by omega)) rfl (fun h w33 J Sm => ?_)
    rw [vwf w33 (show (((((v2.toInt + 1) + 1) + 1) + 1) + 1) = v32.toInt from by omega)] at D
    refine z_iinc (x := 24) (lsx9 := fun v34 => [(2, .int v34), (0, .ref 125), (1, .int a2)]) rfl rfl jk_24 jko_m8 (by omega) rfl (fun _ => rfl) (fun v34 ev34 => ?_)
    refine x_goto (tgt := 3) rfl rfl ?_
    refine x_iloadn (x := v34) rfl rfl ?_
    refine x_iflt (tgt := 39) rfl rfl (ti_lt rfl jk_0 (br_f (by omega) ?_))
    refine x_aloadn (x := 125) rfl rfl ?_
    refine z_getR (N := 92) (b := 131) 12 7 rfl f_12_29 rfl J rfl 16007 ⟨rfl, rfl⟩ rfl ?_
    refine x_aloadn (x := 125) rfl rfl ?_
    refine z_getM (N := 92) (v := v32) 12 8 rfl f_12_201 rfl J rfl (jmw w33) ?_
    refine x_iloadn (x := a2) rfl rfl ?_
    refine x_iloadn (x := v34) rfl rfl ?_
    refine z_ishrW rfl rfl rfl (fun v35 ev35 => ?_)
    have fv35 := jfull v35
    try rw [show v10.toInt = v34.toInt from by omega] at D
    try rw [← ev35] at D
    refine x_sipush (v := 255) rfl ks_255 ?_
    refine z_iandQ rfl rfl jk_255 (by decide) (fun v36 ev36 => ?_)
    try rw [← ev36.1] at D
    refine z_iast (N := 400) (l := 0) (u := 400) (w := v36.toInt) rfl hD J Sm rfl rfl rfl (by omega) rfl (wr_131 (fun q1 q2 q3 q4 => by omega)) rfl (fun h w37 J Sm => ?_)
    rw [vww w37 (show (((((v2.toInt + 1) + 1) + 1) + 1) + 1) = v32.toInt from by omega) (show v36.toInt = v36.toInt from by omega)] at D
    refine x_aloadn (x := 125) rfl rfl ?_
    refine x_dup rfl rfl ?_
    refine z_getM (N := 92) (v := v32) 12 8 rfl f_12_201 rfl J rfl (jmo w37 rfl (jmw w33)) ?_
    refine x_iconst (v := 1) rfl ki_1 ?_
    refine z_iadd rfl rfl jk_1 (by omega) (fun v38 ev38 => ?_)
    refine z_putI (N := 92) (w := v38.toInt) 12 8 rfl f_12_201 rfl (jfin_no TX12 RX12 92 rfl rfl) hD J Sm rfl rfl rfl (pw_125_8 (by omega)) rfl (fun h w39 J Sm => ?_)
    rw [vwf w39 (show ((((((v2.toInt + 1) + 1) + 1) + 1) + 1) + 1) = v38.toInt from by omega)] at D
    refine z_iinc (x := v34) (lsx9 := fun v40 => [(2, .int v40), (0, .ref 125), (1, .int a2)]) rfl rfl rfl jko_m8 (by omega) rfl (fun _ => rfl) (fun v40 ev40 => ?_)
    refine x_goto (tgt := 3) rfl rfl ?_
    refine x_iloadn (x := v40) rfl rfl ?_
    refine x_iflt (tgt := 39) rfl rfl (ti_lt rfl jk_0 (br_f (by omega) ?_))
    refine x_aloadn (x := 125) rfl rfl ?_
    refine z_getR (N := 92) (b := 131) 12 7 rfl f_12_29 rfl J rfl 16007 ⟨rfl, rfl⟩ rfl ?_
    refine x_aloadn (x := 125) rfl rfl ?_
    refine z_getM (N := 92) (v := v38) 12 8 rfl f_12_201 rfl J rfl (jmw w39) ?_
    refine x_iloadn (x := a2) rfl rfl ?_
    refine x_iloadn (x := v40) rfl rfl ?_
    refine z_ishrW rfl rfl rfl (fun v41 ev41 => ?_)
    have fv41 := jfull v41
    try rw [show v16.toInt = v40.toInt from by omega] at D
    try rw [← ev41] at D
    refine x_sipush (v := 255) rfl ks_255 ?_
    refine z_iandQ rfl rfl jk_255 (by decide) (fun v42 ev42 => ?_)
    try rw [← ev42.1] at D
    refine z_iast (N := 400) (l := 0) (u := 400) (w := v42.toInt) rfl hD J Sm rfl rfl rfl (by omega) rfl (wr_131 (fun q1 q2 q3 q4 => by omega)) rfl (fun h w43 J Sm => ?_)
    rw [vww w43 (show ((((((v2.toInt + 1) + 1) + 1) + 1) + 1) + 1) = v38.toInt from by omega) (show v42.toInt = v42.toInt from by omega)] at D
    refine x_aloadn (x := 125) rfl rfl ?_
    refine x_dup rfl rfl ?_
    refine z_getM (N := 92) (v := v38) 12 8 rfl f_12_201 rfl J rfl (jmo w43 rfl (jmw w39)) ?_
    refine x_iconst (v := 1) rfl ki_1 ?_
    refine z_iadd rfl rfl jk_1 (by omega) (fun v44 ev44 => ?_)
    refine z_putI (N := 92) (w := v44.toInt) 12 8 rfl f_12_201 rfl (jfin_no TX12 RX12 92 rfl rfl) hD J Sm rfl rfl rfl (pw_125_8 (by omega)) rfl (fun h w45 J Sm => ?_)
    rw [vwf w45 (show (((((((v2.toInt + 1) + 1) + 1) + 1) + 1) + 1) + 1) = v44.toInt from by omega)] at D
    refine z_iinc (x := v40) (lsx9 := fun v46 => [(2, .int v46), (0, .ref 125), (1, .int a2)]) rfl rfl rfl jko_m8 (by omega) rfl (fun _ => rfl) (fun v46 ev46 => ?_)
    refine x_goto (tgt := 3) rfl rfl ?_
    refine x_iloadn (x := v46) rfl rfl ?_
    refine x_iflt (tgt := 39) rfl rfl (ti_lt rfl jk_0 (br_f (by omega) ?_))
    refine x_aloadn (x := 125) rfl rfl ?_
    refine z_getR (N := 92) (b := 131) 12 7 rfl f_12_29 rfl J rfl 16007 ⟨rfl, rfl⟩ rfl ?_
    refine x_aloadn (x := 125) rfl rfl ?_
    refine z_getM (N := 92) (v := v44) 12 8 rfl f_12_201 rfl J rfl (jmw w45) ?_
    refine x_iloadn (x := a2) rfl rfl ?_
    refine x_iloadn (x := v46) rfl rfl ?_
    refine z_ishrW rfl rfl rfl (fun v47 ev47 => ?_)
    have fv47 := jfull v47
    try rw [show v22.toInt = v46.toInt from by omega] at D
    try rw [← ev47] at D
    refine x_sipush (v := 255) rfl ks_255 ?_
    refine z_iandQ rfl rfl jk_255 (by decide) (fun v48 ev48 => ?_)
    try rw [← ev48.1] at D
    refine z_iast (N := 400) (l := 0) (u := 400) (w := v48.toInt) rfl hD J Sm rfl rfl rfl (by omega) rfl (wr_131 (fun q1 q2 q3 q4 => by omega)) rfl (fun h w49 J Sm => ?_)
    rw [vww w49 (show (((((((v2.toInt + 1) + 1) + 1) + 1) + 1) + 1) + 1) = v44.toInt from by omega) (show v48.toInt = v48.toInt from by omega)] at D
    refine x_aloadn (x := 125) rfl rfl ?_
    refine x_dup rfl rfl ?_
    refine z_getM (N := 92) (v := v44) 12 8 rfl f_12_201 rfl J rfl (jmo w49 rfl (jmw w45)) ?_
    refine x_iconst (v := 1) rfl ki_1 ?_
    refine z_iadd rfl rfl jk_1 (by omega) (fun v50 ev50 => ?_)
    refine z_putI (N := 92) (w := v50.toInt) 12 8 rfl f_12_201 rfl (jfin_no TX12 RX12 92 rfl rfl) hD J Sm rfl rfl rfl (pw_125_8 (by omega)) rfl (fun h w51 J Sm => ?_)
    rw [vwf w51 (show ((((((((v2.toInt + 1) + 1) + 1) + 1) + 1) + 1) + 1) + 1) = v50.toInt from by omega)] at D
    refine z_iinc (x := v46) (lsx9 := fun v52 => [(2, .int v52), (0, .ref 125), (1, .int a2)]) rfl rfl rfl jko_m8 (by omega) rfl (fun _ => rfl) (fun v52 ev52 => ?_)
    refine x_goto (tgt := 3) rfl rfl ?_
    refine x_iloadn (x := v52) rfl rfl ?_
    refine x_iflt (tgt := 39) rfl rfl (ti_lt rfl jk_0 (br_t (by omega) ?_))
    refine x_vret rfl rfl ?_
    show jX m_X12_feed 2 0 0 30 [(0, .ref 125), (1, .int a1), (2, .int a2), (3, .int a3), (4, .int a4), (5, .int a5)] [] _ 0 0 _
    refine x_aloadn (x := 125) rfl rfl ?_
    refine x_iloadn (x := a3) rfl rfl ?_
    refine x_inv (N := m_X12_four) (As := [.int a3]) (b := 125) (st := []) (dx9 := 1) (mc := 0) (ms := 0) (host := "") 12 rfl t_X12_four ⟨Or.inl q_12_207, i_X12_four.1, i_X12_four.2⟩ ⟨by decide, rfl⟩ (congrArg Prod.fst (J.1.1 125 (12, 92) rfl)) rfl (by decide) rfl rfl ⟨by decide, by decide⟩ (jC.of rfl k_X12_four rfl ?_)
    show jX m_X12_four 1 0 0 0 [(0, .ref 125), (1, .int a3)] [] _ 0 0 _
    refine x_bipush (v := 24) rfl kb_24 ?_
    refine x_istoren (lsx9 := [(2, .int 24), (0, .ref 125), (1, .int a3)]) rfl rfl rfl ?_
    refine x_iloadn (x := 24) rfl rfl ?_
    refine x_iflt (tgt := 39) rfl rfl (ti_lt jk_24 jk_0 (br_f (by omega) ?_))
    refine x_aloadn (x := 125) rfl rfl ?_
    refine z_getR (N := 92) (b := 131) 12 7 rfl f_12_29 rfl J rfl 16007 ⟨rfl, rfl⟩ rfl ?_
    refine x_aloadn (x := 125) rfl rfl ?_
    refine z_getM (N := 92) (v := v50) 12 8 rfl f_12_201 rfl J rfl (jmw w51) ?_
    refine x_iloadn (x := a3) rfl rfl ?_
    refine x_iloadn (x := 24) rfl rfl ?_
    refine z_ishrW rfl rfl jk_24 (fun v53 ev53 => ?_)
    have fv53 := jfull v53
    try rw [← ev53] at D
    refine x_sipush (v := 255) rfl ks_255 ?_
    refine z_iandQ rfl rfl jk_255 (by decide) (fun v54 ev54 => ?_)
    try rw [← ev54.1] at D
    refine z_iast (N := 400) (l := 0) (u := 400) (w := v54.toInt) rfl hD J Sm rfl rfl rfl (by omega) rfl (wr_131 (fun q1 q2 q3 q4 => by omega)) rfl (fun h w55 J Sm => ?_)
    rw [vww w55 (show ((((((((v2.toInt + 1) + 1) + 1) + 1) + 1) + 1) + 1) + 1) = v50.toInt from by omega) (show v54.toInt = v54.toInt from by omega)] at D
    refine x_aloadn (x := 125) rfl rfl ?_
    refine x_dup rfl rfl ?_
    refine z_getM (N := 92) (v := v50) 12 8 rfl f_12_201 rfl J rfl (jmo w55 rfl (jmw w51)) ?_
    refine x_iconst (v := 1) rfl ki_1 ?_
    refine z_iadd rfl rfl jk_1 (by omega) (fun v56 ev56 => ?_)
    refine z_putI (N := 92) (w := v56.toInt) 12 8 rfl f_12_201 rfl (jfin_no TX12 RX12 92 rfl rfl) hD J Sm rfl rfl rfl (pw_125_8 (by omega)) rfl (fun h w57 J Sm => ?_)
    rw [vwf w57 (show (((((((((v2.toInt + 1) + 1) + 1) + 1) + 1) + 1) + 1) + 1) + 1) = v56.toInt from by omega)] at D
    refine z_iinc (x := 24) (lsx9 := fun v58 => [(2, .int v58), (0, .ref 125), (1, .int a3)]) rfl rfl jk_24 jko_m8 (by omega) rfl (fun _ => rfl) (fun v58 ev58 => ?_)
    refine x_goto (tgt := 3) rfl rfl ?_
    refine x_iloadn (x := v58) rfl rfl ?_
    refine x_iflt (tgt := 39) rfl rfl (ti_lt rfl jk_0 (br_f (by omega) ?_))
    refine x_aloadn (x := 125) rfl rfl ?_
    refine z_getR (N := 92) (b := 131) 12 7 rfl f_12_29 rfl J rfl 16007 ⟨rfl, rfl⟩ rfl ?_
    refine x_aloadn (x := 125) rfl rfl ?_
    refine z_getM (N := 92) (v := v56) 12 8 rfl f_12_201 rfl J rfl (jmw w57) ?_
    refine x_iloadn (x := a3) rfl rfl ?_
    refine x_iloadn (x := v58) rfl rfl ?_
    refine z_ishrW rfl rfl rfl (fun v59 ev59 => ?_)
    have fv59 := jfull v59
    try rw [show v34.toInt = v58.toInt from by omega] at D
    try rw [← ev59] at D
    refine x_sipush (v := 255) rfl ks_255 ?_
    refine z_iandQ rfl rfl jk_255 (by decide) (fun v60 ev60 => ?_)
    try rw [← ev60.1] at D
    refine z_iast (N := 400) (l := 0) (u := 400) (w := v60.toInt) rfl hD J Sm rfl rfl rfl (by omega) rfl (wr_131 (fun q1 q2 q3 q4 => by omega)) rfl (fun h w61 J Sm => ?_)
    rw [vww w61 (show (((((((((v2.toInt + 1) + 1) + 1) + 1) + 1) + 1) + 1) + 1) + 1) = v56.toInt from by omega) (show v60.toInt = v60.toInt from by omega)] at D
    refine x_aloadn (x := 125) rfl rfl ?_
    refine x_dup rfl rfl ?_
    refine z_getM (N := 92) (v := v56) 12 8 rfl f_12_201 rfl J rfl (jmo w61 rfl (jmw w57)) ?_
    refine x_iconst (v := 1) rfl ki_1 ?_
    refine z_iadd rfl rfl jk_1 (by omega) (fun v62 ev62 => ?_)
    refine z_putI (N := 92) (w := v62.toInt) 12 8 rfl f_12_201 rfl (jfin_no TX12 RX12 92 rfl rfl) hD J Sm rfl rfl rfl (pw_125_8 (by omega)) rfl (fun h w63 J Sm => ?_)
    rw [vwf w63 (show ((((((((((v2.toInt + 1) + 1) + 1) + 1) + 1) + 1) + 1) + 1) + 1) + 1) = v62.toInt from by omega)] at D
    refine z_iinc (x := v58) (lsx9 := fun v64 => [(2, .int v64), (0, .ref 125), (1, .int a3)]) rfl rfl rfl jko_m8 (by omega) rfl (fun _ => rfl) (fun v64 ev64 => ?_)
    refine x_goto (tgt := 3) rfl rfl ?_
    refine x_iloadn (x := v64) rfl rfl ?_
    refine x_iflt (tgt := 39) rfl rfl (ti_lt rfl jk_0 (br_f (by omega) ?_))
    refine x_aloadn (x := 125) rfl rfl ?_
    refine z_getR (N := 92) (b := 131) 12 7 rfl f_12_29 rfl J rfl 16007 ⟨rfl, rfl⟩ rfl ?_
    refine x_aloadn (x := 125) rfl rfl ?_
    refine z_getM (N := 92) (v := v62) 12 8 rfl f_12_201 rfl J rfl (jmw w63) ?_
    refine x_iloadn (x := a3) rfl rfl ?_
    refine x_iloadn (x := v64) rfl rfl ?_
    refine z_ishrW rfl rfl rfl (fun v65 ev65 => ?_)
    have fv65 := jfull v65
    try rw [show v40.toInt = v64.toInt from by omega] at D
    try rw [← ev65] at D
    refine x_sipush (v := 255) rfl ks_255 ?_
    refine z_iandQ rfl rfl jk_255 (by decide) (fun v66 ev66 => ?_)
    try rw [← ev66.1] at D
    refine z_iast (N := 400) (l := 0) (u := 400) (w := v66.toInt) rfl hD J Sm rfl rfl rfl (by omega) rfl (wr_131 (fun q1 q2 q3 q4 => by omega)) rfl (fun h w67 J Sm => ?_)
    rw [vww w67 (show ((((((((((v2.toInt + 1) + 1) + 1) + 1) + 1) + 1) + 1) + 1) + 1) + 1) = v62.toInt from by omega) (show v66.toInt = v66.toInt from by omega)] at D
    refine x_aloadn (x := 125) rfl rfl ?_
    refine x_dup rfl rfl ?_
    refine z_getM (N := 92) (v := v62) 12 8 rfl f_12_201 rfl J rfl (jmo w67 rfl (jmw w63)) ?_
    refine x_iconst (v := 1) rfl ki_1 ?_
    refine z_iadd rfl rfl jk_1 (by omega) (fun v68 ev68 => ?_)
    refine z_putI (N := 92) (w := v68.toInt) 12 8 rfl f_12_201 rfl (jfin_no TX12 RX12 92 rfl rfl) hD J Sm rfl rfl rfl (pw_125_8 (by omega)) rfl (fun h w69 J Sm => ?_)
    rw [vwf w69 (show (((((((((((v2.toInt + 1) + 1) + 1) + 1) + 1) + 1) + 1) + 1) + 1) + 1) + 1) = v68.toInt from by omega)] at D
    refine z_iinc (x := v64) (lsx9 := fun v70 => [(2, .int v70), (0, .ref 125), (1, .int a3)]) rfl rfl rfl jko_m8 (by omega) rfl (fun _ => rfl) (fun v70 ev70 => ?_)
    refine x_goto (tgt := 3) rfl rfl ?_
    refine x_iloadn (x := v70) rfl rfl ?_
    refine x_iflt (tgt := 39) rfl rfl (ti_lt rfl jk_0 (br_f (by omega) ?_))
    refine x_aloadn (x := 125) rfl rfl ?_
    refine z_getR (N := 92) (b := 131) 12 7 rfl f_12_29 rfl J rfl 16007 ⟨rfl, rfl⟩ rfl ?_
    refine x_aloadn (x := 125) rfl rfl ?_
    refine z_getM (N := 92) (v := v68) 12 8 rfl f_12_201 rfl J rfl (jmw w69) ?_
    refine x_iloadn (x := a3) rfl rfl ?_
    refine x_iloadn (x := v70) rfl rfl ?_
    refine z_ishrW rfl rfl rfl (fun v71 ev71 => ?_)
    have fv71 := jfull v71
    try rw [show v46.toInt = v70.toInt from by omega] at D
    try rw [← ev71] at D
    refine x_sipush (v := 255) rfl ks_255 ?_
    refine z_iandQ rfl rfl jk_255 (by decide) (fun v72 ev72 => ?_)
    try rw [← ev72.1] at D
    refine z_iast (N := 400) (l := 0) (u := 400) (w := v72.toInt) rfl hD J Sm rfl rfl rfl (by omega) rfl (wr_131 (fun q1 q2 q3 q4 => by omega)) rfl (fun h w73 J Sm => ?_)
    rw [vww w73 (show (((((((((((v2.toInt + 1) + 1) + 1) + 1) + 1) + 1) + 1) + 1) + 1) + 1) + 1) = v68.toInt from by omega) (show v72.toInt = v72.toInt from by omega)] at D
    refine x_aloadn (x := 125) rfl rfl ?_
    refine x_dup rfl rfl ?_
    refine z_getM (N := 92) (v := v68) 12 8 rfl f_12_201 rfl J rfl (jmo w73 rfl (jmw w69)) ?_
    refine x_iconst (v := 1) rfl ki_1 ?_
    refine z_iadd rfl rfl jk_1 (by omega) (fun v74 ev74 => ?_)
    refine z_putI (N := 92) (w := v74.toInt) 12 8 rfl f_12_201 rfl (jfin_no TX12 RX12 92 rfl rfl) hD J Sm rfl rfl rfl (pw_125_8 (by omega)) rfl (fun h w75 J Sm => ?_)
    rw [vwf w75 (show ((((((((((((v2.toInt + 1) + 1) + 1) + 1) + 1) + 1) + 1) + 1) + 1) + 1) + 1) + 1) = v74.toInt from by omega)] at D
    refine z_iinc (x := v70) (lsx9 := fun v76 => [(2, .int v76), (0, .ref 125), (1, .int a3)]) rfl rfl rfl jko_m8 (by omega) rfl (fun _ => rfl) (fun v76 ev76 => ?_)
    refine x_goto (tgt := 3) rfl rfl ?_
    refine x_iloadn (x := v76) rfl rfl ?_
    refine x_iflt (tgt := 39) rfl rfl (ti_lt rfl jk_0 (br_t (by omega) ?_))
    refine x_vret rfl rfl ?_
    show jX m_X12_feed 2 0 0 35 [(0, .ref 125), (1, .int a1), (2, .int a2), (3, .int a3), (4, .int a4), (5, .int a5)] [] _ 0 0 _
    refine x_aloadn (x := 125) rfl rfl ?_
    refine x_iload (x := a4) rfl rfl ?_
    refine x_inv (N := m_X12_four) (As := [.int a4]) (b := 125) (st := []) (dx9 := 1) (mc := 0) (ms := 0) (host := "") 12 rfl t_X12_four ⟨Or.inl q_12_207, i_X12_four.1, i_X12_four.2⟩ ⟨by decide, rfl⟩ (congrArg Prod.fst (J.1.1 125 (12, 92) rfl)) rfl (by decide) rfl rfl ⟨by decide, by decide⟩ (jC.of rfl k_X12_four rfl ?_)
    show jX m_X12_four 1 0 0 0 [(0, .ref 125), (1, .int a4)] [] _ 0 0 _
    refine x_bipush (v := 24) rfl kb_24 ?_
    refine x_istoren (lsx9 := [(2, .int 24), (0, .ref 125), (1, .int a4)]) rfl rfl rfl ?_
    refine x_iloadn (x := 24) rfl rfl ?_
    refine x_iflt (tgt := 39) rfl rfl (ti_lt jk_24 jk_0 (br_f (by omega) ?_))
    refine x_aloadn (x := 125) rfl rfl ?_
    refine z_getR (N := 92) (b := 131) 12 7 rfl f_12_29 rfl J rfl 16007 ⟨rfl, rfl⟩ rfl ?_
    refine x_aloadn (x := 125) rfl rfl ?_
    refine z_getM (N := 92) (v := v74) 12 8 rfl f_12_201 rfl J rfl (jmw w75) ?_
    refine x_iloadn (x := a4) rfl rfl ?_
    refine x_iloadn (x := 24) rfl rfl ?_
    refine z_ishrW rfl rfl jk_24 (fun v77 ev77 => ?_)
    have fv77 := jfull v77
    try rw [← ev77] at D
    refine x_sipush (v := 255) rfl ks_255 ?_
    refine z_iandQ rfl rfl jk_255 (by decide) (fun v78 ev78 => ?_)
    try rw [← ev78.1] at D
    refine z_iast (N := 400) (l := 0) (u := 400) (w := v78.toInt) rfl hD J Sm rfl rfl rfl (by omega) rfl (wr_131 (fun q1 q2 q3 q4 => by omega)) rfl (fun h w79 J Sm => ?_)
    rw [vww w79 (show ((((((((((((v2.toInt + 1) + 1) + 1) + 1) + 1) + 1) + 1) + 1) + 1) + 1) + 1) + 1) = v74.toInt from by omega) (show v78.toInt = v78.toInt from by omega)] at D
    refine x_aloadn (x := 125) rfl rfl ?_
    refine x_dup rfl rfl ?_
    refine z_getM (N := 92) (v := v74) 12 8 rfl f_12_201 rfl J rfl (jmo w79 rfl (jmw w75)) ?_
    refine x_iconst (v := 1) rfl ki_1 ?_
    refine z_iadd rfl rfl jk_1 (by omega) (fun v80 ev80 => ?_)
    refine z_putI (N := 92) (w := v80.toInt) 12 8 rfl f_12_201 rfl (jfin_no TX12 RX12 92 rfl rfl) hD J Sm rfl rfl rfl (pw_125_8 (by omega)) rfl (fun h w81 J Sm => ?_)
    rw [vwf w81 (show (((((((((((((v2.toInt + 1) + 1) + 1) + 1) + 1) + 1) + 1) + 1) + 1) + 1) + 1) + 1) + 1) = v80.toInt from by omega)] at D
    refine z_iinc (x := 24) (lsx9 := fun v82 => [(2, .int v82), (0, .ref 125), (1, .int a4)]) rfl rfl jk_24 jko_m8 (by omega) rfl (fun _ => rfl) (fun v82 ev82 => ?_)
    refine x_goto (tgt := 3) rfl rfl ?_
    refine x_iloadn (x := v82) rfl rfl ?_
    refine x_iflt (tgt := 39) rfl rfl (ti_lt rfl jk_0 (br_f (by omega) ?_))
    refine x_aloadn (x := 125) rfl rfl ?_
    refine z_getR (N := 92) (b := 131) 12 7 rfl f_12_29 rfl J rfl 16007 ⟨rfl, rfl⟩ rfl ?_
    refine x_aloadn (x := 125) rfl rfl ?_
    refine z_getM (N := 92) (v := v80) 12 8 rfl f_12_201 rfl J rfl (jmw w81) ?_
    refine x_iloadn (x := a4) rfl rfl ?_
    refine x_iloadn (x := v82) rfl rfl ?_
    refine z_ishrW rfl rfl rfl (fun v83 ev83 => ?_)
    have fv83 := jfull v83
    try rw [show v58.toInt = v82.toInt from by omega] at D
    try rw [← ev83] at D
    refine x_sipush (v := 255) rfl ks_255 ?_
    refine z_iandQ rfl rfl jk_255 (by decide) (fun v84 ev84 => ?_)
    try rw [← ev84.1] at D
    refine z_iast (N := 400) (l := 0) (u := 400) (w := v84.toInt) rfl hD J Sm rfl rfl rfl (by omega) rfl (wr_131 (fun q1 q2 q3 q4 => by omega)) rfl (fun h w85 J Sm => ?_)
    rw [vww w85 (show (((((((((((((v2.toInt + 1) + 1) + 1) + 1) + 1) + 1) + 1) + 1) + 1) + 1) + 1) + 1) + 1) = v80.toInt from by omega) (show v84.toInt = v84.toInt from by omega)] at D
    refine x_aloadn (x := 125) rfl rfl ?_
    refine x_dup rfl rfl ?_
    refine z_getM (N := 92) (v := v80) 12 8 rfl f_12_201 rfl J rfl (jmo w85 rfl (jmw w81)) ?_
    refine x_iconst (v := 1) rfl ki_1 ?_
    refine z_iadd rfl rfl jk_1 (by omega) (fun v86 ev86 => ?_)
    refine z_putI (N := 92) (w := v86.toInt) 12 8 rfl f_12_201 rfl (jfin_no TX12 RX12 92 rfl rfl) hD J Sm rfl rfl rfl (pw_125_8 (by omega)) rfl (fun h w87 J Sm => ?_)
    rw [vwf w87 (show ((((((((((((((v2.toInt + 1) + 1) + 1) + 1) + 1) + 1) + 1) + 1) + 1) + 1) + 1) + 1) + 1) + 1) = v86.toInt from by omega)] at D
    refine z_iinc (x := v82) (lsx9 := fun v88 => [(2, .int v88), (0, .ref 125), (1, .int a4)]) rfl rfl rfl jko_m8 (by omega) rfl (fun _ => rfl) (fun v88 ev88 => ?_)
    refine x_goto (tgt := 3) rfl rfl ?_
    refine x_iloadn (x := v88) rfl rfl ?_
    refine x_iflt (tgt := 39) rfl rfl (ti_lt rfl jk_0 (br_f (by omega) ?_))
    refine x_aloadn (x := 125) rfl rfl ?_
    refine z_getR (N := 92) (b := 131) 12 7 rfl f_12_29 rfl J rfl 16007 ⟨rfl, rfl⟩ rfl ?_
    refine x_aloadn (x := 125) rfl rfl ?_
    refine z_getM (N := 92) (v := v86) 12 8 rfl f_12_201 rfl J rfl (jmw w87) ?_
    refine x_iloadn (x := a4) rfl rfl ?_
    refine x_iloadn (x := v88) rfl rfl ?_
    refine z_ishrW rfl rfl rfl (fun v89 ev89 => ?_)
    have fv89 := jfull v89
    try rw [show v64.toInt = v88.toInt from by omega] at D
    try rw [← ev89] at D
    refine x_sipush (v := 255) rfl ks_255 ?_
    refine z_iandQ rfl rfl jk_255 (by decide) (fun v90 ev90 => ?_)
    try rw [← ev90.1] at D
    refine z_iast (N := 400) (l := 0) (u := 400) (w := v90.toInt) rfl hD J Sm rfl rfl rfl (by omega) rfl (wr_131 (fun q1 q2 q3 q4 => by omega)) rfl (fun h w91 J Sm => ?_)
    rw [vww w91 (show ((((((((((((((v2.toInt + 1) + 1) + 1) + 1) + 1) + 1) + 1) + 1) + 1) + 1) + 1) + 1) + 1) + 1) = v86.toInt from by omega) (show v90.toInt = v90.toInt from by omega)] at D
    refine x_aloadn (x := 125) rfl rfl ?_
    refine x_dup rfl rfl ?_
    refine z_getM (N := 92) (v := v86) 12 8 rfl f_12_201 rfl J rfl (jmo w91 rfl (jmw w87)) ?_
    refine x_iconst (v := 1) rfl ki_1 ?_
    refine z_iadd rfl rfl jk_1 (by omega) (fun v92 ev92 => ?_)
    refine z_putI (N := 92) (w := v92.toInt) 12 8 rfl f_12_201 rfl (jfin_no TX12 RX12 92 rfl rfl) hD J Sm rfl rfl rfl (pw_125_8 (by omega)) rfl (fun h w93 J Sm => ?_)
    rw [vwf w93 (show (((((((((((((((v2.toInt + 1) + 1) + 1) + 1) + 1) + 1) + 1) + 1) + 1) + 1) + 1) + 1) + 1) + 1) + 1) = v92.toInt from by omega)] at D
    refine z_iinc (x := v88) (lsx9 := fun v94 => [(2, .int v94), (0, .ref 125), (1, .int a4)]) rfl rfl rfl jko_m8 (by omega) rfl (fun _ => rfl) (fun v94 ev94 => ?_)
    refine x_goto (tgt := 3) rfl rfl ?_
    refine x_iloadn (x := v94) rfl rfl ?_
    refine x_iflt (tgt := 39) rfl rfl (ti_lt rfl jk_0 (br_f (by omega) ?_))
    refine x_aloadn (x := 125) rfl rfl ?_
    refine z_getR (N := 92) (b := 131) 12 7 rfl f_12_29 rfl J rfl 16007 ⟨rfl, rfl⟩ rfl ?_
    refine x_aloadn (x := 125) rfl rfl ?_
    refine z_getM (N := 92) (v := v92) 12 8 rfl f_12_201 rfl J rfl (jmw w93) ?_
    refine x_iloadn (x := a4) rfl rfl ?_
    refine x_iloadn (x := v94) rfl rfl ?_
    refine z_ishrW rfl rfl rfl (fun v95 ev95 => ?_)
    have fv95 := jfull v95
    try rw [show v70.toInt = v94.toInt from by omega] at D
    try rw [← ev95] at D
    refine x_sipush (v := 255) rfl ks_255 ?_
    refine z_iandQ rfl rfl jk_255 (by decide) (fun v96 ev96 => ?_)
    try rw [← ev96.1] at D
    refine z_iast (N := 400) (l := 0) (u := 400) (w := v96.toInt) rfl hD J Sm rfl rfl rfl (by omega) rfl (wr_131 (fun q1 q2 q3 q4 => by omega)) rfl (fun h w97 J Sm => ?_)
    rw [vww w97 (show (((((((((((((((v2.toInt + 1) + 1) + 1) + 1) + 1) + 1) + 1) + 1) + 1) + 1) + 1) + 1) + 1) + 1) + 1) = v92.toInt from by omega) (show v96.toInt = v96.toInt from by omega)] at D
    refine x_aloadn (x := 125) rfl rfl ?_
    refine x_dup rfl rfl ?_
    refine z_getM (N := 92) (v := v92) 12 8 rfl f_12_201 rfl J rfl (jmo w97 rfl (jmw w93)) ?_
    refine x_iconst (v := 1) rfl ki_1 ?_
    refine z_iadd rfl rfl jk_1 (by omega) (fun v98 ev98 => ?_)
    refine z_putI (N := 92) (w := v98.toInt) 12 8 rfl f_12_201 rfl (jfin_no TX12 RX12 92 rfl rfl) hD J Sm rfl rfl rfl (pw_125_8 (by omega)) rfl (fun h w99 J Sm => ?_)
    rw [vwf w99 (show ((((((((((((((((v2.toInt + 1) + 1) + 1) + 1) + 1) + 1) + 1) + 1) + 1) + 1) + 1) + 1) + 1) + 1) + 1) + 1) = v98.toInt from by omega)] at D
    refine z_iinc (x := v94) (lsx9 := fun v100 => [(2, .int v100), (0, .ref 125), (1, .int a4)]) rfl rfl rfl jko_m8 (by omega) rfl (fun _ => rfl) (fun v100 ev100 => ?_)
    refine x_goto (tgt := 3) rfl rfl ?_
    refine x_iloadn (x := v100) rfl rfl ?_
    refine x_iflt (tgt := 39) rfl rfl (ti_lt rfl jk_0 (br_t (by omega) ?_))
    refine x_vret rfl rfl ?_
    show jX m_X12_feed 2 0 0 41 [(0, .ref 125), (1, .int a1), (2, .int a2), (3, .int a3), (4, .int a4), (5, .int a5)] [] _ 0 0 _
    refine x_aloadn (x := 125) rfl rfl ?_
    refine x_iload (x := a5) rfl rfl ?_
    refine x_inv (N := m_X12_four) (As := [.int a5]) (b := 125) (st := []) (dx9 := 1) (mc := 0) (ms := 0) (host := "") 12 rfl t_X12_four ⟨Or.inl q_12_207, i_X12_four.1, i_X12_four.2⟩ ⟨by decide, rfl⟩ (congrArg Prod.fst (J.1.1 125 (12, 92) rfl)) rfl (by decide) rfl rfl ⟨by decide, by decide⟩ (jC.of rfl k_X12_four rfl ?_)
    show jX m_X12_four 1 0 0 0 [(0, .ref 125), (1, .int a5)] [] _ 0 0 _
    refine x_bipush (v := 24) rfl kb_24 ?_
    refine x_istoren (lsx9 := [(2, .int 24), (0, .ref 125), (1, .int a5)]) rfl rfl rfl ?_
    refine x_iloadn (x := 24) rfl rfl ?_
    refine x_iflt (tgt := 39) rfl rfl (ti_lt jk_24 jk_0 (br_f (by omega) ?_))
    refine x_aloadn (x := 125) rfl rfl ?_
    refine z_getR (N := 92) (b := 131) 12 7 rfl f_12_29 rfl J rfl 16007 ⟨rfl, rfl⟩ rfl ?_
    refine x_aloadn (x := 125) rfl rfl ?_
    refine z_getM (N := 92) (v := v98) 12 8 rfl f_12_201 rfl J rfl (jmw w99) ?_
    refine x_iloadn (x := a5) rfl rfl ?_
    refine x_iloadn (x := 24) rfl rfl ?_
    refine z_ishrW rfl rfl jk_24 (fun v101 ev101 => ?_)
    have fv101 := jfull v101
    try rw [← ev101] at D
    refine x_sipush (v := 255) rfl ks_255 ?_
    refine z_iandQ rfl rfl jk_255 (by decide) (fun v102 ev102 => ?_)
    try rw [← ev102.1] at D
    refine z_iast (N := 400) (l := 0) (u := 400) (w := v102.toInt) rfl hD J Sm rfl rfl rfl (by omega) rfl (wr_131 (fun q1 q2 q3 q4 => by omega)) rfl (fun h w103 J Sm => ?_)
    rw [vww w103 (show ((((((((((((((((v2.toInt + 1) + 1) + 1) + 1) + 1) + 1) + 1) + 1) + 1) + 1) + 1) + 1) + 1) + 1) + 1) + 1) = v98.toInt from by omega) (show v102.toInt = v102.toInt from by omega)] at D
    refine x_aloadn (x := 125) rfl rfl ?_
    refine x_dup rfl rfl ?_
    refine z_getM (N := 92) (v := v98) 12 8 rfl f_12_201 rfl J rfl (jmo w103 rfl (jmw w99)) ?_
    refine x_iconst (v := 1) rfl ki_1 ?_
    refine z_iadd rfl rfl jk_1 (by omega) (fun v104 ev104 => ?_)
    refine z_putI (N := 92) (w := v104.toInt) 12 8 rfl f_12_201 rfl (jfin_no TX12 RX12 92 rfl rfl) hD J Sm rfl rfl rfl (pw_125_8 (by omega)) rfl (fun h w105 J Sm => ?_)
    rw [vwf w105 (show (((((((((((((((((v2.toInt + 1) + 1) + 1) + 1) + 1) + 1) + 1) + 1) + 1) + 1) + 1) + 1) + 1) + 1) + 1) + 1) + 1) = v104.toInt from by omega)] at D
    refine z_iinc (x := 24) (lsx9 := fun v106 => [(2, .int v106), (0, .ref 125), (1, .int a5)]) rfl rfl jk_24 jko_m8 (by omega) rfl (fun _ => rfl) (fun v106 ev106 => ?_)
    refine x_goto (tgt := 3) rfl rfl ?_
    refine x_iloadn (x := v106) rfl rfl ?_
    refine x_iflt (tgt := 39) rfl rfl (ti_lt rfl jk_0 (br_f (by omega) ?_))
    refine x_aloadn (x := 125) rfl rfl ?_
    refine z_getR (N := 92) (b := 131) 12 7 rfl f_12_29 rfl J rfl 16007 ⟨rfl, rfl⟩ rfl ?_
    refine x_aloadn (x := 125) rfl rfl ?_
    refine z_getM (N := 92) (v := v104) 12 8 rfl f_12_201 rfl J rfl (jmw w105) ?_
    refine x_iloadn (x := a5) rfl rfl ?_
    refine x_iloadn (x := v106) rfl rfl ?_
    refine z_ishrW rfl rfl rfl (fun v107 ev107 => ?_)
    have fv107 := jfull v107
    try rw [show v82.toInt = v106.toInt from by omega] at D
    try rw [← ev107] at D
    refine x_sipush (v := 255) rfl ks_255 ?_
    refine z_iandQ rfl rfl jk_255 (by decide) (fun v108 ev108 => ?_)
    try rw [← ev108.1] at D
    refine z_iast (N := 400) (l := 0) (u := 400) (w := v108.toInt) rfl hD J Sm rfl rfl rfl (by omega) rfl (wr_131 (fun q1 q2 q3 q4 => by omega)) rfl (fun h w109 J Sm => ?_)
    rw [vww w109 (show (((((((((((((((((v2.toInt + 1) + 1) + 1) + 1) + 1) + 1) + 1) + 1) + 1) + 1) + 1) + 1) + 1) + 1) + 1) + 1) + 1) = v104.toInt from by omega) (show v108.toInt = v108.toInt from by omega)] at D
    refine x_aloadn (x := 125) rfl rfl ?_
    refine x_dup rfl rfl ?_
    refine z_getM (N := 92) (v := v104) 12 8 rfl f_12_201 rfl J rfl (jmo w109 rfl (jmw w105)) ?_
    refine x_iconst (v := 1) rfl ki_1 ?_
    refine z_iadd rfl rfl jk_1 (by omega) (fun v110 ev110 => ?_)
    refine z_putI (N := 92) (w := v110.toInt) 12 8 rfl f_12_201 rfl (jfin_no TX12 RX12 92 rfl rfl) hD J Sm rfl rfl rfl (pw_125_8 (by omega)) rfl (fun h w111 J Sm => ?_)
    rw [vwf w111 (show ((((((((((((((((((v2.toInt + 1) + 1) + 1) + 1) + 1) + 1) + 1) + 1) + 1) + 1) + 1) + 1) + 1) + 1) + 1) + 1) + 1) + 1) = v110.toInt from by omega)] at D
    refine z_iinc (x := v106) (lsx9 := fun v112 => [(2, .int v112), (0, .ref 125), (1, .int a5)]) rfl rfl rfl jko_m8 (by omega) rfl (fun _ => rfl) (fun v112 ev112 => ?_)
    refine x_goto (tgt := 3) rfl rfl ?_
    refine x_iloadn (x := v112) rfl rfl ?_
    refine x_iflt (tgt := 39) rfl rfl (ti_lt rfl jk_0 (br_f (by omega) ?_))
    refine x_aloadn (x := 125) rfl rfl ?_
    refine z_getR (N := 92) (b := 131) 12 7 rfl f_12_29 rfl J rfl 16007 ⟨rfl, rfl⟩ rfl ?_
    refine x_aloadn (x := 125) rfl rfl ?_
    refine z_getM (N := 92) (v := v110) 12 8 rfl f_12_201 rfl J rfl (jmw w111) ?_
    refine x_iloadn (x := a5) rfl rfl ?_
    refine x_iloadn (x := v112) rfl rfl ?_
    refine z_ishrW rfl rfl rfl (fun v113 ev113 => ?_)
    have fv113 := jfull v113
    try rw [show v88.toInt = v112.toInt from by omega] at D
    try rw [← ev113] at D
    refine x_sipush (v := 255) rfl ks_255 ?_
    refine z_iandQ rfl rfl jk_255 (by decide) (fun v114 ev114 => ?_)
    try rw [← ev114.1] at D
    refine z_iast (N := 400) (l := 0) (u := 400) (w := v114.toInt) rfl hD J Sm rfl rfl rfl (by omega) rfl (wr_131 (fun q1 q2 q3 q4 => by omega)) rfl (fun h w115 J Sm => ?_)
    rw [vww w115 (show ((((((((((((((((((v2.toInt + 1) + 1) + 1) + 1) + 1) + 1) + 1) + 1) + 1) + 1) + 1) + 1) + 1) + 1) + 1) + 1) + 1) + 1) = v110.toInt from by omega) (show v114.toInt = v114.toInt from by omega)] at D
    refine x_aloadn (x := 125) rfl rfl ?_
    refine x_dup rfl rfl ?_
    refine z_getM (N := 92) (v := v110) 12 8 rfl f_12_201 rfl J rfl (jmo w115 rfl (jmw w111)) ?_
    refine x_iconst (v := 1) rfl ki_1 ?_
    refine z_iadd rfl rfl jk_1 (by omega) (fun v116 ev116 => ?_)
    refine z_putI (N := 92) (w := v116.toInt) 12 8 rfl f_12_201 rfl (jfin_no TX12 RX12 92 rfl rfl) hD J Sm rfl rfl rfl (pw_125_8 (by omega)) rfl (fun h w117 J Sm => ?_)
    rw [vwf w117 (show (((((((((((((((((((v2.toInt + 1) + 1) + 1) + 1) + 1) + 1) + 1) + 1) + 1) + 1) + 1) + 1) + 1) + 1) + 1) + 1) + 1) + 1) + 1) = v116.toInt from by omega)] at D
    refine z_iinc (x := v112) (lsx9 := fun v118 => [(2, .int v118), (0, .ref 125), (1, .int a5)]) rfl rfl rfl jko_m8 (by omega) rfl (fun _ => rfl) (fun v118 ev118 => ?_)
    refine x_goto (tgt := 3) rfl rfl ?_
    refine x_iloadn (x := v118) rfl rfl ?_
    refine x_iflt (tgt := 39) rfl rfl (ti_lt rfl jk_0 (br_f (by omega) ?_))
    refine x_aloadn (x := 125) rfl rfl ?_
    refine z_getR (N := 92) (b := 131) 12 7 rfl f_12_29 rfl J rfl 16007 ⟨rfl, rfl⟩ rfl ?_
    refine x_aloadn (x := 125) rfl rfl ?_
    refine z_getM (N := 92) (v := v116) 12 8 rfl f_12_201 rfl J rfl (jmw w117) ?_
    refine x_iloadn (x := a5) rfl rfl ?_
    refine x_iloadn (x := v118) rfl rfl ?_
    refine z_ishrW rfl rfl rfl (fun v119 ev119 => ?_)
    have fv119 := jfull v119
    try rw [show v94.toInt = v118.toInt from by omega] at D
    try rw [← ev119] at D
    refine x_sipush (v := 255) rfl ks_255 ?_
    refine z_iandQ rfl rfl jk_255 (by decide) (fun v120 ev120 => ?_)
    try rw [← ev120.1] at D
    refine z_iast (N := 400) (l := 0) (u := 400) (w := v120.toInt) rfl hD J Sm rfl rfl rfl (by omega) rfl (wr_131 (fun q1 q2 q3 q4 => by omega)) rfl (fun h w121 J Sm => ?_)
    rw [vww w121 (show (((((((((((((((((((v2.toInt + 1) + 1) + 1) + 1) + 1) + 1) + 1) + 1) + 1) + 1) + 1) + 1) + 1) + 1) + 1) + 1) + 1) + 1) + 1) = v116.toInt from by omega) (show v120.toInt = v120.toInt from by omega)] at D
    refine x_aloadn (x := 125) rfl rfl ?_
    refine x_dup rfl rfl ?_
    refine z_getM (N := 92) (v := v116) 12 8 rfl f_12_201 rfl J rfl (jmo w121 rfl (jmw w117)) ?_
    refine x_iconst (v := 1) rfl ki_1 ?_
    refine z_iadd rfl rfl jk_1 (by omega) (fun v122 ev122 => ?_)
    refine z_putI (N := 92) (w := v122.toInt) 12 8 rfl f_12_201 rfl (jfin_no TX12 RX12 92 rfl rfl) hD J Sm rfl rfl rfl (pw_125_8 (by omega)) rfl (fun h w123 J Sm => ?_)
    rw [vwf w123 (show ((((((((((((((((((((v2.toInt + 1) + 1) + 1) + 1) + 1) + 1) + 1) + 1) + 1) + 1) + 1) + 1) + 1) + 1) + 1) + 1) + 1) + 1) + 1) + 1) = v122.toInt from by omega)] at D
    refine z_iinc (x := v118) (lsx9 := fun v124 => [(2, .int v124), (0, .ref 125), (1, .int a5)]) rfl rfl rfl jko_m8 (by omega) rfl (fun _ => rfl) (fun v124 ev124 => ?_)
    refine x_goto (tgt := 3) rfl rfl ?_
    refine x_iloadn (x := v124) rfl rfl ?_
    refine x_iflt (tgt := 39) rfl rfl (ti_lt rfl jk_0 (br_t (by omega) ?_))
    refine x_vret rfl rfl ?_
    show jX m_X12_feed 2 0 0 47 [(0, .ref 125), (1, .int a1), (2, .int a2), (3, .int a3), (4, .int a4), (5, .int a5)] [] _ 0 0 _
    refine x_aloadn (x := 125) rfl rfl ?_
    refine z_getM (N := 92) (v := v122) 12 8 rfl f_12_201 rfl J rfl (jmw w123) ?_
    refine x_iret rfl rfl ?_
    exact hQ _ _ (jr_of rfl (by omega)) J Sm ((congrArg Prod.fst D).symm.trans (show ((((((((((((((((((((v2.toInt + 1) + 1) + 1) + 1) + 1) + 1) + 1) + 1) + 1) + 1) + 1) + 1) + 1) + 1) + 1) + 1) + 1) + 1) + 1) + 1) = v122.toInt from by omega)) (congrArg Prod.snd D).symm
  ·
    rw [if_neg (by omega)] at D
    refine x_iconst (v := (-1)) rfl ki_m1 ?_
    refine x_iret rfl rfl ?_
    exact hQ _ _ (jr_of jk_m1 (by omega)) J Sm ((congrArg Prod.fst D).symm.trans (show (-1) = ((-1) : Int32).toInt from by have := jk_m1; omega)) (congrArg Prod.snd D).symm
def fp_X12_isTorn_r125d : jFp := []
set_option maxRecDepth 100000 in
set_option maxHeartbeats 4000000 in
theorem ct_X12_isTorn_r125d_300090 {Dy : jH → Prop} {h0 : jH} {Q : Option Value → jH → Prop} {dr : Int} {K6 : Int → Int → Int → Int → Int → jW → Int} {R6 : Int} (hD : jDk Dy) (hQ : ∀ (v : Int32) hx9, 0 ≤ v.toInt ∧ v.toInt ≤ 1 → jJ jSgM Dy hx9 → jSm fp_X12_isTorn_r125d h0 hx9 → dr = v.toInt → vw hx9 = vw h0 → Q (some (.int v)) hx9) (k6 : ∀ (l1 : Int32) (l2 : Int32) (l3 : Int32) (l4 : Int32) (l5 : Int32) (h : jH), 20 - l5.toInt < R6 → 0 ≤ l1.toInt ∧ l1.toInt ≤ 5 → 0 ≤ l2.toInt ∧ l2.toInt ≤ 146399 → (-146399) ≤ l3.toInt ∧ l3.toInt ≤ 292798 → 0 ≤ l4.toInt ∧ l4.toInt ≤ 1 → 0 ≤ l5.toInt ∧ l5.toInt ≤ 20 → jJ jSgM Dy h → jSm fp_X12_isTorn_r125d h0 h → K6 l1.toInt l2.toInt l3.toInt l4.toInt l5.toInt (vw h) = dr → vw h = vw h0 → jX m_X12_isTorn 1 0 0 6 [(0, .ref 125), (1, .int l1), (2, .int l2), (3, .int l3), (4, .int l4), (5, .int l5)] [] h 0 0 Q) : ∀ (l1 : Int32) (l2 : Int32) (l3 : Int32) (l5 : Int32) (h : jH), 0 ≤ l1.toInt ∧ l1.toInt ≤ 5 → 0 ≤ l2.toInt ∧ l2.toInt ≤ 146399 → (-146399) ≤ l3.toInt ∧ l3.toInt ≤ 292798 → 0 ≤ l5.toInt ∧ l5.toInt ≤ 19 → 20 - l5.toInt ≤ R6 → jJ jSgM Dy h → jSm fp_X12_isTorn_r125d h0 h → d_X12_isTorn_r125d_300090 K6  l1.toInt l2.toInt l3.toInt l5.toInt (vw h) = dr → vw h = vw h0 → jX m_X12_isTorn 1 0 0 90 [(0, .ref 125), (1, .int l1), (2, .int l2), (3, .int l3), (5, .int l5)] [.int 1] h 0 0 Q := by
  intro l1 l2 l3 l5 h y0 y1 y2 y3  m6 J Sm D EV
  unfold d_X12_isTorn_r125d_300090 at D
  refine x_istore (lsx9 := [(4, .int 1), (0, .ref 125), (1, .int l1), (2, .int l2), (3, .int l3), (5, .int l5)]) rfl rfl rfl ?_
  refine z_iinc (x := l5) (lsx9 := fun v1 => [(5, .int v1), (4, .int 1), (0, .ref 125), (1, .int l1), (2, .int l2), (3, .int l3)]) rfl rfl rfl jko_1 (by omega) rfl (fun _ => rfl) (fun v1 ev1 => ?_)
  refine x_goto (tgt := 6) rfl rfl ?_
  try rw [show (l5.toInt + 1) = v1.toInt from by omega] at D
  exact jX.sub (jsb_c rfl (jsb_c rfl (jsb_c rfl (jsb_c rfl (jsb_c rfl (jsb_c rfl jsb_n)))))) (k6 l1 l2 l3 1 v1 h (by omega) (jr_of rfl (by omega)) (jr_of rfl (by omega)) (jr_of rfl (by omega)) (jr_of jk_1 (by omega)) (jr_of rfl (by omega)) J Sm (by rw [jk_1]; exact D) EV)
set_option maxRecDepth 100000 in
set_option maxHeartbeats 4000000 in
theorem ct_X12_isTorn_r125d_200090 {Dy : jH → Prop} {h0 : jH} {Q : Option Value → jH → Prop} {dr : Int} {K6 : Int → Int → Int → Int → Int → jW → Int} {R6 : Int} (hD : jDk Dy) (hQ : ∀ (v : Int32) hx9, 0 ≤ v.toInt ∧ v.toInt ≤ 1 → jJ jSgM Dy hx9 → jSm fp_X12_isTorn_r125d h0 hx9 → dr = v.toInt → vw hx9 = vw h0 → Q (some (.int v)) hx9) (k6 : ∀ (l1 : Int32) (l2 : Int32) (l3 : Int32) (l4 : Int32) (l5 : Int32) (h : jH), 20 - l5.toInt < R6 → 0 ≤ l1.toInt ∧ l1.toInt ≤ 5 → 0 ≤ l2.toInt ∧ l2.toInt ≤ 146399 → (-146399) ≤ l3.toInt ∧ l3.toInt ≤ 292798 → 0 ≤ l4.toInt ∧ l4.toInt ≤ 1 → 0 ≤ l5.toInt ∧ l5.toInt ≤ 20 → jJ jSgM Dy h → jSm fp_X12_isTorn_r125d h0 h → K6 l1.toInt l2.toInt l3.toInt l4.toInt l5.toInt (vw h) = dr → vw h = vw h0 → jX m_X12_isTorn 1 0 0 6 [(0, .ref 125), (1, .int l1), (2, .int l2), (3, .int l3), (4, .int l4), (5, .int l5)] [] h 0 0 Q) : ∀ (l1 : Int32) (l2 : Int32) (l3 : Int32) (l5 : Int32) (h : jH), 0 ≤ l1.toInt ∧ l1.toInt ≤ 5 → 0 ≤ l2.toInt ∧ l2.toInt ≤ 146399 → (-146399) ≤ l3.toInt ∧ l3.toInt ≤ 292798 → 0 ≤ l5.toInt ∧ l5.toInt ≤ 19 → 20 - l5.toInt ≤ R6 → jJ jSgM Dy h → jSm fp_X12_isTorn_r125d h0 h → d_X12_isTorn_r125d_200090 K6  l1.toInt l2.toInt l3.toInt l5.toInt (vw h) = dr → vw h = vw h0 → jX m_X12_isTorn 1 0 0 90 [(0, .ref 125), (1, .int l1), (2, .int l2), (3, .int l3), (5, .int l5)] [.int 0] h 0 0 Q := by
  intro l1 l2 l3 l5 h y0 y1 y2 y3  m6 J Sm D EV
  unfold d_X12_isTorn_r125d_200090 at D
  refine x_istore (lsx9 := [(4, .int 0), (0, .ref 125), (1, .int l1), (2, .int l2), (3, .int l3), (5, .int l5)]) rfl rfl rfl ?_
  refine z_iinc (x := l5) (lsx9 := fun v1 => [(5, .int v1), (4, .int 0), (0, .ref 125), (1, .int l1), (2, .int l2), (3, .int l3)]) rfl rfl rfl jko_1 (by omega) rfl (fun _ => rfl) (fun v1 ev1 => ?_)
  refine x_goto (tgt := 6) rfl rfl ?_
  try rw [show (l5.toInt + 1) = v1.toInt from by omega] at D
  exact jX.sub (jsb_c rfl (jsb_c rfl (jsb_c rfl (jsb_c rfl (jsb_c rfl (jsb_c rfl jsb_n)))))) (k6 l1 l2 l3 0 v1 h (by omega) (jr_of rfl (by omega)) (jr_of rfl (by omega)) (jr_of rfl (by omega)) (jr_of jk_0 (by omega)) (jr_of rfl (by omega)) J Sm (by rw [jk_0]; exact D) EV)
set_option maxRecDepth 100000 in
set_option maxHeartbeats 4000000 in
theorem ct_X12_isTorn_r125d_85 {Dy : jH → Prop} {h0 : jH} {Q : Option Value → jH → Prop} {dr : Int} {K6 : Int → Int → Int → Int → Int → jW → Int} {R6 : Int} (hD : jDk Dy) (hQ : ∀ (v : Int32) hx9, 0 ≤ v.toInt ∧ v.toInt ≤ 1 → jJ jSgM Dy hx9 → jSm fp_X12_isTorn_r125d h0 hx9 → dr = v.toInt → vw hx9 = vw h0 → Q (some (.int v)) hx9) (k6 : ∀ (l1 : Int32) (l2 : Int32) (l3 : Int32) (l4 : Int32) (l5 : Int32) (h : jH), 20 - l5.toInt < R6 → 0 ≤ l1.toInt ∧ l1.toInt ≤ 5 → 0 ≤ l2.toInt ∧ l2.toInt ≤ 146399 → (-146399) ≤ l3.toInt ∧ l3.toInt ≤ 292798 → 0 ≤ l4.toInt ∧ l4.toInt ≤ 1 → 0 ≤ l5.toInt ∧ l5.toInt ≤ 20 → jJ jSgM Dy h → jSm fp_X12_isTorn_r125d h0 h → K6 l1.toInt l2.toInt l3.toInt l4.toInt l5.toInt (vw h) = dr → vw h = vw h0 → jX m_X12_isTorn 1 0 0 6 [(0, .ref 125), (1, .int l1), (2, .int l2), (3, .int l3), (4, .int l4), (5, .int l5)] [] h 0 0 Q) : ∀ (l1 : Int32) (l2 : Int32) (l3 : Int32) (l5 : Int32) (h : jH), 0 ≤ l1.toInt ∧ l1.toInt ≤ 5 → 0 ≤ l2.toInt ∧ l2.toInt ≤ 146399 → (-146399) ≤ l3.toInt ∧ l3.toInt ≤ 292798 → 0 ≤ l5.toInt ∧ l5.toInt ≤ 19 → 20 - l5.toInt ≤ R6 → jJ jSgM Dy h → jSm fp_X12_isTorn_r125d h0 h → d_X12_isTorn_r125d_85 K6  l1.toInt l2.toInt l3.toInt l5.toInt (vw h) = dr → vw h = vw h0 → jX m_X12_isTorn 1 0 0 85 [(0, .ref 125), (1, .int l1), (2, .int l2), (3, .int l3), (5, .int l5)] [] h 0 0 Q := by
  intro l1 l2 l3 l5 h y0 y1 y2 y3  m6 J Sm D EV
  unfold d_X12_isTorn_r125d_85 at D
  refine x_iconst (v := 1) rfl ki_1 ?_
  refine x_goto (tgt := 90) rfl rfl ?_
  exact jX.sub (jsb_c rfl (jsb_c rfl (jsb_c rfl (jsb_c rfl (jsb_c rfl jsb_n))))) (ct_X12_isTorn_r125d_300090 hD hQ k6 l1 l2 l3 l5 h (jr_of rfl (by omega)) (jr_of rfl (by omega)) (jr_of rfl (by omega)) (jr_of rfl (by omega)) (by omega) J Sm D EV)
set_option maxRecDepth 100000 in
set_option maxHeartbeats 4000000 in
theorem ct_X12_isTorn_r125d_89 {Dy : jH → Prop} {h0 : jH} {Q : Option Value → jH → Prop} {dr : Int} {K6 : Int → Int → Int → Int → Int → jW → Int} {R6 : Int} (hD : jDk Dy) (hQ : ∀ (v : Int32) hx9, 0 ≤ v.toInt ∧ v.toInt ≤ 1 → jJ jSgM Dy hx9 → jSm fp_X12_isTorn_r125d h0 hx9 → dr = v.toInt → vw hx9 = vw h0 → Q (some (.int v)) hx9) (k6 : ∀ (l1 : Int32) (l2 : Int32) (l3 : Int32) (l4 : Int32) (l5 : Int32) (h : jH), 20 - l5.toInt < R6 → 0 ≤ l1.toInt ∧ l1.toInt ≤ 5 → 0 ≤ l2.toInt ∧ l2.toInt ≤ 146399 → (-146399) ≤ l3.toInt ∧ l3.toInt ≤ 292798 → 0 ≤ l4.toInt ∧ l4.toInt ≤ 1 → 0 ≤ l5.toInt ∧ l5.toInt ≤ 20 → jJ jSgM Dy h → jSm fp_X12_isTorn_r125d h0 h → K6 l1.toInt l2.toInt l3.toInt l4.toInt l5.toInt (vw h) = dr → vw h = vw h0 → jX m_X12_isTorn 1 0 0 6 [(0, .ref 125), (1, .int l1), (2, .int l2), (3, .int l3), (4, .int l4), (5, .int l5)] [] h 0 0 Q) : ∀ (l1 : Int32) (l2 : Int32) (l3 : Int32) (l5 : Int32) (h : jH), 0 ≤ l1.toInt ∧ l1.toInt ≤ 5 → 0 ≤ l2.toInt ∧ l2.toInt ≤ 146399 → (-146399) ≤ l3.toInt ∧ l3.toInt ≤ 292798 → 0 ≤ l5.toInt ∧ l5.toInt ≤ 19 → 20 - l5.toInt ≤ R6 → jJ jSgM Dy h → jSm fp_X12_isTorn_r125d h0 h → d_X12_isTorn_r125d_89 K6  l1.toInt l2.toInt l3.toInt l5.toInt (vw h) = dr → vw h = vw h0 → jX m_X12_isTorn 1 0 0 89 [(0, .ref 125), (1, .int l1), (2, .int l2), (3, .int l3), (5, .int l5)] [] h 0 0 Q := by
  intro l1 l2 l3 l5 h y0 y1 y2 y3  m6 J Sm D EV
  unfold d_X12_isTorn_r125d_89 at D
  refine x_iconst (v := 0) rfl ki_0 ?_
  exact jX.sub (jsb_c rfl (jsb_c rfl (jsb_c rfl (jsb_c rfl (jsb_c rfl jsb_n))))) (ct_X12_isTorn_r125d_200090 hD hQ k6 l1 l2 l3 l5 h (jr_of rfl (by omega)) (jr_of rfl (by omega)) (jr_of rfl (by omega)) (jr_of rfl (by omega)) (by omega) J Sm D EV)
set_option maxRecDepth 100000 in
set_option maxHeartbeats 4000000 in
theorem ct_X12_isTorn_r125d_6 {Dy : jH → Prop} {h0 : jH} {Q : Option Value → jH → Prop} {dr : Int} (hD : jDk Dy) (hQ : ∀ (v : Int32) hx9, 0 ≤ v.toInt ∧ v.toInt ≤ 1 → jJ jSgM Dy hx9 → jSm fp_X12_isTorn_r125d h0 hx9 → dr = v.toInt → vw hx9 = vw h0 → Q (some (.int v)) hx9) : ∀ r : Nat, ∀ (l1 : Int32) (l2 : Int32) (l3 : Int32) (l4 : Int32) (l5 : Int32) (h : jH), 20 - l5.toInt < (r : Int) → 0 ≤ l1.toInt ∧ l1.toInt ≤ 5 → 0 ≤ l2.toInt ∧ l2.toInt ≤ 146399 → (-146399) ≤ l3.toInt ∧ l3.toInt ≤ 292798 → 0 ≤ l4.toInt ∧ l4.toInt ≤ 1 → 0 ≤ l5.toInt ∧ l5.toInt ≤ 20 → jJ jSgM Dy h → jSm fp_X12_isTorn_r125d h0 h → d_X12_isTorn_r125d_6 r l1.toInt l2.toInt l3.toInt l4.toInt l5.toInt (vw h) = dr → vw h = vw h0 → jX m_X12_isTorn 1 0 0 6 [(0, .ref 125), (1, .int l1), (2, .int l2), (3, .int l3), (4, .int l4), (5, .int l5)] [] h 0 0 Q := by
  intro r
  induction r with
  | zero =>
    intro l1 l2 l3 l4 l5 h hm y0 y1 y2 y3 y4   J Sm D EV
    exfalso
    omega
  | succ r ih =>
    intro l1 l2 l3 l4 l5 h hm y0 y1 y2 y3 y4   J Sm D EV
    rw [d_X12_isTorn_r125d_6.eq_2] at D
    refine x_iload (x := l5) rfl rfl ?_
    refine x_aloadn (x := 125) rfl rfl ?_
    refine z_getR (N := 92) (b := 126) 12 2 rfl f_12_8 rfl J rfl 16002 ⟨rfl, rfl⟩ rfl ?_
    refine x_iconst (v := 3) rfl ki_3 ?_
    refine z_iald (N := 50660) rfl J rfl sg_126_3_4_1_0_1 jk_3 (by omega) (fun v1 qv1 ev1 => ?_)
    try rw [vrn (n := 3) (by decide) qv1] at D
    refine x_icge (tgt := 98) rfl rfl (ti_ge rfl rfl ⟨fun c2 => ?_, fun c2 => ?_⟩)
    ·
      rw [if_pos (by omega)] at D
      refine x_iload (x := l4) rfl rfl ?_
      refine x_zret rfl rfl (jz01 (by omega)) ?_
      exact hQ _ _ (jr_of rfl (by omega)) J Sm (D.symm.trans (show l4.toInt = l4.toInt from by omega)) EV
    ·
      rw [if_neg (by omega)] at D
      refine x_sipush (v := 18740) rfl ks_18740 ?_
      refine x_iconst (v := 4) rfl ki_4 ?_
      refine x_iload (x := l5) rfl rfl ?_
      refine z_imul rfl jk_4 rfl (by omega) (fun v3 ev3 => ?_)
      refine z_iadd rfl jk_18740 rfl (by omega) (fun v4 ev4 => ?_)
      refine x_istore (lsx9 := [(6, .int v4), (0, .ref 125), (1, .int l1), (2, .int l2), (3, .int l3), (4, .int l4), (5, .int l5)]) rfl rfl rfl ?_
      refine x_iload (x := l4) rfl rfl ?_
      refine x_ifne (tgt := 85) rfl rfl (ti_ne rfl jk_0 ⟨fun c5 => ?_, fun c5 => ?_⟩)
      ·
        rw [if_neg (by omega)] at D
        exact jX.sub (jsb_c rfl (jsb_c rfl (jsb_c rfl (jsb_c rfl (jsb_c rfl jsb_n))))) (ct_X12_isTorn_r125d_85 hD hQ ih l1 l2 l3 l5 h (jr_of rfl (by omega)) (jr_of rfl (by omega)) (jr_of rfl (by omega)) (jr_of rfl (by omega)) (by omega) J Sm D EV)
      ·
        rw [if_pos (by omega)] at D
        refine x_aloadn (x := 125) rfl rfl ?_
        refine z_getR (N := 92) (b := 126) 12 2 rfl f_12_8 rfl J rfl 16002 ⟨rfl, rfl⟩ rfl ?_
        refine x_iload (x := v4) rfl rfl ?_
        refine z_iald (N := 50660) rfl J rfl sg_126_18740_18820_4_0_1 rfl (by omega) (fun v6 qv6 ev6 => ?_)
        try rw [vrd qv6 (show (18740 + (4 * l5.toInt)) = v4.toInt from by omega)] at D
        refine x_iloadn (x := l1) rfl rfl ?_
        refine x_icne (tgt := 89) rfl rfl (ti_ne rfl rfl ⟨fun c7 => ?_, fun c7 => ?_⟩)
        ·
          rw [if_neg (by omega)] at D
          exact jX.sub (jsb_c rfl (jsb_c rfl (jsb_c rfl (jsb_c rfl (jsb_c rfl jsb_n))))) (ct_X12_isTorn_r125d_89 hD hQ ih l1 l2 l3 l5 h (jr_of rfl (by omega)) (jr_of rfl (by omega)) (jr_of rfl (by omega)) (jr_of rfl (by omega)) (by omega) J Sm D EV)
        ·
          rw [if_pos (by omega)] at D
          refine x_aloadn (x := 125) rfl rfl ?_
          refine z_getR (N := 92) (b := 126) 12 2 rfl f_12_8 rfl J rfl 16002 ⟨rfl, rfl⟩ rfl ?_
          refine x_iload (x := v4) rfl rfl ?_
          refine x_iconst (v := 3) rfl ki_3 ?_
          refine z_iadd rfl rfl jk_3 (by omega) (fun v8 ev8 => ?_)
          refine z_iald (N := 50660) rfl J rfl sg_126_18740_18820_4_3_4 rfl (by omega) (fun v9 qv9 ev9 => ?_)
          try rw [vrd qv9 (show ((18740 + (4 * l5.toInt)) + 3) = v8.toInt from by omega)] at D
          refine x_aloadn (x := 125) rfl rfl ?_
          refine z_getI (N := 92) 12 28 rfl f_12_377 rfl J rfl sg_125_28_29_1_0_1 (fun v10 qv10 ev10 => ?_)
          try rw [vrf qv10] at D
          refine x_icgt (tgt := 89) rfl rfl (ti_gt rfl rfl ⟨fun c11 => ?_, fun c11 => ?_⟩)
          ·
            rw [if_pos (by omega)] at D
            exact jX.sub (jsb_c rfl (jsb_c rfl (jsb_c rfl (jsb_c rfl (jsb_c rfl jsb_n))))) (ct_X12_isTorn_r125d_89 hD hQ ih l1 l2 l3 l5 h (jr_of rfl (by omega)) (jr_of rfl (by omega)) (jr_of rfl (by omega)) (jr_of rfl (by omega)) (by omega) J Sm D EV)
          ·
            rw [if_neg (by omega)] at D
            refine x_aloadn (x := 125) rfl rfl ?_
            refine z_getR (N := 92) (b := 126) 12 2 rfl f_12_8 rfl J rfl 16002 ⟨rfl, rfl⟩ rfl ?_
            refine x_iload (x := v4) rfl rfl ?_
            refine x_iconst (v := 1) rfl ki_1 ?_
            refine z_iadd rfl rfl jk_1 (by omega) (fun v12 ev12 => ?_)
            refine z_iald (N := 50660) rfl J rfl sg_126_18740_18820_4_1_2 rfl (by omega) (fun v13 qv13 ev13 => ?_)
            try rw [vrd qv13 (show ((18740 + (4 * l5.toInt)) + 1) = v12.toInt from by omega)] at D
            refine x_iloadn (x := l3) rfl rfl ?_
            refine x_icgt (tgt := 89) rfl rfl (ti_gt rfl rfl ⟨fun c14 => ?_, fun c14 => ?_⟩)
            ·
              rw [if_pos (by omega)] at D
              exact jX.sub (jsb_c rfl (jsb_c rfl (jsb_c rfl (jsb_c rfl (jsb_c rfl jsb_n))))) (ct_X12_isTorn_r125d_89 hD hQ ih l1 l2 l3 l5 h (jr_of rfl (by omega)) (jr_of rfl (by omega)) (jr_of rfl (by omega)) (jr_of rfl (by omega)) (by omega) J Sm D EV)
            ·
              rw [if_neg (by omega)] at D
              refine x_aloadn (x := 125) rfl rfl ?_
              refine z_getR (N := 92) (b := 126) 12 2 rfl f_12_8 rfl J rfl 16002 ⟨rfl, rfl⟩ rfl ?_
              refine x_iload (x := v4) rfl rfl ?_
              refine x_iconst (v := 2) rfl ki_2 ?_
              refine z_iadd rfl rfl jk_2 (by omega) (fun v15 ev15 => ?_)
              refine z_iald (N := 50660) rfl J rfl sg_126_18740_18820_4_2_3 rfl (by omega) (fun v16 qv16 ev16 => ?_)
              try rw [vrd qv16 (show ((18740 + (4 * l5.toInt)) + 2) = v15.toInt from by omega)] at D
              refine x_iloadn (x := l2) rfl rfl ?_
              refine x_iclt (tgt := 89) rfl rfl (ti_lt rfl rfl ⟨fun c17 => ?_, fun c17 => ?_⟩)
              ·
                rw [if_pos (by omega)] at D
                exact jX.sub (jsb_c rfl (jsb_c rfl (jsb_c rfl (jsb_c rfl (jsb_c rfl jsb_n))))) (ct_X12_isTorn_r125d_89 hD hQ ih l1 l2 l3 l5 h (jr_of rfl (by omega)) (jr_of rfl (by omega)) (jr_of rfl (by omega)) (jr_of rfl (by omega)) (by omega) J Sm D EV)
              ·
                rw [if_neg (by omega)] at D
                exact jX.sub (jsb_c rfl (jsb_c rfl (jsb_c rfl (jsb_c rfl (jsb_c rfl jsb_n))))) (ct_X12_isTorn_r125d_85 hD hQ ih l1 l2 l3 l5 h (jr_of rfl (by omega)) (jr_of rfl (by omega)) (jr_of rfl (by omega)) (jr_of rfl (by omega)) (by omega) J Sm D EV)
set_option maxRecDepth 100000 in
set_option maxHeartbeats 4000000 in
theorem sf_X12_isTorn_r125d {Dy : jH → Prop} {h : jH} {Q : Option Value → jH → Prop} {dr : Int} {a1 : Int32} {a2 : Int32} {a3 : Int32} (y1 : 0 ≤ a1.toInt ∧ a1.toInt ≤ 5) (y2 : 0 ≤ a2.toInt ∧ a2.toInt ≤ 146399) (y3 : (-146399) ≤ a3.toInt ∧ a3.toInt ≤ 292798) (hD : jDk Dy) (J : jJ jSgM Dy h) (D : d_X12_isTorn_r125d a1.toInt a2.toInt a3.toInt (vw h) = dr) (hQ : ∀ (v : Int32) hx9, 0 ≤ v.toInt ∧ v.toInt ≤ 1 → jJ jSgM Dy hx9 → jSm fp_X12_isTorn_r125d h hx9 → dr = v.toInt → vw hx9 = vw h → Q (some (.int v)) hx9) : jC m_X12_isTorn 1 0 0 [.ref 125, .int a1, .int a2, .int a3] h Q := by
  refine jC.of rfl k_X12_isTorn rfl ?_
  have Sm := jSm_rf fp_X12_isTorn_r125d h
  show jX m_X12_isTorn 1 0 0 0 [(0, .ref 125), (1, .int a1), (2, .int a2), (3, .int a3)] [] _ 0 0 _
  unfold d_X12_isTorn_r125d at D
  have EV : vw h = vw h := rfl
  refine x_iconst (v := 0) rfl ki_0 ?_
  refine x_istore (lsx9 := [(4, .int 0), (0, .ref 125), (1, .int a1), (2, .int a2), (3, .int a3)]) rfl rfl rfl ?_
  refine x_iconst (v := 0) rfl ki_0 ?_
  refine x_istore (lsx9 := [(5, .int 0), (4, .int 0), (0, .ref 125), (1, .int a1), (2, .int a2), (3, .int a3)]) rfl rfl rfl ?_
  exact jX.sub (jsb_c rfl (jsb_c rfl (jsb_c rfl (jsb_c rfl (jsb_c rfl (jsb_c rfl jsb_n)))))) (ct_X12_isTorn_r125d_6 hD hQ  21 a1 a2 a3 0 0 h (by have := jk_0; omega) (jr_of rfl (by omega)) (jr_of rfl (by omega)) (jr_of rfl (by omega)) (jr_of jk_0 (by omega)) (jr_of jk_0 (by omega)) J Sm (by rw [jk_0]; exact D) EV)
