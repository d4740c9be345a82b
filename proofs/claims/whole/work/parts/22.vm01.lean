def fp_X12_fact2_r125d : jFp := [(125, 32, 33), (125, 33, 34), (125, 34, 35), (125, 35, 36), (162, 0, 40), (163, 0, 40), (164, 0, 40)]
set_option maxRecDepth 100000 in
set_option maxHeartbeats 4000000 in
theorem ct_X12_fact2_r125d_5000122 {Dy : jH → Prop} {h0 : jH} {Q : Option Value → jH → Prop} {dr : (Int × jW)} (hD : jDk Dy) (hQ : ∀ (v : Int64) hx9, jJ jSgM Dy hx9 → jSm fp_X12_fact2_r125d h0 hx9 → dr.1 = v.toInt → dr.2 = vw hx9 → Q (some (.long v)) hx9) : ∀ (s0 : Int64) (h : jH), 0 ≤ s0.toInt ∧ s0.toInt ≤ 1 → jJ jSgM Dy h → jSm fp_X12_fact2_r125d h0 h → d_X12_fact2_r125d_5000122  s0.toInt (vw h) = dr → jX m_X12_fact2 8 0 0 122 [] [.long s0] h 0 0 Q := by
  intro s0 h y0   J Sm D
  unfold d_X12_fact2_r125d_5000122 at D
  refine x_lret rfl rfl ?_
  exact hQ _ _ J Sm ((congrArg Prod.fst D).symm.trans (show s0.toInt = s0.toInt from by omega)) (congrArg Prod.snd D).symm
set_option maxRecDepth 100000 in
set_option maxHeartbeats 4000000 in
theorem ct_X12_fact2_r125d_117 {Dy : jH → Prop} {h0 : jH} {Q : Option Value → jH → Prop} {dr : (Int × jW)} (hD : jDk Dy) (hQ : ∀ (v : Int64) hx9, jJ jSgM Dy hx9 → jSm fp_X12_fact2_r125d h0 hx9 → dr.1 = v.toInt → dr.2 = vw hx9 → Q (some (.long v)) hx9) : ∀ (h : jH), jJ jSgM Dy h → jSm fp_X12_fact2_r125d h0 h → d_X12_fact2_r125d_117  (vw h) = dr → jX m_X12_fact2 8 0 0 117 [] [] h 0 0 Q := by
  intro  h    J Sm D
  unfold d_X12_fact2_r125d_117 at D
  refine x_lconst (v := 1) rfl kl_1 ?_
  refine x_goto (tgt := 122) rfl rfl ?_
  exact jX.sub jsb_n (ct_X12_fact2_r125d_5000122 hD hQ  1 h (jr_ofl jkl_1 (by omega)) J Sm (by rw [jkl_1]; exact D))
set_option maxRecDepth 100000 in
set_option maxHeartbeats 4000000 in
theorem ct_X12_fact2_r125d_5000138 {Dy : jH → Prop} {h0 : jH} {Q : Option Value → jH → Prop} {dr : (Int × jW)} (hD : jDk Dy) (hQ : ∀ (v : Int64) hx9, jJ jSgM Dy hx9 → jSm fp_X12_fact2_r125d h0 hx9 → dr.1 = v.toInt → dr.2 = vw hx9 → Q (some (.long v)) hx9) : ∀ (s0 : Int64) (h : jH), 0 ≤ s0.toInt ∧ s0.toInt ≤ 1 → jJ jSgM Dy h → jSm fp_X12_fact2_r125d h0 h → d_X12_fact2_r125d_5000138  s0.toInt (vw h) = dr → jX m_X12_fact2 8 0 0 138 [] [.long s0] h 0 0 Q := by
  intro s0 h y0   J Sm D
  unfold d_X12_fact2_r125d_5000138 at D
  refine x_lret rfl rfl ?_
  exact hQ _ _ J Sm ((congrArg Prod.fst D).symm.trans (show s0.toInt = s0.toInt from by omega)) (congrArg Prod.snd D).symm
set_option maxRecDepth 100000 in
set_option maxHeartbeats 4000000 in
theorem ct_X12_fact2_r125d_5000153 {Dy : jH → Prop} {h0 : jH} {Q : Option Value → jH → Prop} {dr : (Int × jW)} (hD : jDk Dy) (hQ : ∀ (v : Int64) hx9, jJ jSgM Dy hx9 → jSm fp_X12_fact2_r125d h0 hx9 → dr.1 = v.toInt → dr.2 = vw hx9 → Q (some (.long v)) hx9) : ∀ (s0 : Int64) (h : jH), 0 ≤ s0.toInt ∧ s0.toInt ≤ 1 → jJ jSgM Dy h → jSm fp_X12_fact2_r125d h0 h → d_X12_fact2_r125d_5000153  s0.toInt (vw h) = dr → jX m_X12_fact2 8 0 0 153 [] [.long s0] h 0 0 Q := by
  intro s0 h y0   J Sm D
  unfold d_X12_fact2_r125d_5000153 at D
  refine x_lret rfl rfl ?_
  exact hQ _ _ J Sm ((congrArg Prod.fst D).symm.trans (show s0.toInt = s0.toInt from by omega)) (congrArg Prod.snd D).symm
set_option maxRecDepth 100000 in
set_option maxHeartbeats 4000000 in
theorem ct_X12_fact2_r125d_5000168 {Dy : jH → Prop} {h0 : jH} {Q : Option Value → jH → Prop} {dr : (Int × jW)} (hD : jDk Dy) (hQ : ∀ (v : Int64) hx9, jJ jSgM Dy hx9 → jSm fp_X12_fact2_r125d h0 hx9 → dr.1 = v.toInt → dr.2 = vw hx9 → Q (some (.long v)) hx9) : ∀ (s0 : Int64) (h : jH), 0 ≤ s0.toInt ∧ s0.toInt ≤ 1 → jJ jSgM Dy h → jSm fp_X12_fact2_r125d h0 h → d_X12_fact2_r125d_5000168  s0.toInt (vw h) = dr → jX m_X12_fact2 8 0 0 168 [] [.long s0] h 0 0 Q := by
  intro s0 h y0   J Sm D
  unfold d_X12_fact2_r125d_5000168 at D
  refine x_lret rfl rfl ?_
  exact hQ _ _ J Sm ((congrArg Prod.fst D).symm.trans (show s0.toInt = s0.toInt from by omega)) (congrArg Prod.snd D).symm
set_option maxRecDepth 100000 in
set_option maxHeartbeats 4000000 in
theorem ct_X12_fact2_r125d_5000184 {Dy : jH → Prop} {h0 : jH} {Q : Option Value → jH → Prop} {dr : (Int × jW)} (hD : jDk Dy) (hQ : ∀ (v : Int64) hx9, jJ jSgM Dy hx9 → jSm fp_X12_fact2_r125d h0 hx9 → dr.1 = v.toInt → dr.2 = vw hx9 → Q (some (.long v)) hx9) : ∀ (s0 : Int64) (h : jH), 0 ≤ s0.toInt ∧ s0.toInt ≤ 1 → jJ jSgM Dy h → jSm fp_X12_fact2_r125d h0 h → d_X12_fact2_r125d_5000184  s0.toInt (vw h) = dr → jX m_X12_fact2 8 0 0 184 [] [.long s0] h 0 0 Q := by
  intro s0 h y0   J Sm D
  unfold d_X12_fact2_r125d_5000184 at D
  refine x_lret rfl rfl ?_
  exact hQ _ _ J Sm ((congrArg Prod.fst D).symm.trans (show s0.toInt = s0.toInt from by omega)) (congrArg Prod.snd D).symm
set_option maxRecDepth 100000 in
set_option maxHeartbeats 4000000 in
theorem sf_X12_fact2_r125d {Dy : jH → Prop} {h : jH} {Q : Option Value → jH → Prop} {dr : (Int × jW)} {a1 : Int32} {a2 : Int32} {a3 : Int32} (y1 : (-1) ≤ a1.toInt ∧ a1.toInt ≤ 599) (y2 : 0 ≤ a2.toInt ∧ a2.toInt ≤ 146399) (hD : jDk Dy) (J : jJ jSgM Dy h) (D : d_X12_fact2_r125d a1.toInt a2.toInt a3.toInt (vw h) = dr) (hQ : ∀ (v : Int64) hx9, jJ jSgM Dy hx9 → jSm fp_X12_fact2_r125d h hx9 → dr.1 = v.toInt → dr.2 = vw hx9 → Q (some (.long v)) hx9) : jC m_X12_fact2 8 0 0 [.ref 125, .int a1, .int a2, .int a3] h Q := by
  refine jC.of rfl k_X12_fact2 rfl ?_
  have Sm := jSm_rf fp_X12_fact2_r125d h
  have ea3 := jfull a3
  show jX m_X12_fact2 8 0 0 0 [(0, .ref 125), (1, .int a1), (2, .int a2), (3, .int a3)] [] _ 0 0 _
  unfold d_X12_fact2_r125d at D
  refine x_iloadn (x := a3) rfl rfl ?_
  by_cases c1 : a3.toInt = 0
  ·
    refine x_tableIn (tgt := 52) 0 rfl c1 (by decide) (by decide) rfl rfl ?_
    rw [if_pos c1] at D
    refine x_aloadn (x := 125) rfl rfl ?_
    refine x_iloadn (x := a1) rfl rfl ?_
    refine x_iloadn (x := a2) rfl rfl ?_
    refine x_inv (N := m_X12_ageOf) (As := [.int a1, .int a2]) (b := 125) (st := []) (dx9 := 7) (mc := 0) (ms := 0) (host := "") 12 rfl t_X12_ageOf ⟨Or.inl q_12_704, i_X12_ageOf.1, i_X12_ageOf.2⟩ ⟨by decide, rfl⟩ (congrArg Prod.fst (J.1.1 125 (12, 92) rfl)) rfl (by decide) rfl rfl ⟨by decide, by decide⟩ (jC.of rfl k_X12_ageOf rfl ?_)
    show jX m_X12_ageOf 7 0 0 0 [(0, .ref 125), (1, .int a1), (2, .int a2)] [] _ 0 0 _
    refine x_aloadn (x := 125) rfl rfl ?_
    refine x_iloadn (x := a1) rfl rfl ?_
    refine x_inv (N := m_X12_findSpan) (As := [.int a1]) (b := 125) (st := []) (dx9 := 6) (mc := 0) (ms := 0) (host := "") 12 rfl t_X12_findSpan ⟨Or.inl q_12_437, i_X12_findSpan.1, i_X12_findSpan.2⟩ ⟨by decide, rfl⟩ (congrArg Prod.fst (J.1.1 125 (12, 92) rfl)) rfl (by decide) rfl rfl ⟨by decide, by decide⟩ (sf_X12_findSpan_r125d (jr_of rfl (by omega)) hD J rfl  (fun h J S2 X3 => ?_))
    have Sm := jSm_tr rfl Sm S2
    rw [X3] at D
    show jX m_X12_ageOf 7 0 0 5 [(0, .ref 125), (1, .int a1), (2, .int a2)] [] _ 0 0 _
    refine x_iloadn (x := a2) rfl rfl ?_
    refine x_aloadn (x := 125) rfl rfl ?_
    refine z_getI (N := 92) 12 33 rfl f_12_415 rfl J rfl sg_125_33_34_1_0_1 (fun v4 qv4 ev4 => ?_)
    try rw [vrf qv4] at D
    refine z_isubW rfl rfl rfl (fun v5 ev5 => ?_)
    have fv5 := jfull v5
    try rw [← ev5] at D
    refine x_sipush (v := 366) rfl ks_366 ?_
    refine z_idivW rfl rfl jk_366 (by omega) (fun v6 ev6 => ?_)
    have fv6 := jfull v6
    try rw [← ev6] at D
    refine x_istoren (lsx9 := [(3, .int v6), (0, .ref 125), (1, .int a1), (2, .int a2)]) rfl rfl rfl ?_
    refine x_iloadn (x := v6) rfl rfl ?_
    refine x_ifge (tgt := 24) rfl rfl (ti_ge rfl jk_0 ⟨fun c7 => ?_, fun c7 => ?_⟩)
    ·
      rw [if_pos (by omega)] at D
      refine x_iloadn (x := v6) rfl rfl ?_
      refine x_iret rfl rfl ?_
      show jX m_X12_fact2 8 0 0 58 [(0, .ref 125), (1, .int a1), (2, .int a2), (3, .int a3)] [.int v6] _ 0 0 _
      refine z_i2l rfl rfl (fun v8 ev8 => ?_)
      refine x_lret rfl rfl ?_
      try rw [show v6.toInt = v8.toInt from by omega] at D
      exact hQ _ _ J Sm ((congrArg Prod.fst D).symm.trans (show v8.toInt = v8.toInt from by omega)) (congrArg Prod.snd D).symm
    ·
      rw [if_neg (by omega)] at D
      refine x_iconst (v := 0) rfl ki_0 ?_
      refine x_goto (tgt := 25) rfl rfl ?_
      refine x_iret rfl rfl ?_
      show jX m_X12_fact2 8 0 0 58 [(0, .ref 125), (1, .int a1), (2, .int a2), (3, .int a3)] [.int 0] _ 0 0 _
      refine z_i2l rfl jk_0 (fun v9 ev9 => ?_)
      refine x_lret rfl rfl ?_
      exact hQ _ _ J Sm ((congrArg Prod.fst D).symm.trans (show 0 = v9.toInt from by omega)) (congrArg Prod.snd D).symm
  rw [if_neg c1] at D
  by_cases c10 : a3.toInt = 1
  ·
    refine x_tableIn (tgt := 60) 1 rfl c10 (by decide) (by decide) rfl rfl ?_
    rw [if_pos c10] at D
    refine x_aloadn (x := 125) rfl rfl ?_
    refine x_iloadn (x := a1) rfl rfl ?_
    refine x_iloadn (x := a2) rfl rfl ?_
    refine x_inv (N := m_X12_childrenOf) (As := [.int a1, .int a2]) (b := 125) (st := []) (dx9 := 6) (mc := 0) (ms := 0) (host := "") 12 rfl t_X12_childrenOf ⟨Or.inl q_12_707, i_X12_childrenOf.1, i_X12_childrenOf.2⟩ ⟨by decide, rfl⟩ (congrArg Prod.fst (J.1.1 125 (12, 92) rfl)) rfl (by decide) rfl rfl ⟨by decide, by decide⟩ (sf_X12_childrenOf_r125d (jr_of rfl (by omega)) (jr_of rfl (by omega)) hD J rfl  (fun v14 h J S11 X12 X13 => ?_))
    have ev14 := jfull v14
    have Sm := jSm_tr rfl Sm S11
    try rw [X12] at D
    try rw [← X13] at D
    show jX m_X12_fact2 8 0 0 66 [(0, .ref 125), (1, .int a1), (2, .int a2), (3, .int a3)] [.int v14] _ 0 0 _
    refine z_i2l rfl rfl (fun v15 ev15 => ?_)
    refine x_lret rfl rfl ?_
    exact hQ _ _ J Sm ((congrArg Prod.fst D).symm.trans (show v14.toInt = v15.toInt from by omega)) (congrArg Prod.snd D).symm
  rw [if_neg c10] at D
  by_cases c16 : a3.toInt = 2
  ·
    refine x_tableIn (tgt := 68) 2 rfl c16 (by decide) (by decide) rfl rfl ?_
    rw [if_pos c16] at D
    refine x_aloadn (x := 125) rfl rfl ?_
    refine x_iloadn (x := a1) rfl rfl ?_
    refine x_iloadn (x := a2) rfl rfl ?_
    refine x_inv (N := m_X12_valueHeld) (As := [.int a1, .int a2]) (b := 125) (st := []) (dx9 := 3) (mc := 0) (ms := 0) (host := "") 12 rfl t_X12_valueHeld ⟨Or.inl q_12_710, i_X12_valueHeld.1, i_X12_valueHeld.2⟩ ⟨by decide, rfl⟩ (congrArg Prod.fst (J.1.1 125 (12, 92) rfl)) rfl (by decide) rfl rfl ⟨by decide, by decide⟩ (sf_X12_valueHeld_r125d (jr_of rfl (by omega)) (jr_of rfl (by omega)) hD J rfl  (fun v20 h J S17 X18 X19 => ?_))
    have ev20 := jfull v20
    have Sm := jSm_tr rfl Sm S17
    try rw [X18] at D
    try rw [X19] at D
    show jX m_X12_fact2 8 0 0 74 [(0, .ref 125), (1, .int a1), (2, .int a2), (3, .int a3)] [.int v20] _ 0 0 _
    refine z_i2l rfl rfl (fun v21 ev21 => ?_)
    refine x_lret rfl rfl ?_
    exact hQ _ _ J Sm ((congrArg Prod.fst D).symm.trans (X18.trans (by omega))) ((congrArg Prod.snd D).symm.trans X19)
  rw [if_neg c16] at D
  by_cases c22 : a3.toInt = 3
  ·
    refine x_tableIn (tgt := 76) 3 rfl c22 (by decide) (by decide) rfl rfl ?_
    rw [if_pos c22] at D
    refine x_aloadn (x := 125) rfl rfl ?_
    refine x_iloadn (x := a1) rfl rfl ?_
    refine x_iloadn (x := a2) rfl rfl ?_
    refine x_inv (N := m_X12_yearsOf) (As := [.int a1, .int a2]) (b := 125) (st := []) (dx9 := 4) (mc := 0) (ms := 0) (host := "") 12 rfl t_X12_yearsOf ⟨Or.inl q_12_713, i_X12_yearsOf.1, i_X12_yearsOf.2⟩ ⟨by decide, rfl⟩ (congrArg Prod.fst (J.1.1 125 (12, 92) rfl)) rfl (by decide) rfl rfl ⟨by decide, by decide⟩ (sf_X12_yearsOf_r125d (jr_of rfl (by omega)) (jr_of rfl (by omega)) hD J rfl  (fun v26 h J S23 X24 X25 => ?_))
    have ev26 := jfull v26
    have Sm := jSm_tr rfl Sm S23
    try rw [X24] at D
    try rw [← X25] at D
    show jX m_X12_fact2 8 0 0 82 [(0, .ref 125), (1, .int a1), (2, .int a2), (3, .int a3)] [.int v26] _ 0 0 _
    refine z_i2l rfl rfl (fun v27 ev27 => ?_)
    refine x_lret rfl rfl ?_
    exact hQ _ _ J Sm ((congrArg Prod.fst D).symm.trans (show v26.toInt = v27.toInt from by omega)) (congrArg Prod.snd D).symm
  rw [if_neg c22] at D
  by_cases c28 : a3.toInt = 4
  ·
    refine x_tableIn (tgt := 84) 4 rfl c28 (by decide) (by decide) rfl rfl ?_
    rw [if_pos c28] at D
    refine x_aloadn (x := 125) rfl rfl ?_
    refine x_iloadn (x := a1) rfl rfl ?_
    refine x_iloadn (x := a2) rfl rfl ?_
    refine x_sipush (v := 365) rfl ks_365 ?_
    refine z_isub rfl rfl jk_365 (by omega) (fun v29 ev29 => ?_)
    refine x_iloadn (x := a2) rfl rfl ?_
    try rw [show (a2.toInt - 365) = v29.toInt from by omega] at D
    refine x_inv (N := m_X12_reliefOf) (As := [.int a1, .int v29, .int a2]) (b := 125) (st := []) (dx9 := 3) (mc := 0) (ms := 0) (host := "") 12 rfl t_X12_reliefOf ⟨Or.inl q_12_701, i_X12_reliefOf.1, i_X12_reliefOf.2⟩ ⟨by decide, rfl⟩ (congrArg Prod.fst (J.1.1 125 (12, 92) rfl)) rfl (by decide) rfl rfl ⟨by decide, by decide⟩ (sf_X12_reliefOf_r125d (jr_of rfl (by omega)) (jr_of rfl (by omega)) (jr_of rfl (by omega)) hD J rfl  (fun v33 h J S30 X31 X32 => ?_))
    have ev33 := jfull v33
    have Sm := jSm_tr rfl Sm S30
    try rw [X31] at D
    try rw [← X32] at D
    show jX m_X12_fact2 8 0 0 95 [(0, .ref 125), (1, .int a1), (2, .int a2), (3, .int a3)] [.int v33] _ 0 0 _
    refine z_i2l rfl rfl (fun v34 ev34 => ?_)
    refine x_lret rfl rfl ?_
    exact hQ _ _ J Sm ((congrArg Prod.fst D).symm.trans (show v33.toInt = v34.toInt from by omega)) (congrArg Prod.snd D).symm
  rw [if_neg c28] at D
  by_cases c35 : a3.toInt = 5
  ·
    refine x_tableIn (tgt := 97) 5 rfl c35 (by decide) (by decide) rfl rfl ?_
    rw [if_pos c35] at D
    refine x_aloadn (x := 125) rfl rfl ?_
    refine x_iloadn (x := a1) rfl rfl ?_
    refine x_iconst (v := 3) rfl ki_3 ?_
    refine x_iloadn (x := a2) rfl rfl ?_
    refine x_inv (N := m_X12_hasPart) (As := [.int a1, .int 3, .int a2]) (b := 125) (st := []) (dx9 := 7) (mc := 0) (ms := 0) (host := "") 12 rfl t_X12_hasPart ⟨Or.inl q_12_691, i_X12_hasPart.1, i_X12_hasPart.2⟩ ⟨by decide, rfl⟩ (congrArg Prod.fst (J.1.1 125 (12, 92) rfl)) rfl (by decide) rfl rfl ⟨by decide, by decide⟩ (jC.of rfl k_X12_hasPart rfl ?_)
    show jX m_X12_hasPart 7 0 0 0 [(0, .ref 125), (1, .int a1), (2, .int 3), (3, .int a2)] [] _ 0 0 _
    refine x_aloadn (x := 125) rfl rfl ?_
    refine x_iloadn (x := a1) rfl rfl ?_
    refine x_iloadn (x := 3) rfl rfl ?_
    refine x_iloadn (x := a2) rfl rfl ?_
    refine x_inv (N := m_X12_mentionOf) (As := [.int a1, .int 3, .int a2]) (b := 125) (st := []) (dx9 := 4) (mc := 0) (ms := 0) (host := "") 12 rfl t_X12_mentionOf ⟨Or.inl q_12_405, i_X12_mentionOf.1, i_X12_mentionOf.2⟩ ⟨by decide, rfl⟩ (congrArg Prod.fst (J.1.1 125 (12, 92) rfl)) rfl (by decide) rfl rfl ⟨by decide, by decide⟩ (sf_X12_mentionOf_r125d (jr_of rfl (by omega)) (jr_of jk_3 (by omega)) (jr_of rfl (by omega)) hD J rfl  (fun v39 h ev39 J S36 X37 X38 => ?_))
    have Sm := jSm_tr rfl Sm S36
    try rw [jk_3] at X37
    try rw [X37] at D
    try rw [← X38] at D
    show jX m_X12_hasPart 7 0 0 7 [(0, .ref 125), (1, .int a1), (2, .int 3), (3, .int a2)] [.int v39] _ 0 0 _
    refine x_iconst (v := (-1)) rfl ki_m1 ?_
    refine x_iceq (tgt := 15) rfl rfl (ti_eq rfl jk_m1 ⟨fun c40 => ?_, fun c40 => ?_⟩)
    ·
      rw [if_pos (by omega)] at D
      refine x_iconst (v := 0) rfl ki_0 ?_
      refine x_zret rfl rfl (by decide) ?_
      show jX m_X12_fact2 8 0 0 104 [(0, .ref 125), (1, .int a1), (2, .int a2), (3, .int a3)] [.int 0] _ 0 0 _
      refine x_ifne (tgt := 117) rfl rfl (ti_ne jk_0 jk_0 (bn_f (by omega) ?_))
      refine x_aloadn (x := 125) rfl rfl ?_
      refine x_iloadn (x := a1) rfl rfl ?_
      refine x_iconst (v := 4) rfl ki_4 ?_
      refine x_iloadn (x := a2) rfl rfl ?_
      refine x_inv (N := m_X12_hasPart) (As := [.int a1, .int 4, .int a2]) (b := 125) (st := []) (dx9 := 7) (mc := 0) (ms := 0) (host := "") 12 rfl t_X12_hasPart ⟨Or.inl q_12_691, i_X12_hasPart.1, i_X12_hasPart.2⟩ ⟨by decide, rfl⟩ (congrArg Prod.fst (J.1.1 125 (12, 92) rfl)) rfl (by decide) rfl rfl ⟨by decide, by decide⟩ (jC.of rfl k_X12_hasPart rfl ?_)
      show jX m_X12_hasPart 7 0 0 0 [(0, .ref 125), (1, .int a1), (2, .int 4), (3, .int a2)] [] _ 0 0 _
      refine x_aloadn (x := 125) rfl rfl ?_
      refine x_iloadn (x := a1) rfl rfl ?_
      refine x_iloadn (x := 4) rfl rfl ?_
      refine x_iloadn (x := a2) rfl rfl ?_
      refine x_inv (N := m_X12_mentionOf) (As := [.int a1, .int 4, .int a2]) (b := 125) (st := []) (dx9 := 4) (mc := 0) (ms := 0) (host := "") 12 rfl t_X12_mentionOf ⟨Or.inl q_12_405, i_X12_mentionOf.1, i_X12_mentionOf.2⟩ ⟨by decide, rfl⟩ (congrArg Prod.fst (J.1.1 125 (12, 92) rfl)) rfl (by decide) rfl rfl ⟨by decide, by decide⟩ (sf_X12_mentionOf_r125d (jr_of rfl (by omega)) (jr_of jk_4 (by omega)) (jr_of rfl (by omega)) hD J rfl  (fun v44 h ev44 J S41 X42 X43 => ?_))
      have Sm := jSm_tr rfl Sm S41
      try rw [jk_4] at X42
      try rw [X42] at D
      try rw [← X43] at D
      show jX m_X12_hasPart 7 0 0 7 [(0, .ref 125), (1, .int a1), (2, .int 4), (3, .int a2)] [.int v44] _ 0 0 _
      refine x_iconst (v := (-1)) rfl ki_m1 ?_
      refine x_iceq (tgt := 15) rfl rfl (ti_eq rfl jk_m1 ⟨fun c45 => ?_, fun c45 => ?_⟩)
      ·
        rw [if_pos (by omega)] at D
        refine x_iconst (v := 0) rfl ki_0 ?_
        refine x_zret rfl rfl (by decide) ?_
        show jX m_X12_fact2 8 0 0 114 [(0, .ref 125), (1, .int a1), (2, .int a2), (3, .int a3)] [.int 0] _ 0 0 _
        refine x_ifeq (tgt := 121) rfl rfl (ti_eq jk_0 jk_0 (br_t (by omega) ?_))
        refine x_lconst (v := 0) rfl kl_0 ?_
        exact jX.sub jsb_n (ct_X12_fact2_r125d_5000122 hD hQ  0 h (jr_ofl jkl_0 (by omega)) J Sm (by rw [jkl_0]; exact D))
      ·
        rw [if_neg (by omega)] at D
        refine x_iconst (v := 1) rfl ki_1 ?_
        refine x_goto (tgt := 16) rfl rfl ?_
        refine x_zret rfl rfl (by decide) ?_
        show jX m_X12_fact2 8 0 0 114 [(0, .ref 125), (1, .int a1), (2, .int a2), (3, .int a3)] [.int 1] _ 0 0 _
        refine x_ifeq (tgt := 121) rfl rfl (ti_eq jk_1 jk_0 (br_f (by omega) ?_))
        exact jX.sub jsb_n (ct_X12_fact2_r125d_117 hD hQ  h J Sm D)
    ·
      rw [if_neg (by omega)] at D
      refine x_iconst (v := 1) rfl ki_1 ?_
      refine x_goto (tgt := 16) rfl rfl ?_
      refine x_zret rfl rfl (by decide) ?_
      show jX m_X12_fact2 8 0 0 104 [(0, .ref 125), (1, .int a1), (2, .int a2), (3, .int a3)] [.int 1] _ 0 0 _
      refine x_ifne (tgt := 117) rfl rfl (ti_ne jk_1 jk_0 (bn_t (by omega) ?_))
      exact jX.sub jsb_n (ct_X12_fact2_r125d_117 hD hQ  h J Sm D)
  rw [if_neg c35] at D
  by_cases c46 : a3.toInt = 6
  ·
    refine x_tableIn (tgt := 123) 6 rfl c46 (by decide) (by decide) rfl rfl ?_
    rw [if_pos c46] at D
    refine x_aloadn (x := 125) rfl rfl ?_
    refine x_iloadn (x := a1) rfl rfl ?_
    refine x_iconst (v := 5) rfl ki_5 ?_
    refine x_iloadn (x := a2) rfl rfl ?_
    refine x_inv (N := m_X12_hasPart) (As := [.int a1, .int 5, .int a2]) (b := 125) (st := []) (dx9 := 7) (mc := 0) (ms := 0) (host := "") 12 rfl t_X12_hasPart ⟨Or.inl q_12_691, i_X12_hasPart.1, i_X12_hasPart.2⟩ ⟨by decide, rfl⟩ (congrArg Prod.fst (J.1.1 125 (12, 92) rfl)) rfl (by decide) rfl rfl ⟨by decide, by decide⟩ (jC.of rfl k_X12_hasPart rfl ?_)
    show jX m_X12_hasPart 7 0 0 0 [(0, .ref 125), (1, .int a1), (2, .int 5), (3, .int a2)] [] _ 0 0 _
    refine x_aloadn (x := 125) rfl rfl ?_
    refine x_iloadn (x := a1) rfl rfl ?_
    refine x_iloadn (x := 5) rfl rfl ?_
    refine x_iloadn (x := a2) rfl rfl ?_
    refine x_inv (N := m_X12_mentionOf) (As := [.int a1, .int 5, .int a2]) (b := 125) (st := []) (dx9 := 4) (mc := 0) (ms := 0) (host := "") 12 rfl t_X12_mentionOf ⟨Or.inl q_12_405, i_X12_mentionOf.1, i_X12_mentionOf.2⟩ ⟨by decide, rfl⟩ (congrArg Prod.fst (J.1.1 125 (12, 92) rfl)) rfl (by decide) rfl rfl ⟨by decide, by decide⟩ (sf_X12_mentionOf_r125d (jr_of rfl (by omega)) (jr_of jk_5 (by omega)) (jr_of rfl (by omega)) hD J rfl  (fun v50 h ev50 J S47 X48 X49 => ?_))
    have Sm := jSm_tr rfl Sm S47
    try rw [jk_5] at X48
    try rw [X48] at D
    try rw [← X49] at D
    show jX m_X12_hasPart 7 0 0 7 [(0, .ref 125), (1, .int a1), (2, .int 5), (3, .int a2)] [.int v50] _ 0 0 _
    refine x_iconst (v := (-1)) rfl ki_m1 ?_
    refine x_iceq (tgt := 15) rfl rfl (ti_eq rfl jk_m1 ⟨fun c51 => ?_, fun c51 => ?_⟩)
    ·
      rw [if_pos (by omega)] at D
      refine x_iconst (v := 0) rfl ki_0 ?_
      refine x_zret rfl rfl (by decide) ?_
      show jX m_X12_fact2 8 0 0 130 [(0, .ref 125), (1, .int a1), (2, .int a2), (3, .int a3)] [.int 0] _ 0 0 _
      refine x_ifeq (tgt := 137) rfl rfl (ti_eq jk_0 jk_0 (br_t (by omega) ?_))
      refine x_lconst (v := 0) rfl kl_0 ?_
      exact jX.sub jsb_n (ct_X12_fact2_r125d_5000138 hD hQ  0 h (jr_ofl jkl_0 (by omega)) J Sm (by rw [jkl_0]; exact D))
    ·
      rw [if_neg (by omega)] at D
      refine x_iconst (v := 1) rfl ki_1 ?_
      refine x_goto (tgt := 16) rfl rfl ?_
      refine x_zret rfl rfl (by decide) ?_
      show jX m_X12_fact2 8 0 0 130 [(0, .ref 125), (1, .int a1), (2, .int a2), (3, .int a3)] [.int 1] _ 0 0 _
      refine x_ifeq (tgt := 137) rfl rfl (ti_eq jk_1 jk_0 (br_f (by omega) ?_))
      refine x_lconst (v := 1) rfl kl_1 ?_
      refine x_goto (tgt := 138) rfl rfl ?_
      exact jX.sub jsb_n (ct_X12_fact2_r125d_5000138 hD hQ  1 h (jr_ofl jkl_1 (by omega)) J Sm (by rw [jkl_1]; exact D))
  rw [if_neg c46] at D
  by_cases c52 : a3.toInt = 7
  ·
    refine x_tableIn (tgt := 139) 7 rfl c52 (by decide) (by decide) rfl rfl ?_
    rw [if_pos c52] at D
    refine x_aloadn (x := 125) rfl rfl ?_
    refine x_iloadn (x := a1) rfl rfl ?_
    refine x_iloadn (x := a2) rfl rfl ?_
    refine x_inv (N := m_X12_isPoor) (As := [.int a1, .int a2]) (b := 125) (st := []) (dx9 := 7) (mc := 0) (ms := 0) (host := "") 12 rfl t_X12_isPoor ⟨Or.inl q_12_716, i_X12_isPoor.1, i_X12_isPoor.2⟩ ⟨by decide, rfl⟩ (congrArg Prod.fst (J.1.1 125 (12, 92) rfl)) rfl (by decide) rfl rfl ⟨by decide, by decide⟩ (jC.of rfl k_X12_isPoor rfl ?_)
    show jX m_X12_isPoor 7 0 0 0 [(0, .ref 125), (1, .int a1), (2, .int a2)] [] _ 0 0 _
    refine x_aloadn (x := 125) rfl rfl ?_
    refine x_iloadn (x := a1) rfl rfl ?_
    refine x_iloadn (x := a2) rfl rfl ?_
    refine x_sipush (v := 365) rfl ks_365 ?_
    refine z_isub rfl rfl jk_365 (by omega) (fun v53 ev53 => ?_)
    refine x_iloadn (x := a2) rfl rfl ?_
    try rw [show (a2.toInt - 365) = v53.toInt from by omega] at D
    refine x_inv (N := m_X12_reliefOf) (As := [.int a1, .int v53, .int a2]) (b := 125) (st := []) (dx9 := 3) (mc := 0) (ms := 0) (host := "") 12 rfl t_X12_reliefOf ⟨Or.inl q_12_701, i_X12_reliefOf.1, i_X12_reliefOf.2⟩ ⟨by decide, rfl⟩ (congrArg Prod.fst (J.1.1 125 (12, 92) rfl)) rfl (by decide) rfl rfl ⟨by decide, by decide⟩ (sf_X12_reliefOf_r125d (jr_of rfl (by omega)) (jr_of rfl (by omega)) (jr_of rfl (by omega)) hD J rfl  (fun v57 h J S54 X55 X56 => ?_))
    have ev57 := jfull v57
    have Sm := jSm_tr rfl Sm S54
    try rw [X55] at D
    try rw [← X56] at D
    show jX m_X12_isPoor 7 0 0 11 [(0, .ref 125), (1, .int a1), (2, .int a2)] [.int v57] _ 0 0 _
    refine x_ifle (tgt := 18) rfl rfl (ti_le rfl jk_0 ⟨fun c58 => ?_, fun c58 => ?_⟩)
    ·
      rw [if_pos (by omega)] at D
      refine x_iconst (v := 0) rfl ki_0 ?_
      refine x_zret rfl rfl (by decide) ?_
      show jX m_X12_fact2 8 0 0 145 [(0, .ref 125), (1, .int a1), (2, .int a2), (3, .int a3)] [.int 0] _ 0 0 _
      refine x_ifeq (tgt := 152) rfl rfl (ti_eq jk_0 jk_0 (br_t (by omega) ?_))
      refine x_lconst (v := 0) rfl kl_0 ?_
      exact jX.sub jsb_n (ct_X12_fact2_r125d_5000153 hD hQ  0 h (jr_ofl jkl_0 (by omega)) J Sm (by rw [jkl_0]; exact D))
    ·
      rw [if_neg (by omega)] at D
      refine x_iconst (v := 1) rfl ki_1 ?_
      refine x_goto (tgt := 19) rfl rfl ?_
      refine x_zret rfl rfl (by decide) ?_
      show jX m_X12_fact2 8 0 0 145 [(0, .ref 125), (1, .int a1), (2, .int a2), (3, .int a3)] [.int 1] _ 0 0 _
      refine x_ifeq (tgt := 152) rfl rfl (ti_eq jk_1 jk_0 (br_f (by omega) ?_))
      refine x_lconst (v := 1) rfl kl_1 ?_
      refine x_goto (tgt := 153) rfl rfl ?_
      exact jX.sub jsb_n (ct_X12_fact2_r125d_5000153 hD hQ  1 h (jr_ofl jkl_1 (by omega)) J Sm (by rw [jkl_1]; exact D))
  rw [if_neg c52] at D
  by_cases c59 : a3.toInt = 8
  ·
    refine x_tableIn (tgt := 154) 8 rfl c59 (by decide) (by decide) rfl rfl ?_
    rw [if_pos c59] at D
    refine x_aloadn (x := 125) rfl rfl ?_
    refine x_iloadn (x := a1) rfl rfl ?_
    refine x_iloadn (x := a2) rfl rfl ?_
    refine x_inv (N := m_X12_valueHeld) (As := [.int a1, .int a2]) (b := 125) (st := []) (dx9 := 3) (mc := 0) (ms := 0) (host := "") 12 rfl t_X12_valueHeld ⟨Or.inl q_12_710, i_X12_valueHeld.1, i_X12_valueHeld.2⟩ ⟨by decide, rfl⟩ (congrArg Prod.fst (J.1.1 125 (12, 92) rfl)) rfl (by decide) rfl rfl ⟨by decide, by decide⟩ (sf_X12_valueHeld_r125d (jr_of rfl (by omega)) (jr_of rfl (by omega)) hD J rfl  (fun v63 h J S60 X61 X62 => ?_))
    have ev63 := jfull v63
    have Sm := jSm_tr rfl Sm S60
    try rw [X61] at D
    try rw [X62] at D
    show jX m_X12_fact2 8 0 0 160 [(0, .ref 125), (1, .int a1), (2, .int a2), (3, .int a3)] [.int v63] _ 0 0 _
    refine x_ifle (tgt := 167) rfl rfl (ti_le rfl jk_0 ⟨fun c64 => ?_, fun c64 => ?_⟩)
    ·
      rw [if_pos (by omega)] at D
      refine x_lconst (v := 0) rfl kl_0 ?_
      exact jX.sub jsb_n (ct_X12_fact2_r125d_5000168 hD hQ  0 h (jr_ofl jkl_0 (by omega)) J Sm (by rw [jkl_0]; exact D))
    ·
      rw [if_neg (by omega)] at D
      refine x_lconst (v := 1) rfl kl_1 ?_
      refine x_goto (tgt := 168) rfl rfl ?_
      exact jX.sub jsb_n (ct_X12_fact2_r125d_5000168 hD hQ  1 h (jr_ofl jkl_1 (by omega)) J Sm (by rw [jkl_1]; exact D))
  rw [if_neg c59] at D
  refine x_tableOut (tgt := 169) rfl (by omega) rfl ?_
  refine x_aloadn (x := 125) rfl rfl ?_
  refine x_iloadn (x := a1) rfl rfl ?_
  refine x_iloadn (x := a2) rfl rfl ?_
  refine x_iconst (v := (-1)) rfl ki_m1 ?_
  refine x_inv (N := m_X12_isCertified) (As := [.int a1, .int a2, .int (-1)]) (b := 125) (st := []) (dx9 := 2) (mc := 0) (ms := 0) (host := "") 12 rfl t_X12_isCertified ⟨Or.inl q_12_719, i_X12_isCertified.1, i_X12_isCertified.2⟩ ⟨by decide, rfl⟩ (congrArg Prod.fst (J.1.1 125 (12, 92) rfl)) rfl (by decide) rfl rfl ⟨by decide, by decide⟩ (sf_X12_isCertified_r125d (jr_of rfl (by omega)) (jr_of rfl (by omega)) (jr_of jk_m1 (by omega)) hD J rfl  (fun v68 h ev68 J S65 X66 X67 => ?_))
  have Sm := jSm_tr rfl Sm S65
  try rw [jk_m1] at X66
  try rw [X66] at D
  try rw [← X67] at D
  show jX m_X12_fact2 8 0 0 176 [(0, .ref 125), (1, .int a1), (2, .int a2), (3, .int a3)] [.int v68] _ 0 0 _
  refine x_ifeq (tgt := 183) rfl rfl (ti_eq rfl jk_0 ⟨fun c69 => ?_, fun c69 => ?_⟩)
  ·
    rw [if_pos (by omega)] at D
    refine x_lconst (v := 0) rfl kl_0 ?_
    exact jX.sub jsb_n (ct_X12_fact2_r125d_5000184 hD hQ  0 h (jr_ofl jkl_0 (by omega)) J Sm (by rw [jkl_0]; exact D))
  ·
    rw [if_neg (by omega)] at D
    refine x_lconst (v := 1) rfl kl_1 ?_
    refine x_goto (tgt := 184) rfl rfl ?_
    exact jX.sub jsb_n (ct_X12_fact2_r125d_5000184 hD hQ  1 h (jr_ofl jkl_1 (by omega)) J Sm (by rw [jkl_1]; exact D))
def fp_X12_stands_r125d : jFp := []
set_option maxRecDepth 100000 in
set_option maxHeartbeats 4000000 in
theorem ct_X12_stands_r125d_95 {Dy : jH → Prop} {h0 : jH} {Q : Option Value → jH → Prop} {dr : Int} (hD : jDk Dy) (hQ : ∀ (v : Int32) hx9, 0 ≤ v.toInt ∧ v.toInt ≤ 1 → jJ jSgM Dy hx9 → jSm fp_X12_stands_r125d h0 hx9 → dr = v.toInt → vw hx9 = vw h0 → Q (some (.int v)) hx9) : ∀ (l6 : Int32) (h : jH), 0 ≤ l6.toInt ∧ l6.toInt ≤ 1 → jJ jSgM Dy h → jSm fp_X12_stands_r125d h0 h → d_X12_stands_r125d_95  l6.toInt (vw h) = dr → vw h = vw h0 → jX m_X12_stands 1 0 0 95 [(6, .int l6)] [] h 0 0 Q := by
  intro l6 h y0   J Sm D EV
  unfold d_X12_stands_r125d_95 at D
  refine x_iload (x := l6) rfl rfl ?_
  refine x_zret rfl rfl (jz01 (by omega)) ?_
  exact hQ _ _ (jr_of rfl (by omega)) J Sm (D.symm.trans (show l6.toInt = l6.toInt from by omega)) EV
set_option maxRecDepth 100000 in
set_option maxHeartbeats 4000000 in
theorem ct_X12_stands_r125d_200087 {Dy : jH → Prop} {h0 : jH} {Q : Option Value → jH → Prop} {dr : Int} {K37 : Int → Int → Int → Int → Int → Int → Int → jW → Int} {R37 : Int} (hD : jDk Dy) (hQ : ∀ (v : Int32) hx9, 0 ≤ v.toInt ∧ v.toInt ≤ 1 → jJ jSgM Dy hx9 → jSm fp_X12_stands_r125d h0 hx9 → dr = v.toInt → vw hx9 = vw h0 → Q (some (.int v)) hx9) (k37 : ∀ (l1 : Int32) (l2 : Int32) (l3 : Int32) (l4 : Int32) (l5 : Int32) (l6 : Int32) (l7 : Int32) (h : jH), 3 - l7.toInt < R37 → 26 ≤ l1.toInt ∧ l1.toInt ≤ 18006 → l1.toInt % 2 = 0 → 0 ≤ l2.toInt ∧ l2.toInt ≤ 11 → 0 ≤ l3.toInt ∧ l3.toInt ≤ 15 → 0 ≤ l4.toInt ∧ l4.toInt ≤ 14 → l4.toInt % 2 = 0 → 0 ≤ l5.toInt ∧ l5.toInt ≤ 3 → 0 ≤ l6.toInt ∧ l6.toInt ≤ 1 → 0 ≤ l7.toInt ∧ l7.toInt ≤ 3 → (l1.toInt % 90 = 6 ∨ l1.toInt % 90 = 26 ∨ l1.toInt % 90 = 40 ∨ l1.toInt % 90 = 54 ∨ l1.toInt % 90 = 68 ∨ l1.toInt % 90 = 82) → (l6.toInt = 0 ∨ l2.toInt + l5.toInt ≤ 12) → jJ jSgM Dy h → jSm fp_X12_stands_r125d h0 h → K37 l1.toInt l2.toInt l3.toInt l4.toInt l5.toInt l6.toInt l7.toInt (vw h) = dr → vw h = vw h0 → jX m_X12_stands 1 0 0 37 [(0, .ref 125), (1, .int l1), (2, .int l2), (3, .int l3), (4, .int l4), (5, .int l5), (6, .int l6), (7, .int l7)] [] h 0 0 Q) : ∀ (l1 : Int32) (l2 : Int32) (l3 : Int32) (l4 : Int32) (l5 : Int32) (l7 : Int32) (h : jH), 26 ≤ l1.toInt ∧ l1.toInt ≤ 18006 → l1.toInt % 2 = 0 → 0 ≤ l2.toInt ∧ l2.toInt ≤ 11 → 0 ≤ l3.toInt ∧ l3.toInt ≤ 15 → 0 ≤ l4.toInt ∧ l4.toInt ≤ 14 → l4.toInt % 2 = 0 → 1 ≤ l5.toInt ∧ l5.toInt ≤ 3 → 0 ≤ l7.toInt ∧ l7.toInt ≤ 2 → (l1.toInt % 90 = 6 ∨ l1.toInt % 90 = 26 ∨ l1.toInt % 90 = 40 ∨ l1.toInt % 90 = 54 ∨ l1.toInt % 90 = 68 ∨ l1.toInt % 90 = 82) → 3 - l7.toInt ≤ R37 → jJ jSgM Dy h → jSm fp_X12_stands_r125d h0 h → d_X12_stands_r125d_200087 K37  l1.toInt l2.toInt l3.toInt l4.toInt l5.toInt l7.toInt (vw h) = dr → vw h = vw h0 → jX m_X12_stands 1 0 0 87 [(0, .ref 125), (1, .int l1), (2, .int l2), (3, .int l3), (4, .int l4), (5, .int l5), (7, .int l7)] [.int 0] h 0 0 Q := by
  intro l1 l2 l3 l4 l5 l7 h y0 y1 y2 y3 y4 y5 y6 y7 y8  m37 J Sm D EV
  unfold d_X12_stands_r125d_200087 at D
  refine x_istore (lsx9 := [(6, .int 0), (0, .ref 125), (1, .int l1), (2, .int l2), (3, .int l3), (4, .int l4), (5, .int l5), (7, .int l7)]) rfl rfl rfl ?_
  refine z_iinc (x := l7) (lsx9 := fun v1 => [(7, .int v1), (6, .int 0), (0, .ref 125), (1, .int l1), (2, .int l2), (3, .int l3), (4, .int l4), (5, .int l5)]) rfl rfl rfl jko_1 (by omega) rfl (fun _ => rfl) (fun v1 ev1 => ?_)
  refine x_goto (tgt := 37) rfl rfl ?_
  try rw [show (l7.toInt + 1) = v1.toInt from by omega] at D
  exact jX.sub (jsb_c rfl (jsb_c rfl (jsb_c rfl (jsb_c rfl (jsb_c rfl (jsb_c rfl (jsb_c rfl (jsb_c rfl jsb_n)))))))) (k37 l1 l2 l3 l4 l5 0 v1 h (by omega) (jr_of rfl (by omega)) (jr_mod rfl (by omega)) (jr_of rfl (by omega)) (jr_of rfl (by omega)) (jr_of rfl (by omega)) (jr_mod rfl (by omega)) (jr_of rfl (by omega)) (jr_of jk_0 (by omega)) (jr_of rfl (by omega)) (by omega) (by have := jk_0; omega) J Sm (by rw [jk_0]; exact D) EV)
set_option maxRecDepth 100000 in
set_option maxHeartbeats 4000000 in
theorem ct_X12_stands_r125d_300087 {Dy : jH → Prop} {h0 : jH} {Q : Option Value → jH → Prop} {dr : Int} {K37 : Int → Int → Int → Int → Int → Int → Int → jW → Int} {R37 : Int} (hD : jDk Dy) (hQ : ∀ (v : Int32) hx9, 0 ≤ v.toInt ∧ v.toInt ≤ 1 → jJ jSgM Dy hx9 → jSm fp_X12_stands_r125d h0 hx9 → dr = v.toInt → vw hx9 = vw h0 → Q (some (.int v)) hx9) (k37 : ∀ (l1 : Int32) (l2 : Int32) (l3 : Int32) (l4 : Int32) (l5 : Int32) (l6 : Int32) (l7 : Int32) (h : jH), 3 - l7.toInt < R37 → 26 ≤ l1.toInt ∧ l1.toInt ≤ 18006 → l1.toInt % 2 = 0 → 0 ≤ l2.toInt ∧ l2.toInt ≤ 11 → 0 ≤ l3.toInt ∧ l3.toInt ≤ 15 → 0 ≤ l4.toInt ∧ l4.toInt ≤ 14 → l4.toInt % 2 = 0 → 0 ≤ l5.toInt ∧ l5.toInt ≤ 3 → 0 ≤ l6.toInt ∧ l6.toInt ≤ 1 → 0 ≤ l7.toInt ∧ l7.toInt ≤ 3 → (l1.toInt % 90 = 6 ∨ l1.toInt % 90 = 26 ∨ l1.toInt % 90 = 40 ∨ l1.toInt % 90 = 54 ∨ l1.toInt % 90 = 68 ∨ l1.toInt % 90 = 82) → (l6.toInt = 0 ∨ l2.toInt + l5.toInt ≤ 12) → jJ jSgM Dy h → jSm fp_X12_stands_r125d h0 h → K37 l1.toInt l2.toInt l3.toInt l4.toInt l5.toInt l6.toInt l7.toInt (vw h) = dr → vw h = vw h0 → jX m_X12_stands 1 0 0 37 [(0, .ref 125), (1, .int l1), (2, .int l2), (3, .int l3), (4, .int l4), (5, .int l5), (6, .int l6), (7, .int l7)] [] h 0 0 Q) : ∀ (l1 : Int32) (l2 : Int32) (l3 : Int32) (l4 : Int32) (l5 : Int32) (l7 : Int32) (h : jH), 26 ≤ l1.toInt ∧ l1.toInt ≤ 18006 → l1.toInt % 2 = 0 → 0 ≤ l2.toInt ∧ l2.toInt ≤ 11 → 0 ≤ l3.toInt ∧ l3.toInt ≤ 15 → 0 ≤ l4.toInt ∧ l4.toInt ≤ 14 → l4.toInt % 2 = 0 → 1 ≤ l5.toInt ∧ l5.toInt ≤ 3 → 0 ≤ l7.toInt ∧ l7.toInt ≤ 2 → (l1.toInt % 90 = 6 ∨ l1.toInt % 90 = 26 ∨ l1.toInt % 90 = 40 ∨ l1.toInt % 90 = 54 ∨ l1.toInt % 90 = 68 ∨ l1.toInt % 90 = 82) → l2.toInt + l5.toInt ≤ 12 → 3 - l7.toInt ≤ R37 → jJ jSgM Dy h → jSm fp_X12_stands_r125d h0 h → d_X12_stands_r125d_300087 K37  l1.toInt l2.toInt l3.toInt l4.toInt l5.toInt l7.toInt (vw h) = dr → vw h = vw h0 → jX m_X12_stands 1 0 0 87 [(0, .ref 125), (1, .int l1), (2, .int l2), (3, .int l3), (4, .int l4), (5, .int l5), (7, .int l7)] [.int 1] h 0 0 Q := by
  intro l1 l2 l3 l4 l5 l7 h y0 y1 y2 y3 y4 y5 y6 y7 y8 y9  m37 J Sm D EV
  unfold d_X12_stands_r125d_300087 at D
  refine x_istore (lsx9 := [(6, .int 1), (0, .ref 125), (1, .int l1), (2, .int l2), (3, .int l3), (4, .int l4), (5, .int l5), (7, .int l7)]) rfl rfl rfl ?_
  refine z_iinc (x := l7) (lsx9 := fun v1 => [(7, .int v1), (6, .int 1), (0, .ref 125), (1, .int l1), (2, .int l2), (3, .int l3), (4, .int l4), (5, .int l5)]) rfl rfl rfl jko_1 (by omega) rfl (fun _ => rfl) (fun v1 ev1 => ?_)
  refine x_goto (tgt := 37) rfl rfl ?_
  try rw [show (l7.toInt + 1) = v1.toInt from by omega] at D
  exact jX.sub (jsb_c rfl (jsb_c rfl (jsb_c rfl (jsb_c rfl (jsb_c rfl (jsb_c rfl (jsb_c rfl (jsb_c rfl jsb_n)))))))) (k37 l1 l2 l3 l4 l5 1 v1 h (by omega) (jr_of rfl (by omega)) (jr_mod rfl (by omega)) (jr_of rfl (by omega)) (jr_of rfl (by omega)) (jr_of rfl (by omega)) (jr_mod rfl (by omega)) (jr_of rfl (by omega)) (jr_of jk_1 (by omega)) (jr_of rfl (by omega)) (by omega) (by have := jk_1; omega) J Sm (by rw [jk_1]; exact D) EV)
set_option maxRecDepth 100000 in
set_option maxHeartbeats 4000000 in
theorem ct_X12_stands_r125d_37 {Dy : jH → Prop} {h0 : jH} {Q : Option Value → jH → Prop} {dr : Int} (hD : jDk Dy) (hQ : ∀ (v : Int32) hx9, 0 ≤ v.toInt ∧ v.toInt ≤ 1 → jJ jSgM Dy hx9 → jSm fp_X12_stands_r125d h0 hx9 → dr = v.toInt → vw hx9 = vw h0 → Q (some (.int v)) hx9) : ∀ r : Nat, ∀ (l1 : Int32) (l2 : Int32) (l3 : Int32) (l4 : Int32) (l5 : Int32) (l6 : Int32) (l7 : Int32) (h : jH), 3 - l7.toInt < (r : Int) → 26 ≤ l1.toInt ∧ l1.toInt ≤ 18006 → l1.toInt % 2 = 0 → 0 ≤ l2.toInt ∧ l2.toInt ≤ 11 → 0 ≤ l3.toInt ∧ l3.toInt ≤ 15 → 0 ≤ l4.toInt ∧ l4.toInt ≤ 14 → l4.toInt % 2 = 0 → 0 ≤ l5.toInt ∧ l5.toInt ≤ 3 → 0 ≤ l6.toInt ∧ l6.toInt ≤ 1 → 0 ≤ l7.toInt ∧ l7.toInt ≤ 3 → (l1.toInt % 90 = 6 ∨ l1.toInt % 90 = 26 ∨ l1.toInt % 90 = 40 ∨ l1.toInt % 90 = 54 ∨ l1.toInt % 90 = 68 ∨ l1.toInt % 90 = 82) → (l6.toInt = 0 ∨ l2.toInt + l5.toInt ≤ 12) → jJ jSgM Dy h → jSm fp_X12_stands_r125d h0 h → d_X12_stands_r125d_37 r l1.toInt l2.toInt l3.toInt l4.toInt l5.toInt l6.toInt l7.toInt (vw h) = dr → vw h = vw h0 → jX m_X12_stands 1 0 0 37 [(0, .ref 125), (1, .int l1), (2, .int l2), (3, .int l3), (4, .int l4), (5, .int l5), (6, .int l6), (7, .int l7)] [] h 0 0 Q := by
  intro r
  induction r with
  | zero =>
    intro l1 l2 l3 l4 l5 l6 l7 h hm y0 y1 y2 y3 y4 y5 y6 y7 y8 y9 y10   J Sm D EV
    exfalso
    omega
  | succ r ih =>
    intro l1 l2 l3 l4 l5 l6 l7 h hm y0 y1 y2 y3 y4 y5 y6 y7 y8 y9 y10   J Sm D EV
    rw [d_X12_stands_r125d_37.eq_2] at D
    refine x_iload (x := l7) rfl rfl ?_
    refine x_iload (x := l5) rfl rfl ?_
    refine x_icge (tgt := 95) rfl rfl (ti_ge rfl rfl ⟨fun c1 => ?_, fun c1 => ?_⟩)
    ·
      rw [if_pos (by omega)] at D
      exact jX.sub (jsb_c rfl jsb_n) (ct_X12_stands_r125d_95 hD hQ  l6 h (jr_of rfl (by omega)) J Sm D EV)
    ·
      rw [if_neg (by omega)] at D
      refine x_iload (x := l6) rfl rfl ?_
      refine x_ifeq (tgt := 95) rfl rfl (ti_eq rfl jk_0 ⟨fun c2 => ?_, fun c2 => ?_⟩)
      ·
        rw [if_pos (by omega)] at D
        exact jX.sub (jsb_c rfl jsb_n) (ct_X12_stands_r125d_95 hD hQ  l6 h (jr_of rfl (by omega)) J Sm D EV)
      ·
        rw [if_neg (by omega)] at D
        refine x_aloadn (x := 125) rfl rfl ?_
        refine z_getR (N := 92) (b := 126) 12 2 rfl f_12_8 rfl J rfl 16002 ⟨rfl, rfl⟩ rfl ?_
        refine x_iloadn (x := l1) rfl rfl ?_
        refine x_iconst (v := 2) rfl ki_2 ?_
        refine z_iadd rfl rfl jk_2 (by omega) (fun v3 ev3 => ?_)
        refine x_iloadn (x := l2) rfl rfl ?_
        refine z_iadd rfl rfl rfl (by omega) (fun v4 ev4 => ?_)
        refine x_iload (x := l7) rfl rfl ?_
        refine z_iadd rfl rfl rfl (by omega) (fun v5 ev5 => ?_)
        refine z_iald0 (N := 50660) rfl J rfl rfl (by omega) (fun v6 qv6 => ?_)
        have ev6 := jfull v6
        try rw [vrd qv6 (show (((l1.toInt + 2) + l2.toInt) + l7.toInt) = v5.toInt from by omega)] at D
        refine x_aloadn (x := 125) rfl rfl ?_
        refine z_getR (N := 92) (b := 134) 12 17 rfl f_12_42 rfl J rfl 16017 ⟨rfl, rfl⟩ rfl ?_
        refine x_bipush (v := 48) rfl kb_48 ?_
        refine x_iloadn (x := l3) rfl rfl ?_
        refine z_imul rfl jk_48 rfl (by omega) (fun v7 ev7 => ?_)
        refine x_iconst (v := 3) rfl ki_3 ?_
        refine x_iload (x := l4) rfl rfl ?_
        refine z_imul rfl jk_3 rfl (by omega) (fun v8 ev8 => ?_)
        refine z_iadd rfl rfl rfl (by omega) (fun v9 ev9 => ?_)
        refine x_iload (x := l7) rfl rfl ?_
        refine z_iadd rfl rfl rfl (by omega) (fun v10 ev10 => ?_)
        refine z_iald (N := 768) rfl J rfl sg_134_0_768_1_0_1 rfl (by omega) (fun v11 qv11 ev11 => ?_)
        try rw [vrd qv11 (show (((48 * l3.toInt) + (3 * l4.toInt)) + l7.toInt) = v10.toInt from by omega)] at D
        refine x_icne (tgt := 86) rfl rfl (ti_ne rfl rfl ⟨fun c12 => ?_, fun c12 => ?_⟩)
        ·
          rw [if_neg (by omega)] at D
          refine x_iconst (v := 0) rfl ki_0 ?_
          exact jX.sub (jsb_c rfl (jsb_c rfl (jsb_c rfl (jsb_c rfl (jsb_c rfl (jsb_c rfl (jsb_c rfl jsb_n))))))) (ct_X12_stands_r125d_200087 hD hQ ih l1 l2 l3 l4 l5 l7 h (jr_of rfl (by omega)) (jr_mod rfl (by omega)) (jr_of rfl (by omega)) (jr_of rfl (by omega)) (jr_of rfl (by omega)) (jr_mod rfl (by omega)) (jr_of rfl (by omega)) (jr_of rfl (by omega)) (by omega) (by omega) J Sm D EV)
        ·
          rw [if_pos (by omega)] at D
          refine x_iconst (v := 1) rfl ki_1 ?_
          refine x_goto (tgt := 87) rfl rfl ?_
          exact jX.sub (jsb_c rfl (jsb_c rfl (jsb_c rfl (jsb_c rfl (jsb_c rfl (jsb_c rfl (jsb_c rfl jsb_n))))))) (ct_X12_stands_r125d_300087 hD hQ ih l1 l2 l3 l4 l5 l7 h (jr_of rfl (by omega)) (jr_mod rfl (by omega)) (jr_of rfl (by omega)) (jr_of rfl (by omega)) (jr_of rfl (by omega)) (jr_mod rfl (by omega)) (jr_of rfl (by omega)) (jr_of rfl (by omega)) (by omega) (by omega) (by omega) J Sm D EV)
set_option maxRecDepth 100000 in
set_option maxHeartbeats 4000000 in
theorem ct_X12_stands_r125d_200032 {Dy : jH → Prop} {h0 : jH} {Q : Option Value → jH → Prop} {dr : Int} (hD : jDk Dy) (hQ : ∀ (v : Int32) hx9, 0 ≤ v.toInt ∧ v.toInt ≤ 1 → jJ jSgM Dy hx9 → jSm fp_X12_stands_r125d h0 hx9 → dr = v.toInt → vw hx9 = vw h0 → Q (some (.int v)) hx9) : ∀ (l1 : Int32) (l2 : Int32) (l3 : Int32) (l4 : Int32) (l5 : Int32) (h : jH), 26 ≤ l1.toInt ∧ l1.toInt ≤ 18006 → l1.toInt % 2 = 0 → 0 ≤ l2.toInt ∧ l2.toInt ≤ 11 → 0 ≤ l3.toInt ∧ l3.toInt ≤ 15 → 0 ≤ l4.toInt ∧ l4.toInt ≤ 14 → l4.toInt % 2 = 0 → 0 ≤ l5.toInt ∧ l5.toInt ≤ 3 → (l1.toInt % 90 = 6 ∨ l1.toInt % 90 = 26 ∨ l1.toInt % 90 = 40 ∨ l1.toInt % 90 = 54 ∨ l1.toInt % 90 = 68 ∨ l1.toInt % 90 = 82) → jJ jSgM Dy h → jSm fp_X12_stands_r125d h0 h → d_X12_stands_r125d_200032  l1.toInt l2.toInt l3.toInt l4.toInt l5.toInt (vw h) = dr → vw h = vw h0 → jX m_X12_stands 1 0 0 32 [(0, .ref 125), (1, .int l1), (2, .int l2), (3, .int l3), (4, .int l4), (5, .int l5)] [.int 0] h 0 0 Q := by
  intro l1 l2 l3 l4 l5 h y0 y1 y2 y3 y4 y5 y6 y7   J Sm D EV
  unfold d_X12_stands_r125d_200032 at D
  refine x_istore (lsx9 := [(6, .int 0), (0, .ref 125), (1, .int l1), (2, .int l2), (3, .int l3), (4, .int l4), (5, .int l5)]) rfl rfl rfl ?_
  refine x_iconst (v := 0) rfl ki_0 ?_
  refine x_istore (lsx9 := [(7, .int 0), (6, .int 0), (0, .ref 125), (1, .int l1), (2, .int l2), (3, .int l3), (4, .int l4), (5, .int l5)]) rfl rfl rfl ?_
  exact jX.sub (jsb_c rfl (jsb_c rfl (jsb_c rfl (jsb_c rfl (jsb_c rfl (jsb_c rfl (jsb_c rfl (jsb_c rfl jsb_n)))))))) (ct_X12_stands_r125d_37 hD hQ  4 l1 l2 l3 l4 l5 0 0 h (by have := jk_0; omega) (jr_of rfl (by omega)) (jr_mod rfl (by omega)) (jr_of rfl (by omega)) (jr_of rfl (by omega)) (jr_of rfl (by omega)) (jr_mod rfl (by omega)) (jr_of rfl (by omega)) (jr_of jk_0 (by omega)) (jr_of jk_0 (by omega)) (by omega) (by have := jk_0; omega) J Sm (by rw [jk_0]; exact D) EV)
set_option maxRecDepth 100000 in
set_option maxHeartbeats 4000000 in
theorem ct_X12_stands_r125d_300032 {Dy : jH → Prop} {h0 : jH} {Q : Option Value → jH → Prop} {dr : Int} (hD : jDk Dy) (hQ : ∀ (v : Int32) hx9, 0 ≤ v.toInt ∧ v.toInt ≤ 1 → jJ jSgM Dy hx9 → jSm fp_X12_stands_r125d h0 hx9 → dr = v.toInt → vw hx9 = vw h0 → Q (some (.int v)) hx9) : ∀ (l1 : Int32) (l2 : Int32) (l3 : Int32) (l4 : Int32) (l5 : Int32) (h : jH), 26 ≤ l1.toInt ∧ l1.toInt ≤ 18006 → l1.toInt % 2 = 0 → 0 ≤ l2.toInt ∧ l2.toInt ≤ 11 → 0 ≤ l3.toInt ∧ l3.toInt ≤ 15 → 0 ≤ l4.toInt ∧ l4.toInt ≤ 14 → l4.toInt % 2 = 0 → 0 ≤ l5.toInt ∧ l5.toInt ≤ 3 → (l1.toInt % 90 = 6 ∨ l1.toInt % 90 = 26 ∨ l1.toInt % 90 = 40 ∨ l1.toInt % 90 = 54 ∨ l1.toInt % 90 = 68 ∨ l1.toInt % 90 = 82) → l2.toInt + l5.toInt ≤ 12 → jJ jSgM Dy h → jSm fp_X12_stands_r125d h0 h → d_X12_stands_r125d_300032  l1.toInt l2.toInt l3.toInt l4.toInt l5.toInt (vw h) = dr → vw h = vw h0 → jX m_X12_stands 1 0 0 32 [(0, .ref 125), (1, .int l1), (2, .int l2), (3, .int l3), (4, .int l4), (5, .int l5)] [.int 1] h 0 0 Q := by
  intro l1 l2 l3 l4 l5 h y0 y1 y2 y3 y4 y5 y6 y7 y8   J Sm D EV
  unfold d_X12_stands_r125d_300032 at D
  refine x_istore (lsx9 := [(6, .int 1), (0, .ref 125), (1, .int l1), (2, .int l2), (3, .int l3), (4, .int l4), (5, .int l5)]) rfl rfl rfl ?_
  refine x_iconst (v := 0) rfl ki_0 ?_
  refine x_istore (lsx9 := [(7, .int 0), (6, .int 1), (0, .ref 125), (1, .int l1), (2, .int l2), (3, .int l3), (4, .int l4), (5, .int l5)]) rfl rfl rfl ?_
  exact jX.sub (jsb_c rfl (jsb_c rfl (jsb_c rfl (jsb_c rfl (jsb_c rfl (jsb_c rfl (jsb_c rfl (jsb_c rfl jsb_n)))))))) (ct_X12_stands_r125d_37 hD hQ  4 l1 l2 l3 l4 l5 1 0 h (by have := jk_0; omega) (jr_of rfl (by omega)) (jr_mod rfl (by omega)) (jr_of rfl (by omega)) (jr_of rfl (by omega)) (jr_of rfl (by omega)) (jr_mod rfl (by omega)) (jr_of rfl (by omega)) (jr_of jk_1 (by omega)) (jr_of jk_0 (by omega)) (by omega) (by have := jk_1; omega) J Sm (by rw [jk_1, jk_0]; exact D) EV)
set_option maxRecDepth 100000 in
set_option maxHeartbeats 4000000 in
theorem sf_X12_stands_r125d {Dy : jH → Prop} {h : jH} {Q : Option Value → jH → Prop} {dr : Int} {a1 : Int32} {a2 : Int32} {a3 : Int32} {a4 : Int32} (y1 : 26 ≤ a1.toInt ∧ a1.toInt ≤ 18006) (ym1 : a1.toInt % 2 = 0) (yr1 : (a1.toInt % 90 = 6 ∨ a1.toInt % 90 = 26 ∨ a1.toInt % 90 = 40 ∨ a1.toInt % 90 = 54 ∨ a1.toInt % 90 = 68 ∨ a1.toInt % 90 = 82)) (y2 : 0 ≤ a2.toInt ∧ a2.toInt ≤ 11) (y3 : 0 ≤ a3.toInt ∧ a3.toInt ≤ 15) (y4 : 0 ≤ a4.toInt ∧ a4.toInt ≤ 14) (ym4 : a4.toInt % 2 = 0) (hD : jDk Dy) (J : jJ jSgM Dy h) (D : d_X12_stands_r125d a1.toInt a2.toInt a3.toInt a4.toInt (vw h) = dr) (hQ : ∀ (v : Int32) hx9, 0 ≤ v.toInt ∧ v.toInt ≤ 1 → jJ jSgM Dy hx9 → jSm fp_X12_stands_r125d h hx9 → dr = v.toInt → vw hx9 = vw h → Q (some (.int v)) hx9) : jC m_X12_stands 1 0 0 [.ref 125, .int a1, .int a2, .int a3, .int a4] h Q := by
  refine jC.of rfl k_X12_stands rfl ?_
  have Sm := jSm_rf fp_X12_stands_r125d h
  show jX m_X12_stands 1 0 0 0 [(0, .ref 125), (1, .int a1), (2, .int a2), (3, .int a3), (4, .int a4)] [] _ 0 0 _
  unfold d_X12_stands_r125d at D
  have EV : vw h = vw h := rfl
  refine x_aloadn (x := 125) rfl rfl ?_
  refine z_getR (N := 92) (b := 133) 12 16 rfl f_12_39 rfl J rfl 16016 ⟨rfl, rfl⟩ rfl ?_
  refine x_bipush (v := 16) rfl kb_16 ?_
  refine x_iloadn (x := a3) rfl rfl ?_
  refine z_imul rfl jk_16 rfl (by omega) (fun v1 ev1 => ?_)
  refine x_iload (x := a4) rfl rfl ?_
  refine z_iadd rfl rfl rfl (by omega) (fun v2 ev2 => ?_)
  refine z_iald (N := 256) rfl J rfl sg_133_0_256_1_0_1 rfl (by omega) (fun v3 qv3 ev3 => ?_)
  try rw [vrd qv3 (show ((16 * a3.toInt) + a4.toInt) = v2.toInt from by omega)] at D
  refine x_istore (lsx9 := [(5, .int v3), (0, .ref 125), (1, .int a1), (2, .int a2), (3, .int a3), (4, .int a4)]) rfl rfl rfl ?_
  refine x_iloadn (x := a2) rfl rfl ?_
  refine x_iload (x := v3) rfl rfl ?_
  refine z_iadd rfl rfl rfl (by omega) (fun v4 ev4 => ?_)
  refine x_aloadn (x := 125) rfl rfl ?_
  refine z_getR (N := 92) (b := 126) 12 2 rfl f_12_8 rfl J rfl 16002 ⟨rfl, rfl⟩ rfl ?_
  refine x_iloadn (x := a1) rfl rfl ?_
  refine z_ialdU (N := 50660) (lo := 0) (hi := 12) rfl J rfl rfl (by omega) ((show (a1.toInt - 20) % 90 = 6 ∨ (a1.toInt - 20) % 90 = 20 ∨ (a1.toInt - 20) % 90 = 34 ∨ (a1.toInt - 20) % 90 = 48 ∨ (a1.toInt - 20) % 90 = 62 ∨ (a1.toInt - 20) % 90 = 76 from by omega).elim (fun q => (jrg_w (jrg_c J sg_126_20_18020_90_6_7 rfl (by omega)) (by decide))) (fun q => q.elim (fun q => (jrg_w (jrg_c J sg_126_20_18020_90_20_21 rfl (by omega)) (by decide))) (fun q => q.elim (fun q => (jrg_w (jrg_c J sg_126_20_18020_90_34_35 rfl (by omega)) (by decide))) (fun q => q.elim (fun q => (jrg_w (jrg_c J sg_126_20_18020_90_48_49 rfl (by omega)) (by decide))) (fun q => q.elim (fun q => (jrg_w (jrg_c J sg_126_20_18020_90_62_63 rfl (by omega)) (by decide))) (fun q => (jrg_w (jrg_c J sg_126_20_18020_90_76_77 rfl (by omega)) (by decide)))))))) (fun v5 qv5 ev5 => ?_)
  try rw [vrd qv5 (show a1.toInt = a1.toInt from by omega)] at D
  refine x_icgt (tgt := 31) rfl rfl (ti_gt rfl rfl ⟨fun c6 => ?_, fun c6 => ?_⟩)
  ·
    rw [if_pos (by omega)] at D
    refine x_iconst (v := 0) rfl ki_0 ?_
    exact jX.sub (jsb_c rfl (jsb_c rfl (jsb_c rfl (jsb_c rfl (jsb_c rfl (jsb_c rfl jsb_n)))))) (ct_X12_stands_r125d_200032 hD hQ  a1 a2 a3 a4 v3 h (jr_of rfl (by omega)) (jr_mod rfl (by omega)) (jr_of rfl (by omega)) (jr_of rfl (by omega)) (jr_of rfl (by omega)) (jr_mod rfl (by omega)) (jr_of rfl (by omega)) (by omega) J Sm D EV)
  ·
    rw [if_neg (by omega)] at D
    refine x_iconst (v := 1) rfl ki_1 ?_
    refine x_goto (tgt := 32) rfl rfl ?_
    exact jX.sub (jsb_c rfl (jsb_c rfl (jsb_c rfl (jsb_c rfl (jsb_c rfl (jsb_c rfl jsb_n)))))) (ct_X12_stands_r125d_300032 hD hQ  a1 a2 a3 a4 v3 h (jr_of rfl (by omega)) (jr_mod rfl (by omega)) (jr_of rfl (by omega)) (jr_of rfl (by omega)) (jr_of rfl (by omega)) (jr_mod rfl (by omega)) (jr_of rfl (by omega)) (by omega) (by omega) J Sm D EV)
def fp_X12_fold_r125d : jFp := [(137, 0, 80), (138, 0, 2)]
set_option maxRecDepth 100000 in
set_option maxHeartbeats 4000000 in
theorem ct_X12_fold_r125d_218 {Dy : jH → Prop} {h0 : jH} {Q : Option Value → jH → Prop} {dr : jW} {K30 : Int → Int → Int → Int → Int → jW → jW} {R30 : Int} (hD : jDk Dy) (hQ : ∀ hx9, jJ jSgM Dy hx9 → jSm fp_X12_fold_r125d h0 hx9 → dr = vw hx9 → Q none hx9) (k30 : ∀ (l3 : Int32) (l4 : Int32) (l5 : Int32) (l6 : Int32) (l7 : Int32) (h : jH), 14 - l7.toInt < R30 → 0 ≤ l3.toInt ∧ l3.toInt ≤ 1 → 26 ≤ l4.toInt ∧ l4.toInt ≤ 18006 → l4.toInt % 2 = 0 → 0 ≤ l5.toInt ∧ l5.toInt ≤ 15 → 0 ≤ l6.toInt ∧ l6.toInt ≤ 36 → 0 ≤ l7.toInt ∧ l7.toInt ≤ 14 → (l4.toInt % 90 = 6 ∨ l4.toInt % 90 = 26 ∨ l4.toInt % 90 = 40 ∨ l4.toInt % 90 = 54 ∨ l4.toInt % 90 = 68 ∨ l4.toInt % 90 = 82) → (l6.toInt ≤ 3 * l7.toInt ∧ l6.toInt ≤ 36) → jJ jSgM Dy h → jSm fp_X12_fold_r125d h0 h → K30 l3.toInt l4.toInt l5.toInt l6.toInt l7.toInt (vw h) = dr → jX m_X12_fold 3 0 0 30 [(0, .ref 125), (3, .int l3), (4, .int l4), (5, .int l5), (6, .int l6), (7, .int l7)] [] h 0 0 Q) : ∀ (l3 : Int32) (l4 : Int32) (l5 : Int32) (l6 : Int32) (l7 : Int32) (h : jH), 0 ≤ l3.toInt ∧ l3.toInt ≤ 1 → 26 ≤ l4.toInt ∧ l4.toInt ≤ 18006 → l4.toInt % 2 = 0 → 0 ≤ l5.toInt ∧ l5.toInt ≤ 15 → 0 ≤ l6.toInt ∧ l6.toInt ≤ 36 → 1 ≤ l7.toInt ∧ l7.toInt ≤ 14 → (l4.toInt % 90 = 6 ∨ l4.toInt % 90 = 26 ∨ l4.toInt % 90 = 40 ∨ l4.toInt % 90 = 54 ∨ l4.toInt % 90 = 68 ∨ l4.toInt % 90 = 82) → (l6.toInt ≤ 3 * l7.toInt ∧ l6.toInt ≤ 36) → 14 - l7.toInt < R30 → jJ jSgM Dy h → jSm fp_X12_fold_r125d h0 h → d_X12_fold_r125d_218 K30  l3.toInt l4.toInt l5.toInt l6.toInt l7.toInt (vw h) = dr → jX m_X12_fold 3 0 0 218 [(0, .ref 125), (3, .int l3), (4, .int l4), (5, .int l5), (6, .int l6), (7, .int l7)] [] h 0 0 Q := by
  intro l3 l4 l5 l6 l7 h y0 y1 y2 y3 y4 y5 y6 y7  m30 J Sm D
  unfold d_X12_fold_r125d_218 at D
  refine x_goto (tgt := 30) rfl rfl ?_
  exact jX.sub (jsb_c rfl (jsb_c rfl (jsb_c rfl (jsb_c rfl (jsb_c rfl (jsb_c rfl jsb_n)))))) (k30 l3 l4 l5 l6 l7 h (by omega) (jr_of rfl (by omega)) (jr_of rfl (by omega)) (jr_mod rfl (by omega)) (jr_of rfl (by omega)) (jr_of rfl (by omega)) (jr_of rfl (by omega)) (by omega) (by omega) J Sm D)
set_option maxRecDepth 100000 in
set_option maxHeartbeats 4000000 in
theorem ct_X12_fold_r125d_134 {Dy : jH → Prop} {h0 : jH} {Q : Option Value → jH → Prop} {dr : jW} {K30 : Int → Int → Int → Int → Int → jW → jW} {R30 : Int} (hD : jDk Dy) (hQ : ∀ hx9, jJ jSgM Dy hx9 → jSm fp_X12_fold_r125d h0 hx9 → dr = vw hx9 → Q none hx9) (k30 : ∀ (l3 : Int32) (l4 : Int32) (l5 : Int32) (l6 : Int32) (l7 : Int32) (h : jH), 14 - l7.toInt < R30 → 0 ≤ l3.toInt ∧ l3.toInt ≤ 1 → 26 ≤ l4.toInt ∧ l4.toInt ≤ 18006 → l4.toInt % 2 = 0 → 0 ≤ l5.toInt ∧ l5.toInt ≤ 15 → 0 ≤ l6.toInt ∧ l6.toInt ≤ 36 → 0 ≤ l7.toInt ∧ l7.toInt ≤ 14 → (l4.toInt % 90 = 6 ∨ l4.toInt % 90 = 26 ∨ l4.toInt % 90 = 40 ∨ l4.toInt % 90 = 54 ∨ l4.toInt % 90 = 68 ∨ l4.toInt % 90 = 82) → (l6.toInt ≤ 3 * l7.toInt ∧ l6.toInt ≤ 36) → jJ jSgM Dy h → jSm fp_X12_fold_r125d h0 h → K30 l3.toInt l4.toInt l5.toInt l6.toInt l7.toInt (vw h) = dr → jX m_X12_fold 3 0 0 30 [(0, .ref 125), (3, .int l3), (4, .int l4), (5, .int l5), (6, .int l6), (7, .int l7)] [] h 0 0 Q) : ∀ r : Nat, ∀ (l3 : Int32) (l4 : Int32) (l5 : Int32) (l6 : Int32) (l7 : Int32) (l8 : Int32) (l9 : Int32) (g0 : Int32) (h : jH), 36 - l6.toInt < (r : Int) → 0 ≤ l3.toInt ∧ l3.toInt ≤ 1 → 26 ≤ l4.toInt ∧ l4.toInt ≤ 18006 → l4.toInt % 2 = 0 → 0 ≤ l5.toInt ∧ l5.toInt ≤ 15 → 0 ≤ l6.toInt ∧ l6.toInt ≤ 36 → 0 ≤ l7.toInt ∧ l7.toInt ≤ 11 → 0 ≤ l8.toInt ∧ l8.toInt ≤ 7 → 0 ≤ l9.toInt ∧ l9.toInt ≤ 3 → 1 ≤ g0.toInt ∧ g0.toInt ≤ 8 → (l4.toInt % 90 = 6 ∨ l4.toInt % 90 = 26 ∨ l4.toInt % 90 = 40 ∨ l4.toInt % 90 = 54 ∨ l4.toInt % 90 = 68 ∨ l4.toInt % 90 = 82) → l6.toInt ≤ 3 * l7.toInt + l9.toInt → l8.toInt - g0.toInt ≤ (-1) → jiv h 132 l5.toNatClampNeg = g0 → 14 - l7.toInt ≤ R30 → jJ jSgM Dy h → jSm fp_X12_fold_r125d h0 h → d_X12_fold_r125d_134 K30 r l3.toInt l4.toInt l5.toInt l6.toInt l7.toInt l8.toInt l9.toInt (vw h) = dr → jX m_X12_fold 3 0 0 134 [(0, .ref 125), (3, .int l3), (4, .int l4), (5, .int l5), (6, .int l6), (7, .int l7), (8, .int l8), (9, .int l9)] [] h 0 0 Q := by
  intro r
  induction r with
  | zero =>
    intro l3 l4 l5 l6 l7 l8 l9 g0 h hm y0 y1 y2 y3 y4 y5 y6 y7 y8 y9 y10 y11 z0 m30 J Sm D
    exfalso
    omega
  | succ r ih =>
    intro l3 l4 l5 l6 l7 l8 l9 g0 h hm y0 y1 y2 y3 y4 y5 y6 y7 y8 y9 y10 y11 z0 m30 J Sm D
    rw [d_X12_fold_r125d_134.eq_2] at D
    refine x_iload (x := l9) rfl rfl ?_
    refine x_aloadn (x := 125) rfl rfl ?_
    refine z_getR (N := 92) (b := 133) 12 16 rfl f_12_39 rfl J rfl 16016 ⟨rfl, rfl⟩ rfl ?_
    refine x_bipush (v := 16) rfl kb_16 ?_
    refine x_iload (x := l5) rfl rfl ?_
    refine z_imul rfl jk_16 rfl (by omega) (fun v1 ev1 => ?_)
    refine x_iconst (v := 2) rfl ki_2 ?_
    refine x_iload (x := l8) rfl rfl ?_
    refine z_imul rfl jk_2 rfl (by omega) (fun v2 ev2 => ?_)
    refine z_iadd rfl rfl rfl (by omega) (fun v3 ev3 => ?_)
    refine x_iconst (v := 1) rfl ki_1 ?_
    refine z_iadd rfl rfl jk_1 (by omega) (fun v4 ev4 => ?_)
    refine z_iald (N := 256) rfl J rfl sg_133_0_256_1_0_1 rfl (by omega) (fun v5 qv5 ev5 => ?_)
    try rw [vrd qv5 (show (((16 * l5.toInt) + (2 * l8.toInt)) + 1) = v4.toInt from by omega)] at D
    refine x_icge (tgt := 198) rfl rfl (ti_ge rfl rfl ⟨fun c6 => ?_, fun c6 => ?_⟩)
    ·
      rw [if_pos (by omega)] at D
      refine x_iload (x := l7) rfl rfl ?_
      refine x_aloadn (x := 125) rfl rfl ?_
      refine z_getR (N := 92) (b := 133) 12 16 rfl f_12_39 rfl J rfl 16016 ⟨rfl, rfl⟩ rfl ?_
      refine x_bipush (v := 16) rfl kb_16 ?_
      refine x_iload (x := l5) rfl rfl ?_
      refine z_imul rfl jk_16 rfl (by omega) (fun v7 ev7 => ?_)
      refine x_iconst (v := 2) rfl ki_2 ?_
      refine x_iload (x := l8) rfl rfl ?_
      refine z_imul rfl jk_2 rfl (by omega) (fun v8 ev8 => ?_)
      refine z_iadd rfl rfl rfl (by omega) (fun v9 ev9 => ?_)
      refine z_iald (N := 256) rfl J rfl sg_133_0_256_1_0_1 rfl (by omega) (fun v10 qv10 ev10 => ?_)
      try rw [vrd qv10 (show ((16 * l5.toInt) + (2 * l8.toInt)) = v9.toInt from by omega)] at D
      have sv10 := jspl_at (p := l8.toInt) hD J (by omega) (by omega) (by omega) z0 qv10
      refine z_iadd rfl rfl rfl (by omega) (fun v11 ev11 => ?_)
      refine x_istore (lsx9 := [(7, .int v11), (0, .ref 125), (3, .int l3), (4, .int l4), (5, .int l5), (6, .int l6), (8, .int l8), (9, .int l9)]) rfl rfl rfl ?_
      try rw [show (l7.toInt + v10.toInt) = v11.toInt from by omega] at D
      exact jX.sub (jsb_c rfl (jsb_c rfl (jsb_c rfl (jsb_c rfl (jsb_c rfl (jsb_c rfl jsb_n)))))) (ct_X12_fold_r125d_218 hD hQ k30 l3 l4 l5 l6 v11 h (jr_of rfl (by omega)) (jr_of rfl (by omega)) (jr_mod rfl (by omega)) (jr_of rfl (by omega)) (jr_of rfl (by omega)) (jr_of rfl (by omega)) (by omega) (by omega) (by omega) J Sm D)
    ·
      rw [if_neg (by omega)] at D
      refine x_aloadn (x := 125) rfl rfl ?_
      refine z_getR (N := 92) (b := 137) 12 21 rfl f_12_51 rfl J rfl 16021 ⟨rfl, rfl⟩ rfl ?_
      refine x_bipush (v := 40) rfl kb_40 ?_
      refine x_iloadn (x := l3) rfl rfl ?_
      refine z_imul rfl jk_40 rfl (by omega) (fun v12 ev12 => ?_)
      refine x_iload (x := l6) rfl rfl ?_
      refine z_iadd rfl rfl rfl (by omega) (fun v13 ev13 => ?_)
      refine x_aloadn (x := 125) rfl rfl ?_
      refine z_getR (N := 92) (b := 134) 12 17 rfl f_12_42 rfl J rfl 16017 ⟨rfl, rfl⟩ rfl ?_
      refine x_bipush (v := 48) rfl kb_48 ?_
      refine x_iload (x := l5) rfl rfl ?_
      refine z_imul rfl jk_48 rfl (by omega) (fun v14 ev14 => ?_)
      refine x_bipush (v := 6) rfl kb_6 ?_
      refine x_iload (x := l8) rfl rfl ?_
      refine z_imul rfl jk_6 rfl (by omega) (fun v15 ev15 => ?_)
      refine z_iadd rfl rfl rfl (by omega) (fun v16 ev16 => ?_)
      refine x_iconst (v := 3) rfl ki_3 ?_
      refine z_iadd rfl rfl jk_3 (by omega) (fun v17 ev17 => ?_)
      refine x_iload (x := l9) rfl rfl ?_
      refine z_iadd rfl rfl rfl (by omega) (fun v18 ev18 => ?_)
      refine z_iald (N := 768) rfl J rfl sg_134_0_768_1_0_1 rfl (by omega) (fun v19 qv19 ev19 => ?_)
      try rw [vrd qv19 (show ((((48 * l5.toInt) + (6 * l8.toInt)) + 3) + l9.toInt) = v18.toInt from by omega)] at D
      refine z_iast (N := 80) (l := 0) (u := 80) (w := v19.toInt) rfl hD J Sm rfl rfl rfl (by omega) rfl (wr_137 (fun q1 q2 q3 q4 => by omega)) rfl (fun h w20 J Sm => ?_)
      rw [vww w20 (show ((40 * l3.toInt) + l6.toInt) = v13.toInt from by omega) (show v19.toInt = v19.toInt from by omega)] at D
      refine z_iinc (x := l6) (lsx9 := fun v21 => [(6, .int v21), (0, .ref 125), (3, .int l3), (4, .int l4), (5, .int l5), (7, .int l7), (8, .int l8), (9, .int l9)]) rfl rfl rfl jko_1 (by omega) rfl (fun _ => rfl) (fun v21 ev21 => ?_)
      refine z_iinc (x := l9) (lsx9 := fun v22 => [(9, .int v22), (6, .int v21), (0, .ref 125), (3, .int l3), (4, .int l4), (5, .int l5), (7, .int l7), (8, .int l8)]) rfl rfl rfl jko_1 (by omega) rfl (fun _ => rfl) (fun v22 ev22 => ?_)
      refine x_goto (tgt := 134) rfl rfl ?_
      try rw [show (l6.toInt + 1) = v21.toInt from by omega] at D
      try rw [show (l9.toInt + 1) = v22.toInt from by omega] at D
      exact jX.sub (jsb_c rfl (jsb_c rfl (jsb_c rfl (jsb_c rfl (jsb_c rfl (jsb_c rfl (jsb_c rfl (jsb_c rfl jsb_n)))))))) (ih l3 l4 l5 v21 l7 l8 v22 g0 h (by omega) (jr_of rfl (by omega)) (jr_of rfl (by omega)) (jr_mod rfl (by omega)) (jr_of rfl (by omega)) (jr_of rfl (by omega)) (jr_of rfl (by omega)) (jr_of rfl (by omega)) (jr_of rfl (by omega)) (jr_of rfl (by omega)) (by omega) (by omega) (by omega) (jmo w20 rfl z0) (by omega) J Sm D)
set_option maxRecDepth 100000 in
set_option maxHeartbeats 4000000 in
theorem ct_X12_fold_r125d_85 {Dy : jH → Prop} {h0 : jH} {Q : Option Value → jH → Prop} {dr : jW} {K30 : Int → Int → Int → Int → Int → jW → jW} {K56 : Int → Int → Int → Int → Int → Int → Int → jW → jW} {R30 : Int} {R56 : Int} (hD : jDk Dy) (hQ : ∀ hx9, jJ jSgM Dy hx9 → jSm fp_X12_fold_r125d h0 hx9 → dr = vw hx9 → Q none hx9) (k30 : ∀ (l3 : Int32) (l4 : Int32) (l5 : Int32) (l6 : Int32) (l7 : Int32) (h : jH), 14 - l7.toInt < R30 → 0 ≤ l3.toInt ∧ l3.toInt ≤ 1 → 26 ≤ l4.toInt ∧ l4.toInt ≤ 18006 → l4.toInt % 2 = 0 → 0 ≤ l5.toInt ∧ l5.toInt ≤ 15 → 0 ≤ l6.toInt ∧ l6.toInt ≤ 36 → 0 ≤ l7.toInt ∧ l7.toInt ≤ 14 → (l4.toInt % 90 = 6 ∨ l4.toInt % 90 = 26 ∨ l4.toInt % 90 = 40 ∨ l4.toInt % 90 = 54 ∨ l4.toInt % 90 = 68 ∨ l4.toInt % 90 = 82) → (l6.toInt ≤ 3 * l7.toInt ∧ l6.toInt ≤ 36) → jJ jSgM Dy h → jSm fp_X12_fold_r125d h0 h → K30 l3.toInt l4.toInt l5.toInt l6.toInt l7.toInt (vw h) = dr → jX m_X12_fold 3 0 0 30 [(0, .ref 125), (3, .int l3), (4, .int l4), (5, .int l5), (6, .int l6), (7, .int l7)] [] h 0 0 Q) (k56 : ∀ (l3 : Int32) (l4 : Int32) (l5 : Int32) (l6 : Int32) (l7 : Int32) (l8 : Int32) (l9 : Int32) (g0 : Int32) (h : jH), l9.toInt - (-1) < R56 → 0 ≤ l3.toInt ∧ l3.toInt ≤ 1 → 26 ≤ l4.toInt ∧ l4.toInt ≤ 18006 → l4.toInt % 2 = 0 → 0 ≤ l5.toInt ∧ l5.toInt ≤ 15 → 0 ≤ l6.toInt ∧ l6.toInt ≤ 33 → 0 ≤ l7.toInt ∧ l7.toInt ≤ 11 → (-1) ≤ l8.toInt ∧ l8.toInt ≤ 7 → (-1) ≤ l9.toInt ∧ l9.toInt ≤ 7 → 0 ≤ g0.toInt ∧ g0.toInt ≤ 8 → (l4.toInt % 90 = 6 ∨ l4.toInt % 90 = 26 ∨ l4.toInt % 90 = 40 ∨ l4.toInt % 90 = 54 ∨ l4.toInt % 90 = 68 ∨ l4.toInt % 90 = 82) → (l6.toInt ≤ 3 * l7.toInt ∧ l6.toInt ≤ 36) → l8.toInt - g0.toInt ≤ (-1) → l9.toInt - g0.toInt ≤ (-1) → jiv h 132 l5.toNatClampNeg = g0 → 14 - l7.toInt ≤ R30 → jJ jSgM Dy h → jSm fp_X12_fold_r125d h0 h → K56 l3.toInt l4.toInt l5.toInt l6.toInt l7.toInt l8.toInt l9.toInt (vw h) = dr → jX m_X12_fold 3 0 0 56 [(0, .ref 125), (3, .int l3), (4, .int l4), (5, .int l5), (6, .int l6), (7, .int l7), (8, .int l8), (9, .int l9)] [] h 0 0 Q) : ∀ (l3 : Int32) (l4 : Int32) (l5 : Int32) (l6 : Int32) (l7 : Int32) (l9 : Int32) (s0 : Int32) (g0 : Int32) (h : jH), 0 ≤ l3.toInt ∧ l3.toInt ≤ 1 → 26 ≤ l4.toInt ∧ l4.toInt ≤ 18006 → l4.toInt % 2 = 0 → 0 ≤ l5.toInt ∧ l5.toInt ≤ 15 → 0 ≤ l6.toInt ∧ l6.toInt ≤ 33 → 0 ≤ l7.toInt ∧ l7.toInt ≤ 11 → 0 ≤ l9.toInt ∧ l9.toInt ≤ 7 → (-1) ≤ s0.toInt ∧ s0.toInt ≤ 7 → 1 ≤ g0.toInt ∧ g0.toInt ≤ 8 → (l4.toInt % 90 = 6 ∨ l4.toInt % 90 = 26 ∨ l4.toInt % 90 = 40 ∨ l4.toInt % 90 = 54 ∨ l4.toInt % 90 = 68 ∨ l4.toInt % 90 = 82) → (l6.toInt ≤ 3 * l7.toInt ∧ l6.toInt ≤ 36) → l9.toInt - g0.toInt ≤ (-1) → s0.toInt - g0.toInt ≤ (-1) → jiv h 132 l5.toNatClampNeg = g0 → 14 - l7.toInt ≤ R30 → l9.toInt - (-1) ≤ R56 → jJ jSgM Dy h → jSm fp_X12_fold_r125d h0 h → d_X12_fold_r125d_85 K30 K56  l3.toInt l4.toInt l5.toInt l6.toInt l7.toInt l9.toInt s0.toInt (vw h) = dr → jX m_X12_fold 3 0 0 85 [(0, .ref 125), (3, .int l3), (4, .int l4), (5, .int l5), (6, .int l6), (7, .int l7), (9, .int l9)] [.int s0] h 0 0 Q := by
  intro l3 l4 l5 l6 l7 l9 s0 g0 h y0 y1 y2 y3 y4 y5 y6 y7 y8 y9 y10 y11 y12 z0 m30 m56 J Sm D
  unfold d_X12_fold_r125d_85 at D
  refine x_istore (lsx9 := [(8, .int s0), (0, .ref 125), (3, .int l3), (4, .int l4), (5, .int l5), (6, .int l6), (7, .int l7), (9, .int l9)]) rfl rfl rfl ?_
  refine z_iinc (x := l9) (lsx9 := fun v1 => [(9, .int v1), (8, .int s0), (0, .ref 125), (3, .int l3), (4, .int l4), (5, .int l5), (6, .int l6), (7, .int l7)]) rfl rfl rfl jko_m1 (by omega) rfl (fun _ => rfl) (fun v1 ev1 => ?_)
  refine x_goto (tgt := 56) rfl rfl ?_
  try rw [show (l9.toInt + (-1)) = v1.toInt from by omega] at D
  exact jX.sub (jsb_c rfl (jsb_c rfl (jsb_c rfl (jsb_c rfl (jsb_c rfl (jsb_c rfl (jsb_c rfl (jsb_c rfl jsb_n)))))))) (k56 l3 l4 l5 l6 l7 s0 v1 g0 h (by omega) (jr_of rfl (by omega)) (jr_of rfl (by omega)) (jr_mod rfl (by omega)) (jr_of rfl (by omega)) (jr_of rfl (by omega)) (jr_of rfl (by omega)) (jr_of rfl (by omega)) (jr_of rfl (by omega)) (jr_of rfl (by omega)) (by omega) (by omega) (by omega) (by omega) z0 (by omega) J Sm D)
set_option maxRecDepth 100000 in
set_option maxHeartbeats 4000000 in
theorem ct_X12_fold_r125d_56 {Dy : jH → Prop} {h0 : jH} {Q : Option Value → jH → Prop} {dr : jW} {K30 : Int → Int → Int → Int → Int → jW → jW} {R30 : Int} (hD : jDk Dy) (hQ : ∀ hx9, jJ jSgM Dy hx9 → jSm fp_X12_fold_r125d h0 hx9 → dr = vw hx9 → Q none hx9) (k30 : ∀ (l3 : Int32) (l4 : Int32) (l5 : Int32) (l6 : Int32) (l7 : Int32) (h : jH), 14 - l7.toInt < R30 → 0 ≤ l3.toInt ∧ l3.toInt ≤ 1 → 26 ≤ l4.toInt ∧ l4.toInt ≤ 18006 → l4.toInt % 2 = 0 → 0 ≤ l5.toInt ∧ l5.toInt ≤ 15 → 0 ≤ l6.toInt ∧ l6.toInt ≤ 36 → 0 ≤ l7.toInt ∧ l7.toInt ≤ 14 → (l4.toInt % 90 = 6 ∨ l4.toInt % 90 = 26 ∨ l4.toInt % 90 = 40 ∨ l4.toInt % 90 = 54 ∨ l4.toInt % 90 = 68 ∨ l4.toInt % 90 = 82) → (l6.toInt ≤ 3 * l7.toInt ∧ l6.toInt ≤ 36) → jJ jSgM Dy h → jSm fp_X12_fold_r125d h0 h → K30 l3.toInt l4.toInt l5.toInt l6.toInt l7.toInt (vw h) = dr → jX m_X12_fold 3 0 0 30 [(0, .ref 125), (3, .int l3), (4, .int l4), (5, .int l5), (6, .int l6), (7, .int l7)] [] h 0 0 Q) : ∀ r : Nat, ∀ (l3 : Int32) (l4 : Int32) (l5 : Int32) (l6 : Int32) (l7 : Int32) (l8 : Int32) (l9 : Int32) (g0 : Int32) (h : jH), l9.toInt - (-1) < (r : Int) → 0 ≤ l3.toInt ∧ l3.toInt ≤ 1 → 26 ≤ l4.toInt ∧ l4.toInt ≤ 18006 → l4.toInt % 2 = 0 → 0 ≤ l5.toInt ∧ l5.toInt ≤ 15 → 0 ≤ l6.toInt ∧ l6.toInt ≤ 33 → 0 ≤ l7.toInt ∧ l7.toInt ≤ 11 → (-1) ≤ l8.toInt ∧ l8.toInt ≤ 7 → (-1) ≤ l9.toInt ∧ l9.toInt ≤ 7 → 0 ≤ g0.toInt ∧ g0.toInt ≤ 8 → (l4.toInt % 90 = 6 ∨ l4.toInt % 90 = 26 ∨ l4.toInt % 90 = 40 ∨ l4.toInt % 90 = 54 ∨ l4.toInt % 90 = 68 ∨ l4.toInt % 90 = 82) → (l6.toInt ≤ 3 * l7.toInt ∧ l6.toInt ≤ 36) → l8.toInt - g0.toInt ≤ (-1) → l9.toInt - g0.toInt ≤ (-1) → jiv h 132 l5.toNatClampNeg = g0 → 14 - l7.toInt ≤ R30 → jJ jSgM Dy h → jSm fp_X12_fold_r125d h0 h → d_X12_fold_r125d_56 K30 r l3.toInt l4.toInt l5.toInt l6.toInt l7.toInt l8.toInt l9.toInt (vw h) = dr → jX m_X12_fold 3 0 0 56 [(0, .ref 125), (3, .int l3), (4, .int l4), (5, .int l5), (6, .int l6), (7, .int l7), (8, .int l8), (9, .int l9)] [] h 0 0 Q := by
  intro r
  induction r with
  | zero =>
    intro l3 l4 l5 l6 l7 l8 l9 g0 h hm y0 y1 y2 y3 y4 y5 y6 y7 y8 y9 y10 y11 y12 z0 m30 J Sm D
    exfalso
    omega
  | succ r ih =>
    intro l3 l4 l5 l6 l7 l8 l9 g0 h hm y0 y1 y2 y3 y4 y5 y6 y7 y8 y9 y10 y11 y12 z0 m30 J Sm D
    rw [d_X12_fold_r125d_56.eq_2] at D
    refine x_iload (x := l9) rfl rfl ?_
    refine x_iflt (tgt := 93) rfl rfl (ti_lt rfl jk_0 ⟨fun c1 => ?_, fun c1 => ?_⟩)
    ·
      rw [if_pos (by omega)] at D
      refine x_iload (x := l8) rfl rfl ?_
      refine x_ifge (tgt := 131) rfl rfl (ti_ge rfl jk_0 ⟨fun c2 => ?_, fun c2 => ?_⟩)
      ·
        rw [if_pos (by omega)] at D
        refine x_iconst (v := 0) rfl ki_0 ?_
        refine x_istore (lsx9 := [(9, .int 0), (0, .ref 125), (3, .int l3), (4, .int l4), (5, .int l5), (6, .int l6), (7, .int l7), (8, .int l8)]) rfl rfl rfl ?_
        exact jX.sub (jsb_c rfl (jsb_c rfl (jsb_c rfl (jsb_c rfl (jsb_c rfl (jsb_c rfl (jsb_c rfl (jsb_c rfl jsb_n)))))))) (ct_X12_fold_r125d_134 hD hQ k30 37 l3 l4 l5 l6 l7 l8 0 g0 h (by omega) (jr_of rfl (by omega)) (jr_of rfl (by omega)) (jr_mod rfl (by omega)) (jr_of rfl (by omega)) (jr_of rfl (by omega)) (jr_of rfl (by omega)) (jr_of rfl (by omega)) (jr_of jk_0 (by omega)) (jr_of rfl (by omega)) (by omega) (by have := jk_0; omega) (by omega) z0 (by omega) J Sm (by rw [jk_0]; exact D))
      ·
        rw [if_neg (by omega)] at D
        refine x_aloadn (x := 125) rfl rfl ?_
        refine z_getR (N := 92) (b := 137) 12 21 rfl f_12_51 rfl J rfl 16021 ⟨rfl, rfl⟩ rfl ?_
        refine x_bipush (v := 40) rfl kb_40 ?_
        refine x_iloadn (x := l3) rfl rfl ?_
        refine z_imul rfl jk_40 rfl (by omega) (fun v3 ev3 => ?_)
        refine x_iload (x := l6) rfl rfl ?_
        refine z_iadd rfl rfl rfl (by omega) (fun v4 ev4 => ?_)
        refine x_aloadn (x := 125) rfl rfl ?_
        refine z_getR (N := 92) (b := 126) 12 2 rfl f_12_8 rfl J rfl 16002 ⟨rfl, rfl⟩ rfl ?_
        refine x_iload (x := l4) rfl rfl ?_
        refine x_iconst (v := 2) rfl ki_2 ?_
        refine z_iadd rfl rfl jk_2 (by omega) (fun v5 ev5 => ?_)
        refine x_iload (x := l7) rfl rfl ?_
        refine z_iadd rfl rfl rfl (by omega) (fun v6 ev6 => ?_)
        refine z_ialdU (N := 50660) (lo := 0) (hi := 255) rfl J rfl rfl (by omega) ((show (8 ≤ (v6.toInt - 20) % 90 ∧ (v6.toInt - 20) % 90 < 20) ∨ (22 ≤ (v6.toInt - 20) % 90 ∧ (v6.toInt - 20) % 90 < 34) ∨ (36 ≤ (v6.toInt - 20) % 90 ∧ (v6.toInt - 20) % 90 < 48) ∨ (50 ≤ (v6.toInt - 20) % 90 ∧ (v6.toInt - 20) % 90 < 62) ∨ (64 ≤ (v6.toInt - 20) % 90 ∧ (v6.toInt - 20) % 90 < 76) ∨ (78 ≤ (v6.toInt - 20) % 90 ∧ (v6.toInt - 20) % 90 < 90) from by omega).elim (fun q => (jrg_w (jrg_c J sg_126_20_18020_90_8_20 rfl (by omega)) (by decide))) (fun q => q.elim (fun q => (jrg_w (jrg_c J sg_126_20_18020_90_22_34 rfl (by omega)) (by decide))) (fun q => q.elim (fun q => (jrg_w (jrg_c J sg_126_20_18020_90_36_48 rfl (by omega)) (by decide))) (fun q => q.elim (fun q => (jrg_w (jrg_c J sg_126_20_18020_90_50_62 rfl (by omega)) (by decide))) (fun q => q.elim (fun q => (jrg_w (jrg_c J sg_126_20_18020_90_64_76 rfl (by omega)) (by decide))) (fun q => (jrg_w (jrg_c J sg_126_20_18020_90_78_90 rfl (by omega)) (by decide)))))))) (fun v7 qv7 ev7 => ?_)
        try rw [vrd qv7 (show ((l4.toInt + 2) + l7.toInt) = v6.toInt from by omega)] at D
        refine z_iast (N := 80) (l := 0) (u := 80) (w := v7.toInt) rfl hD J Sm rfl rfl rfl (by omega) rfl (wr_137 (fun q1 q2 q3 q4 => by omega)) rfl (fun h w8 J Sm => ?_)
        rw [vww w8 (show ((40 * l3.toInt) + l6.toInt) = v4.toInt from by omega) (show v7.toInt = v7.toInt from by omega)] at D
        refine z_iinc (x := l6) (lsx9 := fun v9 => [(6, .int v9), (0, .ref 125), (3, .int l3), (4, .int l4), (5, .int l5), (7, .int l7), (8, .int l8), (9, .int l9)]) rfl rfl rfl jko_1 (by omega) rfl (fun _ => rfl) (fun v9 ev9 => ?_)
        refine z_iinc (x := l7) (lsx9 := fun v10 => [(7, .int v10), (6, .int v9), (0, .ref 125), (3, .int l3), (4, .int l4), (5, .int l5), (8, .int l8), (9, .int l9)]) rfl rfl rfl jko_1 (by omega) rfl (fun _ => rfl) (fun v10 ev10 => ?_)
        refine x_goto (tgt := 218) rfl rfl ?_
        try rw [show (l6.toInt + 1) = v9.toInt from by omega] at D
        try rw [show (l7.toInt + 1) = v10.toInt from by omega] at D
        exact jX.sub (jsb_c rfl (jsb_c rfl (jsb_c rfl (jsb_c rfl (jsb_c rfl (jsb_c rfl jsb_n)))))) (ct_X12_fold_r125d_218 hD hQ k30 l3 l4 l5 v9 v10 h (jr_of rfl (by omega)) (jr_of rfl (by omega)) (jr_mod rfl (by omega)) (jr_of rfl (by omega)) (jr_of rfl (by omega)) (jr_of rfl (by omega)) (by omega) (by omega) (by omega) J Sm D)
    ·
      rw [if_neg (by omega)] at D
      refine x_aloadn (x := 125) rfl rfl ?_
      refine x_iload (x := l4) rfl rfl ?_
      refine x_iload (x := l7) rfl rfl ?_
      refine x_iload (x := l5) rfl rfl ?_
      refine x_iconst (v := 2) rfl ki_2 ?_
      refine x_iload (x := l9) rfl rfl ?_
      refine z_imul rfl jk_2 rfl (by omega) (fun v11 ev11 => ?_)
      try rw [show (2 * l9.toInt) = v11.toInt from by omega] at D
      refine x_inv (N := m_X12_stands) (As := [.int l4, .int l7, .int l5, .int v11]) (b := 125) (st := []) (dx9 := 1) (mc := 0) (ms := 0) (host := "") 12 rfl t_X12_stands ⟨Or.inl q_12_318, i_X12_stands.1, i_X12_stands.2⟩ ⟨by decide, rfl⟩ (congrArg Prod.fst (J.1.1 125 (12, 92) rfl)) rfl (by decide) rfl rfl ⟨by decide, by decide⟩ (sf_X12_stands_r125d (jr_of rfl (by omega)) (jr_mod rfl (by omega)) (by omega) (jr_of rfl (by omega)) (jr_of rfl (by omega)) (jr_of rfl (by omega)) (jr_mod rfl (by omega)) hD J rfl  (fun v15 h ev15 J S12 X13 X14 => ?_))
      have Sm := jSm_tr rfl Sm S12
      try rw [X13] at D
      try rw [← X14] at D
      show jX m_X12_fold 3 0 0 75 [(0, .ref 125), (3, .int l3), (4, .int l4), (5, .int l5), (6, .int l6), (7, .int l7), (8, .int l8), (9, .int l9)] [.int v15] _ 0 0 _
      refine x_ifeq (tgt := 83) rfl rfl (ti_eq rfl jk_0 ⟨fun c16 => ?_, fun c16 => ?_⟩)
      ·
        rw [if_pos (by omega)] at D
        refine x_iload (x := l8) rfl rfl ?_
        exact jX.sub (jsb_c rfl (jsb_c rfl (jsb_c rfl (jsb_c rfl (jsb_c rfl (jsb_c rfl (jsb_c rfl jsb_n))))))) (ct_X12_fold_r125d_85 hD hQ k30 ih l3 l4 l5 l6 l7 l9 l8 g0 h (jr_of rfl (by omega)) (jr_of rfl (by omega)) (jr_mod rfl (by omega)) (jr_of rfl (by omega)) (jr_of rfl (by omega)) (jr_of rfl (by omega)) (jr_of rfl (by omega)) (jr_of rfl (by omega)) (jr_of rfl (by omega)) (by omega) (by omega) (by omega) (by omega) (jmc S12 rfl z0) (by omega) (by omega) J Sm D)
      ·
        rw [if_neg (by omega)] at D
        refine x_iload (x := l9) rfl rfl ?_
        refine x_goto (tgt := 85) rfl rfl ?_
        exact jX.sub (jsb_c rfl (jsb_c rfl (jsb_c rfl (jsb_c rfl (jsb_c rfl (jsb_c rfl (jsb_c rfl jsb_n))))))) (ct_X12_fold_r125d_85 hD hQ k30 ih l3 l4 l5 l6 l7 l9 l9 g0 h (jr_of rfl (by omega)) (jr_of rfl (by omega)) (jr_mod rfl (by omega)) (jr_of rfl (by omega)) (jr_of rfl (by omega)) (jr_of rfl (by omega)) (jr_of rfl (by omega)) (jr_of rfl (by omega)) (jr_of rfl (by omega)) (by omega) (by omega) (by omega) (by omega) (jmc S12 rfl z0) (by omega) (by omega) J Sm D)
set_option maxRecDepth 100000 in
set_option maxHeartbeats 4000000 in
theorem ct_X12_fold_r125d_30 {Dy : jH → Prop} {h0 : jH} {Q : Option Value → jH → Prop} {dr : jW} (hD : jDk Dy) (hQ : ∀ hx9, jJ jSgM Dy hx9 → jSm fp_X12_fold_r125d h0 hx9 → dr = vw hx9 → Q none hx9) : ∀ r : Nat, ∀ (l3 : Int32) (l4 : Int32) (l5 : Int32) (l6 : Int32) (l7 : Int32) (h : jH), 14 - l7.toInt < (r : Int) → 0 ≤ l3.toInt ∧ l3.toInt ≤ 1 → 26 ≤ l4.toInt ∧ l4.toInt ≤ 18006 → l4.toInt % 2 = 0 → 0 ≤ l5.toInt ∧ l5.toInt ≤ 15 → 0 ≤ l6.toInt ∧ l6.toInt ≤ 36 → 0 ≤ l7.toInt ∧ l7.toInt ≤ 14 → (l4.toInt % 90 = 6 ∨ l4.toInt % 90 = 26 ∨ l4.toInt % 90 = 40 ∨ l4.toInt % 90 = 54 ∨ l4.toInt % 90 = 68 ∨ l4.toInt % 90 = 82) → (l6.toInt ≤ 3 * l7.toInt ∧ l6.toInt ≤ 36) → jJ jSgM Dy h → jSm fp_X12_fold_r125d h0 h → d_X12_fold_r125d_30 r l3.toInt l4.toInt l5.toInt l6.toInt l7.toInt (vw h) = dr → jX m_X12_fold 3 0 0 30 [(0, .ref 125), (3, .int l3), (4, .int l4), (5, .int l5), (6, .int l6), (7, .int l7)] [] h 0 0 Q := by
  intro r
  induction r with
  | zero =>
    intro l3 l4 l5 l6 l7 h hm y0 y1 y2 y3 y4 y5 y6 y7   J Sm D
    exfalso
    omega
  | succ r ih =>
    intro l3 l4 l5 l6 l7 h hm y0 y1 y2 y3 y4 y5 y6 y7   J Sm D
    rw [d_X12_fold_r125d_30.eq_2] at D
    refine x_iload (x := l7) rfl rfl ?_
    refine x_aloadn (x := 125) rfl rfl ?_
    refine z_getR (N := 92) (b := 126) 12 2 rfl f_12_8 rfl J rfl 16002 ⟨rfl, rfl⟩ rfl ?_
    refine x_iload (x := l4) rfl rfl ?_
    refine z_ialdU (N := 50660) (lo := 0) (hi := 12) rfl J rfl rfl (by omega) ((show (l4.toInt - 20) % 90 = 6 ∨ (l4.toInt - 20) % 90 = 20 ∨ (l4.toInt - 20) % 90 = 34 ∨ (l4.toInt - 20) % 90 = 48 ∨ (l4.toInt - 20) % 90 = 62 ∨ (l4.toInt - 20) % 90 = 76 from by omega).elim (fun q => (jrg_w (jrg_c J sg_126_20_18020_90_6_7 rfl (by omega)) (by decide))) (fun q => q.elim (fun q => (jrg_w (jrg_c J sg_126_20_18020_90_20_21 rfl (by omega)) (by decide))) (fun q => q.elim (fun q => (jrg_w (jrg_c J sg_126_20_18020_90_34_35 rfl (by omega)) (by decide))) (fun q => q.elim (fun q => (jrg_w (jrg_c J sg_126_20_18020_90_48_49 rfl (by omega)) (by decide))) (fun q => q.elim (fun q => (jrg_w (jrg_c J sg_126_20_18020_90_62_63 rfl (by omega)) (by decide))) (fun q => (jrg_w (jrg_c J sg_126_20_18020_90_76_77 rfl (by omega)) (by decide)))))))) (fun v1 qv1 ev1 => ?_)
    try rw [vrd qv1 (show l4.toInt = l4.toInt from by omega)] at D
    refine x_icge (tgt := 221) rfl rfl (ti_ge rfl rfl ⟨fun c2 => ?_, fun c2 => ?_⟩)
    ·
      rw [if_pos (by omega)] at D
      refine x_aloadn (x := 125) rfl rfl ?_
      refine z_getR (N := 92) (b := 138) 12 22 rfl f_12_54 rfl J rfl 16022 ⟨rfl, rfl⟩ rfl ?_
      refine x_iloadn (x := l3) rfl rfl ?_
      refine x_iload (x := l6) rfl rfl ?_
      refine z_iast (N := 2) (l := 0) (u := 2) (w := l6.toInt) rfl hD J Sm rfl rfl rfl (by omega) rfl (wr_138 (fun q1 q2 q3 q4 => by omega)) rfl (fun h w3 J Sm => ?_)
      rw [vww w3 (show l3.toInt = l3.toInt from by omega) (show l6.toInt = l6.toInt from by omega)] at D
      refine x_vret rfl rfl ?_
      exact hQ _ J Sm D.symm
    ·
      rw [if_neg (by omega)] at D
      refine x_iconst (v := (-1)) rfl ki_m1 ?_
      refine x_istore (lsx9 := [(8, .int (-1)), (0, .ref 125), (3, .int l3), (4, .int l4), (5, .int l5), (6, .int l6), (7, .int l7)]) rfl rfl rfl ?_
      refine x_aloadn (x := 125) rfl rfl ?_
      refine z_getR (N := 92) (b := 132) 12 15 rfl f_12_36 rfl J rfl 16015 ⟨rfl, rfl⟩ rfl ?_
      refine x_iload (x := l5) rfl rfl ?_
      refine z_iald (N := 16) rfl J rfl sg_132_0_16_1_0_1 rfl (by omega) (fun v4 qv4 ev4 => ?_)
      try rw [vrd qv4 (show l5.toInt = l5.toInt from by omega)] at D
      refine x_iconst (v := 1) rfl ki_1 ?_
      refine z_isub rfl rfl jk_1 (by omega) (fun v5 ev5 => ?_)
      refine x_istore (lsx9 := [(9, .int v5), (8, .int (-1)), (0, .ref 125), (3, .int l3), (4, .int l4), (5, .int l5), (6, .int l6), (7, .int l7)]) rfl rfl rfl ?_
      try rw [show (v4.toInt - 1) = v5.toInt from by omega] at D
      exact jX.sub (jsb_c rfl (jsb_c rfl (jsb_c rfl (jsb_c rfl (jsb_c rfl (jsb_c rfl (jsb_c rfl (jsb_c rfl jsb_n)))))))) (ct_X12_fold_r125d_56 hD hQ ih 9 l3 l4 l5 l6 l7 (-1) v5 v4 h (by omega) (jr_of rfl (by omega)) (jr_of rfl (by omega)) (jr_mod rfl (by omega)) (jr_of rfl (by omega)) (jr_of rfl (by omega)) (jr_of rfl (by omega)) (jr_of jk_m1 (by omega)) (jr_of rfl (by omega)) (jr_of rfl (by omega)) (by omega) (by omega) (by have := jk_m1; omega) (by omega) qv4 (by omega) J Sm (by rw [jk_m1]; exact D))
set_option maxRecDepth 100000 in
set_option maxHeartbeats 4000000 in
theorem sf_X12_fold_r125d {Dy : jH → Prop} {h : jH} {Q : Option Value → jH → Prop} {dr : jW} {a1 : Int32} {a2 : Int32} {a3 : Int32} (y1 : 0 ≤ a1.toInt ∧ a1.toInt ≤ 599) (y2 : 0 ≤ a2.toInt ∧ a2.toInt ≤ 1) (y3 : 0 ≤ a3.toInt ∧ a3.toInt ≤ 1) (hD : jDk Dy) (J : jJ jSgM Dy h) (D : d_X12_fold_r125d a1.toInt a2.toInt a3.toInt (vw h) = dr) (hQ : ∀ hx9, jJ jSgM Dy hx9 → jSm fp_X12_fold_r125d h hx9 → dr = vw hx9 → Q none hx9) : jC m_X12_fold 3 0 0 [.ref 125, .int a1, .int a2, .int a3] h Q := by
  refine jC.of rfl k_X12_fold rfl ?_
  have Sm := jSm_rf fp_X12_fold_r125d h
  show jX m_X12_fold 3 0 0 0 [(0, .ref 125), (1, .int a1), (2, .int a2), (3, .int a3)] [] _ 0 0 _
  unfold d_X12_fold_r125d at D
  refine x_aloadn (x := 125) rfl rfl ?_
  refine x_iloadn (x := a1) rfl rfl ?_
  refine x_iloadn (x := a2) rfl rfl ?_
  refine x_inv (N := m_X12_nameAt) (As := [.int a1, .int a2]) (b := 125) (st := []) (dx9 := 2) (mc := 0) (ms := 0) (host := "") 12 rfl t_X12_nameAt ⟨Or.inl q_12_311, i_X12_nameAt.1, i_X12_nameAt.2⟩ ⟨by decide, rfl⟩ (congrArg Prod.fst (J.1.1 125 (12, 92) rfl)) rfl (by decide) rfl rfl ⟨by decide, by decide⟩ (jC.of rfl k_X12_nameAt rfl ?_)
  show jX m_X12_nameAt 2 0 0 0 [(0, .ref 125), (1, .int a1), (2, .int a2)] [] _ 0 0 _
  refine x_aloadn (x := 125) rfl rfl ?_
  refine x_iloadn (x := a1) rfl rfl ?_
  refine x_iconst (v := 3) rfl ki_3 ?_
  refine z_idiv rfl rfl jk_3 (by omega) (by omega) (fun v1 ev1 => ?_)
  refine x_inv (N := m_X12_at) (As := [.int v1]) (b := 125) (st := []) (dx9 := 1) (mc := 0) (ms := 0) (host := "") 12 rfl t_X12_at ⟨Or.inl q_12_254, i_X12_at.1, i_X12_at.2⟩ ⟨by decide, rfl⟩ (congrArg Prod.fst (J.1.1 125 (12, 92) rfl)) rfl (by decide) rfl rfl ⟨by decide, by decide⟩ (jC.of rfl k_X12_at rfl ?_)
  show jX m_X12_at 1 0 0 0 [(0, .ref 125), (1, .int v1)] [] _ 0 0 _
  refine x_bipush (v := 20) rfl kb_20 ?_
  refine x_bipush (v := 90) rfl kb_90 ?_
  refine x_iloadn (x := v1) rfl rfl ?_
  refine z_imul rfl jk_90 rfl (by omega) (fun v2 ev2 => ?_)
  refine z_iadd rfl jk_20 rfl (by omega) (fun v3 ev3 => ?_)
  refine x_iret rfl rfl ?_
  show jX m_X12_nameAt 2 0 0 7 [(0, .ref 125), (1, .int a1), (2, .int a2)] [.int v3] _ 0 0 _
  refine x_bipush (v := 6) rfl kb_6 ?_
  refine z_iadd rfl rfl jk_6 (by omega) (fun v4 ev4 => ?_)
  refine x_bipush (v := 28) rfl kb_28 ?_
  refine x_iloadn (x := a1) rfl rfl ?_
  refine x_iconst (v := 3) rfl ki_3 ?_
  refine z_irem rfl rfl jk_3 (by omega) (by omega) (fun v5 ev5 => ?_)
  refine z_imul rfl jk_28 rfl (by omega) (fun v6 ev6 => ?_)
  refine z_iadd rfl rfl rfl (by omega) (fun v7 ev7 => ?_)
  refine x_bipush (v := 14) rfl kb_14 ?_
  refine x_iloadn (x := a2) rfl rfl ?_
  refine z_imul rfl jk_14 rfl (by omega) (fun v8 ev8 => ?_)
  refine z_iadd rfl rfl rfl (by omega) (fun v9 ev9 => ?_)
  have rnv9 := jnam (m := a1.toInt) (w := a2.toInt) (v := v9.toInt) (by omega) (by omega) (by omega)
  refine x_iret rfl rfl ?_
  show jX m_X12_fold 3 0 0 6 [(0, .ref 125), (1, .int a1), (2, .int a2), (3, .int a3)] [.int v9] _ 0 0 _
  refine x_istore (lsx9 := [(4, .int v9), (0, .ref 125), (1, .int a1), (2, .int a2), (3, .int a3)]) rfl rfl rfl ?_
  refine x_aloadn (x := 125) rfl rfl ?_
  refine z_getR (N := 92) (b := 126) 12 2 rfl f_12_8 rfl J rfl 16002 ⟨rfl, rfl⟩ rfl ?_
  refine x_aloadn (x := 125) rfl rfl ?_
  refine x_iloadn (x := a1) rfl rfl ?_
  refine x_iconst (v := 3) rfl ki_3 ?_
  refine z_idiv rfl rfl jk_3 (by omega) (by omega) (fun v10 ev10 => ?_)
  refine x_inv (N := m_X12_at) (As := [.int v10]) (b := 125) (st := [.ref 126]) (dx9 := 2) (mc := 0) (ms := 0) (host := "") 12 rfl t_X12_at ⟨Or.inl q_12_254, i_X12_at.1, i_X12_at.2⟩ ⟨by decide, rfl⟩ (congrArg Prod.fst (J.1.1 125 (12, 92) rfl)) rfl (by decide) rfl rfl ⟨by decide, by decide⟩ (jC.of rfl k_X12_at rfl ?_)
  show jX m_X12_at 2 0 0 0 [(0, .ref 125), (1, .int v10)] [] _ 0 0 _
  refine x_bipush (v := 20) rfl kb_20 ?_
  refine x_bipush (v := 90) rfl kb_90 ?_
  refine x_iloadn (x := v10) rfl rfl ?_
  refine z_imul rfl jk_90 rfl (by omega) (fun v11 ev11 => ?_)
  refine z_iadd rfl jk_20 rfl (by omega) (fun v12 ev12 => ?_)
  refine x_iret rfl rfl ?_
  show jX m_X12_fold 3 0 0 19 [(4, .int v9), (0, .ref 125), (1, .int a1), (2, .int a2), (3, .int a3)] [.int v12, .ref 126] _ 0 0 _
  refine x_iconst (v := 1) rfl ki_1 ?_
  refine z_iadd rfl rfl jk_1 (by omega) (fun v13 ev13 => ?_)
  refine z_iald (N := 50660) rfl J rfl sg_126_20_18020_90_1_2 rfl (by omega) (fun v14 qv14 ev14 => ?_)
  try rw [vrd qv14 (show ((20 + (90 * (a1.toInt / 3))) + 1) = v13.toInt from by omega)] at D
  refine x_istore (lsx9 := [(5, .int v14), (4, .int v9), (0, .ref 125), (1, .int a1), (2, .int a2), (3, .int a3)]) rfl rfl rfl ?_
  refine x_iconst (v := 0) rfl ki_0 ?_
  refine x_istore (lsx9 := [(6, .int 0), (5, .int v14), (4, .int v9), (0, .ref 125), (1, .int a1), (2, .int a2), (3, .int a3)]) rfl rfl rfl ?_
  refine x_iconst (v := 0) rfl ki_0 ?_
  refine x_istore (lsx9 := [(7, .int 0), (6, .int 0), (5, .int v14), (4, .int v9), (0, .ref 125), (1, .int a1), (2, .int a2), (3, .int a3)]) rfl rfl rfl ?_
  try rw [show ((((20 + (90 * (a1.toInt / 3))) + 6) + (28 * (a1.toInt % 3))) + (14 * a2.toInt)) = v9.toInt from by omega] at D
  exact jX.sub (jsb_c rfl (jsb_c rfl (jsb_c rfl (jsb_c rfl (jsb_c rfl (jsb_c rfl jsb_n)))))) (ct_X12_fold_r125d_30 hD hQ  15 a3 v9 v14 0 0 h (by have := jk_0; omega) (jr_of rfl (by omega)) (jr_of rfl (by omega)) (jr_mod rfl (by omega)) (jr_of rfl (by omega)) (jr_of jk_0 (by omega)) (jr_of jk_0 (by omega)) (by omega) (by have := jk_0; have := jk_0; omega) J Sm (by rw [jk_0]; exact D))
def fp_X12_areAlike_r125d : jFp := [(137, 0, 80), (138, 0, 2)]
set_option maxRecDepth 100000 in
set_option maxHeartbeats 4000000 in
theorem ct_X12_areAlike_r125d_175 {Dy : jH → Prop} {h0 : jH} {Q : Option Value → jH → Prop} {dr : (Int × jW)} (hD : jDk Dy) (hQ : ∀ (v : Int32) hx9, 0 ≤ v.toInt ∧ v.toInt ≤ 1 → jJ jSgM Dy hx9 → jSm fp_X12_areAlike_r125d h0 hx9 → dr.1 = v.toInt → dr.2 = vw hx9 → Q (some (.int v)) hx9) : ∀ (l9 : Int32) (h : jH), 0 ≤ l9.toInt ∧ l9.toInt ≤ 1 → jJ jSgM Dy h → jSm fp_X12_areAlike_r125d h0 h → d_X12_areAlike_r125d_175  l9.toInt (vw h) = dr → jX m_X12_areAlike 4 0 0 175 [(9, .int l9)] [] h 0 0 Q := by
  intro l9 h y0   J Sm D
  unfold d_X12_areAlike_r125d_175 at D
  refine x_iload (x := l9) rfl rfl ?_
  refine x_zret rfl rfl (jz01 (by omega)) ?_
  exact hQ _ _ (jr_of rfl (by omega)) J Sm ((congrArg Prod.fst D).symm.trans (show l9.toInt = l9.toInt from by omega)) (congrArg Prod.snd D).symm
set_option maxRecDepth 100000 in
set_option maxHeartbeats 4000000 in
theorem ct_X12_areAlike_r125d_200167 {Dy : jH → Prop} {h0 : jH} {Q : Option Value → jH → Prop} {dr : (Int × jW)} {K123 : Int → Int → Int → Int → jW → (Int × jW)} {R123 : Int} (hD : jDk Dy) (hQ : ∀ (v : Int32) hx9, 0 ≤ v.toInt ∧ v.toInt ≤ 1 → jJ jSgM Dy hx9 → jSm fp_X12_areAlike_r125d h0 hx9 → dr.1 = v.toInt → dr.2 = vw hx9 → Q (some (.int v)) hx9) (k123 : ∀ (l6 : Int32) (l7 : Int32) (l9 : Int32) (l10 : Int32) (h : jH), 36 - l10.toInt < R123 → 0 ≤ l6.toInt ∧ l6.toInt ≤ 36 → 0 ≤ l7.toInt ∧ l7.toInt ≤ 36 → 0 ≤ l9.toInt ∧ l9.toInt ≤ 1 → 0 ≤ l10.toInt ∧ l10.toInt ≤ 36 → jJ jSgM Dy h → jSm fp_X12_areAlike_r125d h0 h → K123 l6.toInt l7.toInt l9.toInt l10.toInt (vw h) = dr → jX m_X12_areAlike 4 0 0 123 [(0, .ref 125), (6, .int l6), (7, .int l7), (9, .int l9), (10, .int l10)] [] h 0 0 Q) : ∀ (l6 : Int32) (l7 : Int32) (l10 : Int32) (h : jH), 1 ≤ l6.toInt ∧ l6.toInt ≤ 36 → 1 ≤ l7.toInt ∧ l7.toInt ≤ 36 → 0 ≤ l10.toInt ∧ l10.toInt ≤ 35 → 36 - l10.toInt ≤ R123 → jJ jSgM Dy h → jSm fp_X12_areAlike_r125d h0 h → d_X12_areAlike_r125d_200167 K123  l6.toInt l7.toInt l10.toInt (vw h) = dr → jX m_X12_areAlike 4 0 0 167 [(0, .ref 125), (6, .int l6), (7, .int l7), (10, .int l10)] [.int 0] h 0 0 Q := by
  intro l6 l7 l10 h y0 y1 y2  m123 J Sm D
  unfold d_X12_areAlike_r125d_200167 at D
  refine x_istore (lsx9 := [(9, .int 0), (0, .ref 125), (6, .int l6), (7, .int l7), (10, .int l10)]) rfl rfl rfl ?_
  refine z_iinc (x := l10) (lsx9 := fun v1 => [(10, .int v1), (9, .int 0), (0, .ref 125), (6, .int l6), (7, .int l7)]) rfl rfl rfl jko_1 (by omega) rfl (fun _ => rfl) (fun v1 ev1 => ?_)
  refine x_goto (tgt := 123) rfl rfl ?_
  try rw [show (l10.toInt + 1) = v1.toInt from by omega] at D
  exact jX.sub (jsb_c rfl (jsb_c rfl (jsb_c rfl (jsb_c rfl (jsb_c rfl jsb_n))))) (k123 l6 l7 0 v1 h (by omega) (jr_of rfl (by omega)) (jr_of rfl (by omega)) (jr_of jk_0 (by omega)) (jr_of rfl (by omega)) J Sm (by rw [jk_0]; exact D))
set_option maxRecDepth 100000 in
set_option maxHeartbeats 4000000 in
theorem ct_X12_areAlike_r125d_300167 {Dy : jH → Prop} {h0 : jH} {Q : Option Value → jH → Prop} {dr : (Int × jW)} {K123 : Int → Int → Int → Int → jW → (Int × jW)} {R123 : Int} (hD : jDk Dy) (hQ : ∀ (v : Int32) hx9, 0 ≤ v.toInt ∧ v.toInt ≤ 1 → jJ jSgM Dy hx9 → jSm fp_X12_areAlike_r125d h0 hx9 → dr.1 = v.toInt → dr.2 = vw hx9 → Q (some (.int v)) hx9) (k123 : ∀ (l6 : Int32) (l7 : Int32) (l9 : Int32) (l10 : Int32) (h : jH), 36 - l10.toInt < R123 → 0 ≤ l6.toInt ∧ l6.toInt ≤ 36 → 0 ≤ l7.toInt ∧ l7.toInt ≤ 36 → 0 ≤ l9.toInt ∧ l9.toInt ≤ 1 → 0 ≤ l10.toInt ∧ l10.toInt ≤ 36 → jJ jSgM Dy h → jSm fp_X12_areAlike_r125d h0 h → K123 l6.toInt l7.toInt l9.toInt l10.toInt (vw h) = dr → jX m_X12_areAlike 4 0 0 123 [(0, .ref 125), (6, .int l6), (7, .int l7), (9, .int l9), (10, .int l10)] [] h 0 0 Q) : ∀ (l6 : Int32) (l7 : Int32) (l10 : Int32) (h : jH), 1 ≤ l6.toInt ∧ l6.toInt ≤ 36 → 1 ≤ l7.toInt ∧ l7.toInt ≤ 36 → 0 ≤ l10.toInt ∧ l10.toInt ≤ 35 → 36 - l10.toInt ≤ R123 → jJ jSgM Dy h → jSm fp_X12_areAlike_r125d h0 h → d_X12_areAlike_r125d_300167 K123  l6.toInt l7.toInt l10.toInt (vw h) = dr → jX m_X12_areAlike 4 0 0 167 [(0, .ref 125), (6, .int l6), (7, .int l7), (10, .int l10)] [.int 1] h 0 0 Q := by
  intro l6 l7 l10 h y0 y1 y2  m123 J Sm D
  unfold d_X12_areAlike_r125d_300167 at D
  refine x_istore (lsx9 := [(9, .int 1), (0, .ref 125), (6, .int l6), (7, .int l7), (10, .int l10)]) rfl rfl rfl ?_
  refine z_iinc (x := l10) (lsx9 := fun v1 => [(10, .int v1), (9, .int 1), (0, .ref 125), (6, .int l6), (7, .int l7)]) rfl rfl rfl jko_1 (by omega) rfl (fun _ => rfl) (fun v1 ev1 => ?_)
  refine x_goto (tgt := 123) rfl rfl ?_
  try rw [show (l10.toInt + 1) = v1.toInt from by omega] at D
  exact jX.sub (jsb_c rfl (jsb_c rfl (jsb_c rfl (jsb_c rfl (jsb_c rfl jsb_n))))) (k123 l6 l7 1 v1 h (by omega) (jr_of rfl (by omega)) (jr_of rfl (by omega)) (jr_of jk_1 (by omega)) (jr_of rfl (by omega)) J Sm (by rw [jk_1]; exact D))
set_option maxRecDepth 100000 in
set_option maxHeartbeats 4000000 in
theorem ct_X12_areAlike_r125d_123 {Dy : jH → Prop} {h0 : jH} {Q : Option Value → jH → Prop} {dr : (Int × jW)} (hD : jDk Dy) (hQ : ∀ (v : Int32) hx9, 0 ≤ v.toInt ∧ v.toInt ≤ 1 → jJ jSgM Dy hx9 → jSm fp_X12_areAlike_r125d h0 hx9 → dr.1 = v.toInt → dr.2 = vw hx9 → Q (some (.int v)) hx9) : ∀ r : Nat, ∀ (l6 : Int32) (l7 : Int32) (l9 : Int32) (l10 : Int32) (h : jH), 36 - l10.toInt < (r : Int) → 0 ≤ l6.toInt ∧ l6.toInt ≤ 36 → 0 ≤ l7.toInt ∧ l7.toInt ≤ 36 → 0 ≤ l9.toInt ∧ l9.toInt ≤ 1 → 0 ≤ l10.toInt ∧ l10.toInt ≤ 36 → jJ jSgM Dy h → jSm fp_X12_areAlike_r125d h0 h → d_X12_areAlike_r125d_123 r l6.toInt l7.toInt l9.toInt l10.toInt (vw h) = dr → jX m_X12_areAlike 4 0 0 123 [(0, .ref 125), (6, .int l6), (7, .int l7), (9, .int l9), (10, .int l10)] [] h 0 0 Q := by
  intro r
  induction r with
  | zero =>
    intro l6 l7 l9 l10 h hm y0 y1 y2 y3   J Sm D
    exfalso
    omega
  | succ r ih =>
    intro l6 l7 l9 l10 h hm y0 y1 y2 y3   J Sm D
    rw [d_X12_areAlike_r125d_123.eq_2] at D
    refine x_iload (x := l10) rfl rfl ?_
    refine x_iload (x := l6) rfl rfl ?_
    refine x_icge (tgt := 175) rfl rfl (ti_ge rfl rfl ⟨fun c1 => ?_, fun c1 => ?_⟩)
    ·
      rw [if_pos (by omega)] at D
      exact jX.sub (jsb_c rfl jsb_n) (ct_X12_areAlike_r125d_175 hD hQ  l9 h (jr_of rfl (by omega)) J Sm D)
    ·
      rw [if_neg (by omega)] at D
      refine x_iload (x := l10) rfl rfl ?_
      refine x_iload (x := l7) rfl rfl ?_
      refine x_icge (tgt := 175) rfl rfl (ti_ge rfl rfl ⟨fun c2 => ?_, fun c2 => ?_⟩)
      ·
        rw [if_pos (by omega)] at D
        exact jX.sub (jsb_c rfl jsb_n) (ct_X12_areAlike_r125d_175 hD hQ  l9 h (jr_of rfl (by omega)) J Sm D)
      ·
        rw [if_neg (by omega)] at D
        refine x_iload (x := l9) rfl rfl ?_
        refine x_ifeq (tgt := 175) rfl rfl (ti_eq rfl jk_0 ⟨fun c3 => ?_, fun c3 => ?_⟩)
        ·
          rw [if_pos (by omega)] at D
          exact jX.sub (jsb_c rfl jsb_n) (ct_X12_areAlike_r125d_175 hD hQ  l9 h (jr_of rfl (by omega)) J Sm D)
        ·
          rw [if_neg (by omega)] at D
          refine x_aloadn (x := 125) rfl rfl ?_
          refine z_getR (N := 92) (b := 137) 12 21 rfl f_12_51 rfl J rfl 16021 ⟨rfl, rfl⟩ rfl ?_
          refine x_iload (x := l10) rfl rfl ?_
          refine z_iald (N := 80) rfl J rfl sg_137_0_80_1_0_1 rfl (by omega) (fun v4 qv4 ev4 => ?_)
          try rw [vrd qv4 (show l10.toInt = l10.toInt from by omega)] at D
          refine x_aloadn (x := 125) rfl rfl ?_
          refine z_getR (N := 92) (b := 137) 12 21 rfl f_12_51 rfl J rfl 16021 ⟨rfl, rfl⟩ rfl ?_
          refine x_bipush (v := 40) rfl kb_40 ?_
          refine x_iload (x := l10) rfl rfl ?_
          refine z_iadd rfl jk_40 rfl (by omega) (fun v5 ev5 => ?_)
          refine z_iald (N := 80) rfl J rfl sg_137_0_80_1_0_1 rfl (by omega) (fun v6 qv6 ev6 => ?_)
          try rw [vrd qv6 (show (40 + l10.toInt) = v5.toInt from by omega)] at D
          refine x_icne (tgt := 166) rfl rfl (ti_ne rfl rfl ⟨fun c7 => ?_, fun c7 => ?_⟩)
          ·
            rw [if_neg (by omega)] at D
            refine x_iconst (v := 0) rfl ki_0 ?_
            exact jX.sub (jsb_c rfl (jsb_c rfl (jsb_c rfl (jsb_c rfl jsb_n)))) (ct_X12_areAlike_r125d_200167 hD hQ ih l6 l7 l10 h (jr_of rfl (by omega)) (jr_of rfl (by omega)) (jr_of rfl (by omega)) (by omega) J Sm D)
          ·
            rw [if_pos (by omega)] at D
            refine x_iconst (v := 1) rfl ki_1 ?_
            refine x_goto (tgt := 167) rfl rfl ?_
            exact jX.sub (jsb_c rfl (jsb_c rfl (jsb_c rfl (jsb_c rfl jsb_n)))) (ct_X12_areAlike_r125d_300167 hD hQ ih l6 l7 l10 h (jr_of rfl (by omega)) (jr_of rfl (by omega)) (jr_of rfl (by omega)) (by omega) J Sm D)
set_option maxRecDepth 100000 in
set_option maxHeartbeats 4000000 in
theorem ct_X12_areAlike_r125d_300114 {Dy : jH → Prop} {h0 : jH} {Q : Option Value → jH → Prop} {dr : (Int × jW)} (hD : jDk Dy) (hQ : ∀ (v : Int32) hx9, 0 ≤ v.toInt ∧ v.toInt ≤ 1 → jJ jSgM Dy hx9 → jSm fp_X12_areAlike_r125d h0 hx9 → dr.1 = v.toInt → dr.2 = vw hx9 → Q (some (.int v)) hx9) : ∀ (l6 : Int32) (l7 : Int32) (h : jH), 0 ≤ l6.toInt ∧ l6.toInt ≤ 36 → 0 ≤ l7.toInt ∧ l7.toInt ≤ 36 → jJ jSgM Dy h → jSm fp_X12_areAlike_r125d h0 h → d_X12_areAlike_r125d_300114  l6.toInt l7.toInt (vw h) = dr → jX m_X12_areAlike 4 0 0 114 [(0, .ref 125), (6, .int l6), (7, .int l7)] [.int 1] h 0 0 Q := by
  intro l6 l7 h y0 y1   J Sm D
  unfold d_X12_areAlike_r125d_300114 at D
  refine x_istore (lsx9 := [(8, .int 1), (0, .ref 125), (6, .int l6), (7, .int l7)]) rfl rfl rfl ?_
  refine x_iload (x := 1) rfl rfl ?_
  refine x_istore (lsx9 := [(9, .int 1), (8, .int 1), (0, .ref 125), (6, .int l6), (7, .int l7)]) rfl rfl rfl ?_
  refine x_iconst (v := 0) rfl ki_0 ?_
  refine x_istore (lsx9 := [(10, .int 0), (9, .int 1), (8, .int 1), (0, .ref 125), (6, .int l6), (7, .int l7)]) rfl rfl rfl ?_
  exact jX.sub (jsb_c rfl (jsb_c rfl (jsb_c rfl (jsb_c rfl (jsb_c rfl jsb_n))))) (ct_X12_areAlike_r125d_123 hD hQ  37 l6 l7 1 0 h (by have := jk_0; omega) (jr_of rfl (by omega)) (jr_of rfl (by omega)) (jr_of jk_1 (by omega)) (jr_of jk_0 (by omega)) J Sm (by rw [jk_1, jk_0]; exact D))
set_option maxRecDepth 100000 in
set_option maxHeartbeats 4000000 in
theorem ct_X12_areAlike_r125d_200114 {Dy : jH → Prop} {h0 : jH} {Q : Option Value → jH → Prop} {dr : (Int × jW)} (hD : jDk Dy) (hQ : ∀ (v : Int32) hx9, 0 ≤ v.toInt ∧ v.toInt ≤ 1 → jJ jSgM Dy hx9 → jSm fp_X12_areAlike_r125d h0 hx9 → dr.1 = v.toInt → dr.2 = vw hx9 → Q (some (.int v)) hx9) : ∀ (l6 : Int32) (l7 : Int32) (h : jH), 0 ≤ l6.toInt ∧ l6.toInt ≤ 36 → 0 ≤ l7.toInt ∧ l7.toInt ≤ 36 → jJ jSgM Dy h → jSm fp_X12_areAlike_r125d h0 h → d_X12_areAlike_r125d_200114  l6.toInt l7.toInt (vw h) = dr → jX m_X12_areAlike 4 0 0 114 [(0, .ref 125), (6, .int l6), (7, .int l7)] [.int 0] h 0 0 Q := by
  intro l6 l7 h y0 y1   J Sm D
  unfold d_X12_areAlike_r125d_200114 at D
  refine x_istore (lsx9 := [(8, .int 0), (0, .ref 125), (6, .int l6), (7, .int l7)]) rfl rfl rfl ?_
  refine x_iload (x := 0) rfl rfl ?_
  refine x_istore (lsx9 := [(9, .int 0), (8, .int 0), (0, .ref 125), (6, .int l6), (7, .int l7)]) rfl rfl rfl ?_
  refine x_iconst (v := 0) rfl ki_0 ?_
  refine x_istore (lsx9 := [(10, .int 0), (9, .int 0), (8, .int 0), (0, .ref 125), (6, .int l6), (7, .int l7)]) rfl rfl rfl ?_
  exact jX.sub (jsb_c rfl (jsb_c rfl (jsb_c rfl (jsb_c rfl (jsb_c rfl jsb_n))))) (ct_X12_areAlike_r125d_123 hD hQ  37 l6 l7 0 0 h (by have := jk_0; omega) (jr_of rfl (by omega)) (jr_of rfl (by omega)) (jr_of jk_0 (by omega)) (jr_of jk_0 (by omega)) J Sm (by rw [jk_0]; exact D))
set_option maxRecDepth 100000 in
set_option maxHeartbeats 4000000 in
theorem ct_X12_areAlike_r125d_109 {Dy : jH → Prop} {h0 : jH} {Q : Option Value → jH → Prop} {dr : (Int × jW)} (hD : jDk Dy) (hQ : ∀ (v : Int32) hx9, 0 ≤ v.toInt ∧ v.toInt ≤ 1 → jJ jSgM Dy hx9 → jSm fp_X12_areAlike_r125d h0 hx9 → dr.1 = v.toInt → dr.2 = vw hx9 → Q (some (.int v)) hx9) : ∀ (l6 : Int32) (l7 : Int32) (h : jH), 0 ≤ l6.toInt ∧ l6.toInt ≤ 36 → 0 ≤ l7.toInt ∧ l7.toInt ≤ 36 → jJ jSgM Dy h → jSm fp_X12_areAlike_r125d h0 h → d_X12_areAlike_r125d_109  l6.toInt l7.toInt (vw h) = dr → jX m_X12_areAlike 4 0 0 109 [(0, .ref 125), (6, .int l6), (7, .int l7)] [] h 0 0 Q := by
  intro l6 l7 h y0 y1   J Sm D
  unfold d_X12_areAlike_r125d_109 at D
  refine x_iconst (v := 1) rfl ki_1 ?_
  refine x_goto (tgt := 114) rfl rfl ?_
  exact jX.sub (jsb_c rfl (jsb_c rfl (jsb_c rfl jsb_n))) (ct_X12_areAlike_r125d_300114 hD hQ  l6 l7 h (jr_of rfl (by omega)) (jr_of rfl (by omega)) J Sm D)
set_option maxRecDepth 100000 in
set_option maxHeartbeats 4000000 in
theorem ct_X12_areAlike_r125d_113 {Dy : jH → Prop} {h0 : jH} {Q : Option Value → jH → Prop} {dr : (Int × jW)} (hD : jDk Dy) (hQ : ∀ (v : Int32) hx9, 0 ≤ v.toInt ∧ v.toInt ≤ 1 → jJ jSgM Dy hx9 → jSm fp_X12_areAlike_r125d h0 hx9 → dr.1 = v.toInt → dr.2 = vw hx9 → Q (some (.int v)) hx9) : ∀ (l6 : Int32) (l7 : Int32) (h : jH), 0 ≤ l6.toInt ∧ l6.toInt ≤ 36 → 0 ≤ l7.toInt ∧ l7.toInt ≤ 36 → jJ jSgM Dy h → jSm fp_X12_areAlike_r125d h0 h → d_X12_areAlike_r125d_113  l6.toInt l7.toInt (vw h) = dr → jX m_X12_areAlike 4 0 0 113 [(0, .ref 125), (6, .int l6), (7, .int l7)] [] h 0 0 Q := by
  intro l6 l7 h y0 y1   J Sm D
  unfold d_X12_areAlike_r125d_113 at D
  refine x_iconst (v := 0) rfl ki_0 ?_
  exact jX.sub (jsb_c rfl (jsb_c rfl (jsb_c rfl jsb_n))) (ct_X12_areAlike_r125d_200114 hD hQ  l6 l7 h (jr_of rfl (by omega)) (jr_of rfl (by omega)) J Sm D)
set_option maxRecDepth 100000 in
set_option maxHeartbeats 4000000 in
theorem ct_X12_areAlike_r125d_97 {Dy : jH → Prop} {h0 : jH} {Q : Option Value → jH → Prop} {dr : (Int × jW)} (hD : jDk Dy) (hQ : ∀ (v : Int32) hx9, 0 ≤ v.toInt ∧ v.toInt ≤ 1 → jJ jSgM Dy hx9 → jSm fp_X12_areAlike_r125d h0 hx9 → dr.1 = v.toInt → dr.2 = vw hx9 → Q (some (.int v)) hx9) : ∀ (l5 : Int32) (l6 : Int32) (l7 : Int32) (h : jH), 0 ≤ l5.toInt ∧ l5.toInt ≤ 1 → 0 ≤ l6.toInt ∧ l6.toInt ≤ 36 → 0 ≤ l7.toInt ∧ l7.toInt ≤ 36 → jJ jSgM Dy h → jSm fp_X12_areAlike_r125d h0 h → d_X12_areAlike_r125d_97  l5.toInt l6.toInt l7.toInt (vw h) = dr → jX m_X12_areAlike 4 0 0 97 [(0, .ref 125), (5, .int l5), (6, .int l6), (7, .int l7)] [] h 0 0 Q := by
  intro l5 l6 l7 h y0 y1 y2   J Sm D
  unfold d_X12_areAlike_r125d_97 at D
  refine x_iload (x := l7) rfl rfl ?_
  refine x_iload (x := l6) rfl rfl ?_
  refine x_icge (tgt := 113) rfl rfl (ti_ge rfl rfl ⟨fun c1 => ?_, fun c1 => ?_⟩)
  ·
    rw [if_pos (by omega)] at D
    exact jX.sub (jsb_c rfl (jsb_c rfl (jsb_c rfl jsb_n))) (ct_X12_areAlike_r125d_113 hD hQ  l6 l7 h (jr_of rfl (by omega)) (jr_of rfl (by omega)) J Sm D)
  ·
    rw [if_neg (by omega)] at D
    refine x_iload (x := l5) rfl rfl ?_
    refine x_ifeq (tgt := 113) rfl rfl (ti_eq rfl jk_0 ⟨fun c2 => ?_, fun c2 => ?_⟩)
    ·
      rw [if_pos (by omega)] at D
      exact jX.sub (jsb_c rfl (jsb_c rfl (jsb_c rfl jsb_n))) (ct_X12_areAlike_r125d_113 hD hQ  l6 l7 h (jr_of rfl (by omega)) (jr_of rfl (by omega)) J Sm D)
    ·
      rw [if_neg (by omega)] at D
      exact jX.sub (jsb_c rfl (jsb_c rfl (jsb_c rfl jsb_n))) (ct_X12_areAlike_r125d_109 hD hQ  l6 l7 h (jr_of rfl (by omega)) (jr_of rfl (by omega)) J Sm D)
set_option maxRecDepth 100000 in
set_option maxHeartbeats 4000000 in
theorem ct_X12_areAlike_r125d_200060 {Dy : jH → Prop} {h0 : jH} {Q : Option Value → jH → Prop} {dr : (Int × jW)} (hD : jDk Dy) (hQ : ∀ (v : Int32) hx9, 0 ≤ v.toInt ∧ v.toInt ≤ 1 → jJ jSgM Dy hx9 → jSm fp_X12_areAlike_r125d h0 hx9 → dr.1 = v.toInt → dr.2 = vw hx9 → Q (some (.int v)) hx9) : ∀ (l4 : Int32) (h : jH), 0 ≤ l4.toInt ∧ l4.toInt ≤ 1 → jJ jSgM Dy h → jSm fp_X12_areAlike_r125d h0 h → d_X12_areAlike_r125d_200060  l4.toInt (vw h) = dr → jX m_X12_areAlike 4 0 0 60 [(0, .ref 125), (4, .int l4)] [.int 0] h 0 0 Q := by
  intro l4 h y0   J Sm D
  unfold d_X12_areAlike_r125d_200060 at D
  refine x_istore (lsx9 := [(5, .int 0), (0, .ref 125), (4, .int l4)]) rfl rfl rfl ?_
  refine x_aloadn (x := 125) rfl rfl ?_
  refine z_getR (N := 92) (b := 138) 12 22 rfl f_12_54 rfl J rfl 16022 ⟨rfl, rfl⟩ rfl ?_
  refine x_iconst (v := 0) rfl ki_0 ?_
  refine z_iald (N := 2) rfl J rfl sg_138_0_2_1_0_1 jk_0 (by omega) (fun v1 qv1 ev1 => ?_)
  try rw [vrn (n := 0) (by decide) qv1] at D
  refine x_istore (lsx9 := [(6, .int v1), (5, .int 0), (0, .ref 125), (4, .int l4)]) rfl rfl rfl ?_
  refine x_aloadn (x := 125) rfl rfl ?_
  refine z_getR (N := 92) (b := 138) 12 22 rfl f_12_54 rfl J rfl 16022 ⟨rfl, rfl⟩ rfl ?_
  refine x_iconst (v := 1) rfl ki_1 ?_
  refine z_iald (N := 2) rfl J rfl sg_138_0_2_1_0_1 jk_1 (by omega) (fun v2 qv2 ev2 => ?_)
  try rw [vrn (n := 1) (by decide) qv2] at D
  refine x_istore (lsx9 := [(7, .int v2), (6, .int v1), (5, .int 0), (0, .ref 125), (4, .int l4)]) rfl rfl rfl ?_
  refine x_iload (x := v1) rfl rfl ?_
  refine x_iload (x := v2) rfl rfl ?_
  refine x_iceq (tgt := 109) rfl rfl (ti_eq rfl rfl ⟨fun c3 => ?_, fun c3 => ?_⟩)
  ·
    rw [if_pos (by omega)] at D
    exact jX.sub (jsb_c rfl (jsb_c rfl (jsb_c rfl jsb_n))) (ct_X12_areAlike_r125d_109 hD hQ  v1 v2 h (jr_of rfl (by omega)) (jr_of rfl (by omega)) J Sm D)
  ·
    rw [if_neg (by omega)] at D
    refine x_iload (x := v1) rfl rfl ?_
    refine x_iload (x := v2) rfl rfl ?_
    refine x_icge (tgt := 97) rfl rfl (ti_ge rfl rfl ⟨fun c4 => ?_, fun c4 => ?_⟩)
    ·
      rw [if_pos (by omega)] at D
      exact jX.sub (jsb_c rfl (jsb_c rfl (jsb_c rfl (jsb_c rfl jsb_n)))) (ct_X12_areAlike_r125d_97 hD hQ  0 v1 v2 h (jr_of jk_0 (by omega)) (jr_of rfl (by omega)) (jr_of rfl (by omega)) J Sm (by rw [jk_0]; exact D))
    ·
      rw [if_neg (by omega)] at D
      refine x_iload (x := l4) rfl rfl ?_
      refine x_ifne (tgt := 109) rfl rfl (ti_ne rfl jk_0 ⟨fun c5 => ?_, fun c5 => ?_⟩)
      ·
        rw [if_neg (by omega)] at D
        exact jX.sub (jsb_c rfl (jsb_c rfl (jsb_c rfl jsb_n))) (ct_X12_areAlike_r125d_109 hD hQ  v1 v2 h (jr_of rfl (by omega)) (jr_of rfl (by omega)) J Sm D)
      ·
        rw [if_pos (by omega)] at D
        exact jX.sub (jsb_c rfl (jsb_c rfl (jsb_c rfl (jsb_c rfl jsb_n)))) (ct_X12_areAlike_r125d_97 hD hQ  0 v1 v2 h (jr_of jk_0 (by omega)) (jr_of rfl (by omega)) (jr_of rfl (by omega)) J Sm (by rw [jk_0]; exact D))
set_option maxRecDepth 100000 in
set_option maxHeartbeats 4000000 in
theorem ct_X12_areAlike_r125d_300060 {Dy : jH → Prop} {h0 : jH} {Q : Option Value → jH → Prop} {dr : (Int × jW)} (hD : jDk Dy) (hQ : ∀ (v : Int32) hx9, 0 ≤ v.toInt ∧ v.toInt ≤ 1 → jJ jSgM Dy hx9 → jSm fp_X12_areAlike_r125d h0 hx9 → dr.1 = v.toInt → dr.2 = vw hx9 → Q (some (.int v)) hx9) : ∀ (l4 : Int32) (h : jH), 0 ≤ l4.toInt ∧ l4.toInt ≤ 1 → jJ jSgM Dy h → jSm fp_X12_areAlike_r125d h0 h → d_X12_areAlike_r125d_300060  l4.toInt (vw h) = dr → jX m_X12_areAlike 4 0 0 60 [(0, .ref 125), (4, .int l4)] [.int 1] h 0 0 Q := by
  intro l4 h y0   J Sm D
  unfold d_X12_areAlike_r125d_300060 at D
  refine x_istore (lsx9 := [(5, .int 1), (0, .ref 125), (4, .int l4)]) rfl rfl rfl ?_
  refine x_aloadn (x := 125) rfl rfl ?_
  refine z_getR (N := 92) (b := 138) 12 22 rfl f_12_54 rfl J rfl 16022 ⟨rfl, rfl⟩ rfl ?_
  refine x_iconst (v := 0) rfl ki_0 ?_
  refine z_iald (N := 2) rfl J rfl sg_138_0_2_1_0_1 jk_0 (by omega) (fun v1 qv1 ev1 => ?_)
  try rw [vrn (n := 0) (by decide) qv1] at D
  refine x_istore (lsx9 := [(6, .int v1), (5, .int 1), (0, .ref 125), (4, .int l4)]) rfl rfl rfl ?_
  refine x_aloadn (x := 125) rfl rfl ?_
  refine z_getR (N := 92) (b := 138) 12 22 rfl f_12_54 rfl J rfl 16022 ⟨rfl, rfl⟩ rfl ?_
  refine x_iconst (v := 1) rfl ki_1 ?_
  refine z_iald (N := 2) rfl J rfl sg_138_0_2_1_0_1 jk_1 (by omega) (fun v2 qv2 ev2 => ?_)
  try rw [vrn (n := 1) (by decide) qv2] at D
  refine x_istore (lsx9 := [(7, .int v2), (6, .int v1), (5, .int 1), (0, .ref 125), (4, .int l4)]) rfl rfl rfl ?_
  refine x_iload (x := v1) rfl rfl ?_
  refine x_iload (x := v2) rfl rfl ?_
  refine x_iceq (tgt := 109) rfl rfl (ti_eq rfl rfl ⟨fun c3 => ?_, fun c3 => ?_⟩)
  ·
    rw [if_pos (by omega)] at D
    exact jX.sub (jsb_c rfl (jsb_c rfl (jsb_c rfl jsb_n))) (ct_X12_areAlike_r125d_109 hD hQ  v1 v2 h (jr_of rfl (by omega)) (jr_of rfl (by omega)) J Sm D)
  ·
    rw [if_neg (by omega)] at D
    refine x_iload (x := v1) rfl rfl ?_
    refine x_iload (x := v2) rfl rfl ?_
    refine x_icge (tgt := 97) rfl rfl (ti_ge rfl rfl ⟨fun c4 => ?_, fun c4 => ?_⟩)
    ·
      rw [if_pos (by omega)] at D
      exact jX.sub (jsb_c rfl (jsb_c rfl (jsb_c rfl (jsb_c rfl jsb_n)))) (ct_X12_areAlike_r125d_97 hD hQ  1 v1 v2 h (jr_of jk_1 (by omega)) (jr_of rfl (by omega)) (jr_of rfl (by omega)) J Sm (by rw [jk_1]; exact D))
    ·
      rw [if_neg (by omega)] at D
      refine x_iload (x := l4) rfl rfl ?_
      refine x_ifne (tgt := 109) rfl rfl (ti_ne rfl jk_0 ⟨fun c5 => ?_, fun c5 => ?_⟩)
      ·
        rw [if_neg (by omega)] at D
        exact jX.sub (jsb_c rfl (jsb_c rfl (jsb_c rfl jsb_n))) (ct_X12_areAlike_r125d_109 hD hQ  v1 v2 h (jr_of rfl (by omega)) (jr_of rfl (by omega)) J Sm D)
      ·
        rw [if_pos (by omega)] at D
        exact jX.sub (jsb_c rfl (jsb_c rfl (jsb_c rfl (jsb_c rfl jsb_n)))) (ct_X12_areAlike_r125d_97 hD hQ  1 v1 v2 h (jr_of jk_1 (by omega)) (jr_of rfl (by omega)) (jr_of rfl (by omega)) J Sm (by rw [jk_1]; exact D))
set_option maxRecDepth 100000 in
set_option maxHeartbeats 4000000 in
theorem ct_X12_areAlike_r125d_200036 {Dy : jH → Prop} {h0 : jH} {Q : Option Value → jH → Prop} {dr : (Int × jW)} (hD : jDk Dy) (hQ : ∀ (v : Int32) hx9, 0 ≤ v.toInt ∧ v.toInt ≤ 1 → jJ jSgM Dy hx9 → jSm fp_X12_areAlike_r125d h0 hx9 → dr.1 = v.toInt → dr.2 = vw hx9 → Q (some (.int v)) hx9) : ∀ (l2 : Int32) (l3 : Int32) (h : jH), 0 ≤ l2.toInt ∧ l2.toInt ≤ 599 → 0 ≤ l3.toInt ∧ l3.toInt ≤ 1 → jJ jSgM Dy h → jSm fp_X12_areAlike_r125d h0 h → d_X12_areAlike_r125d_200036  l2.toInt l3.toInt (vw h) = dr → jX m_X12_areAlike 4 0 0 36 [(0, .ref 125), (2, .int l2), (3, .int l3)] [.int 0] h 0 0 Q := by
  intro l2 l3 h y0 y1   J Sm D
  unfold d_X12_areAlike_r125d_200036 at D
  refine x_istore (lsx9 := [(4, .int 0), (0, .ref 125), (2, .int l2), (3, .int l3)]) rfl rfl rfl ?_
  refine x_aloadn (x := 125) rfl rfl ?_
  refine z_getR (N := 92) (b := 126) 12 2 rfl f_12_8 rfl J rfl 16002 ⟨rfl, rfl⟩ rfl ?_
  refine x_aloadn (x := 125) rfl rfl ?_
  refine x_iloadn (x := l2) rfl rfl ?_
  refine x_iloadn (x := l3) rfl rfl ?_
  refine x_inv (N := m_X12_nameAt) (As := [.int l2, .int l3]) (b := 125) (st := [.ref 126]) (dx9 := 3) (mc := 0) (ms := 0) (host := "") 12 rfl t_X12_nameAt ⟨Or.inl q_12_311, i_X12_nameAt.1, i_X12_nameAt.2⟩ ⟨by decide, rfl⟩ (congrArg Prod.fst (J.1.1 125 (12, 92) rfl)) rfl (by decide) rfl rfl ⟨by decide, by decide⟩ (jC.of rfl k_X12_nameAt rfl ?_)
  show jX m_X12_nameAt 3 0 0 0 [(0, .ref 125), (1, .int l2), (2, .int l3)] [] _ 0 0 _
  refine x_aloadn (x := 125) rfl rfl ?_
  refine x_iloadn (x := l2) rfl rfl ?_
  refine x_iconst (v := 3) rfl ki_3 ?_
  refine z_idiv rfl rfl jk_3 (by omega) (by omega) (fun v1 ev1 => ?_)
  refine x_inv (N := m_X12_at) (As := [.int v1]) (b := 125) (st := []) (dx9 := 2) (mc := 0) (ms := 0) (host := "") 12 rfl t_X12_at ⟨Or.inl q_12_254, i_X12_at.1, i_X12_at.2⟩ ⟨by decide, rfl⟩ (congrArg Prod.fst (J.1.1 125 (12, 92) rfl)) rfl (by decide) rfl rfl ⟨by decide, by decide⟩ (jC.of rfl k_X12_at rfl ?_)
  show jX m_X12_at 2 0 0 0 [(0, .ref 125), (1, .int v1)] [] _ 0 0 _
  refine x_bipush (v := 20) rfl kb_20 ?_
  refine x_bipush (v := 90) rfl kb_90 ?_
  refine x_iloadn (x := v1) rfl rfl ?_
  refine z_imul rfl jk_90 rfl (by omega) (fun v2 ev2 => ?_)
  refine z_iadd rfl jk_20 rfl (by omega) (fun v3 ev3 => ?_)
  refine x_iret rfl rfl ?_
  show jX m_X12_nameAt 3 0 0 7 [(0, .ref 125), (1, .int l2), (2, .int l3)] [.int v3] _ 0 0 _
  refine x_bipush (v := 6) rfl kb_6 ?_
  refine z_iadd rfl rfl jk_6 (by omega) (fun v4 ev4 => ?_)
  refine x_bipush (v := 28) rfl kb_28 ?_
  refine x_iloadn (x := l2) rfl rfl ?_
  refine x_iconst (v := 3) rfl ki_3 ?_
  refine z_irem rfl rfl jk_3 (by omega) (by omega) (fun v5 ev5 => ?_)
  refine z_imul rfl jk_28 rfl (by omega) (fun v6 ev6 => ?_)
  refine z_iadd rfl rfl rfl (by omega) (fun v7 ev7 => ?_)
  refine x_bipush (v := 14) rfl kb_14 ?_
  refine x_iloadn (x := l3) rfl rfl ?_
  refine z_imul rfl jk_14 rfl (by omega) (fun v8 ev8 => ?_)
  refine z_iadd rfl rfl rfl (by omega) (fun v9 ev9 => ?_)
  have rnv9 := jnam (m := l2.toInt) (w := l3.toInt) (v := v9.toInt) (by omega) (by omega) (by omega)
  refine x_iret rfl rfl ?_
  show jX m_X12_areAlike 4 0 0 48 [(4, .int 0), (0, .ref 125), (2, .int l2), (3, .int l3)] [.int v9, .ref 126] _ 0 0 _
  refine x_iconst (v := 1) rfl ki_1 ?_
  refine z_iadd rfl rfl jk_1 (by omega) (fun v10 ev10 => ?_)
  refine z_ialdU (N := 50660) (lo := 0) (hi := 1) rfl J rfl rfl (by omega) ((show (v10.toInt - 20) % 90 = 7 ∨ (v10.toInt - 20) % 90 = 21 ∨ (v10.toInt - 20) % 90 = 35 ∨ (v10.toInt - 20) % 90 = 49 ∨ (v10.toInt - 20) % 90 = 63 ∨ (v10.toInt - 20) % 90 = 77 from by omega).elim (fun q => (jrg_w (jrg_c J sg_126_20_18020_90_7_8 rfl (by omega)) (by decide))) (fun q => q.elim (fun q => (jrg_w (jrg_c J sg_126_20_18020_90_21_22 rfl (by omega)) (by decide))) (fun q => q.elim (fun q => (jrg_w (jrg_c J sg_126_20_18020_90_35_36 rfl (by omega)) (by decide))) (fun q => q.elim (fun q => (jrg_w (jrg_c J sg_126_20_18020_90_49_50 rfl (by omega)) (by decide))) (fun q => q.elim (fun q => (jrg_w (jrg_c J sg_126_20_18020_90_63_64 rfl (by omega)) (by decide))) (fun q => (jrg_w (jrg_c J sg_126_20_18020_90_77_78 rfl (by omega)) (by decide)))))))) (fun v11 qv11 ev11 => ?_)
  try rw [vrd qv11 (show (((((20 + (90 * (l2.toInt / 3))) + 6) + (28 * (l2.toInt % 3))) + (14 * l3.toInt)) + 1) = v10.toInt from by omega)] at D
  refine x_iconst (v := 1) rfl ki_1 ?_
  refine x_icne (tgt := 59) rfl rfl (ti_ne rfl jk_1 ⟨fun c12 => ?_, fun c12 => ?_⟩)
  ·
    rw [if_neg (by omega)] at D
    refine x_iconst (v := 0) rfl ki_0 ?_
    exact jX.sub (jsb_c rfl (jsb_c rfl jsb_n)) (ct_X12_areAlike_r125d_200060 hD hQ  0 h (jr_of jk_0 (by omega)) J Sm (by rw [jk_0]; exact D))
  ·
    rw [if_pos (by omega)] at D
    refine x_iconst (v := 1) rfl ki_1 ?_
    refine x_goto (tgt := 60) rfl rfl ?_
    exact jX.sub (jsb_c rfl (jsb_c rfl jsb_n)) (ct_X12_areAlike_r125d_300060 hD hQ  0 h (jr_of jk_0 (by omega)) J Sm (by rw [jk_0]; exact D))
set_option maxRecDepth 100000 in
set_option maxHeartbeats 4000000 in
theorem ct_X12_areAlike_r125d_300036 {Dy : jH → Prop} {h0 : jH} {Q : Option Value → jH → Prop} {dr : (Int × jW)} (hD : jDk Dy) (hQ : ∀ (v : Int32) hx9, 0 ≤ v.toInt ∧ v.toInt ≤ 1 → jJ jSgM Dy hx9 → jSm fp_X12_areAlike_r125d h0 hx9 → dr.1 = v.toInt → dr.2 = vw hx9 → Q (some (.int v)) hx9) : ∀ (l2 : Int32) (l3 : Int32) (h : jH), 0 ≤ l2.toInt ∧ l2.toInt ≤ 599 → 0 ≤ l3.toInt ∧ l3.toInt ≤ 1 → jJ jSgM Dy h → jSm fp_X12_areAlike_r125d h0 h → d_X12_areAlike_r125d_300036  l2.toInt l3.toInt (vw h) = dr → jX m_X12_areAlike 4 0 0 36 [(0, .ref 125), (2, .int l2), (3, .int l3)] [.int 1] h 0 0 Q := by
  intro l2 l3 h y0 y1   J Sm D
  unfold d_X12_areAlike_r125d_300036 at D
  refine x_istore (lsx9 := [(4, .int 1), (0, .ref 125), (2, .int l2), (3, .int l3)]) rfl rfl rfl ?_
  refine x_aloadn (x := 125) rfl rfl ?_
  refine z_getR (N := 92) (b := 126) 12 2 rfl f_12_8 rfl J rfl 16002 ⟨rfl, rfl⟩ rfl ?_
  refine x_aloadn (x := 125) rfl rfl ?_
  refine x_iloadn (x := l2) rfl rfl ?_
  refine x_iloadn (x := l3) rfl rfl ?_
  refine x_inv (N := m_X12_nameAt) (As := [.int l2, .int l3]) (b := 125) (st := [.ref 126]) (dx9 := 3) (mc := 0) (ms := 0) (host := "") 12 rfl t_X12_nameAt ⟨Or.inl q_12_311, i_X12_nameAt.1, i_X12_nameAt.2⟩ ⟨by decide, rfl⟩ (congrArg Prod.fst (J.1.1 125 (12, 92) rfl)) rfl (by decide) rfl rfl ⟨by decide, by decide⟩ (jC.of rfl k_X12_nameAt rfl ?_)
  show jX m_X12_nameAt 3 0 0 0 [(0, .ref 125), (1, .int l2), (2, .int l3)] [] _ 0 0 _
  refine x_aloadn (x := 125) rfl rfl ?_
  refine x_iloadn (x := l2) rfl rfl ?_
  refine x_iconst (v := 3) rfl ki_3 ?_
  refine z_idiv rfl rfl jk_3 (by omega) (by omega) (fun v1 ev1 => ?_)
  refine x_inv (N := m_X12_at) (As := [.int v1]) (b := 125) (st := []) (dx9 := 2) (mc := 0) (ms := 0) (host := "") 12 rfl t_X12_at ⟨Or.inl q_12_254, i_X12_at.1, i_X12_at.2⟩ ⟨by decide, rfl⟩ (congrArg Prod.fst (J.1.1 125 (12, 92) rfl)) rfl (by decide) rfl rfl ⟨by decide, by decide⟩ (jC.of rfl k_X12_at rfl ?_)
  show jX m_X12_at 2 0 0 0 [(0, .ref 125), (1, .int v1)] [] _ 0 0 _
  refine x_bipush (v := 20) rfl kb_20 ?_
  refine x_bipush (v := 90) rfl kb_90 ?_
  refine x_iloadn (x := v1) rfl rfl ?_
  refine z_imul rfl jk_90 rfl (by omega) (fun v2 ev2 => ?_)
  refine z_iadd rfl jk_20 rfl (by omega) (fun v3 ev3 => ?_)
  refine x_iret rfl rfl ?_
  show jX m_X12_nameAt 3 0 0 7 [(0, .ref 125), (1, .int l2), (2, .int l3)] [.int v3] _ 0 0 _
  refine x_bipush (v := 6) rfl kb_6 ?_
  refine z_iadd rfl rfl jk_6 (by omega) (fun v4 ev4 => ?_)
  refine x_bipush (v := 28) rfl kb_28 ?_
  refine x_iloadn (x := l2) rfl rfl ?_
  refine x_iconst (v := 3) rfl ki_3 ?_
  refine z_irem rfl rfl jk_3 (by omega) (by omega) (fun v5 ev5 => ?_)
  refine z_imul rfl jk_28 rfl (by omega) (fun v6 ev6 => ?_)
  refine z_iadd rfl rfl rfl (by omega) (fun v7 ev7 => ?_)
  refine x_bipush (v := 14) rfl kb_14 ?_
  refine x_iloadn (x := l3) rfl rfl ?_
  refine z_imul rfl jk_14 rfl (by omega) (fun v8 ev8 => ?_)
  refine z_iadd rfl rfl rfl (by omega) (fun v9 ev9 => ?_)
  have rnv9 := jnam (m := l2.toInt) (w := l3.toInt) (v := v9.toInt) (by omega) (by omega) (by omega)
  refine x_iret rfl rfl ?_
  show jX m_X12_areAlike 4 0 0 48 [(4, .int 1), (0, .ref 125), (2, .int l2), (3, .int l3)] [.int v9, .ref 126] _ 0 0 _
  refine x_iconst (v := 1) rfl ki_1 ?_
  refine z_iadd rfl rfl jk_1 (by omega) (fun v10 ev10 => ?_)
  refine z_ialdU (N := 50660) (lo := 0) (hi := 1) rfl J rfl rfl (by omega) ((show (v10.toInt - 20) % 90 = 7 ∨ (v10.toInt - 20) % 90 = 21 ∨ (v10.toInt - 20) % 90 = 35 ∨ (v10.toInt - 20) % 90 = 49 ∨ (v10.toInt - 20) % 90 = 63 ∨ (v10.toInt - 20) % 90 = 77 from by omega).elim (fun q => (jrg_w (jrg_c J sg_126_20_18020_90_7_8 rfl (by omega)) (by decide))) (fun q => q.elim (fun q => (jrg_w (jrg_c J sg_126_20_18020_90_21_22 rfl (by omega)) (by decide))) (fun q => q.elim (fun q => (jrg_w (jrg_c J sg_126_20_18020_90_35_36 rfl (by omega)) (by decide))) (fun q => q.elim (fun q => (jrg_w (jrg_c J sg_126_20_18020_90_49_50 rfl (by omega)) (by decide))) (fun q => q.elim (fun q => (jrg_w (jrg_c J sg_126_20_18020_90_63_64 rfl (by omega)) (by decide))) (fun q => (jrg_w (jrg_c J sg_126_20_18020_90_77_78 rfl (by omega)) (by decide)))))))) (fun v11 qv11 ev11 => ?_)
  try rw [vrd qv11 (show (((((20 + (90 * (l2.toInt / 3))) + 6) + (28 * (l2.toInt % 3))) + (14 * l3.toInt)) + 1) = v10.toInt from by omega)] at D
  refine x_iconst (v := 1) rfl ki_1 ?_
  refine x_icne (tgt := 59) rfl rfl (ti_ne rfl jk_1 ⟨fun c12 => ?_, fun c12 => ?_⟩)
  ·
    rw [if_neg (by omega)] at D
    refine x_iconst (v := 0) rfl ki_0 ?_
    exact jX.sub (jsb_c rfl (jsb_c rfl jsb_n)) (ct_X12_areAlike_r125d_200060 hD hQ  1 h (jr_of jk_1 (by omega)) J Sm (by rw [jk_1]; exact D))
  ·
    rw [if_pos (by omega)] at D
    refine x_iconst (v := 1) rfl ki_1 ?_
    refine x_goto (tgt := 60) rfl rfl ?_
    exact jX.sub (jsb_c rfl (jsb_c rfl jsb_n)) (ct_X12_areAlike_r125d_300060 hD hQ  1 h (jr_of jk_1 (by omega)) J Sm (by rw [jk_1]; exact D))
set_option maxRecDepth 100000 in
set_option maxHeartbeats 4000000 in
theorem sf_X12_areAlike_r125d {Dy : jH → Prop} {h : jH} {Q : Option Value → jH → Prop} {dr : (Int × jW)} {a1 : Int32} {a2 : Int32} {a3 : Int32} (y1 : 0 ≤ a1.toInt ∧ a1.toInt ≤ 599) (y2 : 0 ≤ a2.toInt ∧ a2.toInt ≤ 599) (y3 : 0 ≤ a3.toInt ∧ a3.toInt ≤ 1) (hD : jDk Dy) (J : jJ jSgM Dy h) (D : d_X12_areAlike_r125d a1.toInt a2.toInt a3.toInt (vw h) = dr) (hQ : ∀ (v : Int32) hx9, 0 ≤ v.toInt ∧ v.toInt ≤ 1 → jJ jSgM Dy hx9 → jSm fp_X12_areAlike_r125d h hx9 → dr.1 = v.toInt → dr.2 = vw hx9 → Q (some (.int v)) hx9) : jC m_X12_areAlike 4 0 0 [.ref 125, .int a1, .int a2, .int a3] h Q := by
  refine jC.of rfl k_X12_areAlike rfl ?_
  have Sm := jSm_rf fp_X12_areAlike_r125d h
  show jX m_X12_areAlike 4 0 0 0 [(0, .ref 125), (1, .int a1), (2, .int a2), (3, .int a3)] [] _ 0 0 _
  unfold d_X12_areAlike_r125d at D
  refine x_aloadn (x := 125) rfl rfl ?_
  refine x_iloadn (x := a1) rfl rfl ?_
  refine x_iloadn (x := a3) rfl rfl ?_
  refine x_iconst (v := 0) rfl ki_0 ?_
  refine x_inv (N := m_X12_fold) (As := [.int a1, .int a3, .int 0]) (b := 125) (st := []) (dx9 := 3) (mc := 0) (ms := 0) (host := "") 12 rfl t_X12_fold ⟨Or.inl q_12_325, i_X12_fold.1, i_X12_fold.2⟩ ⟨by decide, rfl⟩ (congrArg Prod.fst (J.1.1 125 (12, 92) rfl)) rfl (by decide) rfl rfl ⟨by decide, by decide⟩ (sf_X12_fold_r125d (jr_of rfl (by omega)) (jr_of rfl (by omega)) (jr_of jk_0 (by omega)) hD J rfl  (fun h J S1 X2 => ?_))
  have Sm := jSm_tr rfl Sm S1
  try rw [jk_0] at X2
  rw [X2] at D
  show jX m_X12_areAlike 4 0 0 7 [(0, .ref 125), (1, .int a1), (2, .int a2), (3, .int a3)] [] _ 0 0 _
  refine x_aloadn (x := 125) rfl rfl ?_
  refine x_iloadn (x := a2) rfl rfl ?_
  refine x_iloadn (x := a3) rfl rfl ?_
  refine x_iconst (v := 1) rfl ki_1 ?_
  refine x_inv (N := m_X12_fold) (As := [.int a2, .int a3, .int 1]) (b := 125) (st := []) (dx9 := 3) (mc := 0) (ms := 0) (host := "") 12 rfl t_X12_fold ⟨Or.inl q_12_325, i_X12_fold.1, i_X12_fold.2⟩ ⟨by decide, rfl⟩ (congrArg Prod.fst (J.1.1 125 (12, 92) rfl)) rfl (by decide) rfl rfl ⟨by decide, by decide⟩ (sf_X12_fold_r125d (jr_of rfl (by omega)) (jr_of rfl (by omega)) (jr_of jk_1 (by omega)) hD J rfl  (fun h J S3 X4 => ?_))
  have Sm := jSm_tr rfl Sm S3
  try rw [jk_1] at X4
  rw [X4] at D
  show jX m_X12_areAlike 4 0 0 14 [(0, .ref 125), (1, .int a1), (2, .int a2), (3, .int a3)] [] _ 0 0 _
  refine x_aloadn (x := 125) rfl rfl ?_
  refine z_getR (N := 92) (b := 126) 12 2 rfl f_12_8 rfl J rfl 16002 ⟨rfl, rfl⟩ rfl ?_
  refine x_aloadn (x := 125) rfl rfl ?_
  refine x_iloadn (x := a1) rfl rfl ?_
  refine x_iloadn (x := a3) rfl rfl ?_
  refine x_inv (N := m_X12_nameAt) (As := [.int a1, .int a3]) (b := 125) (st := [.ref 126]) (dx9 := 3) (mc := 0) (ms := 0) (host := "") 12 rfl t_X12_nameAt ⟨Or.inl q_12_311, i_X12_nameAt.1, i_X12_nameAt.2⟩ ⟨by decide, rfl⟩ (congrArg Prod.fst (J.1.1 125 (12, 92) rfl)) rfl (by decide) rfl rfl ⟨by decide, by decide⟩ (jC.of rfl k_X12_nameAt rfl ?_)
  show jX m_X12_nameAt 3 0 0 0 [(0, .ref 125), (1, .int a1), (2, .int a3)] [] _ 0 0 _
  refine x_aloadn (x := 125) rfl rfl ?_
  refine x_iloadn (x := a1) rfl rfl ?_
  refine x_iconst (v := 3) rfl ki_3 ?_
  refine z_idiv rfl rfl jk_3 (by omega) (by omega) (fun v5 ev5 => ?_)
  refine x_inv (N := m_X12_at) (As := [.int v5]) (b := 125) (st := []) (dx9 := 2) (mc := 0) (ms := 0) (host := "") 12 rfl t_X12_at ⟨Or.inl q_12_254, i_X12_at.1, i_X12_at.2⟩ ⟨by decide, rfl⟩ (congrArg Prod.fst (J.1.1 125 (12, 92) rfl)) rfl (by decide) rfl rfl ⟨by decide, by decide⟩ (jC.of rfl k_X12_at rfl ?_)
  show jX m_X12_at 2 0 0 0 [(0, .ref 125), (1, .int v5)] [] _ 0 0 _
  refine x_bipush (v := 20) rfl kb_20 ?_
  refine x_bipush (v := 90) rfl kb_90 ?_
  refine x_iloadn (x := v5) rfl rfl ?_
  refine z_imul rfl jk_90 rfl (by omega) (fun v6 ev6 => ?_)
  refine z_iadd rfl jk_20 rfl (by omega) (fun v7 ev7 => ?_)
  refine x_iret rfl rfl ?_
  show jX m_X12_nameAt 3 0 0 7 [(0, .ref 125), (1, .int a1), (2, .int a3)] [.int v7] _ 0 0 _
  refine x_bipush (v := 6) rfl kb_6 ?_
  refine z_iadd rfl rfl jk_6 (by omega) (fun v8 ev8 => ?_)
  refine x_bipush (v := 28) rfl kb_28 ?_
  refine x_iloadn (x := a1) rfl rfl ?_
  refine x_iconst (v := 3) rfl ki_3 ?_
  refine z_irem rfl rfl jk_3 (by omega) (by omega) (fun v9 ev9 => ?_)
  refine z_imul rfl jk_28 rfl (by omega) (fun v10 ev10 => ?_)
  refine z_iadd rfl rfl rfl (by omega) (fun v11 ev11 => ?_)
  refine x_bipush (v := 14) rfl kb_14 ?_
  refine x_iloadn (x := a3) rfl rfl ?_
  refine z_imul rfl jk_14 rfl (by omega) (fun v12 ev12 => ?_)
  refine z_iadd rfl rfl rfl (by omega) (fun v13 ev13 => ?_)
  have rnv13 := jnam (m := a1.toInt) (w := a3.toInt) (v := v13.toInt) (by omega) (by omega) (by omega)
  refine x_iret rfl rfl ?_
  show jX m_X12_areAlike 4 0 0 24 [(0, .ref 125), (1, .int a1), (2, .int a2), (3, .int a3)] [.int v13, .ref 126] _ 0 0 _
  refine x_iconst (v := 1) rfl ki_1 ?_
  refine z_iadd rfl rfl jk_1 (by omega) (fun v14 ev14 => ?_)
  refine z_ialdU (N := 50660) (lo := 0) (hi := 1) rfl J rfl rfl (by omega) ((show (v14.toInt - 20) % 90 = 7 ∨ (v14.toInt - 20) % 90 = 21 ∨ (v14.toInt - 20) % 90 = 35 ∨ (v14.toInt - 20) % 90 = 49 ∨ (v14.toInt - 20) % 90 = 63 ∨ (v14.toInt - 20) % 90 = 77 from by omega).elim (fun q => (jrg_w (jrg_c J sg_126_20_18020_90_7_8 rfl (by omega)) (by decide))) (fun q => q.elim (fun q => (jrg_w (jrg_c J sg_126_20_18020_90_21_22 rfl (by omega)) (by decide))) (fun q => q.elim (fun q => (jrg_w (jrg_c J sg_126_20_18020_90_35_36 rfl (by omega)) (by decide))) (fun q => q.elim (fun q => (jrg_w (jrg_c J sg_126_20_18020_90_49_50 rfl (by omega)) (by decide))) (fun q => q.elim (fun q => (jrg_w (jrg_c J sg_126_20_18020_90_63_64 rfl (by omega)) (by decide))) (fun q => (jrg_w (jrg_c J sg_126_20_18020_90_77_78 rfl (by omega)) (by decide)))))))) (fun v15 qv15 ev15 => ?_)
  try rw [vrd (jmb_c S1 (jmb_c S3 qv15 rfl) rfl) (show (((((20 + (90 * (a1.toInt / 3))) + 6) + (28 * (a1.toInt % 3))) + (14 * a3.toInt)) + 1) = v14.toInt from by omega)] at D
  refine x_iconst (v := 1) rfl ki_1 ?_
  refine x_icne (tgt := 35) rfl rfl (ti_ne rfl jk_1 ⟨fun c16 => ?_, fun c16 => ?_⟩)
  ·
    rw [if_neg (by omega)] at D
    refine x_iconst (v := 0) rfl ki_0 ?_
    exact jX.sub (jsb_c rfl (jsb_c rfl (jsb_c rfl jsb_n))) (ct_X12_areAlike_r125d_200036 hD hQ  a2 a3 h (jr_of rfl (by omega)) (jr_of rfl (by omega)) J Sm D)
  ·
    rw [if_pos (by omega)] at D
    refine x_iconst (v := 1) rfl ki_1 ?_
    refine x_goto (tgt := 36) rfl rfl ?_
    exact jX.sub (jsb_c rfl (jsb_c rfl (jsb_c rfl jsb_n))) (ct_X12_areAlike_r125d_300036 hD hQ  a2 a3 h (jr_of rfl (by omega)) (jr_of rfl (by omega)) J Sm D)
def fp_X12_areApart_r125d : jFp := []
set_option maxRecDepth 100000 in
set_option maxHeartbeats 4000000 in
theorem ct_X12_areApart_r125d_300081 {Dy : jH → Prop} {h0 : jH} {Q : Option Value → jH → Prop} {dr : Int} {K5 : Int → Int → Int → Int → jW → Int} {R5 : Int} (hD : jDk Dy) (hQ : ∀ (v : Int32) hx9, 0 ≤ v.toInt ∧ v.toInt ≤ 1 → jJ jSgM Dy hx9 → jSm fp_X12_areApart_r125d h0 hx9 → dr = v.toInt → vw hx9 = vw h0 → Q (some (.int v)) hx9) (k5 : ∀ (l1 : Int32) (l2 : Int32) (l3 : Int32) (l4 : Int32) (h : jH), 60 - l4.toInt < R5 → 0 ≤ l1.toInt ∧ l1.toInt ≤ 599 → 0 ≤ l2.toInt ∧ l2.toInt ≤ 599 → 0 ≤ l3.toInt ∧ l3.toInt ≤ 1 → 0 ≤ l4.toInt ∧ l4.toInt ≤ 60 → jJ jSgM Dy h → jSm fp_X12_areApart_r125d h0 h → K5 l1.toInt l2.toInt l3.toInt l4.toInt (vw h) = dr → vw h = vw h0 → jX m_X12_areApart 1 0 0 5 [(0, .ref 125), (1, .int l1), (2, .int l2), (3, .int l3), (4, .int l4)] [] h 0 0 Q) : ∀ (l1 : Int32) (l2 : Int32) (l4 : Int32) (h : jH), 0 ≤ l1.toInt ∧ l1.toInt ≤ 599 → 0 ≤ l2.toInt ∧ l2.toInt ≤ 599 → 0 ≤ l4.toInt ∧ l4.toInt ≤ 59 → 60 - l4.toInt ≤ R5 → jJ jSgM Dy h → jSm fp_X12_areApart_r125d h0 h → d_X12_areApart_r125d_300081 K5  l1.toInt l2.toInt l4.toInt (vw h) = dr → vw h = vw h0 → jX m_X12_areApart 1 0 0 81 [(0, .ref 125), (1, .int l1), (2, .int l2), (4, .int l4)] [.int 1] h 0 0 Q := by
  intro l1 l2 l4 h y0 y1 y2  m5 J Sm D EV
  unfold d_X12_areApart_r125d_300081 at D
  refine x_istoren (lsx9 := [(3, .int 1), (0, .ref 125), (1, .int l1), (2, .int l2), (4, .int l4)]) rfl rfl rfl ?_
  refine z_iinc (x := l4) (lsx9 := fun v1 => [(4, .int v1), (3, .int 1), (0, .ref 125), (1, .int l1), (2, .int l2)]) rfl rfl rfl jko_1 (by omega) rfl (fun _ => rfl) (fun v1 ev1 => ?_)
  refine x_goto (tgt := 5) rfl rfl ?_
  try rw [show (l4.toInt + 1) = v1.toInt from by omega] at D
  exact jX.sub (jsb_c rfl (jsb_c rfl (jsb_c rfl (jsb_c rfl (jsb_c rfl jsb_n))))) (k5 l1 l2 1 v1 h (by omega) (jr_of rfl (by omega)) (jr_of rfl (by omega)) (jr_of jk_1 (by omega)) (jr_of rfl (by omega)) J Sm (by rw [jk_1]; exact D) EV)
set_option maxRecDepth 100000 in
set_option maxHeartbeats 4000000 in
theorem ct_X12_areApart_r125d_200081 {Dy : jH → Prop} {h0 : jH} {Q : Option Value → jH → Prop} {dr : Int} {K5 : Int → Int → Int → Int → jW → Int} {R5 : Int} (hD : jDk Dy) (hQ : ∀ (v : Int32) hx9, 0 ≤ v.toInt ∧ v.toInt ≤ 1 → jJ jSgM Dy hx9 → jSm fp_X12_areApart_r125d h0 hx9 → dr = v.toInt → vw hx9 = vw h0 → Q (some (.int v)) hx9) (k5 : ∀ (l1 : Int32) (l2 : Int32) (l3 : Int32) (l4 : Int32) (h : jH), 60 - l4.toInt < R5 → 0 ≤ l1.toInt ∧ l1.toInt ≤ 599 → 0 ≤ l2.toInt ∧ l2.toInt ≤ 599 → 0 ≤ l3.toInt ∧ l3.toInt ≤ 1 → 0 ≤ l4.toInt ∧ l4.toInt ≤ 60 → jJ jSgM Dy h → jSm fp_X12_areApart_r125d h0 h → K5 l1.toInt l2.toInt l3.toInt l4.toInt (vw h) = dr → vw h = vw h0 → jX m_X12_areApart 1 0 0 5 [(0, .ref 125), (1, .int l1), (2, .int l2), (3, .int l3), (4, .int l4)] [] h 0 0 Q) : ∀ (l1 : Int32) (l2 : Int32) (l4 : Int32) (h : jH), 0 ≤ l1.toInt ∧ l1.toInt ≤ 599 → 0 ≤ l2.toInt ∧ l2.toInt ≤ 599 → 0 ≤ l4.toInt ∧ l4.toInt ≤ 59 → 60 - l4.toInt ≤ R5 → jJ jSgM Dy h → jSm fp_X12_areApart_r125d h0 h → d_X12_areApart_r125d_200081 K5  l1.toInt l2.toInt l4.toInt (vw h) = dr → vw h = vw h0 → jX m_X12_areApart 1 0 0 81 [(0, .ref 125), (1, .int l1), (2, .int l2), (4, .int l4)] [.int 0] h 0 0 Q := by
  intro l1 l2 l4 h y0 y1 y2  m5 J Sm D EV
  unfold d_X12_areApart_r125d_200081 at D
  refine x_istoren (lsx9 := [(3, .int 0), (0, .ref 125), (1, .int l1), (2, .int l2), (4, .int l4)]) rfl rfl rfl ?_
  refine z_iinc (x := l4) (lsx9 := fun v1 => [(4, .int v1), (3, .int 0), (0, .ref 125), (1, .int l1), (2, .int l2)]) rfl rfl rfl jko_1 (by omega) rfl (fun _ => rfl) (fun v1 ev1 => ?_)
  refine x_goto (tgt := 5) rfl rfl ?_
  try rw [show (l4.toInt + 1) = v1.toInt from by omega] at D
  exact jX.sub (jsb_c rfl (jsb_c rfl (jsb_c rfl (jsb_c rfl (jsb_c rfl jsb_n))))) (k5 l1 l2 0 v1 h (by omega) (jr_of rfl (by omega)) (jr_of rfl (by omega)) (jr_of jk_0 (by omega)) (jr_of rfl (by omega)) J Sm (by rw [jk_0]; exact D) EV)
set_option maxRecDepth 100000 in
set_option maxHeartbeats 4000000 in
theorem ct_X12_areApart_r125d_76 {Dy : jH → Prop} {h0 : jH} {Q : Option Value → jH → Prop} {dr : Int} {K5 : Int → Int → Int → Int → jW → Int} {R5 : Int} (hD : jDk Dy) (hQ : ∀ (v : Int32) hx9, 0 ≤ v.toInt ∧ v.toInt ≤ 1 → jJ jSgM Dy hx9 → jSm fp_X12_areApart_r125d h0 hx9 → dr = v.toInt → vw hx9 = vw h0 → Q (some (.int v)) hx9) (k5 : ∀ (l1 : Int32) (l2 : Int32) (l3 : Int32) (l4 : Int32) (h : jH), 60 - l4.toInt < R5 → 0 ≤ l1.toInt ∧ l1.toInt ≤ 599 → 0 ≤ l2.toInt ∧ l2.toInt ≤ 599 → 0 ≤ l3.toInt ∧ l3.toInt ≤ 1 → 0 ≤ l4.toInt ∧ l4.toInt ≤ 60 → jJ jSgM Dy h → jSm fp_X12_areApart_r125d h0 h → K5 l1.toInt l2.toInt l3.toInt l4.toInt (vw h) = dr → vw h = vw h0 → jX m_X12_areApart 1 0 0 5 [(0, .ref 125), (1, .int l1), (2, .int l2), (3, .int l3), (4, .int l4)] [] h 0 0 Q) : ∀ (l1 : Int32) (l2 : Int32) (l4 : Int32) (h : jH), 0 ≤ l1.toInt ∧ l1.toInt ≤ 599 → 0 ≤ l2.toInt ∧ l2.toInt ≤ 599 → 0 ≤ l4.toInt ∧ l4.toInt ≤ 59 → 60 - l4.toInt ≤ R5 → jJ jSgM Dy h → jSm fp_X12_areApart_r125d h0 h → d_X12_areApart_r125d_76 K5  l1.toInt l2.toInt l4.toInt (vw h) = dr → vw h = vw h0 → jX m_X12_areApart 1 0 0 76 [(0, .ref 125), (1, .int l1), (2, .int l2), (4, .int l4)] [] h 0 0 Q := by
  intro l1 l2 l4 h y0 y1 y2  m5 J Sm D EV
  unfold d_X12_areApart_r125d_76 at D
  refine x_iconst (v := 1) rfl ki_1 ?_
  refine x_goto (tgt := 81) rfl rfl ?_
  exact jX.sub (jsb_c rfl (jsb_c rfl (jsb_c rfl (jsb_c rfl jsb_n)))) (ct_X12_areApart_r125d_300081 hD hQ k5 l1 l2 l4 h (jr_of rfl (by omega)) (jr_of rfl (by omega)) (jr_of rfl (by omega)) (by omega) J Sm D EV)
set_option maxRecDepth 100000 in
set_option maxHeartbeats 4000000 in
theorem ct_X12_areApart_r125d_80 {Dy : jH → Prop} {h0 : jH} {Q : Option Value → jH → Prop} {dr : Int} {K5 : Int → Int → Int → Int → jW → Int} {R5 : Int} (hD : jDk Dy) (hQ : ∀ (v : Int32) hx9, 0 ≤ v.toInt ∧ v.toInt ≤ 1 → jJ jSgM Dy hx9 → jSm fp_X12_areApart_r125d h0 hx9 → dr = v.toInt → vw hx9 = vw h0 → Q (some (.int v)) hx9) (k5 : ∀ (l1 : Int32) (l2 : Int32) (l3 : Int32) (l4 : Int32) (h : jH), 60 - l4.toInt < R5 → 0 ≤ l1.toInt ∧ l1.toInt ≤ 599 → 0 ≤ l2.toInt ∧ l2.toInt ≤ 599 → 0 ≤ l3.toInt ∧ l3.toInt ≤ 1 → 0 ≤ l4.toInt ∧ l4.toInt ≤ 60 → jJ jSgM Dy h → jSm fp_X12_areApart_r125d h0 h → K5 l1.toInt l2.toInt l3.toInt l4.toInt (vw h) = dr → vw h = vw h0 → jX m_X12_areApart 1 0 0 5 [(0, .ref 125), (1, .int l1), (2, .int l2), (3, .int l3), (4, .int l4)] [] h 0 0 Q) : ∀ (l1 : Int32) (l2 : Int32) (l4 : Int32) (h : jH), 0 ≤ l1.toInt ∧ l1.toInt ≤ 599 → 0 ≤ l2.toInt ∧ l2.toInt ≤ 599 → 0 ≤ l4.toInt ∧ l4.toInt ≤ 59 → 60 - l4.toInt ≤ R5 → jJ jSgM Dy h → jSm fp_X12_areApart_r125d h0 h → d_X12_areApart_r125d_80 K5  l1.toInt l2.toInt l4.toInt (vw h) = dr → vw h = vw h0 → jX m_X12_areApart 1 0 0 80 [(0, .ref 125), (1, .int l1), (2, .int l2), (4, .int l4)] [] h 0 0 Q := by
  intro l1 l2 l4 h y0 y1 y2  m5 J Sm D EV
  unfold d_X12_areApart_r125d_80 at D
  refine x_iconst (v := 0) rfl ki_0 ?_
  exact jX.sub (jsb_c rfl (jsb_c rfl (jsb_c rfl (jsb_c rfl jsb_n)))) (ct_X12_areApart_r125d_200081 hD hQ k5 l1 l2 l4 h (jr_of rfl (by omega)) (jr_of rfl (by omega)) (jr_of rfl (by omega)) (by omega) J Sm D EV)
set_option maxRecDepth 100000 in
set_option maxHeartbeats 4000000 in
theorem ct_X12_areApart_r125d_64 {Dy : jH → Prop} {h0 : jH} {Q : Option Value → jH → Prop} {dr : Int} {K5 : Int → Int → Int → Int → jW → Int} {R5 : Int} (hD : jDk Dy) (hQ : ∀ (v : Int32) hx9, 0 ≤ v.toInt ∧ v.toInt ≤ 1 → jJ jSgM Dy hx9 → jSm fp_X12_areApart_r125d h0 hx9 → dr = v.toInt → vw hx9 = vw h0 → Q (some (.int v)) hx9) (k5 : ∀ (l1 : Int32) (l2 : Int32) (l3 : Int32) (l4 : Int32) (h : jH), 60 - l4.toInt < R5 → 0 ≤ l1.toInt ∧ l1.toInt ≤ 599 → 0 ≤ l2.toInt ∧ l2.toInt ≤ 599 → 0 ≤ l3.toInt ∧ l3.toInt ≤ 1 → 0 ≤ l4.toInt ∧ l4.toInt ≤ 60 → jJ jSgM Dy h → jSm fp_X12_areApart_r125d h0 h → K5 l1.toInt l2.toInt l3.toInt l4.toInt (vw h) = dr → vw h = vw h0 → jX m_X12_areApart 1 0 0 5 [(0, .ref 125), (1, .int l1), (2, .int l2), (3, .int l3), (4, .int l4)] [] h 0 0 Q) : ∀ (l1 : Int32) (l2 : Int32) (l4 : Int32) (l5 : Int32) (l6 : Int32) (h : jH), 0 ≤ l1.toInt ∧ l1.toInt ≤ 599 → 0 ≤ l2.toInt ∧ l2.toInt ≤ 599 → 0 ≤ l4.toInt ∧ l4.toInt ≤ 59 → 0 ≤ l5.toInt ∧ l5.toInt ≤ 599 → 0 ≤ l6.toInt ∧ l6.toInt ≤ 599 → 60 - l4.toInt ≤ R5 → jJ jSgM Dy h → jSm fp_X12_areApart_r125d h0 h → d_X12_areApart_r125d_64 K5  l1.toInt l2.toInt l4.toInt l5.toInt l6.toInt (vw h) = dr → vw h = vw h0 → jX m_X12_areApart 1 0 0 64 [(0, .ref 125), (1, .int l1), (2, .int l2), (4, .int l4), (5, .int l5), (6, .int l6)] [] h 0 0 Q := by
  intro l1 l2 l4 l5 l6 h y0 y1 y2 y3 y4  m5 J Sm D EV
  unfold d_X12_areApart_r125d_64 at D
  refine x_iload (x := l5) rfl rfl ?_
  refine x_iloadn (x := l2) rfl rfl ?_
  refine x_icne (tgt := 80) rfl rfl (ti_ne rfl rfl ⟨fun c1 => ?_, fun c1 => ?_⟩)
  ·
    rw [if_neg (by omega)] at D
    exact jX.sub (jsb_c rfl (jsb_c rfl (jsb_c rfl (jsb_c rfl jsb_n)))) (ct_X12_areApart_r125d_80 hD hQ k5 l1 l2 l4 h (jr_of rfl (by omega)) (jr_of rfl (by omega)) (jr_of rfl (by omega)) (by omega) J Sm D EV)
  ·
    rw [if_pos (by omega)] at D
    refine x_iload (x := l6) rfl rfl ?_
    refine x_iloadn (x := l1) rfl rfl ?_
    refine x_icne (tgt := 80) rfl rfl (ti_ne rfl rfl ⟨fun c2 => ?_, fun c2 => ?_⟩)
    ·
      rw [if_neg (by omega)] at D
      exact jX.sub (jsb_c rfl (jsb_c rfl (jsb_c rfl (jsb_c rfl jsb_n)))) (ct_X12_areApart_r125d_80 hD hQ k5 l1 l2 l4 h (jr_of rfl (by omega)) (jr_of rfl (by omega)) (jr_of rfl (by omega)) (by omega) J Sm D EV)
    ·
      rw [if_pos (by omega)] at D
      exact jX.sub (jsb_c rfl (jsb_c rfl (jsb_c rfl (jsb_c rfl jsb_n)))) (ct_X12_areApart_r125d_76 hD hQ k5 l1 l2 l4 h (jr_of rfl (by omega)) (jr_of rfl (by omega)) (jr_of rfl (by omega)) (by omega) J Sm D EV)
set_option maxRecDepth 100000 in
set_option maxHeartbeats 4000000 in
theorem ct_X12_areApart_r125d_5 {Dy : jH → Prop} {h0 : jH} {Q : Option Value → jH → Prop} {dr : Int} (hD : jDk Dy) (hQ : ∀ (v : Int32) hx9, 0 ≤ v.toInt ∧ v.toInt ≤ 1 → jJ jSgM Dy hx9 → jSm fp_X12_areApart_r125d h0 hx9 → dr = v.toInt → vw hx9 = vw h0 → Q (some (.int v)) hx9) : ∀ r : Nat, ∀ (l1 : Int32) (l2 : Int32) (l3 : Int32) (l4 : Int32) (h : jH), 60 - l4.toInt < (r : Int) → 0 ≤ l1.toInt ∧ l1.toInt ≤ 599 → 0 ≤ l2.toInt ∧ l2.toInt ≤ 599 → 0 ≤ l3.toInt ∧ l3.toInt ≤ 1 → 0 ≤ l4.toInt ∧ l4.toInt ≤ 60 → jJ jSgM Dy h → jSm fp_X12_areApart_r125d h0 h → d_X12_areApart_r125d_5 r l1.toInt l2.toInt l3.toInt l4.toInt (vw h) = dr → vw h = vw h0 → jX m_X12_areApart 1 0 0 5 [(0, .ref 125), (1, .int l1), (2, .int l2), (3, .int l3), (4, .int l4)] [] h 0 0 Q := by
  intro r
  induction r with
  | zero =>
    intro l1 l2 l3 l4 h hm y0 y1 y2 y3   J Sm D EV
    exfalso
    omega
  | succ r ih =>
    intro l1 l2 l3 l4 h hm y0 y1 y2 y3   J Sm D EV
    rw [d_X12_areApart_r125d_5.eq_2] at D
    refine x_iload (x := l4) rfl rfl ?_
    refine x_aloadn (x := 125) rfl rfl ?_
    refine z_getR (N := 92) (b := 126) 12 2 rfl f_12_8 rfl J rfl 16002 ⟨rfl, rfl⟩ rfl ?_
    refine x_iconst (v := 1) rfl ki_1 ?_
    refine z_iald (N := 50660) rfl J rfl sg_126_1_2_1_0_1 jk_1 (by omega) (fun v1 qv1 ev1 => ?_)
    try rw [vrn (n := 1) (by decide) qv1] at D
    refine x_icge (tgt := 88) rfl rfl (ti_ge rfl rfl ⟨fun c2 => ?_, fun c2 => ?_⟩)
    ·
      rw [if_pos (by omega)] at D
      refine x_iloadn (x := l3) rfl rfl ?_
      refine x_zret rfl rfl (jz01 (by omega)) ?_
      exact hQ _ _ (jr_of rfl (by omega)) J Sm (D.symm.trans (show l3.toInt = l3.toInt from by omega)) EV
    ·
      rw [if_neg (by omega)] at D
      refine x_aloadn (x := 125) rfl rfl ?_
      refine z_getR (N := 92) (b := 126) 12 2 rfl f_12_8 rfl J rfl 16002 ⟨rfl, rfl⟩ rfl ?_
      refine x_sipush (v := 18020) rfl ks_18020 ?_
      refine x_iconst (v := 2) rfl ki_2 ?_
      refine x_iload (x := l4) rfl rfl ?_
      refine z_imul rfl jk_2 rfl (by omega) (fun v3 ev3 => ?_)
      refine z_iadd rfl jk_18020 rfl (by omega) (fun v4 ev4 => ?_)
      refine z_iald (N := 50660) rfl J rfl sg_126_18020_18140_2_0_1 rfl (by omega) (fun v5 qv5 ev5 => ?_)
      try rw [vrd qv5 (show (18020 + (2 * l4.toInt)) = v4.toInt from by omega)] at D
      refine x_istore (lsx9 := [(5, .int v5), (0, .ref 125), (1, .int l1), (2, .int l2), (3, .int l3), (4, .int l4)]) rfl rfl rfl ?_
      refine x_aloadn (x := 125) rfl rfl ?_
      refine z_getR (N := 92) (b := 126) 12 2 rfl f_12_8 rfl J rfl 16002 ⟨rfl, rfl⟩ rfl ?_
      refine x_sipush (v := 18020) rfl ks_18020 ?_
      refine x_iconst (v := 2) rfl ki_2 ?_
      refine x_iload (x := l4) rfl rfl ?_
      refine z_imul rfl jk_2 rfl (by omega) (fun v6 ev6 => ?_)
      refine z_iadd rfl jk_18020 rfl (by omega) (fun v7 ev7 => ?_)
      refine x_iconst (v := 1) rfl ki_1 ?_
      refine z_iadd rfl rfl jk_1 (by omega) (fun v8 ev8 => ?_)
      refine z_iald (N := 50660) rfl J rfl sg_126_18020_18140_2_1_2 rfl (by omega) (fun v9 qv9 ev9 => ?_)
      try rw [vrd qv9 (show ((18020 + (2 * l4.toInt)) + 1) = v8.toInt from by omega)] at D
      refine x_istore (lsx9 := [(6, .int v9), (5, .int v5), (0, .ref 125), (1, .int l1), (2, .int l2), (3, .int l3), (4, .int l4)]) rfl rfl rfl ?_
      refine x_iloadn (x := l3) rfl rfl ?_
      refine x_ifne (tgt := 76) rfl rfl (ti_ne rfl jk_0 ⟨fun c10 => ?_, fun c10 => ?_⟩)
      ·
        rw [if_neg (by omega)] at D
        exact jX.sub (jsb_c rfl (jsb_c rfl (jsb_c rfl (jsb_c rfl jsb_n)))) (ct_X12_areApart_r125d_76 hD hQ ih l1 l2 l4 h (jr_of rfl (by omega)) (jr_of rfl (by omega)) (jr_of rfl (by omega)) (by omega) J Sm D EV)
      ·
        rw [if_pos (by omega)] at D
        refine x_iload (x := v5) rfl rfl ?_
        refine x_iloadn (x := l1) rfl rfl ?_
        refine x_icne (tgt := 64) rfl rfl (ti_ne rfl rfl ⟨fun c11 => ?_, fun c11 => ?_⟩)
        ·
          rw [if_neg (by omega)] at D
          exact jX.sub (jsb_c rfl (jsb_c rfl (jsb_c rfl (jsb_c rfl (jsb_c rfl (jsb_c rfl jsb_n)))))) (ct_X12_areApart_r125d_64 hD hQ ih l1 l2 l4 v5 v9 h (jr_of rfl (by omega)) (jr_of rfl (by omega)) (jr_of rfl (by omega)) (jr_of rfl (by omega)) (jr_of rfl (by omega)) (by omega) J Sm D EV)
        ·
          rw [if_pos (by omega)] at D
          refine x_iload (x := v9) rfl rfl ?_
          refine x_iloadn (x := l2) rfl rfl ?_
          refine x_iceq (tgt := 76) rfl rfl (ti_eq rfl rfl ⟨fun c12 => ?_, fun c12 => ?_⟩)
          ·
            rw [if_pos (by omega)] at D
            exact jX.sub (jsb_c rfl (jsb_c rfl (jsb_c rfl (jsb_c rfl jsb_n)))) (ct_X12_areApart_r125d_76 hD hQ ih l1 l2 l4 h (jr_of rfl (by omega)) (jr_of rfl (by omega)) (jr_of rfl (by omega)) (by omega) J Sm D EV)
          ·
            rw [if_neg (by omega)] at D
            exact jX.sub (jsb_c rfl (jsb_c rfl (jsb_c rfl (jsb_c rfl (jsb_c rfl (jsb_c rfl jsb_n)))))) (ct_X12_areApart_r125d_64 hD hQ ih l1 l2 l4 v5 v9 h (jr_of rfl (by omega)) (jr_of rfl (by omega)) (jr_of rfl (by omega)) (jr_of rfl (by omega)) (jr_of rfl (by omega)) (by omega) J Sm D EV)
set_option maxRecDepth 100000 in
set_option maxHeartbeats 4000000 in
theorem sf_X12_areApart_r125d {Dy : jH → Prop} {h : jH} {Q : Option Value → jH → Prop} {dr : Int} {a1 : Int32} {a2 : Int32} (y1 : 0 ≤ a1.toInt ∧ a1.toInt ≤ 599) (y2 : 0 ≤ a2.toInt ∧ a2.toInt ≤ 599) (hD : jDk Dy) (J : jJ jSgM Dy h) (D : d_X12_areApart_r125d a1.toInt a2.toInt (vw h) = dr) (hQ : ∀ (v : Int32) hx9, 0 ≤ v.toInt ∧ v.toInt ≤ 1 → jJ jSgM Dy hx9 → jSm fp_X12_areApart_r125d h hx9 → dr = v.toInt → vw hx9 = vw h → Q (some (.int v)) hx9) : jC m_X12_areApart 1 0 0 [.ref 125, .int a1, .int a2] h Q := by
  refine jC.of rfl k_X12_areApart rfl ?_
  have Sm := jSm_rf fp_X12_areApart_r125d h
  show jX m_X12_areApart 1 0 0 0 [(0, .ref 125), (1, .int a1), (2, .int a2)] [] _ 0 0 _
  unfold d_X12_areApart_r125d at D
  have EV : vw h = vw h := rfl
  refine x_iconst (v := 0) rfl ki_0 ?_
  refine x_istoren (lsx9 := [(3, .int 0), (0, .ref 125), (1, .int a1), (2, .int a2)]) rfl rfl rfl ?_
  refine x_iconst (v := 0) rfl ki_0 ?_
  refine x_istore (lsx9 := [(4, .int 0), (3, .int 0), (0, .ref 125), (1, .int a1), (2, .int a2)]) rfl rfl rfl ?_
  exact jX.sub (jsb_c rfl (jsb_c rfl (jsb_c rfl (jsb_c rfl (jsb_c rfl jsb_n))))) (ct_X12_areApart_r125d_5 hD hQ  61 a1 a2 0 0 h (by have := jk_0; omega) (jr_of rfl (by omega)) (jr_of rfl (by omega)) (jr_of jk_0 (by omega)) (jr_of jk_0 (by omega)) J Sm (by rw [jk_0]; exact D) EV)
def fp_X12_barsByAge_r125d : jFp := []
set_option maxRecDepth 100000 in
set_option maxHeartbeats 4000000 in
theorem ct_X12_barsByAge_r125d_16 {Dy : jH → Prop} {h0 : jH} {Q : Option Value → jH → Prop} {dr : Int} (hD : jDk Dy) (hQ : ∀ (v : Int32) hx9, 0 ≤ v.toInt ∧ v.toInt ≤ 1 → jJ jSgM Dy hx9 → jSm fp_X12_barsByAge_r125d h0 hx9 → dr = v.toInt → vw hx9 = vw h0 → Q (some (.int v)) hx9) : ∀ (h : jH), jJ jSgM Dy h → jSm fp_X12_barsByAge_r125d h0 h → d_X12_barsByAge_r125d_16  (vw h) = dr → vw h = vw h0 → jX m_X12_barsByAge 5 0 0 16 [] [] h 0 0 Q := by
  intro  h    J Sm D EV
  unfold d_X12_barsByAge_r125d_16 at D
  refine x_iconst (v := 0) rfl ki_0 ?_
  refine x_zret rfl rfl (by decide) ?_
  exact hQ _ _ (jr_of jk_0 (by omega)) J Sm (D.symm.trans (show 0 = (0 : Int32).toInt from by have := jk_0; omega)) EV
set_option maxRecDepth 100000 in
set_option maxHeartbeats 4000000 in
theorem ct_X12_barsByAge_r125d_200075 {Dy : jH → Prop} {h0 : jH} {Q : Option Value → jH → Prop} {dr : Int} (hD : jDk Dy) (hQ : ∀ (v : Int32) hx9, 0 ≤ v.toInt ∧ v.toInt ≤ 1 → jJ jSgM Dy hx9 → jSm fp_X12_barsByAge_r125d h0 hx9 → dr = v.toInt → vw hx9 = vw h0 → Q (some (.int v)) hx9) : ∀ (h : jH), jJ jSgM Dy h → jSm fp_X12_barsByAge_r125d h0 h → d_X12_barsByAge_r125d_200075  (vw h) = dr → vw h = vw h0 → jX m_X12_barsByAge 5 0 0 75 [] [.int 0] h 0 0 Q := by
  intro  h    J Sm D EV
  unfold d_X12_barsByAge_r125d_200075 at D
  refine x_zret rfl rfl (by decide) ?_
  exact hQ _ _ (jr_of jk_0 (by omega)) J Sm (D.symm.trans (show 0 = (0 : Int32).toInt from by have := jk_0; omega)) EV
set_option maxRecDepth 100000 in
set_option maxHeartbeats 4000000 in
theorem ct_X12_barsByAge_r125d_300075 {Dy : jH → Prop} {h0 : jH} {Q : Option Value → jH → Prop} {dr : Int} (hD : jDk Dy) (hQ : ∀ (v : Int32) hx9, 0 ≤ v.toInt ∧ v.toInt ≤ 1 → jJ jSgM Dy hx9 → jSm fp_X12_barsByAge_r125d h0 hx9 → dr = v.toInt → vw hx9 = vw h0 → Q (some (.int v)) hx9) : ∀ (h : jH), jJ jSgM Dy h → jSm fp_X12_barsByAge_r125d h0 h → d_X12_barsByAge_r125d_300075  (vw h) = dr → vw h = vw h0 → jX m_X12_barsByAge 5 0 0 75 [] [.int 1] h 0 0 Q := by
  intro  h    J Sm D EV
  unfold d_X12_barsByAge_r125d_300075 at D
  refine x_zret rfl rfl (by decide) ?_
  exact hQ _ _ (jr_of jk_1 (by omega)) J Sm (D.symm.trans (show 1 = (1 : Int32).toInt from by have := jk_1; omega)) EV
set_option maxRecDepth 100000 in
set_option maxHeartbeats 4000000 in
theorem ct_X12_barsByAge_r125d_70 {Dy : jH → Prop} {h0 : jH} {Q : Option Value → jH → Prop} {dr : Int} (hD : jDk Dy) (hQ : ∀ (v : Int32) hx9, 0 ≤ v.toInt ∧ v.toInt ≤ 1 → jJ jSgM Dy hx9 → jSm fp_X12_barsByAge_r125d h0 hx9 → dr = v.toInt → vw hx9 = vw h0 → Q (some (.int v)) hx9) : ∀ (h : jH), jJ jSgM Dy h → jSm fp_X12_barsByAge_r125d h0 h → d_X12_barsByAge_r125d_70  (vw h) = dr → vw h = vw h0 → jX m_X12_barsByAge 5 0 0 70 [] [] h 0 0 Q := by
  intro  h    J Sm D EV
  unfold d_X12_barsByAge_r125d_70 at D
  refine x_iconst (v := 1) rfl ki_1 ?_
  refine x_goto (tgt := 75) rfl rfl ?_
  exact jX.sub jsb_n (ct_X12_barsByAge_r125d_300075 hD hQ  h J Sm D EV)
set_option maxRecDepth 100000 in
set_option maxHeartbeats 4000000 in
theorem sf_X12_barsByAge_r125d {Dy : jH → Prop} {h : jH} {Q : Option Value → jH → Prop} {dr : Int} {a1 : Int32} {a2 : Int32} (y1 : 0 ≤ a1.toInt ∧ a1.toInt ≤ 599) (y2 : 0 ≤ a2.toInt ∧ a2.toInt ≤ 599) (hD : jDk Dy) (J : jJ jSgM Dy h) (D : d_X12_barsByAge_r125d a1.toInt a2.toInt (vw h) = dr) (hQ : ∀ (v : Int32) hx9, 0 ≤ v.toInt ∧ v.toInt ≤ 1 → jJ jSgM Dy hx9 → jSm fp_X12_barsByAge_r125d h hx9 → dr = v.toInt → vw hx9 = vw h → Q (some (.int v)) hx9) : jC m_X12_barsByAge 5 0 0 [.ref 125, .int a1, .int a2] h Q := by
  refine jC.of rfl k_X12_barsByAge rfl ?_
  have Sm := jSm_rf fp_X12_barsByAge_r125d h
  show jX m_X12_barsByAge 5 0 0 0 [(0, .ref 125), (1, .int a1), (2, .int a2)] [] _ 0 0 _
  unfold d_X12_barsByAge_r125d at D
  have EV : vw h = vw h := rfl
  refine x_aloadn (x := 125) rfl rfl ?_
  refine x_iloadn (x := a1) rfl rfl ?_
  refine x_inv (N := m_X12_partOf) (As := [.int a1]) (b := 125) (st := []) (dx9 := 3) (mc := 0) (ms := 0) (host := "") 12 rfl t_X12_partOf ⟨Or.inl q_12_338, i_X12_partOf.1, i_X12_partOf.2⟩ ⟨by decide, rfl⟩ (congrArg Prod.fst (J.1.1 125 (12, 92) rfl)) rfl (by decide) rfl rfl ⟨by decide, by decide⟩ (sf_X12_partOf_r125d (jr_of rfl (by omega)) hD J rfl  (fun v4 h ev4 J S1 X2 X3 => ?_))
  have Sm := jSm_tr rfl Sm S1
  try rw [X2] at D
  try rw [← X3] at D
  have EV := X3.trans EV
  show jX m_X12_barsByAge 5 0 0 5 [(0, .ref 125), (1, .int a1), (2, .int a2)] [.int v4] _ 0 0 _
  refine x_ifne (tgt := 16) rfl rfl (ti_ne rfl jk_0 ⟨fun c5 => ?_, fun c5 => ?_⟩)
  ·
    rw [if_neg (by omega)] at D
    exact jX.sub jsb_n (ct_X12_barsByAge_r125d_16 hD hQ  h J Sm D EV)
  ·
    rw [if_pos (by omega)] at D
    refine x_aloadn (x := 125) rfl rfl ?_
    refine x_iloadn (x := a2) rfl rfl ?_
    refine x_inv (N := m_X12_hasAge) (As := [.int a2]) (b := 125) (st := []) (dx9 := 4) (mc := 0) (ms := 0) (host := "") 12 rfl t_X12_hasAge ⟨Or.inl q_12_350, i_X12_hasAge.1, i_X12_hasAge.2⟩ ⟨by decide, rfl⟩ (congrArg Prod.fst (J.1.1 125 (12, 92) rfl)) rfl (by decide) rfl rfl ⟨by decide, by decide⟩ (sf_X12_hasAge_r125d (jr_of rfl (by omega)) hD J rfl  (fun v9 h ev9 J S6 X7 X8 => ?_))
    have Sm := jSm_tr rfl Sm S6
    try rw [X7] at D
    try rw [← X8] at D
    have EV := X8.trans EV
    show jX m_X12_barsByAge 5 0 0 13 [(0, .ref 125), (1, .int a1), (2, .int a2)] [.int v9] _ 0 0 _
    refine x_ifne (tgt := 18) rfl rfl (ti_ne rfl jk_0 ⟨fun c10 => ?_, fun c10 => ?_⟩)
    ·
      rw [if_neg (by omega)] at D
      refine x_aloadn (x := 125) rfl rfl ?_
      refine x_iloadn (x := a2) rfl rfl ?_
      refine x_inv (N := m_X12_dayAt) (As := [.int a2]) (b := 125) (st := []) (dx9 := 3) (mc := 0) (ms := 0) (host := "") 12 rfl t_X12_dayAt ⟨Or.inl q_12_347, i_X12_dayAt.1, i_X12_dayAt.2⟩ ⟨by decide, rfl⟩ (congrArg Prod.fst (J.1.1 125 (12, 92) rfl)) rfl (by decide) rfl rfl ⟨by decide, by decide⟩ (sf_X12_dayAt_r125d (jr_of rfl (by omega)) hD J rfl  (fun v14 h ev14 J S11 X12 X13 => ?_))
      have Sm := jSm_tr rfl Sm S11
      try rw [X12] at D
      try rw [← X13] at D
      have EV := X13.trans EV
      show jX m_X12_barsByAge 5 0 0 23 [(0, .ref 125), (1, .int a1), (2, .int a2)] [.int v14] _ 0 0 _
      refine z_i2l rfl rfl (fun v15 ev15 => ?_)
      refine x_ldc2 (v := 366) rfl z_12_353 ?_
      refine z_ldivW rfl rfl jkl_366 (by omega) (fun v16 ev16 => ?_)
      have fv16 := jfullL v16
      try rw [show v14.toInt = v15.toInt from by omega] at D
      try rw [← ev16] at D
      refine x_aloadn (x := 125) rfl rfl ?_
      refine x_iloadn (x := a1) rfl rfl ?_
      refine x_inv (N := m_X12_dayAt) (As := [.int a1]) (b := 125) (st := [.long v16]) (dx9 := 3) (mc := 0) (ms := 0) (host := "") 12 rfl t_X12_dayAt ⟨Or.inl q_12_347, i_X12_dayAt.1, i_X12_dayAt.2⟩ ⟨by decide, rfl⟩ (congrArg Prod.fst (J.1.1 125 (12, 92) rfl)) rfl (by decide) rfl rfl ⟨by decide, by decide⟩ (sf_X12_dayAt_r125d (jr_of rfl (by omega)) hD J rfl  (fun v20 h ev20 J S17 X18 X19 => ?_))
      have Sm := jSm_tr rfl Sm S17
      try rw [X18] at D
      try rw [← X19] at D
      have EV := X19.trans EV
      show jX m_X12_barsByAge 5 0 0 33 [(0, .ref 125), (1, .int a1), (2, .int a2)] [.int v20, .long v16] _ 0 0 _
      refine x_sipush (v := 366) rfl ks_366 ?_
      refine z_idiv rfl rfl jk_366 (by omega) (by omega) (fun v21 ev21 => ?_)
      refine z_i2l rfl rfl (fun v22 ev22 => ?_)
      refine z_lsubW rfl rfl rfl (fun v23 ev23 => ?_)
      have fv23 := jfullL v23
      try rw [show (v20.toInt / 366) = v22.toInt from by omega] at D
      try rw [← ev23] at D
      refine x_aloadn (x := 125) rfl rfl ?_
      refine x_iloadn (x := a2) rfl rfl ?_
      refine x_iconst (v := 3) rfl ki_3 ?_
      refine z_idiv rfl rfl jk_3 (by omega) (by omega) (fun v24 ev24 => ?_)
      refine x_inv (N := m_X12_numberOf) (As := [.int v24]) (b := 125) (st := [.long v23]) (dx9 := 4) (mc := 0) (ms := 0) (host := "") 12 rfl t_X12_numberOf ⟨Or.inl q_12_296, i_X12_numberOf.1, i_X12_numberOf.2⟩ ⟨by decide, rfl⟩ (congrArg Prod.fst (J.1.1 125 (12, 92) rfl)) rfl (by decide) rfl rfl ⟨by decide, by decide⟩ (jC.of rfl k_X12_numberOf rfl ?_)
      show jX m_X12_numberOf 4 0 0 0 [(0, .ref 125), (1, .int v24)] [] _ 0 0 _
      refine x_aloadn (x := 125) rfl rfl ?_
      refine z_getR (N := 92) (b := 126) 12 2 rfl f_12_8 rfl J rfl 16002 ⟨rfl, rfl⟩ rfl ?_
      refine x_aloadn (x := 125) rfl rfl ?_
      refine x_iloadn (x := v24) rfl rfl ?_
      refine x_inv (N := m_X12_at) (As := [.int v24]) (b := 125) (st := [.ref 126]) (dx9 := 3) (mc := 0) (ms := 0) (host := "") 12 rfl t_X12_at ⟨Or.inl q_12_254, i_X12_at.1, i_X12_at.2⟩ ⟨by decide, rfl⟩ (congrArg Prod.fst (J.1.1 125 (12, 92) rfl)) rfl (by decide) rfl rfl ⟨by decide, by decide⟩ (jC.of rfl k_X12_at rfl ?_)
      show jX m_X12_at 3 0 0 0 [(0, .ref 125), (1, .int v24)] [] _ 0 0 _
      refine x_bipush (v := 20) rfl kb_20 ?_
      refine x_bipush (v := 90) rfl kb_90 ?_
      refine x_iloadn (x := v24) rfl rfl ?_
      refine z_imul rfl jk_90 rfl (by omega) (fun v25 ev25 => ?_)
      refine z_iadd rfl jk_20 rfl (by omega) (fun v26 ev26 => ?_)
      refine x_iret rfl rfl ?_
      show jX m_X12_numberOf 4 0 0 9 [(0, .ref 125), (1, .int v24)] [.int v26, .ref 126] _ 0 0 _
      refine x_iconst (v := 4) rfl ki_4 ?_
      refine z_iadd rfl rfl jk_4 (by omega) (fun v27 ev27 => ?_)
      refine z_iald0 (N := 50660) rfl J rfl rfl (by omega) (fun v28 qv28 => ?_)
      have ev28 := jfull v28
      try rw [vrd qv28 (show ((20 + (90 * (a2.toInt / 3))) + 4) = v27.toInt from by omega)] at D
      refine x_iret rfl rfl ?_
      show jX m_X12_barsByAge 5 0 0 46 [(0, .ref 125), (1, .int a1), (2, .int a2)] [.int v28, .long v23] _ 0 0 _
      refine z_i2l rfl rfl (fun v29 ev29 => ?_)
      refine z_lsubW rfl rfl rfl (fun v30 ev30 => ?_)
      have fv30 := jfullL v30
      try rw [show v28.toInt = v29.toInt from by omega] at D
      try rw [← ev30] at D
      refine x_lstoren (lsx9 := [(3, .long v30), (0, .ref 125), (1, .int a1), (2, .int a2)]) rfl rfl rfl ?_
      refine x_lloadn (x := v30) rfl rfl ?_
      refine x_aloadn (x := 125) rfl rfl ?_
      refine z_getI (N := 92) 12 27 rfl f_12_69 rfl J rfl sg_125_27_28_1_0_1 (fun v31 qv31 ev31 => ?_)
      try rw [vrf qv31] at D
      refine z_i2l rfl rfl (fun v32 ev32 => ?_)
      refine z_lcmp rfl rfl rfl (fun v33 ev33 => ?_)
      refine x_ifgt (tgt := 70) rfl rfl (ti_gt rfl jk_0 ⟨fun c34 => ?_, fun c34 => ?_⟩)
      ·
        rw [if_pos (by omega)] at D
        exact jX.sub jsb_n (ct_X12_barsByAge_r125d_70 hD hQ  h J Sm D EV)
      ·
        rw [if_neg (by omega)] at D
        refine x_lloadn (x := v30) rfl rfl ?_
        refine z_lnegD rfl rfl (fun v35 ev35 => ?_)
        have fv35 := jfullL v35
        try rw [← ev35] at D
        refine x_aloadn (x := 125) rfl rfl ?_
        refine z_getM (N := 92) (v := v31) 12 27 rfl f_12_69 rfl J rfl qv31 ?_
        refine z_i2l rfl rfl (fun v36 ev36 => ?_)
        refine z_lcmp rfl rfl rfl (fun v37 ev37 => ?_)
        refine x_ifle (tgt := 74) rfl rfl (ti_le rfl jk_0 ⟨fun c38 => ?_, fun c38 => ?_⟩)
        ·
          rw [if_pos (by omega)] at D
          refine x_iconst (v := 0) rfl ki_0 ?_
          exact jX.sub jsb_n (ct_X12_barsByAge_r125d_200075 hD hQ  h J Sm D EV)
        ·
          rw [if_neg (by omega)] at D
          exact jX.sub jsb_n (ct_X12_barsByAge_r125d_70 hD hQ  h J Sm D EV)
    ·
      rw [if_pos (by omega)] at D
      exact jX.sub jsb_n (ct_X12_barsByAge_r125d_16 hD hQ  h J Sm D EV)
def fp_X12_barsByDay_r125d : jFp := []
set_option maxRecDepth 100000 in
set_option maxHeartbeats 4000000 in
theorem ct_X12_barsByDay_r125d_200138 {Dy : jH → Prop} {h0 : jH} {Q : Option Value → jH → Prop} {dr : Int} (hD : jDk Dy) (hQ : ∀ (v : Int32) hx9, 0 ≤ v.toInt ∧ v.toInt ≤ 1 → jJ jSgM Dy hx9 → jSm fp_X12_barsByDay_r125d h0 hx9 → dr = v.toInt → vw hx9 = vw h0 → Q (some (.int v)) hx9) : ∀ (h : jH), jJ jSgM Dy h → jSm fp_X12_barsByDay_r125d h0 h → d_X12_barsByDay_r125d_200138  (vw h) = dr → vw h = vw h0 → jX m_X12_barsByDay 4 0 0 138 [] [.int 0] h 0 0 Q := by
  intro  h    J Sm D EV
  unfold d_X12_barsByDay_r125d_200138 at D
  refine x_zret rfl rfl (by decide) ?_
  exact hQ _ _ (jr_of jk_0 (by omega)) J Sm (D.symm.trans (show 0 = (0 : Int32).toInt from by have := jk_0; omega)) EV
set_option maxRecDepth 100000 in
set_option maxHeartbeats 4000000 in
theorem ct_X12_barsByDay_r125d_300138 {Dy : jH → Prop} {h0 : jH} {Q : Option Value → jH → Prop} {dr : Int} (hD : jDk Dy) (hQ : ∀ (v : Int32) hx9, 0 ≤ v.toInt ∧ v.toInt ≤ 1 → jJ jSgM Dy hx9 → jSm fp_X12_barsByDay_r125d h0 hx9 → dr = v.toInt → vw hx9 = vw h0 → Q (some (.int v)) hx9) : ∀ (h : jH), jJ jSgM Dy h → jSm fp_X12_barsByDay_r125d h0 h → d_X12_barsByDay_r125d_300138  (vw h) = dr → vw h = vw h0 → jX m_X12_barsByDay 4 0 0 138 [] [.int 1] h 0 0 Q := by
  intro  h    J Sm D EV
  unfold d_X12_barsByDay_r125d_300138 at D
  refine x_zret rfl rfl (by decide) ?_
  exact hQ _ _ (jr_of jk_1 (by omega)) J Sm (D.symm.trans (show 1 = (1 : Int32).toInt from by have := jk_1; omega)) EV
set_option maxRecDepth 100000 in
set_option maxHeartbeats 4000000 in
theorem ct_X12_barsByDay_r125d_137 {Dy : jH → Prop} {h0 : jH} {Q : Option Value → jH → Prop} {dr : Int} (hD : jDk Dy) (hQ : ∀ (v : Int32) hx9, 0 ≤ v.toInt ∧ v.toInt ≤ 1 → jJ jSgM Dy hx9 → jSm fp_X12_barsByDay_r125d h0 hx9 → dr = v.toInt → vw hx9 = vw h0 → Q (some (.int v)) hx9) : ∀ (h : jH), jJ jSgM Dy h → jSm fp_X12_barsByDay_r125d h0 h → d_X12_barsByDay_r125d_137  (vw h) = dr → vw h = vw h0 → jX m_X12_barsByDay 4 0 0 137 [] [] h 0 0 Q := by
  intro  h    J Sm D EV
  unfold d_X12_barsByDay_r125d_137 at D
  refine x_iconst (v := 0) rfl ki_0 ?_
  exact jX.sub jsb_n (ct_X12_barsByDay_r125d_200138 hD hQ  h J Sm D EV)
set_option maxRecDepth 100000 in
set_option maxHeartbeats 4000000 in
theorem ct_X12_barsByDay_r125d_200129 {Dy : jH → Prop} {h0 : jH} {Q : Option Value → jH → Prop} {dr : Int} (hD : jDk Dy) (hQ : ∀ (v : Int32) hx9, 0 ≤ v.toInt ∧ v.toInt ≤ 1 → jJ jSgM Dy hx9 → jSm fp_X12_barsByDay_r125d h0 hx9 → dr = v.toInt → vw hx9 = vw h0 → Q (some (.int v)) hx9) : ∀ (s1 : Int32) (s2 : Int32) (h : jH), 0 ≤ s1.toInt ∧ s1.toInt ≤ 146399 → 0 ≤ s2.toInt ∧ s2.toInt ≤ 146399 → jJ jSgM Dy h → jSm fp_X12_barsByDay_r125d h0 h → d_X12_barsByDay_r125d_200129  s1.toInt s2.toInt (vw h) = dr → vw h = vw h0 → jX m_X12_barsByDay 4 0 0 129 [] [.int 0, .int s1, .int s2] h 0 0 Q := by
  intro s1 s2 h y0 y1   J Sm D EV
  unfold d_X12_barsByDay_r125d_200129 at D
  refine z_iadd rfl rfl jk_0 (by omega) (fun v1 ev1 => ?_)
  refine x_icle (tgt := 137) rfl rfl (ti_le rfl rfl ⟨fun c2 => ?_, fun c2 => ?_⟩)
  ·
    rw [if_pos (by omega)] at D
    exact jX.sub jsb_n (ct_X12_barsByDay_r125d_137 hD hQ  h J Sm D EV)
  ·
    rw [if_neg (by omega)] at D
    refine x_iconst (v := 1) rfl ki_1 ?_
    refine x_goto (tgt := 138) rfl rfl ?_
    exact jX.sub jsb_n (ct_X12_barsByDay_r125d_300138 hD hQ  h J Sm D EV)
set_option maxRecDepth 100000 in
set_option maxHeartbeats 4000000 in
theorem ct_X12_barsByDay_r125d_129 {Dy : jH → Prop} {h0 : jH} {Q : Option Value → jH → Prop} {dr : Int} (hD : jDk Dy) (hQ : ∀ (v : Int32) hx9, 0 ≤ v.toInt ∧ v.toInt ≤ 1 → jJ jSgM Dy hx9 → jSm fp_X12_barsByDay_r125d h0 hx9 → dr = v.toInt → vw hx9 = vw h0 → Q (some (.int v)) hx9) : ∀ (s1 : Int32) (s2 : Int32) (h : jH), 0 ≤ s1.toInt ∧ s1.toInt ≤ 146399 → 0 ≤ s2.toInt ∧ s2.toInt ≤ 146399 → jJ jSgM Dy h → jSm fp_X12_barsByDay_r125d h0 h → d_X12_barsByDay_r125d_129  s1.toInt s2.toInt (vw h) = dr → vw h = vw h0 → jX m_X12_barsByDay 4 0 0 129 [] [.int 366, .int s1, .int s2] h 0 0 Q := by
  intro s1 s2 h y0 y1   J Sm D EV
  unfold d_X12_barsByDay_r125d_129 at D
  refine z_iadd rfl rfl jk_366 (by omega) (fun v1 ev1 => ?_)
  refine x_icle (tgt := 137) rfl rfl (ti_le rfl rfl ⟨fun c2 => ?_, fun c2 => ?_⟩)
  ·
    rw [if_pos (by omega)] at D
    exact jX.sub jsb_n (ct_X12_barsByDay_r125d_137 hD hQ  h J Sm D EV)
  ·
    rw [if_neg (by omega)] at D
    refine x_iconst (v := 1) rfl ki_1 ?_
    refine x_goto (tgt := 138) rfl rfl ?_
    exact jX.sub jsb_n (ct_X12_barsByDay_r125d_300138 hD hQ  h J Sm D EV)
set_option maxRecDepth 100000 in
set_option maxHeartbeats 4000000 in
theorem ct_X12_barsByDay_r125d_300097 {Dy : jH → Prop} {h0 : jH} {Q : Option Value → jH → Prop} {dr : Int} (hD : jDk Dy) (hQ : ∀ (v : Int32) hx9, 0 ≤ v.toInt ∧ v.toInt ≤ 1 → jJ jSgM Dy hx9 → jSm fp_X12_barsByDay_r125d h0 hx9 → dr = v.toInt → vw hx9 = vw h0 → Q (some (.int v)) hx9) : ∀ (h : jH), jJ jSgM Dy h → jSm fp_X12_barsByDay_r125d h0 h → d_X12_barsByDay_r125d_300097  (vw h) = dr → vw h = vw h0 → jX m_X12_barsByDay 4 0 0 97 [] [.int 1] h 0 0 Q := by
  intro  h    J Sm D EV
  unfold d_X12_barsByDay_r125d_300097 at D
  refine x_zret rfl rfl (by decide) ?_
  exact hQ _ _ (jr_of jk_1 (by omega)) J Sm (D.symm.trans (show 1 = (1 : Int32).toInt from by have := jk_1; omega)) EV
set_option maxRecDepth 100000 in
set_option maxHeartbeats 4000000 in
theorem ct_X12_barsByDay_r125d_200097 {Dy : jH → Prop} {h0 : jH} {Q : Option Value → jH → Prop} {dr : Int} (hD : jDk Dy) (hQ : ∀ (v : Int32) hx9, 0 ≤ v.toInt ∧ v.toInt ≤ 1 → jJ jSgM Dy hx9 → jSm fp_X12_barsByDay_r125d h0 hx9 → dr = v.toInt → vw hx9 = vw h0 → Q (some (.int v)) hx9) : ∀ (h : jH), jJ jSgM Dy h → jSm fp_X12_barsByDay_r125d h0 h → d_X12_barsByDay_r125d_200097  (vw h) = dr → vw h = vw h0 → jX m_X12_barsByDay 4 0 0 97 [] [.int 0] h 0 0 Q := by
  intro  h    J Sm D EV
  unfold d_X12_barsByDay_r125d_200097 at D
  refine x_zret rfl rfl (by decide) ?_
  exact hQ _ _ (jr_of jk_0 (by omega)) J Sm (D.symm.trans (show 0 = (0 : Int32).toInt from by have := jk_0; omega)) EV
set_option maxRecDepth 100000 in
set_option maxHeartbeats 4000000 in
theorem ct_X12_barsByDay_r125d_92 {Dy : jH → Prop} {h0 : jH} {Q : Option Value → jH → Prop} {dr : Int} (hD : jDk Dy) (hQ : ∀ (v : Int32) hx9, 0 ≤ v.toInt ∧ v.toInt ≤ 1 → jJ jSgM Dy hx9 → jSm fp_X12_barsByDay_r125d h0 hx9 → dr = v.toInt → vw hx9 = vw h0 → Q (some (.int v)) hx9) : ∀ (h : jH), jJ jSgM Dy h → jSm fp_X12_barsByDay_r125d h0 h → d_X12_barsByDay_r125d_92  (vw h) = dr → vw h = vw h0 → jX m_X12_barsByDay 4 0 0 92 [] [] h 0 0 Q := by
  intro  h    J Sm D EV
  unfold d_X12_barsByDay_r125d_92 at D
  refine x_iconst (v := 1) rfl ki_1 ?_
  refine x_goto (tgt := 97) rfl rfl ?_
  exact jX.sub jsb_n (ct_X12_barsByDay_r125d_300097 hD hQ  h J Sm D EV)
set_option maxRecDepth 100000 in
set_option maxHeartbeats 4000000 in
theorem ct_X12_barsByDay_r125d_96 {Dy : jH → Prop} {h0 : jH} {Q : Option Value → jH → Prop} {dr : Int} (hD : jDk Dy) (hQ : ∀ (v : Int32) hx9, 0 ≤ v.toInt ∧ v.toInt ≤ 1 → jJ jSgM Dy hx9 → jSm fp_X12_barsByDay_r125d h0 hx9 → dr = v.toInt → vw hx9 = vw h0 → Q (some (.int v)) hx9) : ∀ (h : jH), jJ jSgM Dy h → jSm fp_X12_barsByDay_r125d h0 h → d_X12_barsByDay_r125d_96  (vw h) = dr → vw h = vw h0 → jX m_X12_barsByDay 4 0 0 96 [] [] h 0 0 Q := by
  intro  h    J Sm D EV
  unfold d_X12_barsByDay_r125d_96 at D
  refine x_iconst (v := 0) rfl ki_0 ?_
  exact jX.sub jsb_n (ct_X12_barsByDay_r125d_200097 hD hQ  h J Sm D EV)
set_option maxRecDepth 100000 in
set_option maxHeartbeats 4000000 in
theorem ct_X12_barsByDay_r125d_70 {Dy : jH → Prop} {h0 : jH} {Q : Option Value → jH → Prop} {dr : Int} (hD : jDk Dy) (hQ : ∀ (v : Int32) hx9, 0 ≤ v.toInt ∧ v.toInt ≤ 1 → jJ jSgM Dy hx9 → jSm fp_X12_barsByDay_r125d h0 hx9 → dr = v.toInt → vw hx9 = vw h0 → Q (some (.int v)) hx9) : ∀ (l1 : Int32) (l2 : Int32) (l3 : Int32) (h : jH), 0 ≤ l1.toInt ∧ l1.toInt ≤ 599 → 0 ≤ l2.toInt ∧ l2.toInt ≤ 599 → 0 ≤ l3.toInt ∧ l3.toInt ≤ 6 → jJ jSgM Dy h → jSm fp_X12_barsByDay_r125d h0 h → d_X12_barsByDay_r125d_70  l1.toInt l2.toInt l3.toInt (vw h) = dr → vw h = vw h0 → jX m_X12_barsByDay 4 0 0 70 [(0, .ref 125), (1, .int l1), (2, .int l2), (3, .int l3)] [] h 0 0 Q := by
  intro l1 l2 l3 h y0 y1 y2   J Sm D EV
  unfold d_X12_barsByDay_r125d_70 at D
  refine x_iloadn (x := l3) rfl rfl ?_
  refine x_iconst (v := 2) rfl ki_2 ?_
  refine x_icne (tgt := 96) rfl rfl (ti_ne rfl jk_2 ⟨fun c1 => ?_, fun c1 => ?_⟩)
  ·
    rw [if_neg (by omega)] at D
    exact jX.sub jsb_n (ct_X12_barsByDay_r125d_96 hD hQ  h J Sm D EV)
  ·
    rw [if_pos (by omega)] at D
    refine x_aloadn (x := 125) rfl rfl ?_
    refine x_iloadn (x := l2) rfl rfl ?_
    refine x_inv (N := m_X12_dayAt) (As := [.int l2]) (b := 125) (st := []) (dx9 := 3) (mc := 0) (ms := 0) (host := "") 12 rfl t_X12_dayAt ⟨Or.inl q_12_347, i_X12_dayAt.1, i_X12_dayAt.2⟩ ⟨by decide, rfl⟩ (congrArg Prod.fst (J.1.1 125 (12, 92) rfl)) rfl (by decide) rfl rfl ⟨by decide, by decide⟩ (sf_X12_dayAt_r125d (jr_of rfl (by omega)) hD J rfl  (fun v5 h ev5 J S2 X3 X4 => ?_))
    have Sm := jSm_tr rfl Sm S2
    try rw [X3] at D
    try rw [← X4] at D
    have EV := X4.trans EV
    show jX m_X12_barsByDay 4 0 0 80 [(0, .ref 125), (1, .int l1), (2, .int l2), (3, .int l3)] [.int v5] _ 0 0 _
    refine x_aloadn (x := 125) rfl rfl ?_
    refine x_iloadn (x := l1) rfl rfl ?_
    refine x_inv (N := m_X12_dayAt) (As := [.int l1]) (b := 125) (st := [.int v5]) (dx9 := 3) (mc := 0) (ms := 0) (host := "") 12 rfl t_X12_dayAt ⟨Or.inl q_12_347, i_X12_dayAt.1, i_X12_dayAt.2⟩ ⟨by decide, rfl⟩ (congrArg Prod.fst (J.1.1 125 (12, 92) rfl)) rfl (by decide) rfl rfl ⟨by decide, by decide⟩ (sf_X12_dayAt_r125d (jr_of rfl (by omega)) hD J rfl  (fun v9 h ev9 J S6 X7 X8 => ?_))
    have Sm := jSm_tr rfl Sm S6
    try rw [X7] at D
    try rw [← X8] at D
    have EV := X8.trans EV
    show jX m_X12_barsByDay 4 0 0 85 [(0, .ref 125), (1, .int l1), (2, .int l2), (3, .int l3)] [.int v9, .int v5] _ 0 0 _
    refine x_sipush (v := 18300) rfl ks_18300 ?_
    refine z_iadd rfl rfl jk_18300 (by omega) (fun v10 ev10 => ?_)
    refine x_icle (tgt := 96) rfl rfl (ti_le rfl rfl ⟨fun c11 => ?_, fun c11 => ?_⟩)
    ·
      rw [if_pos (by omega)] at D
      exact jX.sub jsb_n (ct_X12_barsByDay_r125d_96 hD hQ  h J Sm D EV)
    ·
      rw [if_neg (by omega)] at D
      exact jX.sub jsb_n (ct_X12_barsByDay_r125d_92 hD hQ  h J Sm D EV)
set_option maxRecDepth 100000 in
set_option maxHeartbeats 4000000 in
theorem ct_X12_barsByDay_r125d_200033 {Dy : jH → Prop} {h0 : jH} {Q : Option Value → jH → Prop} {dr : Int} (hD : jDk Dy) (hQ : ∀ (v : Int32) hx9, 0 ≤ v.toInt ∧ v.toInt ≤ 1 → jJ jSgM Dy hx9 → jSm fp_X12_barsByDay_r125d h0 hx9 → dr = v.toInt → vw hx9 = vw h0 → Q (some (.int v)) hx9) : ∀ (l1 : Int32) (l2 : Int32) (l3 : Int32) (h : jH), 0 ≤ l1.toInt ∧ l1.toInt ≤ 599 → 0 ≤ l2.toInt ∧ l2.toInt ≤ 599 → 0 ≤ l3.toInt ∧ l3.toInt ≤ 6 → jJ jSgM Dy h → jSm fp_X12_barsByDay_r125d h0 h → d_X12_barsByDay_r125d_200033  l1.toInt l2.toInt l3.toInt (vw h) = dr → vw h = vw h0 → jX m_X12_barsByDay 4 0 0 33 [(0, .ref 125), (1, .int l1), (2, .int l2), (3, .int l3)] [.int 0] h 0 0 Q := by
  intro l1 l2 l3 h y0 y1 y2   J Sm D EV
  unfold d_X12_barsByDay_r125d_200033 at D
  refine x_istore (lsx9 := [(4, .int 0), (0, .ref 125), (1, .int l1), (2, .int l2), (3, .int l3)]) rfl rfl rfl ?_
  refine x_aloadn (x := 125) rfl rfl ?_
  refine x_iloadn (x := l2) rfl rfl ?_
  refine x_inv (N := m_X12_dayAt) (As := [.int l2]) (b := 125) (st := []) (dx9 := 3) (mc := 0) (ms := 0) (host := "") 12 rfl t_X12_dayAt ⟨Or.inl q_12_347, i_X12_dayAt.1, i_X12_dayAt.2⟩ ⟨by decide, rfl⟩ (congrArg Prod.fst (J.1.1 125 (12, 92) rfl)) rfl (by decide) rfl rfl ⟨by decide, by decide⟩ (sf_X12_dayAt_r125d (jr_of rfl (by omega)) hD J rfl  (fun v4 h ev4 J S1 X2 X3 => ?_))
  have Sm := jSm_tr rfl Sm S1
  try rw [X2] at D
  try rw [← X3] at D
  have EV := X3.trans EV
  show jX m_X12_barsByDay 4 0 0 40 [(4, .int 0), (0, .ref 125), (1, .int l1), (2, .int l2), (3, .int l3)] [.int v4] _ 0 0 _
  refine x_aloadn (x := 125) rfl rfl ?_
  refine x_iloadn (x := l1) rfl rfl ?_
  refine x_inv (N := m_X12_dayAt) (As := [.int l1]) (b := 125) (st := [.int v4]) (dx9 := 3) (mc := 0) (ms := 0) (host := "") 12 rfl t_X12_dayAt ⟨Or.inl q_12_347, i_X12_dayAt.1, i_X12_dayAt.2⟩ ⟨by decide, rfl⟩ (congrArg Prod.fst (J.1.1 125 (12, 92) rfl)) rfl (by decide) rfl rfl ⟨by decide, by decide⟩ (sf_X12_dayAt_r125d (jr_of rfl (by omega)) hD J rfl  (fun v8 h ev8 J S5 X6 X7 => ?_))
  have Sm := jSm_tr rfl Sm S5
  try rw [X6] at D
  try rw [← X7] at D
  have EV := X7.trans EV
  show jX m_X12_barsByDay 4 0 0 45 [(4, .int 0), (0, .ref 125), (1, .int l1), (2, .int l2), (3, .int l3)] [.int v8, .int v4] _ 0 0 _
  refine x_iclt (tgt := 92) rfl rfl (ti_lt rfl rfl ⟨fun c9 => ?_, fun c9 => ?_⟩)
  ·
    rw [if_pos (by omega)] at D
    exact jX.sub jsb_n (ct_X12_barsByDay_r125d_92 hD hQ  h J Sm D EV)
  ·
    rw [if_neg (by omega)] at D
    refine x_iload (x := 0) rfl rfl ?_
    refine x_ifeq (tgt := 70) rfl rfl (ti_eq jk_0 jk_0 (br_t (by omega) ?_))
    exact jX.sub (jsb_c rfl (jsb_c rfl (jsb_c rfl (jsb_c rfl jsb_n)))) (ct_X12_barsByDay_r125d_70 hD hQ  l1 l2 l3 h (jr_of rfl (by omega)) (jr_of rfl (by omega)) (jr_of rfl (by omega)) J Sm D EV)
set_option maxRecDepth 100000 in
set_option maxHeartbeats 4000000 in
theorem ct_X12_barsByDay_r125d_300033 {Dy : jH → Prop} {h0 : jH} {Q : Option Value → jH → Prop} {dr : Int} (hD : jDk Dy) (hQ : ∀ (v : Int32) hx9, 0 ≤ v.toInt ∧ v.toInt ≤ 1 → jJ jSgM Dy hx9 → jSm fp_X12_barsByDay_r125d h0 hx9 → dr = v.toInt → vw hx9 = vw h0 → Q (some (.int v)) hx9) : ∀ (l1 : Int32) (l2 : Int32) (l3 : Int32) (h : jH), 0 ≤ l1.toInt ∧ l1.toInt ≤ 599 → 0 ≤ l2.toInt ∧ l2.toInt ≤ 599 → 0 ≤ l3.toInt ∧ l3.toInt ≤ 6 → jJ jSgM Dy h → jSm fp_X12_barsByDay_r125d h0 h → d_X12_barsByDay_r125d_300033  l1.toInt l2.toInt l3.toInt (vw h) = dr → vw h = vw h0 → jX m_X12_barsByDay 4 0 0 33 [(0, .ref 125), (1, .int l1), (2, .int l2), (3, .int l3)] [.int 1] h 0 0 Q := by
  intro l1 l2 l3 h y0 y1 y2   J Sm D EV
  unfold d_X12_barsByDay_r125d_300033 at D
  refine x_istore (lsx9 := [(4, .int 1), (0, .ref 125), (1, .int l1), (2, .int l2), (3, .int l3)]) rfl rfl rfl ?_
  refine x_aloadn (x := 125) rfl rfl ?_
  refine x_iloadn (x := l2) rfl rfl ?_
  refine x_inv (N := m_X12_dayAt) (As := [.int l2]) (b := 125) (st := []) (dx9 := 3) (mc := 0) (ms := 0) (host := "") 12 rfl t_X12_dayAt ⟨Or.inl q_12_347, i_X12_dayAt.1, i_X12_dayAt.2⟩ ⟨by decide, rfl⟩ (congrArg Prod.fst (J.1.1 125 (12, 92) rfl)) rfl (by decide) rfl rfl ⟨by decide, by decide⟩ (sf_X12_dayAt_r125d (jr_of rfl (by omega)) hD J rfl  (fun v4 h ev4 J S1 X2 X3 => ?_))
  have Sm := jSm_tr rfl Sm S1
  try rw [X2] at D
  try rw [← X3] at D
  have EV := X3.trans EV
  show jX m_X12_barsByDay 4 0 0 40 [(4, .int 1), (0, .ref 125), (1, .int l1), (2, .int l2), (3, .int l3)] [.int v4] _ 0 0 _
  refine x_aloadn (x := 125) rfl rfl ?_
  refine x_iloadn (x := l1) rfl rfl ?_
  refine x_inv (N := m_X12_dayAt) (As := [.int l1]) (b := 125) (st := [.int v4]) (dx9 := 3) (mc := 0) (ms := 0) (host := "") 12 rfl t_X12_dayAt ⟨Or.inl q_12_347, i_X12_dayAt.1, i_X12_dayAt.2⟩ ⟨by decide, rfl⟩ (congrArg Prod.fst (J.1.1 125 (12, 92) rfl)) rfl (by decide) rfl rfl ⟨by decide, by decide⟩ (sf_X12_dayAt_r125d (jr_of rfl (by omega)) hD J rfl  (fun v8 h ev8 J S5 X6 X7 => ?_))
  have Sm := jSm_tr rfl Sm S5
  try rw [X6] at D
  try rw [← X7] at D
  have EV := X7.trans EV
  show jX m_X12_barsByDay 4 0 0 45 [(4, .int 1), (0, .ref 125), (1, .int l1), (2, .int l2), (3, .int l3)] [.int v8, .int v4] _ 0 0 _
  refine x_iclt (tgt := 92) rfl rfl (ti_lt rfl rfl ⟨fun c9 => ?_, fun c9 => ?_⟩)
  ·
    rw [if_pos (by omega)] at D
    exact jX.sub jsb_n (ct_X12_barsByDay_r125d_92 hD hQ  h J Sm D EV)
  ·
    rw [if_neg (by omega)] at D
    refine x_iload (x := 1) rfl rfl ?_
    refine x_ifeq (tgt := 70) rfl rfl (ti_eq jk_1 jk_0 (br_f (by omega) ?_))
    refine x_aloadn (x := 125) rfl rfl ?_
    refine x_iloadn (x := l2) rfl rfl ?_
    refine x_inv (N := m_X12_dayAt) (As := [.int l2]) (b := 125) (st := []) (dx9 := 3) (mc := 0) (ms := 0) (host := "") 12 rfl t_X12_dayAt ⟨Or.inl q_12_347, i_X12_dayAt.1, i_X12_dayAt.2⟩ ⟨by decide, rfl⟩ (congrArg Prod.fst (J.1.1 125 (12, 92) rfl)) rfl (by decide) rfl rfl ⟨by decide, by decide⟩ (sf_X12_dayAt_r125d (jr_of rfl (by omega)) hD J rfl  (fun v13 h ev13 J S10 X11 X12 => ?_))
    have Sm := jSm_tr rfl Sm S10
    have Lkv13 : v4.toInt = v13.toInt := by (have Z := X2; try rw [← X3] at Z; try rw [← X7] at Z; exact Z.symm.trans X11)
    try rw [Lkv13] at D
    try rw [X11] at D
    try rw [← X12] at D
    have EV := X12.trans EV
    show jX m_X12_barsByDay 4 0 0 58 [(4, .int 1), (0, .ref 125), (1, .int l1), (2, .int l2), (3, .int l3)] [.int v13] _ 0 0 _
    refine x_aloadn (x := 125) rfl rfl ?_
    refine x_iloadn (x := l1) rfl rfl ?_
    refine x_inv (N := m_X12_dayAt) (As := [.int l1]) (b := 125) (st := [.int v13]) (dx9 := 3) (mc := 0) (ms := 0) (host := "") 12 rfl t_X12_dayAt ⟨Or.inl q_12_347, i_X12_dayAt.1, i_X12_dayAt.2⟩ ⟨by decide, rfl⟩ (congrArg Prod.fst (J.1.1 125 (12, 92) rfl)) rfl (by decide) rfl rfl ⟨by decide, by decide⟩ (sf_X12_dayAt_r125d (jr_of rfl (by omega)) hD J rfl  (fun v17 h ev17 J S14 X15 X16 => ?_))
    have Sm := jSm_tr rfl Sm S14
    have Lkv17 : v8.toInt = v17.toInt := by (have Z := X6; try rw [← X7] at Z; try rw [← X12] at Z; exact Z.symm.trans X15)
    try rw [Lkv17] at D
    try rw [X15] at D
    try rw [← X16] at D
    have EV := X16.trans EV
    show jX m_X12_barsByDay 4 0 0 63 [(4, .int 1), (0, .ref 125), (1, .int l1), (2, .int l2), (3, .int l3)] [.int v17, .int v13] _ 0 0 _
    refine x_sipush (v := 5124) rfl ks_5124 ?_
    refine z_iadd rfl rfl jk_5124 (by omega) (fun v18 ev18 => ?_)
    refine x_iclt (tgt := 92) rfl rfl (ti_lt rfl rfl ⟨fun c19 => ?_, fun c19 => ?_⟩)
    ·
      rw [if_pos (by omega)] at D
      exact jX.sub jsb_n (ct_X12_barsByDay_r125d_92 hD hQ  h J Sm D EV)
    ·
      rw [if_neg (by omega)] at D
      exact jX.sub (jsb_c rfl (jsb_c rfl (jsb_c rfl (jsb_c rfl jsb_n)))) (ct_X12_barsByDay_r125d_70 hD hQ  l1 l2 l3 h (jr_of rfl (by omega)) (jr_of rfl (by omega)) (jr_of rfl (by omega)) J Sm D EV)
set_option maxRecDepth 100000 in
set_option maxHeartbeats 4000000 in
theorem ct_X12_barsByDay_r125d_28 {Dy : jH → Prop} {h0 : jH} {Q : Option Value → jH → Prop} {dr : Int} (hD : jDk Dy) (hQ : ∀ (v : Int32) hx9, 0 ≤ v.toInt ∧ v.toInt ≤ 1 → jJ jSgM Dy hx9 → jSm fp_X12_barsByDay_r125d h0 hx9 → dr = v.toInt → vw hx9 = vw h0 → Q (some (.int v)) hx9) : ∀ (l1 : Int32) (l2 : Int32) (l3 : Int32) (h : jH), 0 ≤ l1.toInt ∧ l1.toInt ≤ 599 → 0 ≤ l2.toInt ∧ l2.toInt ≤ 599 → 0 ≤ l3.toInt ∧ l3.toInt ≤ 6 → jJ jSgM Dy h → jSm fp_X12_barsByDay_r125d h0 h → d_X12_barsByDay_r125d_28  l1.toInt l2.toInt l3.toInt (vw h) = dr → vw h = vw h0 → jX m_X12_barsByDay 4 0 0 28 [(0, .ref 125), (1, .int l1), (2, .int l2), (3, .int l3)] [] h 0 0 Q := by
  intro l1 l2 l3 h y0 y1 y2   J Sm D EV
  unfold d_X12_barsByDay_r125d_28 at D
  refine x_iconst (v := 1) rfl ki_1 ?_
  refine x_goto (tgt := 33) rfl rfl ?_
  exact jX.sub (jsb_c rfl (jsb_c rfl (jsb_c rfl (jsb_c rfl jsb_n)))) (ct_X12_barsByDay_r125d_300033 hD hQ  l1 l2 l3 h (jr_of rfl (by omega)) (jr_of rfl (by omega)) (jr_of rfl (by omega)) J Sm D EV)
set_option maxRecDepth 100000 in
set_option maxHeartbeats 4000000 in
theorem sf_X12_barsByDay_r125d {Dy : jH → Prop} {h : jH} {Q : Option Value → jH → Prop} {dr : Int} {a1 : Int32} {a2 : Int32} (y1 : 0 ≤ a1.toInt ∧ a1.toInt ≤ 599) (y2 : 0 ≤ a2.toInt ∧ a2.toInt ≤ 599) (hD : jDk Dy) (J : jJ jSgM Dy h) (D : d_X12_barsByDay_r125d a1.toInt a2.toInt (vw h) = dr) (hQ : ∀ (v : Int32) hx9, 0 ≤ v.toInt ∧ v.toInt ≤ 1 → jJ jSgM Dy hx9 → jSm fp_X12_barsByDay_r125d h hx9 → dr = v.toInt → vw hx9 = vw h → Q (some (.int v)) hx9) : jC m_X12_barsByDay 4 0 0 [.ref 125, .int a1, .int a2] h Q := by
  refine jC.of rfl k_X12_barsByDay rfl ?_
  have Sm := jSm_rf fp_X12_barsByDay_r125d h
  show jX m_X12_barsByDay 4 0 0 0 [(0, .ref 125), (1, .int a1), (2, .int a2)] [] _ 0 0 _
  unfold d_X12_barsByDay_r125d at D
  have EV : vw h = vw h := rfl
  refine x_aloadn (x := 125) rfl rfl ?_
  refine x_iloadn (x := a2) rfl rfl ?_
  refine x_inv (N := m_X12_partOf) (As := [.int a2]) (b := 125) (st := []) (dx9 := 3) (mc := 0) (ms := 0) (host := "") 12 rfl t_X12_partOf ⟨Or.inl q_12_338, i_X12_partOf.1, i_X12_partOf.2⟩ ⟨by decide, rfl⟩ (congrArg Prod.fst (J.1.1 125 (12, 92) rfl)) rfl (by decide) rfl rfl ⟨by decide, by decide⟩ (sf_X12_partOf_r125d (jr_of rfl (by omega)) hD J rfl  (fun v4 h ev4 J S1 X2 X3 => ?_))
  have Sm := jSm_tr rfl Sm S1
  try rw [X2] at D
  try rw [← X3] at D
  have EV := X3.trans EV
  show jX m_X12_barsByDay 4 0 0 5 [(0, .ref 125), (1, .int a1), (2, .int a2)] [.int v4] _ 0 0 _
  refine x_istoren (lsx9 := [(3, .int v4), (0, .ref 125), (1, .int a1), (2, .int a2)]) rfl rfl rfl ?_
  refine x_aloadn (x := 125) rfl rfl ?_
  refine x_iloadn (x := a1) rfl rfl ?_
  refine x_inv (N := m_X12_partOf) (As := [.int a1]) (b := 125) (st := []) (dx9 := 3) (mc := 0) (ms := 0) (host := "") 12 rfl t_X12_partOf ⟨Or.inl q_12_338, i_X12_partOf.1, i_X12_partOf.2⟩ ⟨by decide, rfl⟩ (congrArg Prod.fst (J.1.1 125 (12, 92) rfl)) rfl (by decide) rfl rfl ⟨by decide, by decide⟩ (sf_X12_partOf_r125d (jr_of rfl (by omega)) hD J rfl  (fun v8 h ev8 J S5 X6 X7 => ?_))
  have Sm := jSm_tr rfl Sm S5
  try rw [X6] at D
  try rw [← X7] at D
  have EV := X7.trans EV
  show jX m_X12_barsByDay 4 0 0 11 [(3, .int v4), (0, .ref 125), (1, .int a1), (2, .int a2)] [.int v8] _ 0 0 _
  refine x_ifne (tgt := 98) rfl rfl (ti_ne rfl jk_0 ⟨fun c9 => ?_, fun c9 => ?_⟩)
  ·
    rw [if_neg (by omega)] at D
    refine x_aloadn (x := 125) rfl rfl ?_
    refine x_iloadn (x := a1) rfl rfl ?_
    refine x_inv (N := m_X12_partOf) (As := [.int a1]) (b := 125) (st := []) (dx9 := 3) (mc := 0) (ms := 0) (host := "") 12 rfl t_X12_partOf ⟨Or.inl q_12_338, i_X12_partOf.1, i_X12_partOf.2⟩ ⟨by decide, rfl⟩ (congrArg Prod.fst (J.1.1 125 (12, 92) rfl)) rfl (by decide) rfl rfl ⟨by decide, by decide⟩ (sf_X12_partOf_r125d (jr_of rfl (by omega)) hD J rfl  (fun v13 h ev13 J S10 X11 X12 => ?_))
    have Sm := jSm_tr rfl Sm S10
    have Lkv13 : v8.toInt = v13.toInt := by (have Z := X6; try rw [← X7] at Z; exact Z.symm.trans X11)
    try rw [Lkv13] at D
    try rw [X11] at D
    try rw [← X12] at D
    have EV := X12.trans EV
    show jX m_X12_barsByDay 4 0 0 103 [(3, .int v4), (0, .ref 125), (1, .int a1), (2, .int a2)] [.int v13] _ 0 0 _
    refine x_iconst (v := 5) rfl ki_5 ?_
    refine x_icne (tgt := 137) rfl rfl (ti_ne rfl jk_5 ⟨fun c14 => ?_, fun c14 => ?_⟩)
    ·
      rw [if_neg (by omega)] at D
      exact jX.sub jsb_n (ct_X12_barsByDay_r125d_137 hD hQ  h J Sm D EV)
    ·
      rw [if_pos (by omega)] at D
      refine x_aloadn (x := 125) rfl rfl ?_
      refine x_iloadn (x := a2) rfl rfl ?_
      refine x_inv (N := m_X12_dayAt) (As := [.int a2]) (b := 125) (st := []) (dx9 := 3) (mc := 0) (ms := 0) (host := "") 12 rfl t_X12_dayAt ⟨Or.inl q_12_347, i_X12_dayAt.1, i_X12_dayAt.2⟩ ⟨by decide, rfl⟩ (congrArg Prod.fst (J.1.1 125 (12, 92) rfl)) rfl (by decide) rfl rfl ⟨by decide, by decide⟩ (sf_X12_dayAt_r125d (jr_of rfl (by omega)) hD J rfl  (fun v18 h ev18 J S15 X16 X17 => ?_))
      have Sm := jSm_tr rfl Sm S15
      try rw [X16] at D
      try rw [← X17] at D
      have EV := X17.trans EV
      show jX m_X12_barsByDay 4 0 0 112 [(3, .int v4), (0, .ref 125), (1, .int a1), (2, .int a2)] [.int v18] _ 0 0 _
      refine x_aloadn (x := 125) rfl rfl ?_
      refine x_iloadn (x := a1) rfl rfl ?_
      refine x_inv (N := m_X12_dayAt) (As := [.int a1]) (b := 125) (st := [.int v18]) (dx9 := 3) (mc := 0) (ms := 0) (host := "") 12 rfl t_X12_dayAt ⟨Or.inl q_12_347, i_X12_dayAt.1, i_X12_dayAt.2⟩ ⟨by decide, rfl⟩ (congrArg Prod.fst (J.1.1 125 (12, 92) rfl)) rfl (by decide) rfl rfl ⟨by decide, by decide⟩ (sf_X12_dayAt_r125d (jr_of rfl (by omega)) hD J rfl  (fun v22 h ev22 J S19 X20 X21 => ?_))
      have Sm := jSm_tr rfl Sm S19
      try rw [X20] at D
      try rw [← X21] at D
      have EV := X21.trans EV
      show jX m_X12_barsByDay 4 0 0 117 [(3, .int v4), (0, .ref 125), (1, .int a1), (2, .int a2)] [.int v22, .int v18] _ 0 0 _
      refine x_iloadn (x := v4) rfl rfl ?_
      refine x_iconst (v := 1) rfl ki_1 ?_
      refine x_icne (tgt := 128) rfl rfl (ti_ne rfl jk_1 ⟨fun c23 => ?_, fun c23 => ?_⟩)
      ·
        rw [if_neg (by omega)] at D
        refine x_iconst (v := 0) rfl ki_0 ?_
        exact jX.sub jsb_n (ct_X12_barsByDay_r125d_200129 hD hQ  v22 v18 h (jr_of rfl (by omega)) (jr_of rfl (by omega)) J Sm D EV)
      ·
        rw [if_pos (by omega)] at D
        refine x_sipush (v := 366) rfl ks_366 ?_
        refine x_goto (tgt := 129) rfl rfl ?_
        exact jX.sub jsb_n (ct_X12_barsByDay_r125d_129 hD hQ  v22 v18 h (jr_of rfl (by omega)) (jr_of rfl (by omega)) J Sm D EV)
  ·
    rw [if_pos (by omega)] at D
    refine x_iloadn (x := v4) rfl rfl ?_
    refine x_inst (N := m_X12_isMan) (As := [.int v4]) (st := []) (dx9 := 1) (mc := 0) (ms := 0) (host := "") rfl t_X12_isMan ⟨Or.inl q_12_341, s_X12_isMan⟩ rfl (by decide) rfl rfl ⟨by decide, by decide⟩ (sf_X12_isMand (jr_of rfl (by omega)) hD J rfl  (fun v27 h ev27 J S24 X25 X26 => ?_))
    have Sm := jSm_tr rfl Sm S24
    try rw [X25] at D
    try rw [← X26] at D
    have EV := X26.trans EV
    show jX m_X12_barsByDay 4 0 0 18 [(3, .int v4), (0, .ref 125), (1, .int a1), (2, .int a2)] [.int v27] _ 0 0 _
    refine x_ifne (tgt := 28) rfl rfl (ti_ne rfl jk_0 ⟨fun c28 => ?_, fun c28 => ?_⟩)
    ·
      rw [if_neg (by omega)] at D
      exact jX.sub (jsb_c rfl (jsb_c rfl (jsb_c rfl (jsb_c rfl jsb_n)))) (ct_X12_barsByDay_r125d_28 hD hQ  a1 a2 v4 h (jr_of rfl (by omega)) (jr_of rfl (by omega)) (jr_of rfl (by omega)) J Sm D EV)
    ·
      rw [if_pos (by omega)] at D
      refine x_iloadn (x := v4) rfl rfl ?_
      refine x_inst (N := m_X12_isWoman) (As := [.int v4]) (st := []) (dx9 := 1) (mc := 0) (ms := 0) (host := "") rfl t_X12_isWoman ⟨Or.inl q_12_344, s_X12_isWoman⟩ rfl (by decide) rfl rfl ⟨by decide, by decide⟩ (sf_X12_isWomand (jr_of rfl (by omega)) hD J rfl  (fun v32 h ev32 J S29 X30 X31 => ?_))
      have Sm := jSm_tr rfl Sm S29
      try rw [X30] at D
      try rw [← X31] at D
      have EV := X31.trans EV
      show jX m_X12_barsByDay 4 0 0 25 [(3, .int v4), (0, .ref 125), (1, .int a1), (2, .int a2)] [.int v32] _ 0 0 _
      refine x_ifeq (tgt := 32) rfl rfl (ti_eq rfl jk_0 ⟨fun c33 => ?_, fun c33 => ?_⟩)
      ·
        rw [if_pos (by omega)] at D
        refine x_iconst (v := 0) rfl ki_0 ?_
        exact jX.sub (jsb_c rfl (jsb_c rfl (jsb_c rfl (jsb_c rfl jsb_n)))) (ct_X12_barsByDay_r125d_200033 hD hQ  a1 a2 v4 h (jr_of rfl (by omega)) (jr_of rfl (by omega)) (jr_of rfl (by omega)) J Sm D EV)
      ·
        rw [if_neg (by omega)] at D
        exact jX.sub (jsb_c rfl (jsb_c rfl (jsb_c rfl (jsb_c rfl jsb_n)))) (ct_X12_barsByDay_r125d_28 hD hQ  a1 a2 v4 h (jr_of rfl (by omega)) (jr_of rfl (by omega)) (jr_of rfl (by omega)) J Sm D EV)
def fp_X12_why_r125d : jFp := [(137, 0, 80), (138, 0, 2)]
set_option maxRecDepth 100000 in
set_option maxHeartbeats 4000000 in
theorem ct_X12_why_r125d_180 {Dy : jH → Prop} {h0 : jH} {Q : Option Value → jH → Prop} {dr : (Int × jW)} (hD : jDk Dy) (hQ : ∀ (v : Int32) hx9, 0 ≤ v.toInt ∧ v.toInt ≤ 7 → jJ jSgM Dy hx9 → jSm fp_X12_why_r125d h0 hx9 → dr.1 = v.toInt → dr.2 = vw hx9 → Q (some (.int v)) hx9) : ∀ (h : jH), jJ jSgM Dy h → jSm fp_X12_why_r125d h0 h → d_X12_why_r125d_180  (vw h) = dr → jX m_X12_why 6 0 0 180 [] [] h 0 0 Q := by
  intro  h    J Sm D
  unfold d_X12_why_r125d_180 at D
  refine x_bipush (v := 6) rfl kb_6 ?_
  refine x_iret rfl rfl ?_
  exact hQ _ _ (jr_of jk_6 (by omega)) J Sm ((congrArg Prod.fst D).symm.trans (show 6 = (6 : Int32).toInt from by have := jk_6; omega)) (congrArg Prod.snd D).symm
set_option maxRecDepth 100000 in
set_option maxHeartbeats 4000000 in
theorem ct_X12_why_r125d_200207 {Dy : jH → Prop} {h0 : jH} {Q : Option Value → jH → Prop} {dr : (Int × jW)} (hD : jDk Dy) (hQ : ∀ (v : Int32) hx9, 0 ≤ v.toInt ∧ v.toInt ≤ 7 → jJ jSgM Dy hx9 → jSm fp_X12_why_r125d h0 hx9 → dr.1 = v.toInt → dr.2 = vw hx9 → Q (some (.int v)) hx9) : ∀ (h : jH), jJ jSgM Dy h → jSm fp_X12_why_r125d h0 h → d_X12_why_r125d_200207  (vw h) = dr → jX m_X12_why 6 0 0 207 [] [.int 0] h 0 0 Q := by
  intro  h    J Sm D
  unfold d_X12_why_r125d_200207 at D
  refine x_iret rfl rfl ?_
  exact hQ _ _ (jr_of jk_0 (by omega)) J Sm ((congrArg Prod.fst D).symm.trans (show 0 = (0 : Int32).toInt from by have := jk_0; omega)) (congrArg Prod.snd D).symm
set_option maxRecDepth 100000 in
set_option maxHeartbeats 4000000 in
theorem ct_X12_why_r125d_900207 {Dy : jH → Prop} {h0 : jH} {Q : Option Value → jH → Prop} {dr : (Int × jW)} (hD : jDk Dy) (hQ : ∀ (v : Int32) hx9, 0 ≤ v.toInt ∧ v.toInt ≤ 7 → jJ jSgM Dy hx9 → jSm fp_X12_why_r125d h0 hx9 → dr.1 = v.toInt → dr.2 = vw hx9 → Q (some (.int v)) hx9) : ∀ (h : jH), jJ jSgM Dy h → jSm fp_X12_why_r125d h0 h → d_X12_why_r125d_900207  (vw h) = dr → jX m_X12_why 6 0 0 207 [] [.int 7] h 0 0 Q := by
  intro  h    J Sm D
  unfold d_X12_why_r125d_900207 at D
  refine x_iret rfl rfl ?_
  exact hQ _ _ (jr_of jk_7 (by omega)) J Sm ((congrArg Prod.fst D).symm.trans (show 7 = (7 : Int32).toInt from by have := jk_7; omega)) (congrArg Prod.snd D).symm
set_option maxRecDepth 100000 in
set_option maxHeartbeats 4000000 in
theorem ct_X12_why_r125d_201 {Dy : jH → Prop} {h0 : jH} {Q : Option Value → jH → Prop} {dr : (Int × jW)} (hD : jDk Dy) (hQ : ∀ (v : Int32) hx9, 0 ≤ v.toInt ∧ v.toInt ≤ 7 → jJ jSgM Dy hx9 → jSm fp_X12_why_r125d h0 hx9 → dr.1 = v.toInt → dr.2 = vw hx9 → Q (some (.int v)) hx9) : ∀ (h : jH), jJ jSgM Dy h → jSm fp_X12_why_r125d h0 h → d_X12_why_r125d_201  (vw h) = dr → jX m_X12_why 6 0 0 201 [] [] h 0 0 Q := by
  intro  h    J Sm D
  unfold d_X12_why_r125d_201 at D
  refine x_bipush (v := 7) rfl kb_7 ?_
  refine x_goto (tgt := 207) rfl rfl ?_
  exact jX.sub jsb_n (ct_X12_why_r125d_900207 hD hQ  h J Sm D)
set_option maxRecDepth 100000 in
set_option maxHeartbeats 4000000 in
theorem ct_X12_why_r125d_162 {Dy : jH → Prop} {h0 : jH} {Q : Option Value → jH → Prop} {dr : (Int × jW)} (hD : jDk Dy) (hQ : ∀ (v : Int32) hx9, 0 ≤ v.toInt ∧ v.toInt ≤ 7 → jJ jSgM Dy hx9 → jSm fp_X12_why_r125d h0 hx9 → dr.1 = v.toInt → dr.2 = vw hx9 → Q (some (.int v)) hx9) : ∀ (l1 : Int32) (l2 : Int32) (h : jH), 0 ≤ l1.toInt ∧ l1.toInt ≤ 599 → 0 ≤ l2.toInt ∧ l2.toInt ≤ 599 → jJ jSgM Dy h → jSm fp_X12_why_r125d h0 h → d_X12_why_r125d_162  l1.toInt l2.toInt (vw h) = dr → jX m_X12_why 6 0 0 162 [(0, .ref 125), (1, .int l1), (2, .int l2)] [] h 0 0 Q := by
  intro l1 l2 h y0 y1   J Sm D
  unfold d_X12_why_r125d_162 at D
  refine x_aloadn (x := 125) rfl rfl ?_
  refine x_iloadn (x := l1) rfl rfl ?_
  refine x_iloadn (x := l2) rfl rfl ?_
  refine x_inv (N := m_X12_barsByDay) (As := [.int l1, .int l2]) (b := 125) (st := []) (dx9 := 4) (mc := 0) (ms := 0) (host := "") 12 rfl t_X12_barsByDay ⟨Or.inl q_12_362, i_X12_barsByDay.1, i_X12_barsByDay.2⟩ ⟨by decide, rfl⟩ (congrArg Prod.fst (J.1.1 125 (12, 92) rfl)) rfl (by decide) rfl rfl ⟨by decide, by decide⟩ (sf_X12_barsByDay_r125d (jr_of rfl (by omega)) (jr_of rfl (by omega)) hD J rfl  (fun v4 h ev4 J S1 X2 X3 => ?_))
  have Sm := jSm_tr rfl Sm S1
  try rw [X2] at D
  try rw [← X3] at D
  show jX m_X12_why 6 0 0 168 [(0, .ref 125), (1, .int l1), (2, .int l2)] [.int v4] _ 0 0 _
  refine x_ifne (tgt := 180) rfl rfl (ti_ne rfl jk_0 ⟨fun c5 => ?_, fun c5 => ?_⟩)
  ·
    rw [if_neg (by omega)] at D
    exact jX.sub jsb_n (ct_X12_why_r125d_180 hD hQ  h J Sm D)
  ·
    rw [if_pos (by omega)] at D
    refine x_aloadn (x := 125) rfl rfl ?_
    refine x_iloadn (x := l2) rfl rfl ?_
    refine x_iloadn (x := l1) rfl rfl ?_
    refine x_inv (N := m_X12_barsByDay) (As := [.int l2, .int l1]) (b := 125) (st := []) (dx9 := 4) (mc := 0) (ms := 0) (host := "") 12 rfl t_X12_barsByDay ⟨Or.inl q_12_362, i_X12_barsByDay.1, i_X12_barsByDay.2⟩ ⟨by decide, rfl⟩ (congrArg Prod.fst (J.1.1 125 (12, 92) rfl)) rfl (by decide) rfl rfl ⟨by decide, by decide⟩ (sf_X12_barsByDay_r125d (jr_of rfl (by omega)) (jr_of rfl (by omega)) hD J rfl  (fun v9 h ev9 J S6 X7 X8 => ?_))
    have Sm := jSm_tr rfl Sm S6
    try rw [X7] at D
    try rw [← X8] at D
    show jX m_X12_why 6 0 0 177 [(0, .ref 125), (1, .int l1), (2, .int l2)] [.int v9] _ 0 0 _
    refine x_ifeq (tgt := 183) rfl rfl (ti_eq rfl jk_0 ⟨fun c10 => ?_, fun c10 => ?_⟩)
    ·
      rw [if_pos (by omega)] at D
      refine x_aloadn (x := 125) rfl rfl ?_
      refine x_iloadn (x := l1) rfl rfl ?_
      refine x_iloadn (x := l2) rfl rfl ?_
      refine x_inv (N := m_X12_barsByAge) (As := [.int l1, .int l2]) (b := 125) (st := []) (dx9 := 5) (mc := 0) (ms := 0) (host := "") 12 rfl t_X12_barsByAge ⟨Or.inl q_12_365, i_X12_barsByAge.1, i_X12_barsByAge.2⟩ ⟨by decide, rfl⟩ (congrArg Prod.fst (J.1.1 125 (12, 92) rfl)) rfl (by decide) rfl rfl ⟨by decide, by decide⟩ (sf_X12_barsByAge_r125d (jr_of rfl (by omega)) (jr_of rfl (by omega)) hD J rfl  (fun v14 h ev14 J S11 X12 X13 => ?_))
      have Sm := jSm_tr rfl Sm S11
      try rw [X12] at D
      try rw [← X13] at D
      show jX m_X12_why 6 0 0 189 [(0, .ref 125), (1, .int l1), (2, .int l2)] [.int v14] _ 0 0 _
      refine x_ifne (tgt := 201) rfl rfl (ti_ne rfl jk_0 ⟨fun c15 => ?_, fun c15 => ?_⟩)
      ·
        rw [if_neg (by omega)] at D
        exact jX.sub jsb_n (ct_X12_why_r125d_201 hD hQ  h J Sm D)
      ·
        rw [if_pos (by omega)] at D
        refine x_aloadn (x := 125) rfl rfl ?_
        refine x_iloadn (x := l2) rfl rfl ?_
        refine x_iloadn (x := l1) rfl rfl ?_
        refine x_inv (N := m_X12_barsByAge) (As := [.int l2, .int l1]) (b := 125) (st := []) (dx9 := 5) (mc := 0) (ms := 0) (host := "") 12 rfl t_X12_barsByAge ⟨Or.inl q_12_365, i_X12_barsByAge.1, i_X12_barsByAge.2⟩ ⟨by decide, rfl⟩ (congrArg Prod.fst (J.1.1 125 (12, 92) rfl)) rfl (by decide) rfl rfl ⟨by decide, by decide⟩ (sf_X12_barsByAge_r125d (jr_of rfl (by omega)) (jr_of rfl (by omega)) hD J rfl  (fun v19 h ev19 J S16 X17 X18 => ?_))
        have Sm := jSm_tr rfl Sm S16
        try rw [X17] at D
        try rw [← X18] at D
        show jX m_X12_why 6 0 0 198 [(0, .ref 125), (1, .int l1), (2, .int l2)] [.int v19] _ 0 0 _
        refine x_ifeq (tgt := 206) rfl rfl (ti_eq rfl jk_0 ⟨fun c20 => ?_, fun c20 => ?_⟩)
        ·
          rw [if_pos (by omega)] at D
          refine x_iconst (v := 0) rfl ki_0 ?_
          exact jX.sub jsb_n (ct_X12_why_r125d_200207 hD hQ  h J Sm D)
        ·
          rw [if_neg (by omega)] at D
          exact jX.sub jsb_n (ct_X12_why_r125d_201 hD hQ  h J Sm D)
    ·
      rw [if_neg (by omega)] at D
      exact jX.sub jsb_n (ct_X12_why_r125d_180 hD hQ  h J Sm D)
set_option maxRecDepth 100000 in
set_option maxHeartbeats 4000000 in
theorem ct_X12_why_r125d_160 {Dy : jH → Prop} {h0 : jH} {Q : Option Value → jH → Prop} {dr : (Int × jW)} (hD : jDk Dy) (hQ : ∀ (v : Int32) hx9, 0 ≤ v.toInt ∧ v.toInt ≤ 7 → jJ jSgM Dy hx9 → jSm fp_X12_why_r125d h0 hx9 → dr.1 = v.toInt → dr.2 = vw hx9 → Q (some (.int v)) hx9) : ∀ (h : jH), jJ jSgM Dy h → jSm fp_X12_why_r125d h0 h → d_X12_why_r125d_160  (vw h) = dr → jX m_X12_why 6 0 0 160 [] [] h 0 0 Q := by
  intro  h    J Sm D
  unfold d_X12_why_r125d_160 at D
  refine x_iconst (v := 5) rfl ki_5 ?_
  refine x_iret rfl rfl ?_
  exact hQ _ _ (jr_of jk_5 (by omega)) J Sm ((congrArg Prod.fst D).symm.trans (show 5 = (5 : Int32).toInt from by have := jk_5; omega)) (congrArg Prod.snd D).symm
set_option maxRecDepth 100000 in
set_option maxHeartbeats 4000000 in
theorem ct_X12_why_r125d_145 {Dy : jH → Prop} {h0 : jH} {Q : Option Value → jH → Prop} {dr : (Int × jW)} (hD : jDk Dy) (hQ : ∀ (v : Int32) hx9, 0 ≤ v.toInt ∧ v.toInt ≤ 7 → jJ jSgM Dy hx9 → jSm fp_X12_why_r125d h0 hx9 → dr.1 = v.toInt → dr.2 = vw hx9 → Q (some (.int v)) hx9) : ∀ (l1 : Int32) (l2 : Int32) (l3 : Int32) (l4 : Int32) (h : jH), 0 ≤ l1.toInt ∧ l1.toInt ≤ 599 → 0 ≤ l2.toInt ∧ l2.toInt ≤ 599 → 0 ≤ l3.toInt ∧ l3.toInt ≤ 6 → 0 ≤ l4.toInt ∧ l4.toInt ≤ 6 → jJ jSgM Dy h → jSm fp_X12_why_r125d h0 h → d_X12_why_r125d_145  l1.toInt l2.toInt l3.toInt l4.toInt (vw h) = dr → jX m_X12_why 6 0 0 145 [(0, .ref 125), (1, .int l1), (2, .int l2), (3, .int l3), (4, .int l4)] [] h 0 0 Q := by
  intro l1 l2 l3 l4 h y0 y1 y2 y3   J Sm D
  unfold d_X12_why_r125d_145 at D
  refine x_iloadn (x := l3) rfl rfl ?_
  refine x_inst (N := m_X12_isWoman) (As := [.int l3]) (st := []) (dx9 := 1) (mc := 0) (ms := 0) (host := "") rfl t_X12_isWoman ⟨Or.inl q_12_344, s_X12_isWoman⟩ rfl (by decide) rfl rfl ⟨by decide, by decide⟩ (sf_X12_isWomand (jr_of rfl (by omega)) hD J rfl  (fun v4 h ev4 J S1 X2 X3 => ?_))
  have Sm := jSm_tr rfl Sm S1
  try rw [X2] at D
  try rw [← X3] at D
  show jX m_X12_why 6 0 0 149 [(0, .ref 125), (1, .int l1), (2, .int l2), (3, .int l3), (4, .int l4)] [.int v4] _ 0 0 _
  refine x_ifeq (tgt := 162) rfl rfl (ti_eq rfl jk_0 ⟨fun c5 => ?_, fun c5 => ?_⟩)
  ·
    rw [if_pos (by omega)] at D
    exact jX.sub (jsb_c rfl (jsb_c rfl (jsb_c rfl jsb_n))) (ct_X12_why_r125d_162 hD hQ  l1 l2 h (jr_of rfl (by omega)) (jr_of rfl (by omega)) J Sm D)
  ·
    rw [if_neg (by omega)] at D
    refine x_iload (x := l4) rfl rfl ?_
    refine x_inst (N := m_X12_isMan) (As := [.int l4]) (st := []) (dx9 := 1) (mc := 0) (ms := 0) (host := "") rfl t_X12_isMan ⟨Or.inl q_12_341, s_X12_isMan⟩ rfl (by decide) rfl rfl ⟨by decide, by decide⟩ (sf_X12_isMand (jr_of rfl (by omega)) hD J rfl  (fun v9 h ev9 J S6 X7 X8 => ?_))
    have Sm := jSm_tr rfl Sm S6
    try rw [X7] at D
    try rw [← X8] at D
    show jX m_X12_why 6 0 0 157 [(0, .ref 125), (1, .int l1), (2, .int l2), (3, .int l3), (4, .int l4)] [.int v9] _ 0 0 _
    refine x_ifeq (tgt := 162) rfl rfl (ti_eq rfl jk_0 ⟨fun c10 => ?_, fun c10 => ?_⟩)
    ·
      rw [if_pos (by omega)] at D
      exact jX.sub (jsb_c rfl (jsb_c rfl (jsb_c rfl jsb_n))) (ct_X12_why_r125d_162 hD hQ  l1 l2 h (jr_of rfl (by omega)) (jr_of rfl (by omega)) J Sm D)
    ·
      rw [if_neg (by omega)] at D
      exact jX.sub jsb_n (ct_X12_why_r125d_160 hD hQ  h J Sm D)
set_option maxRecDepth 100000 in
set_option maxHeartbeats 4000000 in
theorem ct_X12_why_r125d_130 {Dy : jH → Prop} {h0 : jH} {Q : Option Value → jH → Prop} {dr : (Int × jW)} (hD : jDk Dy) (hQ : ∀ (v : Int32) hx9, 0 ≤ v.toInt ∧ v.toInt ≤ 7 → jJ jSgM Dy hx9 → jSm fp_X12_why_r125d h0 hx9 → dr.1 = v.toInt → dr.2 = vw hx9 → Q (some (.int v)) hx9) : ∀ (l1 : Int32) (l2 : Int32) (l3 : Int32) (l4 : Int32) (h : jH), 0 ≤ l1.toInt ∧ l1.toInt ≤ 599 → 0 ≤ l2.toInt ∧ l2.toInt ≤ 599 → 0 ≤ l3.toInt ∧ l3.toInt ≤ 6 → 0 ≤ l4.toInt ∧ l4.toInt ≤ 6 → jJ jSgM Dy h → jSm fp_X12_why_r125d h0 h → d_X12_why_r125d_130  l1.toInt l2.toInt l3.toInt l4.toInt (vw h) = dr → jX m_X12_why 6 0 0 130 [(0, .ref 125), (1, .int l1), (2, .int l2), (3, .int l3), (4, .int l4)] [] h 0 0 Q := by
  intro l1 l2 l3 l4 h y0 y1 y2 y3   J Sm D
  unfold d_X12_why_r125d_130 at D
  refine x_iloadn (x := l3) rfl rfl ?_
  refine x_inst (N := m_X12_isMan) (As := [.int l3]) (st := []) (dx9 := 1) (mc := 0) (ms := 0) (host := "") rfl t_X12_isMan ⟨Or.inl q_12_341, s_X12_isMan⟩ rfl (by decide) rfl rfl ⟨by decide, by decide⟩ (sf_X12_isMand (jr_of rfl (by omega)) hD J rfl  (fun v4 h ev4 J S1 X2 X3 => ?_))
  have Sm := jSm_tr rfl Sm S1
  try rw [X2] at D
  try rw [← X3] at D
  show jX m_X12_why 6 0 0 134 [(0, .ref 125), (1, .int l1), (2, .int l2), (3, .int l3), (4, .int l4)] [.int v4] _ 0 0 _
  refine x_ifeq (tgt := 145) rfl rfl (ti_eq rfl jk_0 ⟨fun c5 => ?_, fun c5 => ?_⟩)
  ·
    rw [if_pos (by omega)] at D
    exact jX.sub (jsb_c rfl (jsb_c rfl (jsb_c rfl (jsb_c rfl (jsb_c rfl jsb_n))))) (ct_X12_why_r125d_145 hD hQ  l1 l2 l3 l4 h (jr_of rfl (by omega)) (jr_of rfl (by omega)) (jr_of rfl (by omega)) (jr_of rfl (by omega)) J Sm D)
  ·
    rw [if_neg (by omega)] at D
    refine x_iload (x := l4) rfl rfl ?_
    refine x_inst (N := m_X12_isWoman) (As := [.int l4]) (st := []) (dx9 := 1) (mc := 0) (ms := 0) (host := "") rfl t_X12_isWoman ⟨Or.inl q_12_344, s_X12_isWoman⟩ rfl (by decide) rfl rfl ⟨by decide, by decide⟩ (sf_X12_isWomand (jr_of rfl (by omega)) hD J rfl  (fun v9 h ev9 J S6 X7 X8 => ?_))
    have Sm := jSm_tr rfl Sm S6
    try rw [X7] at D
    try rw [← X8] at D
    show jX m_X12_why 6 0 0 142 [(0, .ref 125), (1, .int l1), (2, .int l2), (3, .int l3), (4, .int l4)] [.int v9] _ 0 0 _
    refine x_ifne (tgt := 160) rfl rfl (ti_ne rfl jk_0 ⟨fun c10 => ?_, fun c10 => ?_⟩)
    ·
      rw [if_neg (by omega)] at D
      exact jX.sub jsb_n (ct_X12_why_r125d_160 hD hQ  h J Sm D)
    ·
      rw [if_pos (by omega)] at D
      exact jX.sub (jsb_c rfl (jsb_c rfl (jsb_c rfl (jsb_c rfl (jsb_c rfl jsb_n))))) (ct_X12_why_r125d_145 hD hQ  l1 l2 l3 l4 h (jr_of rfl (by omega)) (jr_of rfl (by omega)) (jr_of rfl (by omega)) (jr_of rfl (by omega)) J Sm D)
set_option maxRecDepth 100000 in
set_option maxHeartbeats 4000000 in
theorem ct_X12_why_r125d_119 {Dy : jH → Prop} {h0 : jH} {Q : Option Value → jH → Prop} {dr : (Int × jW)} (hD : jDk Dy) (hQ : ∀ (v : Int32) hx9, 0 ≤ v.toInt ∧ v.toInt ≤ 7 → jJ jSgM Dy hx9 → jSm fp_X12_why_r125d h0 hx9 → dr.1 = v.toInt → dr.2 = vw hx9 → Q (some (.int v)) hx9) : ∀ (l1 : Int32) (l2 : Int32) (l3 : Int32) (l4 : Int32) (h : jH), 0 ≤ l1.toInt ∧ l1.toInt ≤ 599 → 0 ≤ l2.toInt ∧ l2.toInt ≤ 599 → 0 ≤ l3.toInt ∧ l3.toInt ≤ 6 → 0 ≤ l4.toInt ∧ l4.toInt ≤ 6 → jJ jSgM Dy h → jSm fp_X12_why_r125d h0 h → d_X12_why_r125d_119  l1.toInt l2.toInt l3.toInt l4.toInt (vw h) = dr → jX m_X12_why 6 0 0 119 [(0, .ref 125), (1, .int l1), (2, .int l2), (3, .int l3), (4, .int l4)] [] h 0 0 Q := by
  intro l1 l2 l3 l4 h y0 y1 y2 y3   J Sm D
  unfold d_X12_why_r125d_119 at D
  refine x_iloadn (x := l3) rfl rfl ?_
  refine x_iconst (v := 5) rfl ki_5 ?_
  refine x_icne (tgt := 130) rfl rfl (ti_ne rfl jk_5 ⟨fun c1 => ?_, fun c1 => ?_⟩)
  ·
    rw [if_neg (by omega)] at D
    exact jX.sub (jsb_c rfl (jsb_c rfl (jsb_c rfl (jsb_c rfl (jsb_c rfl jsb_n))))) (ct_X12_why_r125d_130 hD hQ  l1 l2 l3 l4 h (jr_of rfl (by omega)) (jr_of rfl (by omega)) (jr_of rfl (by omega)) (jr_of rfl (by omega)) J Sm D)
  ·
    rw [if_pos (by omega)] at D
    refine x_iload (x := l4) rfl rfl ?_
    refine x_iconst (v := 5) rfl ki_5 ?_
    refine x_iceq (tgt := 160) rfl rfl (ti_eq rfl jk_5 ⟨fun c2 => ?_, fun c2 => ?_⟩)
    ·
      rw [if_pos (by omega)] at D
      exact jX.sub jsb_n (ct_X12_why_r125d_160 hD hQ  h J Sm D)
    ·
      rw [if_neg (by omega)] at D
      exact jX.sub (jsb_c rfl (jsb_c rfl (jsb_c rfl (jsb_c rfl (jsb_c rfl jsb_n))))) (ct_X12_why_r125d_130 hD hQ  l1 l2 l3 l4 h (jr_of rfl (by omega)) (jr_of rfl (by omega)) (jr_of rfl (by omega)) (jr_of rfl (by omega)) J Sm D)
set_option maxRecDepth 100000 in
set_option maxHeartbeats 4000000 in
theorem ct_X12_why_r125d_110 {Dy : jH → Prop} {h0 : jH} {Q : Option Value → jH → Prop} {dr : (Int × jW)} (hD : jDk Dy) (hQ : ∀ (v : Int32) hx9, 0 ≤ v.toInt ∧ v.toInt ≤ 7 → jJ jSgM Dy hx9 → jSm fp_X12_why_r125d h0 hx9 → dr.1 = v.toInt → dr.2 = vw hx9 → Q (some (.int v)) hx9) : ∀ (l1 : Int32) (l2 : Int32) (l3 : Int32) (l4 : Int32) (h : jH), 0 ≤ l1.toInt ∧ l1.toInt ≤ 599 → 0 ≤ l2.toInt ∧ l2.toInt ≤ 599 → 0 ≤ l3.toInt ∧ l3.toInt ≤ 6 → 0 ≤ l4.toInt ∧ l4.toInt ≤ 6 → jJ jSgM Dy h → jSm fp_X12_why_r125d h0 h → d_X12_why_r125d_110  l1.toInt l2.toInt l3.toInt l4.toInt (vw h) = dr → jX m_X12_why 6 0 0 110 [(0, .ref 125), (1, .int l1), (2, .int l2), (3, .int l3), (4, .int l4)] [] h 0 0 Q := by
  intro l1 l2 l3 l4 h y0 y1 y2 y3   J Sm D
  unfold d_X12_why_r125d_110 at D
  refine x_iloadn (x := l3) rfl rfl ?_
  refine x_ifne (tgt := 119) rfl rfl (ti_ne rfl jk_0 ⟨fun c1 => ?_, fun c1 => ?_⟩)
  ·
    rw [if_neg (by omega)] at D
    exact jX.sub (jsb_c rfl (jsb_c rfl (jsb_c rfl (jsb_c rfl (jsb_c rfl jsb_n))))) (ct_X12_why_r125d_119 hD hQ  l1 l2 l3 l4 h (jr_of rfl (by omega)) (jr_of rfl (by omega)) (jr_of rfl (by omega)) (jr_of rfl (by omega)) J Sm D)
  ·
    rw [if_pos (by omega)] at D
    refine x_iload (x := l4) rfl rfl ?_
    refine x_ifeq (tgt := 160) rfl rfl (ti_eq rfl jk_0 ⟨fun c2 => ?_, fun c2 => ?_⟩)
    ·
      rw [if_pos (by omega)] at D
      exact jX.sub jsb_n (ct_X12_why_r125d_160 hD hQ  h J Sm D)
    ·
      rw [if_neg (by omega)] at D
      exact jX.sub (jsb_c rfl (jsb_c rfl (jsb_c rfl (jsb_c rfl (jsb_c rfl jsb_n))))) (ct_X12_why_r125d_119 hD hQ  l1 l2 l3 l4 h (jr_of rfl (by omega)) (jr_of rfl (by omega)) (jr_of rfl (by omega)) (jr_of rfl (by omega)) J Sm D)
set_option maxRecDepth 100000 in
set_option maxHeartbeats 4000000 in
theorem ct_X12_why_r125d_52 {Dy : jH → Prop} {h0 : jH} {Q : Option Value → jH → Prop} {dr : (Int × jW)} (hD : jDk Dy) (hQ : ∀ (v : Int32) hx9, 0 ≤ v.toInt ∧ v.toInt ≤ 7 → jJ jSgM Dy hx9 → jSm fp_X12_why_r125d h0 hx9 → dr.1 = v.toInt → dr.2 = vw hx9 → Q (some (.int v)) hx9) : ∀ (l1 : Int32) (l2 : Int32) (h : jH), 0 ≤ l1.toInt ∧ l1.toInt ≤ 599 → 0 ≤ l2.toInt ∧ l2.toInt ≤ 599 → jJ jSgM Dy h → jSm fp_X12_why_r125d h0 h → d_X12_why_r125d_52  l1.toInt l2.toInt (vw h) = dr → jX m_X12_why 6 0 0 52 [(0, .ref 125), (1, .int l1), (2, .int l2)] [] h 0 0 Q := by
  intro l1 l2 h y0 y1   J Sm D
  unfold d_X12_why_r125d_52 at D
  refine x_aloadn (x := 125) rfl rfl ?_
  refine x_iloadn (x := l1) rfl rfl ?_
  refine x_inv (N := m_X12_partOf) (As := [.int l1]) (b := 125) (st := []) (dx9 := 3) (mc := 0) (ms := 0) (host := "") 12 rfl t_X12_partOf ⟨Or.inl q_12_338, i_X12_partOf.1, i_X12_partOf.2⟩ ⟨by decide, rfl⟩ (congrArg Prod.fst (J.1.1 125 (12, 92) rfl)) rfl (by decide) rfl rfl ⟨by decide, by decide⟩ (sf_X12_partOf_r125d (jr_of rfl (by omega)) hD J rfl  (fun v4 h ev4 J S1 X2 X3 => ?_))
  have Sm := jSm_tr rfl Sm S1
  try rw [X2] at D
  try rw [← X3] at D
  show jX m_X12_why 6 0 0 57 [(0, .ref 125), (1, .int l1), (2, .int l2)] [.int v4] _ 0 0 _
  refine x_istoren (lsx9 := [(3, .int v4), (0, .ref 125), (1, .int l1), (2, .int l2)]) rfl rfl rfl ?_
  refine x_aloadn (x := 125) rfl rfl ?_
  refine x_iloadn (x := l2) rfl rfl ?_
  refine x_inv (N := m_X12_partOf) (As := [.int l2]) (b := 125) (st := []) (dx9 := 3) (mc := 0) (ms := 0) (host := "") 12 rfl t_X12_partOf ⟨Or.inl q_12_338, i_X12_partOf.1, i_X12_partOf.2⟩ ⟨by decide, rfl⟩ (congrArg Prod.fst (J.1.1 125 (12, 92) rfl)) rfl (by decide) rfl rfl ⟨by decide, by decide⟩ (sf_X12_partOf_r125d (jr_of rfl (by omega)) hD J rfl  (fun v8 h ev8 J S5 X6 X7 => ?_))
  have Sm := jSm_tr rfl Sm S5
  try rw [X6] at D
  try rw [← X7] at D
  show jX m_X12_why 6 0 0 63 [(3, .int v4), (0, .ref 125), (1, .int l1), (2, .int l2)] [.int v8] _ 0 0 _
  refine x_istore (lsx9 := [(4, .int v8), (3, .int v4), (0, .ref 125), (1, .int l1), (2, .int l2)]) rfl rfl rfl ?_
  refine x_aloadn (x := 125) rfl rfl ?_
  refine x_iloadn (x := l1) rfl rfl ?_
  refine x_iconst (v := 1) rfl ki_1 ?_
  refine x_inv (N := m_X12_isNamed) (As := [.int l1, .int 1]) (b := 125) (st := []) (dx9 := 5) (mc := 0) (ms := 0) (host := "") 12 rfl t_X12_isNamed ⟨Or.inl q_12_315, i_X12_isNamed.1, i_X12_isNamed.2⟩ ⟨by decide, rfl⟩ (congrArg Prod.fst (J.1.1 125 (12, 92) rfl)) rfl (by decide) rfl rfl ⟨by decide, by decide⟩ (jC.of rfl k_X12_isNamed rfl ?_)
  show jX m_X12_isNamed 5 0 0 0 [(0, .ref 125), (1, .int l1), (2, .int 1)] [] _ 0 0 _
  refine x_aloadn (x := 125) rfl rfl ?_
  refine z_getR (N := 92) (b := 126) 12 2 rfl f_12_8 rfl J rfl 16002 ⟨rfl, rfl⟩ rfl ?_
  refine x_aloadn (x := 125) rfl rfl ?_
  refine x_iloadn (x := l1) rfl rfl ?_
  refine x_iloadn (x := 1) rfl rfl ?_
  refine x_inv (N := m_X12_nameAt) (As := [.int l1, .int 1]) (b := 125) (st := [.ref 126]) (dx9 := 4) (mc := 0) (ms := 0) (host := "") 12 rfl t_X12_nameAt ⟨Or.inl q_12_311, i_X12_nameAt.1, i_X12_nameAt.2⟩ ⟨by decide, rfl⟩ (congrArg Prod.fst (J.1.1 125 (12, 92) rfl)) rfl (by decide) rfl rfl ⟨by decide, by decide⟩ (jC.of rfl k_X12_nameAt rfl ?_)
  show jX m_X12_nameAt 4 0 0 0 [(0, .ref 125), (1, .int l1), (2, .int 1)] [] _ 0 0 _
  refine x_aloadn (x := 125) rfl rfl ?_
  refine x_iloadn (x := l1) rfl rfl ?_
  refine x_iconst (v := 3) rfl ki_3 ?_
  refine z_idiv rfl rfl jk_3 (by omega) (by omega) (fun v9 ev9 => ?_)
  refine x_inv (N := m_X12_at) (As := [.int v9]) (b := 125) (st := []) (dx9 := 3) (mc := 0) (ms := 0) (host := "") 12 rfl t_X12_at ⟨Or.inl q_12_254, i_X12_at.1, i_X12_at.2⟩ ⟨by decide, rfl⟩ (congrArg Prod.fst (J.1.1 125 (12, 92) rfl)) rfl (by decide) rfl rfl ⟨by decide, by decide⟩ (jC.of rfl k_X12_at rfl ?_)
  show jX m_X12_at 3 0 0 0 [(0, .ref 125), (1, .int v9)] [] _ 0 0 _
  refine x_bipush (v := 20) rfl kb_20 ?_
  refine x_bipush (v := 90) rfl kb_90 ?_
  refine x_iloadn (x := v9) rfl rfl ?_
  refine z_imul rfl jk_90 rfl (by omega) (fun v10 ev10 => ?_)
  refine z_iadd rfl jk_20 rfl (by omega) (fun v11 ev11 => ?_)
  refine x_iret rfl rfl ?_
  show jX m_X12_nameAt 4 0 0 7 [(0, .ref 125), (1, .int l1), (2, .int 1)] [.int v11] _ 0 0 _
  refine x_bipush (v := 6) rfl kb_6 ?_
  refine z_iadd rfl rfl jk_6 (by omega) (fun v12 ev12 => ?_)
  refine x_bipush (v := 28) rfl kb_28 ?_
  refine x_iloadn (x := l1) rfl rfl ?_
  refine x_iconst (v := 3) rfl ki_3 ?_
  refine z_irem rfl rfl jk_3 (by omega) (by omega) (fun v13 ev13 => ?_)
  refine z_imul rfl jk_28 rfl (by omega) (fun v14 ev14 => ?_)
  refine z_iadd rfl rfl rfl (by omega) (fun v15 ev15 => ?_)
  refine x_bipush (v := 14) rfl kb_14 ?_
  refine x_iloadn (x := 1) rfl rfl ?_
  refine y_imul (v := 14) rfl (by decide) ?_
  refine z_iadd rfl rfl jk_14 (by omega) (fun v16 ev16 => ?_)
  have rnv16 := jnam (m := l1.toInt) (w := 1) (v := v16.toInt) (by omega) (by omega) (by omega)
  refine x_iret rfl rfl ?_
  show jX m_X12_isNamed 5 0 0 10 [(0, .ref 125), (1, .int l1), (2, .int 1)] [.int v16, .ref 126] _ 0 0 _
  refine z_ialdU (N := 50660) (lo := 0) (hi := 12) rfl J rfl rfl (by omega) ((show (v16.toInt - 20) % 90 = 20 ∨ (v16.toInt - 20) % 90 = 48 ∨ (v16.toInt - 20) % 90 = 76 from by omega).elim (fun q => (jrg_w (jrg_c J sg_126_20_18020_90_20_21 rfl (by omega)) (by decide))) (fun q => q.elim (fun q => (jrg_w (jrg_c J sg_126_20_18020_90_48_49 rfl (by omega)) (by decide))) (fun q => (jrg_w (jrg_c J sg_126_20_18020_90_76_77 rfl (by omega)) (by decide))))) (fun v17 qv17 ev17 => ?_)
  try rw [vrd qv17 (show ((((20 + (90 * (l1.toInt / 3))) + 6) + (28 * (l1.toInt % 3))) + 14) = v16.toInt from by omega)] at D
  refine x_ifle (tgt := 18) rfl rfl (ti_le rfl jk_0 ⟨fun c18 => ?_, fun c18 => ?_⟩)
  ·
    rw [if_pos (by omega)] at D
    refine x_iconst (v := 0) rfl ki_0 ?_
    refine x_zret rfl rfl (by decide) ?_
    show jX m_X12_why 6 0 0 71 [(4, .int v8), (3, .int v4), (0, .ref 125), (1, .int l1), (2, .int l2)] [.int 0] _ 0 0 _
    refine x_ifeq (tgt := 110) rfl rfl (ti_eq jk_0 jk_0 (br_t (by omega) ?_))
    exact jX.sub (jsb_c rfl (jsb_c rfl (jsb_c rfl (jsb_c rfl (jsb_c rfl jsb_n))))) (ct_X12_why_r125d_110 hD hQ  l1 l2 v4 v8 h (jr_of rfl (by omega)) (jr_of rfl (by omega)) (jr_of rfl (by omega)) (jr_of rfl (by omega)) J Sm D)
  ·
    rw [if_neg (by omega)] at D
    refine x_iconst (v := 1) rfl ki_1 ?_
    refine x_goto (tgt := 19) rfl rfl ?_
    refine x_zret rfl rfl (by decide) ?_
    show jX m_X12_why 6 0 0 71 [(4, .int v8), (3, .int v4), (0, .ref 125), (1, .int l1), (2, .int l2)] [.int 1] _ 0 0 _
    refine x_ifeq (tgt := 110) rfl rfl (ti_eq jk_1 jk_0 (br_f (by omega) ?_))
    refine x_aloadn (x := 125) rfl rfl ?_
    refine x_iloadn (x := l2) rfl rfl ?_
    refine x_iconst (v := 1) rfl ki_1 ?_
    refine x_inv (N := m_X12_isNamed) (As := [.int l2, .int 1]) (b := 125) (st := []) (dx9 := 5) (mc := 0) (ms := 0) (host := "") 12 rfl t_X12_isNamed ⟨Or.inl q_12_315, i_X12_isNamed.1, i_X12_isNamed.2⟩ ⟨by decide, rfl⟩ (congrArg Prod.fst (J.1.1 125 (12, 92) rfl)) rfl (by decide) rfl rfl ⟨by decide, by decide⟩ (jC.of rfl k_X12_isNamed rfl ?_)
    show jX m_X12_isNamed 5 0 0 0 [(0, .ref 125), (1, .int l2), (2, .int 1)] [] _ 0 0 _
    refine x_aloadn (x := 125) rfl rfl ?_
    refine z_getR (N := 92) (b := 126) 12 2 rfl f_12_8 rfl J rfl 16002 ⟨rfl, rfl⟩ rfl ?_
    refine x_aloadn (x := 125) rfl rfl ?_
    refine x_iloadn (x := l2) rfl rfl ?_
    refine x_iloadn (x := 1) rfl rfl ?_
    refine x_inv (N := m_X12_nameAt) (As := [.int l2, .int 1]) (b := 125) (st := [.ref 126]) (dx9 := 4) (mc := 0) (ms := 0) (host := "") 12 rfl t_X12_nameAt ⟨Or.inl q_12_311, i_X12_nameAt.1, i_X12_nameAt.2⟩ ⟨by decide, rfl⟩ (congrArg Prod.fst (J.1.1 125 (12, 92) rfl)) rfl (by decide) rfl rfl ⟨by decide, by decide⟩ (jC.of rfl k_X12_nameAt rfl ?_)
    show jX m_X12_nameAt 4 0 0 0 [(0, .ref 125), (1, .int l2), (2, .int 1)] [] _ 0 0 _
    refine x_aloadn (x := 125) rfl rfl ?_
    refine x_iloadn (x := l2) rfl rfl ?_
    refine x_iconst (v := 3) rfl ki_3 ?_
    refine z_idiv rfl rfl jk_3 (by omega) (by omega) (fun v19 ev19 => ?_)
    refine x_inv (N := m_X12_at) (As := [.int v19]) (b := 125) (st := []) (dx9 := 3) (mc := 0) (ms := 0) (host := "") 12 rfl t_X12_at ⟨Or.inl q_12_254, i_X12_at.1, i_X12_at.2⟩ ⟨by decide, rfl⟩ (congrArg Prod.fst (J.1.1 125 (12, 92) rfl)) rfl (by decide) rfl rfl ⟨by decide, by decide⟩ (jC.of rfl k_X12_at rfl ?_)
    show jX m_X12_at 3 0 0 0 [(0, .ref 125), (1, .int v19)] [] _ 0 0 _
    refine x_bipush (v := 20) rfl kb_20 ?_
    refine x_bipush (v := 90) rfl kb_90 ?_
    refine x_iloadn (x := v19) rfl rfl ?_
    refine z_imul rfl jk_90 rfl (by omega) (fun v20 ev20 => ?_)
    refine z_iadd rfl jk_20 rfl (by omega) (fun v21 ev21 => ?_)
    refine x_iret rfl rfl ?_
    show jX m_X12_nameAt 4 0 0 7 [(0, .ref 125), (1, .int l2), (2, .int 1)] [.int v21] _ 0 0 _
    refine x_bipush (v := 6) rfl kb_6 ?_
    refine z_iadd rfl rfl jk_6 (by omega) (fun v22 ev22 => ?_)
    refine x_bipush (v := 28) rfl kb_28 ?_
    refine x_iloadn (x := l2) rfl rfl ?_
    refine x_iconst (v := 3) rfl ki_3 ?_
    refine z_irem rfl rfl jk_3 (by omega) (by omega) (fun v23 ev23 => ?_)
    refine z_imul rfl jk_28 rfl (by omega) (fun v24 ev24 => ?_)
    refine z_iadd rfl rfl rfl (by omega) (fun v25 ev25 => ?_)
    refine x_bipush (v := 14) rfl kb_14 ?_
    refine x_iloadn (x := 1) rfl rfl ?_
    refine y_imul (v := 14) rfl (by decide) ?_
    refine z_iadd rfl rfl jk_14 (by omega) (fun v26 ev26 => ?_)
    have rnv26 := jnam (m := l2.toInt) (w := 1) (v := v26.toInt) (by omega) (by omega) (by omega)
    refine x_iret rfl rfl ?_
    show jX m_X12_isNamed 5 0 0 10 [(0, .ref 125), (1, .int l2), (2, .int 1)] [.int v26, .ref 126] _ 0 0 _
    refine z_ialdU (N := 50660) (lo := 0) (hi := 12) rfl J rfl rfl (by omega) ((show (v26.toInt - 20) % 90 = 20 ∨ (v26.toInt - 20) % 90 = 48 ∨ (v26.toInt - 20) % 90 = 76 from by omega).elim (fun q => (jrg_w (jrg_c J sg_126_20_18020_90_20_21 rfl (by omega)) (by decide))) (fun q => q.elim (fun q => (jrg_w (jrg_c J sg_126_20_18020_90_48_49 rfl (by omega)) (by decide))) (fun q => (jrg_w (jrg_c J sg_126_20_18020_90_76_77 rfl (by omega)) (by decide))))) (fun v27 qv27 ev27 => ?_)
    try rw [vrd qv27 (show ((((20 + (90 * (l2.toInt / 3))) + 6) + (28 * (l2.toInt % 3))) + 14) = v26.toInt from by omega)] at D
    refine x_ifle (tgt := 18) rfl rfl (ti_le rfl jk_0 ⟨fun c28 => ?_, fun c28 => ?_⟩)
    ·
      rw [if_pos (by omega)] at D
      refine x_iconst (v := 0) rfl ki_0 ?_
      refine x_zret rfl rfl (by decide) ?_
      show jX m_X12_why 6 0 0 80 [(4, .int v8), (3, .int v4), (0, .ref 125), (1, .int l1), (2, .int l2)] [.int 0] _ 0 0 _
      refine x_ifeq (tgt := 110) rfl rfl (ti_eq jk_0 jk_0 (br_t (by omega) ?_))
      exact jX.sub (jsb_c rfl (jsb_c rfl (jsb_c rfl (jsb_c rfl (jsb_c rfl jsb_n))))) (ct_X12_why_r125d_110 hD hQ  l1 l2 v4 v8 h (jr_of rfl (by omega)) (jr_of rfl (by omega)) (jr_of rfl (by omega)) (jr_of rfl (by omega)) J Sm D)
    ·
      rw [if_neg (by omega)] at D
      refine x_iconst (v := 1) rfl ki_1 ?_
      refine x_goto (tgt := 19) rfl rfl ?_
      refine x_zret rfl rfl (by decide) ?_
      show jX m_X12_why 6 0 0 80 [(4, .int v8), (3, .int v4), (0, .ref 125), (1, .int l1), (2, .int l2)] [.int 1] _ 0 0 _
      refine x_ifeq (tgt := 110) rfl rfl (ti_eq jk_1 jk_0 (br_f (by omega) ?_))
      refine x_iloadn (x := v4) rfl rfl ?_
      refine x_inst (N := m_X12_isWoman) (As := [.int v4]) (st := []) (dx9 := 1) (mc := 0) (ms := 0) (host := "") rfl t_X12_isWoman ⟨Or.inl q_12_344, s_X12_isWoman⟩ rfl (by decide) rfl rfl ⟨by decide, by decide⟩ (sf_X12_isWomand (jr_of rfl (by omega)) hD J rfl  (fun v32 h ev32 J S29 X30 X31 => ?_))
      have Sm := jSm_tr rfl Sm S29
      try rw [X30] at D
      try rw [← X31] at D
      show jX m_X12_why 6 0 0 87 [(4, .int v8), (3, .int v4), (0, .ref 125), (1, .int l1), (2, .int l2)] [.int v32] _ 0 0 _
      refine x_ifne (tgt := 110) rfl rfl (ti_ne rfl jk_0 ⟨fun c33 => ?_, fun c33 => ?_⟩)
      ·
        rw [if_neg (by omega)] at D
        exact jX.sub (jsb_c rfl (jsb_c rfl (jsb_c rfl (jsb_c rfl (jsb_c rfl jsb_n))))) (ct_X12_why_r125d_110 hD hQ  l1 l2 v4 v8 h (jr_of rfl (by omega)) (jr_of rfl (by omega)) (jr_of rfl (by omega)) (jr_of rfl (by omega)) J Sm D)
      ·
        rw [if_pos (by omega)] at D
        refine x_iload (x := v8) rfl rfl ?_
        refine x_inst (N := m_X12_isWoman) (As := [.int v8]) (st := []) (dx9 := 1) (mc := 0) (ms := 0) (host := "") rfl t_X12_isWoman ⟨Or.inl q_12_344, s_X12_isWoman⟩ rfl (by decide) rfl rfl ⟨by decide, by decide⟩ (sf_X12_isWomand (jr_of rfl (by omega)) hD J rfl  (fun v37 h ev37 J S34 X35 X36 => ?_))
        have Sm := jSm_tr rfl Sm S34
        try rw [X35] at D
        try rw [← X36] at D
        show jX m_X12_why 6 0 0 95 [(4, .int v8), (3, .int v4), (0, .ref 125), (1, .int l1), (2, .int l2)] [.int v37] _ 0 0 _
        refine x_ifne (tgt := 110) rfl rfl (ti_ne rfl jk_0 ⟨fun c38 => ?_, fun c38 => ?_⟩)
        ·
          rw [if_neg (by omega)] at D
          exact jX.sub (jsb_c rfl (jsb_c rfl (jsb_c rfl (jsb_c rfl (jsb_c rfl jsb_n))))) (ct_X12_why_r125d_110 hD hQ  l1 l2 v4 v8 h (jr_of rfl (by omega)) (jr_of rfl (by omega)) (jr_of rfl (by omega)) (jr_of rfl (by omega)) J Sm D)
        ·
          rw [if_pos (by omega)] at D
          refine x_aloadn (x := 125) rfl rfl ?_
          refine x_iloadn (x := l1) rfl rfl ?_
          refine x_iloadn (x := l2) rfl rfl ?_
          refine x_iconst (v := 1) rfl ki_1 ?_
          refine x_inv (N := m_X12_areAlike) (As := [.int l1, .int l2, .int 1]) (b := 125) (st := []) (dx9 := 4) (mc := 0) (ms := 0) (host := "") 12 rfl t_X12_areAlike ⟨Or.inl q_12_358, i_X12_areAlike.1, i_X12_areAlike.2⟩ ⟨by decide, rfl⟩ (congrArg Prod.fst (J.1.1 125 (12, 92) rfl)) rfl (by decide) rfl rfl ⟨by decide, by decide⟩ (sf_X12_areAlike_r125d (jr_of rfl (by omega)) (jr_of rfl (by omega)) (jr_of jk_1 (by omega)) hD J rfl  (fun v42 h ev42 J S39 X40 X41 => ?_))
          have Sm := jSm_tr rfl Sm S39
          try rw [jk_1] at X40
          try rw [jk_1] at X41
          try rw [X40] at D
          try rw [X41] at D
          show jX m_X12_why 6 0 0 105 [(4, .int v8), (3, .int v4), (0, .ref 125), (1, .int l1), (2, .int l2)] [.int v42] _ 0 0 _
          refine x_ifne (tgt := 110) rfl rfl (ti_ne rfl jk_0 ⟨fun c43 => ?_, fun c43 => ?_⟩)
          ·
            rw [if_neg (by omega)] at D
            exact jX.sub (jsb_c rfl (jsb_c rfl (jsb_c rfl (jsb_c rfl (jsb_c rfl jsb_n))))) (ct_X12_why_r125d_110 hD hQ  l1 l2 v4 v8 h (jr_of rfl (by omega)) (jr_of rfl (by omega)) (jr_of rfl (by omega)) (jr_of rfl (by omega)) J Sm D)
          ·
            rw [if_pos (by omega)] at D
            refine x_iconst (v := 4) rfl ki_4 ?_
            refine x_iret rfl rfl ?_
            exact hQ _ _ (jr_of jk_4 (by omega)) J Sm ((congrArg Prod.fst D).symm.trans (show 4 = (4 : Int32).toInt from by have := jk_4; omega)) (congrArg Prod.snd D).symm
set_option maxRecDepth 100000 in
set_option maxHeartbeats 4000000 in
theorem sf_X12_why_r125d {Dy : jH → Prop} {h : jH} {Q : Option Value → jH → Prop} {dr : (Int × jW)} {a1 : Int32} {a2 : Int32} (y1 : 0 ≤ a1.toInt ∧ a1.toInt ≤ 599) (y2 : 0 ≤ a2.toInt ∧ a2.toInt ≤ 599) (hD : jDk Dy) (J : jJ jSgM Dy h) (D : d_X12_why_r125d a1.toInt a2.toInt (vw h) = dr) (hQ : ∀ (v : Int32) hx9, 0 ≤ v.toInt ∧ v.toInt ≤ 7 → jJ jSgM Dy hx9 → jSm fp_X12_why_r125d h hx9 → dr.1 = v.toInt → dr.2 = vw hx9 → Q (some (.int v)) hx9) : jC m_X12_why 6 0 0 [.ref 125, .int a1, .int a2] h Q := by
  refine jC.of rfl k_X12_why rfl ?_
  have Sm := jSm_rf fp_X12_why_r125d h
  show jX m_X12_why 6 0 0 0 [(0, .ref 125), (1, .int a1), (2, .int a2)] [] _ 0 0 _
  unfold d_X12_why_r125d at D
  refine x_iloadn (x := a1) rfl rfl ?_
  refine x_iconst (v := 3) rfl ki_3 ?_
  refine z_idiv rfl rfl jk_3 (by omega) (by omega) (fun v1 ev1 => ?_)
  refine x_iloadn (x := a2) rfl rfl ?_
  refine x_iconst (v := 3) rfl ki_3 ?_
  refine z_idiv rfl rfl jk_3 (by omega) (by omega) (fun v2 ev2 => ?_)
  refine x_icne (tgt := 11) rfl rfl (ti_ne rfl rfl ⟨fun c3 => ?_, fun c3 => ?_⟩)
  ·
    rw [if_neg (by omega)] at D
    refine x_aloadn (x := 125) rfl rfl ?_
    refine x_iloadn (x := a1) rfl rfl ?_
    refine x_iloadn (x := a2) rfl rfl ?_
    refine x_inv (N := m_X12_areApart) (As := [.int a1, .int a2]) (b := 125) (st := []) (dx9 := 1) (mc := 0) (ms := 0) (host := "") 12 rfl t_X12_areApart ⟨Or.inl q_12_355, i_X12_areApart.1, i_X12_areApart.2⟩ ⟨by decide, rfl⟩ (congrArg Prod.fst (J.1.1 125 (12, 92) rfl)) rfl (by decide) rfl rfl ⟨by decide, by decide⟩ (sf_X12_areApart_r125d (jr_of rfl (by omega)) (jr_of rfl (by omega)) hD J rfl  (fun v7 h ev7 J S4 X5 X6 => ?_))
    have Sm := jSm_tr rfl Sm S4
    try rw [X5] at D
    try rw [← X6] at D
    show jX m_X12_why 6 0 0 17 [(0, .ref 125), (1, .int a1), (2, .int a2)] [.int v7] _ 0 0 _
    refine x_ifeq (tgt := 22) rfl rfl (ti_eq rfl jk_0 ⟨fun c8 => ?_, fun c8 => ?_⟩)
    ·
      rw [if_pos (by omega)] at D
      refine x_aloadn (x := 125) rfl rfl ?_
      refine x_iloadn (x := a1) rfl rfl ?_
      refine x_iconst (v := 0) rfl ki_0 ?_
      refine x_inv (N := m_X12_isNamed) (As := [.int a1, .int 0]) (b := 125) (st := []) (dx9 := 5) (mc := 0) (ms := 0) (host := "") 12 rfl t_X12_isNamed ⟨Or.inl q_12_315, i_X12_isNamed.1, i_X12_isNamed.2⟩ ⟨by decide, rfl⟩ (congrArg Prod.fst (J.1.1 125 (12, 92) rfl)) rfl (by decide) rfl rfl ⟨by decide, by decide⟩ (jC.of rfl k_X12_isNamed rfl ?_)
      show jX m_X12_isNamed 5 0 0 0 [(0, .ref 125), (1, .int a1), (2, .int 0)] [] _ 0 0 _
      refine x_aloadn (x := 125) rfl rfl ?_
      refine z_getR (N := 92) (b := 126) 12 2 rfl f_12_8 rfl J rfl 16002 ⟨rfl, rfl⟩ rfl ?_
      refine x_aloadn (x := 125) rfl rfl ?_
      refine x_iloadn (x := a1) rfl rfl ?_
      refine x_iloadn (x := 0) rfl rfl ?_
      refine x_inv (N := m_X12_nameAt) (As := [.int a1, .int 0]) (b := 125) (st := [.ref 126]) (dx9 := 4) (mc := 0) (ms := 0) (host := "") 12 rfl t_X12_nameAt ⟨Or.inl q_12_311, i_X12_nameAt.1, i_X12_nameAt.2⟩ ⟨by decide, rfl⟩ (congrArg Prod.fst (J.1.1 125 (12, 92) rfl)) rfl (by decide) rfl rfl ⟨by decide, by decide⟩ (jC.of rfl k_X12_nameAt rfl ?_)
      show jX m_X12_nameAt 4 0 0 0 [(0, .ref 125), (1, .int a1), (2, .int 0)] [] _ 0 0 _
      refine x_aloadn (x := 125) rfl rfl ?_
      refine x_iloadn (x := a1) rfl rfl ?_
      refine x_iconst (v := 3) rfl ki_3 ?_
      refine z_idiv rfl rfl jk_3 (by omega) (by omega) (fun v9 ev9 => ?_)
      refine x_inv (N := m_X12_at) (As := [.int v9]) (b := 125) (st := []) (dx9 := 3) (mc := 0) (ms := 0) (host := "") 12 rfl t_X12_at ⟨Or.inl q_12_254, i_X12_at.1, i_X12_at.2⟩ ⟨by decide, rfl⟩ (congrArg Prod.fst (J.1.1 125 (12, 92) rfl)) rfl (by decide) rfl rfl ⟨by decide, by decide⟩ (jC.of rfl k_X12_at rfl ?_)
      show jX m_X12_at 3 0 0 0 [(0, .ref 125), (1, .int v9)] [] _ 0 0 _
      refine x_bipush (v := 20) rfl kb_20 ?_
      refine x_bipush (v := 90) rfl kb_90 ?_
      refine x_iloadn (x := v9) rfl rfl ?_
      refine z_imul rfl jk_90 rfl (by omega) (fun v10 ev10 => ?_)
      refine z_iadd rfl jk_20 rfl (by omega) (fun v11 ev11 => ?_)
      refine x_iret rfl rfl ?_
      show jX m_X12_nameAt 4 0 0 7 [(0, .ref 125), (1, .int a1), (2, .int 0)] [.int v11] _ 0 0 _
      refine x_bipush (v := 6) rfl kb_6 ?_
      refine z_iadd rfl rfl jk_6 (by omega) (fun v12 ev12 => ?_)
      refine x_bipush (v := 28) rfl kb_28 ?_
      refine x_iloadn (x := a1) rfl rfl ?_
      refine x_iconst (v := 3) rfl ki_3 ?_
      refine z_irem rfl rfl jk_3 (by omega) (by omega) (fun v13 ev13 => ?_)
      refine z_imul rfl jk_28 rfl (by omega) (fun v14 ev14 => ?_)
      refine z_iadd rfl rfl rfl (by omega) (fun v15 ev15 => ?_)
      refine x_bipush (v := 14) rfl kb_14 ?_
      refine x_iloadn (x := 0) rfl rfl ?_
      refine y_imul (v := 0) rfl (by decide) ?_
      refine z_iadd rfl rfl jk_0 (by omega) (fun v16 ev16 => ?_)
      have rnv16 := jnam (m := a1.toInt) (w := 0) (v := v16.toInt) (by omega) (by omega) (by omega)
      refine x_iret rfl rfl ?_
      show jX m_X12_isNamed 5 0 0 10 [(0, .ref 125), (1, .int a1), (2, .int 0)] [.int v16, .ref 126] _ 0 0 _
      refine z_ialdU (N := 50660) (lo := 0) (hi := 12) rfl J rfl rfl (by omega) ((show (v16.toInt - 20) % 90 = 6 ∨ (v16.toInt - 20) % 90 = 34 ∨ (v16.toInt - 20) % 90 = 62 from by omega).elim (fun q => (jrg_w (jrg_c J sg_126_20_18020_90_6_7 rfl (by omega)) (by decide))) (fun q => q.elim (fun q => (jrg_w (jrg_c J sg_126_20_18020_90_34_35 rfl (by omega)) (by decide))) (fun q => (jrg_w (jrg_c J sg_126_20_18020_90_62_63 rfl (by omega)) (by decide))))) (fun v17 qv17 ev17 => ?_)
      try rw [vrd qv17 (show ((((20 + (90 * (a1.toInt / 3))) + 6) + (28 * (a1.toInt % 3))) + 0) = v16.toInt from by omega)] at D
      refine x_ifle (tgt := 18) rfl rfl (ti_le rfl jk_0 ⟨fun c18 => ?_, fun c18 => ?_⟩)
      ·
        rw [if_pos (by omega)] at D
        refine x_iconst (v := 0) rfl ki_0 ?_
        refine x_zret rfl rfl (by decide) ?_
        show jX m_X12_why 6 0 0 28 [(0, .ref 125), (1, .int a1), (2, .int a2)] [.int 0] _ 0 0 _
        refine x_ifeq (tgt := 52) rfl rfl (ti_eq jk_0 jk_0 (br_t (by omega) ?_))
        exact jX.sub (jsb_c rfl (jsb_c rfl (jsb_c rfl jsb_n))) (ct_X12_why_r125d_52 hD hQ  a1 a2 h (jr_of rfl (by omega)) (jr_of rfl (by omega)) J Sm D)
      ·
        rw [if_neg (by omega)] at D
        refine x_iconst (v := 1) rfl ki_1 ?_
        refine x_goto (tgt := 19) rfl rfl ?_
        refine x_zret rfl rfl (by decide) ?_
        show jX m_X12_why 6 0 0 28 [(0, .ref 125), (1, .int a1), (2, .int a2)] [.int 1] _ 0 0 _
        refine x_ifeq (tgt := 52) rfl rfl (ti_eq jk_1 jk_0 (br_f (by omega) ?_))
        refine x_aloadn (x := 125) rfl rfl ?_
        refine x_iloadn (x := a2) rfl rfl ?_
        refine x_iconst (v := 0) rfl ki_0 ?_
        refine x_inv (N := m_X12_isNamed) (As := [.int a2, .int 0]) (b := 125) (st := []) (dx9 := 5) (mc := 0) (ms := 0) (host := "") 12 rfl t_X12_isNamed ⟨Or.inl q_12_315, i_X12_isNamed.1, i_X12_isNamed.2⟩ ⟨by decide, rfl⟩ (congrArg Prod.fst (J.1.1 125 (12, 92) rfl)) rfl (by decide) rfl rfl ⟨by decide, by decide⟩ (jC.of rfl k_X12_isNamed rfl ?_)
        show jX m_X12_isNamed 5 0 0 0 [(0, .ref 125), (1, .int a2), (2, .int 0)] [] _ 0 0 _
        refine x_aloadn (x := 125) rfl rfl ?_
        refine z_getR (N := 92) (b := 126) 12 2 rfl f_12_8 rfl J rfl 16002 ⟨rfl, rfl⟩ rfl ?_
        refine x_aloadn (x := 125) rfl rfl ?_
        refine x_iloadn (x := a2) rfl rfl ?_
        refine x_iloadn (x := 0) rfl rfl ?_
        refine x_inv (N := m_X12_nameAt) (As := [.int a2, .int 0]) (b := 125) (st := [.ref 126]) (dx9 := 4) (mc := 0) (ms := 0) (host := "") 12 rfl t_X12_nameAt ⟨Or.inl q_12_311, i_X12_nameAt.1, i_X12_nameAt.2⟩ ⟨by decide, rfl⟩ (congrArg Prod.fst (J.1.1 125 (12, 92) rfl)) rfl (by decide) rfl rfl ⟨by decide, by decide⟩ (jC.of rfl k_X12_nameAt rfl ?_)
        show jX m_X12_nameAt 4 0 0 0 [(0, .ref 125), (1, .int a2), (2, .int 0)] [] _ 0 0 _
        refine x_aloadn (x := 125) rfl rfl ?_
        refine x_iloadn (x := a2) rfl rfl ?_
        refine x_iconst (v := 3) rfl ki_3 ?_
        refine z_idiv rfl rfl jk_3 (by omega) (by omega) (fun v19 ev19 => ?_)
        refine x_inv (N := m_X12_at) (As := [.int v19]) (b := 125) (st := []) (dx9 := 3) (mc := 0) (ms := 0) (host := "") 12 rfl t_X12_at ⟨Or.inl q_12_254, i_X12_at.1, i_X12_at.2⟩ ⟨by decide, rfl⟩ (congrArg Prod.fst (J.1.1 125 (12, 92) rfl)) rfl (by decide) rfl rfl ⟨by decide, by decide⟩ (jC.of rfl k_X12_at rfl ?_)
        show jX m_X12_at 3 0 0 0 [(0, .ref 125), (1, .int v19)] [] _ 0 0 _
        refine x_bipush (v := 20) rfl kb_20 ?_
        refine x_bipush (v := 90) rfl kb_90 ?_
        refine x_iloadn (x := v19) rfl rfl ?_
        refine z_imul rfl jk_90 rfl (by omega) (fun v20 ev20 => ?_)
        refine z_iadd rfl jk_20 rfl (by omega) (fun v21 ev21 => ?_)
        refine x_iret rfl rfl ?_
        show jX m_X12_nameAt 4 0 0 7 [(0, .ref 125), (1, .int a2), (2, .int 0)] [.int v21] _ 0 0 _
        refine x_bipush (v := 6) rfl kb_6 ?_
        refine z_iadd rfl rfl jk_6 (by omega) (fun v22 ev22 => ?_)
        refine x_bipush (v := 28) rfl kb_28 ?_
        refine x_iloadn (x := a2) rfl rfl ?_
        refine x_iconst (v := 3) rfl ki_3 ?_
        refine z_irem rfl rfl jk_3 (by omega) (by omega) (fun v23 ev23 => ?_)
        refine z_imul rfl jk_28 rfl (by omega) (fun v24 ev24 => ?_)
        refine z_iadd rfl rfl rfl (by omega) (fun v25 ev25 => ?_)
        refine x_bipush (v := 14) rfl kb_14 ?_
        refine x_iloadn (x := 0) rfl rfl ?_
        refine y_imul (v := 0) rfl (by decide) ?_
        refine z_iadd rfl rfl jk_0 (by omega) (fun v26 ev26 => ?_)
        have rnv26 := jnam (m := a2.toInt) (w := 0) (v := v26.toInt) (by omega) (by omega) (by omega)
        refine x_iret rfl rfl ?_
        show jX m_X12_isNamed 5 0 0 10 [(0, .ref 125), (1, .int a2), (2, .int 0)] [.int v26, .ref 126] _ 0 0 _
        refine z_ialdU (N := 50660) (lo := 0) (hi := 12) rfl J rfl rfl (by omega) ((show (v26.toInt - 20) % 90 = 6 ∨ (v26.toInt - 20) % 90 = 34 ∨ (v26.toInt - 20) % 90 = 62 from by omega).elim (fun q => (jrg_w (jrg_c J sg_126_20_18020_90_6_7 rfl (by omega)) (by decide))) (fun q => q.elim (fun q => (jrg_w (jrg_c J sg_126_20_18020_90_34_35 rfl (by omega)) (by decide))) (fun q => (jrg_w (jrg_c J sg_126_20_18020_90_62_63 rfl (by omega)) (by decide))))) (fun v27 qv27 ev27 => ?_)
        try rw [vrd qv27 (show ((((20 + (90 * (a2.toInt / 3))) + 6) + (28 * (a2.toInt % 3))) + 0) = v26.toInt from by omega)] at D
        refine x_ifle (tgt := 18) rfl rfl (ti_le rfl jk_0 ⟨fun c28 => ?_, fun c28 => ?_⟩)
        ·
          rw [if_pos (by omega)] at D
          refine x_iconst (v := 0) rfl ki_0 ?_
          refine x_zret rfl rfl (by decide) ?_
          show jX m_X12_why 6 0 0 37 [(0, .ref 125), (1, .int a1), (2, .int a2)] [.int 0] _ 0 0 _
          refine x_ifeq (tgt := 52) rfl rfl (ti_eq jk_0 jk_0 (br_t (by omega) ?_))
          exact jX.sub (jsb_c rfl (jsb_c rfl (jsb_c rfl jsb_n))) (ct_X12_why_r125d_52 hD hQ  a1 a2 h (jr_of rfl (by omega)) (jr_of rfl (by omega)) J Sm D)
        ·
          rw [if_neg (by omega)] at D
          refine x_iconst (v := 1) rfl ki_1 ?_
          refine x_goto (tgt := 19) rfl rfl ?_
          refine x_zret rfl rfl (by decide) ?_
          show jX m_X12_why 6 0 0 37 [(0, .ref 125), (1, .int a1), (2, .int a2)] [.int 1] _ 0 0 _
          refine x_ifeq (tgt := 52) rfl rfl (ti_eq jk_1 jk_0 (br_f (by omega) ?_))
          refine x_aloadn (x := 125) rfl rfl ?_
          refine x_iloadn (x := a1) rfl rfl ?_
          refine x_iloadn (x := a2) rfl rfl ?_
          refine x_iconst (v := 0) rfl ki_0 ?_
          refine x_inv (N := m_X12_areAlike) (As := [.int a1, .int a2, .int 0]) (b := 125) (st := []) (dx9 := 4) (mc := 0) (ms := 0) (host := "") 12 rfl t_X12_areAlike ⟨Or.inl q_12_358, i_X12_areAlike.1, i_X12_areAlike.2⟩ ⟨by decide, rfl⟩ (congrArg Prod.fst (J.1.1 125 (12, 92) rfl)) rfl (by decide) rfl rfl ⟨by decide, by decide⟩ (sf_X12_areAlike_r125d (jr_of rfl (by omega)) (jr_of rfl (by omega)) (jr_of jk_0 (by omega)) hD J rfl  (fun v32 h ev32 J S29 X30 X31 => ?_))
          have Sm := jSm_tr rfl Sm S29
          try rw [jk_0] at X30
          try rw [jk_0] at X31
          try rw [X30] at D
          try rw [X31] at D
          show jX m_X12_why 6 0 0 47 [(0, .ref 125), (1, .int a1), (2, .int a2)] [.int v32] _ 0 0 _
          refine x_ifne (tgt := 52) rfl rfl (ti_ne rfl jk_0 ⟨fun c33 => ?_, fun c33 => ?_⟩)
          ·
            rw [if_neg (by omega)] at D
            exact jX.sub (jsb_c rfl (jsb_c rfl (jsb_c rfl jsb_n))) (ct_X12_why_r125d_52 hD hQ  a1 a2 h (jr_of rfl (by omega)) (jr_of rfl (by omega)) J Sm D)
          ·
            rw [if_pos (by omega)] at D
            refine x_iconst (v := 3) rfl ki_3 ?_
            refine x_iret rfl rfl ?_
            exact hQ _ _ (jr_of jk_3 (by omega)) J Sm ((congrArg Prod.fst D).symm.trans (show 3 = (3 : Int32).toInt from by have := jk_3; omega)) (congrArg Prod.snd D).symm
    ·
      rw [if_neg (by omega)] at D
      refine x_iconst (v := 2) rfl ki_2 ?_
      refine x_iret rfl rfl ?_
      exact hQ _ _ (jr_of jk_2 (by omega)) J Sm ((congrArg Prod.fst D).symm.trans (show 2 = (2 : Int32).toInt from by have := jk_2; omega)) (congrArg Prod.snd D).symm
  ·
    rw [if_pos (by omega)] at D
    refine x_iconst (v := 1) rfl ki_1 ?_
    refine x_iret rfl rfl ?_
    exact hQ _ _ (jr_of jk_1 (by omega)) J Sm ((congrArg Prod.fst D).symm.trans (show 1 = (1 : Int32).toInt from by have := jk_1; omega)) (congrArg Prod.snd D).symm
def fp_X12_canJoin_r125d : jFp := [(137, 0, 80), (138, 0, 2)]
set_option maxRecDepth 100000 in
set_option maxHeartbeats 4000000 in
theorem ct_X12_canJoin_r125d_91 {Dy : jH → Prop} {h0 : jH} {Q : Option Value → jH → Prop} {dr : (Int × jW)} (hD : jDk Dy) (hQ : ∀ (v : Int32) hx9, 0 ≤ v.toInt ∧ v.toInt ≤ 1 → jJ jSgM Dy hx9 → jSm fp_X12_canJoin_r125d h0 hx9 → dr.1 = v.toInt → dr.2 = vw hx9 → Q (some (.int v)) hx9) : ∀ (l3 : Int32) (h : jH), 0 ≤ l3.toInt ∧ l3.toInt ≤ 1 → jJ jSgM Dy h → jSm fp_X12_canJoin_r125d h0 h → d_X12_canJoin_r125d_91  l3.toInt (vw h) = dr → jX m_X12_canJoin 7 0 0 91 [(3, .int l3)] [] h 0 0 Q := by
  intro l3 h y0   J Sm D
  unfold d_X12_canJoin_r125d_91 at D
  refine x_iloadn (x := l3) rfl rfl ?_
  refine x_zret rfl rfl (jz01 (by omega)) ?_
  exact hQ _ _ (jr_of rfl (by omega)) J Sm ((congrArg Prod.fst D).symm.trans (show l3.toInt = l3.toInt from by omega)) (congrArg Prod.snd D).symm
set_option maxRecDepth 100000 in
set_option maxHeartbeats 4000000 in
theorem ct_X12_canJoin_r125d_85 {Dy : jH → Prop} {h0 : jH} {Q : Option Value → jH → Prop} {dr : (Int × jW)} {K15 : Int → Int → Int → Int → Int → jW → (Int × jW)} {R15 : Int} (hD : jDk Dy) (hQ : ∀ (v : Int32) hx9, 0 ≤ v.toInt ∧ v.toInt ≤ 1 → jJ jSgM Dy hx9 → jSm fp_X12_canJoin_r125d h0 hx9 → dr.1 = v.toInt → dr.2 = vw hx9 → Q (some (.int v)) hx9) (k15 : ∀ (l1 : Int32) (l2 : Int32) (l3 : Int32) (l4 : Int32) (l5 : Int32) (h : jH), 600 - l5.toInt < R15 → 0 ≤ l1.toInt ∧ l1.toInt ≤ 599 → 0 ≤ l2.toInt ∧ l2.toInt ≤ 599 → 0 ≤ l3.toInt ∧ l3.toInt ≤ 1 → 0 ≤ l4.toInt ∧ l4.toInt ≤ 600 → l4.toInt % 3 = 0 → 0 ≤ l5.toInt ∧ l5.toInt ≤ 600 → jJ jSgM Dy h → jSm fp_X12_canJoin_r125d h0 h → K15 l1.toInt l2.toInt l3.toInt l4.toInt l5.toInt (vw h) = dr → jX m_X12_canJoin 7 0 0 15 [(0, .ref 125), (1, .int l1), (2, .int l2), (3, .int l3), (4, .int l4), (5, .int l5)] [] h 0 0 Q) : ∀ (l1 : Int32) (l2 : Int32) (l3 : Int32) (l4 : Int32) (l5 : Int32) (h : jH), 0 ≤ l1.toInt ∧ l1.toInt ≤ 599 → 0 ≤ l2.toInt ∧ l2.toInt ≤ 599 → 0 ≤ l3.toInt ∧ l3.toInt ≤ 1 → 3 ≤ l4.toInt ∧ l4.toInt ≤ 600 → l4.toInt % 3 = 0 → 0 ≤ l5.toInt ∧ l5.toInt ≤ 599 → 600 - l5.toInt ≤ R15 → jJ jSgM Dy h → jSm fp_X12_canJoin_r125d h0 h → d_X12_canJoin_r125d_85 K15  l1.toInt l2.toInt l3.toInt l4.toInt l5.toInt (vw h) = dr → jX m_X12_canJoin 7 0 0 85 [(0, .ref 125), (1, .int l1), (2, .int l2), (3, .int l3), (4, .int l4), (5, .int l5)] [] h 0 0 Q := by
  intro l1 l2 l3 l4 l5 h y0 y1 y2 y3 y4 y5  m15 J Sm D
  unfold d_X12_canJoin_r125d_85 at D
  refine z_iinc (x := l5) (lsx9 := fun v1 => [(5, .int v1), (0, .ref 125), (1, .int l1), (2, .int l2), (3, .int l3), (4, .int l4)]) rfl rfl rfl jko_1 (by omega) rfl (fun _ => rfl) (fun v1 ev1 => ?_)
  refine x_goto (tgt := 15) rfl rfl ?_
  try rw [show (l5.toInt + 1) = v1.toInt from by omega] at D
  exact jX.sub (jsb_c rfl (jsb_c rfl (jsb_c rfl (jsb_c rfl (jsb_c rfl (jsb_c rfl jsb_n)))))) (k15 l1 l2 l3 l4 v1 h (by omega) (jr_of rfl (by omega)) (jr_of rfl (by omega)) (jr_of rfl (by omega)) (jr_of rfl (by omega)) (jr_mod rfl (by omega)) (jr_of rfl (by omega)) J Sm D)
set_option maxRecDepth 100000 in
set_option maxHeartbeats 4000000 in
theorem ct_X12_canJoin_r125d_200078 {Dy : jH → Prop} {h0 : jH} {Q : Option Value → jH → Prop} {dr : (Int × jW)} {K15 : Int → Int → Int → Int → Int → jW → (Int × jW)} {K29 : Int → Int → Int → Int → Int → Int → jW → (Int × jW)} {R15 : Int} {R29 : Int} (hD : jDk Dy) (hQ : ∀ (v : Int32) hx9, 0 ≤ v.toInt ∧ v.toInt ≤ 1 → jJ jSgM Dy hx9 → jSm fp_X12_canJoin_r125d h0 hx9 → dr.1 = v.toInt → dr.2 = vw hx9 → Q (some (.int v)) hx9) (k15 : ∀ (l1 : Int32) (l2 : Int32) (l3 : Int32) (l4 : Int32) (l5 : Int32) (h : jH), 600 - l5.toInt < R15 → 0 ≤ l1.toInt ∧ l1.toInt ≤ 599 → 0 ≤ l2.toInt ∧ l2.toInt ≤ 599 → 0 ≤ l3.toInt ∧ l3.toInt ≤ 1 → 0 ≤ l4.toInt ∧ l4.toInt ≤ 600 → l4.toInt % 3 = 0 → 0 ≤ l5.toInt ∧ l5.toInt ≤ 600 → jJ jSgM Dy h → jSm fp_X12_canJoin_r125d h0 h → K15 l1.toInt l2.toInt l3.toInt l4.toInt l5.toInt (vw h) = dr → jX m_X12_canJoin 7 0 0 15 [(0, .ref 125), (1, .int l1), (2, .int l2), (3, .int l3), (4, .int l4), (5, .int l5)] [] h 0 0 Q) (k29 : ∀ (l1 : Int32) (l2 : Int32) (l3 : Int32) (l4 : Int32) (l5 : Int32) (l6 : Int32) (h : jH), 600 - l6.toInt < R29 → 0 ≤ l1.toInt ∧ l1.toInt ≤ 599 → 0 ≤ l2.toInt ∧ l2.toInt ≤ 599 → 0 ≤ l3.toInt ∧ l3.toInt ≤ 1 → 3 ≤ l4.toInt ∧ l4.toInt ≤ 600 → l4.toInt % 3 = 0 → 0 ≤ l5.toInt ∧ l5.toInt ≤ 599 → 0 ≤ l6.toInt ∧ l6.toInt ≤ 600 → 600 - l5.toInt ≤ R15 → jJ jSgM Dy h → jSm fp_X12_canJoin_r125d h0 h → K29 l1.toInt l2.toInt l3.toInt l4.toInt l5.toInt l6.toInt (vw h) = dr → jX m_X12_canJoin 7 0 0 29 [(0, .ref 125), (1, .int l1), (2, .int l2), (3, .int l3), (4, .int l4), (5, .int l5), (6, .int l6)] [] h 0 0 Q) : ∀ (l1 : Int32) (l2 : Int32) (l4 : Int32) (l5 : Int32) (l6 : Int32) (h : jH), 0 ≤ l1.toInt ∧ l1.toInt ≤ 599 → 0 ≤ l2.toInt ∧ l2.toInt ≤ 599 → 3 ≤ l4.toInt ∧ l4.toInt ≤ 600 → l4.toInt % 3 = 0 → 0 ≤ l5.toInt ∧ l5.toInt ≤ 599 → 0 ≤ l6.toInt ∧ l6.toInt ≤ 599 → 600 - l5.toInt ≤ R15 → 600 - l6.toInt ≤ R29 → jJ jSgM Dy h → jSm fp_X12_canJoin_r125d h0 h → d_X12_canJoin_r125d_200078 K15 K29  l1.toInt l2.toInt l4.toInt l5.toInt l6.toInt (vw h) = dr → jX m_X12_canJoin 7 0 0 78 [(0, .ref 125), (1, .int l1), (2, .int l2), (4, .int l4), (5, .int l5), (6, .int l6)] [.int 0] h 0 0 Q := by
  intro l1 l2 l4 l5 l6 h y0 y1 y2 y3 y4 y5  m15 m29 J Sm D
  unfold d_X12_canJoin_r125d_200078 at D
  refine x_istoren (lsx9 := [(3, .int 0), (0, .ref 125), (1, .int l1), (2, .int l2), (4, .int l4), (5, .int l5), (6, .int l6)]) rfl rfl rfl ?_
  refine z_iinc (x := l6) (lsx9 := fun v1 => [(6, .int v1), (3, .int 0), (0, .ref 125), (1, .int l1), (2, .int l2), (4, .int l4), (5, .int l5)]) rfl rfl rfl jko_1 (by omega) rfl (fun _ => rfl) (fun v1 ev1 => ?_)
  refine x_goto (tgt := 29) rfl rfl ?_
  try rw [show (l6.toInt + 1) = v1.toInt from by omega] at D
  exact jX.sub (jsb_c rfl (jsb_c rfl (jsb_c rfl (jsb_c rfl (jsb_c rfl (jsb_c rfl (jsb_c rfl jsb_n))))))) (k29 l1 l2 0 l4 l5 v1 h (by omega) (jr_of rfl (by omega)) (jr_of rfl (by omega)) (jr_of jk_0 (by omega)) (jr_of rfl (by omega)) (jr_mod rfl (by omega)) (jr_of rfl (by omega)) (jr_of rfl (by omega)) (by omega) J Sm (by rw [jk_0]; exact D))
set_option maxRecDepth 100000 in
set_option maxHeartbeats 4000000 in
theorem ct_X12_canJoin_r125d_300078 {Dy : jH → Prop} {h0 : jH} {Q : Option Value → jH → Prop} {dr : (Int × jW)} {K15 : Int → Int → Int → Int → Int → jW → (Int × jW)} {K29 : Int → Int → Int → Int → Int → Int → jW → (Int × jW)} {R15 : Int} {R29 : Int} (hD : jDk Dy) (hQ : ∀ (v : Int32) hx9, 0 ≤ v.toInt ∧ v.toInt ≤ 1 → jJ jSgM Dy hx9 → jSm fp_X12_canJoin_r125d h0 hx9 → dr.1 = v.toInt → dr.2 = vw hx9 → Q (some (.int v)) hx9) (k15 : ∀ (l1 : Int32) (l2 : Int32) (l3 : Int32) (l4 : Int32) (l5 : Int32) (h : jH), 600 - l5.toInt < R15 → 0 ≤ l1.toInt ∧ l1.toInt ≤ 599 → 0 ≤ l2.toInt ∧ l2.toInt ≤ 599 → 0 ≤ l3.toInt ∧ l3.toInt ≤ 1 → 0 ≤ l4.toInt ∧ l4.toInt ≤ 600 → l4.toInt % 3 = 0 → 0 ≤ l5.toInt ∧ l5.toInt ≤ 600 → jJ jSgM Dy h → jSm fp_X12_canJoin_r125d h0 h → K15 l1.toInt l2.toInt l3.toInt l4.toInt l5.toInt (vw h) = dr → jX m_X12_canJoin 7 0 0 15 [(0, .ref 125), (1, .int l1), (2, .int l2), (3, .int l3), (4, .int l4), (5, .int l5)] [] h 0 0 Q) (k29 : ∀ (l1 : Int32) (l2 : Int32) (l3 : Int32) (l4 : Int32) (l5 : Int32) (l6 : Int32) (h : jH), 600 - l6.toInt < R29 → 0 ≤ l1.toInt ∧ l1.toInt ≤ 599 → 0 ≤ l2.toInt ∧ l2.toInt ≤ 599 → 0 ≤ l3.toInt ∧ l3.toInt ≤ 1 → 3 ≤ l4.toInt ∧ l4.toInt ≤ 600 → l4.toInt % 3 = 0 → 0 ≤ l5.toInt ∧ l5.toInt ≤ 599 → 0 ≤ l6.toInt ∧ l6.toInt ≤ 600 → 600 - l5.toInt ≤ R15 → jJ jSgM Dy h → jSm fp_X12_canJoin_r125d h0 h → K29 l1.toInt l2.toInt l3.toInt l4.toInt l5.toInt l6.toInt (vw h) = dr → jX m_X12_canJoin 7 0 0 29 [(0, .ref 125), (1, .int l1), (2, .int l2), (3, .int l3), (4, .int l4), (5, .int l5), (6, .int l6)] [] h 0 0 Q) : ∀ (l1 : Int32) (l2 : Int32) (l4 : Int32) (l5 : Int32) (l6 : Int32) (h : jH), 0 ≤ l1.toInt ∧ l1.toInt ≤ 599 → 0 ≤ l2.toInt ∧ l2.toInt ≤ 599 → 3 ≤ l4.toInt ∧ l4.toInt ≤ 600 → l4.toInt % 3 = 0 → 0 ≤ l5.toInt ∧ l5.toInt ≤ 599 → 0 ≤ l6.toInt ∧ l6.toInt ≤ 599 → 600 - l5.toInt ≤ R15 → 600 - l6.toInt ≤ R29 → jJ jSgM Dy h → jSm fp_X12_canJoin_r125d h0 h → d_X12_canJoin_r125d_300078 K15 K29  l1.toInt l2.toInt l4.toInt l5.toInt l6.toInt (vw h) = dr → jX m_X12_canJoin 7 0 0 78 [(0, .ref 125), (1, .int l1), (2, .int l2), (4, .int l4), (5, .int l5), (6, .int l6)] [.int 1] h 0 0 Q := by
  intro l1 l2 l4 l5 l6 h y0 y1 y2 y3 y4 y5  m15 m29 J Sm D
  unfold d_X12_canJoin_r125d_300078 at D
  refine x_istoren (lsx9 := [(3, .int 1), (0, .ref 125), (1, .int l1), (2, .int l2), (4, .int l4), (5, .int l5), (6, .int l6)]) rfl rfl rfl ?_
  refine z_iinc (x := l6) (lsx9 := fun v1 => [(6, .int v1), (3, .int 1), (0, .ref 125), (1, .int l1), (2, .int l2), (4, .int l4), (5, .int l5)]) rfl rfl rfl jko_1 (by omega) rfl (fun _ => rfl) (fun v1 ev1 => ?_)
  refine x_goto (tgt := 29) rfl rfl ?_
  try rw [show (l6.toInt + 1) = v1.toInt from by omega] at D
  exact jX.sub (jsb_c rfl (jsb_c rfl (jsb_c rfl (jsb_c rfl (jsb_c rfl (jsb_c rfl (jsb_c rfl jsb_n))))))) (k29 l1 l2 1 l4 l5 v1 h (by omega) (jr_of rfl (by omega)) (jr_of rfl (by omega)) (jr_of jk_1 (by omega)) (jr_of rfl (by omega)) (jr_mod rfl (by omega)) (jr_of rfl (by omega)) (jr_of rfl (by omega)) (by omega) J Sm (by rw [jk_1]; exact D))
set_option maxRecDepth 100000 in
set_option maxHeartbeats 4000000 in
theorem ct_X12_canJoin_r125d_73 {Dy : jH → Prop} {h0 : jH} {Q : Option Value → jH → Prop} {dr : (Int × jW)} {K15 : Int → Int → Int → Int → Int → jW → (Int × jW)} {K29 : Int → Int → Int → Int → Int → Int → jW → (Int × jW)} {R15 : Int} {R29 : Int} (hD : jDk Dy) (hQ : ∀ (v : Int32) hx9, 0 ≤ v.toInt ∧ v.toInt ≤ 1 → jJ jSgM Dy hx9 → jSm fp_X12_canJoin_r125d h0 hx9 → dr.1 = v.toInt → dr.2 = vw hx9 → Q (some (.int v)) hx9) (k15 : ∀ (l1 : Int32) (l2 : Int32) (l3 : Int32) (l4 : Int32) (l5 : Int32) (h : jH), 600 - l5.toInt < R15 → 0 ≤ l1.toInt ∧ l1.toInt ≤ 599 → 0 ≤ l2.toInt ∧ l2.toInt ≤ 599 → 0 ≤ l3.toInt ∧ l3.toInt ≤ 1 → 0 ≤ l4.toInt ∧ l4.toInt ≤ 600 → l4.toInt % 3 = 0 → 0 ≤ l5.toInt ∧ l5.toInt ≤ 600 → jJ jSgM Dy h → jSm fp_X12_canJoin_r125d h0 h → K15 l1.toInt l2.toInt l3.toInt l4.toInt l5.toInt (vw h) = dr → jX m_X12_canJoin 7 0 0 15 [(0, .ref 125), (1, .int l1), (2, .int l2), (3, .int l3), (4, .int l4), (5, .int l5)] [] h 0 0 Q) (k29 : ∀ (l1 : Int32) (l2 : Int32) (l3 : Int32) (l4 : Int32) (l5 : Int32) (l6 : Int32) (h : jH), 600 - l6.toInt < R29 → 0 ≤ l1.toInt ∧ l1.toInt ≤ 599 → 0 ≤ l2.toInt ∧ l2.toInt ≤ 599 → 0 ≤ l3.toInt ∧ l3.toInt ≤ 1 → 3 ≤ l4.toInt ∧ l4.toInt ≤ 600 → l4.toInt % 3 = 0 → 0 ≤ l5.toInt ∧ l5.toInt ≤ 599 → 0 ≤ l6.toInt ∧ l6.toInt ≤ 600 → 600 - l5.toInt ≤ R15 → jJ jSgM Dy h → jSm fp_X12_canJoin_r125d h0 h → K29 l1.toInt l2.toInt l3.toInt l4.toInt l5.toInt l6.toInt (vw h) = dr → jX m_X12_canJoin 7 0 0 29 [(0, .ref 125), (1, .int l1), (2, .int l2), (3, .int l3), (4, .int l4), (5, .int l5), (6, .int l6)] [] h 0 0 Q) : ∀ (l1 : Int32) (l2 : Int32) (l4 : Int32) (l5 : Int32) (l6 : Int32) (h : jH), 0 ≤ l1.toInt ∧ l1.toInt ≤ 599 → 0 ≤ l2.toInt ∧ l2.toInt ≤ 599 → 3 ≤ l4.toInt ∧ l4.toInt ≤ 600 → l4.toInt % 3 = 0 → 0 ≤ l5.toInt ∧ l5.toInt ≤ 599 → 0 ≤ l6.toInt ∧ l6.toInt ≤ 599 → 600 - l5.toInt ≤ R15 → 600 - l6.toInt ≤ R29 → jJ jSgM Dy h → jSm fp_X12_canJoin_r125d h0 h → d_X12_canJoin_r125d_73 K15 K29  l1.toInt l2.toInt l4.toInt l5.toInt l6.toInt (vw h) = dr → jX m_X12_canJoin 7 0 0 73 [(0, .ref 125), (1, .int l1), (2, .int l2), (4, .int l4), (5, .int l5), (6, .int l6)] [] h 0 0 Q := by
  intro l1 l2 l4 l5 l6 h y0 y1 y2 y3 y4 y5  m15 m29 J Sm D
  unfold d_X12_canJoin_r125d_73 at D
  refine x_iconst (v := 1) rfl ki_1 ?_
  refine x_goto (tgt := 78) rfl rfl ?_
  exact jX.sub (jsb_c rfl (jsb_c rfl (jsb_c rfl (jsb_c rfl (jsb_c rfl (jsb_c rfl jsb_n)))))) (ct_X12_canJoin_r125d_300078 hD hQ k15 k29 l1 l2 l4 l5 l6 h (jr_of rfl (by omega)) (jr_of rfl (by omega)) (jr_of rfl (by omega)) (jr_mod rfl (by omega)) (jr_of rfl (by omega)) (jr_of rfl (by omega)) (by omega) (by omega) J Sm D)
set_option maxRecDepth 100000 in
set_option maxHeartbeats 4000000 in
theorem ct_X12_canJoin_r125d_29 {Dy : jH → Prop} {h0 : jH} {Q : Option Value → jH → Prop} {dr : (Int × jW)} {K15 : Int → Int → Int → Int → Int → jW → (Int × jW)} {R15 : Int} (hD : jDk Dy) (hQ : ∀ (v : Int32) hx9, 0 ≤ v.toInt ∧ v.toInt ≤ 1 → jJ jSgM Dy hx9 → jSm fp_X12_canJoin_r125d h0 hx9 → dr.1 = v.toInt → dr.2 = vw hx9 → Q (some (.int v)) hx9) (k15 : ∀ (l1 : Int32) (l2 : Int32) (l3 : Int32) (l4 : Int32) (l5 : Int32) (h : jH), 600 - l5.toInt < R15 → 0 ≤ l1.toInt ∧ l1.toInt ≤ 599 → 0 ≤ l2.toInt ∧ l2.toInt ≤ 599 → 0 ≤ l3.toInt ∧ l3.toInt ≤ 1 → 0 ≤ l4.toInt ∧ l4.toInt ≤ 600 → l4.toInt % 3 = 0 → 0 ≤ l5.toInt ∧ l5.toInt ≤ 600 → jJ jSgM Dy h → jSm fp_X12_canJoin_r125d h0 h → K15 l1.toInt l2.toInt l3.toInt l4.toInt l5.toInt (vw h) = dr → jX m_X12_canJoin 7 0 0 15 [(0, .ref 125), (1, .int l1), (2, .int l2), (3, .int l3), (4, .int l4), (5, .int l5)] [] h 0 0 Q) : ∀ r : Nat, ∀ (l1 : Int32) (l2 : Int32) (l3 : Int32) (l4 : Int32) (l5 : Int32) (l6 : Int32) (h : jH), 600 - l6.toInt < (r : Int) → 0 ≤ l1.toInt ∧ l1.toInt ≤ 599 → 0 ≤ l2.toInt ∧ l2.toInt ≤ 599 → 0 ≤ l3.toInt ∧ l3.toInt ≤ 1 → 3 ≤ l4.toInt ∧ l4.toInt ≤ 600 → l4.toInt % 3 = 0 → 0 ≤ l5.toInt ∧ l5.toInt ≤ 599 → 0 ≤ l6.toInt ∧ l6.toInt ≤ 600 → 600 - l5.toInt ≤ R15 → jJ jSgM Dy h → jSm fp_X12_canJoin_r125d h0 h → d_X12_canJoin_r125d_29 K15 r l1.toInt l2.toInt l3.toInt l4.toInt l5.toInt l6.toInt (vw h) = dr → jX m_X12_canJoin 7 0 0 29 [(0, .ref 125), (1, .int l1), (2, .int l2), (3, .int l3), (4, .int l4), (5, .int l5), (6, .int l6)] [] h 0 0 Q := by
  intro r
  induction r with
  | zero =>
    intro l1 l2 l3 l4 l5 l6 h hm y0 y1 y2 y3 y4 y5 y6  m15 J Sm D
    exfalso
    omega
  | succ r ih =>
    intro l1 l2 l3 l4 l5 l6 h hm y0 y1 y2 y3 y4 y5 y6  m15 J Sm D
    rw [d_X12_canJoin_r125d_29.eq_2] at D
    refine x_iload (x := l6) rfl rfl ?_
    refine x_iload (x := l4) rfl rfl ?_
    refine x_icge (tgt := 85) rfl rfl (ti_ge rfl rfl ⟨fun c1 => ?_, fun c1 => ?_⟩)
    ·
      rw [if_pos (by omega)] at D
      exact jX.sub (jsb_c rfl (jsb_c rfl (jsb_c rfl (jsb_c rfl (jsb_c rfl (jsb_c rfl jsb_n)))))) (ct_X12_canJoin_r125d_85 hD hQ k15 l1 l2 l3 l4 l5 h (jr_of rfl (by omega)) (jr_of rfl (by omega)) (jr_of rfl (by omega)) (jr_of rfl (by omega)) (jr_mod rfl (by omega)) (jr_of rfl (by omega)) (by omega) J Sm D)
    ·
      rw [if_neg (by omega)] at D
      refine x_iloadn (x := l3) rfl rfl ?_
      refine x_ifeq (tgt := 85) rfl rfl (ti_eq rfl jk_0 ⟨fun c2 => ?_, fun c2 => ?_⟩)
      ·
        rw [if_pos (by omega)] at D
        exact jX.sub (jsb_c rfl (jsb_c rfl (jsb_c rfl (jsb_c rfl (jsb_c rfl (jsb_c rfl jsb_n)))))) (ct_X12_canJoin_r125d_85 hD hQ k15 l1 l2 l3 l4 l5 h (jr_of rfl (by omega)) (jr_of rfl (by omega)) (jr_of rfl (by omega)) (jr_of rfl (by omega)) (jr_mod rfl (by omega)) (jr_of rfl (by omega)) (by omega) J Sm D)
      ·
        rw [if_neg (by omega)] at D
        refine x_aloadn (x := 125) rfl rfl ?_
        refine z_getR (N := 92) (b := 139) 12 29 rfl f_12_72 rfl J rfl 16029 ⟨rfl, rfl⟩ rfl ?_
        refine x_iload (x := l5) rfl rfl ?_
        refine z_iald (N := 600) rfl J rfl sg_139_0_600_1_0_1 rfl (by omega) (fun v3 qv3 ev3 => ?_)
        try rw [vrd qv3 (show l5.toInt = l5.toInt from by omega)] at D
        refine x_iloadn (x := l1) rfl rfl ?_
        refine x_icne (tgt := 85) rfl rfl (ti_ne rfl rfl ⟨fun c4 => ?_, fun c4 => ?_⟩)
        ·
          rw [if_neg (by omega)] at D
          exact jX.sub (jsb_c rfl (jsb_c rfl (jsb_c rfl (jsb_c rfl (jsb_c rfl (jsb_c rfl jsb_n)))))) (ct_X12_canJoin_r125d_85 hD hQ k15 l1 l2 l3 l4 l5 h (jr_of rfl (by omega)) (jr_of rfl (by omega)) (jr_of rfl (by omega)) (jr_of rfl (by omega)) (jr_mod rfl (by omega)) (jr_of rfl (by omega)) (by omega) J Sm D)
        ·
          rw [if_pos (by omega)] at D
          refine x_aloadn (x := 125) rfl rfl ?_
          refine z_getR (N := 92) (b := 139) 12 29 rfl f_12_72 rfl J rfl 16029 ⟨rfl, rfl⟩ rfl ?_
          refine x_iload (x := l6) rfl rfl ?_
          refine z_iald (N := 600) rfl J rfl sg_139_0_600_1_0_1 rfl (by omega) (fun v5 qv5 ev5 => ?_)
          try rw [vrd qv5 (show l6.toInt = l6.toInt from by omega)] at D
          refine x_iloadn (x := l2) rfl rfl ?_
          refine x_icne (tgt := 73) rfl rfl (ti_ne rfl rfl ⟨fun c6 => ?_, fun c6 => ?_⟩)
          ·
            rw [if_neg (by omega)] at D
            exact jX.sub (jsb_c rfl (jsb_c rfl (jsb_c rfl (jsb_c rfl (jsb_c rfl (jsb_c rfl jsb_n)))))) (ct_X12_canJoin_r125d_73 hD hQ k15 ih l1 l2 l4 l5 l6 h (jr_of rfl (by omega)) (jr_of rfl (by omega)) (jr_of rfl (by omega)) (jr_mod rfl (by omega)) (jr_of rfl (by omega)) (jr_of rfl (by omega)) (by omega) (by omega) J Sm D)
          ·
            rw [if_pos (by omega)] at D
            refine x_aloadn (x := 125) rfl rfl ?_
            refine x_iload (x := l5) rfl rfl ?_
            refine x_iload (x := l6) rfl rfl ?_
            refine x_inv (N := m_X12_why) (As := [.int l5, .int l6]) (b := 125) (st := []) (dx9 := 6) (mc := 0) (ms := 0) (host := "") 12 rfl t_X12_why ⟨Or.inl q_12_368, i_X12_why.1, i_X12_why.2⟩ ⟨by decide, rfl⟩ (congrArg Prod.fst (J.1.1 125 (12, 92) rfl)) rfl (by decide) rfl rfl ⟨by decide, by decide⟩ (sf_X12_why_r125d (jr_of rfl (by omega)) (jr_of rfl (by omega)) hD J rfl  (fun v10 h ev10 J S7 X8 X9 => ?_))
            have Sm := jSm_tr rfl Sm S7
            try rw [X8] at D
            try rw [X9] at D
            show jX m_X12_canJoin 7 0 0 70 [(0, .ref 125), (1, .int l1), (2, .int l2), (3, .int l3), (4, .int l4), (5, .int l5), (6, .int l6)] [.int v10] _ 0 0 _
            refine x_ifne (tgt := 77) rfl rfl (ti_ne rfl jk_0 ⟨fun c11 => ?_, fun c11 => ?_⟩)
            ·
              rw [if_neg (by omega)] at D
              refine x_iconst (v := 0) rfl ki_0 ?_
              exact jX.sub (jsb_c rfl (jsb_c rfl (jsb_c rfl (jsb_c rfl (jsb_c rfl (jsb_c rfl jsb_n)))))) (ct_X12_canJoin_r125d_200078 hD hQ k15 ih l1 l2 l4 l5 l6 h (jr_of rfl (by omega)) (jr_of rfl (by omega)) (jr_of rfl (by omega)) (jr_mod rfl (by omega)) (jr_of rfl (by omega)) (jr_of rfl (by omega)) (by omega) (by omega) J Sm D)
            ·
              rw [if_pos (by omega)] at D
              exact jX.sub (jsb_c rfl (jsb_c rfl (jsb_c rfl (jsb_c rfl (jsb_c rfl (jsb_c rfl jsb_n)))))) (ct_X12_canJoin_r125d_73 hD hQ k15 ih l1 l2 l4 l5 l6 h (jr_of rfl (by omega)) (jr_of rfl (by omega)) (jr_of rfl (by omega)) (jr_mod rfl (by omega)) (jr_of rfl (by omega)) (jr_of rfl (by omega)) (by omega) (by omega) J Sm D)
set_option maxRecDepth 100000 in
set_option maxHeartbeats 4000000 in
theorem ct_X12_canJoin_r125d_15 {Dy : jH → Prop} {h0 : jH} {Q : Option Value → jH → Prop} {dr : (Int × jW)} (hD : jDk Dy) (hQ : ∀ (v : Int32) hx9, 0 ≤ v.toInt ∧ v.toInt ≤ 1 → jJ jSgM Dy hx9 → jSm fp_X12_canJoin_r125d h0 hx9 → dr.1 = v.toInt → dr.2 = vw hx9 → Q (some (.int v)) hx9) : ∀ r : Nat, ∀ (l1 : Int32) (l2 : Int32) (l3 : Int32) (l4 : Int32) (l5 : Int32) (h : jH), 600 - l5.toInt < (r : Int) → 0 ≤ l1.toInt ∧ l1.toInt ≤ 599 → 0 ≤ l2.toInt ∧ l2.toInt ≤ 599 → 0 ≤ l3.toInt ∧ l3.toInt ≤ 1 → 0 ≤ l4.toInt ∧ l4.toInt ≤ 600 → l4.toInt % 3 = 0 → 0 ≤ l5.toInt ∧ l5.toInt ≤ 600 → jJ jSgM Dy h → jSm fp_X12_canJoin_r125d h0 h → d_X12_canJoin_r125d_15 r l1.toInt l2.toInt l3.toInt l4.toInt l5.toInt (vw h) = dr → jX m_X12_canJoin 7 0 0 15 [(0, .ref 125), (1, .int l1), (2, .int l2), (3, .int l3), (4, .int l4), (5, .int l5)] [] h 0 0 Q := by
  intro r
  induction r with
  | zero =>
    intro l1 l2 l3 l4 l5 h hm y0 y1 y2 y3 y4 y5   J Sm D
    exfalso
    omega
  | succ r ih =>
    intro l1 l2 l3 l4 l5 h hm y0 y1 y2 y3 y4 y5   J Sm D
    rw [d_X12_canJoin_r125d_15.eq_2] at D
    refine x_iload (x := l5) rfl rfl ?_
    refine x_iload (x := l4) rfl rfl ?_
    refine x_icge (tgt := 91) rfl rfl (ti_ge rfl rfl ⟨fun c1 => ?_, fun c1 => ?_⟩)
    ·
      rw [if_pos (by omega)] at D
      exact jX.sub (jsb_c rfl jsb_n) (ct_X12_canJoin_r125d_91 hD hQ  l3 h (jr_of rfl (by omega)) J Sm D)
    ·
      rw [if_neg (by omega)] at D
      refine x_iloadn (x := l3) rfl rfl ?_
      refine x_ifeq (tgt := 91) rfl rfl (ti_eq rfl jk_0 ⟨fun c2 => ?_, fun c2 => ?_⟩)
      ·
        rw [if_pos (by omega)] at D
        exact jX.sub (jsb_c rfl jsb_n) (ct_X12_canJoin_r125d_91 hD hQ  l3 h (jr_of rfl (by omega)) J Sm D)
      ·
        rw [if_neg (by omega)] at D
        refine x_iconst (v := 0) rfl ki_0 ?_
        refine x_istore (lsx9 := [(6, .int 0), (0, .ref 125), (1, .int l1), (2, .int l2), (3, .int l3), (4, .int l4), (5, .int l5)]) rfl rfl rfl ?_
        exact jX.sub (jsb_c rfl (jsb_c rfl (jsb_c rfl (jsb_c rfl (jsb_c rfl (jsb_c rfl (jsb_c rfl jsb_n))))))) (ct_X12_canJoin_r125d_29 hD hQ ih 601 l1 l2 l3 l4 l5 0 h (by have := jk_0; omega) (jr_of rfl (by omega)) (jr_of rfl (by omega)) (jr_of rfl (by omega)) (jr_of rfl (by omega)) (jr_mod rfl (by omega)) (jr_of rfl (by omega)) (jr_of jk_0 (by omega)) (by omega) J Sm (by rw [jk_0]; exact D))
set_option maxRecDepth 100000 in
set_option maxHeartbeats 4000000 in
theorem sf_X12_canJoin_r125d {Dy : jH → Prop} {h : jH} {Q : Option Value → jH → Prop} {dr : (Int × jW)} {a1 : Int32} {a2 : Int32} (y1 : 0 ≤ a1.toInt ∧ a1.toInt ≤ 599) (y2 : 0 ≤ a2.toInt ∧ a2.toInt ≤ 599) (hD : jDk Dy) (J : jJ jSgM Dy h) (D : d_X12_canJoin_r125d a1.toInt a2.toInt (vw h) = dr) (hQ : ∀ (v : Int32) hx9, 0 ≤ v.toInt ∧ v.toInt ≤ 1 → jJ jSgM Dy hx9 → jSm fp_X12_canJoin_r125d h hx9 → dr.1 = v.toInt → dr.2 = vw hx9 → Q (some (.int v)) hx9) : jC m_X12_canJoin 7 0 0 [.ref 125, .int a1, .int a2] h Q := by
  refine jC.of rfl k_X12_canJoin rfl ?_
  have Sm := jSm_rf fp_X12_canJoin_r125d h
  show jX m_X12_canJoin 7 0 0 0 [(0, .ref 125), (1, .int a1), (2, .int a2)] [] _ 0 0 _
  unfold d_X12_canJoin_r125d at D
  refine x_iconst (v := 1) rfl ki_1 ?_
  refine x_istoren (lsx9 := [(3, .int 1), (0, .ref 125), (1, .int a1), (2, .int a2)]) rfl rfl rfl ?_
  refine x_iconst (v := 3) rfl ki_3 ?_
  refine x_aloadn (x := 125) rfl rfl ?_
  refine z_getR (N := 92) (b := 126) 12 2 rfl f_12_8 rfl J rfl 16002 ⟨rfl, rfl⟩ rfl ?_
  refine x_iconst (v := 0) rfl ki_0 ?_
  refine z_iald (N := 50660) rfl J rfl sg_126_0_1_1_0_1 jk_0 (by omega) (fun v1 qv1 ev1 => ?_)
  try rw [vrn (n := 0) (by decide) qv1] at D
  refine z_imul rfl jk_3 rfl (by omega) (fun v2 ev2 => ?_)
  refine x_istore (lsx9 := [(4, .int v2), (3, .int 1), (0, .ref 125), (1, .int a1), (2, .int a2)]) rfl rfl rfl ?_
  refine x_iconst (v := 0) rfl ki_0 ?_
  refine x_istore (lsx9 := [(5, .int 0), (4, .int v2), (3, .int 1), (0, .ref 125), (1, .int a1), (2, .int a2)]) rfl rfl rfl ?_
  try rw [show (3 * v1.toInt) = v2.toInt from by omega] at D
  exact jX.sub (jsb_c rfl (jsb_c rfl (jsb_c rfl (jsb_c rfl (jsb_c rfl (jsb_c rfl jsb_n)))))) (ct_X12_canJoin_r125d_15 hD hQ  601 a1 a2 1 v2 0 h (by have := jk_0; omega) (jr_of rfl (by omega)) (jr_of rfl (by omega)) (jr_of jk_1 (by omega)) (jr_of rfl (by omega)) (jr_mod rfl (by omega)) (jr_of jk_0 (by omega)) J Sm (by rw [jk_1, jk_0]; exact D))
def fp_X12_join2_r125d : jFp := [(139, 0, 600)]
set_option maxRecDepth 100000 in
set_option maxHeartbeats 4000000 in
theorem ct_X12_join2_r125d_68 {Dy : jH → Prop} {h0 : jH} {Q : Option Value → jH → Prop} {dr : jW} {K26 : Int → Int → Int → jW → jW} {R26 : Int} (hD : jDk Dy) (hQ : ∀ hx9, jJ jSgM Dy hx9 → jSm fp_X12_join2_r125d h0 hx9 → dr = vw hx9 → Q none hx9) (k26 : ∀ (l3 : Int32) (l4 : Int32) (l5 : Int32) (h : jH), 600 - l5.toInt < R26 → 0 ≤ l3.toInt ∧ l3.toInt ≤ 599 → 0 ≤ l4.toInt ∧ l4.toInt ≤ 599 → 0 ≤ l5.toInt ∧ l5.toInt ≤ 600 → jJ jSgM Dy h → jSm fp_X12_join2_r125d h0 h → K26 l3.toInt l4.toInt l5.toInt (vw h) = dr → jX m_X12_join2 1 0 0 26 [(0, .ref 125), (3, .int l3), (4, .int l4), (5, .int l5)] [] h 0 0 Q) : ∀ (l3 : Int32) (l4 : Int32) (l5 : Int32) (s0 : Int32) (s1 : Int32) (h : jH), 0 ≤ l3.toInt ∧ l3.toInt ≤ 599 → 0 ≤ l4.toInt ∧ l4.toInt ≤ 599 → 0 ≤ l5.toInt ∧ l5.toInt ≤ 599 → (-1) ≤ s0.toInt ∧ s0.toInt ≤ 599 → 0 ≤ s1.toInt ∧ s1.toInt ≤ 599 → 600 - l5.toInt ≤ R26 → jJ jSgM Dy h → jSm fp_X12_join2_r125d h0 h → d_X12_join2_r125d_68 K26  l3.toInt l4.toInt l5.toInt s0.toInt s1.toInt (vw h) = dr → jX m_X12_join2 1 0 0 68 [(0, .ref 125), (3, .int l3), (4, .int l4), (5, .int l5)] [.int s0, .int s1, .ref 139] h 0 0 Q := by
  intro l3 l4 l5 s0 s1 h y0 y1 y2 y3 y4  m26 J Sm D
  unfold d_X12_join2_r125d_68 at D
  refine z_iast (N := 600) (l := 0) (u := 600) (w := s0.toInt) rfl hD J Sm rfl rfl rfl (by omega) rfl (wr_139 (fun q1 q2 q3 q4 => by omega)) rfl (fun h w1 J Sm => ?_)
  rw [vww w1 (show s1.toInt = s1.toInt from by omega) (show s0.toInt = s0.toInt from by omega)] at D
  refine z_iinc (x := l5) (lsx9 := fun v2 => [(5, .int v2), (0, .ref 125), (3, .int l3), (4, .int l4)]) rfl rfl rfl jko_1 (by omega) rfl (fun _ => rfl) (fun v2 ev2 => ?_)
  refine x_goto (tgt := 26) rfl rfl ?_
  try rw [show (l5.toInt + 1) = v2.toInt from by omega] at D
  exact jX.sub (jsb_c rfl (jsb_c rfl (jsb_c rfl (jsb_c rfl jsb_n)))) (k26 l3 l4 v2 h (by omega) (jr_of rfl (by omega)) (jr_of rfl (by omega)) (jr_of rfl (by omega)) J Sm D)
set_option maxRecDepth 100000 in
set_option maxHeartbeats 4000000 in
theorem ct_X12_join2_r125d_26 {Dy : jH → Prop} {h0 : jH} {Q : Option Value → jH → Prop} {dr : jW} (hD : jDk Dy) (hQ : ∀ hx9, jJ jSgM Dy hx9 → jSm fp_X12_join2_r125d h0 hx9 → dr = vw hx9 → Q none hx9) : ∀ r : Nat, ∀ (l3 : Int32) (l4 : Int32) (l5 : Int32) (h : jH), 600 - l5.toInt < (r : Int) → 0 ≤ l3.toInt ∧ l3.toInt ≤ 599 → 0 ≤ l4.toInt ∧ l4.toInt ≤ 599 → 0 ≤ l5.toInt ∧ l5.toInt ≤ 600 → jJ jSgM Dy h → jSm fp_X12_join2_r125d h0 h → d_X12_join2_r125d_26 r l3.toInt l4.toInt l5.toInt (vw h) = dr → jX m_X12_join2 1 0 0 26 [(0, .ref 125), (3, .int l3), (4, .int l4), (5, .int l5)] [] h 0 0 Q := by
  intro r
  induction r with
  | zero =>
    intro l3 l4 l5 h hm y0 y1 y2   J Sm D
    exfalso
    omega
  | succ r ih =>
    intro l3 l4 l5 h hm y0 y1 y2   J Sm D
    rw [d_X12_join2_r125d_26.eq_2] at D
    refine x_iload (x := l5) rfl rfl ?_
    refine x_iconst (v := 3) rfl ki_3 ?_
    refine x_aloadn (x := 125) rfl rfl ?_
    refine z_getR (N := 92) (b := 126) 12 2 rfl f_12_8 rfl J rfl 16002 ⟨rfl, rfl⟩ rfl ?_
    refine x_iconst (v := 0) rfl ki_0 ?_
    refine z_iald (N := 50660) rfl J rfl sg_126_0_1_1_0_1 jk_0 (by omega) (fun v1 qv1 ev1 => ?_)
    try rw [vrn (n := 0) (by decide) qv1] at D
    refine z_imul rfl jk_3 rfl (by omega) (fun v2 ev2 => ?_)
    refine x_icge (tgt := 75) rfl rfl (ti_ge rfl rfl ⟨fun c3 => ?_, fun c3 => ?_⟩)
    ·
      rw [if_pos (by omega)] at D
      refine x_vret rfl rfl ?_
      exact hQ _ J Sm D.symm
    ·
      rw [if_neg (by omega)] at D
      refine x_aloadn (x := 125) rfl rfl ?_
      refine z_getR (N := 92) (b := 139) 12 29 rfl f_12_72 rfl J rfl 16029 ⟨rfl, rfl⟩ rfl ?_
      refine x_iload (x := l5) rfl rfl ?_
      refine x_aloadn (x := 125) rfl rfl ?_
      refine z_getR (N := 92) (b := 139) 12 29 rfl f_12_72 rfl J rfl 16029 ⟨rfl, rfl⟩ rfl ?_
      refine x_iload (x := l5) rfl rfl ?_
      refine z_iald (N := 600) rfl J rfl sg_139_0_600_1_0_1 rfl (by omega) (fun v4 qv4 ev4 => ?_)
      try rw [vrd qv4 (show l5.toInt = l5.toInt from by omega)] at D
      refine x_iload (x := l4) rfl rfl ?_
      refine x_icne (tgt := 61) rfl rfl (ti_ne rfl rfl ⟨fun c5 => ?_, fun c5 => ?_⟩)
      ·
        rw [if_neg (by omega)] at D
        refine x_aloadn (x := 125) rfl rfl ?_
        refine z_getR (N := 92) (b := 139) 12 29 rfl f_12_72 rfl J rfl 16029 ⟨rfl, rfl⟩ rfl ?_
        refine x_iload (x := l5) rfl rfl ?_
        refine z_ialdM (N := 600) (v := v4) rfl J rfl rfl (by omega) qv4 ?_
        exact jX.sub (jsb_c rfl (jsb_c rfl (jsb_c rfl (jsb_c rfl jsb_n)))) (ct_X12_join2_r125d_68 hD hQ ih l3 l4 l5 v4 l5 h (jr_of rfl (by omega)) (jr_of rfl (by omega)) (jr_of rfl (by omega)) (jr_of rfl (by omega)) (jr_of rfl (by omega)) (by omega) J Sm D)
      ·
        rw [if_pos (by omega)] at D
        refine x_iloadn (x := l3) rfl rfl ?_
        refine x_goto (tgt := 68) rfl rfl ?_
        exact jX.sub (jsb_c rfl (jsb_c rfl (jsb_c rfl (jsb_c rfl jsb_n)))) (ct_X12_join2_r125d_68 hD hQ ih l3 l4 l5 l3 l5 h (jr_of rfl (by omega)) (jr_of rfl (by omega)) (jr_of rfl (by omega)) (jr_of rfl (by omega)) (jr_of rfl (by omega)) (by omega) J Sm D)
set_option maxRecDepth 100000 in
set_option maxHeartbeats 4000000 in
theorem ct_X12_join2_r125d_21 {Dy : jH → Prop} {h0 : jH} {Q : Option Value → jH → Prop} {dr : jW} (hD : jDk Dy) (hQ : ∀ hx9, jJ jSgM Dy hx9 → jSm fp_X12_join2_r125d h0 hx9 → dr = vw hx9 → Q none hx9) : ∀ (l3 : Int32) (s0 : Int32) (h : jH), 0 ≤ l3.toInt ∧ l3.toInt ≤ 599 → 0 ≤ s0.toInt ∧ s0.toInt ≤ 599 → jJ jSgM Dy h → jSm fp_X12_join2_r125d h0 h → d_X12_join2_r125d_21  l3.toInt s0.toInt (vw h) = dr → jX m_X12_join2 1 0 0 21 [(0, .ref 125), (3, .int l3)] [.int s0] h 0 0 Q := by
  intro l3 s0 h y0 y1   J Sm D
  unfold d_X12_join2_r125d_21 at D
  refine x_istore (lsx9 := [(4, .int s0), (0, .ref 125), (3, .int l3)]) rfl rfl rfl ?_
  refine x_iconst (v := 0) rfl ki_0 ?_
  refine x_istore (lsx9 := [(5, .int 0), (4, .int s0), (0, .ref 125), (3, .int l3)]) rfl rfl rfl ?_
  exact jX.sub (jsb_c rfl (jsb_c rfl (jsb_c rfl (jsb_c rfl jsb_n)))) (ct_X12_join2_r125d_26 hD hQ  601 l3 s0 0 h (by have := jk_0; omega) (jr_of rfl (by omega)) (jr_of rfl (by omega)) (jr_of jk_0 (by omega)) J Sm (by rw [jk_0]; exact D))
set_option maxRecDepth 100000 in
set_option maxHeartbeats 4000000 in
theorem ct_X12_join2_r125d_10 {Dy : jH → Prop} {h0 : jH} {Q : Option Value → jH → Prop} {dr : jW} (hD : jDk Dy) (hQ : ∀ hx9, jJ jSgM Dy hx9 → jSm fp_X12_join2_r125d h0 hx9 → dr = vw hx9 → Q none hx9) : ∀ (l1 : Int32) (l2 : Int32) (s0 : Int32) (h : jH), 0 ≤ l1.toInt ∧ l1.toInt ≤ 599 → 0 ≤ l2.toInt ∧ l2.toInt ≤ 599 → 0 ≤ s0.toInt ∧ s0.toInt ≤ 599 → jJ jSgM Dy h → jSm fp_X12_join2_r125d h0 h → d_X12_join2_r125d_10  l1.toInt l2.toInt s0.toInt (vw h) = dr → jX m_X12_join2 1 0 0 10 [(0, .ref 125), (1, .int l1), (2, .int l2)] [.int s0] h 0 0 Q := by
  intro l1 l2 s0 h y0 y1 y2   J Sm D
  unfold d_X12_join2_r125d_10 at D
  refine x_istoren (lsx9 := [(3, .int s0), (0, .ref 125), (1, .int l1), (2, .int l2)]) rfl rfl rfl ?_
  refine x_iloadn (x := l1) rfl rfl ?_
  refine x_iloadn (x := l2) rfl rfl ?_
  refine x_icge (tgt := 20) rfl rfl (ti_ge rfl rfl ⟨fun c1 => ?_, fun c1 => ?_⟩)
  ·
    rw [if_pos (by omega)] at D
    refine x_iloadn (x := l1) rfl rfl ?_
    exact jX.sub (jsb_c rfl (jsb_c rfl jsb_n)) (ct_X12_join2_r125d_21 hD hQ  s0 l1 h (jr_of rfl (by omega)) (jr_of rfl (by omega)) J Sm D)
  ·
    rw [if_neg (by omega)] at D
    refine x_iloadn (x := l2) rfl rfl ?_
    refine x_goto (tgt := 21) rfl rfl ?_
    exact jX.sub (jsb_c rfl (jsb_c rfl jsb_n)) (ct_X12_join2_r125d_21 hD hQ  s0 l2 h (jr_of rfl (by omega)) (jr_of rfl (by omega)) J Sm D)
set_option maxRecDepth 100000 in
set_option maxHeartbeats 4000000 in
theorem sf_X12_join2_r125d {Dy : jH → Prop} {h : jH} {Q : Option Value → jH → Prop} {dr : jW} {a1 : Int32} {a2 : Int32} (y1 : 0 ≤ a1.toInt ∧ a1.toInt ≤ 599) (y2 : 0 ≤ a2.toInt ∧ a2.toInt ≤ 599) (hD : jDk Dy) (J : jJ jSgM Dy h) (D : d_X12_join2_r125d a1.toInt a2.toInt (vw h) = dr) (hQ : ∀ hx9, jJ jSgM Dy hx9 → jSm fp_X12_join2_r125d h hx9 → dr = vw hx9 → Q none hx9) : jC m_X12_join2 1 0 0 [.ref 125, .int a1, .int a2] h Q := by
  refine jC.of rfl k_X12_join2 rfl ?_
  have Sm := jSm_rf fp_X12_join2_r125d h
  show jX m_X12_join2 1 0 0 0 [(0, .ref 125), (1, .int a1), (2, .int a2)] [] _ 0 0 _
  unfold d_X12_join2_r125d at D
  refine x_iloadn (x := a1) rfl rfl ?_
  refine x_iloadn (x := a2) rfl rfl ?_
  refine x_icge (tgt := 9) rfl rfl (ti_ge rfl rfl ⟨fun c1 => ?_, fun c1 => ?_⟩)
  ·
    rw [if_pos (by omega)] at D
    refine x_iloadn (x := a2) rfl rfl ?_
    exact jX.sub (jsb_c rfl (jsb_c rfl (jsb_c rfl jsb_n))) (ct_X12_join2_r125d_10 hD hQ  a1 a2 a2 h (jr_of rfl (by omega)) (jr_of rfl (by omega)) (jr_of rfl (by omega)) J Sm D)
  ·
    rw [if_neg (by omega)] at D
    refine x_iloadn (x := a1) rfl rfl ?_
    refine x_goto (tgt := 10) rfl rfl ?_
    exact jX.sub (jsb_c rfl (jsb_c rfl (jsb_c rfl jsb_n))) (ct_X12_join2_r125d_10 hD hQ  a1 a2 a1 h (jr_of rfl (by omega)) (jr_of rfl (by omega)) (jr_of rfl (by omega)) J Sm D)
def fp_X12_find_r125d : jFp := [(125, 28, 29), (125, 31, 32), (125, 57, 58), (137, 0, 80), (138, 0, 2), (139, 0, 600), (140, 0, 200)]
set_option maxRecDepth 100000 in
set_option maxHeartbeats 4000000 in
theorem ct_X12_find_r125d_221 {Dy : jH → Prop} {h0 : jH} {Q : Option Value → jH → Prop} {dr : jW} {K67 : Int → Int → jW → jW} {R67 : Int} (hD : jDk Dy) (hQ : ∀ hx9, jJ jSgM Dy hx9 → jSm fp_X12_find_r125d h0 hx9 → dr = vw hx9 → Q none hx9) (k67 : ∀ (l1 : Int32) (l2 : Int32) (g0 : Int32) (h : jH), 200 - l2.toInt < R67 → 0 ≤ l1.toInt ∧ l1.toInt ≤ 146399 → 0 ≤ l2.toInt ∧ l2.toInt ≤ 200 → 0 ≤ g0.toInt ∧ g0.toInt ≤ 200 → g0.toInt - l2.toInt ≤ 0 → jiv h 125 31 = g0 → jJ jSgM Dy h → jSm fp_X12_find_r125d h0 h → K67 l1.toInt l2.toInt (vw h) = dr → jX m_X12_find 8 0 0 67 [(0, .ref 125), (1, .int l1), (2, .int l2)] [] h 0 0 Q) : ∀ (l1 : Int32) (l2 : Int32) (g0 : Int32) (h : jH), 0 ≤ l1.toInt ∧ l1.toInt ≤ 146399 → 0 ≤ l2.toInt ∧ l2.toInt ≤ 199 → 0 ≤ g0.toInt ∧ g0.toInt ≤ 200 → g0.toInt - l2.toInt ≤ 1 → jiv h 125 31 = g0 → 200 - l2.toInt ≤ R67 → jJ jSgM Dy h → jSm fp_X12_find_r125d h0 h → d_X12_find_r125d_221 K67  l1.toInt l2.toInt (vw h) = dr → jX m_X12_find 8 0 0 221 [(0, .ref 125), (1, .int l1), (2, .int l2)] [] h 0 0 Q := by
  intro l1 l2 g0 h y0 y1 y2 y3 z0 m67 J Sm D
  unfold d_X12_find_r125d_221 at D
  try rw [vrf z0] at D
  refine z_iinc (x := l2) (lsx9 := fun v1 => [(2, .int v1), (0, .ref 125), (1, .int l1)]) rfl rfl rfl jko_1 (by omega) rfl (fun _ => rfl) (fun v1 ev1 => ?_)
  refine x_goto (tgt := 67) rfl rfl ?_
  try rw [show (l2.toInt + 1) = v1.toInt from by omega] at D
  exact jX.sub (jsb_c rfl (jsb_c rfl (jsb_c rfl jsb_n))) (k67 l1 v1 g0 h (by omega) (jr_of rfl (by omega)) (jr_of rfl (by omega)) (jr_of rfl (by omega)) (by omega) z0 J Sm D)
set_option maxRecDepth 100000 in
set_option maxHeartbeats 4000000 in
theorem ct_X12_find_r125d_67 {Dy : jH → Prop} {h0 : jH} {Q : Option Value → jH → Prop} {dr : jW} (hD : jDk Dy) (hQ : ∀ hx9, jJ jSgM Dy hx9 → jSm fp_X12_find_r125d h0 hx9 → dr = vw hx9 → Q none hx9) : ∀ r : Nat, ∀ (l1 : Int32) (l2 : Int32) (g0 : Int32) (h : jH), 200 - l2.toInt < (r : Int) → 0 ≤ l1.toInt ∧ l1.toInt ≤ 146399 → 0 ≤ l2.toInt ∧ l2.toInt ≤ 200 → 0 ≤ g0.toInt ∧ g0.toInt ≤ 200 → g0.toInt - l2.toInt ≤ 0 → jiv h 125 31 = g0 → jJ jSgM Dy h → jSm fp_X12_find_r125d h0 h → d_X12_find_r125d_67 r l1.toInt l2.toInt (vw h) = dr → jX m_X12_find 8 0 0 67 [(0, .ref 125), (1, .int l1), (2, .int l2)] [] h 0 0 Q := by
  intro r
  induction r with
  | zero =>
    intro l1 l2 g0 h hm y0 y1 y2 y3 z0  J Sm D
    exfalso
    omega
  | succ r ih =>
    intro l1 l2 g0 h hm y0 y1 y2 y3 z0  J Sm D
    rw [d_X12_find_r125d_67.eq_2] at D
    try rw [vrf z0] at D
    refine x_iloadn (x := l2) rfl rfl ?_
    refine x_aloadn (x := 125) rfl rfl ?_
    refine z_getR (N := 92) (b := 126) 12 2 rfl f_12_8 rfl J rfl 16002 ⟨rfl, rfl⟩ rfl ?_
    refine x_iconst (v := 2) rfl ki_2 ?_
    refine z_iald (N := 50660) rfl J rfl sg_126_2_3_1_0_1 jk_2 (by omega) (fun v1 qv1 ev1 => ?_)
    try rw [vrn (n := 2) (by decide) qv1] at D
    refine x_icge (tgt := 227) rfl rfl (ti_ge rfl rfl ⟨fun c2 => ?_, fun c2 => ?_⟩)
    ·
      rw [if_pos (by omega)] at D
      refine x_vret rfl rfl ?_
      exact hQ _ J Sm D.symm
    ·
      rw [if_neg (by omega)] at D
      refine x_aloadn (x := 125) rfl rfl ?_
      refine z_getR (N := 92) (b := 126) 12 2 rfl f_12_8 rfl J rfl 16002 ⟨rfl, rfl⟩ rfl ?_
      refine x_sipush (v := 18140) rfl ks_18140 ?_
      refine x_iconst (v := 3) rfl ki_3 ?_
      refine x_iloadn (x := l2) rfl rfl ?_
      refine z_imul rfl jk_3 rfl (by omega) (fun v3 ev3 => ?_)
      refine z_iadd rfl jk_18140 rfl (by omega) (fun v4 ev4 => ?_)
      refine z_iald (N := 50660) rfl J rfl sg_126_18140_18740_3_0_1 rfl (by omega) (fun v5 qv5 ev5 => ?_)
      try rw [vrd qv5 (show (18140 + (3 * l2.toInt)) = v4.toInt from by omega)] at D
      refine x_istoren (lsx9 := [(3, .int v5), (0, .ref 125), (1, .int l1), (2, .int l2)]) rfl rfl rfl ?_
      refine x_aloadn (x := 125) rfl rfl ?_
      refine z_getR (N := 92) (b := 126) 12 2 rfl f_12_8 rfl J rfl 16002 ⟨rfl, rfl⟩ rfl ?_
      refine x_sipush (v := 18140) rfl ks_18140 ?_
      refine x_iconst (v := 3) rfl ki_3 ?_
      refine x_iloadn (x := l2) rfl rfl ?_
      refine z_imul rfl jk_3 rfl (by omega) (fun v6 ev6 => ?_)
      refine z_iadd rfl jk_18140 rfl (by omega) (fun v7 ev7 => ?_)
      refine x_iconst (v := 1) rfl ki_1 ?_
      refine z_iadd rfl rfl jk_1 (by omega) (fun v8 ev8 => ?_)
      refine z_iald (N := 50660) rfl J rfl sg_126_18140_18740_3_1_2 rfl (by omega) (fun v9 qv9 ev9 => ?_)
      try rw [vrd qv9 (show ((18140 + (3 * l2.toInt)) + 1) = v8.toInt from by omega)] at D
      refine x_istore (lsx9 := [(4, .int v9), (3, .int v5), (0, .ref 125), (1, .int l1), (2, .int l2)]) rfl rfl rfl ?_
      refine x_aloadn (x := 125) rfl rfl ?_
      refine z_getR (N := 92) (b := 126) 12 2 rfl f_12_8 rfl J rfl 16002 ⟨rfl, rfl⟩ rfl ?_
      refine x_sipush (v := 18140) rfl ks_18140 ?_
      refine x_iconst (v := 3) rfl ki_3 ?_
      refine x_iloadn (x := l2) rfl rfl ?_
      refine z_imul rfl jk_3 rfl (by omega) (fun v10 ev10 => ?_)
      refine z_iadd rfl jk_18140 rfl (by omega) (fun v11 ev11 => ?_)
      refine x_iconst (v := 2) rfl ki_2 ?_
      refine z_iadd rfl rfl jk_2 (by omega) (fun v12 ev12 => ?_)
      refine z_iald (N := 50660) rfl J rfl sg_126_18140_18740_3_2_3 rfl (by omega) (fun v13 qv13 ev13 => ?_)
      try rw [vrd qv13 (show ((18140 + (3 * l2.toInt)) + 2) = v12.toInt from by omega)] at D
      refine x_iloadn (x := l1) rfl rfl ?_
      refine x_icgt (tgt := 221) rfl rfl (ti_gt rfl rfl ⟨fun c14 => ?_, fun c14 => ?_⟩)
      ·
        rw [if_pos (by omega)] at D
        exact jX.sub (jsb_c rfl (jsb_c rfl (jsb_c rfl jsb_n))) (ct_X12_find_r125d_221 hD hQ ih l1 l2 g0 h (jr_of rfl (by omega)) (jr_of rfl (by omega)) (jr_of rfl (by omega)) (by omega) z0 (by omega) J Sm D)
      ·
        rw [if_neg (by omega)] at D
        refine x_aloadn (x := 125) rfl rfl ?_
        refine z_getR (N := 92) (b := 139) 12 29 rfl f_12_72 rfl J rfl 16029 ⟨rfl, rfl⟩ rfl ?_
        refine x_iloadn (x := v5) rfl rfl ?_
        refine z_iald (N := 600) rfl J rfl sg_139_0_600_1_0_1 rfl (by omega) (fun v15 qv15 ev15 => ?_)
        try rw [vrd qv15 (show v5.toInt = v5.toInt from by omega)] at D
        refine x_iconst (v := (-1)) rfl ki_m1 ?_
        refine x_iceq (tgt := 221) rfl rfl (ti_eq rfl jk_m1 ⟨fun c16 => ?_, fun c16 => ?_⟩)
        ·
          rw [if_pos (by omega)] at D
          exact jX.sub (jsb_c rfl (jsb_c rfl (jsb_c rfl jsb_n))) (ct_X12_find_r125d_221 hD hQ ih l1 l2 g0 h (jr_of rfl (by omega)) (jr_of rfl (by omega)) (jr_of rfl (by omega)) (by omega) z0 (by omega) J Sm D)
        ·
          rw [if_neg (by omega)] at D
          refine x_aloadn (x := 125) rfl rfl ?_
          refine z_getR (N := 92) (b := 139) 12 29 rfl f_12_72 rfl J rfl 16029 ⟨rfl, rfl⟩ rfl ?_
          refine x_iload (x := v9) rfl rfl ?_
          refine z_iald (N := 600) rfl J rfl sg_139_0_600_1_0_1 rfl (by omega) (fun v17 qv17 ev17 => ?_)
          try rw [vrd qv17 (show v9.toInt = v9.toInt from by omega)] at D
          refine x_iconst (v := (-1)) rfl ki_m1 ?_
          refine x_iceq (tgt := 221) rfl rfl (ti_eq rfl jk_m1 ⟨fun c18 => ?_, fun c18 => ?_⟩)
          ·
            rw [if_pos (by omega)] at D
            exact jX.sub (jsb_c rfl (jsb_c rfl (jsb_c rfl jsb_n))) (ct_X12_find_r125d_221 hD hQ ih l1 l2 g0 h (jr_of rfl (by omega)) (jr_of rfl (by omega)) (jr_of rfl (by omega)) (by omega) z0 (by omega) J Sm D)
          ·
            rw [if_neg (by omega)] at D
            refine x_aloadn (x := 125) rfl rfl ?_
            refine z_getR (N := 92) (b := 139) 12 29 rfl f_12_72 rfl J rfl 16029 ⟨rfl, rfl⟩ rfl ?_
            refine x_iloadn (x := v5) rfl rfl ?_
            refine z_ialdM (N := 600) (v := v15) rfl J rfl rfl (by omega) qv15 ?_
            refine x_aloadn (x := 125) rfl rfl ?_
            refine z_getR (N := 92) (b := 139) 12 29 rfl f_12_72 rfl J rfl 16029 ⟨rfl, rfl⟩ rfl ?_
            refine x_iload (x := v9) rfl rfl ?_
            refine z_ialdM (N := 600) (v := v17) rfl J rfl rfl (by omega) qv17 ?_
            refine x_iceq (tgt := 221) rfl rfl (ti_eq rfl rfl ⟨fun c19 => ?_, fun c19 => ?_⟩)
            ·
              rw [if_pos (by omega)] at D
              exact jX.sub (jsb_c rfl (jsb_c rfl (jsb_c rfl jsb_n))) (ct_X12_find_r125d_221 hD hQ ih l1 l2 g0 h (jr_of rfl (by omega)) (jr_of rfl (by omega)) (jr_of rfl (by omega)) (by omega) z0 (by omega) J Sm D)
            ·
              rw [if_neg (by omega)] at D
              refine x_aloadn (x := 125) rfl rfl ?_
              refine x_aloadn (x := 125) rfl rfl ?_
              refine z_getR (N := 92) (b := 139) 12 29 rfl f_12_72 rfl J rfl 16029 ⟨rfl, rfl⟩ rfl ?_
              refine x_iloadn (x := v5) rfl rfl ?_
              refine z_ialdM (N := 600) (v := v15) rfl J rfl rfl (by omega) qv15 ?_
              refine x_aloadn (x := 125) rfl rfl ?_
              refine z_getR (N := 92) (b := 139) 12 29 rfl f_12_72 rfl J rfl 16029 ⟨rfl, rfl⟩ rfl ?_
              refine x_iload (x := v9) rfl rfl ?_
              refine z_ialdM (N := 600) (v := v17) rfl J rfl rfl (by omega) qv17 ?_
              refine x_inv (N := m_X12_canJoin) (As := [.int v15, .int v17]) (b := 125) (st := []) (dx9 := 7) (mc := 0) (ms := 0) (host := "") 12 rfl t_X12_canJoin ⟨Or.inl q_12_386, i_X12_canJoin.1, i_X12_canJoin.2⟩ ⟨by decide, rfl⟩ (congrArg Prod.fst (J.1.1 125 (12, 92) rfl)) rfl (by decide) rfl rfl ⟨by decide, by decide⟩ (sf_X12_canJoin_r125d (jr_of rfl (by omega)) (jr_of rfl (by omega)) hD J rfl  (fun v23 h ev23 J S20 X21 X22 => ?_))
              have Sm := jSm_tr rfl Sm S20
              try rw [X21] at D
              try rw [X22] at D
              show jX m_X12_find 8 0 0 178 [(4, .int v9), (3, .int v5), (0, .ref 125), (1, .int l1), (2, .int l2)] [.int v23] _ 0 0 _
              refine x_ifeq (tgt := 201) rfl rfl (ti_eq rfl jk_0 ⟨fun c24 => ?_, fun c24 => ?_⟩)
              ·
                rw [if_pos (by omega)] at D
                refine x_aloadn (x := 125) rfl rfl ?_
                refine z_getR (N := 92) (b := 140) 12 30 rfl f_12_75 rfl J rfl 16030 ⟨rfl, rfl⟩ rfl ?_
                refine x_aloadn (x := 125) rfl rfl ?_
                refine z_getM (N := 92) (v := g0) 12 31 rfl f_12_380 rfl J rfl (jmc S20 rfl z0) ?_
                refine x_iloadn (x := l2) rfl rfl ?_
                refine z_iast (N := 200) (l := 0) (u := 200) (w := l2.toInt) rfl hD J Sm rfl rfl rfl (by omega) rfl (wr_140 (fun q1 q2 q3 q4 => by omega)) rfl (fun h w25 J Sm => ?_)
                rw [vww w25 (show g0.toInt = g0.toInt from by omega) (show l2.toInt = l2.toInt from by omega)] at D
                refine x_aloadn (x := 125) rfl rfl ?_
                refine x_dup rfl rfl ?_
                refine z_getM (N := 92) (v := g0) 12 31 rfl f_12_380 rfl J rfl (jmo w25 rfl (jmc S20 rfl z0)) ?_
                refine x_iconst (v := 1) rfl ki_1 ?_
                refine z_iadd rfl rfl jk_1 (by omega) (fun v26 ev26 => ?_)
                refine z_putI (N := 92) (w := v26.toInt) 12 31 rfl f_12_380 rfl (jfin_no TX12 RX12 92 rfl rfl) hD J Sm rfl rfl rfl (pw_125_31 (by omega)) rfl (fun h w27 J Sm => ?_)
                rw [vwf w27 (show (g0.toInt + 1) = v26.toInt from by omega)] at D
                exact jX.sub (jsb_c rfl (jsb_c rfl (jsb_c rfl jsb_n))) (ct_X12_find_r125d_221 hD hQ ih l1 l2 v26 h (jr_of rfl (by omega)) (jr_of rfl (by omega)) (jr_of rfl (by omega)) (by omega) (jmw w27) (by omega) J Sm D)
              ·
                rw [if_neg (by omega)] at D
                refine x_aloadn (x := 125) rfl rfl ?_
                refine x_aloadn (x := 125) rfl rfl ?_
                refine z_getR (N := 92) (b := 139) 12 29 rfl f_12_72 rfl J rfl 16029 ⟨rfl, rfl⟩ rfl ?_
                refine x_iloadn (x := v5) rfl rfl ?_
                refine z_ialdM (N := 600) (v := v15) rfl J rfl rfl (by omega) (jmc S20 rfl qv15) ?_
                refine x_aloadn (x := 125) rfl rfl ?_
                refine z_getR (N := 92) (b := 139) 12 29 rfl f_12_72 rfl J rfl 16029 ⟨rfl, rfl⟩ rfl ?_
                refine x_iload (x := v9) rfl rfl ?_
                refine z_ialdM (N := 600) (v := v17) rfl J rfl rfl (by omega) (jmc S20 rfl qv17) ?_
                refine x_inv (N := m_X12_join2) (As := [.int v15, .int v17]) (b := 125) (st := []) (dx9 := 1) (mc := 0) (ms := 0) (host := "") 12 rfl t_X12_join2 ⟨Or.inl q_12_389, i_X12_join2.1, i_X12_join2.2⟩ ⟨by decide, rfl⟩ (congrArg Prod.fst (J.1.1 125 (12, 92) rfl)) rfl (by decide) rfl rfl ⟨by decide, by decide⟩ (sf_X12_join2_r125d (jr_of rfl (by omega)) (jr_of rfl (by omega)) hD J rfl  (fun h J S28 X29 => ?_))
                have Sm := jSm_tr rfl Sm S28
                rw [X29] at D
                show jX m_X12_find 8 0 0 198 [(4, .int v9), (3, .int v5), (0, .ref 125), (1, .int l1), (2, .int l2)] [] _ 0 0 _
                refine x_goto (tgt := 221) rfl rfl ?_
                exact jX.sub (jsb_c rfl (jsb_c rfl (jsb_c rfl jsb_n))) (ct_X12_find_r125d_221 hD hQ ih l1 l2 g0 h (jr_of rfl (by omega)) (jr_of rfl (by omega)) (jr_of rfl (by omega)) (by omega) (jmc S28 rfl (jmc S20 rfl z0)) (by omega) J Sm D)
set_option maxRecDepth 100000 in
set_option maxHeartbeats 4000000 in
theorem ct_X12_find_r125d_58 {Dy : jH → Prop} {h0 : jH} {Q : Option Value → jH → Prop} {dr : jW} {K17 : Int → Int → jW → jW} {R17 : Int} (hD : jDk Dy) (hQ : ∀ hx9, jJ jSgM Dy hx9 → jSm fp_X12_find_r125d h0 hx9 → dr = vw hx9 → Q none hx9) (k17 : ∀ (l1 : Int32) (l2 : Int32) (g0 : Int32) (h : jH), 600 - l2.toInt < R17 → 0 ≤ l1.toInt ∧ l1.toInt ≤ 146399 → 0 ≤ l2.toInt ∧ l2.toInt ≤ 600 → 0 ≤ g0.toInt ∧ g0.toInt ≤ 0 → jiv h 125 31 = g0 → jJ jSgM Dy h → jSm fp_X12_find_r125d h0 h → K17 l1.toInt l2.toInt (vw h) = dr → jX m_X12_find 8 0 0 17 [(0, .ref 125), (1, .int l1), (2, .int l2)] [] h 0 0 Q) : ∀ (l1 : Int32) (l2 : Int32) (s0 : Int32) (s1 : Int32) (g0 : Int32) (h : jH), 0 ≤ l1.toInt ∧ l1.toInt ≤ 146399 → 0 ≤ l2.toInt ∧ l2.toInt ≤ 599 → 0 ≤ s0.toInt ∧ s0.toInt ≤ 599 → 0 ≤ s1.toInt ∧ s1.toInt ≤ 599 → 0 ≤ g0.toInt ∧ g0.toInt ≤ 0 → jiv h 125 31 = g0 → 600 - l2.toInt ≤ R17 → jJ jSgM Dy h → jSm fp_X12_find_r125d h0 h → d_X12_find_r125d_58 K17  l1.toInt l2.toInt s0.toInt s1.toInt (vw h) = dr → jX m_X12_find 8 0 0 58 [(0, .ref 125), (1, .int l1), (2, .int l2)] [.int s0, .int s1, .ref 139] h 0 0 Q := by
  intro l1 l2 s0 s1 g0 h y0 y1 y2 y3 y4 z0 m17 J Sm D
  unfold d_X12_find_r125d_58 at D
  try rw [vrf z0] at D
  refine z_iast (N := 600) (l := 0) (u := 600) (w := s0.toInt) rfl hD J Sm rfl rfl rfl (by omega) rfl (wr_139 (fun q1 q2 q3 q4 => by omega)) rfl (fun h w1 J Sm => ?_)
  rw [vww w1 (show s1.toInt = s1.toInt from by omega) (show s0.toInt = s0.toInt from by omega)] at D
  refine z_iinc (x := l2) (lsx9 := fun v2 => [(2, .int v2), (0, .ref 125), (1, .int l1)]) rfl rfl rfl jko_1 (by omega) rfl (fun _ => rfl) (fun v2 ev2 => ?_)
  refine x_goto (tgt := 17) rfl rfl ?_
  try rw [show (l2.toInt + 1) = v2.toInt from by omega] at D
  exact jX.sub (jsb_c rfl (jsb_c rfl (jsb_c rfl jsb_n))) (k17 l1 v2 g0 h (by omega) (jr_of rfl (by omega)) (jr_of rfl (by omega)) (jr_of rfl (by omega)) (jmo w1 rfl z0) J Sm D)
set_option maxRecDepth 100000 in
set_option maxHeartbeats 4000000 in
theorem ct_X12_find_r125d_100058 {Dy : jH → Prop} {h0 : jH} {Q : Option Value → jH → Prop} {dr : jW} {K17 : Int → Int → jW → jW} {R17 : Int} (hD : jDk Dy) (hQ : ∀ hx9, jJ jSgM Dy hx9 → jSm fp_X12_find_r125d h0 hx9 → dr = vw hx9 → Q none hx9) (k17 : ∀ (l1 : Int32) (l2 : Int32) (g0 : Int32) (h : jH), 600 - l2.toInt < R17 → 0 ≤ l1.toInt ∧ l1.toInt ≤ 146399 → 0 ≤ l2.toInt ∧ l2.toInt ≤ 600 → 0 ≤ g0.toInt ∧ g0.toInt ≤ 0 → jiv h 125 31 = g0 → jJ jSgM Dy h → jSm fp_X12_find_r125d h0 h → K17 l1.toInt l2.toInt (vw h) = dr → jX m_X12_find 8 0 0 17 [(0, .ref 125), (1, .int l1), (2, .int l2)] [] h 0 0 Q) : ∀ (l1 : Int32) (l2 : Int32) (s1 : Int32) (g0 : Int32) (h : jH), 0 ≤ l1.toInt ∧ l1.toInt ≤ 146399 → 0 ≤ l2.toInt ∧ l2.toInt ≤ 599 → 0 ≤ s1.toInt ∧ s1.toInt ≤ 599 → 0 ≤ g0.toInt ∧ g0.toInt ≤ 0 → jiv h 125 31 = g0 → 600 - l2.toInt ≤ R17 → jJ jSgM Dy h → jSm fp_X12_find_r125d h0 h → d_X12_find_r125d_100058 K17  l1.toInt l2.toInt s1.toInt (vw h) = dr → jX m_X12_find 8 0 0 58 [(0, .ref 125), (1, .int l1), (2, .int l2)] [.int (-1), .int s1, .ref 139] h 0 0 Q := by
  intro l1 l2 s1 g0 h y0 y1 y2 y3 z0 m17 J Sm D
  unfold d_X12_find_r125d_100058 at D
  try rw [vrf z0] at D
  refine z_iast (N := 600) (l := 0) (u := 600) (w := (-1)) rfl hD J Sm rfl rfl rfl (by omega) jk_m1 (wr_139 (fun q1 q2 q3 q4 => by omega)) rfl (fun h w1 J Sm => ?_)
  rw [vww w1 (show s1.toInt = s1.toInt from by omega) (show (-1) = ((-1) : Int32).toInt from by have := jk_m1; omega)] at D
  refine z_iinc (x := l2) (lsx9 := fun v2 => [(2, .int v2), (0, .ref 125), (1, .int l1)]) rfl rfl rfl jko_1 (by omega) rfl (fun _ => rfl) (fun v2 ev2 => ?_)
  refine x_goto (tgt := 17) rfl rfl ?_
  try rw [show (l2.toInt + 1) = v2.toInt from by omega] at D
  exact jX.sub (jsb_c rfl (jsb_c rfl (jsb_c rfl jsb_n))) (k17 l1 v2 g0 h (by omega) (jr_of rfl (by omega)) (jr_of rfl (by omega)) (jr_of rfl (by omega)) (jmo w1 rfl z0) J Sm D)
set_option maxRecDepth 100000 in
set_option maxHeartbeats 4000000 in
theorem ct_X12_find_r125d_57 {Dy : jH → Prop} {h0 : jH} {Q : Option Value → jH → Prop} {dr : jW} {K17 : Int → Int → jW → jW} {R17 : Int} (hD : jDk Dy) (hQ : ∀ hx9, jJ jSgM Dy hx9 → jSm fp_X12_find_r125d h0 hx9 → dr = vw hx9 → Q none hx9) (k17 : ∀ (l1 : Int32) (l2 : Int32) (g0 : Int32) (h : jH), 600 - l2.toInt < R17 → 0 ≤ l1.toInt ∧ l1.toInt ≤ 146399 → 0 ≤ l2.toInt ∧ l2.toInt ≤ 600 → 0 ≤ g0.toInt ∧ g0.toInt ≤ 0 → jiv h 125 31 = g0 → jJ jSgM Dy h → jSm fp_X12_find_r125d h0 h → K17 l1.toInt l2.toInt (vw h) = dr → jX m_X12_find 8 0 0 17 [(0, .ref 125), (1, .int l1), (2, .int l2)] [] h 0 0 Q) : ∀ (l1 : Int32) (l2 : Int32) (s0 : Int32) (g0 : Int32) (h : jH), 0 ≤ l1.toInt ∧ l1.toInt ≤ 146399 → 0 ≤ l2.toInt ∧ l2.toInt ≤ 599 → 0 ≤ s0.toInt ∧ s0.toInt ≤ 599 → 0 ≤ g0.toInt ∧ g0.toInt ≤ 0 → jiv h 125 31 = g0 → 600 - l2.toInt ≤ R17 → jJ jSgM Dy h → jSm fp_X12_find_r125d h0 h → d_X12_find_r125d_57 K17  l1.toInt l2.toInt s0.toInt (vw h) = dr → jX m_X12_find 8 0 0 57 [(0, .ref 125), (1, .int l1), (2, .int l2)] [.int s0, .ref 139] h 0 0 Q := by
  intro l1 l2 s0 g0 h y0 y1 y2 y3 z0 m17 J Sm D
  unfold d_X12_find_r125d_57 at D
  try rw [vrf z0] at D
  refine x_iconst (v := (-1)) rfl ki_m1 ?_
  exact jX.sub (jsb_c rfl (jsb_c rfl (jsb_c rfl jsb_n))) (ct_X12_find_r125d_100058 hD hQ k17 l1 l2 s0 g0 h (jr_of rfl (by omega)) (jr_of rfl (by omega)) (jr_of rfl (by omega)) (jr_of rfl (by omega)) z0 (by omega) J Sm D)
set_option maxRecDepth 100000 in
set_option maxHeartbeats 4000000 in
theorem ct_X12_find_r125d_17 {Dy : jH → Prop} {h0 : jH} {Q : Option Value → jH → Prop} {dr : jW} (hD : jDk Dy) (hQ : ∀ hx9, jJ jSgM Dy hx9 → jSm fp_X12_find_r125d h0 hx9 → dr = vw hx9 → Q none hx9) : ∀ r : Nat, ∀ (l1 : Int32) (l2 : Int32) (g0 : Int32) (h : jH), 600 - l2.toInt < (r : Int) → 0 ≤ l1.toInt ∧ l1.toInt ≤ 146399 → 0 ≤ l2.toInt ∧ l2.toInt ≤ 600 → 0 ≤ g0.toInt ∧ g0.toInt ≤ 0 → jiv h 125 31 = g0 → jJ jSgM Dy h → jSm fp_X12_find_r125d h0 h → d_X12_find_r125d_17 r l1.toInt l2.toInt (vw h) = dr → jX m_X12_find 8 0 0 17 [(0, .ref 125), (1, .int l1), (2, .int l2)] [] h 0 0 Q := by
  intro r
  induction r with
  | zero =>
    intro l1 l2 g0 h hm y0 y1 y2 z0  J Sm D
    exfalso
    omega
  | succ r ih =>
    intro l1 l2 g0 h hm y0 y1 y2 z0  J Sm D
    rw [d_X12_find_r125d_17.eq_2] at D
    try rw [vrf z0] at D
    refine x_iloadn (x := l2) rfl rfl ?_
    refine x_iconst (v := 3) rfl ki_3 ?_
    refine x_aloadn (x := 125) rfl rfl ?_
    refine z_getR (N := 92) (b := 126) 12 2 rfl f_12_8 rfl J rfl 16002 ⟨rfl, rfl⟩ rfl ?_
    refine x_iconst (v := 0) rfl ki_0 ?_
    refine z_iald (N := 50660) rfl J rfl sg_126_0_1_1_0_1 jk_0 (by omega) (fun v1 qv1 ev1 => ?_)
    try rw [vrn (n := 0) (by decide) qv1] at D
    refine z_imul rfl jk_3 rfl (by omega) (fun v2 ev2 => ?_)
    refine x_icge (tgt := 65) rfl rfl (ti_ge rfl rfl ⟨fun c3 => ?_, fun c3 => ?_⟩)
    ·
      rw [if_pos (by omega)] at D
      refine x_iconst (v := 0) rfl ki_0 ?_
      refine x_istoren (lsx9 := [(2, .int 0), (0, .ref 125), (1, .int l1)]) rfl rfl rfl ?_
      exact jX.sub (jsb_c rfl (jsb_c rfl (jsb_c rfl jsb_n))) (ct_X12_find_r125d_67 hD hQ  201 l1 0 g0 h (by have := jk_0; omega) (jr_of rfl (by omega)) (jr_of jk_0 (by omega)) (jr_of rfl (by omega)) (by have := jk_0; omega) z0 J Sm (by rw [jk_0]; exact D))
    ·
      rw [if_neg (by omega)] at D
      refine x_aloadn (x := 125) rfl rfl ?_
      refine z_getR (N := 92) (b := 139) 12 29 rfl f_12_72 rfl J rfl 16029 ⟨rfl, rfl⟩ rfl ?_
      refine x_iloadn (x := l2) rfl rfl ?_
      refine x_aloadn (x := 125) rfl rfl ?_
      refine x_iloadn (x := l2) rfl rfl ?_
      refine x_inv (N := m_X12_isMention) (As := [.int l2]) (b := 125) (st := [.int l2, .ref 139]) (dx9 := 7) (mc := 0) (ms := 0) (host := "") 12 rfl t_X12_isMention ⟨Or.inl q_12_322, i_X12_isMention.1, i_X12_isMention.2⟩ ⟨by decide, rfl⟩ (congrArg Prod.fst (J.1.1 125 (12, 92) rfl)) rfl (by decide) rfl rfl ⟨by decide, by decide⟩ (jC.of rfl k_X12_isMention rfl ?_)
      show jX m_X12_isMention 7 0 0 0 [(0, .ref 125), (1, .int l2)] [] _ 0 0 _
      refine x_iloadn (x := l2) rfl rfl ?_
      refine x_iflt (tgt := 34) rfl rfl (ti_lt rfl jk_0 (br_f (by omega) ?_))
      refine x_aloadn (x := 125) rfl rfl ?_
      refine x_iloadn (x := l2) rfl rfl ?_
      refine x_iconst (v := 3) rfl ki_3 ?_
      refine z_idiv rfl rfl jk_3 (by omega) (by omega) (fun v4 ev4 => ?_)
      refine x_inv (N := m_X12_isLine) (As := [.int v4]) (b := 125) (st := []) (dx9 := 6) (mc := 0) (ms := 0) (host := "") 12 rfl t_X12_isLine ⟨Or.inl q_12_293, i_X12_isLine.1, i_X12_isLine.2⟩ ⟨by decide, rfl⟩ (congrArg Prod.fst (J.1.1 125 (12, 92) rfl)) rfl (by decide) rfl rfl ⟨by decide, by decide⟩ (jC.of rfl k_X12_isLine rfl ?_)
      show jX m_X12_isLine 6 0 0 0 [(0, .ref 125), (1, .int v4)] [] _ 0 0 _
      refine x_iloadn (x := v4) rfl rfl ?_
      refine z_i2l rfl rfl (fun v5 ev5 => ?_)
      refine x_lconst (v := 0) rfl kl_0 ?_
      refine x_aloadn (x := 125) rfl rfl ?_
      refine z_getR (N := 92) (b := 126) 12 2 rfl f_12_8 rfl J rfl 16002 ⟨rfl, rfl⟩ rfl ?_
      refine x_iconst (v := 0) rfl ki_0 ?_
      refine z_ialdM (N := 50660) (v := v1) rfl J rfl jk_0 (by omega) qv1 ?_
      refine z_i2l rfl rfl (fun v6 ev6 => ?_)
      refine x_lconst (v := 1) rfl kl_1 ?_
      refine z_lsub rfl rfl jkl_1 (by omega) (fun v7 ev7 => ?_)
      refine x_inst (N := m_X12_in) (As := [.long v5, .long 0, .long v7]) (st := []) (dx9 := 1) (mc := 0) (ms := 0) (host := "") rfl t_X12_in ⟨Or.inl q_12_188, s_X12_in⟩ rfl (by decide) rfl rfl ⟨by decide, by decide⟩ (zc_X12_in rfl jkl_0 rfl (fun v8 ev8 => ?_))
      show jX m_X12_isLine 6 0 0 15 [(0, .ref 125), (1, .int v4)] [.int v8] _ 0 0 _
      refine x_zret rfl rfl (jz01 (by omega)) ?_
      show jX m_X12_isMention 7 0 0 11 [(0, .ref 125), (1, .int l2)] [.int v8] _ 0 0 _
      refine x_ifeq (tgt := 34) rfl rfl (ti_eq rfl jk_0 ⟨fun c9 => ?_, fun c9 => ?_⟩)
      ·
        rw [if_neg (by omega)] at D
        refine x_iconst (v := 0) rfl ki_0 ?_
        refine x_zret rfl rfl (by decide) ?_
        show jX m_X12_find 8 0 0 39 [(0, .ref 125), (1, .int l1), (2, .int l2)] [.int 0, .int l2, .ref 139] _ 0 0 _
        refine x_ifeq (tgt := 57) rfl rfl (ti_eq jk_0 jk_0 (br_t (by omega) ?_))
        exact jX.sub (jsb_c rfl (jsb_c rfl (jsb_c rfl jsb_n))) (ct_X12_find_r125d_57 hD hQ ih l1 l2 l2 g0 h (jr_of rfl (by omega)) (jr_of rfl (by omega)) (jr_of rfl (by omega)) (jr_of rfl (by omega)) z0 (by omega) J Sm D)
      ·
        rw [if_pos (by omega)] at D
        refine x_iloadn (x := l2) rfl rfl ?_
        refine x_iconst (v := 3) rfl ki_3 ?_
        refine z_irem rfl rfl jk_3 (by omega) (by omega) (fun v10 ev10 => ?_)
        refine x_aloadn (x := 125) rfl rfl ?_
        refine x_iloadn (x := l2) rfl rfl ?_
        refine x_iconst (v := 3) rfl ki_3 ?_
        refine z_idiv rfl rfl jk_3 (by omega) (by omega) (fun v11 ev11 => ?_)
        refine x_inv (N := m_X12_bookOf) (As := [.int v11]) (b := 125) (st := [.int v10]) (dx9 := 6) (mc := 0) (ms := 0) (host := "") 12 rfl t_X12_bookOf ⟨Or.inl q_12_299, i_X12_bookOf.1, i_X12_bookOf.2⟩ ⟨by decide, rfl⟩ (congrArg Prod.fst (J.1.1 125 (12, 92) rfl)) rfl (by decide) rfl rfl ⟨by decide, by decide⟩ (jC.of rfl k_X12_bookOf rfl ?_)
        show jX m_X12_bookOf 6 0 0 0 [(0, .ref 125), (1, .int v11)] [] _ 0 0 _
        refine x_aloadn (x := 125) rfl rfl ?_
        refine z_getR (N := 92) (b := 126) 12 2 rfl f_12_8 rfl J rfl 16002 ⟨rfl, rfl⟩ rfl ?_
        refine x_aloadn (x := 125) rfl rfl ?_
        refine x_iloadn (x := v11) rfl rfl ?_
        refine x_inv (N := m_X12_at) (As := [.int v11]) (b := 125) (st := [.ref 126]) (dx9 := 5) (mc := 0) (ms := 0) (host := "") 12 rfl t_X12_at ⟨Or.inl q_12_254, i_X12_at.1, i_X12_at.2⟩ ⟨by decide, rfl⟩ (congrArg Prod.fst (J.1.1 125 (12, 92) rfl)) rfl (by decide) rfl rfl ⟨by decide, by decide⟩ (jC.of rfl k_X12_at rfl ?_)
        show jX m_X12_at 5 0 0 0 [(0, .ref 125), (1, .int v11)] [] _ 0 0 _
        refine x_bipush (v := 20) rfl kb_20 ?_
        refine x_bipush (v := 90) rfl kb_90 ?_
        refine x_iloadn (x := v11) rfl rfl ?_
        refine z_imul rfl jk_90 rfl (by omega) (fun v12 ev12 => ?_)
        refine z_iadd rfl jk_20 rfl (by omega) (fun v13 ev13 => ?_)
        refine x_iret rfl rfl ?_
        show jX m_X12_bookOf 6 0 0 9 [(0, .ref 125), (1, .int v11)] [.int v13, .ref 126] _ 0 0 _
        refine z_iald (N := 50660) rfl J rfl sg_126_20_18020_90_0_1 rfl (by omega) (fun v14 qv14 ev14 => ?_)
        try rw [vrd qv14 (show (20 + (90 * (l2.toInt / 3))) = v13.toInt from by omega)] at D
        refine x_iret rfl rfl ?_
        show jX m_X12_isMention 7 0 0 24 [(0, .ref 125), (1, .int l2)] [.int v14, .int v10] _ 0 0 _
        refine x_inst (N := m_X12_rolesOf) (As := [.int v14]) (st := [.int v10]) (dx9 := 6) (mc := 0) (ms := 0) (host := "") rfl t_X12_rolesOf ⟨Or.inl q_12_286, s_X12_rolesOf⟩ rfl (by decide) rfl rfl ⟨by decide, by decide⟩ (jC.of rfl k_X12_rolesOf rfl ?_)
        show jX m_X12_rolesOf 6 0 0 0 [(0, .int v14)] [] _ 0 0 _
        refine x_iloadn (x := v14) rfl rfl ?_
        refine x_ifne (tgt := 8) rfl rfl (ti_ne rfl jk_0 ⟨fun c15 => ?_, fun c15 => ?_⟩)
        ·
          rw [if_neg (by omega)] at D
          refine x_iloadn (x := v14) rfl rfl ?_
          refine x_iconst (v := 1) rfl ki_1 ?_
          refine x_icne (tgt := 17) rfl rfl (ti_ne rfl jk_1 ⟨fun c16 => ?_, fun c16 => ?_⟩)
          ·
            rw [if_neg (by omega)] at D
            refine x_iconst (v := 1) rfl ki_1 ?_
            refine x_iret rfl rfl ?_
            show jX m_X12_isMention 7 0 0 27 [(0, .ref 125), (1, .int l2)] [.int 1, .int v10] _ 0 0 _
            refine x_icge (tgt := 34) rfl rfl (ti_ge rfl jk_1 ⟨fun c17 => ?_, fun c17 => ?_⟩)
            ·
              rw [if_pos (by omega)] at D
              refine x_iconst (v := 0) rfl ki_0 ?_
              refine x_zret rfl rfl (by decide) ?_
              show jX m_X12_find 8 0 0 39 [(0, .ref 125), (1, .int l1), (2, .int l2)] [.int 0, .int l2, .ref 139] _ 0 0 _
              refine x_ifeq (tgt := 57) rfl rfl (ti_eq jk_0 jk_0 (br_t (by omega) ?_))
              exact jX.sub (jsb_c rfl (jsb_c rfl (jsb_c rfl jsb_n))) (ct_X12_find_r125d_57 hD hQ ih l1 l2 l2 g0 h (jr_of rfl (by omega)) (jr_of rfl (by omega)) (jr_of rfl (by omega)) (jr_of rfl (by omega)) z0 (by omega) J Sm D)
            ·
              rw [if_neg (by omega)] at D
              refine x_iconst (v := 1) rfl ki_1 ?_
              refine x_goto (tgt := 35) rfl rfl ?_
              refine x_zret rfl rfl (by decide) ?_
              show jX m_X12_find 8 0 0 39 [(0, .ref 125), (1, .int l1), (2, .int l2)] [.int 1, .int l2, .ref 139] _ 0 0 _
              refine x_ifeq (tgt := 57) rfl rfl (ti_eq jk_1 jk_0 (br_f (by omega) ?_))
              refine x_aloadn (x := 125) rfl rfl ?_
              refine x_iloadn (x := l2) rfl rfl ?_
              refine x_iconst (v := 3) rfl ki_3 ?_
              refine z_idiv rfl rfl jk_3 (by omega) (by omega) (fun v18 ev18 => ?_)
              refine x_iloadn (x := l1) rfl rfl ?_
              refine x_inv (N := m_X12_isKnown) (As := [.int v18, .int l1]) (b := 125) (st := [.int l2, .ref 139]) (dx9 := 7) (mc := 0) (ms := 0) (host := "") 12 rfl t_X12_isKnown ⟨Or.inl q_12_383, i_X12_isKnown.1, i_X12_isKnown.2⟩ ⟨by decide, rfl⟩ (congrArg Prod.fst (J.1.1 125 (12, 92) rfl)) rfl (by decide) rfl rfl ⟨by decide, by decide⟩ (jC.of rfl k_X12_isKnown rfl ?_)
              show jX m_X12_isKnown 7 0 0 0 [(0, .ref 125), (1, .int v18), (2, .int l1)] [] _ 0 0 _
              refine x_aloadn (x := 125) rfl rfl ?_
              refine z_getR (N := 92) (b := 126) 12 2 rfl f_12_8 rfl J rfl 16002 ⟨rfl, rfl⟩ rfl ?_
              refine x_aloadn (x := 125) rfl rfl ?_
              refine x_iloadn (x := v18) rfl rfl ?_
              refine x_inv (N := m_X12_at) (As := [.int v18]) (b := 125) (st := [.ref 126]) (dx9 := 6) (mc := 0) (ms := 0) (host := "") 12 rfl t_X12_at ⟨Or.inl q_12_254, i_X12_at.1, i_X12_at.2⟩ ⟨by decide, rfl⟩ (congrArg Prod.fst (J.1.1 125 (12, 92) rfl)) rfl (by decide) rfl rfl ⟨by decide, by decide⟩ (jC.of rfl k_X12_at rfl ?_)
              show jX m_X12_at 6 0 0 0 [(0, .ref 125), (1, .int v18)] [] _ 0 0 _
              refine x_bipush (v := 20) rfl kb_20 ?_
              refine x_bipush (v := 90) rfl kb_90 ?_
              refine x_iloadn (x := v18) rfl rfl ?_
              refine z_imul rfl jk_90 rfl (by omega) (fun v19 ev19 => ?_)
              refine z_iadd rfl jk_20 rfl (by omega) (fun v20 ev20 => ?_)
              refine x_iret rfl rfl ?_
              show jX m_X12_isKnown 7 0 0 9 [(0, .ref 125), (1, .int v18), (2, .int l1)] [.int v20, .ref 126] _ 0 0 _
              refine x_iconst (v := 3) rfl ki_3 ?_
              refine z_iadd rfl rfl jk_3 (by omega) (fun v21 ev21 => ?_)
              refine z_iald (N := 50660) rfl J rfl sg_126_20_18020_90_3_4 rfl (by omega) (fun v22 qv22 ev22 => ?_)
              try rw [vrd qv22 (show ((20 + (90 * (l2.toInt / 3))) + 3) = v21.toInt from by omega)] at D
              refine x_iloadn (x := l1) rfl rfl ?_
              refine x_icgt (tgt := 20) rfl rfl (ti_gt rfl rfl ⟨fun c23 => ?_, fun c23 => ?_⟩)
              ·
                rw [if_pos (by omega)] at D
                refine x_iconst (v := 0) rfl ki_0 ?_
                refine x_zret rfl rfl (by decide) ?_
                show jX m_X12_find 8 0 0 50 [(0, .ref 125), (1, .int l1), (2, .int l2)] [.int 0, .int l2, .ref 139] _ 0 0 _
                refine x_ifeq (tgt := 57) rfl rfl (ti_eq jk_0 jk_0 (br_t (by omega) ?_))
                exact jX.sub (jsb_c rfl (jsb_c rfl (jsb_c rfl jsb_n))) (ct_X12_find_r125d_57 hD hQ ih l1 l2 l2 g0 h (jr_of rfl (by omega)) (jr_of rfl (by omega)) (jr_of rfl (by omega)) (jr_of rfl (by omega)) z0 (by omega) J Sm D)
              ·
                rw [if_neg (by omega)] at D
                refine x_iconst (v := 1) rfl ki_1 ?_
                refine x_goto (tgt := 21) rfl rfl ?_
                refine x_zret rfl rfl (by decide) ?_
                show jX m_X12_find 8 0 0 50 [(0, .ref 125), (1, .int l1), (2, .int l2)] [.int 1, .int l2, .ref 139] _ 0 0 _
                refine x_ifeq (tgt := 57) rfl rfl (ti_eq jk_1 jk_0 (br_f (by omega) ?_))
                refine x_iloadn (x := l2) rfl rfl ?_
                refine x_goto (tgt := 58) rfl rfl ?_
                exact jX.sub (jsb_c rfl (jsb_c rfl (jsb_c rfl jsb_n))) (ct_X12_find_r125d_58 hD hQ ih l1 l2 l2 l2 g0 h (jr_of rfl (by omega)) (jr_of rfl (by omega)) (jr_of rfl (by omega)) (jr_of rfl (by omega)) (jr_of rfl (by omega)) z0 (by omega) J Sm D)
          ·
            rw [if_pos (by omega)] at D
            refine x_iconst (v := 2) rfl ki_2 ?_
            refine x_goto (tgt := 18) rfl rfl ?_
            refine x_iret rfl rfl ?_
            show jX m_X12_isMention 7 0 0 27 [(0, .ref 125), (1, .int l2)] [.int 2, .int v10] _ 0 0 _
            refine x_icge (tgt := 34) rfl rfl (ti_ge rfl jk_2 ⟨fun c24 => ?_, fun c24 => ?_⟩)
            ·
              rw [if_pos (by omega)] at D
              refine x_iconst (v := 0) rfl ki_0 ?_
              refine x_zret rfl rfl (by decide) ?_
              show jX m_X12_find 8 0 0 39 [(0, .ref 125), (1, .int l1), (2, .int l2)] [.int 0, .int l2, .ref 139] _ 0 0 _
              refine x_ifeq (tgt := 57) rfl rfl (ti_eq jk_0 jk_0 (br_t (by omega) ?_))
              exact jX.sub (jsb_c rfl (jsb_c rfl (jsb_c rfl jsb_n))) (ct_X12_find_r125d_57 hD hQ ih l1 l2 l2 g0 h (jr_of rfl (by omega)) (jr_of rfl (by omega)) (jr_of rfl (by omega)) (jr_of rfl (by omega)) z0 (by omega) J Sm D)
            ·
              rw [if_neg (by omega)] at D
              refine x_iconst (v := 1) rfl ki_1 ?_
              refine x_goto (tgt := 35) rfl rfl ?_
              refine x_zret rfl rfl (by decide) ?_
              show jX m_X12_find 8 0 0 39 [(0, .ref 125), (1, .int l1), (2, .int l2)] [.int 1, .int l2, .ref 139] _ 0 0 _
              refine x_ifeq (tgt := 57) rfl rfl (ti_eq jk_1 jk_0 (br_f (by omega) ?_))
              refine x_aloadn (x := 125) rfl rfl ?_
              refine x_iloadn (x := l2) rfl rfl ?_
              refine x_iconst (v := 3) rfl ki_3 ?_
              refine z_idiv rfl rfl jk_3 (by omega) (by omega) (fun v25 ev25 => ?_)
              refine x_iloadn (x := l1) rfl rfl ?_
              refine x_inv (N := m_X12_isKnown) (As := [.int v25, .int l1]) (b := 125) (st := [.int l2, .ref 139]) (dx9 := 7) (mc := 0) (ms := 0) (host := "") 12 rfl t_X12_isKnown ⟨Or.inl q_12_383, i_X12_isKnown.1, i_X12_isKnown.2⟩ ⟨by decide, rfl⟩ (congrArg Prod.fst (J.1.1 125 (12, 92) rfl)) rfl (by decide) rfl rfl ⟨by decide, by decide⟩ (jC.of rfl k_X12_isKnown rfl ?_)
              show jX m_X12_isKnown 7 0 0 0 [(0, .ref 125), (1, .int v25), (2, .int l1)] [] _ 0 0 _
              refine x_aloadn (x := 125) rfl rfl ?_
              refine z_getR (N := 92) (b := 126) 12 2 rfl f_12_8 rfl J rfl 16002 ⟨rfl, rfl⟩ rfl ?_
              refine x_aloadn (x := 125) rfl rfl ?_
              refine x_iloadn (x := v25) rfl rfl ?_
              refine x_inv (N := m_X12_at) (As := [.int v25]) (b := 125) (st := [.ref 126]) (dx9 := 6) (mc := 0) (ms := 0) (host := "") 12 rfl t_X12_at ⟨Or.inl q_12_254, i_X12_at.1, i_X12_at.2⟩ ⟨by decide, rfl⟩ (congrArg Prod.fst (J.1.1 125 (12, 92) rfl)) rfl (by decide) rfl rfl ⟨by decide, by decide⟩ (jC.of rfl k_X12_at rfl ?_)
              show jX m_X12_at 6 0 0 0 [(0, .ref 125), (1, .int v25)] [] _ 0 0 _
              refine x_bipush (v := 20) rfl kb_20 ?_
              refine x_bipush (v := 90) rfl kb_90 ?_
              refine x_iloadn (x := v25) rfl rfl ?_
              refine z_imul rfl jk_90 rfl (by omega) (fun v26 ev26 => ?_)
              refine z_iadd rfl jk_20 rfl (by omega) (fun v27 ev27 => ?_)
              refine x_iret rfl rfl ?_
              show jX m_X12_isKnown 7 0 0 9 [(0, .ref 125), (1, .int v25), (2, .int l1)] [.int v27, .ref 126] _ 0 0 _
              refine x_iconst (v := 3) rfl ki_3 ?_
              refine z_iadd rfl rfl jk_3 (by omega) (fun v28 ev28 => ?_)
              refine z_iald (N := 50660) rfl J rfl sg_126_20_18020_90_3_4 rfl (by omega) (fun v29 qv29 ev29 => ?_)
              try rw [vrd qv29 (show ((20 + (90 * (l2.toInt / 3))) + 3) = v28.toInt from by omega)] at D
              refine x_iloadn (x := l1) rfl rfl ?_
              refine x_icgt (tgt := 20) rfl rfl (ti_gt rfl rfl ⟨fun c30 => ?_, fun c30 => ?_⟩)
              ·
                rw [if_pos (by omega)] at D
                refine x_iconst (v := 0) rfl ki_0 ?_
                refine x_zret rfl rfl (by decide) ?_
                show jX m_X12_find 8 0 0 50 [(0, .ref 125), (1, .int l1), (2, .int l2)] [.int 0, .int l2, .ref 139] _ 0 0 _
                refine x_ifeq (tgt := 57) rfl rfl (ti_eq jk_0 jk_0 (br_t (by omega) ?_))
                exact jX.sub (jsb_c rfl (jsb_c rfl (jsb_c rfl jsb_n))) (ct_X12_find_r125d_57 hD hQ ih l1 l2 l2 g0 h (jr_of rfl (by omega)) (jr_of rfl (by omega)) (jr_of rfl (by omega)) (jr_of rfl (by omega)) z0 (by omega) J Sm D)
              ·
                rw [if_neg (by omega)] at D
                refine x_iconst (v := 1) rfl ki_1 ?_
                refine x_goto (tgt := 21) rfl rfl ?_
                refine x_zret rfl rfl (by decide) ?_
                show jX m_X12_find 8 0 0 50 [(0, .ref 125), (1, .int l1), (2, .int l2)] [.int 1, .int l2, .ref 139] _ 0 0 _
                refine x_ifeq (tgt := 57) rfl rfl (ti_eq jk_1 jk_0 (br_f (by omega) ?_))
                refine x_iloadn (x := l2) rfl rfl ?_
                refine x_goto (tgt := 58) rfl rfl ?_
                exact jX.sub (jsb_c rfl (jsb_c rfl (jsb_c rfl jsb_n))) (ct_X12_find_r125d_58 hD hQ ih l1 l2 l2 l2 g0 h (jr_of rfl (by omega)) (jr_of rfl (by omega)) (jr_of rfl (by omega)) (jr_of rfl (by omega)) (jr_of rfl (by omega)) z0 (by omega) J Sm D)
        ·
          rw [if_pos (by omega)] at D
          refine x_iconst (v := 3) rfl ki_3 ?_
          refine x_goto (tgt := 18) rfl rfl ?_
          refine x_iret rfl rfl ?_
          show jX m_X12_isMention 7 0 0 27 [(0, .ref 125), (1, .int l2)] [.int 3, .int v10] _ 0 0 _
          refine x_icge (tgt := 34) rfl rfl (ti_ge rfl jk_3 (br_f (by omega) ?_))
          refine x_iconst (v := 1) rfl ki_1 ?_
          refine x_goto (tgt := 35) rfl rfl ?_
          refine x_zret rfl rfl (by decide) ?_
          show jX m_X12_find 8 0 0 39 [(0, .ref 125), (1, .int l1), (2, .int l2)] [.int 1, .int l2, .ref 139] _ 0 0 _
          refine x_ifeq (tgt := 57) rfl rfl (ti_eq jk_1 jk_0 (br_f (by omega) ?_))
          refine x_aloadn (x := 125) rfl rfl ?_
          refine x_iloadn (x := l2) rfl rfl ?_
          refine x_iconst (v := 3) rfl ki_3 ?_
          refine z_idiv rfl rfl jk_3 (by omega) (by omega) (fun v31 ev31 => ?_)
          refine x_iloadn (x := l1) rfl rfl ?_
          refine x_inv (N := m_X12_isKnown) (As := [.int v31, .int l1]) (b := 125) (st := [.int l2, .ref 139]) (dx9 := 7) (mc := 0) (ms := 0) (host := "") 12 rfl t_X12_isKnown ⟨Or.inl q_12_383, i_X12_isKnown.1, i_X12_isKnown.2⟩ ⟨by decide, rfl⟩ (congrArg Prod.fst (J.1.1 125 (12, 92) rfl)) rfl (by decide) rfl rfl ⟨by decide, by decide⟩ (jC.of rfl k_X12_isKnown rfl ?_)
          show jX m_X12_isKnown 7 0 0 0 [(0, .ref 125), (1, .int v31), (2, .int l1)] [] _ 0 0 _
          refine x_aloadn (x := 125) rfl rfl ?_
          refine z_getR (N := 92) (b := 126) 12 2 rfl f_12_8 rfl J rfl 16002 ⟨rfl, rfl⟩ rfl ?_
          refine x_aloadn (x := 125) rfl rfl ?_
          refine x_iloadn (x := v31) rfl rfl ?_
          refine x_inv (N := m_X12_at) (As := [.int v31]) (b := 125) (st := [.ref 126]) (dx9 := 6) (mc := 0) (ms := 0) (host := "") 12 rfl t_X12_at ⟨Or.inl q_12_254, i_X12_at.1, i_X12_at.2⟩ ⟨by decide, rfl⟩ (congrArg Prod.fst (J.1.1 125 (12, 92) rfl)) rfl (by decide) rfl rfl ⟨by decide, by decide⟩ (jC.of rfl k_X12_at rfl ?_)
          show jX m_X12_at 6 0 0 0 [(0, .ref 125), (1, .int v31)] [] _ 0 0 _
          refine x_bipush (v := 20) rfl kb_20 ?_
          refine x_bipush (v := 90) rfl kb_90 ?_
          refine x_iloadn (x := v31) rfl rfl ?_
          refine z_imul rfl jk_90 rfl (by omega) (fun v32 ev32 => ?_)
          refine z_iadd rfl jk_20 rfl (by omega) (fun v33 ev33 => ?_)
          refine x_iret rfl rfl ?_
          show jX m_X12_isKnown 7 0 0 9 [(0, .ref 125), (1, .int v31), (2, .int l1)] [.int v33, .ref 126] _ 0 0 _
          refine x_iconst (v := 3) rfl ki_3 ?_
          refine z_iadd rfl rfl jk_3 (by omega) (fun v34 ev34 => ?_)
          refine z_iald (N := 50660) rfl J rfl sg_126_20_18020_90_3_4 rfl (by omega) (fun v35 qv35 ev35 => ?_)
          try rw [vrd qv35 (show ((20 + (90 * (l2.toInt / 3))) + 3) = v34.toInt from by omega)] at D
          refine x_iloadn (x := l1) rfl rfl ?_
          refine x_icgt (tgt := 20) rfl rfl (ti_gt rfl rfl ⟨fun c36 => ?_, fun c36 => ?_⟩)
          ·
            rw [if_pos (by omega)] at D
            refine x_iconst (v := 0) rfl ki_0 ?_
            refine x_zret rfl rfl (by decide) ?_
            show jX m_X12_find 8 0 0 50 [(0, .ref 125), (1, .int l1), (2, .int l2)] [.int 0, .int l2, .ref 139] _ 0 0 _
            refine x_ifeq (tgt := 57) rfl rfl (ti_eq jk_0 jk_0 (br_t (by omega) ?_))
            exact jX.sub (jsb_c rfl (jsb_c rfl (jsb_c rfl jsb_n))) (ct_X12_find_r125d_57 hD hQ ih l1 l2 l2 g0 h (jr_of rfl (by omega)) (jr_of rfl (by omega)) (jr_of rfl (by omega)) (jr_of rfl (by omega)) z0 (by omega) J Sm D)
          ·
            rw [if_neg (by omega)] at D
            refine x_iconst (v := 1) rfl ki_1 ?_
            refine x_goto (tgt := 21) rfl rfl ?_
            refine x_zret rfl rfl (by decide) ?_
            show jX m_X12_find 8 0 0 50 [(0, .ref 125), (1, .int l1), (2, .int l2)] [.int 1, .int l2, .ref 139] _ 0 0 _
            refine x_ifeq (tgt := 57) rfl rfl (ti_eq jk_1 jk_0 (br_f (by omega) ?_))
            refine x_iloadn (x := l2) rfl rfl ?_
            refine x_goto (tgt := 58) rfl rfl ?_
            exact jX.sub (jsb_c rfl (jsb_c rfl (jsb_c rfl jsb_n))) (ct_X12_find_r125d_58 hD hQ ih l1 l2 l2 l2 g0 h (jr_of rfl (by omega)) (jr_of rfl (by omega)) (jr_of rfl (by omega)) (jr_of rfl (by omega)) (jr_of rfl (by omega)) z0 (by omega) J Sm D)
set_option maxRecDepth 100000 in
set_option maxHeartbeats 4000000 in
theorem sf_X12_find_r125d {Dy : jH → Prop} {h : jH} {Q : Option Value → jH → Prop} {dr : jW} {a1 : Int32} (y1 : 0 ≤ a1.toInt ∧ a1.toInt ≤ 146399) (hD : jDk Dy) (J : jJ jSgM Dy h) (D : d_X12_find_r125d a1.toInt (vw h) = dr) (hQ : ∀ hx9, jJ jSgM Dy hx9 → jSm fp_X12_find_r125d h hx9 → dr = vw hx9 → Q none hx9) : jC m_X12_find 8 0 0 [.ref 125, .int a1] h Q := by
  refine jC.of rfl k_X12_find rfl ?_
  have Sm := jSm_rf fp_X12_find_r125d h
  show jX m_X12_find 8 0 0 0 [(0, .ref 125), (1, .int a1)] [] _ 0 0 _
  unfold d_X12_find_r125d at D
  refine x_aloadn (x := 125) rfl rfl ?_
  refine x_iloadn (x := a1) rfl rfl ?_
  refine z_putI (N := 92) (w := a1.toInt) 12 28 rfl f_12_377 rfl (jfin_no TX12 RX12 92 rfl rfl) hD J Sm rfl rfl rfl (pw_125_28 (by omega)) rfl (fun h w1 J Sm => ?_)
  rw [vwf w1 (show a1.toInt = a1.toInt from by omega)] at D
  refine x_aloadn (x := 125) rfl rfl ?_
  refine x_iconst (v := 0) rfl ki_0 ?_
  refine z_putI (N := 92) (w := 0) 12 31 rfl f_12_380 rfl (jfin_no TX12 RX12 92 rfl rfl) hD J Sm rfl rfl jk_0 (pw_125_31 (by omega)) rfl (fun h w2 J Sm => ?_)
  rw [vwf w2 (show 0 = (0 : Int32).toInt from by have := jk_0; omega)] at D
  refine x_aloadn (x := 125) rfl rfl ?_
  refine x_iconst (v := (-1)) rfl ki_m1 ?_
  refine z_putI (N := 92) (w := (-1)) 12 57 rfl f_12_111 rfl (jfin_no TX12 RX12 92 rfl rfl) hD J Sm rfl rfl jk_m1 (pw_125_57 (by omega)) rfl (fun h w3 J Sm => ?_)
  rw [vwf w3 (show (-1) = ((-1) : Int32).toInt from by have := jk_m1; omega)] at D
  refine x_iconst (v := 0) rfl ki_0 ?_
  refine x_istoren (lsx9 := [(2, .int 0), (0, .ref 125), (1, .int a1)]) rfl rfl rfl ?_
  exact jX.sub (jsb_c rfl (jsb_c rfl (jsb_c rfl jsb_n))) (ct_X12_find_r125d_17 hD hQ  601 a1 0 0 h (by have := jk_0; omega) (jr_of rfl (by omega)) (jr_of jk_0 (by omega)) (jr_of jk_0 (by omega)) (jmo w3 rfl (jmw w2)) J Sm (by rw [jk_0]; exact D))
def fp_X12_about_r125d : jFp := [(125, 0, 1), (125, 28, 29), (125, 31, 32), (125, 32, 33), (125, 33, 34), (125, 34, 35), (125, 35, 36), (125, 57, 58), (137, 0, 80), (138, 0, 2), (139, 0, 600), (140, 0, 200), (162, 0, 40), (163, 0, 40), (164, 0, 40)]
set_option maxRecDepth 100000 in
set_option maxHeartbeats 4000000 in
theorem ct_X12_about_r125d_5000054 {Dy : jH → Prop} {h0 : jH} {Q : Option Value → jH → Prop} {dr : (Int × jW)} (hD : jDk Dy) (hQ : ∀ (v : Int64) hx9, jJ jSgM Dy hx9 → jSm fp_X12_about_r125d h0 hx9 → dr.1 = v.toInt → dr.2 = vw hx9 → Q (some (.long v)) hx9) : ∀ (h : jH), jJ jSgM Dy h → jSm fp_X12_about_r125d h0 h → d_X12_about_r125d_5000054  (vw h) = dr → jX m_X12_about 10 0 0 54 [] [.long (-1)] h 0 0 Q := by
  intro  h    J Sm D
  unfold d_X12_about_r125d_5000054 at D
  refine x_lret rfl rfl ?_
  exact hQ _ _ J Sm ((congrArg Prod.fst D).symm.trans (show (-1) = ((-1) : Int64).toInt from by have := jkl_m1; omega)) (congrArg Prod.snd D).symm
set_option maxRecDepth 100000 in
set_option maxHeartbeats 4000000 in
theorem ct_X12_about_r125d_54 {Dy : jH → Prop} {h0 : jH} {Q : Option Value → jH → Prop} {dr : (Int × jW)} (hD : jDk Dy) (hQ : ∀ (v : Int64) hx9, jJ jSgM Dy hx9 → jSm fp_X12_about_r125d h0 hx9 → dr.1 = v.toInt → dr.2 = vw hx9 → Q (some (.long v)) hx9) : ∀ (s0 : Int64) (h : jH), jJ jSgM Dy h → jSm fp_X12_about_r125d h0 h → d_X12_about_r125d_54  s0.toInt (vw h) = dr → jX m_X12_about 10 0 0 54 [] [.long s0] h 0 0 Q := by
  intro s0 h    J Sm D
  have es0 := jfullL s0
  unfold d_X12_about_r125d_54 at D
  refine x_lret rfl rfl ?_
  exact hQ _ _ J Sm ((congrArg Prod.fst D).symm.trans (show s0.toInt = s0.toInt from by omega)) (congrArg Prod.snd D).symm
set_option maxRecDepth 100000 in
set_option maxHeartbeats 4000000 in
theorem ct_X12_about_r125d_39 {Dy : jH → Prop} {h0 : jH} {Q : Option Value → jH → Prop} {dr : (Int × jW)} (hD : jDk Dy) (hQ : ∀ (v : Int64) hx9, jJ jSgM Dy hx9 → jSm fp_X12_about_r125d h0 hx9 → dr.1 = v.toInt → dr.2 = vw hx9 → Q (some (.long v)) hx9) : ∀ (h : jH), jJ jSgM Dy h → jSm fp_X12_about_r125d h0 h → d_X12_about_r125d_39  (vw h) = dr → jX m_X12_about 10 0 0 39 [] [] h 0 0 Q := by
  intro  h    J Sm D
  unfold d_X12_about_r125d_39 at D
  refine x_ldc2 (v := (-1)) rfl z_12_242 ?_
  refine x_goto (tgt := 54) rfl rfl ?_
  exact jX.sub jsb_n (ct_X12_about_r125d_5000054 hD hQ  h J Sm D)
set_option maxRecDepth 100000 in
set_option maxHeartbeats 4000000 in
theorem sf_X12_about_r125d {Dy : jH → Prop} {h : jH} {Q : Option Value → jH → Prop} {dr : (Int × jW)} {a1 : Int32} {a2 : Int32} {a3 : Int32} {a4 : Int32} (hD : jDk Dy) (J : jJ jSgM Dy h) (D : d_X12_about_r125d a1.toInt a2.toInt a3.toInt a4.toInt (vw h) = dr) (hQ : ∀ (v : Int64) hx9, jJ jSgM Dy hx9 → jSm fp_X12_about_r125d h hx9 → dr.1 = v.toInt → dr.2 = vw hx9 → Q (some (.long v)) hx9) : jC m_X12_about 10 0 0 [.ref 125, .int a1, .int a2, .int a3, .int a4] h Q := by
  refine jC.of rfl k_X12_about rfl ?_
  have Sm := jSm_rf fp_X12_about_r125d h
  have ea1 := jfull a1
  have ea2 := jfull a2
  have ea3 := jfull a3
  have ea4 := jfull a4
  show jX m_X12_about 10 0 0 0 [(0, .ref 125), (1, .int a1), (2, .int a2), (3, .int a3), (4, .int a4)] [] _ 0 0 _
  unfold d_X12_about_r125d at D
  refine x_aloadn (x := 125) rfl rfl ?_
  refine x_iconst (v := 0) rfl ki_0 ?_
  refine z_putI (N := 92) (w := 0) 12 0 rfl f_12_180 rfl (jfin_no TX12 RX12 92 rfl rfl) hD J Sm rfl rfl jk_0 (pw_125_0 (by omega)) rfl (fun h w1 J Sm => ?_)
  rw [vwf w1 (show 0 = (0 : Int32).toInt from by have := jk_0; omega)] at D
  refine x_aloadn (x := 125) rfl rfl ?_
  refine x_iloadn (x := a1) rfl rfl ?_
  refine x_iloadn (x := a3) rfl rfl ?_
  refine x_inv (N := m_X12_soulAt) (As := [.int a1, .int a3]) (b := 125) (st := []) (dx9 := 9) (mc := 0) (ms := 0) (host := "") 12 rfl t_X12_soulAt ⟨Or.inl q_12_399, i_X12_soulAt.1, i_X12_soulAt.2⟩ ⟨by decide, rfl⟩ (congrArg Prod.fst (J.1.1 125 (12, 92) rfl)) rfl (by decide) rfl rfl ⟨by decide, by decide⟩ (jC.of rfl k_X12_soulAt rfl ?_)
  show jX m_X12_soulAt 9 0 0 0 [(0, .ref 125), (1, .int a1), (2, .int a3)] [] _ 0 0 _
  refine x_aloadn (x := 125) rfl rfl ?_
  refine x_iloadn (x := a1) rfl rfl ?_
  refine x_inv (N := m_X12_isMention) (As := [.int a1]) (b := 125) (st := []) (dx9 := 8) (mc := 0) (ms := 0) (host := "") 12 rfl t_X12_isMention ⟨Or.inl q_12_322, i_X12_isMention.1, i_X12_isMention.2⟩ ⟨by decide, rfl⟩ (congrArg Prod.fst (J.1.1 125 (12, 92) rfl)) rfl (by decide) rfl rfl ⟨by decide, by decide⟩ (jC.of rfl k_X12_isMention rfl ?_)
  show jX m_X12_isMention 8 0 0 0 [(0, .ref 125), (1, .int a1)] [] _ 0 0 _
  refine x_iloadn (x := a1) rfl rfl ?_
  refine x_iflt (tgt := 34) rfl rfl (ti_lt rfl jk_0 ⟨fun c2 => ?_, fun c2 => ?_⟩)
  ·
    rw [if_pos (by omega)] at D
    refine x_iconst (v := 0) rfl ki_0 ?_
    refine x_zret rfl rfl (by decide) ?_
    show jX m_X12_soulAt 9 0 0 5 [(0, .ref 125), (1, .int a1), (2, .int a3)] [.int 0] _ 0 0 _
    refine x_ifeq (tgt := 15) rfl rfl (ti_eq jk_0 jk_0 (br_t (by omega) ?_))
    refine x_iconst (v := (-1)) rfl ki_m1 ?_
    refine x_iret rfl rfl ?_
    show jX m_X12_about 10 0 0 11 [(0, .ref 125), (1, .int a1), (2, .int a2), (3, .int a3), (4, .int a4)] [.int (-1)] _ 0 0 _
    refine x_istore (lsx9 := [(5, .int (-1)), (0, .ref 125), (1, .int a1), (2, .int a2), (3, .int a3), (4, .int a4)]) rfl rfl rfl ?_
    refine x_iload (x := (-1)) rfl rfl ?_
    refine x_iconst (v := (-1)) rfl ki_m1 ?_
    refine x_iceq (tgt := 39) rfl rfl (ti_eq jk_m1 jk_m1 (br_t (by omega) ?_))
    exact jX.sub jsb_n (ct_X12_about_r125d_39 hD hQ  h J Sm D)
  ·
    rw [if_neg (by omega)] at D
    refine x_aloadn (x := 125) rfl rfl ?_
    refine x_iloadn (x := a1) rfl rfl ?_
    refine x_iconst (v := 3) rfl ki_3 ?_
    refine z_idiv rfl rfl jk_3 (by omega) (by omega) (fun v3 ev3 => ?_)
    refine x_inv (N := m_X12_isLine) (As := [.int v3]) (b := 125) (st := []) (dx9 := 7) (mc := 0) (ms := 0) (host := "") 12 rfl t_X12_isLine ⟨Or.inl q_12_293, i_X12_isLine.1, i_X12_isLine.2⟩ ⟨by decide, rfl⟩ (congrArg Prod.fst (J.1.1 125 (12, 92) rfl)) rfl (by decide) rfl rfl ⟨by decide, by decide⟩ (jC.of rfl k_X12_isLine rfl ?_)
    show jX m_X12_isLine 7 0 0 0 [(0, .ref 125), (1, .int v3)] [] _ 0 0 _
    refine x_iloadn (x := v3) rfl rfl ?_
    refine z_i2l rfl rfl (fun v4 ev4 => ?_)
    refine x_lconst (v := 0) rfl kl_0 ?_
    refine x_aloadn (x := 125) rfl rfl ?_
    refine z_getR (N := 92) (b := 126) 12 2 rfl f_12_8 rfl J rfl 16002 ⟨rfl, rfl⟩ rfl ?_
    refine x_iconst (v := 0) rfl ki_0 ?_
    refine z_iald (N := 50660) rfl J rfl sg_126_0_1_1_0_1 jk_0 (by omega) (fun v5 qv5 ev5 => ?_)
    try rw [vrn (n := 0) (by decide) (jmb_w w1 qv5 rfl)] at D
    refine z_i2l rfl rfl (fun v6 ev6 => ?_)
    refine x_lconst (v := 1) rfl kl_1 ?_
    refine z_lsub rfl rfl jkl_1 (by omega) (fun v7 ev7 => ?_)
    refine x_inst (N := m_X12_in) (As := [.long v4, .long 0, .long v7]) (st := []) (dx9 := 1) (mc := 0) (ms := 0) (host := "") rfl t_X12_in ⟨Or.inl q_12_188, s_X12_in⟩ rfl (by decide) rfl rfl ⟨by decide, by decide⟩ (zc_X12_in rfl jkl_0 rfl (fun v8 ev8 => ?_))
    show jX m_X12_isLine 7 0 0 15 [(0, .ref 125), (1, .int v3)] [.int v8] _ 0 0 _
    refine x_zret rfl rfl (jz01 (by omega)) ?_
    show jX m_X12_isMention 8 0 0 11 [(0, .ref 125), (1, .int a1)] [.int v8] _ 0 0 _
    refine x_ifeq (tgt := 34) rfl rfl (ti_eq rfl jk_0 ⟨fun c9 => ?_, fun c9 => ?_⟩)
    ·
      rw [if_neg (by omega)] at D
      refine x_iconst (v := 0) rfl ki_0 ?_
      refine x_zret rfl rfl (by decide) ?_
      show jX m_X12_soulAt 9 0 0 5 [(0, .ref 125), (1, .int a1), (2, .int a3)] [.int 0] _ 0 0 _
      refine x_ifeq (tgt := 15) rfl rfl (ti_eq jk_0 jk_0 (br_t (by omega) ?_))
      refine x_iconst (v := (-1)) rfl ki_m1 ?_
      refine x_iret rfl rfl ?_
      show jX m_X12_about 10 0 0 11 [(0, .ref 125), (1, .int a1), (2, .int a2), (3, .int a3), (4, .int a4)] [.int (-1)] _ 0 0 _
      refine x_istore (lsx9 := [(5, .int (-1)), (0, .ref 125), (1, .int a1), (2, .int a2), (3, .int a3), (4, .int a4)]) rfl rfl rfl ?_
      refine x_iload (x := (-1)) rfl rfl ?_
      refine x_iconst (v := (-1)) rfl ki_m1 ?_
      refine x_iceq (tgt := 39) rfl rfl (ti_eq jk_m1 jk_m1 (br_t (by omega) ?_))
      exact jX.sub jsb_n (ct_X12_about_r125d_39 hD hQ  h J Sm D)
    ·
      rw [if_pos (by omega)] at D
      refine x_iloadn (x := a1) rfl rfl ?_
      refine x_iconst (v := 3) rfl ki_3 ?_
      refine z_irem rfl rfl jk_3 (by omega) (by omega) (fun v10 ev10 => ?_)
      refine x_aloadn (x := 125) rfl rfl ?_
      refine x_iloadn (x := a1) rfl rfl ?_
      refine x_iconst (v := 3) rfl ki_3 ?_
      refine z_idiv rfl rfl jk_3 (by omega) (by omega) (fun v11 ev11 => ?_)
      refine x_inv (N := m_X12_bookOf) (As := [.int v11]) (b := 125) (st := [.int v10]) (dx9 := 7) (mc := 0) (ms := 0) (host := "") 12 rfl t_X12_bookOf ⟨Or.inl q_12_299, i_X12_bookOf.1, i_X12_bookOf.2⟩ ⟨by decide, rfl⟩ (congrArg Prod.fst (J.1.1 125 (12, 92) rfl)) rfl (by decide) rfl rfl ⟨by decide, by decide⟩ (jC.of rfl k_X12_bookOf rfl ?_)
      show jX m_X12_bookOf 7 0 0 0 [(0, .ref 125), (1, .int v11)] [] _ 0 0 _
      refine x_aloadn (x := 125) rfl rfl ?_
      refine z_getR (N := 92) (b := 126) 12 2 rfl f_12_8 rfl J rfl 16002 ⟨rfl, rfl⟩ rfl ?_
      refine x_aloadn (x := 125) rfl rfl ?_
      refine x_iloadn (x := v11) rfl rfl ?_
      refine x_inv (N := m_X12_at) (As := [.int v11]) (b := 125) (st := [.ref 126]) (dx9 := 6) (mc := 0) (ms := 0) (host := "") 12 rfl t_X12_at ⟨Or.inl q_12_254, i_X12_at.1, i_X12_at.2⟩ ⟨by decide, rfl⟩ (congrArg Prod.fst (J.1.1 125 (12, 92) rfl)) rfl (by decide) rfl rfl ⟨by decide, by decide⟩ (jC.of rfl k_X12_at rfl ?_)
      show jX m_X12_at 6 0 0 0 [(0, .ref 125), (1, .int v11)] [] _ 0 0 _
      refine x_bipush (v := 20) rfl kb_20 ?_
      refine x_bipush (v := 90) rfl kb_90 ?_
      refine x_iloadn (x := v11) rfl rfl ?_
      refine z_imul rfl jk_90 rfl (by omega) (fun v12 ev12 => ?_)
      refine z_iadd rfl jk_20 rfl (by omega) (fun v13 ev13 => ?_)
      refine x_iret rfl rfl ?_
      show jX m_X12_bookOf 7 0 0 9 [(0, .ref 125), (1, .int v11)] [.int v13, .ref 126] _ 0 0 _
      refine z_iald (N := 50660) rfl J rfl sg_126_20_18020_90_0_1 rfl (by omega) (fun v14 qv14 ev14 => ?_)
      try rw [vrd (jmb_w w1 qv14 rfl) (show (20 + (90 * (a1.toInt / 3))) = v13.toInt from by omega)] at D
      refine x_iret rfl rfl ?_
      show jX m_X12_isMention 8 0 0 24 [(0, .ref 125), (1, .int a1)] [.int v14, .int v10] _ 0 0 _
      refine x_inst (N := m_X12_rolesOf) (As := [.int v14]) (st := [.int v10]) (dx9 := 7) (mc := 0) (ms := 0) (host := "") rfl t_X12_rolesOf ⟨Or.inl q_12_286, s_X12_rolesOf⟩ rfl (by decide) rfl rfl ⟨by decide, by decide⟩ (jC.of rfl k_X12_rolesOf rfl ?_)
      show jX m_X12_rolesOf 7 0 0 0 [(0, .int v14)] [] _ 0 0 _
      refine x_iloadn (x := v14) rfl rfl ?_
      refine x_ifne (tgt := 8) rfl rfl (ti_ne rfl jk_0 ⟨fun c15 => ?_, fun c15 => ?_⟩)
      ·
        rw [if_neg (by omega)] at D
        refine x_iloadn (x := v14) rfl rfl ?_
        refine x_iconst (v := 1) rfl ki_1 ?_
        refine x_icne (tgt := 17) rfl rfl (ti_ne rfl jk_1 ⟨fun c16 => ?_, fun c16 => ?_⟩)
        ·
          rw [if_neg (by omega)] at D
          refine x_iconst (v := 1) rfl ki_1 ?_
          refine x_iret rfl rfl ?_
          show jX m_X12_isMention 8 0 0 27 [(0, .ref 125), (1, .int a1)] [.int 1, .int v10] _ 0 0 _
          refine x_icge (tgt := 34) rfl rfl (ti_ge rfl jk_1 ⟨fun c17 => ?_, fun c17 => ?_⟩)
          ·
            rw [if_pos (by omega)] at D
            refine x_iconst (v := 0) rfl ki_0 ?_
            refine x_zret rfl rfl (by decide) ?_
            show jX m_X12_soulAt 9 0 0 5 [(0, .ref 125), (1, .int a1), (2, .int a3)] [.int 0] _ 0 0 _
            refine x_ifeq (tgt := 15) rfl rfl (ti_eq jk_0 jk_0 (br_t (by omega) ?_))
            refine x_iconst (v := (-1)) rfl ki_m1 ?_
            refine x_iret rfl rfl ?_
            show jX m_X12_about 10 0 0 11 [(0, .ref 125), (1, .int a1), (2, .int a2), (3, .int a3), (4, .int a4)] [.int (-1)] _ 0 0 _
            refine x_istore (lsx9 := [(5, .int (-1)), (0, .ref 125), (1, .int a1), (2, .int a2), (3, .int a3), (4, .int a4)]) rfl rfl rfl ?_
            refine x_iload (x := (-1)) rfl rfl ?_
            refine x_iconst (v := (-1)) rfl ki_m1 ?_
            refine x_iceq (tgt := 39) rfl rfl (ti_eq jk_m1 jk_m1 (br_t (by omega) ?_))
            exact jX.sub jsb_n (ct_X12_about_r125d_39 hD hQ  h J Sm D)
          ·
            rw [if_neg (by omega)] at D
            refine x_iconst (v := 1) rfl ki_1 ?_
            refine x_goto (tgt := 35) rfl rfl ?_
            refine x_zret rfl rfl (by decide) ?_
            show jX m_X12_soulAt 9 0 0 5 [(0, .ref 125), (1, .int a1), (2, .int a3)] [.int 1] _ 0 0 _
            refine x_ifeq (tgt := 15) rfl rfl (ti_eq jk_1 jk_0 (br_f (by omega) ?_))
            refine x_iloadn (x := a3) rfl rfl ?_
            refine x_inst (N := m_X12_isDay) (As := [.int a3]) (st := []) (dx9 := 2) (mc := 0) (ms := 0) (host := "") rfl t_X12_isDay ⟨Or.inl q_12_273, s_X12_isDay⟩ rfl (by decide) rfl rfl ⟨by decide, by decide⟩ (zc_X12_isDay (d := 1) rfl (fun v18 ev18 => ?_))
            show jX m_X12_soulAt 9 0 0 12 [(0, .ref 125), (1, .int a1), (2, .int a3)] [.int v18] _ 0 0 _
            refine x_ifne (tgt := 17) rfl rfl (ti_ne rfl jk_0 ⟨fun c19 => ?_, fun c19 => ?_⟩)
            ·
              rw [if_pos (by omega)] at D
              refine x_aloadn (x := 125) rfl rfl ?_
              refine x_iloadn (x := a3) rfl rfl ?_
              refine x_inv (N := m_X12_find) (As := [.int a3]) (b := 125) (st := []) (dx9 := 8) (mc := 0) (ms := 0) (host := "") 12 rfl t_X12_find ⟨Or.inl q_12_393, i_X12_find.1, i_X12_find.2⟩ ⟨by decide, rfl⟩ (congrArg Prod.fst (J.1.1 125 (12, 92) rfl)) rfl (by decide) rfl rfl ⟨by decide, by decide⟩ (sf_X12_find_r125d (jr_of rfl (by omega)) hD J rfl  (fun h J S20 X21 => ?_))
              have Sm := jSm_tr rfl Sm S20
              rw [X21] at D
              show jX m_X12_soulAt 9 0 0 22 [(0, .ref 125), (1, .int a1), (2, .int a3)] [] _ 0 0 _
              refine x_aloadn (x := 125) rfl rfl ?_
              refine z_getR (N := 92) (b := 139) 12 29 rfl f_12_72 rfl J rfl 16029 ⟨rfl, rfl⟩ rfl ?_
              refine x_iloadn (x := a1) rfl rfl ?_
              refine z_iald (N := 600) rfl J rfl sg_139_0_600_1_0_1 rfl (by omega) (fun v22 qv22 ev22 => ?_)
              try rw [vrd qv22 (show a1.toInt = a1.toInt from by omega)] at D
              refine x_iret rfl rfl ?_
              show jX m_X12_about 10 0 0 11 [(0, .ref 125), (1, .int a1), (2, .int a2), (3, .int a3), (4, .int a4)] [.int v22] _ 0 0 _
              refine x_istore (lsx9 := [(5, .int v22), (0, .ref 125), (1, .int a1), (2, .int a2), (3, .int a3), (4, .int a4)]) rfl rfl rfl ?_
              refine x_iload (x := v22) rfl rfl ?_
              refine x_iconst (v := (-1)) rfl ki_m1 ?_
              refine x_iceq (tgt := 39) rfl rfl (ti_eq rfl jk_m1 ⟨fun c23 => ?_, fun c23 => ?_⟩)
              ·
                rw [if_pos (by omega)] at D
                exact jX.sub jsb_n (ct_X12_about_r125d_39 hD hQ  h J Sm D)
              ·
                rw [if_neg (by omega)] at D
                refine x_iloadn (x := a2) rfl rfl ?_
                refine x_inst (N := m_X12_isDay) (As := [.int a2]) (st := []) (dx9 := 2) (mc := 0) (ms := 0) (host := "") rfl t_X12_isDay ⟨Or.inl q_12_273, s_X12_isDay⟩ rfl (by decide) rfl rfl ⟨by decide, by decide⟩ (zc_X12_isDay (d := 1) rfl (fun v24 ev24 => ?_))
                show jX m_X12_about 10 0 0 23 [(5, .int v22), (0, .ref 125), (1, .int a1), (2, .int a2), (3, .int a3), (4, .int a4)] [.int v24] _ 0 0 _
                refine x_ifeq (tgt := 39) rfl rfl (ti_eq rfl jk_0 ⟨fun c25 => ?_, fun c25 => ?_⟩)
                ·
                  rw [if_neg (by omega)] at D
                  exact jX.sub jsb_n (ct_X12_about_r125d_39 hD hQ  h J Sm D)
                ·
                  rw [if_pos (by omega)] at D
                  refine x_iload (x := a4) rfl rfl ?_
                  refine z_i2l rfl rfl (fun v26 ev26 => ?_)
                  refine x_lconst (v := 0) rfl kl_0 ?_
                  refine x_ldc2 (v := 9) rfl z_12_505 ?_
                  refine x_inst (N := m_X12_in) (As := [.long v26, .long 0, .long 9]) (st := []) (dx9 := 1) (mc := 0) (ms := 0) (host := "") rfl t_X12_in ⟨Or.inl q_12_188, s_X12_in⟩ rfl (by decide) rfl rfl ⟨by decide, by decide⟩ (zc_X12_in rfl jkl_0 jkl_9 (fun v27 ev27 => ?_))
                  show jX m_X12_about 10 0 0 36 [(5, .int v22), (0, .ref 125), (1, .int a1), (2, .int a2), (3, .int a3), (4, .int a4)] [.int v27] _ 0 0 _
                  refine x_ifne (tgt := 45) rfl rfl (ti_ne rfl jk_0 ⟨fun c28 => ?_, fun c28 => ?_⟩)
                  ·
                    rw [if_pos (by omega)] at D
                    refine x_aloadn (x := 125) rfl rfl ?_
                    refine x_iload (x := v22) rfl rfl ?_
                    refine x_iloadn (x := a2) rfl rfl ?_
                    refine x_iload (x := a4) rfl rfl ?_
                    refine x_inv (N := m_X12_fact2) (As := [.int v22, .int a2, .int a4]) (b := 125) (st := []) (dx9 := 8) (mc := 0) (ms := 0) (host := "") 12 rfl t_X12_fact2 ⟨Or.inl q_12_722, i_X12_fact2.1, i_X12_fact2.2⟩ ⟨by decide, rfl⟩ (congrArg Prod.fst (J.1.1 125 (12, 92) rfl)) rfl (by decide) rfl rfl ⟨by decide, by decide⟩ (sf_X12_fact2_r125d (jr_of rfl (by omega)) (jr_of rfl (by omega)) hD J rfl  (fun v32 h J S29 X30 X31 => ?_))
                    have ev32 := jfullL v32
                    have Sm := jSm_tr rfl Sm S29
                    try rw [X30] at D
                    try rw [X31] at D
                    show jX m_X12_about 10 0 0 54 [(5, .int v22), (0, .ref 125), (1, .int a1), (2, .int a2), (3, .int a3), (4, .int a4)] [.long v32] _ 0 0 _
                    exact jX.sub jsb_n (ct_X12_about_r125d_54 hD hQ  v32 h J Sm D)
                  ·
                    rw [if_neg (by omega)] at D
                    exact jX.sub jsb_n (ct_X12_about_r125d_39 hD hQ  h J Sm D)
            ·
              rw [if_neg (by omega)] at D
              refine x_iconst (v := (-1)) rfl ki_m1 ?_
              refine x_iret rfl rfl ?_
              show jX m_X12_about 10 0 0 11 [(0, .ref 125), (1, .int a1), (2, .int a2), (3, .int a3), (4, .int a4)] [.int (-1)] _ 0 0 _
              refine x_istore (lsx9 := [(5, .int (-1)), (0, .ref 125), (1, .int a1), (2, .int a2), (3, .int a3), (4, .int a4)]) rfl rfl rfl ?_
              refine x_iload (x := (-1)) rfl rfl ?_
              refine x_iconst (v := (-1)) rfl ki_m1 ?_
              refine x_iceq (tgt := 39) rfl rfl (ti_eq jk_m1 jk_m1 (br_t (by omega) ?_))
              exact jX.sub jsb_n (ct_X12_about_r125d_39 hD hQ  h J Sm D)
        ·
          rw [if_pos (by omega)] at D
          refine x_iconst (v := 2) rfl ki_2 ?_
          refine x_goto (tgt := 18) rfl rfl ?_
          refine x_iret rfl rfl ?_
          show jX m_X12_isMention 8 0 0 27 [(0, .ref 125), (1, .int a1)] [.int 2, .int v10] _ 0 0 _
          refine x_icge (tgt := 34) rfl rfl (ti_ge rfl jk_2 ⟨fun c33 => ?_, fun c33 => ?_⟩)
          ·
            rw [if_pos (by omega)] at D
            refine x_iconst (v := 0) rfl ki_0 ?_
            refine x_zret rfl rfl (by decide) ?_
            show jX m_X12_soulAt 9 0 0 5 [(0, .ref 125), (1, .int a1), (2, .int a3)] [.int 0] _ 0 0 _
            refine x_ifeq (tgt := 15) rfl rfl (ti_eq jk_0 jk_0 (br_t (by omega) ?_))
            refine x_iconst (v := (-1)) rfl ki_m1 ?_
            refine x_iret rfl rfl ?_
            show jX m_X12_about 10 0 0 11 [(0, .ref 125), (1, .int a1), (2, .int a2), (3, .int a3), (4, .int a4)] [.int (-1)] _ 0 0 _
            refine x_istore (lsx9 := [(5, .int (-1)), (0, .ref 125), (1, .int a1), (2, .int a2), (3, .int a3), (4, .int a4)]) rfl rfl rfl ?_
            refine x_iload (x := (-1)) rfl rfl ?_
            refine x_iconst (v := (-1)) rfl ki_m1 ?_
            refine x_iceq (tgt := 39) rfl rfl (ti_eq jk_m1 jk_m1 (br_t (by omega) ?_))
            exact jX.sub jsb_n (ct_X12_about_r125d_39 hD hQ  h J Sm D)
          ·
            rw [if_neg (by omega)] at D
            refine x_iconst (v := 1) rfl ki_1 ?_
            refine x_goto (tgt := 35) rfl rfl ?_
            refine x_zret rfl rfl (by decide) ?_
            show jX m_X12_soulAt 9 0 0 5 [(0, .ref 125), (1, .int a1), (2, .int a3)] [.int 1] _ 0 0 _
            refine x_ifeq (tgt := 15) rfl rfl (ti_eq jk_1 jk_0 (br_f (by omega) ?_))
            refine x_iloadn (x := a3) rfl rfl ?_
            refine x_inst (N := m_X12_isDay) (As := [.int a3]) (st := []) (dx9 := 2) (mc := 0) (ms := 0) (host := "") rfl t_X12_isDay ⟨Or.inl q_12_273, s_X12_isDay⟩ rfl (by decide) rfl rfl ⟨by decide, by decide⟩ (zc_X12_isDay (d := 1) rfl (fun v34 ev34 => ?_))
            show jX m_X12_soulAt 9 0 0 12 [(0, .ref 125), (1, .int a1), (2, .int a3)] [.int v34] _ 0 0 _
            refine x_ifne (tgt := 17) rfl rfl (ti_ne rfl jk_0 ⟨fun c35 => ?_, fun c35 => ?_⟩)
            ·
              rw [if_pos (by omega)] at D
              refine x_aloadn (x := 125) rfl rfl ?_
              refine x_iloadn (x := a3) rfl rfl ?_
              refine x_inv (N := m_X12_find) (As := [.int a3]) (b := 125) (st := []) (dx9 := 8) (mc := 0) (ms := 0) (host := "") 12 rfl t_X12_find ⟨Or.inl q_12_393, i_X12_find.1, i_X12_find.2⟩ ⟨by decide, rfl⟩ (congrArg Prod.fst (J.1.1 125 (12, 92) rfl)) rfl (by decide) rfl rfl ⟨by decide, by decide⟩ (sf_X12_find_r125d (jr_of rfl (by omega)) hD J rfl  (fun h J S36 X37 => ?_))
              have Sm := jSm_tr rfl Sm S36
              rw [X37] at D
              show jX m_X12_soulAt 9 0 0 22 [(0, .ref 125), (1, .int a1), (2, .int a3)] [] _ 0 0 _
              refine x_aloadn (x := 125) rfl rfl ?_
              refine z_getR (N := 92) (b := 139) 12 29 rfl f_12_72 rfl J rfl 16029 ⟨rfl, rfl⟩ rfl ?_
              refine x_iloadn (x := a1) rfl rfl ?_
              refine z_iald (N := 600) rfl J rfl sg_139_0_600_1_0_1 rfl (by omega) (fun v38 qv38 ev38 => ?_)
              try rw [vrd qv38 (show a1.toInt = a1.toInt from by omega)] at D
              refine x_iret rfl rfl ?_
              show jX m_X12_about 10 0 0 11 [(0, .ref 125), (1, .int a1), (2, .int a2), (3, .int a3), (4, .int a4)] [.int v38] _ 0 0 _
              refine x_istore (lsx9 := [(5, .int v38), (0, .ref 125), (1, .int a1), (2, .int a2), (3, .int a3), (4, .int a4)]) rfl rfl rfl ?_
              refine x_iload (x := v38) rfl rfl ?_
              refine x_iconst (v := (-1)) rfl ki_m1 ?_
              refine x_iceq (tgt := 39) rfl rfl (ti_eq rfl jk_m1 ⟨fun c39 => ?_, fun c39 => ?_⟩)
              ·
                rw [if_pos (by omega)] at D
                exact jX.sub jsb_n (ct_X12_about_r125d_39 hD hQ  h J Sm D)
              ·
                rw [if_neg (by omega)] at D
                refine x_iloadn (x := a2) rfl rfl ?_
                refine x_inst (N := m_X12_isDay) (As := [.int a2]) (st := []) (dx9 := 2) (mc := 0) (ms := 0) (host := "") rfl t_X12_isDay ⟨Or.inl q_12_273, s_X12_isDay⟩ rfl (by decide) rfl rfl ⟨by decide, by decide⟩ (zc_X12_isDay (d := 1) rfl (fun v40 ev40 => ?_))
                show jX m_X12_about 10 0 0 23 [(5, .int v38), (0, .ref 125), (1, .int a1), (2, .int a2), (3, .int a3), (4, .int a4)] [.int v40] _ 0 0 _
                refine x_ifeq (tgt := 39) rfl rfl (ti_eq rfl jk_0 ⟨fun c41 => ?_, fun c41 => ?_⟩)
                ·
                  rw [if_neg (by omega)] at D
                  exact jX.sub jsb_n (ct_X12_about_r125d_39 hD hQ  h J Sm D)
                ·
                  rw [if_pos (by omega)] at D
                  refine x_iload (x := a4) rfl rfl ?_
                  refine z_i2l rfl rfl (fun v42 ev42 => ?_)
                  refine x_lconst (v := 0) rfl kl_0 ?_
                  refine x_ldc2 (v := 9) rfl z_12_505 ?_
                  refine x_inst (N := m_X12_in) (As := [.long v42, .long 0, .long 9]) (st := []) (dx9 := 1) (mc := 0) (ms := 0) (host := "") rfl t_X12_in ⟨Or.inl q_12_188, s_X12_in⟩ rfl (by decide) rfl rfl ⟨by decide, by decide⟩ (zc_X12_in rfl jkl_0 jkl_9 (fun v43 ev43 => ?_))
                  show jX m_X12_about 10 0 0 36 [(5, .int v38), (0, .ref 125), (1, .int a1), (2, .int a2), (3, .int a3), (4, .int a4)] [.int v43] _ 0 0 _
                  refine x_ifne (tgt := 45) rfl rfl (ti_ne rfl jk_0 ⟨fun c44 => ?_, fun c44 => ?_⟩)
                  ·
                    rw [if_pos (by omega)] at D
                    refine x_aloadn (x := 125) rfl rfl ?_
                    refine x_iload (x := v38) rfl rfl ?_
                    refine x_iloadn (x := a2) rfl rfl ?_
                    refine x_iload (x := a4) rfl rfl ?_
                    refine x_inv (N := m_X12_fact2) (As := [.int v38, .int a2, .int a4]) (b := 125) (st := []) (dx9 := 8) (mc := 0) (ms := 0) (host := "") 12 rfl t_X12_fact2 ⟨Or.inl q_12_722, i_X12_fact2.1, i_X12_fact2.2⟩ ⟨by decide, rfl⟩ (congrArg Prod.fst (J.1.1 125 (12, 92) rfl)) rfl (by decide) rfl rfl ⟨by decide, by decide⟩ (sf_X12_fact2_r125d (jr_of rfl (by omega)) (jr_of rfl (by omega)) hD J rfl  (fun v48 h J S45 X46 X47 => ?_))
                    have ev48 := jfullL v48
                    have Sm := jSm_tr rfl Sm S45
                    try rw [X46] at D
                    try rw [X47] at D
                    show jX m_X12_about 10 0 0 54 [(5, .int v38), (0, .ref 125), (1, .int a1), (2, .int a2), (3, .int a3), (4, .int a4)] [.long v48] _ 0 0 _
                    exact jX.sub jsb_n (ct_X12_about_r125d_54 hD hQ  v48 h J Sm D)
                  ·
                    rw [if_neg (by omega)] at D
                    exact jX.sub jsb_n (ct_X12_about_r125d_39 hD hQ  h J Sm D)
            ·
              rw [if_neg (by omega)] at D
              refine x_iconst (v := (-1)) rfl ki_m1 ?_
              refine x_iret rfl rfl ?_
              show jX m_X12_about 10 0 0 11 [(0, .ref 125), (1, .int a1), (2, .int a2), (3, .int a3), (4, .int a4)] [.int (-1)] _ 0 0 _
              refine x_istore (lsx9 := [(5, .int (-1)), (0, .ref 125), (1, .int a1), (2, .int a2), (3, .int a3), (4, .int a4)]) rfl rfl rfl ?_
              refine x_iload (x := (-1)) rfl rfl ?_
              refine x_iconst (v := (-1)) rfl ki_m1 ?_
              refine x_iceq (tgt := 39) rfl rfl (ti_eq jk_m1 jk_m1 (br_t (by omega) ?_))
              exact jX.sub jsb_n (ct_X12_about_r125d_39 hD hQ  h J Sm D)
      ·
        rw [if_pos (by omega)] at D
        refine x_iconst (v := 3) rfl ki_3 ?_
        refine x_goto (tgt := 18) rfl rfl ?_
        refine x_iret rfl rfl ?_
        show jX m_X12_isMention 8 0 0 27 [(0, .ref 125), (1, .int a1)] [.int 3, .int v10] _ 0 0 _
        refine x_icge (tgt := 34) rfl rfl (ti_ge rfl jk_3 (br_f (by omega) ?_))
        refine x_iconst (v := 1) rfl ki_1 ?_
        refine x_goto (tgt := 35) rfl rfl ?_
        refine x_zret rfl rfl (by decide) ?_
        show jX m_X12_soulAt 9 0 0 5 [(0, .ref 125), (1, .int a1), (2, .int a3)] [.int 1] _ 0 0 _
        refine x_ifeq (tgt := 15) rfl rfl (ti_eq jk_1 jk_0 (br_f (by omega) ?_))
        refine x_iloadn (x := a3) rfl rfl ?_
        refine x_inst (N := m_X12_isDay) (As := [.int a3]) (st := []) (dx9 := 2) (mc := 0) (ms := 0) (host := "") rfl t_X12_isDay ⟨Or.inl q_12_273, s_X12_isDay⟩ rfl (by decide) rfl rfl ⟨by decide, by decide⟩ (zc_X12_isDay (d := 1) rfl (fun v49 ev49 => ?_))
        show jX m_X12_soulAt 9 0 0 12 [(0, .ref 125), (1, .int a1), (2, .int a3)] [.int v49] _ 0 0 _
        refine x_ifne (tgt := 17) rfl rfl (ti_ne rfl jk_0 ⟨fun c50 => ?_, fun c50 => ?_⟩)
        ·
          rw [if_pos (by omega)] at D
          refine x_aloadn (x := 125) rfl rfl ?_
          refine x_iloadn (x := a3) rfl rfl ?_
          refine x_inv (N := m_X12_find) (As := [.int a3]) (b := 125) (st := []) (dx9 := 8) (mc := 0) (ms := 0) (host := "") 12 rfl t_X12_find ⟨Or.inl q_12_393, i_X12_find.1, i_X12_find.2⟩ ⟨by decide, rfl⟩ (congrArg Prod.fst (J.1.1 125 (12, 92) rfl)) rfl (by decide) rfl rfl ⟨by decide, by decide⟩ (sf_X12_find_r125d (jr_of rfl (by omega)) hD J rfl  (fun h J S51 X52 => ?_))
          have Sm := jSm_tr rfl Sm S51
          rw [X52] at D
          show jX m_X12_soulAt 9 0 0 22 [(0, .ref 125), (1, .int a1), (2, .int a3)] [] _ 0 0 _
          refine x_aloadn (x := 125) rfl rfl ?_
          refine z_getR (N := 92) (b := 139) 12 29 rfl f_12_72 rfl J rfl 16029 ⟨rfl, rfl⟩ rfl ?_
          refine x_iloadn (x := a1) rfl rfl ?_
          refine z_iald (N := 600) rfl J rfl sg_139_0_600_1_0_1 rfl (by omega) (fun v53 qv53 ev53 => ?_)
          try rw [vrd qv53 (show a1.toInt = a1.toInt from by omega)] at D
          refine x_iret rfl rfl ?_
          show jX m_X12_about 10 0 0 11 [(0, .ref 125), (1, .int a1), (2, .int a2), (3, .int a3), (4, .int a4)] [.int v53] _ 0 0 _
          refine x_istore (lsx9 := [(5, .int v53), (0, .ref 125), (1, .int a1), (2, .int a2), (3, .int a3), (4, .int a4)]) rfl rfl rfl ?_
          refine x_iload (x := v53) rfl rfl ?_
          refine x_iconst (v := (-1)) rfl ki_m1 ?_
          refine x_iceq (tgt := 39) rfl rfl (ti_eq rfl jk_m1 ⟨fun c54 => ?_, fun c54 => ?_⟩)
          ·
            rw [if_pos (by omega)] at D
            exact jX.sub jsb_n (ct_X12_about_r125d_39 hD hQ  h J Sm D)
          ·
            rw [if_neg (by omega)] at D
            refine x_iloadn (x := a2) rfl rfl ?_
            refine x_inst (N := m_X12_isDay) (As := [.int a2]) (st := []) (dx9 := 2) (mc := 0) (ms := 0) (host := "") rfl t_X12_isDay ⟨Or.inl q_12_273, s_X12_isDay⟩ rfl (by decide) rfl rfl ⟨by decide, by decide⟩ (zc_X12_isDay (d := 1) rfl (fun v55 ev55 => ?_))
            show jX m_X12_about 10 0 0 23 [(5, .int v53), (0, .ref 125), (1, .int a1), (2, .int a2), (3, .int a3), (4, .int a4)] [.int v55] _ 0 0 _
            refine x_ifeq (tgt := 39) rfl rfl (ti_eq rfl jk_0 ⟨fun c56 => ?_, fun c56 => ?_⟩)
            ·
              rw [if_neg (by omega)] at D
              exact jX.sub jsb_n (ct_X12_about_r125d_39 hD hQ  h J Sm D)
            ·
              rw [if_pos (by omega)] at D
              refine x_iload (x := a4) rfl rfl ?_
              refine z_i2l rfl rfl (fun v57 ev57 => ?_)
              refine x_lconst (v := 0) rfl kl_0 ?_
              refine x_ldc2 (v := 9) rfl z_12_505 ?_
              refine x_inst (N := m_X12_in) (As := [.long v57, .long 0, .long 9]) (st := []) (dx9 := 1) (mc := 0) (ms := 0) (host := "") rfl t_X12_in ⟨Or.inl q_12_188, s_X12_in⟩ rfl (by decide) rfl rfl ⟨by decide, by decide⟩ (zc_X12_in rfl jkl_0 jkl_9 (fun v58 ev58 => ?_))
              show jX m_X12_about 10 0 0 36 [(5, .int v53), (0, .ref 125), (1, .int a1), (2, .int a2), (3, .int a3), (4, .int a4)] [.int v58] _ 0 0 _
              refine x_ifne (tgt := 45) rfl rfl (ti_ne rfl jk_0 ⟨fun c59 => ?_, fun c59 => ?_⟩)
              ·
                rw [if_pos (by omega)] at D
                refine x_aloadn (x := 125) rfl rfl ?_
                refine x_iload (x := v53) rfl rfl ?_
                refine x_iloadn (x := a2) rfl rfl ?_
                refine x_iload (x := a4) rfl rfl ?_
                refine x_inv (N := m_X12_fact2) (As := [.int v53, .int a2, .int a4]) (b := 125) (st := []) (dx9 := 8) (mc := 0) (ms := 0) (host := "") 12 rfl t_X12_fact2 ⟨Or.inl q_12_722, i_X12_fact2.1, i_X12_fact2.2⟩ ⟨by decide, rfl⟩ (congrArg Prod.fst (J.1.1 125 (12, 92) rfl)) rfl (by decide) rfl rfl ⟨by decide, by decide⟩ (sf_X12_fact2_r125d (jr_of rfl (by omega)) (jr_of rfl (by omega)) hD J rfl  (fun v63 h J S60 X61 X62 => ?_))
                have ev63 := jfullL v63
                have Sm := jSm_tr rfl Sm S60
                try rw [X61] at D
                try rw [X62] at D
                show jX m_X12_about 10 0 0 54 [(5, .int v53), (0, .ref 125), (1, .int a1), (2, .int a2), (3, .int a3), (4, .int a4)] [.long v63] _ 0 0 _
                exact jX.sub jsb_n (ct_X12_about_r125d_54 hD hQ  v63 h J Sm D)
              ·
                rw [if_neg (by omega)] at D
                exact jX.sub jsb_n (ct_X12_about_r125d_39 hD hQ  h J Sm D)
        ·
          rw [if_neg (by omega)] at D
          refine x_iconst (v := (-1)) rfl ki_m1 ?_
          refine x_iret rfl rfl ?_
          show jX m_X12_about 10 0 0 11 [(0, .ref 125), (1, .int a1), (2, .int a2), (3, .int a3), (4, .int a4)] [.int (-1)] _ 0 0 _
          refine x_istore (lsx9 := [(5, .int (-1)), (0, .ref 125), (1, .int a1), (2, .int a2), (3, .int a3), (4, .int a4)]) rfl rfl rfl ?_
          refine x_iload (x := (-1)) rfl rfl ?_
          refine x_iconst (v := (-1)) rfl ki_m1 ?_
          refine x_iceq (tgt := 39) rfl rfl (ti_eq jk_m1 jk_m1 (br_t (by omega) ?_))
          exact jX.sub jsb_n (ct_X12_about_r125d_39 hD hQ  h J Sm D)
def fp_X12_told_r125d : jFp := [(125, 1, 2)]
set_option maxRecDepth 100000 in
set_option maxHeartbeats 4000000 in
theorem ct_X12_told_r125d_10 {Dy : jH → Prop} {h0 : jH} {Q : Option Value → jH → Prop} {dr : (Int × jW)} (hD : jDk Dy) (hQ : ∀ (v : Int32) hx9, jJ jSgM Dy hx9 → jSm fp_X12_told_r125d h0 hx9 → dr.1 = v.toInt → dr.2 = vw hx9 → Q (some (.int v)) hx9) : ∀ (l1 : Int32) (s0 : Int32) (h : jH), (-2147483648) ≤ l1.toInt ∧ l1.toInt ≤ (-1) → (-2147483648) ≤ s0.toInt ∧ s0.toInt ≤ (-1) → jJ jSgM Dy h → jSm fp_X12_told_r125d h0 h → d_X12_told_r125d_10  l1.toInt s0.toInt (vw h) = dr → jX m_X12_told 1 0 0 10 [(1, .int l1)] [.int s0, .ref 125] h 0 0 Q := by
  intro l1 s0 h y0 y1   J Sm D
  unfold d_X12_told_r125d_10 at D
  refine z_putI (N := 92) (w := s0.toInt) 12 1 rfl f_12_183 rfl (jfin_no TX12 RX12 92 rfl rfl) hD J Sm rfl rfl rfl (pw_125_1 (by omega)) rfl (fun h w1 J Sm => ?_)
  rw [vwf w1 (show s0.toInt = s0.toInt from by omega)] at D
  refine x_iloadn (x := l1) rfl rfl ?_
  refine x_iret rfl rfl ?_
  exact hQ _ _ J Sm ((congrArg Prod.fst D).symm.trans (show l1.toInt = l1.toInt from by omega)) (congrArg Prod.snd D).symm
set_option maxRecDepth 100000 in
set_option maxHeartbeats 4000000 in
theorem ct_X12_told_r125d_200010 {Dy : jH → Prop} {h0 : jH} {Q : Option Value → jH → Prop} {dr : (Int × jW)} (hD : jDk Dy) (hQ : ∀ (v : Int32) hx9, jJ jSgM Dy hx9 → jSm fp_X12_told_r125d h0 hx9 → dr.1 = v.toInt → dr.2 = vw hx9 → Q (some (.int v)) hx9) : ∀ (l1 : Int32) (h : jH), 0 ≤ l1.toInt ∧ l1.toInt ≤ 2147483647 → jJ jSgM Dy h → jSm fp_X12_told_r125d h0 h → d_X12_told_r125d_200010  l1.toInt (vw h) = dr → jX m_X12_told 1 0 0 10 [(1, .int l1)] [.int 0, .ref 125] h 0 0 Q := by
  intro l1 h y0   J Sm D
  unfold d_X12_told_r125d_200010 at D
  refine z_putI (N := 92) (w := 0) 12 1 rfl f_12_183 rfl (jfin_no TX12 RX12 92 rfl rfl) hD J Sm rfl rfl jk_0 (pw_125_1 (by omega)) rfl (fun h w1 J Sm => ?_)
  rw [vwf w1 (show 0 = (0 : Int32).toInt from by have := jk_0; omega)] at D
  refine x_iloadn (x := l1) rfl rfl ?_
  refine x_iret rfl rfl ?_
  exact hQ _ _ J Sm ((congrArg Prod.fst D).symm.trans (show l1.toInt = l1.toInt from by omega)) (congrArg Prod.snd D).symm
set_option maxRecDepth 100000 in
set_option maxHeartbeats 4000000 in
theorem sf_X12_told_r125d {Dy : jH → Prop} {h : jH} {Q : Option Value → jH → Prop} {dr : (Int × jW)} {a1 : Int32} (hD : jDk Dy) (J : jJ jSgM Dy h) (D : d_X12_told_r125d a1.toInt (vw h) = dr) (hQ : ∀ (v : Int32) hx9, jJ jSgM Dy hx9 → jSm fp_X12_told_r125d h hx9 → dr.1 = v.toInt → dr.2 = vw hx9 → Q (some (.int v)) hx9) : jC m_X12_told 1 0 0 [.ref 125, .int a1] h Q := by
  refine jC.of rfl k_X12_told rfl ?_
  have Sm := jSm_rf fp_X12_told_r125d h
  have ea1 := jfull a1
  show jX m_X12_told 1 0 0 0 [(0, .ref 125), (1, .int a1)] [] _ 0 0 _
  unfold d_X12_told_r125d at D
  refine x_aloadn (x := 125) rfl rfl ?_
  refine x_iloadn (x := a1) rfl rfl ?_
  refine x_ifge (tgt := 9) rfl rfl (ti_ge rfl jk_0 ⟨fun c1 => ?_, fun c1 => ?_⟩)
  ·
    rw [if_pos (by omega)] at D
    refine x_iconst (v := 0) rfl ki_0 ?_
    exact jX.sub (jsb_c rfl jsb_n) (ct_X12_told_r125d_200010 hD hQ  a1 h (jr_of rfl (by omega)) J Sm D)
  ·
    rw [if_neg (by omega)] at D
    refine x_iloadn (x := a1) rfl rfl ?_
    refine x_goto (tgt := 10) rfl rfl ?_
    exact jX.sub (jsb_c rfl jsb_n) (ct_X12_told_r125d_10 hD hQ  a1 a1 h (jr_of rfl (by omega)) (jr_of rfl (by omega)) J Sm D)
def fp_X12_acres_r125d : jFp := [(125, 0, 1), (125, 1, 2), (173, 0, 120)]
set_option maxRecDepth 100000 in
set_option maxHeartbeats 4000000 in
theorem ct_X12_acres_r125d_29 {Dy : jH → Prop} {h0 : jH} {Q : Option Value → jH → Prop} {dr : (Int × jW)} (hD : jDk Dy) (hQ : ∀ (v : Int32) hx9, jJ jSgM Dy hx9 → jSm fp_X12_acres_r125d h0 hx9 → dr.1 = v.toInt → dr.2 = vw hx9 → Q (some (.int v)) hx9) : ∀ (h : jH), jJ jSgM Dy h → jSm fp_X12_acres_r125d h0 h → d_X12_acres_r125d_29  (vw h) = dr → jX m_X12_acres 3 0 0 29 [(0, .ref 125)] [] h 0 0 Q := by
  intro  h    J Sm D
  unfold d_X12_acres_r125d_29 at D
  refine x_aloadn (x := 125) rfl rfl ?_
  refine x_iconst (v := (-1)) rfl ki_m1 ?_
  refine x_inv (N := m_X12_told) (As := [.int (-1)]) (b := 125) (st := []) (dx9 := 1) (mc := 0) (ms := 0) (host := "") 12 rfl t_X12_told ⟨Or.inl q_12_197, i_X12_told.1, i_X12_told.2⟩ ⟨by decide, rfl⟩ (congrArg Prod.fst (J.1.1 125 (12, 92) rfl)) rfl (by decide) rfl rfl ⟨by decide, by decide⟩ (sf_X12_told_r125d  hD J rfl  (fun v4 h J S1 X2 X3 => ?_))
  have ev4 := jfull v4
  have Sm := jSm_tr rfl Sm S1
  try rw [jk_m1] at X2
  try rw [jk_m1] at X3
  try rw [X2] at D
  try rw [X3] at D
  show jX m_X12_acres 3 0 0 34 [(0, .ref 125)] [.int v4] _ 0 0 _
  refine x_iret rfl rfl ?_
  exact hQ _ _ J Sm ((congrArg Prod.fst D).symm.trans X2) ((congrArg Prod.snd D).symm.trans X3)
set_option maxRecDepth 100000 in
set_option maxHeartbeats 4000000 in
theorem sf_X12_acres_r125d {Dy : jH → Prop} {h : jH} {Q : Option Value → jH → Prop} {dr : (Int × jW)} {a1 : Int32} {a2 : Int32} {a3 : Int32} (hD : jDk Dy) (J : jJ jSgM Dy h) (D : d_X12_acres_r125d a1.toInt a2.toInt a3.toInt (vw h) = dr) (hQ : ∀ (v : Int32) hx9, jJ jSgM Dy hx9 → jSm fp_X12_acres_r125d h hx9 → dr.1 = v.toInt → dr.2 = vw hx9 → Q (some (.int v)) hx9) : jC m_X12_acres 3 0 0 [.ref 125, .int a1, .int a2, .int a3] h Q := by
  refine jC.of rfl k_X12_acres rfl ?_
  have Sm := jSm_rf fp_X12_acres_r125d h
  have ea1 := jfull a1
  have ea2 := jfull a2
  have ea3 := jfull a3
  show jX m_X12_acres 3 0 0 0 [(0, .ref 125), (1, .int a1), (2, .int a2), (3, .int a3)] [] _ 0 0 _
  unfold d_X12_acres_r125d at D
  refine x_aloadn (x := 125) rfl rfl ?_
  refine x_iconst (v := 0) rfl ki_0 ?_
  refine z_putI (N := 92) (w := 0) 12 0 rfl f_12_180 rfl (jfin_no TX12 RX12 92 rfl rfl) hD J Sm rfl rfl jk_0 (pw_125_0 (by omega)) rfl (fun h w1 J Sm => ?_)
  rw [vwf w1 (show 0 = (0 : Int32).toInt from by have := jk_0; omega)] at D
  refine x_iloadn (x := a2) rfl rfl ?_
  refine z_i2l rfl rfl (fun v2 ev2 => ?_)
  refine x_lconst (v := 0) rfl kl_0 ?_
  refine x_ldc2 (v := 2) rfl z_12_482 ?_
  refine x_inst (N := m_X12_in) (As := [.long v2, .long 0, .long 2]) (st := []) (dx9 := 1) (mc := 0) (ms := 0) (host := "") rfl t_X12_in ⟨Or.inl q_12_188, s_X12_in⟩ rfl (by decide) rfl rfl ⟨by decide, by decide⟩ (zc_X12_in rfl jkl_0 jkl_2 (fun v3 ev3 => ?_))
  show jX m_X12_acres 3 0 0 14 [(0, .ref 125), (1, .int a1), (2, .int a2), (3, .int a3)] [.int v3] _ 0 0 _
  refine x_ifeq (tgt := 29) rfl rfl (ti_eq rfl jk_0 ⟨fun c4 => ?_, fun c4 => ?_⟩)
  ·
    rw [if_neg (by omega)] at D
    exact jX.sub (jsb_c rfl jsb_n) (ct_X12_acres_r125d_29 hD hQ  h J Sm D)
  ·
    rw [if_pos (by omega)] at D
    refine x_iloadn (x := a3) rfl rfl ?_
    refine z_i2l rfl rfl (fun v5 ev5 => ?_)
    refine x_lconst (v := 0) rfl kl_0 ?_
    refine x_ldc2 (v := 1000) rfl z_12_466 ?_
    refine x_inst (N := m_X12_in) (As := [.long v5, .long 0, .long 1000]) (st := []) (dx9 := 1) (mc := 0) (ms := 0) (host := "") rfl t_X12_in ⟨Or.inl q_12_188, s_X12_in⟩ rfl (by decide) rfl rfl ⟨by decide, by decide⟩ (zc_X12_in rfl jkl_0 jkl_1000 (fun v6 ev6 => ?_))
    show jX m_X12_acres 3 0 0 26 [(0, .ref 125), (1, .int a1), (2, .int a2), (3, .int a3)] [.int v6] _ 0 0 _
    refine x_ifne (tgt := 35) rfl rfl (ti_ne rfl jk_0 ⟨fun c7 => ?_, fun c7 => ?_⟩)
    ·
      rw [if_pos (by omega)] at D
      refine x_aloadn (x := 125) rfl rfl ?_
      refine x_iloadn (x := a1) rfl rfl ?_
      refine x_inv (N := m_X12_isHolding) (As := [.int a1]) (b := 125) (st := []) (dx9 := 2) (mc := 0) (ms := 0) (host := "") 12 rfl t_X12_isHolding ⟨Or.inl q_12_811, i_X12_isHolding.1, i_X12_isHolding.2⟩ ⟨by decide, rfl⟩ (congrArg Prod.fst (J.1.1 125 (12, 92) rfl)) rfl (by decide) rfl rfl ⟨by decide, by decide⟩ (jC.of rfl k_X12_isHolding rfl ?_)
      show jX m_X12_isHolding 2 0 0 0 [(0, .ref 125), (1, .int a1)] [] _ 0 0 _
      refine x_iloadn (x := a1) rfl rfl ?_
      refine z_i2l rfl rfl (fun v8 ev8 => ?_)
      refine x_lconst (v := 0) rfl kl_0 ?_
      refine x_aloadn (x := 125) rfl rfl ?_
      refine z_getR (N := 92) (b := 126) 12 2 rfl f_12_8 rfl J rfl 16002 ⟨rfl, rfl⟩ rfl ?_
      refine x_bipush (v := 7) rfl kb_7 ?_
      refine z_iald (N := 50660) rfl J rfl sg_126_7_8_1_0_1 jk_7 (by omega) (fun v9 qv9 ev9 => ?_)
      try rw [vrn (n := 7) (by decide) (jmb_w w1 qv9 rfl)] at D
      refine z_i2l rfl rfl (fun v10 ev10 => ?_)
      refine x_lconst (v := 1) rfl kl_1 ?_
      refine z_lsub rfl rfl jkl_1 (by omega) (fun v11 ev11 => ?_)
      refine x_inst (N := m_X12_in) (As := [.long v8, .long 0, .long v11]) (st := []) (dx9 := 1) (mc := 0) (ms := 0) (host := "") rfl t_X12_in ⟨Or.inl q_12_188, s_X12_in⟩ rfl (by decide) rfl rfl ⟨by decide, by decide⟩ (zc_X12_in rfl jkl_0 rfl (fun v12 ev12 => ?_))
      show jX m_X12_isHolding 2 0 0 16 [(0, .ref 125), (1, .int a1)] [.int v12] _ 0 0 _
      refine x_zret rfl rfl (jz01 (by omega)) ?_
      show jX m_X12_acres 3 0 0 40 [(0, .ref 125), (1, .int a1), (2, .int a2), (3, .int a3)] [.int v12] _ 0 0 _
      refine x_ifne (tgt := 50) rfl rfl (ti_ne rfl jk_0 ⟨fun c13 => ?_, fun c13 => ?_⟩)
      ·
        rw [if_pos (by omega)] at D
        refine x_aloadn (x := 125) rfl rfl ?_
        refine z_getR (N := 92) (b := 173) 12 88 rfl f_12_177 rfl J rfl 16088 ⟨rfl, rfl⟩ rfl ?_
        refine x_iconst (v := 3) rfl ki_3 ?_
        refine x_iloadn (x := a1) rfl rfl ?_
        refine z_imul rfl jk_3 rfl (by omega) (fun v14 ev14 => ?_)
        refine x_iloadn (x := a2) rfl rfl ?_
        refine z_iadd rfl rfl rfl (by omega) (fun v15 ev15 => ?_)
        refine x_iloadn (x := a3) rfl rfl ?_
        refine z_iast (N := 120) (l := 0) (u := 120) (w := a3.toInt) rfl hD J Sm rfl rfl rfl (by omega) rfl (wr_173 (fun q1 q2 q3 q4 => by omega)) rfl (fun h w16 J Sm => ?_)
        rw [vww w16 (show ((3 * a1.toInt) + a2.toInt) = v15.toInt from by omega) (show a3.toInt = a3.toInt from by omega)] at D
        refine x_aloadn (x := 125) rfl rfl ?_
        refine x_iconst (v := 0) rfl ki_0 ?_
        refine x_inv (N := m_X12_told) (As := [.int 0]) (b := 125) (st := []) (dx9 := 1) (mc := 0) (ms := 0) (host := "") 12 rfl t_X12_told ⟨Or.inl q_12_197, i_X12_told.1, i_X12_told.2⟩ ⟨by decide, rfl⟩ (congrArg Prod.fst (J.1.1 125 (12, 92) rfl)) rfl (by decide) rfl rfl ⟨by decide, by decide⟩ (sf_X12_told_r125d  hD J rfl  (fun v20 h J S17 X18 X19 => ?_))
        have ev20 := jfull v20
        have Sm := jSm_tr rfl Sm S17
        try rw [jk_0] at X18
        try rw [jk_0] at X19
        try rw [X18] at D
        try rw [X19] at D
        show jX m_X12_acres 3 0 0 66 [(0, .ref 125), (1, .int a1), (2, .int a2), (3, .int a3)] [.int v20] _ 0 0 _
        refine x_iret rfl rfl ?_
        exact hQ _ _ J Sm ((congrArg Prod.fst D).symm.trans X18) ((congrArg Prod.snd D).symm.trans X19)
      ·
        rw [if_neg (by omega)] at D
        refine x_aloadn (x := 125) rfl rfl ?_
        refine x_bipush (v := (-2)) rfl kb_m2 ?_
        refine x_inv (N := m_X12_told) (As := [.int (-2)]) (b := 125) (st := []) (dx9 := 1) (mc := 0) (ms := 0) (host := "") 12 rfl t_X12_told ⟨Or.inl q_12_197, i_X12_told.1, i_X12_told.2⟩ ⟨by decide, rfl⟩ (congrArg Prod.fst (J.1.1 125 (12, 92) rfl)) rfl (by decide) rfl rfl ⟨by decide, by decide⟩ (sf_X12_told_r125d  hD J rfl  (fun v24 h J S21 X22 X23 => ?_))
        have ev24 := jfull v24
        have Sm := jSm_tr rfl Sm S21
        try rw [jk_m2] at X22
        try rw [jk_m2] at X23
        try rw [X22] at D
        try rw [X23] at D
        show jX m_X12_acres 3 0 0 49 [(0, .ref 125), (1, .int a1), (2, .int a2), (3, .int a3)] [.int v24] _ 0 0 _
        refine x_iret rfl rfl ?_
        exact hQ _ _ J Sm ((congrArg Prod.fst D).symm.trans X22) ((congrArg Prod.snd D).symm.trans X23)
    ·
      rw [if_neg (by omega)] at D
      exact jX.sub (jsb_c rfl jsb_n) (ct_X12_acres_r125d_29 hD hQ  h J Sm D)
def fp_X12_addYear_r125d : jFp := [(125, 89, 90), (125, 90, 91), (125, 91, 92)]
set_option maxRecDepth 100000 in
set_option maxHeartbeats 4000000 in
theorem ct_X12_addYear_r125d_86 {Dy : jH → Prop} {h0 : jH} {Q : Option Value → jH → Prop} {dr : jW} {K17 : Int → Int → jW → jW} {R17 : Int} (hD : jDk Dy) (hQ : ∀ hx9, jJ jSgM Dy hx9 → jSm fp_X12_addYear_r125d h0 hx9 → dr = vw hx9 → Q none hx9) (k17 : ∀ (l1 : Int32) (l2 : Int32) (g0 : Int32) (h : jH), 200 - l2.toInt < R17 → 0 ≤ l1.toInt ∧ l1.toInt ≤ 399 → 0 ≤ l2.toInt ∧ l2.toInt ≤ 200 → jiv h 125 89 = g0 → jJ jSgM Dy h → jSm fp_X12_addYear_r125d h0 h → K17 l1.toInt l2.toInt (vw h) = dr → jX m_X12_addYear 3 0 0 17 [(0, .ref 125), (1, .int l1), (2, .int l2)] [] h 0 0 Q) : ∀ (l1 : Int32) (l2 : Int32) (g0 : Int32) (h : jH), 0 ≤ l1.toInt ∧ l1.toInt ≤ 399 → 0 ≤ l2.toInt ∧ l2.toInt ≤ 199 → jiv h 125 89 = g0 → 200 - l2.toInt ≤ R17 → jJ jSgM Dy h → jSm fp_X12_addYear_r125d h0 h → d_X12_addYear_r125d_86 K17  l1.toInt l2.toInt (vw h) = dr → jX m_X12_addYear 3 0 0 86 [(0, .ref 125), (1, .int l1), (2, .int l2)] [] h 0 0 Q := by
  intro l1 l2 g0 h y0 y1 z0 m17 J Sm D
  have eg0 := jfull g0
  unfold d_X12_addYear_r125d_86 at D
  try rw [vrf z0] at D
  refine z_iinc (x := l2) (lsx9 := fun v1 => [(2, .int v1), (0, .ref 125), (1, .int l1)]) rfl rfl rfl jko_1 (by omega) rfl (fun _ => rfl) (fun v1 ev1 => ?_)
  refine x_goto (tgt := 17) rfl rfl ?_
  try rw [show (l2.toInt + 1) = v1.toInt from by omega] at D
  exact jX.sub (jsb_c rfl (jsb_c rfl (jsb_c rfl jsb_n))) (k17 l1 v1 g0 h (by omega) (jr_of rfl (by omega)) (jr_of rfl (by omega)) z0 J Sm D)
set_option maxRecDepth 100000 in
set_option maxHeartbeats 4000000 in
theorem ct_X12_addYear_r125d_17 {Dy : jH → Prop} {h0 : jH} {Q : Option Value → jH → Prop} {dr : jW} (hD : jDk Dy) (hQ : ∀ hx9, jJ jSgM Dy hx9 → jSm fp_X12_addYear_r125d h0 hx9 → dr = vw hx9 → Q none hx9) : ∀ r : Nat, ∀ (l1 : Int32) (l2 : Int32) (g0 : Int32) (h : jH), 200 - l2.toInt < (r : Int) → 0 ≤ l1.toInt ∧ l1.toInt ≤ 399 → 0 ≤ l2.toInt ∧ l2.toInt ≤ 200 → jiv h 125 89 = g0 → jJ jSgM Dy h → jSm fp_X12_addYear_r125d h0 h → d_X12_addYear_r125d_17 r l1.toInt l2.toInt (vw h) = dr → jX m_X12_addYear 3 0 0 17 [(0, .ref 125), (1, .int l1), (2, .int l2)] [] h 0 0 Q := by
  intro r
  induction r with
  | zero =>
    intro l1 l2 g0 h hm y0 y1 z0  J Sm D
    exfalso
    have eg0 := jfull g0
    omega
  | succ r ih =>
    intro l1 l2 g0 h hm y0 y1 z0  J Sm D
    have eg0 := jfull g0
    rw [d_X12_addYear_r125d_17.eq_2] at D
    try rw [vrf z0] at D
    refine x_iloadn (x := l2) rfl rfl ?_
    refine x_aloadn (x := 125) rfl rfl ?_
    refine z_getR (N := 92) (b := 126) 12 2 rfl f_12_8 rfl J rfl 16002 ⟨rfl, rfl⟩ rfl ?_
    refine x_iconst (v := 0) rfl ki_0 ?_
    refine z_iald (N := 50660) rfl J rfl sg_126_0_1_1_0_1 jk_0 (by omega) (fun v1 qv1 ev1 => ?_)
    try rw [vrn (n := 0) (by decide) qv1] at D
    refine x_icge (tgt := 92) rfl rfl (ti_ge rfl rfl ⟨fun c2 => ?_, fun c2 => ?_⟩)
    ·
      rw [if_pos (by omega)] at D
      refine x_vret rfl rfl ?_
      exact hQ _ J Sm D.symm
    ·
      rw [if_neg (by omega)] at D
      refine x_aloadn (x := 125) rfl rfl ?_
      refine x_iloadn (x := l2) rfl rfl ?_
      refine x_inv (N := m_X12_dayOf) (As := [.int l2]) (b := 125) (st := []) (dx9 := 2) (mc := 0) (ms := 0) (host := "") 12 rfl t_X12_dayOf ⟨Or.inl q_12_335, i_X12_dayOf.1, i_X12_dayOf.2⟩ ⟨by decide, rfl⟩ (congrArg Prod.fst (J.1.1 125 (12, 92) rfl)) rfl (by decide) rfl rfl ⟨by decide, by decide⟩ (jC.of rfl k_X12_dayOf rfl ?_)
      show jX m_X12_dayOf 2 0 0 0 [(0, .ref 125), (1, .int l2)] [] _ 0 0 _
      refine x_aloadn (x := 125) rfl rfl ?_
      refine z_getR (N := 92) (b := 126) 12 2 rfl f_12_8 rfl J rfl 16002 ⟨rfl, rfl⟩ rfl ?_
      refine x_aloadn (x := 125) rfl rfl ?_
      refine x_iloadn (x := l2) rfl rfl ?_
      refine x_inv (N := m_X12_at) (As := [.int l2]) (b := 125) (st := [.ref 126]) (dx9 := 1) (mc := 0) (ms := 0) (host := "") 12 rfl t_X12_at ⟨Or.inl q_12_254, i_X12_at.1, i_X12_at.2⟩ ⟨by decide, rfl⟩ (congrArg Prod.fst (J.1.1 125 (12, 92) rfl)) rfl (by decide) rfl rfl ⟨by decide, by decide⟩ (jC.of rfl k_X12_at rfl ?_)
      show jX m_X12_at 1 0 0 0 [(0, .ref 125), (1, .int l2)] [] _ 0 0 _
      refine x_bipush (v := 20) rfl kb_20 ?_
      refine x_bipush (v := 90) rfl kb_90 ?_
      refine x_iloadn (x := l2) rfl rfl ?_
      refine z_imul rfl jk_90 rfl (by omega) (fun v3 ev3 => ?_)
      refine z_iadd rfl jk_20 rfl (by omega) (fun v4 ev4 => ?_)
      refine x_iret rfl rfl ?_
      show jX m_X12_dayOf 2 0 0 9 [(0, .ref 125), (1, .int l2)] [.int v4, .ref 126] _ 0 0 _
      refine x_iconst (v := 2) rfl ki_2 ?_
      refine z_iadd rfl rfl jk_2 (by omega) (fun v5 ev5 => ?_)
      refine z_iald (N := 50660) rfl J rfl sg_126_20_18020_90_2_3 rfl (by omega) (fun v6 qv6 ev6 => ?_)
      try rw [vrd qv6 (show ((20 + (90 * l2.toInt)) + 2) = v5.toInt from by omega)] at D
      refine x_iret rfl rfl ?_
      show jX m_X12_addYear 3 0 0 32 [(0, .ref 125), (1, .int l1), (2, .int l2)] [.int v6] _ 0 0 _
      refine x_sipush (v := 366) rfl ks_366 ?_
      refine z_idiv rfl rfl jk_366 (by omega) (by omega) (fun v7 ev7 => ?_)
      refine x_iloadn (x := l1) rfl rfl ?_
      refine x_icne (tgt := 86) rfl rfl (ti_ne rfl rfl ⟨fun c8 => ?_, fun c8 => ?_⟩)
      ·
        rw [if_neg (by omega)] at D
        exact jX.sub (jsb_c rfl (jsb_c rfl (jsb_c rfl jsb_n))) (ct_X12_addYear_r125d_86 hD hQ ih l1 l2 g0 h (jr_of rfl (by omega)) (jr_of rfl (by omega)) z0 (by omega) J Sm D)
      ·
        rw [if_pos (by omega)] at D
        refine x_aloadn (x := 125) rfl rfl ?_
        refine x_dup rfl rfl ?_
        refine z_getM (N := 92) (v := g0) 12 89 rfl f_12_863 rfl J rfl z0 ?_
        refine x_iconst (v := 1) rfl ki_1 ?_
        refine z_iaddW rfl rfl jk_1 (fun v9 ev9 => ?_)
        have fv9 := jfull v9
        try rw [← ev9] at D
        refine z_putI (N := 92) (w := v9.toInt) 12 89 rfl f_12_863 rfl (jfin_no TX12 RX12 92 rfl rfl) hD J Sm rfl rfl rfl (pw_125_89 trivial) rfl (fun h w10 J Sm => ?_)
        rw [vwf w10 (show v9.toInt = v9.toInt from by omega)] at D
        refine x_aloadn (x := 125) rfl rfl ?_
        refine x_dup rfl rfl ?_
        refine z_getLQ (N := 92) 12 90 rfl f_12_866 rfl J rfl (fun v11 qv11 => ?_)
        have ev11 := jfullL v11
        try rw [vrfL qv11] at D
        refine x_aloadn (x := 125) rfl rfl ?_
        refine x_iloadn (x := l2) rfl rfl ?_
        refine x_inv (N := m_X12_numberOf) (As := [.int l2]) (b := 125) (st := [.long v11, .ref 125]) (dx9 := 2) (mc := 0) (ms := 0) (host := "") 12 rfl t_X12_numberOf ⟨Or.inl q_12_296, i_X12_numberOf.1, i_X12_numberOf.2⟩ ⟨by decide, rfl⟩ (congrArg Prod.fst (J.1.1 125 (12, 92) rfl)) rfl (by decide) rfl rfl ⟨by decide, by decide⟩ (jC.of rfl k_X12_numberOf rfl ?_)
        show jX m_X12_numberOf 2 0 0 0 [(0, .ref 125), (1, .int l2)] [] _ 0 0 _
        refine x_aloadn (x := 125) rfl rfl ?_
        refine z_getR (N := 92) (b := 126) 12 2 rfl f_12_8 rfl J rfl 16002 ⟨rfl, rfl⟩ rfl ?_
        refine x_aloadn (x := 125) rfl rfl ?_
        refine x_iloadn (x := l2) rfl rfl ?_
        refine x_inv (N := m_X12_at) (As := [.int l2]) (b := 125) (st := [.ref 126]) (dx9 := 1) (mc := 0) (ms := 0) (host := "") 12 rfl t_X12_at ⟨Or.inl q_12_254, i_X12_at.1, i_X12_at.2⟩ ⟨by decide, rfl⟩ (congrArg Prod.fst (J.1.1 125 (12, 92) rfl)) rfl (by decide) rfl rfl ⟨by decide, by decide⟩ (jC.of rfl k_X12_at rfl ?_)
        show jX m_X12_at 1 0 0 0 [(0, .ref 125), (1, .int l2)] [] _ 0 0 _
        refine x_bipush (v := 20) rfl kb_20 ?_
        refine x_bipush (v := 90) rfl kb_90 ?_
        refine x_iloadn (x := l2) rfl rfl ?_
        refine z_imul rfl jk_90 rfl (by omega) (fun v12 ev12 => ?_)
        refine z_iadd rfl jk_20 rfl (by omega) (fun v13 ev13 => ?_)
        refine x_iret rfl rfl ?_
        show jX m_X12_numberOf 2 0 0 9 [(0, .ref 125), (1, .int l2)] [.int v13, .ref 126] _ 0 0 _
        refine x_iconst (v := 4) rfl ki_4 ?_
        refine z_iadd rfl rfl jk_4 (by omega) (fun v14 ev14 => ?_)
        refine z_iald0 (N := 50660) rfl J rfl rfl (by omega) (fun v15 qv15 => ?_)
        have ev15 := jfull v15
        try rw [vrd (jmb_w w10 qv15 rfl) (show ((20 + (90 * l2.toInt)) + 4) = v14.toInt from by omega)] at D
        refine x_iret rfl rfl ?_
        show jX m_X12_addYear 3 0 0 60 [(0, .ref 125), (1, .int l1), (2, .int l2)] [.int v15, .long v11, .ref 125] _ 0 0 _
        refine z_i2l rfl rfl (fun v16 ev16 => ?_)
        refine z_laddW rfl rfl rfl (fun v17 ev17 => ?_)
        have fv17 := jfullL v17
        try rw [show v15.toInt = v16.toInt from by omega] at D
        try rw [← ev17] at D
        refine z_putL (N := 92) 12 90 rfl f_12_866 rfl (jfin_no TX12 RX12 92 rfl rfl) hD J Sm rfl rfl rfl (fun h w18 J Sm => ?_)
        rw [vwfL w18 (show v17.toInt = v17.toInt from by omega)] at D
        refine x_aloadn (x := 125) rfl rfl ?_
        refine x_dup rfl rfl ?_
        refine z_getLQ (N := 92) 12 91 rfl f_12_869 rfl J rfl (fun v19 qv19 => ?_)
        have ev19 := jfullL v19
        try rw [vrfL qv19] at D
        refine x_aloadn (x := 125) rfl rfl ?_
        refine x_iloadn (x := l2) rfl rfl ?_
        refine x_inv (N := m_X12_numberOf) (As := [.int l2]) (b := 125) (st := [.long v19, .ref 125]) (dx9 := 2) (mc := 0) (ms := 0) (host := "") 12 rfl t_X12_numberOf ⟨Or.inl q_12_296, i_X12_numberOf.1, i_X12_numberOf.2⟩ ⟨by decide, rfl⟩ (congrArg Prod.fst (J.1.1 125 (12, 92) rfl)) rfl (by decide) rfl rfl ⟨by decide, by decide⟩ (jC.of rfl k_X12_numberOf rfl ?_)
        show jX m_X12_numberOf 2 0 0 0 [(0, .ref 125), (1, .int l2)] [] _ 0 0 _
        refine x_aloadn (x := 125) rfl rfl ?_
        refine z_getR (N := 92) (b := 126) 12 2 rfl f_12_8 rfl J rfl 16002 ⟨rfl, rfl⟩ rfl ?_
        refine x_aloadn (x := 125) rfl rfl ?_
        refine x_iloadn (x := l2) rfl rfl ?_
        refine x_inv (N := m_X12_at) (As := [.int l2]) (b := 125) (st := [.ref 126]) (dx9 := 1) (mc := 0) (ms := 0) (host := "") 12 rfl t_X12_at ⟨Or.inl q_12_254, i_X12_at.1, i_X12_at.2⟩ ⟨by decide, rfl⟩ (congrArg Prod.fst (J.1.1 125 (12, 92) rfl)) rfl (by decide) rfl rfl ⟨by decide, by decide⟩ (jC.of rfl k_X12_at rfl ?_)
        show jX m_X12_at 1 0 0 0 [(0, .ref 125), (1, .int l2)] [] _ 0 0 _
        refine x_bipush (v := 20) rfl kb_20 ?_
        refine x_bipush (v := 90) rfl kb_90 ?_
        refine x_iloadn (x := l2) rfl rfl ?_
        refine z_imul rfl jk_90 rfl (by omega) (fun v20 ev20 => ?_)
        refine z_iadd rfl jk_20 rfl (by omega) (fun v21 ev21 => ?_)
        refine x_iret rfl rfl ?_
        show jX m_X12_numberOf 2 0 0 9 [(0, .ref 125), (1, .int l2)] [.int v21, .ref 126] _ 0 0 _
        refine x_iconst (v := 4) rfl ki_4 ?_
        refine z_iadd rfl rfl jk_4 (by omega) (fun v22 ev22 => ?_)
        refine z_iald0 (N := 50660) rfl J rfl rfl (by omega) (fun v23 qv23 => ?_)
        have ev23 := jfull v23
        try rw [show v16.toInt = v23.toInt from (show v16.toInt = v15.toInt from by omega).trans ((vrd (jmb_w w10 qv15 rfl) (show ((20 + (90 * l2.toInt)) + 4) = v14.toInt from by omega)).symm.trans (vrd (jmb_w w10 (jmb_l w18 qv23) rfl) (show ((20 + (90 * l2.toInt)) + 4) = v22.toInt from by omega)))] at D
        try rw [vrd (jmb_w w10 (jmb_l w18 qv23) rfl) (show ((20 + (90 * l2.toInt)) + 4) = v22.toInt from by omega)] at D
        refine x_iret rfl rfl ?_
        show jX m_X12_addYear 3 0 0 75 [(0, .ref 125), (1, .int l1), (2, .int l2)] [.int v23, .long v19, .ref 125] _ 0 0 _
        refine z_i2l rfl rfl (fun v24 ev24 => ?_)
        refine x_aloadn (x := 125) rfl rfl ?_
        refine z_getM (N := 92) (v := v9) 12 89 rfl f_12_863 rfl J rfl (jml w18 (jmw w10)) ?_
        refine z_i2l rfl rfl (fun v25 ev25 => ?_)
        refine z_lmulW rfl rfl rfl (fun v26 ev26 => ?_)
        have fv26 := jfullL v26
        try rw [show v23.toInt = v24.toInt from by omega] at D
        try rw [show v9.toInt = v25.toInt from by omega] at D
        try rw [← ev26] at D
        refine z_laddW rfl rfl rfl (fun v27 ev27 => ?_)
        have fv27 := jfullL v27
        try rw [← ev27] at D
        refine z_putL (N := 92) 12 91 rfl f_12_869 rfl (jfin_no TX12 RX12 92 rfl rfl) hD J Sm rfl rfl rfl (fun h w28 J Sm => ?_)
        rw [vwfL w28 (show v27.toInt = v27.toInt from by omega)] at D
        exact jX.sub (jsb_c rfl (jsb_c rfl (jsb_c rfl jsb_n))) (ct_X12_addYear_r125d_86 hD hQ ih l1 l2 v9 h (jr_of rfl (by omega)) (jr_of rfl (by omega)) (jml w28 (jml w18 (jmw w10))) (by omega) J Sm D)
set_option maxRecDepth 100000 in
set_option maxHeartbeats 4000000 in
theorem sf_X12_addYear_r125d {Dy : jH → Prop} {h : jH} {Q : Option Value → jH → Prop} {dr : jW} {a1 : Int32} (y1 : 0 ≤ a1.toInt ∧ a1.toInt ≤ 399) (hD : jDk Dy) (J : jJ jSgM Dy h) (D : d_X12_addYear_r125d a1.toInt (vw h) = dr) (hQ : ∀ hx9, jJ jSgM Dy hx9 → jSm fp_X12_addYear_r125d h hx9 → dr = vw hx9 → Q none hx9) : jC m_X12_addYear 3 0 0 [.ref 125, .int a1] h Q := by
  refine jC.of rfl k_X12_addYear rfl ?_
  have Sm := jSm_rf fp_X12_addYear_r125d h
  show jX m_X12_addYear 3 0 0 0 [(0, .ref 125), (1, .int a1)] [] _ 0 0 _
  unfold d_X12_addYear_r125d at D
  refine x_aloadn (x := 125) rfl rfl ?_
  refine x_iconst (v := 0) rfl ki_0 ?_
  refine z_putI (N := 92) (w := 0) 12 89 rfl f_12_863 rfl (jfin_no TX12 RX12 92 rfl rfl) hD J Sm rfl rfl jk_0 (pw_125_89 trivial) rfl (fun h w1 J Sm => ?_)
  rw [vwf w1 (show 0 = (0 : Int32).toInt from by have := jk_0; omega)] at D
  refine x_aloadn (x := 125) rfl rfl ?_
  refine x_lconst (v := 0) rfl kl_0 ?_
  refine z_putL (N := 92) 12 90 rfl f_12_866 rfl (jfin_no TX12 RX12 92 rfl rfl) hD J Sm rfl rfl rfl (fun h w2 J Sm => ?_)
  rw [vwfL w2 (show 0 = (0 : Int64).toInt from by have := jkl_0; omega)] at D
  refine x_aloadn (x := 125) rfl rfl ?_
  refine x_lconst (v := 0) rfl kl_0 ?_
  refine z_putL (N := 92) 12 91 rfl f_12_869 rfl (jfin_no TX12 RX12 92 rfl rfl) hD J Sm rfl rfl rfl (fun h w3 J Sm => ?_)
  rw [vwfL w3 (show 0 = (0 : Int64).toInt from by have := jkl_0; omega)] at D
  refine x_iconst (v := 0) rfl ki_0 ?_
  refine x_istoren (lsx9 := [(2, .int 0), (0, .ref 125), (1, .int a1)]) rfl rfl rfl ?_
  exact jX.sub (jsb_c rfl (jsb_c rfl (jsb_c rfl jsb_n))) (ct_X12_addYear_r125d_17 hD hQ  201 a1 0 0 h (by have := jk_0; omega) (jr_of rfl (by omega)) (jr_of jk_0 (by omega)) (jml w3 (jml w2 (jmw w1))) J Sm (by rw [jk_0]; exact D))
def fp_X12_aheadOf_r125d : jFp := []
set_option maxRecDepth 100000 in
set_option maxHeartbeats 4000000 in
theorem ct_X12_aheadOf_r125d_29 {Dy : jH → Prop} {h0 : jH} {Q : Option Value → jH → Prop} {dr : Int} {K4 : Int → Int → Int → jW → Int} {R4 : Int} {a1 : Int32} (yy_a1 : 0 ≤ a1.toInt ∧ a1.toInt ≤ 8) (hD : jDk Dy) (hQ : ∀ (v : Int32) hx9, (-1) ≤ v.toInt ∧ v.toInt ≤ 7 → jJ jSgM Dy hx9 → jSm fp_X12_aheadOf_r125d h0 hx9 → v.toInt = jah (jiv hx9 146) a1.toNatClampNeg a1.toNatClampNeg → dr = v.toInt → vw hx9 = vw h0 → Q (some (.int v)) hx9) (k4 : ∀ (l2 : Int32) (l3 : Int32) (h : jH), 8 - l3.toInt < R4 → (-1) ≤ l2.toInt ∧ l2.toInt ≤ 7 → 0 ≤ l3.toInt ∧ l3.toInt ≤ 8 → (l2.toInt = jah (jiv h 146) a1.toNatClampNeg l3.toNatClampNeg ∧ l3.toInt ≤ a1.toInt) → jJ jSgM Dy h → jSm fp_X12_aheadOf_r125d h0 h → K4 a1.toInt l2.toInt l3.toInt (vw h) = dr → vw h = vw h0 → jX m_X12_aheadOf 1 0 0 4 [(0, .ref 125), (1, .int a1), (2, .int l2), (3, .int l3)] [] h 0 0 Q) : ∀ (l3 : Int32) (s0 : Int32) (h : jH), 0 ≤ l3.toInt ∧ l3.toInt ≤ 7 → (-1) ≤ s0.toInt ∧ s0.toInt ≤ 7 → (s0.toInt = jah (jiv h 146) a1.toNatClampNeg (l3.toNatClampNeg + 1) ∧ l3.toInt < a1.toInt) → 8 - l3.toInt ≤ R4 → jJ jSgM Dy h → jSm fp_X12_aheadOf_r125d h0 h → d_X12_aheadOf_r125d_29 K4  a1.toInt l3.toInt s0.toInt (vw h) = dr → vw h = vw h0 → jX m_X12_aheadOf 1 0 0 29 [(0, .ref 125), (1, .int a1), (3, .int l3)] [.int s0] h 0 0 Q := by
  intro l3 s0 h y0 y1 C0  m4 J Sm D EV
  unfold d_X12_aheadOf_r125d_29 at D
  refine x_istoren (lsx9 := [(2, .int s0), (0, .ref 125), (1, .int a1), (3, .int l3)]) rfl rfl rfl ?_
  refine z_iinc (x := l3) (lsx9 := fun v1 => [(3, .int v1), (2, .int s0), (0, .ref 125), (1, .int a1)]) rfl rfl rfl jko_1 (by omega) rfl (fun _ => rfl) (fun v1 ev1 => ?_)
  refine x_goto (tgt := 4) rfl rfl ?_
  try rw [show (l3.toInt + 1) = v1.toInt from by omega] at D
  exact jX.sub (jsb_c rfl (jsb_c rfl (jsb_c rfl (jsb_c rfl jsb_n)))) (k4 s0 v1 h (by omega) (jr_of rfl (by omega)) (jr_of rfl (by omega)) ⟨(jah_n C0.1 (by omega)), (by have := C0.2; omega)⟩ J Sm D EV)
set_option maxRecDepth 100000 in
set_option maxHeartbeats 4000000 in
theorem ct_X12_aheadOf_r125d_4 {Dy : jH → Prop} {h0 : jH} {Q : Option Value → jH → Prop} {dr : Int} {a1 : Int32} (yy_a1 : 0 ≤ a1.toInt ∧ a1.toInt ≤ 8) (hD : jDk Dy) (hQ : ∀ (v : Int32) hx9, (-1) ≤ v.toInt ∧ v.toInt ≤ 7 → jJ jSgM Dy hx9 → jSm fp_X12_aheadOf_r125d h0 hx9 → v.toInt = jah (jiv hx9 146) a1.toNatClampNeg a1.toNatClampNeg → dr = v.toInt → vw hx9 = vw h0 → Q (some (.int v)) hx9) : ∀ r : Nat, ∀ (l2 : Int32) (l3 : Int32) (h : jH), 8 - l3.toInt < (r : Int) → (-1) ≤ l2.toInt ∧ l2.toInt ≤ 7 → 0 ≤ l3.toInt ∧ l3.toInt ≤ 8 → (l2.toInt = jah (jiv h 146) a1.toNatClampNeg l3.toNatClampNeg ∧ l3.toInt ≤ a1.toInt) → jJ jSgM Dy h → jSm fp_X12_aheadOf_r125d h0 h → d_X12_aheadOf_r125d_4 r a1.toInt l2.toInt l3.toInt (vw h) = dr → vw h = vw h0 → jX m_X12_aheadOf 1 0 0 4 [(0, .ref 125), (1, .int a1), (2, .int l2), (3, .int l3)] [] h 0 0 Q := by
  intro r
  induction r with
  | zero =>
    intro l2 l3 h hm y0 y1 C0   J Sm D EV
    exfalso
    omega
  | succ r ih =>
    intro l2 l3 h hm y0 y1 C0   J Sm D EV
    rw [d_X12_aheadOf_r125d_4.eq_2] at D
    refine x_iloadn (x := l3) rfl rfl ?_
    refine x_iloadn (x := a1) rfl rfl ?_
    refine x_icge (tgt := 36) rfl rfl (ti_ge rfl rfl ⟨fun c1 => ?_, fun c1 => ?_⟩)
    ·
      rw [if_pos (by omega)] at D
      refine x_iloadn (x := l2) rfl rfl ?_
      refine x_iret rfl rfl ?_
      exact hQ _ _ (jr_of rfl (by omega)) J Sm (jah_x C0.1 (show l3.toInt = a1.toInt from by have := C0.2; omega)) (D.symm.trans (show l2.toInt = l2.toInt from by omega)) EV
    ·
      rw [if_neg (by omega)] at D
      refine x_aloadn (x := 125) rfl rfl ?_
      refine z_getR (N := 92) (b := 146) 12 42 rfl f_12_93 rfl J rfl 16042 ⟨rfl, rfl⟩ rfl ?_
      refine x_iloadn (x := l3) rfl rfl ?_
      refine z_iald (N := 9) rfl J rfl sg_146_0_9_1_0_1 rfl (by omega) (fun v2 qv2 ev2 => ?_)
      try rw [vrd qv2 (show l3.toInt = l3.toInt from by omega)] at D
      refine x_aloadn (x := 125) rfl rfl ?_
      refine z_getR (N := 92) (b := 146) 12 42 rfl f_12_93 rfl J rfl 16042 ⟨rfl, rfl⟩ rfl ?_
      refine x_iloadn (x := a1) rfl rfl ?_
      refine z_iald (N := 9) rfl J rfl sg_146_0_9_1_0_1 rfl (by omega) (fun v3 qv3 ev3 => ?_)
      try rw [vrd qv3 (show a1.toInt = a1.toInt from by omega)] at D
      refine x_icne (tgt := 28) rfl rfl (ti_ne rfl rfl ⟨fun c4 => ?_, fun c4 => ?_⟩)
      ·
        rw [if_neg (by omega)] at D
        refine x_iloadn (x := l2) rfl rfl ?_
        exact jX.sub (jsb_c rfl (jsb_c rfl (jsb_c rfl jsb_n))) (ct_X12_aheadOf_r125d_29 yy_a1 hD hQ ih l3 l2 h (jr_of rfl (by omega)) (jr_of rfl (by omega)) ⟨(jah_f qv2 qv3 (by omega) C0.1), (by omega)⟩ (by omega) J Sm D EV)
      ·
        rw [if_pos (by omega)] at D
        refine x_iloadn (x := l3) rfl rfl ?_
        refine x_goto (tgt := 29) rfl rfl ?_
        exact jX.sub (jsb_c rfl (jsb_c rfl (jsb_c rfl jsb_n))) (ct_X12_aheadOf_r125d_29 yy_a1 hD hQ ih l3 l3 h (jr_of rfl (by omega)) (jr_of rfl (by omega)) ⟨(jah_t qv2 qv3 (by omega) (by omega)), (by omega)⟩ (by omega) J Sm D EV)
set_option maxRecDepth 100000 in
set_option maxHeartbeats 4000000 in
theorem sf_X12_aheadOf_r125d {Dy : jH → Prop} {h : jH} {Q : Option Value → jH → Prop} {dr : Int} {a1 : Int32} (y1 : 0 ≤ a1.toInt ∧ a1.toInt ≤ 8) (hD : jDk Dy) (J : jJ jSgM Dy h) (D : d_X12_aheadOf_r125d a1.toInt (vw h) = dr) (hQ : ∀ (v : Int32) hx9, (-1) ≤ v.toInt ∧ v.toInt ≤ 7 → jJ jSgM Dy hx9 → jSm fp_X12_aheadOf_r125d h hx9 → v.toInt = jah (jiv hx9 146) a1.toNatClampNeg a1.toNatClampNeg → dr = v.toInt → vw hx9 = vw h → Q (some (.int v)) hx9) : jC m_X12_aheadOf 1 0 0 [.ref 125, .int a1] h Q := by
  refine jC.of rfl k_X12_aheadOf rfl ?_
  have Sm := jSm_rf fp_X12_aheadOf_r125d h
  have yy_a1 := y1
  show jX m_X12_aheadOf 1 0 0 0 [(0, .ref 125), (1, .int a1)] [] _ 0 0 _
  unfold d_X12_aheadOf_r125d at D
  have EV : vw h = vw h := rfl
  refine x_iconst (v := (-1)) rfl ki_m1 ?_
  refine x_istoren (lsx9 := [(2, .int (-1)), (0, .ref 125), (1, .int a1)]) rfl rfl rfl ?_
  refine x_iconst (v := 0) rfl ki_0 ?_
  refine x_istoren (lsx9 := [(3, .int 0), (2, .int (-1)), (0, .ref 125), (1, .int a1)]) rfl rfl rfl ?_
  exact jX.sub (jsb_c rfl (jsb_c rfl (jsb_c rfl (jsb_c rfl jsb_n)))) (ct_X12_aheadOf_r125d_4 yy_a1 hD hQ  9 (-1) 0 h (by have := jk_0; omega) (jr_of jk_m1 (by omega)) (jr_of jk_0 (by omega)) ⟨jah_0, (by have := jk_0; omega)⟩ J Sm (by rw [jk_m1, jk_0]; exact D) EV)
def fp_X12_alter_r125d : jFp := [(125, 0, 1), (125, 1, 2), (126, 20, 18020)]
set_option maxRecDepth 100000 in
set_option maxHeartbeats 4000000 in
theorem sf_X12_alter_r125d {Dy : jH → Prop} {h : jH} {Q : Option Value → jH → Prop} {dr : (Int × jW)} {a1 : Int32} {a2 : Int32} (hD : jDk Dy) (J : jJ jSgM Dy h) (D : d_X12_alter_r125d a1.toInt a2.toInt (vw h) = dr) (hQ : ∀ (v : Int32) hx9, jJ jSgM Dy hx9 → jSm fp_X12_alter_r125d h hx9 → dr.1 = v.toInt → dr.2 = vw hx9 → Q (some (.int v)) hx9) : jC m_X12_alter 3 0 0 [.ref 125, .int a1, .int a2] h Q := by
  refine jC.of rfl k_X12_alter rfl ?_
  have Sm := jSm_rf fp_X12_alter_r125d h
  have ea1 := jfull a1
  have ea2 := jfull a2
  show jX m_X12_alter 3 0 0 0 [(0, .ref 125), (1, .int a1), (2, .int a2)] [] _ 0 0 _
  unfold d_X12_alter_r125d at D
  refine x_aloadn (x := 125) rfl rfl ?_
  refine x_iconst (v := 0) rfl ki_0 ?_
  refine z_putI (N := 92) (w := 0) 12 0 rfl f_12_180 rfl (jfin_no TX12 RX12 92 rfl rfl) hD J Sm rfl rfl jk_0 (pw_125_0 (by omega)) rfl (fun h w1 J Sm => ?_)
  rw [vwf w1 (show 0 = (0 : Int32).toInt from by have := jk_0; omega)] at D
  refine x_iloadn (x := a2) rfl rfl ?_
  refine z_i2l rfl rfl (fun v2 ev2 => ?_)
  refine x_lconst (v := 1) rfl kl_1 ?_
  refine x_ldc2 (v := 255) rfl z_12_875 ?_
  refine x_inst (N := m_X12_in) (As := [.long v2, .long 1, .long 255]) (st := []) (dx9 := 1) (mc := 0) (ms := 0) (host := "") rfl t_X12_in ⟨Or.inl q_12_188, s_X12_in⟩ rfl (by decide) rfl rfl ⟨by decide, by decide⟩ (zc_X12_in rfl jkl_1 jkl_255 (fun v3 ev3 => ?_))
  show jX m_X12_alter 3 0 0 14 [(0, .ref 125), (1, .int a1), (2, .int a2)] [.int v3] _ 0 0 _
  refine x_ifne (tgt := 23) rfl rfl (ti_ne rfl jk_0 ⟨fun c4 => ?_, fun c4 => ?_⟩)
  ·
    rw [if_pos (by omega)] at D
    refine x_aloadn (x := 125) rfl rfl ?_
    refine x_iloadn (x := a1) rfl rfl ?_
    refine x_inv (N := m_X12_isLine) (As := [.int a1]) (b := 125) (st := []) (dx9 := 2) (mc := 0) (ms := 0) (host := "") 12 rfl t_X12_isLine ⟨Or.inl q_12_293, i_X12_isLine.1, i_X12_isLine.2⟩ ⟨by decide, rfl⟩ (congrArg Prod.fst (J.1.1 125 (12, 92) rfl)) rfl (by decide) rfl rfl ⟨by decide, by decide⟩ (jC.of rfl k_X12_isLine rfl ?_)
    show jX m_X12_isLine 2 0 0 0 [(0, .ref 125), (1, .int a1)] [] _ 0 0 _
    refine x_iloadn (x := a1) rfl rfl ?_
    refine z_i2l rfl rfl (fun v5 ev5 => ?_)
    refine x_lconst (v := 0) rfl kl_0 ?_
    refine x_aloadn (x := 125) rfl rfl ?_
    refine z_getR (N := 92) (b := 126) 12 2 rfl f_12_8 rfl J rfl 16002 ⟨rfl, rfl⟩ rfl ?_
    refine x_iconst (v := 0) rfl ki_0 ?_
    refine z_iald (N := 50660) rfl J rfl sg_126_0_1_1_0_1 jk_0 (by omega) (fun v6 qv6 ev6 => ?_)
    try rw [vrn (n := 0) (by decide) (jmb_w w1 qv6 rfl)] at D
    refine z_i2l rfl rfl (fun v7 ev7 => ?_)
    refine x_lconst (v := 1) rfl kl_1 ?_
    refine z_lsub rfl rfl jkl_1 (by omega) (fun v8 ev8 => ?_)
    refine x_inst (N := m_X12_in) (As := [.long v5, .long 0, .long v8]) (st := []) (dx9 := 1) (mc := 0) (ms := 0) (host := "") rfl t_X12_in ⟨Or.inl q_12_188, s_X12_in⟩ rfl (by decide) rfl rfl ⟨by decide, by decide⟩ (zc_X12_in rfl jkl_0 rfl (fun v9 ev9 => ?_))
    show jX m_X12_isLine 2 0 0 15 [(0, .ref 125), (1, .int a1)] [.int v9] _ 0 0 _
    refine x_zret rfl rfl (jz01 (by omega)) ?_
    show jX m_X12_alter 3 0 0 28 [(0, .ref 125), (1, .int a1), (2, .int a2)] [.int v9] _ 0 0 _
    refine x_ifne (tgt := 38) rfl rfl (ti_ne rfl jk_0 ⟨fun c10 => ?_, fun c10 => ?_⟩)
    ·
      rw [if_pos (by omega)] at D
      refine x_aloadn (x := 125) rfl rfl ?_
      refine z_getR (N := 92) (b := 126) 12 2 rfl f_12_8 rfl J rfl 16002 ⟨rfl, rfl⟩ rfl ?_
      refine x_aloadn (x := 125) rfl rfl ?_
      refine x_iloadn (x := a1) rfl rfl ?_
      refine x_inv (N := m_X12_at) (As := [.int a1]) (b := 125) (st := [.ref 126]) (dx9 := 2) (mc := 0) (ms := 0) (host := "") 12 rfl t_X12_at ⟨Or.inl q_12_254, i_X12_at.1, i_X12_at.2⟩ ⟨by decide, rfl⟩ (congrArg Prod.fst (J.1.1 125 (12, 92) rfl)) rfl (by decide) rfl rfl ⟨by decide, by decide⟩ (jC.of rfl k_X12_at rfl ?_)
      show jX m_X12_at 2 0 0 0 [(0, .ref 125), (1, .int a1)] [] _ 0 0 _
      refine x_bipush (v := 20) rfl kb_20 ?_
      refine x_bipush (v := 90) rfl kb_90 ?_
      refine x_iloadn (x := a1) rfl rfl ?_
      refine z_imul rfl jk_90 rfl (by omega) (fun v11 ev11 => ?_)
      refine z_iadd rfl jk_20 rfl (by omega) (fun v12 ev12 => ?_)
      refine x_iret rfl rfl ?_
      show jX m_X12_alter 3 0 0 47 [(0, .ref 125), (1, .int a1), (2, .int a2)] [.int v12, .ref 126] _ 0 0 _
      refine x_iconst (v := 4) rfl ki_4 ?_
      refine z_iadd rfl rfl jk_4 (by omega) (fun v13 ev13 => ?_)
      refine x_dup2 rfl rfl rfl ?_
      refine z_iald0 (N := 50660) rfl J rfl rfl (by omega) (fun v14 qv14 => ?_)
      have ev14 := jfull v14
      try rw [vrd (jmb_w w1 qv14 rfl) (show ((20 + (90 * a1.toInt)) + 4) = v13.toInt from by omega)] at D
      refine x_iloadn (x := a2) rfl rfl ?_
      refine z_ixorW rfl rfl rfl (fun v15 ev15 => ?_)
      have fv15 := jfull v15
      try rw [← ev15] at D
      refine z_iast (N := 50660) (l := 20) (u := 18020) (w := v15.toInt) rfl hD J Sm rfl rfl rfl (by omega) rfl (wr_126_20 (by omega) (fun q1 q2 q3 q4 => by omega) (fun q1 q2 q3 q4 => by omega) (fun q1 q2 q3 q4 => by omega) (fun q1 q2 q3 q4 => by omega) (fun q1 q2 q3 q4 => by omega) (fun q1 q2 q3 q4 => by omega) (fun q1 q2 q3 q4 => by omega) (fun q1 q2 q3 q4 => by omega) (fun q1 q2 q3 q4 => by omega) (fun q1 q2 q3 q4 => by omega) (fun q1 q2 q3 q4 => by omega) (fun q1 q2 q3 q4 => by omega) (fun q1 q2 q3 q4 => by omega) (fun q1 q2 q3 q4 => by omega) (fun q1 q2 q3 q4 => by omega) (fun q1 q2 q3 q4 => by omega) (fun q1 q2 q3 q4 => by omega) (fun q1 q2 q3 q4 => by omega) (fun q1 q2 q3 q4 => by omega) (fun q1 q2 q3 q4 => by omega) (fun q1 q2 q3 q4 => by omega) (fun q1 q2 q3 q4 => by omega) (fun q1 q2 q3 q4 => by omega)) rfl (fun h w16 J Sm => ?_)
      rw [vww w16 (show ((20 + (90 * a1.toInt)) + 4) = v13.toInt from by omega) (show v15.toInt = v15.toInt from by omega)] at D
      refine x_aloadn (x := 125) rfl rfl ?_
      refine x_iconst (v := 0) rfl ki_0 ?_
      refine z_putI (N := 92) (w := 0) 12 1 rfl f_12_183 rfl (jfin_no TX12 RX12 92 rfl rfl) hD J Sm rfl rfl jk_0 (pw_125_1 (by omega)) rfl (fun h w17 J Sm => ?_)
      rw [vwf w17 (show 0 = (0 : Int32).toInt from by have := jk_0; omega)] at D
      refine x_aloadn (x := 125) rfl rfl ?_
      refine x_iloadn (x := a1) rfl rfl ?_
      refine x_inv (N := m_X12_numberOf) (As := [.int a1]) (b := 125) (st := []) (dx9 := 2) (mc := 0) (ms := 0) (host := "") 12 rfl t_X12_numberOf ⟨Or.inl q_12_296, i_X12_numberOf.1, i_X12_numberOf.2⟩ ⟨by decide, rfl⟩ (congrArg Prod.fst (J.1.1 125 (12, 92) rfl)) rfl (by decide) rfl rfl ⟨by decide, by decide⟩ (jC.of rfl k_X12_numberOf rfl ?_)
      show jX m_X12_numberOf 2 0 0 0 [(0, .ref 125), (1, .int a1)] [] _ 0 0 _
      refine x_aloadn (x := 125) rfl rfl ?_
      refine z_getR (N := 92) (b := 126) 12 2 rfl f_12_8 rfl J rfl 16002 ⟨rfl, rfl⟩ rfl ?_
      refine x_aloadn (x := 125) rfl rfl ?_
      refine x_iloadn (x := a1) rfl rfl ?_
      refine x_inv (N := m_X12_at) (As := [.int a1]) (b := 125) (st := [.ref 126]) (dx9 := 1) (mc := 0) (ms := 0) (host := "") 12 rfl t_X12_at ⟨Or.inl q_12_254, i_X12_at.1, i_X12_at.2⟩ ⟨by decide, rfl⟩ (congrArg Prod.fst (J.1.1 125 (12, 92) rfl)) rfl (by decide) rfl rfl ⟨by decide, by decide⟩ (jC.of rfl k_X12_at rfl ?_)
      show jX m_X12_at 1 0 0 0 [(0, .ref 125), (1, .int a1)] [] _ 0 0 _
      refine x_bipush (v := 20) rfl kb_20 ?_
      refine x_bipush (v := 90) rfl kb_90 ?_
      refine x_iloadn (x := a1) rfl rfl ?_
      refine z_imul rfl jk_90 rfl (by omega) (fun v18 ev18 => ?_)
      refine z_iadd rfl jk_20 rfl (by omega) (fun v19 ev19 => ?_)
      refine x_iret rfl rfl ?_
      show jX m_X12_numberOf 2 0 0 9 [(0, .ref 125), (1, .int a1)] [.int v19, .ref 126] _ 0 0 _
      refine x_iconst (v := 4) rfl ki_4 ?_
      refine z_iadd rfl rfl jk_4 (by omega) (fun v20 ev20 => ?_)
      refine z_iald0 (N := 50660) rfl J rfl rfl (by omega) (fun v21 qv21 => ?_)
      have ev21 := jfull v21
      try rw [vrd (jmb_w w17 qv21 rfl) (show ((20 + (90 * a1.toInt)) + 4) = v20.toInt from by omega)] at D
      refine x_iret rfl rfl ?_
      show jX m_X12_alter 3 0 0 64 [(0, .ref 125), (1, .int a1), (2, .int a2)] [.int v21] _ 0 0 _
      refine x_iret rfl rfl ?_
      exact hQ _ _ J Sm ((congrArg Prod.fst D).symm.trans (show v21.toInt = v21.toInt from by omega)) (congrArg Prod.snd D).symm
    ·
      rw [if_neg (by omega)] at D
      refine x_aloadn (x := 125) rfl rfl ?_
      refine x_bipush (v := (-2)) rfl kb_m2 ?_
      refine x_inv (N := m_X12_told) (As := [.int (-2)]) (b := 125) (st := []) (dx9 := 1) (mc := 0) (ms := 0) (host := "") 12 rfl t_X12_told ⟨Or.inl q_12_197, i_X12_told.1, i_X12_told.2⟩ ⟨by decide, rfl⟩ (congrArg Prod.fst (J.1.1 125 (12, 92) rfl)) rfl (by decide) rfl rfl ⟨by decide, by decide⟩ (sf_X12_told_r125d  hD J rfl  (fun v25 h J S22 X23 X24 => ?_))
      have ev25 := jfull v25
      have Sm := jSm_tr rfl Sm S22
      try rw [jk_m2] at X23
      try rw [jk_m2] at X24
      try rw [X23] at D
      try rw [X24] at D
      show jX m_X12_alter 3 0 0 37 [(0, .ref 125), (1, .int a1), (2, .int a2)] [.int v25] _ 0 0 _
      refine x_iret rfl rfl ?_
      exact hQ _ _ J Sm ((congrArg Prod.fst D).symm.trans X23) ((congrArg Prod.snd D).symm.trans X24)
  ·
    rw [if_neg (by omega)] at D
    refine x_aloadn (x := 125) rfl rfl ?_
    refine x_iconst (v := (-1)) rfl ki_m1 ?_
    refine x_inv (N := m_X12_told) (As := [.int (-1)]) (b := 125) (st := []) (dx9 := 1) (mc := 0) (ms := 0) (host := "") 12 rfl t_X12_told ⟨Or.inl q_12_197, i_X12_told.1, i_X12_told.2⟩ ⟨by decide, rfl⟩ (congrArg Prod.fst (J.1.1 125 (12, 92) rfl)) rfl (by decide) rfl rfl ⟨by decide, by decide⟩ (sf_X12_told_r125d  hD J rfl  (fun v29 h J S26 X27 X28 => ?_))
    have ev29 := jfull v29
    have Sm := jSm_tr rfl Sm S26
    try rw [jk_m1] at X27
    try rw [jk_m1] at X28
    try rw [X27] at D
    try rw [X28] at D
    show jX m_X12_alter 3 0 0 22 [(0, .ref 125), (1, .int a1), (2, .int a2)] [.int v29] _ 0 0 _
    refine x_iret rfl rfl ?_
    exact hQ _ _ J Sm ((congrArg Prod.fst D).symm.trans X27) ((congrArg Prod.snd D).symm.trans X28)
