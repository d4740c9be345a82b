def fp_X7_spouseOf_r78d : jFp := []
set_option maxRecDepth 100000 in
set_option maxHeartbeats 4000000 in
theorem ct_X7_spouseOf_r78d_116 {Dy : jH → Prop} {h0 : jH} {Q : Option Value → jH → Prop} {dr : Int} (hD : jDk Dy) (hQ : ∀ (v : Int32) hx9, (-1) ≤ v.toInt ∧ v.toInt ≤ 599 → jJ jSgX Dy hx9 → jSm fp_X7_spouseOf_r78d h0 hx9 → dr = v.toInt → vw hx9 = vw h0 → Q (some (.int v)) hx9) : ∀ (h : jH), jJ jSgX Dy h → jSm fp_X7_spouseOf_r78d h0 h → d_X7_spouseOf_r78d_116  (vw h) = dr → vw h = vw h0 → jX m_X7_spouseOf 4 0 0 116 [] [] h 0 0 Q := by
  intro  h    J Sm D EV
  unfold d_X7_spouseOf_r78d_116 at D
  refine x_iconst (v := (-1)) rfl ki_m1 ?_
  refine x_iret rfl rfl ?_
  exact hQ _ _ (jr_of jk_m1 (by omega)) J Sm (D.symm.trans (show (-1) = ((-1) : Int32).toInt from by have := jk_m1; omega)) EV
set_option maxRecDepth 100000 in
set_option maxHeartbeats 4000000 in
theorem ct_X7_spouseOf_r78d_110 {Dy : jH → Prop} {h0 : jH} {Q : Option Value → jH → Prop} {dr : Int} {K5 : Int → Int → Int → Int → jW → Int} {R5 : Int} (hD : jDk Dy) (hQ : ∀ (v : Int32) hx9, (-1) ≤ v.toInt ∧ v.toInt ≤ 599 → jJ jSgX Dy hx9 → jSm fp_X7_spouseOf_r78d h0 hx9 → dr = v.toInt → vw hx9 = vw h0 → Q (some (.int v)) hx9) (k5 : ∀ (l1 : Int32) (l2 : Int32) (l3 : Int32) (l4 : Int32) (h : jH), 600 - l4.toInt < R5 → 0 ≤ l1.toInt ∧ l1.toInt ≤ 599 → 0 ≤ l4.toInt ∧ l4.toInt ≤ 600 → l4.toInt % 3 = 0 → jJ jSgX Dy h → jSm fp_X7_spouseOf_r78d h0 h → K5 l1.toInt l2.toInt l3.toInt l4.toInt (vw h) = dr → vw h = vw h0 → jX m_X7_spouseOf 4 0 0 5 [(0, .ref 78), (1, .int l1), (2, .int l2), (3, .int l3), (4, .int l4)] [] h 0 0 Q) : ∀ (l1 : Int32) (l2 : Int32) (l3 : Int32) (l4 : Int32) (h : jH), 0 ≤ l1.toInt ∧ l1.toInt ≤ 599 → 0 ≤ l4.toInt ∧ l4.toInt ≤ 597 → l4.toInt % 3 = 0 → 600 - l4.toInt ≤ R5 → jJ jSgX Dy h → jSm fp_X7_spouseOf_r78d h0 h → d_X7_spouseOf_r78d_110 K5  l1.toInt l2.toInt l3.toInt l4.toInt (vw h) = dr → vw h = vw h0 → jX m_X7_spouseOf 4 0 0 110 [(0, .ref 78), (1, .int l1), (2, .int l2), (3, .int l3), (4, .int l4)] [] h 0 0 Q := by
  intro l1 l2 l3 l4 h y0 y1 y2  m5 J Sm D EV
  have el2 := jfull l2
  have el3 := jfull l3
  unfold d_X7_spouseOf_r78d_110 at D
  refine z_iinc (x := l4) (lsx9 := fun v1 => [(4, .int v1), (0, .ref 78), (1, .int l1), (2, .int l2), (3, .int l3)]) rfl rfl rfl jko_3 (by omega) rfl (fun _ => rfl) (fun v1 ev1 => ?_)
  refine x_goto (tgt := 5) rfl rfl ?_
  try rw [show (l4.toInt + 3) = v1.toInt from by omega] at D
  exact jX.sub (jsb_c rfl (jsb_c rfl (jsb_c rfl (jsb_c rfl (jsb_c rfl jsb_n))))) (k5 l1 l2 l3 v1 h (by omega) (jr_of rfl (by omega)) (jr_of rfl (by omega)) (jr_mod rfl (by omega)) J Sm D EV)
set_option maxRecDepth 100000 in
set_option maxHeartbeats 4000000 in
theorem ct_X7_spouseOf_r78d_88 {Dy : jH → Prop} {h0 : jH} {Q : Option Value → jH → Prop} {dr : Int} {K5 : Int → Int → Int → Int → jW → Int} {R5 : Int} (hD : jDk Dy) (hQ : ∀ (v : Int32) hx9, (-1) ≤ v.toInt ∧ v.toInt ≤ 599 → jJ jSgX Dy hx9 → jSm fp_X7_spouseOf_r78d h0 hx9 → dr = v.toInt → vw hx9 = vw h0 → Q (some (.int v)) hx9) (k5 : ∀ (l1 : Int32) (l2 : Int32) (l3 : Int32) (l4 : Int32) (h : jH), 600 - l4.toInt < R5 → 0 ≤ l1.toInt ∧ l1.toInt ≤ 599 → 0 ≤ l4.toInt ∧ l4.toInt ≤ 600 → l4.toInt % 3 = 0 → jJ jSgX Dy h → jSm fp_X7_spouseOf_r78d h0 h → K5 l1.toInt l2.toInt l3.toInt l4.toInt (vw h) = dr → vw h = vw h0 → jX m_X7_spouseOf 4 0 0 5 [(0, .ref 78), (1, .int l1), (2, .int l2), (3, .int l3), (4, .int l4)] [] h 0 0 Q) : ∀ (l1 : Int32) (l2 : Int32) (l3 : Int32) (l4 : Int32) (s0 : Int32) (g0 : Int32) (h : jH), 0 ≤ l1.toInt ∧ l1.toInt ≤ 599 → 0 ≤ l4.toInt ∧ l4.toInt ≤ 597 → l4.toInt % 3 = 0 → 0 ≤ s0.toInt ∧ s0.toInt ≤ 598 → 0 ≤ g0.toInt ∧ g0.toInt ≤ 200 → jiv h 33 3 = g0 → 600 - l4.toInt ≤ R5 → jJ jSgX Dy h → jSm fp_X7_spouseOf_r78d h0 h → d_X7_spouseOf_r78d_88 K5  l1.toInt l2.toInt l3.toInt l4.toInt s0.toInt (vw h) = dr → vw h = vw h0 → jX m_X7_spouseOf 4 0 0 88 [(0, .ref 78), (1, .int l1), (2, .int l2), (3, .int l3), (4, .int l4)] [.int s0, .ref 78] h 0 0 Q := by
  intro l1 l2 l3 l4 s0 g0 h y0 y1 y2 y3 y4 z0 m5 J Sm D EV
  have el2 := jfull l2
  have el3 := jfull l3
  unfold d_X7_spouseOf_r78d_88 at D
  try rw [vrf z0] at D
  refine x_inv (N := m_X7_namedSoul) (As := [.int s0]) (b := 78) (st := []) (dx9 := 3) (mc := 0) (ms := 0) (host := "") 7 rfl t_X7_namedSoul ⟨Or.inl q_7_179, i_X7_namedSoul.1, i_X7_namedSoul.2⟩ ⟨by decide, rfl⟩ (congrArg Prod.fst (J.1.1 78 (7, 16) rfl)) rfl (by decide) rfl rfl ⟨by decide, by decide⟩ (jC.of rfl k_X7_namedSoul rfl ?_)
  show jX m_X7_namedSoul 3 0 0 0 [(0, .ref 78), (1, .int s0)] [] _ 0 0 _
  refine x_aloadn (x := 78) rfl rfl ?_
  refine z_getR (N := 16) (b := 70) 7 1 rfl f_7_59 rfl J rfl 9985 ⟨rfl, rfl⟩ rfl ?_
  refine x_iloadn (x := s0) rfl rfl ?_
  refine x_inv (N := m_X5_isNamed) (As := [.int s0]) (b := 70) (st := []) (dx9 := 2) (mc := 0) (ms := 0) (host := "") 5 rfl t_X5_isNamed ⟨Or.inl q_7_173, i_X5_isNamed.1, i_X5_isNamed.2⟩ ⟨by decide, rfl⟩ (congrArg Prod.fst (J.1.1 70 (5, 9) rfl)) rfl (by decide) rfl rfl ⟨by decide, by decide⟩ (jC.of rfl k_X5_isNamed rfl ?_)
  show jX m_X5_isNamed 2 0 0 0 [(0, .ref 70), (1, .int s0)] [] _ 0 0 _
  refine x_aloadn (x := 70) rfl rfl ?_
  refine x_iloadn (x := s0) rfl rfl ?_
  refine x_iconst (v := 0) rfl ki_0 ?_
  refine x_inv (N := m_X5_lengthOf) (As := [.int s0, .int 0]) (b := 70) (st := []) (dx9 := 1) (mc := 0) (ms := 0) (host := "") 5 rfl t_X5_lengthOf ⟨Or.inl q_5_133, i_X5_lengthOf.1, i_X5_lengthOf.2⟩ ⟨by decide, rfl⟩ (congrArg Prod.fst (J.1.1 70 (5, 9) rfl)) rfl (by decide) rfl rfl ⟨by decide, by decide⟩ (jC.of rfl k_X5_lengthOf rfl ?_)
  show jX m_X5_lengthOf 1 0 0 0 [(0, .ref 70), (1, .int s0), (2, .int 0)] [] _ 0 0 _
  refine x_iloadn (x := s0) rfl rfl ?_
  refine x_iconst (v := 2) rfl ki_2 ?_
  refine z_imul rfl rfl jk_2 (by omega) (fun v1 ev1 => ?_)
  refine x_iloadn (x := 0) rfl rfl ?_
  refine z_iadd rfl rfl jk_0 (by omega) (fun v2 ev2 => ?_)
  refine x_istoren (lsx9 := [(3, .int v2), (0, .ref 70), (1, .int s0), (2, .int 0)]) rfl rfl rfl ?_
  refine x_iloadn (x := v2) rfl rfl ?_
  refine x_iflt (tgt := 26) rfl rfl (ti_lt rfl jk_0 (br_f (by omega) ?_))
  refine x_iloadn (x := v2) rfl rfl ?_
  refine x_sipush (v := 1200) rfl ks_1200 ?_
  refine x_icge (tgt := 26) rfl rfl (ti_ge rfl jk_1200 (br_f (by omega) ?_))
  refine x_aloadn (x := 70) rfl rfl ?_
  refine z_getR (N := 9) (b := 76) 5 7 rfl f_5_28 rfl J rfl 8967 ⟨rfl, rfl⟩ rfl ?_
  refine x_iloadn (x := v2) rfl rfl ?_
  refine z_iald (N := 1200) rfl J rfl sg_76_0_1200_1_0_1 rfl (by omega) (fun v3 qv3 ev3 => ?_)
  try rw [vrd qv3 (show ((s0.toInt * 2) + 0) = v2.toInt from by omega)] at D
  refine x_goto (tgt := 27) rfl rfl ?_
  refine x_iret rfl rfl ?_
  show jX m_X5_isNamed 2 0 0 6 [(0, .ref 70), (1, .int s0)] [.int v3] _ 0 0 _
  refine x_ifge (tgt := 18) rfl rfl (ti_ge rfl jk_0 ⟨fun c4 => ?_, fun c4 => ?_⟩)
  ·
    rw [if_pos (by omega)] at D
    refine x_iconst (v := 1) rfl ki_1 ?_
    refine x_goto (tgt := 23) rfl rfl ?_
    refine x_zret rfl rfl (by decide) ?_
    show jX m_X7_namedSoul 3 0 0 8 [(0, .ref 78), (1, .int s0)] [.int 1] _ 0 0 _
    refine x_ifeq (tgt := 19) rfl rfl (ti_eq jk_1 jk_0 (br_f (by omega) ?_))
    refine x_aloadn (x := 78) rfl rfl ?_
    refine x_iloadn (x := s0) rfl rfl ?_
    refine x_inv (N := m_X7_soulAt) (As := [.int s0]) (b := 78) (st := []) (dx9 := 2) (mc := 0) (ms := 0) (host := "") 7 rfl t_X7_soulAt ⟨Or.inl q_7_153, i_X7_soulAt.1, i_X7_soulAt.2⟩ ⟨by decide, rfl⟩ (congrArg Prod.fst (J.1.1 78 (7, 16) rfl)) rfl (by decide) rfl rfl ⟨by decide, by decide⟩ (jC.of rfl k_X7_soulAt rfl ?_)
    show jX m_X7_soulAt 2 0 0 0 [(0, .ref 78), (1, .int s0)] [] _ 0 0 _
    refine x_iloadn (x := s0) rfl rfl ?_
    refine x_iflt (tgt := 36) rfl rfl (ti_lt rfl jk_0 (br_f (by omega) ?_))
    refine x_iloadn (x := s0) rfl rfl ?_
    refine x_sipush (v := 600) rfl ks_600 ?_
    refine x_icge (tgt := 36) rfl rfl (ti_ge rfl jk_600 (br_f (by omega) ?_))
    refine x_iloadn (x := s0) rfl rfl ?_
    refine x_iconst (v := 3) rfl ki_3 ?_
    refine z_idiv rfl rfl jk_3 (by omega) (by omega) (fun v5 ev5 => ?_)
    refine x_aloadn (x := 78) rfl rfl ?_
    refine z_getR (N := 16) (b := 32) 7 0 rfl f_7_55 rfl J rfl 9984 ⟨rfl, rfl⟩ rfl ?_
    refine z_getR (N := 20) (b := 33) 1 0 rfl f_7_63 rfl J rfl 4096 ⟨rfl, rfl⟩ rfl ?_
    refine z_getM (N := 4) (v := g0) 8 3 rfl f_7_85 rfl J rfl z0 ?_
    refine x_icge (tgt := 36) rfl rfl (ti_ge rfl rfl ⟨fun c6 => ?_, fun c6 => ?_⟩)
    ·
      rw [if_pos (by omega)] at D
      refine x_iconst (v := (-1)) rfl ki_m1 ?_
      refine x_iret rfl rfl ?_
      show jX m_X7_namedSoul 3 0 0 16 [(0, .ref 78), (1, .int s0)] [.int (-1)] _ 0 0 _
      refine x_goto (tgt := 20) rfl rfl ?_
      refine x_iret rfl rfl ?_
      show jX m_X7_spouseOf 4 0 0 91 [(0, .ref 78), (1, .int l1), (2, .int l2), (3, .int l3), (4, .int l4)] [.int (-1)] _ 0 0 _
      refine x_istore (lsx9 := [(5, .int (-1)), (0, .ref 78), (1, .int l1), (2, .int l2), (3, .int l3), (4, .int l4)]) rfl rfl rfl ?_
      refine x_iload (x := (-1)) rfl rfl ?_
      refine x_iconst (v := (-1)) rfl ki_m1 ?_
      refine x_iceq (tgt := 110) rfl rfl (ti_eq jk_m1 jk_m1 (br_t (by omega) ?_))
      exact jX.sub (jsb_c rfl (jsb_c rfl (jsb_c rfl (jsb_c rfl (jsb_c rfl jsb_n))))) (ct_X7_spouseOf_r78d_110 hD hQ k5 l1 l2 l3 l4 h (jr_of rfl (by omega)) (jr_of rfl (by omega)) (jr_mod rfl (by omega)) (by omega) J Sm D EV)
    ·
      rw [if_neg (by omega)] at D
      refine x_aloadn (x := 78) rfl rfl ?_
      refine z_getR (N := 16) (b := 82) 7 10 rfl f_7_37 rfl J rfl 9994 ⟨rfl, rfl⟩ rfl ?_
      refine x_iloadn (x := s0) rfl rfl ?_
      refine z_iald (N := 600) rfl J rfl sg_82_0_600_1_0_1 rfl (by omega) (fun v7 qv7 ev7 => ?_)
      try rw [vrd qv7 (show s0.toInt = s0.toInt from by omega)] at D
      refine x_goto (tgt := 37) rfl rfl ?_
      refine x_iret rfl rfl ?_
      show jX m_X7_namedSoul 3 0 0 16 [(0, .ref 78), (1, .int s0)] [.int v7] _ 0 0 _
      refine x_goto (tgt := 20) rfl rfl ?_
      refine x_iret rfl rfl ?_
      show jX m_X7_spouseOf 4 0 0 91 [(0, .ref 78), (1, .int l1), (2, .int l2), (3, .int l3), (4, .int l4)] [.int v7] _ 0 0 _
      refine x_istore (lsx9 := [(5, .int v7), (0, .ref 78), (1, .int l1), (2, .int l2), (3, .int l3), (4, .int l4)]) rfl rfl rfl ?_
      refine x_iload (x := v7) rfl rfl ?_
      refine x_iconst (v := (-1)) rfl ki_m1 ?_
      refine x_iceq (tgt := 110) rfl rfl (ti_eq rfl jk_m1 ⟨fun c8 => ?_, fun c8 => ?_⟩)
      ·
        rw [if_pos (by omega)] at D
        exact jX.sub (jsb_c rfl (jsb_c rfl (jsb_c rfl (jsb_c rfl (jsb_c rfl jsb_n))))) (ct_X7_spouseOf_r78d_110 hD hQ k5 l1 l2 l3 l4 h (jr_of rfl (by omega)) (jr_of rfl (by omega)) (jr_mod rfl (by omega)) (by omega) J Sm D EV)
      ·
        rw [if_neg (by omega)] at D
        refine x_iloadn (x := l3) rfl rfl ?_
        refine x_iloadn (x := l2) rfl rfl ?_
        refine x_icne (tgt := 107) rfl rfl (ti_ne rfl rfl ⟨fun c9 => ?_, fun c9 => ?_⟩)
        ·
          rw [if_neg (by omega)] at D
          refine z_iincW (x := l3) (lsx9 := fun v10 => [(3, .int v10), (5, .int v7), (0, .ref 78), (1, .int l1), (2, .int l2), (4, .int l4)]) rfl rfl rfl jko_1 rfl (fun _ => rfl) (fun v10 ev10 => ?_)
          have fv10 := jfull v10
          try rw [← ev10] at D
          exact jX.sub (jsb_c rfl (jsb_c rfl (jsb_c rfl (jsb_c rfl (jsb_c rfl jsb_n))))) (ct_X7_spouseOf_r78d_110 hD hQ k5 l1 l2 v10 l4 h (jr_of rfl (by omega)) (jr_of rfl (by omega)) (jr_mod rfl (by omega)) (by omega) J Sm D EV)
        ·
          rw [if_pos (by omega)] at D
          refine x_iload (x := v7) rfl rfl ?_
          refine x_iret rfl rfl ?_
          exact hQ _ _ (jr_of rfl (by omega)) J Sm (D.symm.trans (show v7.toInt = v7.toInt from by omega)) EV
  ·
    rw [if_neg (by omega)] at D
    refine x_aloadn (x := 70) rfl rfl ?_
    refine x_iloadn (x := s0) rfl rfl ?_
    refine x_iconst (v := 1) rfl ki_1 ?_
    refine x_inv (N := m_X5_lengthOf) (As := [.int s0, .int 1]) (b := 70) (st := []) (dx9 := 1) (mc := 0) (ms := 0) (host := "") 5 rfl t_X5_lengthOf ⟨Or.inl q_5_133, i_X5_lengthOf.1, i_X5_lengthOf.2⟩ ⟨by decide, rfl⟩ (congrArg Prod.fst (J.1.1 70 (5, 9) rfl)) rfl (by decide) rfl rfl ⟨by decide, by decide⟩ (jC.of rfl k_X5_lengthOf rfl ?_)
    show jX m_X5_lengthOf 1 0 0 0 [(0, .ref 70), (1, .int s0), (2, .int 1)] [] _ 0 0 _
    refine x_iloadn (x := s0) rfl rfl ?_
    refine x_iconst (v := 2) rfl ki_2 ?_
    refine z_imul rfl rfl jk_2 (by omega) (fun v11 ev11 => ?_)
    refine x_iloadn (x := 1) rfl rfl ?_
    refine z_iadd rfl rfl jk_1 (by omega) (fun v12 ev12 => ?_)
    refine x_istoren (lsx9 := [(3, .int v12), (0, .ref 70), (1, .int s0), (2, .int 1)]) rfl rfl rfl ?_
    refine x_iloadn (x := v12) rfl rfl ?_
    refine x_iflt (tgt := 26) rfl rfl (ti_lt rfl jk_0 (br_f (by omega) ?_))
    refine x_iloadn (x := v12) rfl rfl ?_
    refine x_sipush (v := 1200) rfl ks_1200 ?_
    refine x_icge (tgt := 26) rfl rfl (ti_ge rfl jk_1200 (br_f (by omega) ?_))
    refine x_aloadn (x := 70) rfl rfl ?_
    refine z_getR (N := 9) (b := 76) 5 7 rfl f_5_28 rfl J rfl 8967 ⟨rfl, rfl⟩ rfl ?_
    refine x_iloadn (x := v12) rfl rfl ?_
    refine z_iald (N := 1200) rfl J rfl sg_76_0_1200_1_0_1 rfl (by omega) (fun v13 qv13 ev13 => ?_)
    try rw [vrd qv13 (show ((s0.toInt * 2) + 1) = v12.toInt from by omega)] at D
    refine x_goto (tgt := 27) rfl rfl ?_
    refine x_iret rfl rfl ?_
    show jX m_X5_isNamed 2 0 0 15 [(0, .ref 70), (1, .int s0)] [.int v13] _ 0 0 _
    refine x_iflt (tgt := 22) rfl rfl (ti_lt rfl jk_0 ⟨fun c14 => ?_, fun c14 => ?_⟩)
    ·
      rw [if_pos (by omega)] at D
      refine x_iconst (v := 0) rfl ki_0 ?_
      refine x_zret rfl rfl (by decide) ?_
      show jX m_X7_namedSoul 3 0 0 8 [(0, .ref 78), (1, .int s0)] [.int 0] _ 0 0 _
      refine x_ifeq (tgt := 19) rfl rfl (ti_eq jk_0 jk_0 (br_t (by omega) ?_))
      refine x_iconst (v := (-1)) rfl ki_m1 ?_
      refine x_iret rfl rfl ?_
      show jX m_X7_spouseOf 4 0 0 91 [(0, .ref 78), (1, .int l1), (2, .int l2), (3, .int l3), (4, .int l4)] [.int (-1)] _ 0 0 _
      refine x_istore (lsx9 := [(5, .int (-1)), (0, .ref 78), (1, .int l1), (2, .int l2), (3, .int l3), (4, .int l4)]) rfl rfl rfl ?_
      refine x_iload (x := (-1)) rfl rfl ?_
      refine x_iconst (v := (-1)) rfl ki_m1 ?_
      refine x_iceq (tgt := 110) rfl rfl (ti_eq jk_m1 jk_m1 (br_t (by omega) ?_))
      exact jX.sub (jsb_c rfl (jsb_c rfl (jsb_c rfl (jsb_c rfl (jsb_c rfl jsb_n))))) (ct_X7_spouseOf_r78d_110 hD hQ k5 l1 l2 l3 l4 h (jr_of rfl (by omega)) (jr_of rfl (by omega)) (jr_mod rfl (by omega)) (by omega) J Sm D EV)
    ·
      rw [if_neg (by omega)] at D
      refine x_iconst (v := 1) rfl ki_1 ?_
      refine x_goto (tgt := 23) rfl rfl ?_
      refine x_zret rfl rfl (by decide) ?_
      show jX m_X7_namedSoul 3 0 0 8 [(0, .ref 78), (1, .int s0)] [.int 1] _ 0 0 _
      refine x_ifeq (tgt := 19) rfl rfl (ti_eq jk_1 jk_0 (br_f (by omega) ?_))
      refine x_aloadn (x := 78) rfl rfl ?_
      refine x_iloadn (x := s0) rfl rfl ?_
      refine x_inv (N := m_X7_soulAt) (As := [.int s0]) (b := 78) (st := []) (dx9 := 2) (mc := 0) (ms := 0) (host := "") 7 rfl t_X7_soulAt ⟨Or.inl q_7_153, i_X7_soulAt.1, i_X7_soulAt.2⟩ ⟨by decide, rfl⟩ (congrArg Prod.fst (J.1.1 78 (7, 16) rfl)) rfl (by decide) rfl rfl ⟨by decide, by decide⟩ (jC.of rfl k_X7_soulAt rfl ?_)
      show jX m_X7_soulAt 2 0 0 0 [(0, .ref 78), (1, .int s0)] [] _ 0 0 _
      refine x_iloadn (x := s0) rfl rfl ?_
      refine x_iflt (tgt := 36) rfl rfl (ti_lt rfl jk_0 (br_f (by omega) ?_))
      refine x_iloadn (x := s0) rfl rfl ?_
      refine x_sipush (v := 600) rfl ks_600 ?_
      refine x_icge (tgt := 36) rfl rfl (ti_ge rfl jk_600 (br_f (by omega) ?_))
      refine x_iloadn (x := s0) rfl rfl ?_
      refine x_iconst (v := 3) rfl ki_3 ?_
      refine z_idiv rfl rfl jk_3 (by omega) (by omega) (fun v15 ev15 => ?_)
      refine x_aloadn (x := 78) rfl rfl ?_
      refine z_getR (N := 16) (b := 32) 7 0 rfl f_7_55 rfl J rfl 9984 ⟨rfl, rfl⟩ rfl ?_
      refine z_getR (N := 20) (b := 33) 1 0 rfl f_7_63 rfl J rfl 4096 ⟨rfl, rfl⟩ rfl ?_
      refine z_getM (N := 4) (v := g0) 8 3 rfl f_7_85 rfl J rfl z0 ?_
      refine x_icge (tgt := 36) rfl rfl (ti_ge rfl rfl ⟨fun c16 => ?_, fun c16 => ?_⟩)
      ·
        rw [if_pos (by omega)] at D
        refine x_iconst (v := (-1)) rfl ki_m1 ?_
        refine x_iret rfl rfl ?_
        show jX m_X7_namedSoul 3 0 0 16 [(0, .ref 78), (1, .int s0)] [.int (-1)] _ 0 0 _
        refine x_goto (tgt := 20) rfl rfl ?_
        refine x_iret rfl rfl ?_
        show jX m_X7_spouseOf 4 0 0 91 [(0, .ref 78), (1, .int l1), (2, .int l2), (3, .int l3), (4, .int l4)] [.int (-1)] _ 0 0 _
        refine x_istore (lsx9 := [(5, .int (-1)), (0, .ref 78), (1, .int l1), (2, .int l2), (3, .int l3), (4, .int l4)]) rfl rfl rfl ?_
        refine x_iload (x := (-1)) rfl rfl ?_
        refine x_iconst (v := (-1)) rfl ki_m1 ?_
        refine x_iceq (tgt := 110) rfl rfl (ti_eq jk_m1 jk_m1 (br_t (by omega) ?_))
        exact jX.sub (jsb_c rfl (jsb_c rfl (jsb_c rfl (jsb_c rfl (jsb_c rfl jsb_n))))) (ct_X7_spouseOf_r78d_110 hD hQ k5 l1 l2 l3 l4 h (jr_of rfl (by omega)) (jr_of rfl (by omega)) (jr_mod rfl (by omega)) (by omega) J Sm D EV)
      ·
        rw [if_neg (by omega)] at D
        refine x_aloadn (x := 78) rfl rfl ?_
        refine z_getR (N := 16) (b := 82) 7 10 rfl f_7_37 rfl J rfl 9994 ⟨rfl, rfl⟩ rfl ?_
        refine x_iloadn (x := s0) rfl rfl ?_
        refine z_iald (N := 600) rfl J rfl sg_82_0_600_1_0_1 rfl (by omega) (fun v17 qv17 ev17 => ?_)
        try rw [vrd qv17 (show s0.toInt = s0.toInt from by omega)] at D
        refine x_goto (tgt := 37) rfl rfl ?_
        refine x_iret rfl rfl ?_
        show jX m_X7_namedSoul 3 0 0 16 [(0, .ref 78), (1, .int s0)] [.int v17] _ 0 0 _
        refine x_goto (tgt := 20) rfl rfl ?_
        refine x_iret rfl rfl ?_
        show jX m_X7_spouseOf 4 0 0 91 [(0, .ref 78), (1, .int l1), (2, .int l2), (3, .int l3), (4, .int l4)] [.int v17] _ 0 0 _
        refine x_istore (lsx9 := [(5, .int v17), (0, .ref 78), (1, .int l1), (2, .int l2), (3, .int l3), (4, .int l4)]) rfl rfl rfl ?_
        refine x_iload (x := v17) rfl rfl ?_
        refine x_iconst (v := (-1)) rfl ki_m1 ?_
        refine x_iceq (tgt := 110) rfl rfl (ti_eq rfl jk_m1 ⟨fun c18 => ?_, fun c18 => ?_⟩)
        ·
          rw [if_pos (by omega)] at D
          exact jX.sub (jsb_c rfl (jsb_c rfl (jsb_c rfl (jsb_c rfl (jsb_c rfl jsb_n))))) (ct_X7_spouseOf_r78d_110 hD hQ k5 l1 l2 l3 l4 h (jr_of rfl (by omega)) (jr_of rfl (by omega)) (jr_mod rfl (by omega)) (by omega) J Sm D EV)
        ·
          rw [if_neg (by omega)] at D
          refine x_iloadn (x := l3) rfl rfl ?_
          refine x_iloadn (x := l2) rfl rfl ?_
          refine x_icne (tgt := 107) rfl rfl (ti_ne rfl rfl ⟨fun c19 => ?_, fun c19 => ?_⟩)
          ·
            rw [if_neg (by omega)] at D
            refine z_iincW (x := l3) (lsx9 := fun v20 => [(3, .int v20), (5, .int v17), (0, .ref 78), (1, .int l1), (2, .int l2), (4, .int l4)]) rfl rfl rfl jko_1 rfl (fun _ => rfl) (fun v20 ev20 => ?_)
            have fv20 := jfull v20
            try rw [← ev20] at D
            exact jX.sub (jsb_c rfl (jsb_c rfl (jsb_c rfl (jsb_c rfl (jsb_c rfl jsb_n))))) (ct_X7_spouseOf_r78d_110 hD hQ k5 l1 l2 v20 l4 h (jr_of rfl (by omega)) (jr_of rfl (by omega)) (jr_mod rfl (by omega)) (by omega) J Sm D EV)
          ·
            rw [if_pos (by omega)] at D
            refine x_iload (x := v17) rfl rfl ?_
            refine x_iret rfl rfl ?_
            exact hQ _ _ (jr_of rfl (by omega)) J Sm (D.symm.trans (show v17.toInt = v17.toInt from by omega)) EV
set_option maxRecDepth 100000 in
set_option maxHeartbeats 4000000 in
theorem ct_X7_spouseOf_r78d_67 {Dy : jH → Prop} {h0 : jH} {Q : Option Value → jH → Prop} {dr : Int} {K5 : Int → Int → Int → Int → jW → Int} {R5 : Int} (hD : jDk Dy) (hQ : ∀ (v : Int32) hx9, (-1) ≤ v.toInt ∧ v.toInt ≤ 599 → jJ jSgX Dy hx9 → jSm fp_X7_spouseOf_r78d h0 hx9 → dr = v.toInt → vw hx9 = vw h0 → Q (some (.int v)) hx9) (k5 : ∀ (l1 : Int32) (l2 : Int32) (l3 : Int32) (l4 : Int32) (h : jH), 600 - l4.toInt < R5 → 0 ≤ l1.toInt ∧ l1.toInt ≤ 599 → 0 ≤ l4.toInt ∧ l4.toInt ≤ 600 → l4.toInt % 3 = 0 → jJ jSgX Dy h → jSm fp_X7_spouseOf_r78d h0 h → K5 l1.toInt l2.toInt l3.toInt l4.toInt (vw h) = dr → vw h = vw h0 → jX m_X7_spouseOf 4 0 0 5 [(0, .ref 78), (1, .int l1), (2, .int l2), (3, .int l3), (4, .int l4)] [] h 0 0 Q) : ∀ (l1 : Int32) (l2 : Int32) (l3 : Int32) (l4 : Int32) (g0 : Int32) (h : jH), 0 ≤ l1.toInt ∧ l1.toInt ≤ 599 → 0 ≤ l4.toInt ∧ l4.toInt ≤ 597 → l4.toInt % 3 = 0 → 0 ≤ g0.toInt ∧ g0.toInt ≤ 200 → jiv h 33 3 = g0 → 600 - l4.toInt ≤ R5 → jJ jSgX Dy h → jSm fp_X7_spouseOf_r78d h0 h → d_X7_spouseOf_r78d_67 K5  l1.toInt l2.toInt l3.toInt l4.toInt (vw h) = dr → vw h = vw h0 → jX m_X7_spouseOf 4 0 0 67 [(0, .ref 78), (1, .int l1), (2, .int l2), (3, .int l3), (4, .int l4)] [] h 0 0 Q := by
  intro l1 l2 l3 l4 g0 h y0 y1 y2 y3 z0 m5 J Sm D EV
  have el2 := jfull l2
  have el3 := jfull l3
  unfold d_X7_spouseOf_r78d_67 at D
  try rw [vrf z0] at D
  refine x_aloadn (x := 78) rfl rfl ?_
  refine x_aloadn (x := 78) rfl rfl ?_
  refine z_getR (N := 16) (b := 82) 7 10 rfl f_7_37 rfl J rfl 9994 ⟨rfl, rfl⟩ rfl ?_
  refine x_iload (x := l4) rfl rfl ?_
  refine z_iald (N := 600) rfl J rfl sg_82_0_600_1_0_1 rfl (by omega) (fun v1 qv1 ev1 => ?_)
  try rw [vrd qv1 (show l4.toInt = l4.toInt from by omega)] at D
  refine x_iloadn (x := l1) rfl rfl ?_
  refine x_icne (tgt := 86) rfl rfl (ti_ne rfl rfl ⟨fun c2 => ?_, fun c2 => ?_⟩)
  ·
    rw [if_neg (by omega)] at D
    refine x_iload (x := l4) rfl rfl ?_
    exact jX.sub (jsb_c rfl (jsb_c rfl (jsb_c rfl (jsb_c rfl (jsb_c rfl jsb_n))))) (ct_X7_spouseOf_r78d_88 hD hQ k5 l1 l2 l3 l4 l4 g0 h (jr_of rfl (by omega)) (jr_of rfl (by omega)) (jr_mod rfl (by omega)) (jr_of rfl (by omega)) (jr_of rfl (by omega)) z0 (by omega) J Sm D EV)
  ·
    rw [if_pos (by omega)] at D
    refine x_iload (x := l4) rfl rfl ?_
    refine x_iconst (v := 1) rfl ki_1 ?_
    refine z_iadd rfl rfl jk_1 (by omega) (fun v3 ev3 => ?_)
    refine x_goto (tgt := 88) rfl rfl ?_
    try rw [show (l4.toInt + 1) = v3.toInt from by omega] at D
    exact jX.sub (jsb_c rfl (jsb_c rfl (jsb_c rfl (jsb_c rfl (jsb_c rfl jsb_n))))) (ct_X7_spouseOf_r78d_88 hD hQ k5 l1 l2 l3 l4 v3 g0 h (jr_of rfl (by omega)) (jr_of rfl (by omega)) (jr_mod rfl (by omega)) (jr_of rfl (by omega)) (jr_of rfl (by omega)) z0 (by omega) J Sm D EV)
set_option maxRecDepth 100000 in
set_option maxHeartbeats 4000000 in
theorem ct_X7_spouseOf_r78d_5 {Dy : jH → Prop} {h0 : jH} {Q : Option Value → jH → Prop} {dr : Int} (hD : jDk Dy) (hQ : ∀ (v : Int32) hx9, (-1) ≤ v.toInt ∧ v.toInt ≤ 599 → jJ jSgX Dy hx9 → jSm fp_X7_spouseOf_r78d h0 hx9 → dr = v.toInt → vw hx9 = vw h0 → Q (some (.int v)) hx9) : ∀ r : Nat, ∀ (l1 : Int32) (l2 : Int32) (l3 : Int32) (l4 : Int32) (h : jH), 600 - l4.toInt < (r : Int) → 0 ≤ l1.toInt ∧ l1.toInt ≤ 599 → 0 ≤ l4.toInt ∧ l4.toInt ≤ 600 → l4.toInt % 3 = 0 → jJ jSgX Dy h → jSm fp_X7_spouseOf_r78d h0 h → d_X7_spouseOf_r78d_5 r l1.toInt l2.toInt l3.toInt l4.toInt (vw h) = dr → vw h = vw h0 → jX m_X7_spouseOf 4 0 0 5 [(0, .ref 78), (1, .int l1), (2, .int l2), (3, .int l3), (4, .int l4)] [] h 0 0 Q := by
  intro r
  induction r with
  | zero =>
    intro l1 l2 l3 l4 h hm y0 y1 y2   J Sm D EV
    exfalso
    have el2 := jfull l2
    have el3 := jfull l3
    omega
  | succ r ih =>
    intro l1 l2 l3 l4 h hm y0 y1 y2   J Sm D EV
    have el2 := jfull l2
    have el3 := jfull l3
    rw [d_X7_spouseOf_r78d_5.eq_2] at D
    refine x_iload (x := l4) rfl rfl ?_
    refine x_aloadn (x := 78) rfl rfl ?_
    refine z_getR (N := 16) (b := 32) 7 0 rfl f_7_55 rfl J rfl 9984 ⟨rfl, rfl⟩ rfl ?_
    refine z_getR (N := 20) (b := 33) 1 0 rfl f_7_63 rfl J rfl 4096 ⟨rfl, rfl⟩ rfl ?_
    refine z_getI (N := 4) 8 3 rfl f_7_85 rfl J rfl sg_33_3_4_1_0_1 (fun v1 qv1 ev1 => ?_)
    try rw [vrf qv1] at D
    refine x_iconst (v := 3) rfl ki_3 ?_
    refine z_imul rfl rfl jk_3 (by omega) (fun v2 ev2 => ?_)
    refine x_icge (tgt := 116) rfl rfl (ti_ge rfl rfl ⟨fun c3 => ?_, fun c3 => ?_⟩)
    ·
      rw [if_pos (by omega)] at D
      exact jX.sub jsb_n (ct_X7_spouseOf_r78d_116 hD hQ  h J Sm D EV)
    ·
      rw [if_neg (by omega)] at D
      refine x_iload (x := l4) rfl rfl ?_
      refine x_iconst (v := 1) rfl ki_1 ?_
      refine z_iadd rfl rfl jk_1 (by omega) (fun v4 ev4 => ?_)
      refine x_sipush (v := 600) rfl ks_600 ?_
      refine x_icge (tgt := 116) rfl rfl (ti_ge rfl jk_600 (br_f (by omega) ?_))
      refine x_aloadn (x := 78) rfl rfl ?_
      refine z_getR (N := 16) (b := 79) 7 7 rfl f_7_27 rfl J rfl 9991 ⟨rfl, rfl⟩ rfl ?_
      refine x_iload (x := l4) rfl rfl ?_
      refine z_iald (N := 600) rfl J rfl sg_79_0_600_1_0_1 rfl (by omega) (fun v5 qv5 ev5 => ?_)
      try rw [vrd qv5 (show l4.toInt = l4.toInt from by omega)] at D
      refine x_iconst (v := 3) rfl ki_3 ?_
      refine x_icne (tgt := 110) rfl rfl (ti_ne rfl jk_3 ⟨fun c6 => ?_, fun c6 => ?_⟩)
      ·
        rw [if_neg (by omega)] at D
        exact jX.sub (jsb_c rfl (jsb_c rfl (jsb_c rfl (jsb_c rfl (jsb_c rfl jsb_n))))) (ct_X7_spouseOf_r78d_110 hD hQ ih l1 l2 l3 l4 h (jr_of rfl (by omega)) (jr_of rfl (by omega)) (jr_mod rfl (by omega)) (by omega) J Sm D EV)
      ·
        rw [if_pos (by omega)] at D
        refine x_aloadn (x := 78) rfl rfl ?_
        refine z_getR (N := 16) (b := 82) 7 10 rfl f_7_37 rfl J rfl 9994 ⟨rfl, rfl⟩ rfl ?_
        refine x_iload (x := l4) rfl rfl ?_
        refine z_iald (N := 600) rfl J rfl sg_82_0_600_1_0_1 rfl (by omega) (fun v7 qv7 ev7 => ?_)
        try rw [vrd qv7 (show l4.toInt = l4.toInt from by omega)] at D
        refine x_iloadn (x := l1) rfl rfl ?_
        refine x_iceq (tgt := 67) rfl rfl (ti_eq rfl rfl ⟨fun c8 => ?_, fun c8 => ?_⟩)
        ·
          rw [if_pos (by omega)] at D
          exact jX.sub (jsb_c rfl (jsb_c rfl (jsb_c rfl (jsb_c rfl (jsb_c rfl jsb_n))))) (ct_X7_spouseOf_r78d_67 hD hQ ih l1 l2 l3 l4 v1 h (jr_of rfl (by omega)) (jr_of rfl (by omega)) (jr_mod rfl (by omega)) (jr_of rfl (by omega)) qv1 (by omega) J Sm D EV)
        ·
          rw [if_neg (by omega)] at D
          refine x_aloadn (x := 78) rfl rfl ?_
          refine z_getR (N := 16) (b := 82) 7 10 rfl f_7_37 rfl J rfl 9994 ⟨rfl, rfl⟩ rfl ?_
          refine x_iload (x := l4) rfl rfl ?_
          refine x_iconst (v := 1) rfl ki_1 ?_
          refine z_iadd rfl rfl jk_1 (by omega) (fun v9 ev9 => ?_)
          refine z_iald (N := 600) rfl J rfl sg_82_0_600_1_0_1 rfl (by omega) (fun v10 qv10 ev10 => ?_)
          try rw [vrd qv10 (show (l4.toInt + 1) = v9.toInt from by omega)] at D
          refine x_iloadn (x := l1) rfl rfl ?_
          refine x_icne (tgt := 110) rfl rfl (ti_ne rfl rfl ⟨fun c11 => ?_, fun c11 => ?_⟩)
          ·
            rw [if_neg (by omega)] at D
            exact jX.sub (jsb_c rfl (jsb_c rfl (jsb_c rfl (jsb_c rfl (jsb_c rfl jsb_n))))) (ct_X7_spouseOf_r78d_110 hD hQ ih l1 l2 l3 l4 h (jr_of rfl (by omega)) (jr_of rfl (by omega)) (jr_mod rfl (by omega)) (by omega) J Sm D EV)
          ·
            rw [if_pos (by omega)] at D
            exact jX.sub (jsb_c rfl (jsb_c rfl (jsb_c rfl (jsb_c rfl (jsb_c rfl jsb_n))))) (ct_X7_spouseOf_r78d_67 hD hQ ih l1 l2 l3 l4 v1 h (jr_of rfl (by omega)) (jr_of rfl (by omega)) (jr_mod rfl (by omega)) (jr_of rfl (by omega)) qv1 (by omega) J Sm D EV)
set_option maxRecDepth 100000 in
set_option maxHeartbeats 4000000 in
theorem sf_X7_spouseOf_r78d {Dy : jH → Prop} {h : jH} {Q : Option Value → jH → Prop} {dr : Int} {a1 : Int32} {a2 : Int32} (y1 : 0 ≤ a1.toInt ∧ a1.toInt ≤ 599) (hD : jDk Dy) (J : jJ jSgX Dy h) (D : d_X7_spouseOf_r78d a1.toInt a2.toInt (vw h) = dr) (hQ : ∀ (v : Int32) hx9, (-1) ≤ v.toInt ∧ v.toInt ≤ 599 → jJ jSgX Dy hx9 → jSm fp_X7_spouseOf_r78d h hx9 → dr = v.toInt → vw hx9 = vw h → Q (some (.int v)) hx9) : jC m_X7_spouseOf 4 0 0 [.ref 78, .int a1, .int a2] h Q := by
  refine jC.of rfl k_X7_spouseOf rfl ?_
  have Sm := jSm_rf fp_X7_spouseOf_r78d h
  have ea2 := jfull a2
  show jX m_X7_spouseOf 4 0 0 0 [(0, .ref 78), (1, .int a1), (2, .int a2)] [] _ 0 0 _
  unfold d_X7_spouseOf_r78d at D
  have EV : vw h = vw h := rfl
  refine x_iconst (v := 0) rfl ki_0 ?_
  refine x_istoren (lsx9 := [(3, .int 0), (0, .ref 78), (1, .int a1), (2, .int a2)]) rfl rfl rfl ?_
  refine x_iconst (v := 0) rfl ki_0 ?_
  refine x_istore (lsx9 := [(4, .int 0), (3, .int 0), (0, .ref 78), (1, .int a1), (2, .int a2)]) rfl rfl rfl ?_
  exact jX.sub (jsb_c rfl (jsb_c rfl (jsb_c rfl (jsb_c rfl (jsb_c rfl jsb_n))))) (ct_X7_spouseOf_r78d_5 hD hQ  601 a1 a2 0 0 h (by have := jk_0; omega) (jr_of rfl (by omega)) (jr_of jk_0 (by omega)) (jr_mod jk_0 (by omega)) J Sm (by rw [jk_0]; exact D) EV)
def fp_X11_kin_r31d : jFp := [(78, 13, 14), (82, 0, 600), (83, 0, 600), (84, 0, 200), (86, 0, 3)]
set_option maxRecDepth 100000 in
set_option maxHeartbeats 4000000 in
theorem sf_X11_kin_r31d {Dy : jH → Prop} {h : jH} {Q : Option Value → jH → Prop} {dr : (Int × jW)} {a1 : Int32} {a2 : Int32} {a3 : Int32} {a4 : Int32} (hD : jDk Dy) (J : jJ jSgX Dy h) (D : d_X11_kin_r31d a1.toInt a2.toInt a3.toInt a4.toInt (vw h) = dr) (hQ : ∀ (v : Int32) hx9, (-1) ≤ v.toInt ∧ v.toInt ≤ 599 → jJ jSgX Dy hx9 → jSm fp_X11_kin_r31d h hx9 → dr.1 = v.toInt → dr.2 = vw hx9 → Q (some (.int v)) hx9) : jC m_X11_kin 8 0 0 [.ref 31, .int a1, .int a2, .int a3, .int a4] h Q := by
  refine jC.of rfl k_X11_kin rfl ?_
  have Sm := jSm_rf fp_X11_kin_r31d h
  have ea1 := jfull a1
  have ea2 := jfull a2
  have ea3 := jfull a3
  have ea4 := jfull a4
  show jX m_X11_kin 8 0 0 0 [(0, .ref 31), (1, .int a1), (2, .int a2), (3, .int a3), (4, .int a4)] [] _ 0 0 _
  unfold d_X11_kin_r31d at D
  refine x_aloadn (x := 31) rfl rfl ?_
  refine x_iloadn (x := a1) rfl rfl ?_
  refine x_iloadn (x := a2) rfl rfl ?_
  refine x_inv (N := m_X11_soulOn) (As := [.int a1, .int a2]) (b := 31) (st := []) (dx9 := 7) (mc := 0) (ms := 0) (host := "") 11 rfl t_X11_soulOn ⟨Or.inl q_11_234, i_X11_soulOn.1, i_X11_soulOn.2⟩ ⟨by decide, rfl⟩ (congrArg Prod.fst (J.1.1 31 (11, 13) rfl)) rfl (by decide) rfl rfl ⟨by decide, by decide⟩ (jC.of rfl k_X11_soulOn rfl ?_)
  show jX m_X11_soulOn 7 0 0 0 [(0, .ref 31), (1, .int a1), (2, .int a2)] [] _ 0 0 _
  refine x_iloadn (x := a2) rfl rfl ?_
  refine x_inst (N := m_X11_isDay) (As := [.int a2]) (st := []) (dx9 := 1) (mc := 0) (ms := 0) (host := "") rfl t_X11_isDay ⟨Or.inl q_11_115, s_X11_isDay⟩ rfl (by decide) rfl rfl ⟨by decide, by decide⟩ (zc_X11_isDay rfl (fun v1 ev1 => ?_))
  show jX m_X11_soulOn 7 0 0 4 [(0, .ref 31), (1, .int a1), (2, .int a2)] [.int v1] _ 0 0 _
  refine x_ifeq (tgt := 18) rfl rfl (ti_eq rfl jk_0 ⟨fun c2 => ?_, fun c2 => ?_⟩)
  ·
    rw [if_neg (by omega)] at D
    refine x_iconst (v := (-1)) rfl ki_m1 ?_
    refine x_iret rfl rfl ?_
    show jX m_X11_kin 8 0 0 6 [(0, .ref 31), (1, .int a1), (2, .int a2), (3, .int a3), (4, .int a4)] [.int (-1)] _ 0 0 _
    refine x_istore (lsx9 := [(5, .int (-1)), (0, .ref 31), (1, .int a1), (2, .int a2), (3, .int a3), (4, .int a4)]) rfl rfl rfl ?_
    refine x_iload (x := (-1)) rfl rfl ?_
    refine x_iconst (v := (-1)) rfl ki_m1 ?_
    refine x_icne (tgt := 16) rfl rfl (ti_ne jk_m1 jk_m1 (bn_f (by omega) ?_))
    refine x_iconst (v := (-1)) rfl ki_m1 ?_
    refine x_iret rfl rfl ?_
    exact hQ _ _ (jr_of jk_m1 (by omega)) J Sm ((congrArg Prod.fst D).symm.trans (show (-1) = ((-1) : Int32).toInt from by have := jk_m1; omega)) (congrArg Prod.snd D).symm
  ·
    rw [if_pos (by omega)] at D
    refine x_aloadn (x := 31) rfl rfl ?_
    refine z_getR (N := 13) (b := 78) 11 4 rfl f_11_41 rfl J rfl 3972 ⟨rfl, rfl⟩ rfl ?_
    refine x_iloadn (x := a1) rfl rfl ?_
    refine x_inv (N := m_X7_isMention) (As := [.int a1]) (b := 78) (st := []) (dx9 := 6) (mc := 0) (ms := 0) (host := "") 7 rfl t_X7_isMention ⟨Or.inl q_11_187, i_X7_isMention.1, i_X7_isMention.2⟩ ⟨by decide, rfl⟩ (congrArg Prod.fst (J.1.1 78 (7, 16) rfl)) rfl (by decide) rfl rfl ⟨by decide, by decide⟩ (jC.of rfl k_X7_isMention rfl ?_)
    show jX m_X7_isMention 6 0 0 0 [(0, .ref 78), (1, .int a1)] [] _ 0 0 _
    refine x_iloadn (x := a1) rfl rfl ?_
    refine x_iflt (tgt := 41) rfl rfl (ti_lt rfl jk_0 ⟨fun c3 => ?_, fun c3 => ?_⟩)
    ·
      rw [if_pos (by omega)] at D
      refine x_iconst (v := 0) rfl ki_0 ?_
      refine x_zret rfl rfl (by decide) ?_
      show jX m_X11_soulOn 7 0 0 15 [(0, .ref 31), (1, .int a1), (2, .int a2)] [.int 0] _ 0 0 _
      refine x_ifne (tgt := 20) rfl rfl (ti_ne jk_0 jk_0 (bn_f (by omega) ?_))
      refine x_iconst (v := (-1)) rfl ki_m1 ?_
      refine x_iret rfl rfl ?_
      show jX m_X11_kin 8 0 0 6 [(0, .ref 31), (1, .int a1), (2, .int a2), (3, .int a3), (4, .int a4)] [.int (-1)] _ 0 0 _
      refine x_istore (lsx9 := [(5, .int (-1)), (0, .ref 31), (1, .int a1), (2, .int a2), (3, .int a3), (4, .int a4)]) rfl rfl rfl ?_
      refine x_iload (x := (-1)) rfl rfl ?_
      refine x_iconst (v := (-1)) rfl ki_m1 ?_
      refine x_icne (tgt := 16) rfl rfl (ti_ne jk_m1 jk_m1 (bn_f (by omega) ?_))
      refine x_iconst (v := (-1)) rfl ki_m1 ?_
      refine x_iret rfl rfl ?_
      exact hQ _ _ (jr_of jk_m1 (by omega)) J Sm ((congrArg Prod.fst D).symm.trans (show (-1) = ((-1) : Int32).toInt from by have := jk_m1; omega)) (congrArg Prod.snd D).symm
    ·
      rw [if_neg (by omega)] at D
      refine x_iloadn (x := a1) rfl rfl ?_
      refine x_sipush (v := 600) rfl ks_600 ?_
      refine x_icge (tgt := 41) rfl rfl (ti_ge rfl jk_600 ⟨fun c4 => ?_, fun c4 => ?_⟩)
      ·
        rw [if_pos (by omega)] at D
        refine x_iconst (v := 0) rfl ki_0 ?_
        refine x_zret rfl rfl (by decide) ?_
        show jX m_X11_soulOn 7 0 0 15 [(0, .ref 31), (1, .int a1), (2, .int a2)] [.int 0] _ 0 0 _
        refine x_ifne (tgt := 20) rfl rfl (ti_ne jk_0 jk_0 (bn_f (by omega) ?_))
        refine x_iconst (v := (-1)) rfl ki_m1 ?_
        refine x_iret rfl rfl ?_
        show jX m_X11_kin 8 0 0 6 [(0, .ref 31), (1, .int a1), (2, .int a2), (3, .int a3), (4, .int a4)] [.int (-1)] _ 0 0 _
        refine x_istore (lsx9 := [(5, .int (-1)), (0, .ref 31), (1, .int a1), (2, .int a2), (3, .int a3), (4, .int a4)]) rfl rfl rfl ?_
        refine x_iload (x := (-1)) rfl rfl ?_
        refine x_iconst (v := (-1)) rfl ki_m1 ?_
        refine x_icne (tgt := 16) rfl rfl (ti_ne jk_m1 jk_m1 (bn_f (by omega) ?_))
        refine x_iconst (v := (-1)) rfl ki_m1 ?_
        refine x_iret rfl rfl ?_
        exact hQ _ _ (jr_of jk_m1 (by omega)) J Sm ((congrArg Prod.fst D).symm.trans (show (-1) = ((-1) : Int32).toInt from by have := jk_m1; omega)) (congrArg Prod.snd D).symm
      ·
        rw [if_neg (by omega)] at D
        refine x_iloadn (x := a1) rfl rfl ?_
        refine x_iconst (v := 3) rfl ki_3 ?_
        refine z_idiv rfl rfl jk_3 (by omega) (by omega) (fun v5 ev5 => ?_)
        refine x_aloadn (x := 78) rfl rfl ?_
        refine z_getR (N := 16) (b := 32) 7 0 rfl f_7_55 rfl J rfl 9984 ⟨rfl, rfl⟩ rfl ?_
        refine z_getR (N := 20) (b := 33) 1 0 rfl f_7_63 rfl J rfl 4096 ⟨rfl, rfl⟩ rfl ?_
        refine z_getI (N := 4) 8 3 rfl f_7_85 rfl J rfl sg_33_3_4_1_0_1 (fun v6 qv6 ev6 => ?_)
        try rw [vrf qv6] at D
        refine x_icge (tgt := 41) rfl rfl (ti_ge rfl rfl ⟨fun c7 => ?_, fun c7 => ?_⟩)
        ·
          rw [if_pos (by omega)] at D
          refine x_iconst (v := 0) rfl ki_0 ?_
          refine x_zret rfl rfl (by decide) ?_
          show jX m_X11_soulOn 7 0 0 15 [(0, .ref 31), (1, .int a1), (2, .int a2)] [.int 0] _ 0 0 _
          refine x_ifne (tgt := 20) rfl rfl (ti_ne jk_0 jk_0 (bn_f (by omega) ?_))
          refine x_iconst (v := (-1)) rfl ki_m1 ?_
          refine x_iret rfl rfl ?_
          show jX m_X11_kin 8 0 0 6 [(0, .ref 31), (1, .int a1), (2, .int a2), (3, .int a3), (4, .int a4)] [.int (-1)] _ 0 0 _
          refine x_istore (lsx9 := [(5, .int (-1)), (0, .ref 31), (1, .int a1), (2, .int a2), (3, .int a3), (4, .int a4)]) rfl rfl rfl ?_
          refine x_iload (x := (-1)) rfl rfl ?_
          refine x_iconst (v := (-1)) rfl ki_m1 ?_
          refine x_icne (tgt := 16) rfl rfl (ti_ne jk_m1 jk_m1 (bn_f (by omega) ?_))
          refine x_iconst (v := (-1)) rfl ki_m1 ?_
          refine x_iret rfl rfl ?_
          exact hQ _ _ (jr_of jk_m1 (by omega)) J Sm ((congrArg Prod.fst D).symm.trans (show (-1) = ((-1) : Int32).toInt from by have := jk_m1; omega)) (congrArg Prod.snd D).symm
        ·
          rw [if_neg (by omega)] at D
          refine x_aloadn (x := 78) rfl rfl ?_
          refine z_getR (N := 16) (b := 79) 7 7 rfl f_7_27 rfl J rfl 9991 ⟨rfl, rfl⟩ rfl ?_
          refine x_iloadn (x := a1) rfl rfl ?_
          refine z_iald (N := 600) rfl J rfl sg_79_0_600_1_0_1 rfl (by omega) (fun v8 qv8 ev8 => ?_)
          try rw [vrd qv8 (show a1.toInt = a1.toInt from by omega)] at D
          refine x_iconst (v := (-1)) rfl ki_m1 ?_
          refine x_iceq (tgt := 41) rfl rfl (ti_eq rfl jk_m1 ⟨fun c9 => ?_, fun c9 => ?_⟩)
          ·
            rw [if_pos (by omega)] at D
            refine x_iconst (v := 0) rfl ki_0 ?_
            refine x_zret rfl rfl (by decide) ?_
            show jX m_X11_soulOn 7 0 0 15 [(0, .ref 31), (1, .int a1), (2, .int a2)] [.int 0] _ 0 0 _
            refine x_ifne (tgt := 20) rfl rfl (ti_ne jk_0 jk_0 (bn_f (by omega) ?_))
            refine x_iconst (v := (-1)) rfl ki_m1 ?_
            refine x_iret rfl rfl ?_
            show jX m_X11_kin 8 0 0 6 [(0, .ref 31), (1, .int a1), (2, .int a2), (3, .int a3), (4, .int a4)] [.int (-1)] _ 0 0 _
            refine x_istore (lsx9 := [(5, .int (-1)), (0, .ref 31), (1, .int a1), (2, .int a2), (3, .int a3), (4, .int a4)]) rfl rfl rfl ?_
            refine x_iload (x := (-1)) rfl rfl ?_
            refine x_iconst (v := (-1)) rfl ki_m1 ?_
            refine x_icne (tgt := 16) rfl rfl (ti_ne jk_m1 jk_m1 (bn_f (by omega) ?_))
            refine x_iconst (v := (-1)) rfl ki_m1 ?_
            refine x_iret rfl rfl ?_
            exact hQ _ _ (jr_of jk_m1 (by omega)) J Sm ((congrArg Prod.fst D).symm.trans (show (-1) = ((-1) : Int32).toInt from by have := jk_m1; omega)) (congrArg Prod.snd D).symm
          ·
            rw [if_neg (by omega)] at D
            refine x_iconst (v := 1) rfl ki_1 ?_
            refine x_goto (tgt := 42) rfl rfl ?_
            refine x_zret rfl rfl (by decide) ?_
            show jX m_X11_soulOn 7 0 0 15 [(0, .ref 31), (1, .int a1), (2, .int a2)] [.int 1] _ 0 0 _
            refine x_ifne (tgt := 20) rfl rfl (ti_ne jk_1 jk_0 (bn_t (by omega) ?_))
            refine x_aloadn (x := 31) rfl rfl ?_
            refine z_getR (N := 13) (b := 78) 11 4 rfl f_11_41 rfl J rfl 3972 ⟨rfl, rfl⟩ rfl ?_
            refine x_iloadn (x := a2) rfl rfl ?_
            refine x_inv (N := m_X7_asKnown) (As := [.int a2]) (b := 78) (st := []) (dx9 := 6) (mc := 0) (ms := 0) (host := "") 7 rfl t_X7_asKnown ⟨Or.inl q_11_240, i_X7_asKnown.1, i_X7_asKnown.2⟩ ⟨by decide, rfl⟩ (congrArg Prod.fst (J.1.1 78 (7, 16) rfl)) rfl (by decide) rfl rfl ⟨by decide, by decide⟩ (sf_X7_asKnown_r78d (jr_of rfl (by omega)) hD J rfl  (fun h J S10 X11 => ?_))
            have Sm := jSm_tr rfl Sm S10
            rw [X11] at D
            show jX m_X11_soulOn 7 0 0 28 [(0, .ref 31), (1, .int a1), (2, .int a2)] [] _ 0 0 _
            refine x_aloadn (x := 31) rfl rfl ?_
            refine z_getR (N := 13) (b := 78) 11 4 rfl f_11_41 rfl J rfl 3972 ⟨rfl, rfl⟩ rfl ?_
            refine z_getR (N := 16) (b := 82) 7 10 rfl f_11_537 rfl J rfl 9994 ⟨rfl, rfl⟩ rfl ?_
            refine x_iloadn (x := a1) rfl rfl ?_
            refine z_iald (N := 600) rfl J rfl sg_82_0_600_1_0_1 rfl (by omega) (fun v12 qv12 ev12 => ?_)
            try rw [vrd qv12 (show a1.toInt = a1.toInt from by omega)] at D
            refine x_iret rfl rfl ?_
            show jX m_X11_kin 8 0 0 6 [(0, .ref 31), (1, .int a1), (2, .int a2), (3, .int a3), (4, .int a4)] [.int v12] _ 0 0 _
            refine x_istore (lsx9 := [(5, .int v12), (0, .ref 31), (1, .int a1), (2, .int a2), (3, .int a3), (4, .int a4)]) rfl rfl rfl ?_
            refine x_iload (x := v12) rfl rfl ?_
            refine x_iconst (v := (-1)) rfl ki_m1 ?_
            refine x_icne (tgt := 16) rfl rfl (ti_ne rfl jk_m1 ⟨fun c13 => ?_, fun c13 => ?_⟩)
            ·
              rw [if_neg (by omega)] at D
              refine x_iloadn (x := a3) rfl rfl ?_
              by_cases c14 : a3.toInt = 0
              ·
                refine x_tableIn (tgt := 48) 0 rfl c14 (by decide) (by decide) rfl rfl ?_
                rw [if_pos c14] at D
                refine x_aloadn (x := 31) rfl rfl ?_
                refine z_getR (N := 13) (b := 78) 11 4 rfl f_11_41 rfl J rfl 3972 ⟨rfl, rfl⟩ rfl ?_
                refine x_iload (x := v12) rfl rfl ?_
                refine x_iconst (v := 1) rfl ki_1 ?_
                refine x_inv (N := m_X7_parentOf) (As := [.int v12, .int 1]) (b := 78) (st := []) (dx9 := 7) (mc := 0) (ms := 0) (host := "") 7 rfl t_X7_parentOf ⟨Or.inl q_11_255, i_X7_parentOf.1, i_X7_parentOf.2⟩ ⟨by decide, rfl⟩ (congrArg Prod.fst (J.1.1 78 (7, 16) rfl)) rfl (by decide) rfl rfl ⟨by decide, by decide⟩ (jC.of rfl k_X7_parentOf rfl ?_)
                show jX m_X7_parentOf 7 0 0 0 [(0, .ref 78), (1, .int v12), (2, .int 1)] [] _ 0 0 _
                refine x_aloadn (x := 78) rfl rfl ?_
                refine x_iloadn (x := v12) rfl rfl ?_
                refine x_inv (N := m_X7_birthOf) (As := [.int v12]) (b := 78) (st := []) (dx9 := 1) (mc := 0) (ms := 0) (host := "") 7 rfl t_X7_birthOf ⟨Or.inl q_7_176, i_X7_birthOf.1, i_X7_birthOf.2⟩ ⟨by decide, rfl⟩ (congrArg Prod.fst (J.1.1 78 (7, 16) rfl)) rfl (by decide) rfl rfl ⟨by decide, by decide⟩ (sf_X7_birthOf_r78d (jr_of rfl (by omega)) hD J rfl  (fun v18 h ev18 J S15 X16 X17 => ?_))
                have Sm := jSm_tr rfl Sm S15
                try rw [X16] at D
                try rw [← X17] at D
                show jX m_X7_parentOf 7 0 0 5 [(0, .ref 78), (1, .int v12), (2, .int 1)] [.int v18] _ 0 0 _
                refine x_istoren (lsx9 := [(3, .int v18), (0, .ref 78), (1, .int v12), (2, .int 1)]) rfl rfl rfl ?_
                refine x_iloadn (x := v18) rfl rfl ?_
                refine x_iconst (v := (-1)) rfl ki_m1 ?_
                refine x_icne (tgt := 15) rfl rfl (ti_ne rfl jk_m1 ⟨fun c19 => ?_, fun c19 => ?_⟩)
                ·
                  rw [if_neg (by omega)] at D
                  refine x_aloadn (x := 78) rfl rfl ?_
                  refine x_iloadn (x := v18) rfl rfl ?_
                  refine x_iloadn (x := 1) rfl rfl ?_
                  refine z_iadd rfl rfl jk_1 (by omega) (fun v20 ev20 => ?_)
                  refine x_inv (N := m_X7_namedSoul) (As := [.int v20]) (b := 78) (st := []) (dx9 := 6) (mc := 0) (ms := 0) (host := "") 7 rfl t_X7_namedSoul ⟨Or.inl q_7_179, i_X7_namedSoul.1, i_X7_namedSoul.2⟩ ⟨by decide, rfl⟩ (congrArg Prod.fst (J.1.1 78 (7, 16) rfl)) rfl (by decide) rfl rfl ⟨by decide, by decide⟩ (jC.of rfl k_X7_namedSoul rfl ?_)
                  show jX m_X7_namedSoul 6 0 0 0 [(0, .ref 78), (1, .int v20)] [] _ 0 0 _
                  refine x_aloadn (x := 78) rfl rfl ?_
                  refine z_getR (N := 16) (b := 70) 7 1 rfl f_7_59 rfl J rfl 9985 ⟨rfl, rfl⟩ rfl ?_
                  refine x_iloadn (x := v20) rfl rfl ?_
                  refine x_inv (N := m_X5_isNamed) (As := [.int v20]) (b := 70) (st := []) (dx9 := 5) (mc := 0) (ms := 0) (host := "") 5 rfl t_X5_isNamed ⟨Or.inl q_7_173, i_X5_isNamed.1, i_X5_isNamed.2⟩ ⟨by decide, rfl⟩ (congrArg Prod.fst (J.1.1 70 (5, 9) rfl)) rfl (by decide) rfl rfl ⟨by decide, by decide⟩ (jC.of rfl k_X5_isNamed rfl ?_)
                  show jX m_X5_isNamed 5 0 0 0 [(0, .ref 70), (1, .int v20)] [] _ 0 0 _
                  refine x_aloadn (x := 70) rfl rfl ?_
                  refine x_iloadn (x := v20) rfl rfl ?_
                  refine x_iconst (v := 0) rfl ki_0 ?_
                  refine x_inv (N := m_X5_lengthOf) (As := [.int v20, .int 0]) (b := 70) (st := []) (dx9 := 4) (mc := 0) (ms := 0) (host := "") 5 rfl t_X5_lengthOf ⟨Or.inl q_5_133, i_X5_lengthOf.1, i_X5_lengthOf.2⟩ ⟨by decide, rfl⟩ (congrArg Prod.fst (J.1.1 70 (5, 9) rfl)) rfl (by decide) rfl rfl ⟨by decide, by decide⟩ (jC.of rfl k_X5_lengthOf rfl ?_)
                  show jX m_X5_lengthOf 4 0 0 0 [(0, .ref 70), (1, .int v20), (2, .int 0)] [] _ 0 0 _
                  refine x_iloadn (x := v20) rfl rfl ?_
                  refine x_iconst (v := 2) rfl ki_2 ?_
                  refine z_imul rfl rfl jk_2 (by omega) (fun v21 ev21 => ?_)
                  refine x_iloadn (x := 0) rfl rfl ?_
                  refine z_iadd rfl rfl jk_0 (by omega) (fun v22 ev22 => ?_)
                  refine x_istoren (lsx9 := [(3, .int v22), (0, .ref 70), (1, .int v20), (2, .int 0)]) rfl rfl rfl ?_
                  refine x_iloadn (x := v22) rfl rfl ?_
                  refine x_iflt (tgt := 26) rfl rfl (ti_lt rfl jk_0 (br_f (by omega) ?_))
                  refine x_iloadn (x := v22) rfl rfl ?_
                  refine x_sipush (v := 1200) rfl ks_1200 ?_
                  refine x_icge (tgt := 26) rfl rfl (ti_ge rfl jk_1200 ⟨fun c23 => ?_, fun c23 => ?_⟩)
                  ·
                    rw [if_pos (by omega)] at D
                    refine x_iconst (v := (-1)) rfl ki_m1 ?_
                    refine x_iret rfl rfl ?_
                    show jX m_X5_isNamed 5 0 0 6 [(0, .ref 70), (1, .int v20)] [.int (-1)] _ 0 0 _
                    refine x_ifge (tgt := 18) rfl rfl (ti_ge jk_m1 jk_0 (br_f (by omega) ?_))
                    refine x_aloadn (x := 70) rfl rfl ?_
                    refine x_iloadn (x := v20) rfl rfl ?_
                    refine x_iconst (v := 1) rfl ki_1 ?_
                    refine x_inv (N := m_X5_lengthOf) (As := [.int v20, .int 1]) (b := 70) (st := []) (dx9 := 4) (mc := 0) (ms := 0) (host := "") 5 rfl t_X5_lengthOf ⟨Or.inl q_5_133, i_X5_lengthOf.1, i_X5_lengthOf.2⟩ ⟨by decide, rfl⟩ (congrArg Prod.fst (J.1.1 70 (5, 9) rfl)) rfl (by decide) rfl rfl ⟨by decide, by decide⟩ (jC.of rfl k_X5_lengthOf rfl ?_)
                    show jX m_X5_lengthOf 4 0 0 0 [(0, .ref 70), (1, .int v20), (2, .int 1)] [] _ 0 0 _
                    refine x_iloadn (x := v20) rfl rfl ?_
                    refine x_iconst (v := 2) rfl ki_2 ?_
                    refine z_imul rfl rfl jk_2 (by omega) (fun v24 ev24 => ?_)
                    refine x_iloadn (x := 1) rfl rfl ?_
                    refine z_iadd rfl rfl jk_1 (by omega) (fun v25 ev25 => ?_)
                    refine x_istoren (lsx9 := [(3, .int v25), (0, .ref 70), (1, .int v20), (2, .int 1)]) rfl rfl rfl ?_
                    refine x_iloadn (x := v25) rfl rfl ?_
                    refine x_iflt (tgt := 26) rfl rfl (ti_lt rfl jk_0 (br_f (by omega) ?_))
                    refine x_iloadn (x := v25) rfl rfl ?_
                    refine x_sipush (v := 1200) rfl ks_1200 ?_
                    refine x_icge (tgt := 26) rfl rfl (ti_ge rfl jk_1200 ⟨fun c26 => ?_, fun c26 => ?_⟩)
                    ·
                      rw [if_pos (by omega)] at D
                      refine x_iconst (v := (-1)) rfl ki_m1 ?_
                      refine x_iret rfl rfl ?_
                      show jX m_X5_isNamed 5 0 0 15 [(0, .ref 70), (1, .int v20)] [.int (-1)] _ 0 0 _
                      refine x_iflt (tgt := 22) rfl rfl (ti_lt jk_m1 jk_0 (br_t (by omega) ?_))
                      refine x_iconst (v := 0) rfl ki_0 ?_
                      refine x_zret rfl rfl (by decide) ?_
                      show jX m_X7_namedSoul 6 0 0 8 [(0, .ref 78), (1, .int v20)] [.int 0] _ 0 0 _
                      refine x_ifeq (tgt := 19) rfl rfl (ti_eq jk_0 jk_0 (br_t (by omega) ?_))
                      refine x_iconst (v := (-1)) rfl ki_m1 ?_
                      refine x_iret rfl rfl ?_
                      show jX m_X7_parentOf 7 0 0 22 [(3, .int v18), (0, .ref 78), (1, .int v12), (2, .int 1)] [.int (-1)] _ 0 0 _
                      refine x_iret rfl rfl ?_
                      show jX m_X11_kin 8 0 0 58 [(5, .int v12), (0, .ref 31), (1, .int a1), (2, .int a2), (3, .int a3), (4, .int a4)] [.int (-1)] _ 0 0 _
                      refine x_iret rfl rfl ?_
                      exact hQ _ _ (jr_of jk_m1 (by omega)) J Sm ((congrArg Prod.fst D).symm.trans (show (-1) = ((-1) : Int32).toInt from by have := jk_m1; omega)) (congrArg Prod.snd D).symm
                    ·
                      rw [if_neg (by omega)] at D
                      refine x_aloadn (x := 70) rfl rfl ?_
                      refine z_getR (N := 9) (b := 76) 5 7 rfl f_5_28 rfl J rfl 8967 ⟨rfl, rfl⟩ rfl ?_
                      refine x_iloadn (x := v25) rfl rfl ?_
                      refine z_iald (N := 1200) rfl J rfl sg_76_0_1200_1_0_1 rfl (by omega) (fun v27 qv27 ev27 => ?_)
                      try rw [vrd (jmb_c S10 (jmb_c S15 qv27 rfl) rfl) (show (((v18.toInt + 1) * 2) + 1) = v25.toInt from by omega)] at D
                      refine x_goto (tgt := 27) rfl rfl ?_
                      refine x_iret rfl rfl ?_
                      show jX m_X5_isNamed 5 0 0 15 [(0, .ref 70), (1, .int v20)] [.int v27] _ 0 0 _
                      refine x_iflt (tgt := 22) rfl rfl (ti_lt rfl jk_0 ⟨fun c28 => ?_, fun c28 => ?_⟩)
                      ·
                        rw [if_pos (by omega)] at D
                        refine x_iconst (v := 0) rfl ki_0 ?_
                        refine x_zret rfl rfl (by decide) ?_
                        show jX m_X7_namedSoul 6 0 0 8 [(0, .ref 78), (1, .int v20)] [.int 0] _ 0 0 _
                        refine x_ifeq (tgt := 19) rfl rfl (ti_eq jk_0 jk_0 (br_t (by omega) ?_))
                        refine x_iconst (v := (-1)) rfl ki_m1 ?_
                        refine x_iret rfl rfl ?_
                        show jX m_X7_parentOf 7 0 0 22 [(3, .int v18), (0, .ref 78), (1, .int v12), (2, .int 1)] [.int (-1)] _ 0 0 _
                        refine x_iret rfl rfl ?_
                        show jX m_X11_kin 8 0 0 58 [(5, .int v12), (0, .ref 31), (1, .int a1), (2, .int a2), (3, .int a3), (4, .int a4)] [.int (-1)] _ 0 0 _
                        refine x_iret rfl rfl ?_
                        exact hQ _ _ (jr_of jk_m1 (by omega)) J Sm ((congrArg Prod.fst D).symm.trans (show (-1) = ((-1) : Int32).toInt from by have := jk_m1; omega)) (congrArg Prod.snd D).symm
                      ·
                        rw [if_neg (by omega)] at D
                        refine x_iconst (v := 1) rfl ki_1 ?_
                        refine x_goto (tgt := 23) rfl rfl ?_
                        refine x_zret rfl rfl (by decide) ?_
                        show jX m_X7_namedSoul 6 0 0 8 [(0, .ref 78), (1, .int v20)] [.int 1] _ 0 0 _
                        refine x_ifeq (tgt := 19) rfl rfl (ti_eq jk_1 jk_0 (br_f (by omega) ?_))
                        refine x_aloadn (x := 78) rfl rfl ?_
                        refine x_iloadn (x := v20) rfl rfl ?_
                        refine x_inv (N := m_X7_soulAt) (As := [.int v20]) (b := 78) (st := []) (dx9 := 5) (mc := 0) (ms := 0) (host := "") 7 rfl t_X7_soulAt ⟨Or.inl q_7_153, i_X7_soulAt.1, i_X7_soulAt.2⟩ ⟨by decide, rfl⟩ (congrArg Prod.fst (J.1.1 78 (7, 16) rfl)) rfl (by decide) rfl rfl ⟨by decide, by decide⟩ (jC.of rfl k_X7_soulAt rfl ?_)
                        show jX m_X7_soulAt 5 0 0 0 [(0, .ref 78), (1, .int v20)] [] _ 0 0 _
                        refine x_iloadn (x := v20) rfl rfl ?_
                        refine x_iflt (tgt := 36) rfl rfl (ti_lt rfl jk_0 (br_f (by omega) ?_))
                        refine x_iloadn (x := v20) rfl rfl ?_
                        refine x_sipush (v := 600) rfl ks_600 ?_
                        refine x_icge (tgt := 36) rfl rfl (ti_ge rfl jk_600 ⟨fun c29 => ?_, fun c29 => ?_⟩)
                        ·
                          rw [if_pos (by omega)] at D
                          refine x_iconst (v := (-1)) rfl ki_m1 ?_
                          refine x_iret rfl rfl ?_
                          show jX m_X7_namedSoul 6 0 0 16 [(0, .ref 78), (1, .int v20)] [.int (-1)] _ 0 0 _
                          refine x_goto (tgt := 20) rfl rfl ?_
                          refine x_iret rfl rfl ?_
                          show jX m_X7_parentOf 7 0 0 22 [(3, .int v18), (0, .ref 78), (1, .int v12), (2, .int 1)] [.int (-1)] _ 0 0 _
                          refine x_iret rfl rfl ?_
                          show jX m_X11_kin 8 0 0 58 [(5, .int v12), (0, .ref 31), (1, .int a1), (2, .int a2), (3, .int a3), (4, .int a4)] [.int (-1)] _ 0 0 _
                          refine x_iret rfl rfl ?_
                          exact hQ _ _ (jr_of jk_m1 (by omega)) J Sm ((congrArg Prod.fst D).symm.trans (show (-1) = ((-1) : Int32).toInt from by have := jk_m1; omega)) (congrArg Prod.snd D).symm
                        ·
                          rw [if_neg (by omega)] at D
                          refine x_iloadn (x := v20) rfl rfl ?_
                          refine x_iconst (v := 3) rfl ki_3 ?_
                          refine z_idiv rfl rfl jk_3 (by omega) (by omega) (fun v30 ev30 => ?_)
                          refine x_aloadn (x := 78) rfl rfl ?_
                          refine z_getR (N := 16) (b := 32) 7 0 rfl f_7_55 rfl J rfl 9984 ⟨rfl, rfl⟩ rfl ?_
                          refine z_getR (N := 20) (b := 33) 1 0 rfl f_7_63 rfl J rfl 4096 ⟨rfl, rfl⟩ rfl ?_
                          refine z_getM (N := 4) (v := v6) 8 3 rfl f_7_85 rfl J rfl (jmc S15 rfl (jmc S10 rfl qv6)) ?_
                          refine x_icge (tgt := 36) rfl rfl (ti_ge rfl rfl ⟨fun c31 => ?_, fun c31 => ?_⟩)
                          ·
                            rw [if_pos (by omega)] at D
                            refine x_iconst (v := (-1)) rfl ki_m1 ?_
                            refine x_iret rfl rfl ?_
                            show jX m_X7_namedSoul 6 0 0 16 [(0, .ref 78), (1, .int v20)] [.int (-1)] _ 0 0 _
                            refine x_goto (tgt := 20) rfl rfl ?_
                            refine x_iret rfl rfl ?_
                            show jX m_X7_parentOf 7 0 0 22 [(3, .int v18), (0, .ref 78), (1, .int v12), (2, .int 1)] [.int (-1)] _ 0 0 _
                            refine x_iret rfl rfl ?_
                            show jX m_X11_kin 8 0 0 58 [(5, .int v12), (0, .ref 31), (1, .int a1), (2, .int a2), (3, .int a3), (4, .int a4)] [.int (-1)] _ 0 0 _
                            refine x_iret rfl rfl ?_
                            exact hQ _ _ (jr_of jk_m1 (by omega)) J Sm ((congrArg Prod.fst D).symm.trans (show (-1) = ((-1) : Int32).toInt from by have := jk_m1; omega)) (congrArg Prod.snd D).symm
                          ·
                            rw [if_neg (by omega)] at D
                            refine x_aloadn (x := 78) rfl rfl ?_
                            refine z_getR (N := 16) (b := 82) 7 10 rfl f_7_37 rfl J rfl 9994 ⟨rfl, rfl⟩ rfl ?_
                            refine x_iloadn (x := v20) rfl rfl ?_
                            refine z_iald (N := 600) rfl J rfl sg_82_0_600_1_0_1 rfl (by omega) (fun v32 qv32 ev32 => ?_)
                            try rw [vrd qv32 (show (v18.toInt + 1) = v20.toInt from by omega)] at D
                            refine x_goto (tgt := 37) rfl rfl ?_
                            refine x_iret rfl rfl ?_
                            show jX m_X7_namedSoul 6 0 0 16 [(0, .ref 78), (1, .int v20)] [.int v32] _ 0 0 _
                            refine x_goto (tgt := 20) rfl rfl ?_
                            refine x_iret rfl rfl ?_
                            show jX m_X7_parentOf 7 0 0 22 [(3, .int v18), (0, .ref 78), (1, .int v12), (2, .int 1)] [.int v32] _ 0 0 _
                            refine x_iret rfl rfl ?_
                            show jX m_X11_kin 8 0 0 58 [(5, .int v12), (0, .ref 31), (1, .int a1), (2, .int a2), (3, .int a3), (4, .int a4)] [.int v32] _ 0 0 _
                            refine x_iret rfl rfl ?_
                            exact hQ _ _ (jr_of rfl (by omega)) J Sm ((congrArg Prod.fst D).symm.trans (show v32.toInt = v32.toInt from by omega)) (congrArg Prod.snd D).symm
                  ·
                    rw [if_neg (by omega)] at D
                    refine x_aloadn (x := 70) rfl rfl ?_
                    refine z_getR (N := 9) (b := 76) 5 7 rfl f_5_28 rfl J rfl 8967 ⟨rfl, rfl⟩ rfl ?_
                    refine x_iloadn (x := v22) rfl rfl ?_
                    refine z_iald (N := 1200) rfl J rfl sg_76_0_1200_1_0_1 rfl (by omega) (fun v33 qv33 ev33 => ?_)
                    try rw [vrd (jmb_c S10 (jmb_c S15 qv33 rfl) rfl) (show (((v18.toInt + 1) * 2) + 0) = v22.toInt from by omega)] at D
                    refine x_goto (tgt := 27) rfl rfl ?_
                    refine x_iret rfl rfl ?_
                    show jX m_X5_isNamed 5 0 0 6 [(0, .ref 70), (1, .int v20)] [.int v33] _ 0 0 _
                    refine x_ifge (tgt := 18) rfl rfl (ti_ge rfl jk_0 ⟨fun c34 => ?_, fun c34 => ?_⟩)
                    ·
                      rw [if_pos (by omega)] at D
                      refine x_iconst (v := 1) rfl ki_1 ?_
                      refine x_goto (tgt := 23) rfl rfl ?_
                      refine x_zret rfl rfl (by decide) ?_
                      show jX m_X7_namedSoul 6 0 0 8 [(0, .ref 78), (1, .int v20)] [.int 1] _ 0 0 _
                      refine x_ifeq (tgt := 19) rfl rfl (ti_eq jk_1 jk_0 (br_f (by omega) ?_))
                      refine x_aloadn (x := 78) rfl rfl ?_
                      refine x_iloadn (x := v20) rfl rfl ?_
                      refine x_inv (N := m_X7_soulAt) (As := [.int v20]) (b := 78) (st := []) (dx9 := 5) (mc := 0) (ms := 0) (host := "") 7 rfl t_X7_soulAt ⟨Or.inl q_7_153, i_X7_soulAt.1, i_X7_soulAt.2⟩ ⟨by decide, rfl⟩ (congrArg Prod.fst (J.1.1 78 (7, 16) rfl)) rfl (by decide) rfl rfl ⟨by decide, by decide⟩ (jC.of rfl k_X7_soulAt rfl ?_)
                      show jX m_X7_soulAt 5 0 0 0 [(0, .ref 78), (1, .int v20)] [] _ 0 0 _
                      refine x_iloadn (x := v20) rfl rfl ?_
                      refine x_iflt (tgt := 36) rfl rfl (ti_lt rfl jk_0 (br_f (by omega) ?_))
                      refine x_iloadn (x := v20) rfl rfl ?_
                      refine x_sipush (v := 600) rfl ks_600 ?_
                      refine x_icge (tgt := 36) rfl rfl (ti_ge rfl jk_600 ⟨fun c35 => ?_, fun c35 => ?_⟩)
                      ·
                        rw [if_pos (by omega)] at D
                        refine x_iconst (v := (-1)) rfl ki_m1 ?_
                        refine x_iret rfl rfl ?_
                        show jX m_X7_namedSoul 6 0 0 16 [(0, .ref 78), (1, .int v20)] [.int (-1)] _ 0 0 _
                        refine x_goto (tgt := 20) rfl rfl ?_
                        refine x_iret rfl rfl ?_
                        show jX m_X7_parentOf 7 0 0 22 [(3, .int v18), (0, .ref 78), (1, .int v12), (2, .int 1)] [.int (-1)] _ 0 0 _
                        refine x_iret rfl rfl ?_
                        show jX m_X11_kin 8 0 0 58 [(5, .int v12), (0, .ref 31), (1, .int a1), (2, .int a2), (3, .int a3), (4, .int a4)] [.int (-1)] _ 0 0 _
                        refine x_iret rfl rfl ?_
                        exact hQ _ _ (jr_of jk_m1 (by omega)) J Sm ((congrArg Prod.fst D).symm.trans (show (-1) = ((-1) : Int32).toInt from by have := jk_m1; omega)) (congrArg Prod.snd D).symm
                      ·
                        rw [if_neg (by omega)] at D
                        refine x_iloadn (x := v20) rfl rfl ?_
                        refine x_iconst (v := 3) rfl ki_3 ?_
                        refine z_idiv rfl rfl jk_3 (by omega) (by omega) (fun v36 ev36 => ?_)
                        refine x_aloadn (x := 78) rfl rfl ?_
                        refine z_getR (N := 16) (b := 32) 7 0 rfl f_7_55 rfl J rfl 9984 ⟨rfl, rfl⟩ rfl ?_
                        refine z_getR (N := 20) (b := 33) 1 0 rfl f_7_63 rfl J rfl 4096 ⟨rfl, rfl⟩ rfl ?_
                        refine z_getM (N := 4) (v := v6) 8 3 rfl f_7_85 rfl J rfl (jmc S15 rfl (jmc S10 rfl qv6)) ?_
                        refine x_icge (tgt := 36) rfl rfl (ti_ge rfl rfl ⟨fun c37 => ?_, fun c37 => ?_⟩)
                        ·
                          rw [if_pos (by omega)] at D
                          refine x_iconst (v := (-1)) rfl ki_m1 ?_
                          refine x_iret rfl rfl ?_
                          show jX m_X7_namedSoul 6 0 0 16 [(0, .ref 78), (1, .int v20)] [.int (-1)] _ 0 0 _
                          refine x_goto (tgt := 20) rfl rfl ?_
                          refine x_iret rfl rfl ?_
                          show jX m_X7_parentOf 7 0 0 22 [(3, .int v18), (0, .ref 78), (1, .int v12), (2, .int 1)] [.int (-1)] _ 0 0 _
                          refine x_iret rfl rfl ?_
                          show jX m_X11_kin 8 0 0 58 [(5, .int v12), (0, .ref 31), (1, .int a1), (2, .int a2), (3, .int a3), (4, .int a4)] [.int (-1)] _ 0 0 _
                          refine x_iret rfl rfl ?_
                          exact hQ _ _ (jr_of jk_m1 (by omega)) J Sm ((congrArg Prod.fst D).symm.trans (show (-1) = ((-1) : Int32).toInt from by have := jk_m1; omega)) (congrArg Prod.snd D).symm
                        ·
                          rw [if_neg (by omega)] at D
                          refine x_aloadn (x := 78) rfl rfl ?_
                          refine z_getR (N := 16) (b := 82) 7 10 rfl f_7_37 rfl J rfl 9994 ⟨rfl, rfl⟩ rfl ?_
                          refine x_iloadn (x := v20) rfl rfl ?_
                          refine z_iald (N := 600) rfl J rfl sg_82_0_600_1_0_1 rfl (by omega) (fun v38 qv38 ev38 => ?_)
                          try rw [vrd qv38 (show (v18.toInt + 1) = v20.toInt from by omega)] at D
                          refine x_goto (tgt := 37) rfl rfl ?_
                          refine x_iret rfl rfl ?_
                          show jX m_X7_namedSoul 6 0 0 16 [(0, .ref 78), (1, .int v20)] [.int v38] _ 0 0 _
                          refine x_goto (tgt := 20) rfl rfl ?_
                          refine x_iret rfl rfl ?_
                          show jX m_X7_parentOf 7 0 0 22 [(3, .int v18), (0, .ref 78), (1, .int v12), (2, .int 1)] [.int v38] _ 0 0 _
                          refine x_iret rfl rfl ?_
                          show jX m_X11_kin 8 0 0 58 [(5, .int v12), (0, .ref 31), (1, .int a1), (2, .int a2), (3, .int a3), (4, .int a4)] [.int v38] _ 0 0 _
                          refine x_iret rfl rfl ?_
                          exact hQ _ _ (jr_of rfl (by omega)) J Sm ((congrArg Prod.fst D).symm.trans (show v38.toInt = v38.toInt from by omega)) (congrArg Prod.snd D).symm
                    ·
                      rw [if_neg (by omega)] at D
                      refine x_aloadn (x := 70) rfl rfl ?_
                      refine x_iloadn (x := v20) rfl rfl ?_
                      refine x_iconst (v := 1) rfl ki_1 ?_
                      refine x_inv (N := m_X5_lengthOf) (As := [.int v20, .int 1]) (b := 70) (st := []) (dx9 := 4) (mc := 0) (ms := 0) (host := "") 5 rfl t_X5_lengthOf ⟨Or.inl q_5_133, i_X5_lengthOf.1, i_X5_lengthOf.2⟩ ⟨by decide, rfl⟩ (congrArg Prod.fst (J.1.1 70 (5, 9) rfl)) rfl (by decide) rfl rfl ⟨by decide, by decide⟩ (jC.of rfl k_X5_lengthOf rfl ?_)
                      show jX m_X5_lengthOf 4 0 0 0 [(0, .ref 70), (1, .int v20), (2, .int 1)] [] _ 0 0 _
                      refine x_iloadn (x := v20) rfl rfl ?_
                      refine x_iconst (v := 2) rfl ki_2 ?_
                      refine z_imul rfl rfl jk_2 (by omega) (fun v39 ev39 => ?_)
                      refine x_iloadn (x := 1) rfl rfl ?_
                      refine z_iadd rfl rfl jk_1 (by omega) (fun v40 ev40 => ?_)
                      refine x_istoren (lsx9 := [(3, .int v40), (0, .ref 70), (1, .int v20), (2, .int 1)]) rfl rfl rfl ?_
                      refine x_iloadn (x := v40) rfl rfl ?_
                      refine x_iflt (tgt := 26) rfl rfl (ti_lt rfl jk_0 (br_f (by omega) ?_))
                      refine x_iloadn (x := v40) rfl rfl ?_
                      refine x_sipush (v := 1200) rfl ks_1200 ?_
                      refine x_icge (tgt := 26) rfl rfl (ti_ge rfl jk_1200 ⟨fun c41 => ?_, fun c41 => ?_⟩)
                      ·
                        rw [if_pos (by omega)] at D
                        refine x_iconst (v := (-1)) rfl ki_m1 ?_
                        refine x_iret rfl rfl ?_
                        show jX m_X5_isNamed 5 0 0 15 [(0, .ref 70), (1, .int v20)] [.int (-1)] _ 0 0 _
                        refine x_iflt (tgt := 22) rfl rfl (ti_lt jk_m1 jk_0 (br_t (by omega) ?_))
                        refine x_iconst (v := 0) rfl ki_0 ?_
                        refine x_zret rfl rfl (by decide) ?_
                        show jX m_X7_namedSoul 6 0 0 8 [(0, .ref 78), (1, .int v20)] [.int 0] _ 0 0 _
                        refine x_ifeq (tgt := 19) rfl rfl (ti_eq jk_0 jk_0 (br_t (by omega) ?_))
                        refine x_iconst (v := (-1)) rfl ki_m1 ?_
                        refine x_iret rfl rfl ?_
                        show jX m_X7_parentOf 7 0 0 22 [(3, .int v18), (0, .ref 78), (1, .int v12), (2, .int 1)] [.int (-1)] _ 0 0 _
                        refine x_iret rfl rfl ?_
                        show jX m_X11_kin 8 0 0 58 [(5, .int v12), (0, .ref 31), (1, .int a1), (2, .int a2), (3, .int a3), (4, .int a4)] [.int (-1)] _ 0 0 _
                        refine x_iret rfl rfl ?_
                        exact hQ _ _ (jr_of jk_m1 (by omega)) J Sm ((congrArg Prod.fst D).symm.trans (show (-1) = ((-1) : Int32).toInt from by have := jk_m1; omega)) (congrArg Prod.snd D).symm
                      ·
                        rw [if_neg (by omega)] at D
                        refine x_aloadn (x := 70) rfl rfl ?_
                        refine z_getR (N := 9) (b := 76) 5 7 rfl f_5_28 rfl J rfl 8967 ⟨rfl, rfl⟩ rfl ?_
                        refine x_iloadn (x := v40) rfl rfl ?_
                        refine z_iald (N := 1200) rfl J rfl sg_76_0_1200_1_0_1 rfl (by omega) (fun v42 qv42 ev42 => ?_)
                        try rw [vrd (jmb_c S10 (jmb_c S15 qv42 rfl) rfl) (show (((v18.toInt + 1) * 2) + 1) = v40.toInt from by omega)] at D
                        refine x_goto (tgt := 27) rfl rfl ?_
                        refine x_iret rfl rfl ?_
                        show jX m_X5_isNamed 5 0 0 15 [(0, .ref 70), (1, .int v20)] [.int v42] _ 0 0 _
                        refine x_iflt (tgt := 22) rfl rfl (ti_lt rfl jk_0 ⟨fun c43 => ?_, fun c43 => ?_⟩)
                        ·
                          rw [if_pos (by omega)] at D
                          refine x_iconst (v := 0) rfl ki_0 ?_
                          refine x_zret rfl rfl (by decide) ?_
                          show jX m_X7_namedSoul 6 0 0 8 [(0, .ref 78), (1, .int v20)] [.int 0] _ 0 0 _
                          refine x_ifeq (tgt := 19) rfl rfl (ti_eq jk_0 jk_0 (br_t (by omega) ?_))
                          refine x_iconst (v := (-1)) rfl ki_m1 ?_
                          refine x_iret rfl rfl ?_
                          show jX m_X7_parentOf 7 0 0 22 [(3, .int v18), (0, .ref 78), (1, .int v12), (2, .int 1)] [.int (-1)] _ 0 0 _
                          refine x_iret rfl rfl ?_
                          show jX m_X11_kin 8 0 0 58 [(5, .int v12), (0, .ref 31), (1, .int a1), (2, .int a2), (3, .int a3), (4, .int a4)] [.int (-1)] _ 0 0 _
                          refine x_iret rfl rfl ?_
                          exact hQ _ _ (jr_of jk_m1 (by omega)) J Sm ((congrArg Prod.fst D).symm.trans (show (-1) = ((-1) : Int32).toInt from by have := jk_m1; omega)) (congrArg Prod.snd D).symm
                        ·
                          rw [if_neg (by omega)] at D
                          refine x_iconst (v := 1) rfl ki_1 ?_
                          refine x_goto (tgt := 23) rfl rfl ?_
                          refine x_zret rfl rfl (by decide) ?_
                          show jX m_X7_namedSoul 6 0 0 8 [(0, .ref 78), (1, .int v20)] [.int 1] _ 0 0 _
                          refine x_ifeq (tgt := 19) rfl rfl (ti_eq jk_1 jk_0 (br_f (by omega) ?_))
                          refine x_aloadn (x := 78) rfl rfl ?_
                          refine x_iloadn (x := v20) rfl rfl ?_
                          refine x_inv (N := m_X7_soulAt) (As := [.int v20]) (b := 78) (st := []) (dx9 := 5) (mc := 0) (ms := 0) (host := "") 7 rfl t_X7_soulAt ⟨Or.inl q_7_153, i_X7_soulAt.1, i_X7_soulAt.2⟩ ⟨by decide, rfl⟩ (congrArg Prod.fst (J.1.1 78 (7, 16) rfl)) rfl (by decide) rfl rfl ⟨by decide, by decide⟩ (jC.of rfl k_X7_soulAt rfl ?_)
                          show jX m_X7_soulAt 5 0 0 0 [(0, .ref 78), (1, .int v20)] [] _ 0 0 _
                          refine x_iloadn (x := v20) rfl rfl ?_
                          refine x_iflt (tgt := 36) rfl rfl (ti_lt rfl jk_0 (br_f (by omega) ?_))
                          refine x_iloadn (x := v20) rfl rfl ?_
                          refine x_sipush (v := 600) rfl ks_600 ?_
                          refine x_icge (tgt := 36) rfl rfl (ti_ge rfl jk_600 ⟨fun c44 => ?_, fun c44 => ?_⟩)
                          ·
                            rw [if_pos (by omega)] at D
                            refine x_iconst (v := (-1)) rfl ki_m1 ?_
                            refine x_iret rfl rfl ?_
                            show jX m_X7_namedSoul 6 0 0 16 [(0, .ref 78), (1, .int v20)] [.int (-1)] _ 0 0 _
                            refine x_goto (tgt := 20) rfl rfl ?_
                            refine x_iret rfl rfl ?_
                            show jX m_X7_parentOf 7 0 0 22 [(3, .int v18), (0, .ref 78), (1, .int v12), (2, .int 1)] [.int (-1)] _ 0 0 _
                            refine x_iret rfl rfl ?_
                            show jX m_X11_kin 8 0 0 58 [(5, .int v12), (0, .ref 31), (1, .int a1), (2, .int a2), (3, .int a3), (4, .int a4)] [.int (-1)] _ 0 0 _
                            refine x_iret rfl rfl ?_
                            exact hQ _ _ (jr_of jk_m1 (by omega)) J Sm ((congrArg Prod.fst D).symm.trans (show (-1) = ((-1) : Int32).toInt from by have := jk_m1; omega)) (congrArg Prod.snd D).symm
                          ·
                            rw [if_neg (by omega)] at D
                            refine x_iloadn (x := v20) rfl rfl ?_
                            refine x_iconst (v := 3) rfl ki_3 ?_
                            refine z_idiv rfl rfl jk_3 (by omega) (by omega) (fun v45 ev45 => ?_)
                            refine x_aloadn (x := 78) rfl rfl ?_
                            refine z_getR (N := 16) (b := 32) 7 0 rfl f_7_55 rfl J rfl 9984 ⟨rfl, rfl⟩ rfl ?_
                            refine z_getR (N := 20) (b := 33) 1 0 rfl f_7_63 rfl J rfl 4096 ⟨rfl, rfl⟩ rfl ?_
                            refine z_getM (N := 4) (v := v6) 8 3 rfl f_7_85 rfl J rfl (jmc S15 rfl (jmc S10 rfl qv6)) ?_
                            refine x_icge (tgt := 36) rfl rfl (ti_ge rfl rfl ⟨fun c46 => ?_, fun c46 => ?_⟩)
                            ·
                              rw [if_pos (by omega)] at D
                              refine x_iconst (v := (-1)) rfl ki_m1 ?_
                              refine x_iret rfl rfl ?_
                              show jX m_X7_namedSoul 6 0 0 16 [(0, .ref 78), (1, .int v20)] [.int (-1)] _ 0 0 _
                              refine x_goto (tgt := 20) rfl rfl ?_
                              refine x_iret rfl rfl ?_
                              show jX m_X7_parentOf 7 0 0 22 [(3, .int v18), (0, .ref 78), (1, .int v12), (2, .int 1)] [.int (-1)] _ 0 0 _
                              refine x_iret rfl rfl ?_
                              show jX m_X11_kin 8 0 0 58 [(5, .int v12), (0, .ref 31), (1, .int a1), (2, .int a2), (3, .int a3), (4, .int a4)] [.int (-1)] _ 0 0 _
                              refine x_iret rfl rfl ?_
                              exact hQ _ _ (jr_of jk_m1 (by omega)) J Sm ((congrArg Prod.fst D).symm.trans (show (-1) = ((-1) : Int32).toInt from by have := jk_m1; omega)) (congrArg Prod.snd D).symm
                            ·
                              rw [if_neg (by omega)] at D
                              refine x_aloadn (x := 78) rfl rfl ?_
                              refine z_getR (N := 16) (b := 82) 7 10 rfl f_7_37 rfl J rfl 9994 ⟨rfl, rfl⟩ rfl ?_
                              refine x_iloadn (x := v20) rfl rfl ?_
                              refine z_iald (N := 600) rfl J rfl sg_82_0_600_1_0_1 rfl (by omega) (fun v47 qv47 ev47 => ?_)
                              try rw [vrd qv47 (show (v18.toInt + 1) = v20.toInt from by omega)] at D
                              refine x_goto (tgt := 37) rfl rfl ?_
                              refine x_iret rfl rfl ?_
                              show jX m_X7_namedSoul 6 0 0 16 [(0, .ref 78), (1, .int v20)] [.int v47] _ 0 0 _
                              refine x_goto (tgt := 20) rfl rfl ?_
                              refine x_iret rfl rfl ?_
                              show jX m_X7_parentOf 7 0 0 22 [(3, .int v18), (0, .ref 78), (1, .int v12), (2, .int 1)] [.int v47] _ 0 0 _
                              refine x_iret rfl rfl ?_
                              show jX m_X11_kin 8 0 0 58 [(5, .int v12), (0, .ref 31), (1, .int a1), (2, .int a2), (3, .int a3), (4, .int a4)] [.int v47] _ 0 0 _
                              refine x_iret rfl rfl ?_
                              exact hQ _ _ (jr_of rfl (by omega)) J Sm ((congrArg Prod.fst D).symm.trans (show v47.toInt = v47.toInt from by omega)) (congrArg Prod.snd D).symm
                ·
                  rw [if_pos (by omega)] at D
                  refine x_iconst (v := (-1)) rfl ki_m1 ?_
                  refine x_goto (tgt := 22) rfl rfl ?_
                  refine x_iret rfl rfl ?_
                  show jX m_X11_kin 8 0 0 58 [(5, .int v12), (0, .ref 31), (1, .int a1), (2, .int a2), (3, .int a3), (4, .int a4)] [.int (-1)] _ 0 0 _
                  refine x_iret rfl rfl ?_
                  exact hQ _ _ (jr_of jk_m1 (by omega)) J Sm ((congrArg Prod.fst D).symm.trans (show (-1) = ((-1) : Int32).toInt from by have := jk_m1; omega)) (congrArg Prod.snd D).symm
              rw [if_neg c14] at D
              by_cases c48 : a3.toInt = 1
              ·
                refine x_tableIn (tgt := 59) 1 rfl c48 (by decide) (by decide) rfl rfl ?_
                rw [if_pos c48] at D
                refine x_aloadn (x := 31) rfl rfl ?_
                refine z_getR (N := 13) (b := 78) 11 4 rfl f_11_41 rfl J rfl 3972 ⟨rfl, rfl⟩ rfl ?_
                refine x_iload (x := v12) rfl rfl ?_
                refine x_iconst (v := 2) rfl ki_2 ?_
                refine x_inv (N := m_X7_parentOf) (As := [.int v12, .int 2]) (b := 78) (st := []) (dx9 := 7) (mc := 0) (ms := 0) (host := "") 7 rfl t_X7_parentOf ⟨Or.inl q_11_255, i_X7_parentOf.1, i_X7_parentOf.2⟩ ⟨by decide, rfl⟩ (congrArg Prod.fst (J.1.1 78 (7, 16) rfl)) rfl (by decide) rfl rfl ⟨by decide, by decide⟩ (jC.of rfl k_X7_parentOf rfl ?_)
                show jX m_X7_parentOf 7 0 0 0 [(0, .ref 78), (1, .int v12), (2, .int 2)] [] _ 0 0 _
                refine x_aloadn (x := 78) rfl rfl ?_
                refine x_iloadn (x := v12) rfl rfl ?_
                refine x_inv (N := m_X7_birthOf) (As := [.int v12]) (b := 78) (st := []) (dx9 := 1) (mc := 0) (ms := 0) (host := "") 7 rfl t_X7_birthOf ⟨Or.inl q_7_176, i_X7_birthOf.1, i_X7_birthOf.2⟩ ⟨by decide, rfl⟩ (congrArg Prod.fst (J.1.1 78 (7, 16) rfl)) rfl (by decide) rfl rfl ⟨by decide, by decide⟩ (sf_X7_birthOf_r78d (jr_of rfl (by omega)) hD J rfl  (fun v52 h ev52 J S49 X50 X51 => ?_))
                have Sm := jSm_tr rfl Sm S49
                try rw [X50] at D
                try rw [← X51] at D
                show jX m_X7_parentOf 7 0 0 5 [(0, .ref 78), (1, .int v12), (2, .int 2)] [.int v52] _ 0 0 _
                refine x_istoren (lsx9 := [(3, .int v52), (0, .ref 78), (1, .int v12), (2, .int 2)]) rfl rfl rfl ?_
                refine x_iloadn (x := v52) rfl rfl ?_
                refine x_iconst (v := (-1)) rfl ki_m1 ?_
                refine x_icne (tgt := 15) rfl rfl (ti_ne rfl jk_m1 ⟨fun c53 => ?_, fun c53 => ?_⟩)
                ·
                  rw [if_neg (by omega)] at D
                  refine x_aloadn (x := 78) rfl rfl ?_
                  refine x_iloadn (x := v52) rfl rfl ?_
                  refine x_iloadn (x := 2) rfl rfl ?_
                  refine z_iadd rfl rfl jk_2 (by omega) (fun v54 ev54 => ?_)
                  refine x_inv (N := m_X7_namedSoul) (As := [.int v54]) (b := 78) (st := []) (dx9 := 6) (mc := 0) (ms := 0) (host := "") 7 rfl t_X7_namedSoul ⟨Or.inl q_7_179, i_X7_namedSoul.1, i_X7_namedSoul.2⟩ ⟨by decide, rfl⟩ (congrArg Prod.fst (J.1.1 78 (7, 16) rfl)) rfl (by decide) rfl rfl ⟨by decide, by decide⟩ (jC.of rfl k_X7_namedSoul rfl ?_)
                  show jX m_X7_namedSoul 6 0 0 0 [(0, .ref 78), (1, .int v54)] [] _ 0 0 _
                  refine x_aloadn (x := 78) rfl rfl ?_
                  refine z_getR (N := 16) (b := 70) 7 1 rfl f_7_59 rfl J rfl 9985 ⟨rfl, rfl⟩ rfl ?_
                  refine x_iloadn (x := v54) rfl rfl ?_
                  refine x_inv (N := m_X5_isNamed) (As := [.int v54]) (b := 70) (st := []) (dx9 := 5) (mc := 0) (ms := 0) (host := "") 5 rfl t_X5_isNamed ⟨Or.inl q_7_173, i_X5_isNamed.1, i_X5_isNamed.2⟩ ⟨by decide, rfl⟩ (congrArg Prod.fst (J.1.1 70 (5, 9) rfl)) rfl (by decide) rfl rfl ⟨by decide, by decide⟩ (jC.of rfl k_X5_isNamed rfl ?_)
                  show jX m_X5_isNamed 5 0 0 0 [(0, .ref 70), (1, .int v54)] [] _ 0 0 _
                  refine x_aloadn (x := 70) rfl rfl ?_
                  refine x_iloadn (x := v54) rfl rfl ?_
                  refine x_iconst (v := 0) rfl ki_0 ?_
                  refine x_inv (N := m_X5_lengthOf) (As := [.int v54, .int 0]) (b := 70) (st := []) (dx9 := 4) (mc := 0) (ms := 0) (host := "") 5 rfl t_X5_lengthOf ⟨Or.inl q_5_133, i_X5_lengthOf.1, i_X5_lengthOf.2⟩ ⟨by decide, rfl⟩ (congrArg Prod.fst (J.1.1 70 (5, 9) rfl)) rfl (by decide) rfl rfl ⟨by decide, by decide⟩ (jC.of rfl k_X5_lengthOf rfl ?_)
                  show jX m_X5_lengthOf 4 0 0 0 [(0, .ref 70), (1, .int v54), (2, .int 0)] [] _ 0 0 _
                  refine x_iloadn (x := v54) rfl rfl ?_
                  refine x_iconst (v := 2) rfl ki_2 ?_
                  refine z_imul rfl rfl jk_2 (by omega) (fun v55 ev55 => ?_)
                  refine x_iloadn (x := 0) rfl rfl ?_
                  refine z_iadd rfl rfl jk_0 (by omega) (fun v56 ev56 => ?_)
                  refine x_istoren (lsx9 := [(3, .int v56), (0, .ref 70), (1, .int v54), (2, .int 0)]) rfl rfl rfl ?_
                  refine x_iloadn (x := v56) rfl rfl ?_
                  refine x_iflt (tgt := 26) rfl rfl (ti_lt rfl jk_0 (br_f (by omega) ?_))
                  refine x_iloadn (x := v56) rfl rfl ?_
                  refine x_sipush (v := 1200) rfl ks_1200 ?_
                  refine x_icge (tgt := 26) rfl rfl (ti_ge rfl jk_1200 ⟨fun c57 => ?_, fun c57 => ?_⟩)
                  ·
                    rw [if_pos (by omega)] at D
                    refine x_iconst (v := (-1)) rfl ki_m1 ?_
                    refine x_iret rfl rfl ?_
                    show jX m_X5_isNamed 5 0 0 6 [(0, .ref 70), (1, .int v54)] [.int (-1)] _ 0 0 _
                    refine x_ifge (tgt := 18) rfl rfl (ti_ge jk_m1 jk_0 (br_f (by omega) ?_))
                    refine x_aloadn (x := 70) rfl rfl ?_
                    refine x_iloadn (x := v54) rfl rfl ?_
                    refine x_iconst (v := 1) rfl ki_1 ?_
                    refine x_inv (N := m_X5_lengthOf) (As := [.int v54, .int 1]) (b := 70) (st := []) (dx9 := 4) (mc := 0) (ms := 0) (host := "") 5 rfl t_X5_lengthOf ⟨Or.inl q_5_133, i_X5_lengthOf.1, i_X5_lengthOf.2⟩ ⟨by decide, rfl⟩ (congrArg Prod.fst (J.1.1 70 (5, 9) rfl)) rfl (by decide) rfl rfl ⟨by decide, by decide⟩ (jC.of rfl k_X5_lengthOf rfl ?_)
                    show jX m_X5_lengthOf 4 0 0 0 [(0, .ref 70), (1, .int v54), (2, .int 1)] [] _ 0 0 _
                    refine x_iloadn (x := v54) rfl rfl ?_
                    refine x_iconst (v := 2) rfl ki_2 ?_
                    refine z_imul rfl rfl jk_2 (by omega) (fun v58 ev58 => ?_)
                    refine x_iloadn (x := 1) rfl rfl ?_
                    refine z_iadd rfl rfl jk_1 (by omega) (fun v59 ev59 => ?_)
                    refine x_istoren (lsx9 := [(3, .int v59), (0, .ref 70), (1, .int v54), (2, .int 1)]) rfl rfl rfl ?_
                    refine x_iloadn (x := v59) rfl rfl ?_
                    refine x_iflt (tgt := 26) rfl rfl (ti_lt rfl jk_0 (br_f (by omega) ?_))
                    refine x_iloadn (x := v59) rfl rfl ?_
                    refine x_sipush (v := 1200) rfl ks_1200 ?_
                    refine x_icge (tgt := 26) rfl rfl (ti_ge rfl jk_1200 ⟨fun c60 => ?_, fun c60 => ?_⟩)
                    ·
                      rw [if_pos (by omega)] at D
                      refine x_iconst (v := (-1)) rfl ki_m1 ?_
                      refine x_iret rfl rfl ?_
                      show jX m_X5_isNamed 5 0 0 15 [(0, .ref 70), (1, .int v54)] [.int (-1)] _ 0 0 _
                      refine x_iflt (tgt := 22) rfl rfl (ti_lt jk_m1 jk_0 (br_t (by omega) ?_))
                      refine x_iconst (v := 0) rfl ki_0 ?_
                      refine x_zret rfl rfl (by decide) ?_
                      show jX m_X7_namedSoul 6 0 0 8 [(0, .ref 78), (1, .int v54)] [.int 0] _ 0 0 _
                      refine x_ifeq (tgt := 19) rfl rfl (ti_eq jk_0 jk_0 (br_t (by omega) ?_))
                      refine x_iconst (v := (-1)) rfl ki_m1 ?_
                      refine x_iret rfl rfl ?_
                      show jX m_X7_parentOf 7 0 0 22 [(3, .int v52), (0, .ref 78), (1, .int v12), (2, .int 2)] [.int (-1)] _ 0 0 _
                      refine x_iret rfl rfl ?_
                      show jX m_X11_kin 8 0 0 69 [(5, .int v12), (0, .ref 31), (1, .int a1), (2, .int a2), (3, .int a3), (4, .int a4)] [.int (-1)] _ 0 0 _
                      refine x_iret rfl rfl ?_
                      exact hQ _ _ (jr_of jk_m1 (by omega)) J Sm ((congrArg Prod.fst D).symm.trans (show (-1) = ((-1) : Int32).toInt from by have := jk_m1; omega)) (congrArg Prod.snd D).symm
                    ·
                      rw [if_neg (by omega)] at D
                      refine x_aloadn (x := 70) rfl rfl ?_
                      refine z_getR (N := 9) (b := 76) 5 7 rfl f_5_28 rfl J rfl 8967 ⟨rfl, rfl⟩ rfl ?_
                      refine x_iloadn (x := v59) rfl rfl ?_
                      refine z_iald (N := 1200) rfl J rfl sg_76_0_1200_1_0_1 rfl (by omega) (fun v61 qv61 ev61 => ?_)
                      try rw [vrd (jmb_c S10 (jmb_c S49 qv61 rfl) rfl) (show (((v52.toInt + 2) * 2) + 1) = v59.toInt from by omega)] at D
                      refine x_goto (tgt := 27) rfl rfl ?_
                      refine x_iret rfl rfl ?_
                      show jX m_X5_isNamed 5 0 0 15 [(0, .ref 70), (1, .int v54)] [.int v61] _ 0 0 _
                      refine x_iflt (tgt := 22) rfl rfl (ti_lt rfl jk_0 ⟨fun c62 => ?_, fun c62 => ?_⟩)
                      ·
                        rw [if_pos (by omega)] at D
                        refine x_iconst (v := 0) rfl ki_0 ?_
                        refine x_zret rfl rfl (by decide) ?_
                        show jX m_X7_namedSoul 6 0 0 8 [(0, .ref 78), (1, .int v54)] [.int 0] _ 0 0 _
                        refine x_ifeq (tgt := 19) rfl rfl (ti_eq jk_0 jk_0 (br_t (by omega) ?_))
                        refine x_iconst (v := (-1)) rfl ki_m1 ?_
                        refine x_iret rfl rfl ?_
                        show jX m_X7_parentOf 7 0 0 22 [(3, .int v52), (0, .ref 78), (1, .int v12), (2, .int 2)] [.int (-1)] _ 0 0 _
                        refine x_iret rfl rfl ?_
                        show jX m_X11_kin 8 0 0 69 [(5, .int v12), (0, .ref 31), (1, .int a1), (2, .int a2), (3, .int a3), (4, .int a4)] [.int (-1)] _ 0 0 _
                        refine x_iret rfl rfl ?_
                        exact hQ _ _ (jr_of jk_m1 (by omega)) J Sm ((congrArg Prod.fst D).symm.trans (show (-1) = ((-1) : Int32).toInt from by have := jk_m1; omega)) (congrArg Prod.snd D).symm
                      ·
                        rw [if_neg (by omega)] at D
                        refine x_iconst (v := 1) rfl ki_1 ?_
                        refine x_goto (tgt := 23) rfl rfl ?_
                        refine x_zret rfl rfl (by decide) ?_
                        show jX m_X7_namedSoul 6 0 0 8 [(0, .ref 78), (1, .int v54)] [.int 1] _ 0 0 _
                        refine x_ifeq (tgt := 19) rfl rfl (ti_eq jk_1 jk_0 (br_f (by omega) ?_))
                        refine x_aloadn (x := 78) rfl rfl ?_
                        refine x_iloadn (x := v54) rfl rfl ?_
                        refine x_inv (N := m_X7_soulAt) (As := [.int v54]) (b := 78) (st := []) (dx9 := 5) (mc := 0) (ms := 0) (host := "") 7 rfl t_X7_soulAt ⟨Or.inl q_7_153, i_X7_soulAt.1, i_X7_soulAt.2⟩ ⟨by decide, rfl⟩ (congrArg Prod.fst (J.1.1 78 (7, 16) rfl)) rfl (by decide) rfl rfl ⟨by decide, by decide⟩ (jC.of rfl k_X7_soulAt rfl ?_)
                        show jX m_X7_soulAt 5 0 0 0 [(0, .ref 78), (1, .int v54)] [] _ 0 0 _
                        refine x_iloadn (x := v54) rfl rfl ?_
                        refine x_iflt (tgt := 36) rfl rfl (ti_lt rfl jk_0 (br_f (by omega) ?_))
                        refine x_iloadn (x := v54) rfl rfl ?_
                        refine x_sipush (v := 600) rfl ks_600 ?_
                        refine x_icge (tgt := 36) rfl rfl (ti_ge rfl jk_600 ⟨fun c63 => ?_, fun c63 => ?_⟩)
                        ·
                          rw [if_pos (by omega)] at D
                          refine x_iconst (v := (-1)) rfl ki_m1 ?_
                          refine x_iret rfl rfl ?_
                          show jX m_X7_namedSoul 6 0 0 16 [(0, .ref 78), (1, .int v54)] [.int (-1)] _ 0 0 _
                          refine x_goto (tgt := 20) rfl rfl ?_
                          refine x_iret rfl rfl ?_
                          show jX m_X7_parentOf 7 0 0 22 [(3, .int v52), (0, .ref 78), (1, .int v12), (2, .int 2)] [.int (-1)] _ 0 0 _
                          refine x_iret rfl rfl ?_
                          show jX m_X11_kin 8 0 0 69 [(5, .int v12), (0, .ref 31), (1, .int a1), (2, .int a2), (3, .int a3), (4, .int a4)] [.int (-1)] _ 0 0 _
                          refine x_iret rfl rfl ?_
                          exact hQ _ _ (jr_of jk_m1 (by omega)) J Sm ((congrArg Prod.fst D).symm.trans (show (-1) = ((-1) : Int32).toInt from by have := jk_m1; omega)) (congrArg Prod.snd D).symm
                        ·
                          rw [if_neg (by omega)] at D
                          refine x_iloadn (x := v54) rfl rfl ?_
                          refine x_iconst (v := 3) rfl ki_3 ?_
                          refine z_idiv rfl rfl jk_3 (by omega) (by omega) (fun v64 ev64 => ?_)
                          refine x_aloadn (x := 78) rfl rfl ?_
                          refine z_getR (N := 16) (b := 32) 7 0 rfl f_7_55 rfl J rfl 9984 ⟨rfl, rfl⟩ rfl ?_
                          refine z_getR (N := 20) (b := 33) 1 0 rfl f_7_63 rfl J rfl 4096 ⟨rfl, rfl⟩ rfl ?_
                          refine z_getM (N := 4) (v := v6) 8 3 rfl f_7_85 rfl J rfl (jmc S49 rfl (jmc S10 rfl qv6)) ?_
                          refine x_icge (tgt := 36) rfl rfl (ti_ge rfl rfl ⟨fun c65 => ?_, fun c65 => ?_⟩)
                          ·
                            rw [if_pos (by omega)] at D
                            refine x_iconst (v := (-1)) rfl ki_m1 ?_
                            refine x_iret rfl rfl ?_
                            show jX m_X7_namedSoul 6 0 0 16 [(0, .ref 78), (1, .int v54)] [.int (-1)] _ 0 0 _
                            refine x_goto (tgt := 20) rfl rfl ?_
                            refine x_iret rfl rfl ?_
                            show jX m_X7_parentOf 7 0 0 22 [(3, .int v52), (0, .ref 78), (1, .int v12), (2, .int 2)] [.int (-1)] _ 0 0 _
                            refine x_iret rfl rfl ?_
                            show jX m_X11_kin 8 0 0 69 [(5, .int v12), (0, .ref 31), (1, .int a1), (2, .int a2), (3, .int a3), (4, .int a4)] [.int (-1)] _ 0 0 _
                            refine x_iret rfl rfl ?_
                            exact hQ _ _ (jr_of jk_m1 (by omega)) J Sm ((congrArg Prod.fst D).symm.trans (show (-1) = ((-1) : Int32).toInt from by have := jk_m1; omega)) (congrArg Prod.snd D).symm
                          ·
                            rw [if_neg (by omega)] at D
                            refine x_aloadn (x := 78) rfl rfl ?_
                            refine z_getR (N := 16) (b := 82) 7 10 rfl f_7_37 rfl J rfl 9994 ⟨rfl, rfl⟩ rfl ?_
                            refine x_iloadn (x := v54) rfl rfl ?_
                            refine z_iald (N := 600) rfl J rfl sg_82_0_600_1_0_1 rfl (by omega) (fun v66 qv66 ev66 => ?_)
                            try rw [vrd qv66 (show (v52.toInt + 2) = v54.toInt from by omega)] at D
                            refine x_goto (tgt := 37) rfl rfl ?_
                            refine x_iret rfl rfl ?_
                            show jX m_X7_namedSoul 6 0 0 16 [(0, .ref 78), (1, .int v54)] [.int v66] _ 0 0 _
                            refine x_goto (tgt := 20) rfl rfl ?_
                            refine x_iret rfl rfl ?_
                            show jX m_X7_parentOf 7 0 0 22 [(3, .int v52), (0, .ref 78), (1, .int v12), (2, .int 2)] [.int v66] _ 0 0 _
                            refine x_iret rfl rfl ?_
                            show jX m_X11_kin 8 0 0 69 [(5, .int v12), (0, .ref 31), (1, .int a1), (2, .int a2), (3, .int a3), (4, .int a4)] [.int v66] _ 0 0 _
                            refine x_iret rfl rfl ?_
                            exact hQ _ _ (jr_of rfl (by omega)) J Sm ((congrArg Prod.fst D).symm.trans (show v66.toInt = v66.toInt from by omega)) (congrArg Prod.snd D).symm
                  ·
                    rw [if_neg (by omega)] at D
                    refine x_aloadn (x := 70) rfl rfl ?_
                    refine z_getR (N := 9) (b := 76) 5 7 rfl f_5_28 rfl J rfl 8967 ⟨rfl, rfl⟩ rfl ?_
                    refine x_iloadn (x := v56) rfl rfl ?_
                    refine z_iald (N := 1200) rfl J rfl sg_76_0_1200_1_0_1 rfl (by omega) (fun v67 qv67 ev67 => ?_)
                    try rw [vrd (jmb_c S10 (jmb_c S49 qv67 rfl) rfl) (show (((v52.toInt + 2) * 2) + 0) = v56.toInt from by omega)] at D
                    refine x_goto (tgt := 27) rfl rfl ?_
                    refine x_iret rfl rfl ?_
                    show jX m_X5_isNamed 5 0 0 6 [(0, .ref 70), (1, .int v54)] [.int v67] _ 0 0 _
                    refine x_ifge (tgt := 18) rfl rfl (ti_ge rfl jk_0 ⟨fun c68 => ?_, fun c68 => ?_⟩)
                    ·
                      rw [if_pos (by omega)] at D
                      refine x_iconst (v := 1) rfl ki_1 ?_
                      refine x_goto (tgt := 23) rfl rfl ?_
                      refine x_zret rfl rfl (by decide) ?_
                      show jX m_X7_namedSoul 6 0 0 8 [(0, .ref 78), (1, .int v54)] [.int 1] _ 0 0 _
                      refine x_ifeq (tgt := 19) rfl rfl (ti_eq jk_1 jk_0 (br_f (by omega) ?_))
                      refine x_aloadn (x := 78) rfl rfl ?_
                      refine x_iloadn (x := v54) rfl rfl ?_
                      refine x_inv (N := m_X7_soulAt) (As := [.int v54]) (b := 78) (st := []) (dx9 := 5) (mc := 0) (ms := 0) (host := "") 7 rfl t_X7_soulAt ⟨Or.inl q_7_153, i_X7_soulAt.1, i_X7_soulAt.2⟩ ⟨by decide, rfl⟩ (congrArg Prod.fst (J.1.1 78 (7, 16) rfl)) rfl (by decide) rfl rfl ⟨by decide, by decide⟩ (jC.of rfl k_X7_soulAt rfl ?_)
                      show jX m_X7_soulAt 5 0 0 0 [(0, .ref 78), (1, .int v54)] [] _ 0 0 _
                      refine x_iloadn (x := v54) rfl rfl ?_
                      refine x_iflt (tgt := 36) rfl rfl (ti_lt rfl jk_0 (br_f (by omega) ?_))
                      refine x_iloadn (x := v54) rfl rfl ?_
                      refine x_sipush (v := 600) rfl ks_600 ?_
                      refine x_icge (tgt := 36) rfl rfl (ti_ge rfl jk_600 ⟨fun c69 => ?_, fun c69 => ?_⟩)
                      ·
                        rw [if_pos (by omega)] at D
                        refine x_iconst (v := (-1)) rfl ki_m1 ?_
                        refine x_iret rfl rfl ?_
                        show jX m_X7_namedSoul 6 0 0 16 [(0, .ref 78), (1, .int v54)] [.int (-1)] _ 0 0 _
                        refine x_goto (tgt := 20) rfl rfl ?_
                        refine x_iret rfl rfl ?_
                        show jX m_X7_parentOf 7 0 0 22 [(3, .int v52), (0, .ref 78), (1, .int v12), (2, .int 2)] [.int (-1)] _ 0 0 _
                        refine x_iret rfl rfl ?_
                        show jX m_X11_kin 8 0 0 69 [(5, .int v12), (0, .ref 31), (1, .int a1), (2, .int a2), (3, .int a3), (4, .int a4)] [.int (-1)] _ 0 0 _
                        refine x_iret rfl rfl ?_
                        exact hQ _ _ (jr_of jk_m1 (by omega)) J Sm ((congrArg Prod.fst D).symm.trans (show (-1) = ((-1) : Int32).toInt from by have := jk_m1; omega)) (congrArg Prod.snd D).symm
                      ·
                        rw [if_neg (by omega)] at D
                        refine x_iloadn (x := v54) rfl rfl ?_
                        refine x_iconst (v := 3) rfl ki_3 ?_
                        refine z_idiv rfl rfl jk_3 (by omega) (by omega) (fun v70 ev70 => ?_)
                        refine x_aloadn (x := 78) rfl rfl ?_
                        refine z_getR (N := 16) (b := 32) 7 0 rfl f_7_55 rfl J rfl 9984 ⟨rfl, rfl⟩ rfl ?_
                        refine z_getR (N := 20) (b := 33) 1 0 rfl f_7_63 rfl J rfl 4096 ⟨rfl, rfl⟩ rfl ?_
                        refine z_getM (N := 4) (v := v6) 8 3 rfl f_7_85 rfl J rfl (jmc S49 rfl (jmc S10 rfl qv6)) ?_
                        refine x_icge (tgt := 36) rfl rfl (ti_ge rfl rfl ⟨fun c71 => ?_, fun c71 => ?_⟩)
                        ·
                          rw [if_pos (by omega)] at D
                          refine x_iconst (v := (-1)) rfl ki_m1 ?_
                          refine x_iret rfl rfl ?_
                          show jX m_X7_namedSoul 6 0 0 16 [(0, .ref 78), (1, .int v54)] [.int (-1)] _ 0 0 _
                          refine x_goto (tgt := 20) rfl rfl ?_
                          refine x_iret rfl rfl ?_
                          show jX m_X7_parentOf 7 0 0 22 [(3, .int v52), (0, .ref 78), (1, .int v12), (2, .int 2)] [.int (-1)] _ 0 0 _
                          refine x_iret rfl rfl ?_
                          show jX m_X11_kin 8 0 0 69 [(5, .int v12), (0, .ref 31), (1, .int a1), (2, .int a2), (3, .int a3), (4, .int a4)] [.int (-1)] _ 0 0 _
                          refine x_iret rfl rfl ?_
                          exact hQ _ _ (jr_of jk_m1 (by omega)) J Sm ((congrArg Prod.fst D).symm.trans (show (-1) = ((-1) : Int32).toInt from by have := jk_m1; omega)) (congrArg Prod.snd D).symm
                        ·
                          rw [if_neg (by omega)] at D
                          refine x_aloadn (x := 78) rfl rfl ?_
                          refine z_getR (N := 16) (b := 82) 7 10 rfl f_7_37 rfl J rfl 9994 ⟨rfl, rfl⟩ rfl ?_
                          refine x_iloadn (x := v54) rfl rfl ?_
                          refine z_iald (N := 600) rfl J rfl sg_82_0_600_1_0_1 rfl (by omega) (fun v72 qv72 ev72 => ?_)
                          try rw [vrd qv72 (show (v52.toInt + 2) = v54.toInt from by omega)] at D
                          refine x_goto (tgt := 37) rfl rfl ?_
                          refine x_iret rfl rfl ?_
                          show jX m_X7_namedSoul 6 0 0 16 [(0, .ref 78), (1, .int v54)] [.int v72] _ 0 0 _
                          refine x_goto (tgt := 20) rfl rfl ?_
                          refine x_iret rfl rfl ?_
                          show jX m_X7_parentOf 7 0 0 22 [(3, .int v52), (0, .ref 78), (1, .int v12), (2, .int 2)] [.int v72] _ 0 0 _
                          refine x_iret rfl rfl ?_
                          show jX m_X11_kin 8 0 0 69 [(5, .int v12), (0, .ref 31), (1, .int a1), (2, .int a2), (3, .int a3), (4, .int a4)] [.int v72] _ 0 0 _
                          refine x_iret rfl rfl ?_
                          exact hQ _ _ (jr_of rfl (by omega)) J Sm ((congrArg Prod.fst D).symm.trans (show v72.toInt = v72.toInt from by omega)) (congrArg Prod.snd D).symm
                    ·
                      rw [if_neg (by omega)] at D
                      refine x_aloadn (x := 70) rfl rfl ?_
                      refine x_iloadn (x := v54) rfl rfl ?_
                      refine x_iconst (v := 1) rfl ki_1 ?_
                      refine x_inv (N := m_X5_lengthOf) (As := [.int v54, .int 1]) (b := 70) (st := []) (dx9 := 4) (mc := 0) (ms := 0) (host := "") 5 rfl t_X5_lengthOf ⟨Or.inl q_5_133, i_X5_lengthOf.1, i_X5_lengthOf.2⟩ ⟨by decide, rfl⟩ (congrArg Prod.fst (J.1.1 70 (5, 9) rfl)) rfl (by decide) rfl rfl ⟨by decide, by decide⟩ (jC.of rfl k_X5_lengthOf rfl ?_)
                      show jX m_X5_lengthOf 4 0 0 0 [(0, .ref 70), (1, .int v54), (2, .int 1)] [] _ 0 0 _
                      refine x_iloadn (x := v54) rfl rfl ?_
                      refine x_iconst (v := 2) rfl ki_2 ?_
                      refine z_imul rfl rfl jk_2 (by omega) (fun v73 ev73 => ?_)
                      refine x_iloadn (x := 1) rfl rfl ?_
                      refine z_iadd rfl rfl jk_1 (by omega) (fun v74 ev74 => ?_)
                      refine x_istoren (lsx9 := [(3, .int v74), (0, .ref 70), (1, .int v54), (2, .int 1)]) rfl rfl rfl ?_
                      refine x_iloadn (x := v74) rfl rfl ?_
                      refine x_iflt (tgt := 26) rfl rfl (ti_lt rfl jk_0 (br_f (by omega) ?_))
                      refine x_iloadn (x := v74) rfl rfl ?_
                      refine x_sipush (v := 1200) rfl ks_1200 ?_
                      refine x_icge (tgt := 26) rfl rfl (ti_ge rfl jk_1200 ⟨fun c75 => ?_, fun c75 => ?_⟩)
                      ·
                        rw [if_pos (by omega)] at D
                        refine x_iconst (v := (-1)) rfl ki_m1 ?_
                        refine x_iret rfl rfl ?_
                        show jX m_X5_isNamed 5 0 0 15 [(0, .ref 70), (1, .int v54)] [.int (-1)] _ 0 0 _
                        refine x_iflt (tgt := 22) rfl rfl (ti_lt jk_m1 jk_0 (br_t (by omega) ?_))
                        refine x_iconst (v := 0) rfl ki_0 ?_
                        refine x_zret rfl rfl (by decide) ?_
                        show jX m_X7_namedSoul 6 0 0 8 [(0, .ref 78), (1, .int v54)] [.int 0] _ 0 0 _
                        refine x_ifeq (tgt := 19) rfl rfl (ti_eq jk_0 jk_0 (br_t (by omega) ?_))
                        refine x_iconst (v := (-1)) rfl ki_m1 ?_
                        refine x_iret rfl rfl ?_
                        show jX m_X7_parentOf 7 0 0 22 [(3, .int v52), (0, .ref 78), (1, .int v12), (2, .int 2)] [.int (-1)] _ 0 0 _
                        refine x_iret rfl rfl ?_
                        show jX m_X11_kin 8 0 0 69 [(5, .int v12), (0, .ref 31), (1, .int a1), (2, .int a2), (3, .int a3), (4, .int a4)] [.int (-1)] _ 0 0 _
                        refine x_iret rfl rfl ?_
                        exact hQ _ _ (jr_of jk_m1 (by omega)) J Sm ((congrArg Prod.fst D).symm.trans (show (-1) = ((-1) : Int32).toInt from by have := jk_m1; omega)) (congrArg Prod.snd D).symm
                      ·
                        rw [if_neg (by omega)] at D
                        refine x_aloadn (x := 70) rfl rfl ?_
                        refine z_getR (N := 9) (b := 76) 5 7 rfl f_5_28 rfl J rfl 8967 ⟨rfl, rfl⟩ rfl ?_
                        refine x_iloadn (x := v74) rfl rfl ?_
                        refine z_iald (N := 1200) rfl J rfl sg_76_0_1200_1_0_1 rfl (by omega) (fun v76 qv76 ev76 => ?_)
                        try rw [vrd (jmb_c S10 (jmb_c S49 qv76 rfl) rfl) (show (((v52.toInt + 2) * 2) + 1) = v74.toInt from by omega)] at D
                        refine x_goto (tgt := 27) rfl rfl ?_
                        refine x_iret rfl rfl ?_
                        show jX m_X5_isNamed 5 0 0 15 [(0, .ref 70), (1, .int v54)] [.int v76] _ 0 0 _
                        refine x_iflt (tgt := 22) rfl rfl (ti_lt rfl jk_0 ⟨fun c77 => ?_, fun c77 => ?_⟩)
                        ·
                          rw [if_pos (by omega)] at D
                          refine x_iconst (v := 0) rfl ki_0 ?_
                          refine x_zret rfl rfl (by decide) ?_
                          show jX m_X7_namedSoul 6 0 0 8 [(0, .ref 78), (1, .int v54)] [.int 0] _ 0 0 _
                          refine x_ifeq (tgt := 19) rfl rfl (ti_eq jk_0 jk_0 (br_t (by omega) ?_))
                          refine x_iconst (v := (-1)) rfl ki_m1 ?_
                          refine x_iret rfl rfl ?_
                          show jX m_X7_parentOf 7 0 0 22 [(3, .int v52), (0, .ref 78), (1, .int v12), (2, .int 2)] [.int (-1)] _ 0 0 _
                          refine x_iret rfl rfl ?_
                          show jX m_X11_kin 8 0 0 69 [(5, .int v12), (0, .ref 31), (1, .int a1), (2, .int a2), (3, .int a3), (4, .int a4)] [.int (-1)] _ 0 0 _
                          refine x_iret rfl rfl ?_
                          exact hQ _ _ (jr_of jk_m1 (by omega)) J Sm ((congrArg Prod.fst D).symm.trans (show (-1) = ((-1) : Int32).toInt from by have := jk_m1; omega)) (congrArg Prod.snd D).symm
                        ·
                          rw [if_neg (by omega)] at D
                          refine x_iconst (v := 1) rfl ki_1 ?_
                          refine x_goto (tgt := 23) rfl rfl ?_
                          refine x_zret rfl rfl (by decide) ?_
                          show jX m_X7_namedSoul 6 0 0 8 [(0, .ref 78), (1, .int v54)] [.int 1] _ 0 0 _
                          refine x_ifeq (tgt := 19) rfl rfl (ti_eq jk_1 jk_0 (br_f (by omega) ?_))
                          refine x_aloadn (x := 78) rfl rfl ?_
                          refine x_iloadn (x := v54) rfl rfl ?_
                          refine x_inv (N := m_X7_soulAt) (As := [.int v54]) (b := 78) (st := []) (dx9 := 5) (mc := 0) (ms := 0) (host := "") 7 rfl t_X7_soulAt ⟨Or.inl q_7_153, i_X7_soulAt.1, i_X7_soulAt.2⟩ ⟨by decide, rfl⟩ (congrArg Prod.fst (J.1.1 78 (7, 16) rfl)) rfl (by decide) rfl rfl ⟨by decide, by decide⟩ (jC.of rfl k_X7_soulAt rfl ?_)
                          show jX m_X7_soulAt 5 0 0 0 [(0, .ref 78), (1, .int v54)] [] _ 0 0 _
                          refine x_iloadn (x := v54) rfl rfl ?_
                          refine x_iflt (tgt := 36) rfl rfl (ti_lt rfl jk_0 (br_f (by omega) ?_))
                          refine x_iloadn (x := v54) rfl rfl ?_
                          refine x_sipush (v := 600) rfl ks_600 ?_
                          refine x_icge (tgt := 36) rfl rfl (ti_ge rfl jk_600 ⟨fun c78 => ?_, fun c78 => ?_⟩)
                          ·
                            rw [if_pos (by omega)] at D
                            refine x_iconst (v := (-1)) rfl ki_m1 ?_
                            refine x_iret rfl rfl ?_
                            show jX m_X7_namedSoul 6 0 0 16 [(0, .ref 78), (1, .int v54)] [.int (-1)] _ 0 0 _
                            refine x_goto (tgt := 20) rfl rfl ?_
                            refine x_iret rfl rfl ?_
                            show jX m_X7_parentOf 7 0 0 22 [(3, .int v52), (0, .ref 78), (1, .int v12), (2, .int 2)] [.int (-1)] _ 0 0 _
                            refine x_iret rfl rfl ?_
                            show jX m_X11_kin 8 0 0 69 [(5, .int v12), (0, .ref 31), (1, .int a1), (2, .int a2), (3, .int a3), (4, .int a4)] [.int (-1)] _ 0 0 _
                            refine x_iret rfl rfl ?_
                            exact hQ _ _ (jr_of jk_m1 (by omega)) J Sm ((congrArg Prod.fst D).symm.trans (show (-1) = ((-1) : Int32).toInt from by have := jk_m1; omega)) (congrArg Prod.snd D).symm
                          ·
                            rw [if_neg (by omega)] at D
                            refine x_iloadn (x := v54) rfl rfl ?_
                            refine x_iconst (v := 3) rfl ki_3 ?_
                            refine z_idiv rfl rfl jk_3 (by omega) (by omega) (fun v79 ev79 => ?_)
                            refine x_aloadn (x := 78) rfl rfl ?_
                            refine z_getR (N := 16) (b := 32) 7 0 rfl f_7_55 rfl J rfl 9984 ⟨rfl, rfl⟩ rfl ?_
                            refine z_getR (N := 20) (b := 33) 1 0 rfl f_7_63 rfl J rfl 4096 ⟨rfl, rfl⟩ rfl ?_
                            refine z_getM (N := 4) (v := v6) 8 3 rfl f_7_85 rfl J rfl (jmc S49 rfl (jmc S10 rfl qv6)) ?_
                            refine x_icge (tgt := 36) rfl rfl (ti_ge rfl rfl ⟨fun c80 => ?_, fun c80 => ?_⟩)
                            ·
                              rw [if_pos (by omega)] at D
                              refine x_iconst (v := (-1)) rfl ki_m1 ?_
                              refine x_iret rfl rfl ?_
                              show jX m_X7_namedSoul 6 0 0 16 [(0, .ref 78), (1, .int v54)] [.int (-1)] _ 0 0 _
                              refine x_goto (tgt := 20) rfl rfl ?_
                              refine x_iret rfl rfl ?_
                              show jX m_X7_parentOf 7 0 0 22 [(3, .int v52), (0, .ref 78), (1, .int v12), (2, .int 2)] [.int (-1)] _ 0 0 _
                              refine x_iret rfl rfl ?_
                              show jX m_X11_kin 8 0 0 69 [(5, .int v12), (0, .ref 31), (1, .int a1), (2, .int a2), (3, .int a3), (4, .int a4)] [.int (-1)] _ 0 0 _
                              refine x_iret rfl rfl ?_
                              exact hQ _ _ (jr_of jk_m1 (by omega)) J Sm ((congrArg Prod.fst D).symm.trans (show (-1) = ((-1) : Int32).toInt from by have := jk_m1; omega)) (congrArg Prod.snd D).symm
                            ·
                              rw [if_neg (by omega)] at D
                              refine x_aloadn (x := 78) rfl rfl ?_
                              refine z_getR (N := 16) (b := 82) 7 10 rfl f_7_37 rfl J rfl 9994 ⟨rfl, rfl⟩ rfl ?_
                              refine x_iloadn (x := v54) rfl rfl ?_
                              refine z_iald (N := 600) rfl J rfl sg_82_0_600_1_0_1 rfl (by omega) (fun v81 qv81 ev81 => ?_)
                              try rw [vrd qv81 (show (v52.toInt + 2) = v54.toInt from by omega)] at D
                              refine x_goto (tgt := 37) rfl rfl ?_
                              refine x_iret rfl rfl ?_
                              show jX m_X7_namedSoul 6 0 0 16 [(0, .ref 78), (1, .int v54)] [.int v81] _ 0 0 _
                              refine x_goto (tgt := 20) rfl rfl ?_
                              refine x_iret rfl rfl ?_
                              show jX m_X7_parentOf 7 0 0 22 [(3, .int v52), (0, .ref 78), (1, .int v12), (2, .int 2)] [.int v81] _ 0 0 _
                              refine x_iret rfl rfl ?_
                              show jX m_X11_kin 8 0 0 69 [(5, .int v12), (0, .ref 31), (1, .int a1), (2, .int a2), (3, .int a3), (4, .int a4)] [.int v81] _ 0 0 _
                              refine x_iret rfl rfl ?_
                              exact hQ _ _ (jr_of rfl (by omega)) J Sm ((congrArg Prod.fst D).symm.trans (show v81.toInt = v81.toInt from by omega)) (congrArg Prod.snd D).symm
                ·
                  rw [if_pos (by omega)] at D
                  refine x_iconst (v := (-1)) rfl ki_m1 ?_
                  refine x_goto (tgt := 22) rfl rfl ?_
                  refine x_iret rfl rfl ?_
                  show jX m_X11_kin 8 0 0 69 [(5, .int v12), (0, .ref 31), (1, .int a1), (2, .int a2), (3, .int a3), (4, .int a4)] [.int (-1)] _ 0 0 _
                  refine x_iret rfl rfl ?_
                  exact hQ _ _ (jr_of jk_m1 (by omega)) J Sm ((congrArg Prod.fst D).symm.trans (show (-1) = ((-1) : Int32).toInt from by have := jk_m1; omega)) (congrArg Prod.snd D).symm
              rw [if_neg c48] at D
              by_cases c82 : a3.toInt = 2
              ·
                refine x_tableIn (tgt := 70) 2 rfl c82 (by decide) (by decide) rfl rfl ?_
                rw [if_pos c82] at D
                refine x_aloadn (x := 31) rfl rfl ?_
                refine z_getR (N := 13) (b := 78) 11 4 rfl f_11_41 rfl J rfl 3972 ⟨rfl, rfl⟩ rfl ?_
                refine x_iload (x := v12) rfl rfl ?_
                refine x_iload (x := a4) rfl rfl ?_
                refine x_inv (N := m_X7_childOf) (As := [.int v12, .int a4]) (b := 78) (st := []) (dx9 := 3) (mc := 0) (ms := 0) (host := "") 7 rfl t_X7_childOf ⟨Or.inl q_11_258, i_X7_childOf.1, i_X7_childOf.2⟩ ⟨by decide, rfl⟩ (congrArg Prod.fst (J.1.1 78 (7, 16) rfl)) rfl (by decide) rfl rfl ⟨by decide, by decide⟩ (sf_X7_childOf_r78d (jr_of rfl (by omega)) hD J rfl  (fun v86 h ev86 J S83 X84 X85 => ?_))
                have Sm := jSm_tr rfl Sm S83
                try rw [X84] at D
                try rw [← X85] at D
                show jX m_X11_kin 8 0 0 81 [(5, .int v12), (0, .ref 31), (1, .int a1), (2, .int a2), (3, .int a3), (4, .int a4)] [.int v86] _ 0 0 _
                refine x_iret rfl rfl ?_
                exact hQ _ _ (jr_of rfl (by omega)) J Sm ((congrArg Prod.fst D).symm.trans (show v86.toInt = v86.toInt from by omega)) (congrArg Prod.snd D).symm
              rw [if_neg c82] at D
              by_cases c87 : a3.toInt = 3
              ·
                refine x_tableIn (tgt := 82) 3 rfl c87 (by decide) (by decide) rfl rfl ?_
                rw [if_pos c87] at D
                refine x_aloadn (x := 31) rfl rfl ?_
                refine z_getR (N := 13) (b := 78) 11 4 rfl f_11_41 rfl J rfl 3972 ⟨rfl, rfl⟩ rfl ?_
                refine x_iload (x := v12) rfl rfl ?_
                refine x_iload (x := a4) rfl rfl ?_
                refine x_inv (N := m_X7_spouseOf) (As := [.int v12, .int a4]) (b := 78) (st := []) (dx9 := 4) (mc := 0) (ms := 0) (host := "") 7 rfl t_X7_spouseOf ⟨Or.inl q_11_261, i_X7_spouseOf.1, i_X7_spouseOf.2⟩ ⟨by decide, rfl⟩ (congrArg Prod.fst (J.1.1 78 (7, 16) rfl)) rfl (by decide) rfl rfl ⟨by decide, by decide⟩ (sf_X7_spouseOf_r78d (jr_of rfl (by omega)) hD J rfl  (fun v91 h ev91 J S88 X89 X90 => ?_))
                have Sm := jSm_tr rfl Sm S88
                try rw [X89] at D
                try rw [← X90] at D
                show jX m_X11_kin 8 0 0 93 [(5, .int v12), (0, .ref 31), (1, .int a1), (2, .int a2), (3, .int a3), (4, .int a4)] [.int v91] _ 0 0 _
                refine x_iret rfl rfl ?_
                exact hQ _ _ (jr_of rfl (by omega)) J Sm ((congrArg Prod.fst D).symm.trans (show v91.toInt = v91.toInt from by omega)) (congrArg Prod.snd D).symm
              rw [if_neg c87] at D
              refine x_tableOut (tgt := 94) rfl (by omega) rfl ?_
              refine x_iconst (v := (-1)) rfl ki_m1 ?_
              refine x_iret rfl rfl ?_
              exact hQ _ _ (jr_of jk_m1 (by omega)) J Sm ((congrArg Prod.fst D).symm.trans (show (-1) = ((-1) : Int32).toInt from by have := jk_m1; omega)) (congrArg Prod.snd D).symm
            ·
              rw [if_pos (by omega)] at D
              refine x_iconst (v := (-1)) rfl ki_m1 ?_
              refine x_iret rfl rfl ?_
              exact hQ _ _ (jr_of jk_m1 (by omega)) J Sm ((congrArg Prod.fst D).symm.trans (show (-1) = ((-1) : Int32).toInt from by have := jk_m1; omega)) (congrArg Prod.snd D).symm
def fp_X8_put_r53_c0d : jFp := [(54, 0, 160)]
set_option maxRecDepth 100000 in
set_option maxHeartbeats 4000000 in
theorem ct_X8_put_r53_c0d_38 {Dy : jH → Prop} {h0 : jH} {Q : Option Value → jH → Prop} {dr : jW} (hD : jDk Dy) (hQ : ∀ hx9, jJ jSgX Dy hx9 → jSm fp_X8_put_r53_c0d h0 hx9 → dr = vw hx9 → Q none hx9) : ∀ (h : jH), jJ jSgX Dy h → jSm fp_X8_put_r53_c0d h0 h → d_X8_put_r53_c0d_38  (vw h) = dr → jX m_X8_put 1 0 0 38 [] [] h 0 0 Q := by
  intro  h    J Sm D
  unfold d_X8_put_r53_c0d_38 at D
  refine x_vret rfl rfl ?_
  exact hQ _ J Sm D.symm
set_option maxRecDepth 100000 in
set_option maxHeartbeats 4000000 in
theorem sf_X8_put_r53_c0d {Dy : jH → Prop} {h : jH} {Q : Option Value → jH → Prop} {dr : jW} {a1 : Int32} {a3 : Int32} (y1 : 0 ≤ a1.toInt ∧ a1.toInt ≤ 39) (y3 : 0 ≤ a3.toInt ∧ a3.toInt ≤ 146399) (hD : jDk Dy) (J : jJ jSgX Dy h) (D : d_X8_put_r53_c0d a1.toInt a3.toInt (vw h) = dr) (hQ : ∀ hx9, jJ jSgX Dy hx9 → jSm fp_X8_put_r53_c0d h hx9 → dr = vw hx9 → Q none hx9) : jC m_X8_put 1 0 0 [.ref 53, .int a1, .int 0, .int a3] h Q := by
  refine jC.of rfl k_X8_put rfl ?_
  have Sm := jSm_rf fp_X8_put_r53_c0d h
  show jX m_X8_put 1 0 0 0 [(0, .ref 53), (1, .int a1), (2, .int 0), (3, .int a3)] [] _ 0 0 _
  unfold d_X8_put_r53_c0d at D
  refine x_iloadn (x := a1) rfl rfl ?_
  refine x_iflt (tgt := 38) rfl rfl (ti_lt rfl jk_0 (br_f (by omega) ?_))
  refine x_iloadn (x := a1) rfl rfl ?_
  refine x_aloadn (x := 53) rfl rfl ?_
  refine z_getI (N := 4) 8 3 rfl f_8_7 rfl J rfl sg_53_3_4_1_0_1 (fun v1 qv1 ev1 => ?_)
  try rw [vrf qv1] at D
  refine x_icge (tgt := 38) rfl rfl (ti_ge rfl rfl ⟨fun c2 => ?_, fun c2 => ?_⟩)
  ·
    rw [if_pos (by omega)] at D
    exact jX.sub jsb_n (ct_X8_put_r53_c0d_38 hD hQ  h J Sm D)
  ·
    rw [if_neg (by omega)] at D
    refine x_iloadn (x := 0) rfl rfl ?_
    refine x_iflt (tgt := 38) rfl rfl (ti_lt jk_0 jk_0 (br_f (by omega) ?_))
    refine x_iloadn (x := 0) rfl rfl ?_
    refine x_aloadn (x := 53) rfl rfl ?_
    refine z_getC (N := 4) (v := 4) 8 0 rfl f_8_19 rfl J rfl sg_53_0_1_1_0_1 jk_4 ?_
    refine x_icge (tgt := 38) rfl rfl (ti_ge jk_0 jk_4 (br_f (by omega) ?_))
    refine x_aloadn (x := 53) rfl rfl ?_
    refine z_getR (N := 4) (b := 54) 8 2 rfl f_8_25 rfl J rfl 6786 ⟨rfl, rfl⟩ rfl ?_
    refine x_iloadn (x := a1) rfl rfl ?_
    refine x_aloadn (x := 53) rfl rfl ?_
    refine z_getC (N := 4) (v := 4) 8 0 rfl f_8_19 rfl J rfl sg_53_0_1_1_0_1 jk_4 ?_
    refine z_imul rfl rfl jk_4 (by omega) (fun v3 ev3 => ?_)
    refine x_iloadn (x := 0) rfl rfl ?_
    refine z_iadd rfl rfl jk_0 (by omega) (fun v4 ev4 => ?_)
    refine x_iloadn (x := a3) rfl rfl ?_
    refine z_iast (N := 160) (l := 0) (u := 160) (w := a3.toInt) rfl hD J Sm rfl rfl rfl (by omega) rfl (wr_54 (fun q1 q2 q3 q4 => by omega) (fun q1 q2 q3 q4 => by omega) (fun q1 q2 q3 q4 => by omega) (fun q1 q2 q3 q4 => by omega)) rfl (fun h w5 J Sm => ?_)
    rw [vww w5 (show ((a1.toInt * 4) + 0) = v4.toInt from by omega) (show a3.toInt = a3.toInt from by omega)] at D
    exact jX.sub jsb_n (ct_X8_put_r53_c0d_38 hD hQ  h J Sm D)
def fp_X8_put_r53_c1d : jFp := [(54, 0, 160)]
set_option maxRecDepth 100000 in
set_option maxHeartbeats 4000000 in
theorem ct_X8_put_r53_c1d_38 {Dy : jH → Prop} {h0 : jH} {Q : Option Value → jH → Prop} {dr : jW} (hD : jDk Dy) (hQ : ∀ hx9, jJ jSgX Dy hx9 → jSm fp_X8_put_r53_c1d h0 hx9 → dr = vw hx9 → Q none hx9) : ∀ (h : jH), jJ jSgX Dy h → jSm fp_X8_put_r53_c1d h0 h → d_X8_put_r53_c1d_38  (vw h) = dr → jX m_X8_put 1 0 0 38 [] [] h 0 0 Q := by
  intro  h    J Sm D
  unfold d_X8_put_r53_c1d_38 at D
  refine x_vret rfl rfl ?_
  exact hQ _ J Sm D.symm
set_option maxRecDepth 100000 in
set_option maxHeartbeats 4000000 in
theorem sf_X8_put_r53_c1d {Dy : jH → Prop} {h : jH} {Q : Option Value → jH → Prop} {dr : jW} {a1 : Int32} {a3 : Int32} (y1 : 0 ≤ a1.toInt ∧ a1.toInt ≤ 39) (y3 : 0 ≤ a3.toInt ∧ a3.toInt ≤ 399) (hD : jDk Dy) (J : jJ jSgX Dy h) (D : d_X8_put_r53_c1d a1.toInt a3.toInt (vw h) = dr) (hQ : ∀ hx9, jJ jSgX Dy hx9 → jSm fp_X8_put_r53_c1d h hx9 → dr = vw hx9 → Q none hx9) : jC m_X8_put 1 0 0 [.ref 53, .int a1, .int 1, .int a3] h Q := by
  refine jC.of rfl k_X8_put rfl ?_
  have Sm := jSm_rf fp_X8_put_r53_c1d h
  show jX m_X8_put 1 0 0 0 [(0, .ref 53), (1, .int a1), (2, .int 1), (3, .int a3)] [] _ 0 0 _
  unfold d_X8_put_r53_c1d at D
  refine x_iloadn (x := a1) rfl rfl ?_
  refine x_iflt (tgt := 38) rfl rfl (ti_lt rfl jk_0 (br_f (by omega) ?_))
  refine x_iloadn (x := a1) rfl rfl ?_
  refine x_aloadn (x := 53) rfl rfl ?_
  refine z_getI (N := 4) 8 3 rfl f_8_7 rfl J rfl sg_53_3_4_1_0_1 (fun v1 qv1 ev1 => ?_)
  try rw [vrf qv1] at D
  refine x_icge (tgt := 38) rfl rfl (ti_ge rfl rfl ⟨fun c2 => ?_, fun c2 => ?_⟩)
  ·
    rw [if_pos (by omega)] at D
    exact jX.sub jsb_n (ct_X8_put_r53_c1d_38 hD hQ  h J Sm D)
  ·
    rw [if_neg (by omega)] at D
    refine x_iloadn (x := 1) rfl rfl ?_
    refine x_iflt (tgt := 38) rfl rfl (ti_lt jk_1 jk_0 (br_f (by omega) ?_))
    refine x_iloadn (x := 1) rfl rfl ?_
    refine x_aloadn (x := 53) rfl rfl ?_
    refine z_getC (N := 4) (v := 4) 8 0 rfl f_8_19 rfl J rfl sg_53_0_1_1_0_1 jk_4 ?_
    refine x_icge (tgt := 38) rfl rfl (ti_ge jk_1 jk_4 (br_f (by omega) ?_))
    refine x_aloadn (x := 53) rfl rfl ?_
    refine z_getR (N := 4) (b := 54) 8 2 rfl f_8_25 rfl J rfl 6786 ⟨rfl, rfl⟩ rfl ?_
    refine x_iloadn (x := a1) rfl rfl ?_
    refine x_aloadn (x := 53) rfl rfl ?_
    refine z_getC (N := 4) (v := 4) 8 0 rfl f_8_19 rfl J rfl sg_53_0_1_1_0_1 jk_4 ?_
    refine z_imul rfl rfl jk_4 (by omega) (fun v3 ev3 => ?_)
    refine x_iloadn (x := 1) rfl rfl ?_
    refine z_iadd rfl rfl jk_1 (by omega) (fun v4 ev4 => ?_)
    refine x_iloadn (x := a3) rfl rfl ?_
    refine z_iast (N := 160) (l := 0) (u := 160) (w := a3.toInt) rfl hD J Sm rfl rfl rfl (by omega) rfl (wr_54 (fun q1 q2 q3 q4 => by omega) (fun q1 q2 q3 q4 => by omega) (fun q1 q2 q3 q4 => by omega) (fun q1 q2 q3 q4 => by omega)) rfl (fun h w5 J Sm => ?_)
    rw [vww w5 (show ((a1.toInt * 4) + 1) = v4.toInt from by omega) (show a3.toInt = a3.toInt from by omega)] at D
    exact jX.sub jsb_n (ct_X8_put_r53_c1d_38 hD hQ  h J Sm D)
def fp_X8_put_r53_c2d : jFp := [(54, 0, 160)]
set_option maxRecDepth 100000 in
set_option maxHeartbeats 4000000 in
theorem ct_X8_put_r53_c2d_38 {Dy : jH → Prop} {h0 : jH} {Q : Option Value → jH → Prop} {dr : jW} (hD : jDk Dy) (hQ : ∀ hx9, jJ jSgX Dy hx9 → jSm fp_X8_put_r53_c2d h0 hx9 → dr = vw hx9 → Q none hx9) : ∀ (h : jH), jJ jSgX Dy h → jSm fp_X8_put_r53_c2d h0 h → d_X8_put_r53_c2d_38  (vw h) = dr → jX m_X8_put 1 0 0 38 [] [] h 0 0 Q := by
  intro  h    J Sm D
  unfold d_X8_put_r53_c2d_38 at D
  refine x_vret rfl rfl ?_
  exact hQ _ J Sm D.symm
set_option maxRecDepth 100000 in
set_option maxHeartbeats 4000000 in
theorem sf_X8_put_r53_c2d {Dy : jH → Prop} {h : jH} {Q : Option Value → jH → Prop} {dr : jW} {a1 : Int32} {a3 : Int32} (y1 : 0 ≤ a1.toInt ∧ a1.toInt ≤ 39) (y3 : 0 ≤ a3.toInt ∧ a3.toInt ≤ 2) (hD : jDk Dy) (J : jJ jSgX Dy h) (D : d_X8_put_r53_c2d a1.toInt a3.toInt (vw h) = dr) (hQ : ∀ hx9, jJ jSgX Dy hx9 → jSm fp_X8_put_r53_c2d h hx9 → dr = vw hx9 → Q none hx9) : jC m_X8_put 1 0 0 [.ref 53, .int a1, .int 2, .int a3] h Q := by
  refine jC.of rfl k_X8_put rfl ?_
  have Sm := jSm_rf fp_X8_put_r53_c2d h
  show jX m_X8_put 1 0 0 0 [(0, .ref 53), (1, .int a1), (2, .int 2), (3, .int a3)] [] _ 0 0 _
  unfold d_X8_put_r53_c2d at D
  refine x_iloadn (x := a1) rfl rfl ?_
  refine x_iflt (tgt := 38) rfl rfl (ti_lt rfl jk_0 (br_f (by omega) ?_))
  refine x_iloadn (x := a1) rfl rfl ?_
  refine x_aloadn (x := 53) rfl rfl ?_
  refine z_getI (N := 4) 8 3 rfl f_8_7 rfl J rfl sg_53_3_4_1_0_1 (fun v1 qv1 ev1 => ?_)
  try rw [vrf qv1] at D
  refine x_icge (tgt := 38) rfl rfl (ti_ge rfl rfl ⟨fun c2 => ?_, fun c2 => ?_⟩)
  ·
    rw [if_pos (by omega)] at D
    exact jX.sub jsb_n (ct_X8_put_r53_c2d_38 hD hQ  h J Sm D)
  ·
    rw [if_neg (by omega)] at D
    refine x_iloadn (x := 2) rfl rfl ?_
    refine x_iflt (tgt := 38) rfl rfl (ti_lt jk_2 jk_0 (br_f (by omega) ?_))
    refine x_iloadn (x := 2) rfl rfl ?_
    refine x_aloadn (x := 53) rfl rfl ?_
    refine z_getC (N := 4) (v := 4) 8 0 rfl f_8_19 rfl J rfl sg_53_0_1_1_0_1 jk_4 ?_
    refine x_icge (tgt := 38) rfl rfl (ti_ge jk_2 jk_4 (br_f (by omega) ?_))
    refine x_aloadn (x := 53) rfl rfl ?_
    refine z_getR (N := 4) (b := 54) 8 2 rfl f_8_25 rfl J rfl 6786 ⟨rfl, rfl⟩ rfl ?_
    refine x_iloadn (x := a1) rfl rfl ?_
    refine x_aloadn (x := 53) rfl rfl ?_
    refine z_getC (N := 4) (v := 4) 8 0 rfl f_8_19 rfl J rfl sg_53_0_1_1_0_1 jk_4 ?_
    refine z_imul rfl rfl jk_4 (by omega) (fun v3 ev3 => ?_)
    refine x_iloadn (x := 2) rfl rfl ?_
    refine z_iadd rfl rfl jk_2 (by omega) (fun v4 ev4 => ?_)
    refine x_iloadn (x := a3) rfl rfl ?_
    refine z_iast (N := 160) (l := 0) (u := 160) (w := a3.toInt) rfl hD J Sm rfl rfl rfl (by omega) rfl (wr_54 (fun q1 q2 q3 q4 => by omega) (fun q1 q2 q3 q4 => by omega) (fun q1 q2 q3 q4 => by omega) (fun q1 q2 q3 q4 => by omega)) rfl (fun h w5 J Sm => ?_)
    rw [vww w5 (show ((a1.toInt * 4) + 2) = v4.toInt from by omega) (show a3.toInt = a3.toInt from by omega)] at D
    exact jX.sub jsb_n (ct_X8_put_r53_c2d_38 hD hQ  h J Sm D)
def fp_X8_put_r53_c3d : jFp := [(54, 0, 160)]
set_option maxRecDepth 100000 in
set_option maxHeartbeats 4000000 in
theorem ct_X8_put_r53_c3d_38 {Dy : jH → Prop} {h0 : jH} {Q : Option Value → jH → Prop} {dr : jW} (hD : jDk Dy) (hQ : ∀ hx9, jJ jSgX Dy hx9 → jSm fp_X8_put_r53_c3d h0 hx9 → dr = vw hx9 → Q none hx9) : ∀ (h : jH), jJ jSgX Dy h → jSm fp_X8_put_r53_c3d h0 h → d_X8_put_r53_c3d_38  (vw h) = dr → jX m_X8_put 1 0 0 38 [] [] h 0 0 Q := by
  intro  h    J Sm D
  unfold d_X8_put_r53_c3d_38 at D
  refine x_vret rfl rfl ?_
  exact hQ _ J Sm D.symm
set_option maxRecDepth 100000 in
set_option maxHeartbeats 4000000 in
theorem sf_X8_put_r53_c3d {Dy : jH → Prop} {h : jH} {Q : Option Value → jH → Prop} {dr : jW} {a1 : Int32} {a3 : Int32} (y1 : 0 ≤ a1.toInt ∧ a1.toInt ≤ 39) (y3 : 0 ≤ a3.toInt ∧ a3.toInt ≤ 1000000) (hD : jDk Dy) (J : jJ jSgX Dy h) (D : d_X8_put_r53_c3d a1.toInt a3.toInt (vw h) = dr) (hQ : ∀ hx9, jJ jSgX Dy hx9 → jSm fp_X8_put_r53_c3d h hx9 → dr = vw hx9 → Q none hx9) : jC m_X8_put 1 0 0 [.ref 53, .int a1, .int 3, .int a3] h Q := by
  refine jC.of rfl k_X8_put rfl ?_
  have Sm := jSm_rf fp_X8_put_r53_c3d h
  show jX m_X8_put 1 0 0 0 [(0, .ref 53), (1, .int a1), (2, .int 3), (3, .int a3)] [] _ 0 0 _
  unfold d_X8_put_r53_c3d at D
  refine x_iloadn (x := a1) rfl rfl ?_
  refine x_iflt (tgt := 38) rfl rfl (ti_lt rfl jk_0 (br_f (by omega) ?_))
  refine x_iloadn (x := a1) rfl rfl ?_
  refine x_aloadn (x := 53) rfl rfl ?_
  refine z_getI (N := 4) 8 3 rfl f_8_7 rfl J rfl sg_53_3_4_1_0_1 (fun v1 qv1 ev1 => ?_)
  try rw [vrf qv1] at D
  refine x_icge (tgt := 38) rfl rfl (ti_ge rfl rfl ⟨fun c2 => ?_, fun c2 => ?_⟩)
  ·
    rw [if_pos (by omega)] at D
    exact jX.sub jsb_n (ct_X8_put_r53_c3d_38 hD hQ  h J Sm D)
  ·
    rw [if_neg (by omega)] at D
    refine x_iloadn (x := 3) rfl rfl ?_
    refine x_iflt (tgt := 38) rfl rfl (ti_lt jk_3 jk_0 (br_f (by omega) ?_))
    refine x_iloadn (x := 3) rfl rfl ?_
    refine x_aloadn (x := 53) rfl rfl ?_
    refine z_getC (N := 4) (v := 4) 8 0 rfl f_8_19 rfl J rfl sg_53_0_1_1_0_1 jk_4 ?_
    refine x_icge (tgt := 38) rfl rfl (ti_ge jk_3 jk_4 (br_f (by omega) ?_))
    refine x_aloadn (x := 53) rfl rfl ?_
    refine z_getR (N := 4) (b := 54) 8 2 rfl f_8_25 rfl J rfl 6786 ⟨rfl, rfl⟩ rfl ?_
    refine x_iloadn (x := a1) rfl rfl ?_
    refine x_aloadn (x := 53) rfl rfl ?_
    refine z_getC (N := 4) (v := 4) 8 0 rfl f_8_19 rfl J rfl sg_53_0_1_1_0_1 jk_4 ?_
    refine z_imul rfl rfl jk_4 (by omega) (fun v3 ev3 => ?_)
    refine x_iloadn (x := 3) rfl rfl ?_
    refine z_iadd rfl rfl jk_3 (by omega) (fun v4 ev4 => ?_)
    refine x_iloadn (x := a3) rfl rfl ?_
    refine z_iast (N := 160) (l := 0) (u := 160) (w := a3.toInt) rfl hD J Sm rfl rfl rfl (by omega) rfl (wr_54 (fun q1 q2 q3 q4 => by omega) (fun q1 q2 q3 q4 => by omega) (fun q1 q2 q3 q4 => by omega) (fun q1 q2 q3 q4 => by omega)) rfl (fun h w5 J Sm => ?_)
    rw [vww w5 (show ((a1.toInt * 4) + 3) = v4.toInt from by omega) (show a3.toInt = a3.toInt from by omega)] at D
    exact jX.sub jsb_n (ct_X8_put_r53_c3d_38 hD hQ  h J Sm D)
def fp_X8_put_r53_c4d : jFp := []
set_option maxRecDepth 100000 in
set_option maxHeartbeats 4000000 in
theorem ct_X8_put_r53_c4d_38 {Dy : jH → Prop} {h0 : jH} {Q : Option Value → jH → Prop} {dr : jW} (hD : jDk Dy) (hQ : ∀ hx9, jJ jSgX Dy hx9 → jSm fp_X8_put_r53_c4d h0 hx9 → dr = vw hx9 → Q none hx9) : ∀ (h : jH), jJ jSgX Dy h → jSm fp_X8_put_r53_c4d h0 h → d_X8_put_r53_c4d_38  (vw h) = dr → jX m_X8_put 1 0 0 38 [] [] h 0 0 Q := by
  intro  h    J Sm D
  unfold d_X8_put_r53_c4d_38 at D
  refine x_vret rfl rfl ?_
  exact hQ _ J Sm D.symm
set_option maxRecDepth 100000 in
set_option maxHeartbeats 4000000 in
theorem sf_X8_put_r53_c4d {Dy : jH → Prop} {h : jH} {Q : Option Value → jH → Prop} {dr : jW} {a1 : Int32} {a3 : Int32} (y1 : 0 ≤ a1.toInt ∧ a1.toInt ≤ 39) (y3 : 0 ≤ a3.toInt ∧ a3.toInt ≤ 0) (hD : jDk Dy) (J : jJ jSgX Dy h) (D : d_X8_put_r53_c4d a1.toInt a3.toInt (vw h) = dr) (hQ : ∀ hx9, jJ jSgX Dy hx9 → jSm fp_X8_put_r53_c4d h hx9 → dr = vw hx9 → Q none hx9) : jC m_X8_put 1 0 0 [.ref 53, .int a1, .int 4, .int a3] h Q := by
  refine jC.of rfl k_X8_put rfl ?_
  have Sm := jSm_rf fp_X8_put_r53_c4d h
  show jX m_X8_put 1 0 0 0 [(0, .ref 53), (1, .int a1), (2, .int 4), (3, .int a3)] [] _ 0 0 _
  unfold d_X8_put_r53_c4d at D
  refine x_iloadn (x := a1) rfl rfl ?_
  refine x_iflt (tgt := 38) rfl rfl (ti_lt rfl jk_0 (br_f (by omega) ?_))
  refine x_iloadn (x := a1) rfl rfl ?_
  refine x_aloadn (x := 53) rfl rfl ?_
  refine z_getI (N := 4) 8 3 rfl f_8_7 rfl J rfl sg_53_3_4_1_0_1 (fun v1 qv1 ev1 => ?_)
  try rw [vrf qv1] at D
  refine x_icge (tgt := 38) rfl rfl (ti_ge rfl rfl ⟨fun c2 => ?_, fun c2 => ?_⟩)
  ·
    rw [if_pos (by omega)] at D
    exact jX.sub jsb_n (ct_X8_put_r53_c4d_38 hD hQ  h J Sm D)
  ·
    rw [if_neg (by omega)] at D
    refine x_iloadn (x := 4) rfl rfl ?_
    refine x_iflt (tgt := 38) rfl rfl (ti_lt jk_4 jk_0 (br_f (by omega) ?_))
    refine x_iloadn (x := 4) rfl rfl ?_
    refine x_aloadn (x := 53) rfl rfl ?_
    refine z_getC (N := 4) (v := 4) 8 0 rfl f_8_19 rfl J rfl sg_53_0_1_1_0_1 jk_4 ?_
    refine x_icge (tgt := 38) rfl rfl (ti_ge jk_4 jk_4 (br_t (by omega) ?_))
    exact jX.sub jsb_n (ct_X8_put_r53_c4d_38 hD hQ  h J Sm D)
def fp_X8_put_r53_c5d : jFp := []
set_option maxRecDepth 100000 in
set_option maxHeartbeats 4000000 in
theorem ct_X8_put_r53_c5d_38 {Dy : jH → Prop} {h0 : jH} {Q : Option Value → jH → Prop} {dr : jW} (hD : jDk Dy) (hQ : ∀ hx9, jJ jSgX Dy hx9 → jSm fp_X8_put_r53_c5d h0 hx9 → dr = vw hx9 → Q none hx9) : ∀ (h : jH), jJ jSgX Dy h → jSm fp_X8_put_r53_c5d h0 h → d_X8_put_r53_c5d_38  (vw h) = dr → jX m_X8_put 1 0 0 38 [] [] h 0 0 Q := by
  intro  h    J Sm D
  unfold d_X8_put_r53_c5d_38 at D
  refine x_vret rfl rfl ?_
  exact hQ _ J Sm D.symm
set_option maxRecDepth 100000 in
set_option maxHeartbeats 4000000 in
theorem sf_X8_put_r53_c5d {Dy : jH → Prop} {h : jH} {Q : Option Value → jH → Prop} {dr : jW} {a1 : Int32} {a3 : Int32} (y1 : 0 ≤ a1.toInt ∧ a1.toInt ≤ 39) (y3 : 0 ≤ a3.toInt ∧ a3.toInt ≤ 0) (hD : jDk Dy) (J : jJ jSgX Dy h) (D : d_X8_put_r53_c5d a1.toInt a3.toInt (vw h) = dr) (hQ : ∀ hx9, jJ jSgX Dy hx9 → jSm fp_X8_put_r53_c5d h hx9 → dr = vw hx9 → Q none hx9) : jC m_X8_put 1 0 0 [.ref 53, .int a1, .int 5, .int a3] h Q := by
  refine jC.of rfl k_X8_put rfl ?_
  have Sm := jSm_rf fp_X8_put_r53_c5d h
  show jX m_X8_put 1 0 0 0 [(0, .ref 53), (1, .int a1), (2, .int 5), (3, .int a3)] [] _ 0 0 _
  unfold d_X8_put_r53_c5d at D
  refine x_iloadn (x := a1) rfl rfl ?_
  refine x_iflt (tgt := 38) rfl rfl (ti_lt rfl jk_0 (br_f (by omega) ?_))
  refine x_iloadn (x := a1) rfl rfl ?_
  refine x_aloadn (x := 53) rfl rfl ?_
  refine z_getI (N := 4) 8 3 rfl f_8_7 rfl J rfl sg_53_3_4_1_0_1 (fun v1 qv1 ev1 => ?_)
  try rw [vrf qv1] at D
  refine x_icge (tgt := 38) rfl rfl (ti_ge rfl rfl ⟨fun c2 => ?_, fun c2 => ?_⟩)
  ·
    rw [if_pos (by omega)] at D
    exact jX.sub jsb_n (ct_X8_put_r53_c5d_38 hD hQ  h J Sm D)
  ·
    rw [if_neg (by omega)] at D
    refine x_iloadn (x := 5) rfl rfl ?_
    refine x_iflt (tgt := 38) rfl rfl (ti_lt jk_5 jk_0 (br_f (by omega) ?_))
    refine x_iloadn (x := 5) rfl rfl ?_
    refine x_aloadn (x := 53) rfl rfl ?_
    refine z_getC (N := 4) (v := 4) 8 0 rfl f_8_19 rfl J rfl sg_53_0_1_1_0_1 jk_4 ?_
    refine x_icge (tgt := 38) rfl rfl (ti_ge jk_5 jk_4 (br_t (by omega) ?_))
    exact jX.sub jsb_n (ct_X8_put_r53_c5d_38 hD hQ  h J Sm D)
def fp_X8_add_r53d : jFp := [(53, 3, 4), (54, 0, 160)]
set_option maxRecDepth 100000 in
set_option maxHeartbeats 4000000 in
theorem sf_X8_add_r53d {Dy : jH → Prop} {h : jH} {Q : Option Value → jH → Prop} {dr : jW} {a1 : Int32} {a2 : Int32} {a3 : Int32} {a4 : Int32} {a5 : Int32} {a6 : Int32} (y1 : 0 ≤ a1.toInt ∧ a1.toInt ≤ 146399) (y2 : 0 ≤ a2.toInt ∧ a2.toInt ≤ 399) (y3 : 0 ≤ a3.toInt ∧ a3.toInt ≤ 2) (y4 : 0 ≤ a4.toInt ∧ a4.toInt ≤ 1000000) (y5 : 0 ≤ a5.toInt ∧ a5.toInt ≤ 0) (y6 : 0 ≤ a6.toInt ∧ a6.toInt ≤ 0) (hD : jDk Dy) (J : jJ jSgX Dy h) (D : d_X8_add_r53d a1.toInt a2.toInt a3.toInt a4.toInt a5.toInt a6.toInt (vw h) = dr) (hQ : ∀ hx9, jJ jSgX Dy hx9 → jSm fp_X8_add_r53d h hx9 → dr = vw hx9 → Q none hx9) : jC m_X8_add 2 0 0 [.ref 53, .int a1, .int a2, .int a3, .int a4, .int a5, .int a6] h Q := by
  refine jC.of rfl k_X8_add rfl ?_
  have Sm := jSm_rf fp_X8_add_r53d h
  show jX m_X8_add 2 0 0 0 [(0, .ref 53), (1, .int a1), (2, .int a2), (3, .int a3), (4, .int a4), (5, .int a5), (6, .int a6)] [] _ 0 0 _
  unfold d_X8_add_r53d at D
  refine x_aloadn (x := 53) rfl rfl ?_
  refine z_getI (N := 4) 8 3 rfl f_8_7 rfl J rfl sg_53_3_4_1_0_1 (fun v1 qv1 ev1 => ?_)
  try rw [vrf qv1] at D
  refine x_aloadn (x := 53) rfl rfl ?_
  refine z_getC (N := 4) (v := 40) 8 1 rfl f_8_22 rfl J rfl sg_53_1_2_1_0_1 jk_40 ?_
  refine x_iclt (tgt := 12) rfl rfl (ti_lt rfl jk_40 ⟨fun c2 => ?_, fun c2 => ?_⟩)
  ·
    rw [if_pos (by omega)] at D
    refine x_aloadn (x := 53) rfl rfl ?_
    refine z_getM (N := 4) (v := v1) 8 3 rfl f_8_7 rfl J rfl qv1 ?_
    refine x_istore (lsx9 := [(7, .int v1), (0, .ref 53), (1, .int a1), (2, .int a2), (3, .int a3), (4, .int a4), (5, .int a5), (6, .int a6)]) rfl rfl rfl ?_
    refine x_aloadn (x := 53) rfl rfl ?_
    refine x_iload (x := v1) rfl rfl ?_
    refine x_iconst (v := 1) rfl ki_1 ?_
    refine z_iadd rfl rfl jk_1 (by omega) (fun v3 ev3 => ?_)
    refine z_putI (N := 4) (w := v3.toInt) 8 3 rfl f_8_7 rfl (jfin_no TX8 RX8 4 rfl rfl) hD J Sm rfl rfl rfl (pw_53_3 (by omega)) rfl (fun h w4 J Sm => ?_)
    rw [vwf w4 (show (v1.toInt + 1) = v3.toInt from by omega)] at D
    refine x_aloadn (x := 53) rfl rfl ?_
    refine x_iload (x := v1) rfl rfl ?_
    refine x_iconst (v := 0) rfl ki_0 ?_
    refine x_iloadn (x := a1) rfl rfl ?_
    refine x_inv (N := m_X8_put) (As := [.int v1, .int 0, .int a1]) (b := 53) (st := []) (dx9 := 1) (mc := 0) (ms := 0) (host := "") 8 rfl t_X8_put ⟨Or.inl q_8_29, i_X8_put.1, i_X8_put.2⟩ ⟨by decide, rfl⟩ (congrArg Prod.fst (J.1.1 53 (8, 4) rfl)) rfl (by decide) rfl rfl ⟨by decide, by decide⟩ (sf_X8_put_r53_c0d (jr_of rfl (by omega)) (jr_of rfl (by omega)) hD J rfl  (fun h J S5 X6 => ?_))
    have Sm := jSm_tr rfl Sm S5
    rw [X6] at D
    show jX m_X8_add 2 0 0 34 [(7, .int v1), (0, .ref 53), (1, .int a1), (2, .int a2), (3, .int a3), (4, .int a4), (5, .int a5), (6, .int a6)] [] _ 0 0 _
    refine x_aloadn (x := 53) rfl rfl ?_
    refine x_iload (x := v1) rfl rfl ?_
    refine x_iconst (v := 1) rfl ki_1 ?_
    refine x_iloadn (x := a2) rfl rfl ?_
    refine x_inv (N := m_X8_put) (As := [.int v1, .int 1, .int a2]) (b := 53) (st := []) (dx9 := 1) (mc := 0) (ms := 0) (host := "") 8 rfl t_X8_put ⟨Or.inl q_8_29, i_X8_put.1, i_X8_put.2⟩ ⟨by decide, rfl⟩ (congrArg Prod.fst (J.1.1 53 (8, 4) rfl)) rfl (by decide) rfl rfl ⟨by decide, by decide⟩ (sf_X8_put_r53_c1d (jr_of rfl (by omega)) (jr_of rfl (by omega)) hD J rfl  (fun h J S7 X8 => ?_))
    have Sm := jSm_tr rfl Sm S7
    rw [X8] at D
    show jX m_X8_add 2 0 0 42 [(7, .int v1), (0, .ref 53), (1, .int a1), (2, .int a2), (3, .int a3), (4, .int a4), (5, .int a5), (6, .int a6)] [] _ 0 0 _
    refine x_aloadn (x := 53) rfl rfl ?_
    refine x_iload (x := v1) rfl rfl ?_
    refine x_iconst (v := 2) rfl ki_2 ?_
    refine x_iloadn (x := a3) rfl rfl ?_
    refine x_inv (N := m_X8_put) (As := [.int v1, .int 2, .int a3]) (b := 53) (st := []) (dx9 := 1) (mc := 0) (ms := 0) (host := "") 8 rfl t_X8_put ⟨Or.inl q_8_29, i_X8_put.1, i_X8_put.2⟩ ⟨by decide, rfl⟩ (congrArg Prod.fst (J.1.1 53 (8, 4) rfl)) rfl (by decide) rfl rfl ⟨by decide, by decide⟩ (sf_X8_put_r53_c2d (jr_of rfl (by omega)) (jr_of rfl (by omega)) hD J rfl  (fun h J S9 X10 => ?_))
    have Sm := jSm_tr rfl Sm S9
    rw [X10] at D
    show jX m_X8_add 2 0 0 50 [(7, .int v1), (0, .ref 53), (1, .int a1), (2, .int a2), (3, .int a3), (4, .int a4), (5, .int a5), (6, .int a6)] [] _ 0 0 _
    refine x_aloadn (x := 53) rfl rfl ?_
    refine x_iload (x := v1) rfl rfl ?_
    refine x_iconst (v := 3) rfl ki_3 ?_
    refine x_iload (x := a4) rfl rfl ?_
    refine x_inv (N := m_X8_put) (As := [.int v1, .int 3, .int a4]) (b := 53) (st := []) (dx9 := 1) (mc := 0) (ms := 0) (host := "") 8 rfl t_X8_put ⟨Or.inl q_8_29, i_X8_put.1, i_X8_put.2⟩ ⟨by decide, rfl⟩ (congrArg Prod.fst (J.1.1 53 (8, 4) rfl)) rfl (by decide) rfl rfl ⟨by decide, by decide⟩ (sf_X8_put_r53_c3d (jr_of rfl (by omega)) (jr_of rfl (by omega)) hD J rfl  (fun h J S11 X12 => ?_))
    have Sm := jSm_tr rfl Sm S11
    rw [X12] at D
    show jX m_X8_add 2 0 0 59 [(7, .int v1), (0, .ref 53), (1, .int a1), (2, .int a2), (3, .int a3), (4, .int a4), (5, .int a5), (6, .int a6)] [] _ 0 0 _
    refine x_aloadn (x := 53) rfl rfl ?_
    refine x_iload (x := v1) rfl rfl ?_
    refine x_iconst (v := 4) rfl ki_4 ?_
    refine x_iload (x := a5) rfl rfl ?_
    refine x_inv (N := m_X8_put) (As := [.int v1, .int 4, .int a5]) (b := 53) (st := []) (dx9 := 1) (mc := 0) (ms := 0) (host := "") 8 rfl t_X8_put ⟨Or.inl q_8_29, i_X8_put.1, i_X8_put.2⟩ ⟨by decide, rfl⟩ (congrArg Prod.fst (J.1.1 53 (8, 4) rfl)) rfl (by decide) rfl rfl ⟨by decide, by decide⟩ (sf_X8_put_r53_c4d (jr_of rfl (by omega)) (jr_of rfl (by omega)) hD J rfl  (fun h J S13 X14 => ?_))
    have Sm := jSm_tr rfl Sm S13
    rw [X14] at D
    show jX m_X8_add 2 0 0 68 [(7, .int v1), (0, .ref 53), (1, .int a1), (2, .int a2), (3, .int a3), (4, .int a4), (5, .int a5), (6, .int a6)] [] _ 0 0 _
    refine x_aloadn (x := 53) rfl rfl ?_
    refine x_iload (x := v1) rfl rfl ?_
    refine x_iconst (v := 5) rfl ki_5 ?_
    refine x_iload (x := a6) rfl rfl ?_
    refine x_inv (N := m_X8_put) (As := [.int v1, .int 5, .int a6]) (b := 53) (st := []) (dx9 := 1) (mc := 0) (ms := 0) (host := "") 8 rfl t_X8_put ⟨Or.inl q_8_29, i_X8_put.1, i_X8_put.2⟩ ⟨by decide, rfl⟩ (congrArg Prod.fst (J.1.1 53 (8, 4) rfl)) rfl (by decide) rfl rfl ⟨by decide, by decide⟩ (sf_X8_put_r53_c5d (jr_of rfl (by omega)) (jr_of rfl (by omega)) hD J rfl  (fun h J S15 X16 => ?_))
    have Sm := jSm_tr rfl Sm S15
    rw [X16] at D
    show jX m_X8_add 2 0 0 77 [(7, .int v1), (0, .ref 53), (1, .int a1), (2, .int a2), (3, .int a3), (4, .int a4), (5, .int a5), (6, .int a6)] [] _ 0 0 _
    refine x_vret rfl rfl ?_
    exact hQ _ J Sm D.symm
  ·
    rw [if_neg (by omega)] at D
    refine x_vret rfl rfl ?_
    exact hQ _ J Sm D.symm
def fp_X8_isFull_r53d : jFp := []
set_option maxRecDepth 100000 in
set_option maxHeartbeats 4000000 in
theorem ct_X8_isFull_r53d_200016 {Dy : jH → Prop} {h0 : jH} {Q : Option Value → jH → Prop} {dr : Int} (hD : jDk Dy) (hQ : ∀ (v : Int32) hx9, 0 ≤ v.toInt ∧ v.toInt ≤ 1 → jJ jSgX Dy hx9 → jSm fp_X8_isFull_r53d h0 hx9 → dr = v.toInt → vw hx9 = vw h0 → Q (some (.int v)) hx9) : ∀ (h : jH), jJ jSgX Dy h → jSm fp_X8_isFull_r53d h0 h → d_X8_isFull_r53d_200016  (vw h) = dr → vw h = vw h0 → jX m_X8_isFull 1 0 0 16 [] [.int 0] h 0 0 Q := by
  intro  h    J Sm D EV
  unfold d_X8_isFull_r53d_200016 at D
  refine x_zret rfl rfl (by decide) ?_
  exact hQ _ _ (jr_of jk_0 (by omega)) J Sm (D.symm.trans (show 0 = (0 : Int32).toInt from by have := jk_0; omega)) EV
set_option maxRecDepth 100000 in
set_option maxHeartbeats 4000000 in
theorem ct_X8_isFull_r53d_300016 {Dy : jH → Prop} {h0 : jH} {Q : Option Value → jH → Prop} {dr : Int} (hD : jDk Dy) (hQ : ∀ (v : Int32) hx9, 0 ≤ v.toInt ∧ v.toInt ≤ 1 → jJ jSgX Dy hx9 → jSm fp_X8_isFull_r53d h0 hx9 → dr = v.toInt → vw hx9 = vw h0 → Q (some (.int v)) hx9) : ∀ (h : jH), jJ jSgX Dy h → jSm fp_X8_isFull_r53d h0 h → d_X8_isFull_r53d_300016  (vw h) = dr → vw h = vw h0 → jX m_X8_isFull 1 0 0 16 [] [.int 1] h 0 0 Q := by
  intro  h    J Sm D EV
  unfold d_X8_isFull_r53d_300016 at D
  refine x_zret rfl rfl (by decide) ?_
  exact hQ _ _ (jr_of jk_1 (by omega)) J Sm (D.symm.trans (show 1 = (1 : Int32).toInt from by have := jk_1; omega)) EV
set_option maxRecDepth 100000 in
set_option maxHeartbeats 4000000 in
theorem sf_X8_isFull_r53d {Dy : jH → Prop} {h : jH} {Q : Option Value → jH → Prop} {dr : Int} (hD : jDk Dy) (J : jJ jSgX Dy h) (D : d_X8_isFull_r53d (vw h) = dr) (hQ : ∀ (v : Int32) hx9, 0 ≤ v.toInt ∧ v.toInt ≤ 1 → jJ jSgX Dy hx9 → jSm fp_X8_isFull_r53d h hx9 → dr = v.toInt → vw hx9 = vw h → Q (some (.int v)) hx9) : jC m_X8_isFull 1 0 0 [.ref 53] h Q := by
  refine jC.of rfl k_X8_isFull rfl ?_
  have Sm := jSm_rf fp_X8_isFull_r53d h
  show jX m_X8_isFull 1 0 0 0 [(0, .ref 53)] [] _ 0 0 _
  unfold d_X8_isFull_r53d at D
  have EV : vw h = vw h := rfl
  refine x_aloadn (x := 53) rfl rfl ?_
  refine z_getI (N := 4) 8 3 rfl f_8_7 rfl J rfl sg_53_3_4_1_0_1 (fun v1 qv1 ev1 => ?_)
  try rw [vrf qv1] at D
  refine x_aloadn (x := 53) rfl rfl ?_
  refine z_getC (N := 4) (v := 40) 8 1 rfl f_8_22 rfl J rfl sg_53_1_2_1_0_1 jk_40 ?_
  refine x_iclt (tgt := 15) rfl rfl (ti_lt rfl jk_40 ⟨fun c2 => ?_, fun c2 => ?_⟩)
  ·
    rw [if_pos (by omega)] at D
    refine x_iconst (v := 0) rfl ki_0 ?_
    exact jX.sub jsb_n (ct_X8_isFull_r53d_200016 hD hQ  h J Sm D EV)
  ·
    rw [if_neg (by omega)] at D
    refine x_iconst (v := 1) rfl ki_1 ?_
    refine x_goto (tgt := 16) rfl rfl ?_
    exact jX.sub jsb_n (ct_X8_isFull_r53d_300016 hD hQ  h J Sm D EV)
def fp_X11_levy_r31d : jFp := [(31, 12, 13), (32, 19, 20), (53, 3, 4), (54, 0, 160)]
set_option maxRecDepth 100000 in
set_option maxHeartbeats 4000000 in
theorem ct_X11_levy_r31d_35 {Dy : jH → Prop} {h0 : jH} {Q : Option Value → jH → Prop} {dr : (Int × jW)} (hD : jDk Dy) (hQ : ∀ (v : Int32) hx9, (-366) ≤ v.toInt ∧ v.toInt ≤ 39 → jJ jSgX Dy hx9 → jSm fp_X11_levy_r31d h0 hx9 → dr.1 = v.toInt → dr.2 = vw hx9 → Q (some (.int v)) hx9) : ∀ (h : jH), jJ jSgX Dy h → jSm fp_X11_levy_r31d h0 h → d_X11_levy_r31d_35  (vw h) = dr → jX m_X11_levy 3 0 0 35 [(0, .ref 31)] [] h 0 0 Q := by
  intro  h    J Sm D
  unfold d_X11_levy_r31d_35 at D
  refine x_aloadn (x := 31) rfl rfl ?_
  refine x_iconst (v := (-1)) rfl ki_m1 ?_
  refine x_inv (N := m_X11_refuse) (As := [.int (-1)]) (b := 31) (st := []) (dx9 := 2) (mc := 0) (ms := 0) (host := "") 11 rfl t_X11_refuse ⟨Or.inl q_11_206, i_X11_refuse.1, i_X11_refuse.2⟩ ⟨by decide, rfl⟩ (congrArg Prod.fst (J.1.1 31 (11, 13) rfl)) rfl (by decide) rfl rfl ⟨by decide, by decide⟩ (jC.of rfl k_X11_refuse rfl ?_)
  show jX m_X11_refuse 2 0 0 0 [(0, .ref 31), (1, .int (-1))] [] _ 0 0 _
  refine x_aloadn (x := 31) rfl rfl ?_
  refine x_iloadn (x := (-1)) rfl rfl ?_
  refine z_putI (N := 13) (w := (-1)) 11 12 rfl f_11_94 rfl (jfin_no TX11 RX11 13 rfl rfl) hD J Sm rfl rfl jk_m1 (pw_31_12 (by omega)) rfl (fun h w1 J Sm => ?_)
  rw [vwf w1 (show (-1) = ((-1) : Int32).toInt from by have := jk_m1; omega)] at D
  refine x_iloadn (x := (-1)) rfl rfl ?_
  refine x_iret rfl rfl ?_
  show jX m_X11_levy 3 0 0 40 [(0, .ref 31)] [.int (-1)] _ 0 0 _
  refine x_iret rfl rfl ?_
  exact hQ _ _ (jr_of jk_m1 (by omega)) J Sm ((congrArg Prod.fst D).symm.trans (show (-1) = ((-1) : Int32).toInt from by have := jk_m1; omega)) (congrArg Prod.snd D).symm
set_option maxRecDepth 100000 in
set_option maxHeartbeats 4000000 in
theorem sf_X11_levy_r31d {Dy : jH → Prop} {h : jH} {Q : Option Value → jH → Prop} {dr : (Int × jW)} {a1 : Int32} {a2 : Int32} {a3 : Int32} {a4 : Int32} (hD : jDk Dy) (J : jJ jSgX Dy h) (D : d_X11_levy_r31d a1.toInt a2.toInt a3.toInt a4.toInt (vw h) = dr) (hQ : ∀ (v : Int32) hx9, (-366) ≤ v.toInt ∧ v.toInt ≤ 39 → jJ jSgX Dy hx9 → jSm fp_X11_levy_r31d h hx9 → dr.1 = v.toInt → dr.2 = vw hx9 → Q (some (.int v)) hx9) : jC m_X11_levy 3 0 0 [.ref 31, .int a1, .int a2, .int a3, .int a4] h Q := by
  refine jC.of rfl k_X11_levy rfl ?_
  have Sm := jSm_rf fp_X11_levy_r31d h
  have ea1 := jfull a1
  have ea2 := jfull a2
  have ea3 := jfull a3
  have ea4 := jfull a4
  show jX m_X11_levy 3 0 0 0 [(0, .ref 31), (1, .int a1), (2, .int a2), (3, .int a3), (4, .int a4)] [] _ 0 0 _
  unfold d_X11_levy_r31d at D
  refine x_iloadn (x := a1) rfl rfl ?_
  refine x_iflt (tgt := 35) rfl rfl (ti_lt rfl jk_0 ⟨fun c1 => ?_, fun c1 => ?_⟩)
  ·
    rw [if_pos (by omega)] at D
    exact jX.sub (jsb_c rfl jsb_n) (ct_X11_levy_r31d_35 hD hQ  h J Sm D)
  ·
    rw [if_neg (by omega)] at D
    refine x_iloadn (x := a1) rfl rfl ?_
    refine x_iconst (v := 2) rfl ki_2 ?_
    refine x_icgt (tgt := 35) rfl rfl (ti_gt rfl jk_2 ⟨fun c2 => ?_, fun c2 => ?_⟩)
    ·
      rw [if_pos (by omega)] at D
      exact jX.sub (jsb_c rfl jsb_n) (ct_X11_levy_r31d_35 hD hQ  h J Sm D)
    ·
      rw [if_neg (by omega)] at D
      refine x_iloadn (x := a2) rfl rfl ?_
      refine x_inst (N := m_X11_isYear) (As := [.int a2]) (st := []) (dx9 := 1) (mc := 0) (ms := 0) (host := "") rfl t_X11_isYear ⟨Or.inl q_11_433, s_X11_isYear⟩ rfl (by decide) rfl rfl ⟨by decide, by decide⟩ (zc_X11_isYear rfl (fun v3 ev3 => ?_))
      show jX m_X11_levy 3 0 0 13 [(0, .ref 31), (1, .int a1), (2, .int a2), (3, .int a3), (4, .int a4)] [.int v3] _ 0 0 _
      refine x_ifeq (tgt := 35) rfl rfl (ti_eq rfl jk_0 ⟨fun c4 => ?_, fun c4 => ?_⟩)
      ·
        rw [if_neg (by omega)] at D
        exact jX.sub (jsb_c rfl jsb_n) (ct_X11_levy_r31d_35 hD hQ  h J Sm D)
      ·
        rw [if_pos (by omega)] at D
        refine x_iloadn (x := a3) rfl rfl ?_
        refine x_iconst (v := 0) rfl ki_0 ?_
        refine x_ldcw (v := 1000000) rfl z_11_436 ?_
        refine x_inst (N := m_X11_isWithin) (As := [.int a3, .int 0, .int 1000000]) (st := []) (dx9 := 1) (mc := 0) (ms := 0) (host := "") rfl t_X11_isWithin ⟨Or.inl q_11_202, s_X11_isWithin⟩ rfl (by decide) rfl rfl ⟨by decide, by decide⟩ (zc_X11_isWithin rfl jk_0 jk_1000000 (fun v5 ev5 => ?_))
        show jX m_X11_levy 3 0 0 24 [(0, .ref 31), (1, .int a1), (2, .int a2), (3, .int a3), (4, .int a4)] [.int v5] _ 0 0 _
        refine x_ifeq (tgt := 35) rfl rfl (ti_eq rfl jk_0 ⟨fun c6 => ?_, fun c6 => ?_⟩)
        ·
          rw [if_neg (by omega)] at D
          exact jX.sub (jsb_c rfl jsb_n) (ct_X11_levy_r31d_35 hD hQ  h J Sm D)
        ·
          rw [if_pos (by omega)] at D
          refine x_iload (x := a4) rfl rfl ?_
          refine x_inst (N := m_X11_isDay) (As := [.int a4]) (st := []) (dx9 := 1) (mc := 0) (ms := 0) (host := "") rfl t_X11_isDay ⟨Or.inl q_11_115, s_X11_isDay⟩ rfl (by decide) rfl rfl ⟨by decide, by decide⟩ (zc_X11_isDay rfl (fun v7 ev7 => ?_))
          show jX m_X11_levy 3 0 0 32 [(0, .ref 31), (1, .int a1), (2, .int a2), (3, .int a3), (4, .int a4)] [.int v7] _ 0 0 _
          refine x_ifne (tgt := 41) rfl rfl (ti_ne rfl jk_0 ⟨fun c8 => ?_, fun c8 => ?_⟩)
          ·
            rw [if_pos (by omega)] at D
            refine x_aloadn (x := 31) rfl rfl ?_
            refine z_getR (N := 13) (b := 32) 11 0 rfl f_11_10 rfl J rfl 3968 ⟨rfl, rfl⟩ rfl ?_
            refine z_getR (N := 20) (b := 53) 1 10 rfl f_11_437 rfl J rfl 4106 ⟨rfl, rfl⟩ rfl ?_
            refine x_inv (N := m_X8_isFull) (As := []) (b := 53) (st := []) (dx9 := 1) (mc := 0) (ms := 0) (host := "") 8 rfl t_X8_isFull ⟨Or.inl q_11_130, i_X8_isFull.1, i_X8_isFull.2⟩ ⟨by decide, rfl⟩ (congrArg Prod.fst (J.1.1 53 (8, 4) rfl)) rfl (by decide) rfl rfl ⟨by decide, by decide⟩ (sf_X8_isFull_r53d  hD J rfl  (fun v12 h ev12 J S9 X10 X11 => ?_))
            have Sm := jSm_tr rfl Sm S9
            try rw [X10] at D
            try rw [← X11] at D
            show jX m_X11_levy 3 0 0 51 [(0, .ref 31), (1, .int a1), (2, .int a2), (3, .int a3), (4, .int a4)] [.int v12] _ 0 0 _
            refine x_ifeq (tgt := 61) rfl rfl (ti_eq rfl jk_0 ⟨fun c13 => ?_, fun c13 => ?_⟩)
            ·
              rw [if_pos (by omega)] at D
              refine x_aloadn (x := 31) rfl rfl ?_
              refine z_getR (N := 13) (b := 32) 11 0 rfl f_11_10 rfl J rfl 3968 ⟨rfl, rfl⟩ rfl ?_
              refine z_getR (N := 20) (b := 53) 1 10 rfl f_11_437 rfl J rfl 4106 ⟨rfl, rfl⟩ rfl ?_
              refine x_iload (x := a4) rfl rfl ?_
              refine x_iloadn (x := a2) rfl rfl ?_
              refine x_iloadn (x := a1) rfl rfl ?_
              refine x_iloadn (x := a3) rfl rfl ?_
              refine x_iconst (v := 0) rfl ki_0 ?_
              refine x_iconst (v := 0) rfl ki_0 ?_
              refine x_inv (N := m_X8_add) (As := [.int a4, .int a2, .int a1, .int a3, .int 0, .int 0]) (b := 53) (st := []) (dx9 := 2) (mc := 0) (ms := 0) (host := "") 8 rfl t_X8_add ⟨Or.inl q_11_145, i_X8_add.1, i_X8_add.2⟩ ⟨by decide, rfl⟩ (congrArg Prod.fst (J.1.1 53 (8, 4) rfl)) rfl (by decide) rfl rfl ⟨by decide, by decide⟩ (sf_X8_add_r53d (jr_of rfl (by omega)) (jr_of rfl (by omega)) (jr_of rfl (by omega)) (jr_of rfl (by omega)) (jr_of jk_0 (by omega)) (jr_of jk_0 (by omega)) hD J rfl  (fun h J S14 X15 => ?_))
              have Sm := jSm_tr rfl Sm S14
              try rw [jk_0] at X15
              rw [X15] at D
              show jX m_X11_levy 3 0 0 78 [(0, .ref 31), (1, .int a1), (2, .int a2), (3, .int a3), (4, .int a4)] [] _ 0 0 _
              refine x_aloadn (x := 31) rfl rfl ?_
              refine x_aloadn (x := 31) rfl rfl ?_
              refine z_getR (N := 13) (b := 32) 11 0 rfl f_11_10 rfl J rfl 3968 ⟨rfl, rfl⟩ rfl ?_
              refine z_getR (N := 20) (b := 53) 1 10 rfl f_11_437 rfl J rfl 4106 ⟨rfl, rfl⟩ rfl ?_
              refine z_getI (N := 4) 8 3 rfl f_11_142 rfl J rfl sg_53_3_4_1_0_1 (fun v16 qv16 ev16 => ?_)
              try rw [vrf qv16] at D
              refine x_iconst (v := 1) rfl ki_1 ?_
              refine z_isub rfl rfl jk_1 (by omega) (fun v17 ev17 => ?_)
              refine x_inv (N := m_X11_accept) (As := [.int v17]) (b := 31) (st := []) (dx9 := 2) (mc := 0) (ms := 0) (host := "") 11 rfl t_X11_accept ⟨Or.inl q_11_165, i_X11_accept.1, i_X11_accept.2⟩ ⟨by decide, rfl⟩ (congrArg Prod.fst (J.1.1 31 (11, 13) rfl)) rfl (by decide) rfl rfl ⟨by decide, by decide⟩ (jC.of rfl k_X11_accept rfl ?_)
              show jX m_X11_accept 2 0 0 0 [(0, .ref 31), (1, .int v17)] [] _ 0 0 _
              refine x_aloadn (x := 31) rfl rfl ?_
              refine x_iconst (v := 0) rfl ki_0 ?_
              refine z_putI (N := 13) (w := 0) 11 12 rfl f_11_94 rfl (jfin_no TX11 RX11 13 rfl rfl) hD J Sm rfl rfl jk_0 (pw_31_12 (by omega)) rfl (fun h w18 J Sm => ?_)
              rw [vwf w18 (show 0 = (0 : Int32).toInt from by have := jk_0; omega)] at D
              refine x_aloadn (x := 31) rfl rfl ?_
              refine z_getR (N := 13) (b := 32) 11 0 rfl f_11_10 rfl J rfl 3968 ⟨rfl, rfl⟩ rfl ?_
              refine x_dup rfl rfl ?_
              refine z_getI0 (N := 20) 1 19 rfl f_11_528 rfl J rfl (fun v19 qv19 => ?_)
              have ev19 := jfull v19
              try rw [vrf (jmb_c S14 (jmb_w w18 qv19 rfl) rfl)] at D
              refine x_iconst (v := 1) rfl ki_1 ?_
              refine z_iaddW rfl rfl jk_1 (fun v20 ev20 => ?_)
              have fv20 := jfull v20
              try rw [← ev20] at D
              refine z_putI (N := 20) (w := v20.toInt) 1 19 rfl f_11_528 rfl (jfin_no TX1 RX1 20 rfl rfl) hD J Sm rfl rfl rfl (pw_32_19 trivial) rfl (fun h w21 J Sm => ?_)
              rw [vwf w21 (show v20.toInt = v20.toInt from by omega)] at D
              refine x_iloadn (x := v17) rfl rfl ?_
              refine x_iret rfl rfl ?_
              show jX m_X11_levy 3 0 0 94 [(0, .ref 31), (1, .int a1), (2, .int a2), (3, .int a3), (4, .int a4)] [.int v17] _ 0 0 _
              refine x_iret rfl rfl ?_
              exact hQ _ _ (jr_of rfl (by omega)) J Sm ((congrArg Prod.fst D).symm.trans (show (v16.toInt - 1) = v17.toInt from by omega)) (congrArg Prod.snd D).symm
            ·
              rw [if_neg (by omega)] at D
              refine x_aloadn (x := 31) rfl rfl ?_
              refine x_bipush (v := (-5)) rfl kb_m5 ?_
              refine x_inv (N := m_X11_refuse) (As := [.int (-5)]) (b := 31) (st := []) (dx9 := 2) (mc := 0) (ms := 0) (host := "") 11 rfl t_X11_refuse ⟨Or.inl q_11_206, i_X11_refuse.1, i_X11_refuse.2⟩ ⟨by decide, rfl⟩ (congrArg Prod.fst (J.1.1 31 (11, 13) rfl)) rfl (by decide) rfl rfl ⟨by decide, by decide⟩ (jC.of rfl k_X11_refuse rfl ?_)
              show jX m_X11_refuse 2 0 0 0 [(0, .ref 31), (1, .int (-5))] [] _ 0 0 _
              refine x_aloadn (x := 31) rfl rfl ?_
              refine x_iloadn (x := (-5)) rfl rfl ?_
              refine z_putI (N := 13) (w := (-5)) 11 12 rfl f_11_94 rfl (jfin_no TX11 RX11 13 rfl rfl) hD J Sm rfl rfl jk_m5 (pw_31_12 (by omega)) rfl (fun h w22 J Sm => ?_)
              rw [vwf w22 (show (-5) = ((-5) : Int32).toInt from by have := jk_m5; omega)] at D
              refine x_iloadn (x := (-5)) rfl rfl ?_
              refine x_iret rfl rfl ?_
              show jX m_X11_levy 3 0 0 60 [(0, .ref 31), (1, .int a1), (2, .int a2), (3, .int a3), (4, .int a4)] [.int (-5)] _ 0 0 _
              refine x_iret rfl rfl ?_
              exact hQ _ _ (jr_of jk_m5 (by omega)) J Sm ((congrArg Prod.fst D).symm.trans (show (-5) = ((-5) : Int32).toInt from by have := jk_m5; omega)) (congrArg Prod.snd D).symm
          ·
            rw [if_neg (by omega)] at D
            exact jX.sub (jsb_c rfl jsb_n) (ct_X11_levy_r31d_35 hD hQ  h J Sm D)
def fp_X9_isSign_r68d : jFp := []
set_option maxRecDepth 100000 in
set_option maxHeartbeats 4000000 in
theorem ct_X9_isSign_r68d_300026 {Dy : jH → Prop} {h0 : jH} {Q : Option Value → jH → Prop} {dr : Int} (hD : jDk Dy) (hQ : ∀ (v : Int32) hx9, 0 ≤ v.toInt ∧ v.toInt ≤ 1 → jJ jSgX Dy hx9 → jSm fp_X9_isSign_r68d h0 hx9 → ∀ u0 u1 : Int32, jiv hx9 68 5 = u0 → jiv hx9 68 3 = u1 → (u0.toInt ≠ 3 ∨ u1.toInt ≤ 399) → dr = v.toInt → vw hx9 = vw h0 → Q (some (.int v)) hx9) : ∀ (g0 : Int32) (g1 : Int32) (h : jH), 0 ≤ g0.toInt ∧ g0.toInt ≤ 399 → 3 ≤ g1.toInt ∧ g1.toInt ≤ 3 → (g1.toInt ≠ 3 ∨ g0.toInt ≤ 399) → jiv h 68 3 = g0 → jiv h 68 5 = g1 → jJ jSgX Dy h → jSm fp_X9_isSign_r68d h0 h → d_X9_isSign_r68d_300026  (vw h) = dr → vw h = vw h0 → jX m_X9_isSign 1 0 0 26 [] [.int 1] h 0 0 Q := by
  intro g0 g1 h y0 y1 y2 z0 z1  J Sm D EV
  unfold d_X9_isSign_r68d_300026 at D
  try rw [vrf z0] at D
  try rw [vrf z1] at D
  refine x_zret rfl rfl (by decide) ?_
  exact hQ _ _ (jr_of jk_1 (by omega)) J Sm _ _ z1 z0 (by omega) (D.symm.trans (show 1 = (1 : Int32).toInt from by have := jk_1; omega)) EV
set_option maxRecDepth 100000 in
set_option maxHeartbeats 4000000 in
theorem ct_X9_isSign_r68d_200026 {Dy : jH → Prop} {h0 : jH} {Q : Option Value → jH → Prop} {dr : Int} (hD : jDk Dy) (hQ : ∀ (v : Int32) hx9, 0 ≤ v.toInt ∧ v.toInt ≤ 1 → jJ jSgX Dy hx9 → jSm fp_X9_isSign_r68d h0 hx9 → ∀ u0 u1 : Int32, jiv hx9 68 5 = u0 → jiv hx9 68 3 = u1 → (u0.toInt ≠ 3 ∨ u1.toInt ≤ 399) → dr = v.toInt → vw hx9 = vw h0 → Q (some (.int v)) hx9) : ∀ (g0 : Int32) (g1 : Int32) (h : jH), 0 ≤ g0.toInt ∧ g0.toInt ≤ 400 → 0 ≤ g1.toInt ∧ g1.toInt ≤ 3 → (g1.toInt ≠ 3 ∨ g0.toInt ≤ 399) → jiv h 68 3 = g0 → jiv h 68 5 = g1 → jJ jSgX Dy h → jSm fp_X9_isSign_r68d h0 h → d_X9_isSign_r68d_200026  (vw h) = dr → vw h = vw h0 → jX m_X9_isSign 1 0 0 26 [] [.int 0] h 0 0 Q := by
  intro g0 g1 h y0 y1 y2 z0 z1  J Sm D EV
  unfold d_X9_isSign_r68d_200026 at D
  try rw [vrf z0] at D
  try rw [vrf z1] at D
  refine x_zret rfl rfl (by decide) ?_
  exact hQ _ _ (jr_of jk_0 (by omega)) J Sm _ _ z1 z0 (by omega) (D.symm.trans (show 0 = (0 : Int32).toInt from by have := jk_0; omega)) EV
set_option maxRecDepth 100000 in
set_option maxHeartbeats 4000000 in
theorem ct_X9_isSign_r68d_25 {Dy : jH → Prop} {h0 : jH} {Q : Option Value → jH → Prop} {dr : Int} (hD : jDk Dy) (hQ : ∀ (v : Int32) hx9, 0 ≤ v.toInt ∧ v.toInt ≤ 1 → jJ jSgX Dy hx9 → jSm fp_X9_isSign_r68d h0 hx9 → ∀ u0 u1 : Int32, jiv hx9 68 5 = u0 → jiv hx9 68 3 = u1 → (u0.toInt ≠ 3 ∨ u1.toInt ≤ 399) → dr = v.toInt → vw hx9 = vw h0 → Q (some (.int v)) hx9) : ∀ (g0 : Int32) (g1 : Int32) (h : jH), 0 ≤ g0.toInt ∧ g0.toInt ≤ 400 → 0 ≤ g1.toInt ∧ g1.toInt ≤ 3 → (g1.toInt ≠ 3 ∨ g0.toInt ≤ 399) → jiv h 68 3 = g0 → jiv h 68 5 = g1 → jJ jSgX Dy h → jSm fp_X9_isSign_r68d h0 h → d_X9_isSign_r68d_25  (vw h) = dr → vw h = vw h0 → jX m_X9_isSign 1 0 0 25 [] [] h 0 0 Q := by
  intro g0 g1 h y0 y1 y2 z0 z1  J Sm D EV
  unfold d_X9_isSign_r68d_25 at D
  try rw [vrf z0] at D
  try rw [vrf z1] at D
  refine x_iconst (v := 0) rfl ki_0 ?_
  exact jX.sub jsb_n (ct_X9_isSign_r68d_200026 hD hQ  g0 g1 h (jr_of rfl (by omega)) (jr_of rfl (by omega)) (by omega) z0 z1 J Sm D EV)
set_option maxRecDepth 100000 in
set_option maxHeartbeats 4000000 in
theorem sf_X9_isSign_r68d {Dy : jH → Prop} {h : jH} {Q : Option Value → jH → Prop} {dr : Int} {a1 : Int32} (y1 : 40 ≤ a1.toInt ∧ a1.toInt ≤ 99) (hD : jDk Dy) (J : jJ jSgX Dy h) {p0 p1 : Int32} (zp0 : jiv h 68 5 = p0) (zp1 : jiv h 68 3 = p1) (rl_p0 : (p0.toInt ≠ 3 ∨ p1.toInt ≤ 399)) (D : d_X9_isSign_r68d a1.toInt (vw h) = dr) (hQ : ∀ (v : Int32) hx9, 0 ≤ v.toInt ∧ v.toInt ≤ 1 → jJ jSgX Dy hx9 → jSm fp_X9_isSign_r68d h hx9 → ∀ u0 u1 : Int32, jiv hx9 68 5 = u0 → jiv hx9 68 3 = u1 → (u0.toInt ≠ 3 ∨ u1.toInt ≤ 399) → dr = v.toInt → vw hx9 = vw h → Q (some (.int v)) hx9) : jC m_X9_isSign 1 0 0 [.ref 68, .int a1] h Q := by
  refine jC.of rfl k_X9_isSign rfl ?_
  have Sm := jSm_rf fp_X9_isSign_r68d h
  have ep0 := (show 0 ≤ p0.toInt ∧ p0.toInt ≤ 3 from zp0 ▸ jrg_f J sg_68_5_6_1_0_1)
  have ep1 := (show 0 ≤ p1.toInt ∧ p1.toInt ≤ 400 from zp1 ▸ jrg_f J sg_68_3_4_1_0_1)
  show jX m_X9_isSign 1 0 0 0 [(0, .ref 68), (1, .int a1)] [] _ 0 0 _
  unfold d_X9_isSign_r68d at D
  have EV : vw h = vw h := rfl
  try rw [vrf zp0] at D
  try rw [vrf zp1] at D
  refine x_aloadn (x := 68) rfl rfl ?_
  refine z_getM (N := 6) (v := p0) 9 5 rfl f_9_28 rfl J rfl zp0 ?_
  refine x_iconst (v := 3) rfl ki_3 ?_
  refine x_icne (tgt := 25) rfl rfl (ti_ne rfl jk_3 ⟨fun c1 => ?_, fun c1 => ?_⟩)
  ·
    rw [if_neg (by omega)] at D
    exact jX.sub jsb_n (ct_X9_isSign_r68d_25 hD hQ  p1 p0 h (jr_of rfl (by omega)) (jr_of rfl (by omega)) (by omega) zp1 zp0 J Sm D EV)
  ·
    rw [if_pos (by omega)] at D
    refine x_aloadn (x := 68) rfl rfl ?_
    refine z_getR (N := 6) (b := 69) 9 0 rfl f_9_11 rfl J rfl 8704 ⟨rfl, rfl⟩ rfl ?_
    refine x_aloadn (x := 68) rfl rfl ?_
    refine z_getM (N := 6) (v := p1) 9 3 rfl f_9_22 rfl J rfl zp1 ?_
    refine z_iald (N := 400) rfl J rfl sg_69_0_400_1_0_1 rfl (by omega) (fun v2 qv2 ev2 => ?_)
    try rw [vrd qv2 (show p1.toInt = p1.toInt from by omega)] at D
    refine x_iloadn (x := a1) rfl rfl ?_
    refine x_icne (tgt := 25) rfl rfl (ti_ne rfl rfl ⟨fun c3 => ?_, fun c3 => ?_⟩)
    ·
      rw [if_neg (by omega)] at D
      exact jX.sub jsb_n (ct_X9_isSign_r68d_25 hD hQ  p1 p0 h (jr_of rfl (by omega)) (jr_of rfl (by omega)) (by omega) zp1 zp0 J Sm D EV)
    ·
      rw [if_pos (by omega)] at D
      refine x_iconst (v := 1) rfl ki_1 ?_
      refine x_goto (tgt := 26) rfl rfl ?_
      exact jX.sub jsb_n (ct_X9_isSign_r68d_300026 hD hQ  p1 p0 h (jr_of rfl (by omega)) (jr_of rfl (by omega)) (by omega) zp1 zp0 J Sm D EV)
def fp_X9_step_r68d : jFp := [(68, 3, 4), (68, 4, 5), (68, 5, 6)]
set_option maxRecDepth 100000 in
set_option maxHeartbeats 4000000 in
theorem ct_X9_step_r68d_148 {Dy : jH → Prop} {h0 : jH} {Q : Option Value → jH → Prop} {dr : jW} (hD : jDk Dy) (hQ : ∀ hx9, jJ jSgX Dy hx9 → jSm fp_X9_step_r68d h0 hx9 → ∀ u0 u1 : Int32, jiv hx9 68 5 = u0 → jiv hx9 68 3 = u1 → (u0.toInt ≠ 3 ∨ u1.toInt ≤ 399) → dr = vw hx9 → Q none hx9) : ∀ (g0 : Int32) (g1 : Int32) (h : jH), 0 ≤ g0.toInt ∧ g0.toInt ≤ 399 → 1 ≤ g1.toInt ∧ g1.toInt ≤ 3 → jiv h 68 3 = g0 → jiv h 68 5 = g1 → jJ jSgX Dy h → jSm fp_X9_step_r68d h0 h → d_X9_step_r68d_148  (vw h) = dr → jX m_X9_step 2 0 0 148 [] [] h 0 0 Q := by
  intro g0 g1 h y0 y1 z0 z1  J Sm D
  unfold d_X9_step_r68d_148 at D
  try rw [vrf z0] at D
  try rw [vrf z1] at D
  refine x_vret rfl rfl ?_
  exact hQ _ J Sm _ _ z1 z0 (by omega) D.symm
set_option maxRecDepth 100000 in
set_option maxHeartbeats 4000000 in
theorem ct_X9_step_r68d_97 {Dy : jH → Prop} {h0 : jH} {Q : Option Value → jH → Prop} {dr : jW} (hD : jDk Dy) (hQ : ∀ hx9, jJ jSgX Dy hx9 → jSm fp_X9_step_r68d h0 hx9 → ∀ u0 u1 : Int32, jiv hx9 68 5 = u0 → jiv hx9 68 3 = u1 → (u0.toInt ≠ 3 ∨ u1.toInt ≤ 399) → dr = vw hx9 → Q none hx9) : ∀ r : Nat, ∀ (g0 : Int32) (g1 : Int32) (g2 : Int32) (g3 : Int32) (h : jH), 400 - g2.toInt < (r : Int) → 1 ≤ g0.toInt ∧ g0.toInt ≤ 400 → 0 ≤ g1.toInt ∧ g1.toInt ≤ 399 → 1 ≤ g2.toInt ∧ g2.toInt ≤ 400 → 1 ≤ g3.toInt ∧ g3.toInt ≤ 3 → jiv h 68 1 = g0 → jiv h 68 3 = g1 → jiv h 68 4 = g2 → jiv h 68 5 = g3 → jJ jSgX Dy h → jSm fp_X9_step_r68d h0 h → d_X9_step_r68d_97 r (vw h) = dr → jX m_X9_step 2 0 0 97 [(0, .ref 68)] [] h 0 0 Q := by
  intro r
  induction r with
  | zero =>
    intro g0 g1 g2 g3 h hm y0 y1 y2 y3 z0 z1 z2 z3  J Sm D
    exfalso
    omega
  | succ r ih =>
    intro g0 g1 g2 g3 h hm y0 y1 y2 y3 z0 z1 z2 z3  J Sm D
    rw [d_X9_step_r68d_97.eq_2] at D
    try rw [vrf z0] at D
    try rw [vrf z1] at D
    try rw [vrf z2] at D
    try rw [vrf z3] at D
    refine x_aloadn (x := 68) rfl rfl ?_
    refine z_getM (N := 6) (v := g3) 9 5 rfl f_9_28 rfl J rfl z3 ?_
    refine x_iconst (v := 3) rfl ki_3 ?_
    refine x_iceq (tgt := 148) rfl rfl (ti_eq rfl jk_3 ⟨fun c1 => ?_, fun c1 => ?_⟩)
    ·
      rw [if_pos (by omega)] at D
      exact jX.sub jsb_n (ct_X9_step_r68d_148 hD hQ  g1 g3 h (jr_of rfl (by omega)) (jr_of rfl (by omega)) z1 z3 J Sm D)
    ·
      rw [if_neg (by omega)] at D
      refine x_aloadn (x := 68) rfl rfl ?_
      refine z_getM (N := 6) (v := g2) 9 4 rfl f_9_25 rfl J rfl z2 ?_
      refine x_aloadn (x := 68) rfl rfl ?_
      refine z_getM (N := 6) (v := g0) 9 1 rfl f_9_15 rfl J rfl z0 ?_
      refine x_icge (tgt := 148) rfl rfl (ti_ge rfl rfl ⟨fun c2 => ?_, fun c2 => ?_⟩)
      ·
        rw [if_pos (by omega)] at D
        exact jX.sub jsb_n (ct_X9_step_r68d_148 hD hQ  g1 g3 h (jr_of rfl (by omega)) (jr_of rfl (by omega)) z1 z3 J Sm D)
      ·
        rw [if_neg (by omega)] at D
        refine x_aloadn (x := 68) rfl rfl ?_
        refine z_getR (N := 6) (b := 69) 9 0 rfl f_9_11 rfl J rfl 8704 ⟨rfl, rfl⟩ rfl ?_
        refine x_aloadn (x := 68) rfl rfl ?_
        refine z_getM (N := 6) (v := g2) 9 4 rfl f_9_25 rfl J rfl z2 ?_
        refine z_iald (N := 400) rfl J rfl sg_69_0_400_1_0_1 rfl (by omega) (fun v3 qv3 ev3 => ?_)
        try rw [vrd qv3 (show g2.toInt = g2.toInt from by omega)] at D
        refine x_inst (N := m_X9_sortOf) (As := [.int v3]) (st := []) (dx9 := 1) (mc := 0) (ms := 0) (host := "") rfl t_X9_sortOf ⟨Or.inl q_9_34, s_X9_sortOf⟩ rfl (by decide) rfl rfl ⟨by decide, by decide⟩ (jC.of rfl k_X9_sortOf rfl ?_)
        show jX m_X9_sortOf 1 0 0 0 [(0, .int v3)] [] _ 0 0 _
        refine x_iloadn (x := v3) rfl rfl ?_
        refine x_bipush (v := 97) rfl kb_97 ?_
        refine x_iclt (tgt := 14) rfl rfl (ti_lt rfl jk_97 ⟨fun c4 => ?_, fun c4 => ?_⟩)
        ·
          rw [if_pos (by omega)] at D
          refine x_iloadn (x := v3) rfl rfl ?_
          refine x_bipush (v := 48) rfl kb_48 ?_
          refine x_iclt (tgt := 30) rfl rfl (ti_lt rfl jk_48 ⟨fun c5 => ?_, fun c5 => ?_⟩)
          ·
            rw [if_pos (by omega)] at D
            refine x_iconst (v := 3) rfl ki_3 ?_
            refine x_iret rfl rfl ?_
            show jX m_X9_step 2 0 0 128 [(0, .ref 68)] [.int 3] _ 0 0 _
            refine x_aloadn (x := 68) rfl rfl ?_
            refine z_getM (N := 6) (v := g3) 9 5 rfl f_9_28 rfl J rfl z3 ?_
            refine x_icne (tgt := 148) rfl rfl (ti_ne jk_3 rfl (bn_t (by omega) ?_))
            exact jX.sub jsb_n (ct_X9_step_r68d_148 hD hQ  g1 g3 h (jr_of rfl (by omega)) (jr_of rfl (by omega)) z1 z3 J Sm D)
          ·
            rw [if_neg (by omega)] at D
            refine x_iloadn (x := v3) rfl rfl ?_
            refine x_bipush (v := 57) rfl kb_57 ?_
            refine x_icgt (tgt := 30) rfl rfl (ti_gt rfl jk_57 ⟨fun c6 => ?_, fun c6 => ?_⟩)
            ·
              rw [if_pos (by omega)] at D
              refine x_iconst (v := 3) rfl ki_3 ?_
              refine x_iret rfl rfl ?_
              show jX m_X9_step 2 0 0 128 [(0, .ref 68)] [.int 3] _ 0 0 _
              refine x_aloadn (x := 68) rfl rfl ?_
              refine z_getM (N := 6) (v := g3) 9 5 rfl f_9_28 rfl J rfl z3 ?_
              refine x_icne (tgt := 148) rfl rfl (ti_ne jk_3 rfl (bn_t (by omega) ?_))
              exact jX.sub jsb_n (ct_X9_step_r68d_148 hD hQ  g1 g3 h (jr_of rfl (by omega)) (jr_of rfl (by omega)) z1 z3 J Sm D)
            ·
              rw [if_neg (by omega)] at D
              refine x_iconst (v := 2) rfl ki_2 ?_
              refine x_goto (tgt := 31) rfl rfl ?_
              refine x_iret rfl rfl ?_
              show jX m_X9_step 2 0 0 128 [(0, .ref 68)] [.int 2] _ 0 0 _
              refine x_aloadn (x := 68) rfl rfl ?_
              refine z_getM (N := 6) (v := g3) 9 5 rfl f_9_28 rfl J rfl z3 ?_
              refine x_icne (tgt := 148) rfl rfl (ti_ne jk_2 rfl ⟨fun c7 => ?_, fun c7 => ?_⟩)
              ·
                rw [if_neg (by omega)] at D
                exact jX.sub jsb_n (ct_X9_step_r68d_148 hD hQ  g1 g3 h (jr_of rfl (by omega)) (jr_of rfl (by omega)) z1 z3 J Sm D)
              ·
                rw [if_pos (by omega)] at D
                refine x_aloadn (x := 68) rfl rfl ?_
                refine x_dup rfl rfl ?_
                refine z_getM (N := 6) (v := g2) 9 4 rfl f_9_25 rfl J rfl z2 ?_
                refine x_iconst (v := 1) rfl ki_1 ?_
                refine z_iadd rfl rfl jk_1 (by omega) (fun v8 ev8 => ?_)
                refine z_putI (N := 6) (w := v8.toInt) 9 4 rfl f_9_25 rfl (jfin_no TX9 RX9 6 rfl rfl) hD J Sm rfl rfl rfl (pw_68_4 (by omega)) rfl (fun h w9 J Sm => ?_)
                rw [vwf w9 (show (g2.toInt + 1) = v8.toInt from by omega)] at D
                refine x_goto (tgt := 97) rfl rfl ?_
                exact jX.sub (jsb_c rfl jsb_n) (ih g0 g1 v8 g3 h (by omega) (jr_of rfl (by omega)) (jr_of rfl (by omega)) (jr_of rfl (by omega)) (jr_of rfl (by omega)) (jmo w9 rfl z0) (jmo w9 rfl z1) (jmw w9) (jmo w9 rfl z3) J Sm D)
        ·
          rw [if_neg (by omega)] at D
          refine x_iloadn (x := v3) rfl rfl ?_
          refine x_bipush (v := 122) rfl kb_122 ?_
          refine x_icgt (tgt := 14) rfl rfl (ti_gt rfl jk_122 ⟨fun c10 => ?_, fun c10 => ?_⟩)
          ·
            rw [if_pos (by omega)] at D
            refine x_iloadn (x := v3) rfl rfl ?_
            refine x_bipush (v := 48) rfl kb_48 ?_
            refine x_iclt (tgt := 30) rfl rfl (ti_lt rfl jk_48 (br_f (by omega) ?_))
            refine x_iloadn (x := v3) rfl rfl ?_
            refine x_bipush (v := 57) rfl kb_57 ?_
            refine x_icgt (tgt := 30) rfl rfl (ti_gt rfl jk_57 (br_t (by omega) ?_))
            refine x_iconst (v := 3) rfl ki_3 ?_
            refine x_iret rfl rfl ?_
            show jX m_X9_step 2 0 0 128 [(0, .ref 68)] [.int 3] _ 0 0 _
            refine x_aloadn (x := 68) rfl rfl ?_
            refine z_getM (N := 6) (v := g3) 9 5 rfl f_9_28 rfl J rfl z3 ?_
            refine x_icne (tgt := 148) rfl rfl (ti_ne jk_3 rfl (bn_t (by omega) ?_))
            exact jX.sub jsb_n (ct_X9_step_r68d_148 hD hQ  g1 g3 h (jr_of rfl (by omega)) (jr_of rfl (by omega)) z1 z3 J Sm D)
          ·
            rw [if_neg (by omega)] at D
            refine x_iconst (v := 1) rfl ki_1 ?_
            refine x_iret rfl rfl ?_
            show jX m_X9_step 2 0 0 128 [(0, .ref 68)] [.int 1] _ 0 0 _
            refine x_aloadn (x := 68) rfl rfl ?_
            refine z_getM (N := 6) (v := g3) 9 5 rfl f_9_28 rfl J rfl z3 ?_
            refine x_icne (tgt := 148) rfl rfl (ti_ne jk_1 rfl ⟨fun c11 => ?_, fun c11 => ?_⟩)
            ·
              rw [if_neg (by omega)] at D
              exact jX.sub jsb_n (ct_X9_step_r68d_148 hD hQ  g1 g3 h (jr_of rfl (by omega)) (jr_of rfl (by omega)) z1 z3 J Sm D)
            ·
              rw [if_pos (by omega)] at D
              refine x_aloadn (x := 68) rfl rfl ?_
              refine x_dup rfl rfl ?_
              refine z_getM (N := 6) (v := g2) 9 4 rfl f_9_25 rfl J rfl z2 ?_
              refine x_iconst (v := 1) rfl ki_1 ?_
              refine z_iadd rfl rfl jk_1 (by omega) (fun v12 ev12 => ?_)
              refine z_putI (N := 6) (w := v12.toInt) 9 4 rfl f_9_25 rfl (jfin_no TX9 RX9 6 rfl rfl) hD J Sm rfl rfl rfl (pw_68_4 (by omega)) rfl (fun h w13 J Sm => ?_)
              rw [vwf w13 (show (g2.toInt + 1) = v12.toInt from by omega)] at D
              refine x_goto (tgt := 97) rfl rfl ?_
              exact jX.sub (jsb_c rfl jsb_n) (ih g0 g1 v12 g3 h (by omega) (jr_of rfl (by omega)) (jr_of rfl (by omega)) (jr_of rfl (by omega)) (jr_of rfl (by omega)) (jmo w13 rfl z0) (jmo w13 rfl z1) (jmw w13) (jmo w13 rfl z3) J Sm D)
set_option maxRecDepth 100000 in
set_option maxHeartbeats 4000000 in
theorem ct_X9_step_r68d_46 {Dy : jH → Prop} {h0 : jH} {Q : Option Value → jH → Prop} {dr : jW} (hD : jDk Dy) (hQ : ∀ hx9, jJ jSgX Dy hx9 → jSm fp_X9_step_r68d h0 hx9 → ∀ u0 u1 : Int32, jiv hx9 68 5 = u0 → jiv hx9 68 3 = u1 → (u0.toInt ≠ 3 ∨ u1.toInt ≤ 399) → dr = vw hx9 → Q none hx9) : ∀ (g0 : Int32) (g1 : Int32) (g2 : Int32) (h : jH), 0 ≤ g0.toInt ∧ g0.toInt ≤ 400 → 0 ≤ g1.toInt ∧ g1.toInt ≤ 400 → 0 ≤ g2.toInt ∧ g2.toInt ≤ 3 → jiv h 68 1 = g0 → jiv h 68 3 = g1 → jiv h 68 5 = g2 → jJ jSgX Dy h → jSm fp_X9_step_r68d h0 h → d_X9_step_r68d_46  (vw h) = dr → jX m_X9_step 2 0 0 46 [(0, .ref 68)] [] h 0 0 Q := by
  intro g0 g1 g2 h y0 y1 y2 z0 z1 z2  J Sm D
  unfold d_X9_step_r68d_46 at D
  try rw [vrf z0] at D
  try rw [vrf z1] at D
  try rw [vrf z2] at D
  refine x_aloadn (x := 68) rfl rfl ?_
  refine x_aloadn (x := 68) rfl rfl ?_
  refine z_getM (N := 6) (v := g1) 9 3 rfl f_9_22 rfl J rfl z1 ?_
  refine z_putI (N := 6) (w := g1.toInt) 9 4 rfl f_9_25 rfl (jfin_no TX9 RX9 6 rfl rfl) hD J Sm rfl rfl rfl (pw_68_4 (by omega)) rfl (fun h w1 J Sm => ?_)
  rw [vwf w1 (show g1.toInt = g1.toInt from by omega)] at D
  refine x_aloadn (x := 68) rfl rfl ?_
  refine z_getM (N := 6) (v := g1) 9 3 rfl f_9_22 rfl J rfl (jmo w1 rfl z1) ?_
  refine x_aloadn (x := 68) rfl rfl ?_
  refine z_getM (N := 6) (v := g0) 9 1 rfl f_9_15 rfl J rfl (jmo w1 rfl z0) ?_
  refine x_iclt (tgt := 71) rfl rfl (ti_lt rfl rfl ⟨fun c2 => ?_, fun c2 => ?_⟩)
  ·
    rw [if_pos (by omega)] at D
    refine x_aloadn (x := 68) rfl rfl ?_
    refine x_aloadn (x := 68) rfl rfl ?_
    refine z_getR (N := 6) (b := 69) 9 0 rfl f_9_11 rfl J rfl 8704 ⟨rfl, rfl⟩ rfl ?_
    refine x_aloadn (x := 68) rfl rfl ?_
    refine z_getM (N := 6) (v := g1) 9 3 rfl f_9_22 rfl J rfl (jmo w1 rfl z1) ?_
    refine z_iald (N := 400) rfl J rfl sg_69_0_400_1_0_1 rfl (by omega) (fun v3 qv3 ev3 => ?_)
    try rw [vrd (jmb_w w1 qv3 rfl) (show g1.toInt = g1.toInt from by omega)] at D
    refine x_inst (N := m_X9_sortOf) (As := [.int v3]) (st := [.ref 68]) (dx9 := 1) (mc := 0) (ms := 0) (host := "") rfl t_X9_sortOf ⟨Or.inl q_9_34, s_X9_sortOf⟩ rfl (by decide) rfl rfl ⟨by decide, by decide⟩ (jC.of rfl k_X9_sortOf rfl ?_)
    show jX m_X9_sortOf 1 0 0 0 [(0, .int v3)] [] _ 0 0 _
    refine x_iloadn (x := v3) rfl rfl ?_
    refine x_bipush (v := 97) rfl kb_97 ?_
    refine x_iclt (tgt := 14) rfl rfl (ti_lt rfl jk_97 ⟨fun c4 => ?_, fun c4 => ?_⟩)
    ·
      rw [if_pos (by omega)] at D
      refine x_iloadn (x := v3) rfl rfl ?_
      refine x_bipush (v := 48) rfl kb_48 ?_
      refine x_iclt (tgt := 30) rfl rfl (ti_lt rfl jk_48 ⟨fun c5 => ?_, fun c5 => ?_⟩)
      ·
        rw [if_pos (by omega)] at D
        refine x_iconst (v := 3) rfl ki_3 ?_
        refine x_iret rfl rfl ?_
        show jX m_X9_step 2 0 0 84 [(0, .ref 68)] [.int 3, .ref 68] _ 0 0 _
        refine z_putI (N := 6) (w := 3) 9 5 rfl f_9_28 rfl (jfin_no TX9 RX9 6 rfl rfl) hD J Sm rfl rfl jk_3 (pw_68_5 (by omega)) rfl (fun h w6 J Sm => ?_)
        rw [vwf w6 (show 3 = (3 : Int32).toInt from by have := jk_3; omega)] at D
        refine x_aloadn (x := 68) rfl rfl ?_
        refine x_aloadn (x := 68) rfl rfl ?_
        refine z_getM (N := 6) (v := g1) 9 3 rfl f_9_22 rfl J rfl (jmo w6 rfl (jmo w1 rfl z1)) ?_
        refine x_iconst (v := 1) rfl ki_1 ?_
        refine z_iadd rfl rfl jk_1 (by omega) (fun v7 ev7 => ?_)
        refine z_putI (N := 6) (w := v7.toInt) 9 4 rfl f_9_25 rfl (jfin_no TX9 RX9 6 rfl rfl) hD J Sm rfl rfl rfl (pw_68_4 (by omega)) rfl (fun h w8 J Sm => ?_)
        rw [vwf w8 (show (g1.toInt + 1) = v7.toInt from by omega)] at D
        exact jX.sub (jsb_c rfl jsb_n) (ct_X9_step_r68d_97 hD hQ  400 g0 g1 v7 3 h (by omega) (jr_of rfl (by omega)) (jr_of rfl (by omega)) (jr_of rfl (by omega)) (jr_of jk_3 (by omega)) (jmo w8 rfl (jmo w6 rfl (jmo w1 rfl z0))) (jmo w8 rfl (jmo w6 rfl (jmo w1 rfl z1))) (jmw w8) (jmo w8 rfl (jmw w6)) J Sm D)
      ·
        rw [if_neg (by omega)] at D
        refine x_iloadn (x := v3) rfl rfl ?_
        refine x_bipush (v := 57) rfl kb_57 ?_
        refine x_icgt (tgt := 30) rfl rfl (ti_gt rfl jk_57 ⟨fun c9 => ?_, fun c9 => ?_⟩)
        ·
          rw [if_pos (by omega)] at D
          refine x_iconst (v := 3) rfl ki_3 ?_
          refine x_iret rfl rfl ?_
          show jX m_X9_step 2 0 0 84 [(0, .ref 68)] [.int 3, .ref 68] _ 0 0 _
          refine z_putI (N := 6) (w := 3) 9 5 rfl f_9_28 rfl (jfin_no TX9 RX9 6 rfl rfl) hD J Sm rfl rfl jk_3 (pw_68_5 (by omega)) rfl (fun h w10 J Sm => ?_)
          rw [vwf w10 (show 3 = (3 : Int32).toInt from by have := jk_3; omega)] at D
          refine x_aloadn (x := 68) rfl rfl ?_
          refine x_aloadn (x := 68) rfl rfl ?_
          refine z_getM (N := 6) (v := g1) 9 3 rfl f_9_22 rfl J rfl (jmo w10 rfl (jmo w1 rfl z1)) ?_
          refine x_iconst (v := 1) rfl ki_1 ?_
          refine z_iadd rfl rfl jk_1 (by omega) (fun v11 ev11 => ?_)
          refine z_putI (N := 6) (w := v11.toInt) 9 4 rfl f_9_25 rfl (jfin_no TX9 RX9 6 rfl rfl) hD J Sm rfl rfl rfl (pw_68_4 (by omega)) rfl (fun h w12 J Sm => ?_)
          rw [vwf w12 (show (g1.toInt + 1) = v11.toInt from by omega)] at D
          exact jX.sub (jsb_c rfl jsb_n) (ct_X9_step_r68d_97 hD hQ  400 g0 g1 v11 3 h (by omega) (jr_of rfl (by omega)) (jr_of rfl (by omega)) (jr_of rfl (by omega)) (jr_of jk_3 (by omega)) (jmo w12 rfl (jmo w10 rfl (jmo w1 rfl z0))) (jmo w12 rfl (jmo w10 rfl (jmo w1 rfl z1))) (jmw w12) (jmo w12 rfl (jmw w10)) J Sm D)
        ·
          rw [if_neg (by omega)] at D
          refine x_iconst (v := 2) rfl ki_2 ?_
          refine x_goto (tgt := 31) rfl rfl ?_
          refine x_iret rfl rfl ?_
          show jX m_X9_step 2 0 0 84 [(0, .ref 68)] [.int 2, .ref 68] _ 0 0 _
          refine z_putI (N := 6) (w := 2) 9 5 rfl f_9_28 rfl (jfin_no TX9 RX9 6 rfl rfl) hD J Sm rfl rfl jk_2 (pw_68_5 (by omega)) rfl (fun h w13 J Sm => ?_)
          rw [vwf w13 (show 2 = (2 : Int32).toInt from by have := jk_2; omega)] at D
          refine x_aloadn (x := 68) rfl rfl ?_
          refine x_aloadn (x := 68) rfl rfl ?_
          refine z_getM (N := 6) (v := g1) 9 3 rfl f_9_22 rfl J rfl (jmo w13 rfl (jmo w1 rfl z1)) ?_
          refine x_iconst (v := 1) rfl ki_1 ?_
          refine z_iadd rfl rfl jk_1 (by omega) (fun v14 ev14 => ?_)
          refine z_putI (N := 6) (w := v14.toInt) 9 4 rfl f_9_25 rfl (jfin_no TX9 RX9 6 rfl rfl) hD J Sm rfl rfl rfl (pw_68_4 (by omega)) rfl (fun h w15 J Sm => ?_)
          rw [vwf w15 (show (g1.toInt + 1) = v14.toInt from by omega)] at D
          exact jX.sub (jsb_c rfl jsb_n) (ct_X9_step_r68d_97 hD hQ  400 g0 g1 v14 2 h (by omega) (jr_of rfl (by omega)) (jr_of rfl (by omega)) (jr_of rfl (by omega)) (jr_of jk_2 (by omega)) (jmo w15 rfl (jmo w13 rfl (jmo w1 rfl z0))) (jmo w15 rfl (jmo w13 rfl (jmo w1 rfl z1))) (jmw w15) (jmo w15 rfl (jmw w13)) J Sm D)
    ·
      rw [if_neg (by omega)] at D
      refine x_iloadn (x := v3) rfl rfl ?_
      refine x_bipush (v := 122) rfl kb_122 ?_
      refine x_icgt (tgt := 14) rfl rfl (ti_gt rfl jk_122 ⟨fun c16 => ?_, fun c16 => ?_⟩)
      ·
        rw [if_pos (by omega)] at D
        refine x_iloadn (x := v3) rfl rfl ?_
        refine x_bipush (v := 48) rfl kb_48 ?_
        refine x_iclt (tgt := 30) rfl rfl (ti_lt rfl jk_48 (br_f (by omega) ?_))
        refine x_iloadn (x := v3) rfl rfl ?_
        refine x_bipush (v := 57) rfl kb_57 ?_
        refine x_icgt (tgt := 30) rfl rfl (ti_gt rfl jk_57 (br_t (by omega) ?_))
        refine x_iconst (v := 3) rfl ki_3 ?_
        refine x_iret rfl rfl ?_
        show jX m_X9_step 2 0 0 84 [(0, .ref 68)] [.int 3, .ref 68] _ 0 0 _
        refine z_putI (N := 6) (w := 3) 9 5 rfl f_9_28 rfl (jfin_no TX9 RX9 6 rfl rfl) hD J Sm rfl rfl jk_3 (pw_68_5 (by omega)) rfl (fun h w17 J Sm => ?_)
        rw [vwf w17 (show 3 = (3 : Int32).toInt from by have := jk_3; omega)] at D
        refine x_aloadn (x := 68) rfl rfl ?_
        refine x_aloadn (x := 68) rfl rfl ?_
        refine z_getM (N := 6) (v := g1) 9 3 rfl f_9_22 rfl J rfl (jmo w17 rfl (jmo w1 rfl z1)) ?_
        refine x_iconst (v := 1) rfl ki_1 ?_
        refine z_iadd rfl rfl jk_1 (by omega) (fun v18 ev18 => ?_)
        refine z_putI (N := 6) (w := v18.toInt) 9 4 rfl f_9_25 rfl (jfin_no TX9 RX9 6 rfl rfl) hD J Sm rfl rfl rfl (pw_68_4 (by omega)) rfl (fun h w19 J Sm => ?_)
        rw [vwf w19 (show (g1.toInt + 1) = v18.toInt from by omega)] at D
        exact jX.sub (jsb_c rfl jsb_n) (ct_X9_step_r68d_97 hD hQ  400 g0 g1 v18 3 h (by omega) (jr_of rfl (by omega)) (jr_of rfl (by omega)) (jr_of rfl (by omega)) (jr_of jk_3 (by omega)) (jmo w19 rfl (jmo w17 rfl (jmo w1 rfl z0))) (jmo w19 rfl (jmo w17 rfl (jmo w1 rfl z1))) (jmw w19) (jmo w19 rfl (jmw w17)) J Sm D)
      ·
        rw [if_neg (by omega)] at D
        refine x_iconst (v := 1) rfl ki_1 ?_
        refine x_iret rfl rfl ?_
        show jX m_X9_step 2 0 0 84 [(0, .ref 68)] [.int 1, .ref 68] _ 0 0 _
        refine z_putI (N := 6) (w := 1) 9 5 rfl f_9_28 rfl (jfin_no TX9 RX9 6 rfl rfl) hD J Sm rfl rfl jk_1 (pw_68_5 (by omega)) rfl (fun h w20 J Sm => ?_)
        rw [vwf w20 (show 1 = (1 : Int32).toInt from by have := jk_1; omega)] at D
        refine x_aloadn (x := 68) rfl rfl ?_
        refine x_aloadn (x := 68) rfl rfl ?_
        refine z_getM (N := 6) (v := g1) 9 3 rfl f_9_22 rfl J rfl (jmo w20 rfl (jmo w1 rfl z1)) ?_
        refine x_iconst (v := 1) rfl ki_1 ?_
        refine z_iadd rfl rfl jk_1 (by omega) (fun v21 ev21 => ?_)
        refine z_putI (N := 6) (w := v21.toInt) 9 4 rfl f_9_25 rfl (jfin_no TX9 RX9 6 rfl rfl) hD J Sm rfl rfl rfl (pw_68_4 (by omega)) rfl (fun h w22 J Sm => ?_)
        rw [vwf w22 (show (g1.toInt + 1) = v21.toInt from by omega)] at D
        exact jX.sub (jsb_c rfl jsb_n) (ct_X9_step_r68d_97 hD hQ  400 g0 g1 v21 1 h (by omega) (jr_of rfl (by omega)) (jr_of rfl (by omega)) (jr_of rfl (by omega)) (jr_of jk_1 (by omega)) (jmo w22 rfl (jmo w20 rfl (jmo w1 rfl z0))) (jmo w22 rfl (jmo w20 rfl (jmo w1 rfl z1))) (jmw w22) (jmo w22 rfl (jmw w20)) J Sm D)
  ·
    rw [if_neg (by omega)] at D
    refine x_aloadn (x := 68) rfl rfl ?_
    refine x_iconst (v := 0) rfl ki_0 ?_
    refine z_putI (N := 6) (w := 0) 9 5 rfl f_9_28 rfl (jfin_no TX9 RX9 6 rfl rfl) hD J Sm rfl rfl jk_0 (pw_68_5 (by omega)) rfl (fun h w23 J Sm => ?_)
    rw [vwf w23 (show 0 = (0 : Int32).toInt from by have := jk_0; omega)] at D
    refine x_vret rfl rfl ?_
    exact hQ _ J Sm _ _ (jmw w23) (jmo w23 rfl (jmo w1 rfl z1)) (by have := jk_0; omega) D.symm
set_option maxRecDepth 100000 in
set_option maxHeartbeats 4000000 in
theorem ct_X9_step_r68d_8 {Dy : jH → Prop} {h0 : jH} {Q : Option Value → jH → Prop} {dr : jW} (hD : jDk Dy) (hQ : ∀ hx9, jJ jSgX Dy hx9 → jSm fp_X9_step_r68d h0 hx9 → ∀ u0 u1 : Int32, jiv hx9 68 5 = u0 → jiv hx9 68 3 = u1 → (u0.toInt ≠ 3 ∨ u1.toInt ≤ 399) → dr = vw hx9 → Q none hx9) : ∀ r : Nat, ∀ (g0 : Int32) (g1 : Int32) (h : jH), 400 - g0.toInt < (r : Int) → 0 ≤ g0.toInt ∧ g0.toInt ≤ 400 → 0 ≤ g1.toInt ∧ g1.toInt ≤ 3 → jiv h 68 3 = g0 → jiv h 68 5 = g1 → jJ jSgX Dy h → jSm fp_X9_step_r68d h0 h → d_X9_step_r68d_8 r (vw h) = dr → jX m_X9_step 2 0 0 8 [(0, .ref 68)] [] h 0 0 Q := by
  intro r
  induction r with
  | zero =>
    intro g0 g1 h hm y0 y1 z0 z1  J Sm D
    exfalso
    omega
  | succ r ih =>
    intro g0 g1 h hm y0 y1 z0 z1  J Sm D
    rw [d_X9_step_r68d_8.eq_2] at D
    try rw [vrf z0] at D
    try rw [vrf z1] at D
    refine x_aloadn (x := 68) rfl rfl ?_
    refine z_getM (N := 6) (v := g0) 9 3 rfl f_9_22 rfl J rfl z0 ?_
    refine x_aloadn (x := 68) rfl rfl ?_
    refine z_getI (N := 6) 9 1 rfl f_9_15 rfl J rfl sg_68_1_2_1_0_1 (fun v1 qv1 ev1 => ?_)
    try rw [vrf qv1] at D
    refine x_icge (tgt := 46) rfl rfl (ti_ge rfl rfl ⟨fun c2 => ?_, fun c2 => ?_⟩)
    ·
      rw [if_pos (by omega)] at D
      exact jX.sub (jsb_c rfl jsb_n) (ct_X9_step_r68d_46 hD hQ  v1 g0 g1 h (jr_of rfl (by omega)) (jr_of rfl (by omega)) (jr_of rfl (by omega)) qv1 z0 z1 J Sm D)
    ·
      rw [if_neg (by omega)] at D
      refine x_aloadn (x := 68) rfl rfl ?_
      refine z_getR (N := 6) (b := 69) 9 0 rfl f_9_11 rfl J rfl 8704 ⟨rfl, rfl⟩ rfl ?_
      refine x_aloadn (x := 68) rfl rfl ?_
      refine z_getM (N := 6) (v := g0) 9 3 rfl f_9_22 rfl J rfl z0 ?_
      refine z_iald (N := 400) rfl J rfl sg_69_0_400_1_0_1 rfl (by omega) (fun v3 qv3 ev3 => ?_)
      try rw [vrd qv3 (show g0.toInt = g0.toInt from by omega)] at D
      refine x_bipush (v := 32) rfl kb_32 ?_
      refine x_icne (tgt := 46) rfl rfl (ti_ne rfl jk_32 ⟨fun c4 => ?_, fun c4 => ?_⟩)
      ·
        rw [if_neg (by omega)] at D
        exact jX.sub (jsb_c rfl jsb_n) (ct_X9_step_r68d_46 hD hQ  v1 g0 g1 h (jr_of rfl (by omega)) (jr_of rfl (by omega)) (jr_of rfl (by omega)) qv1 z0 z1 J Sm D)
      ·
        rw [if_pos (by omega)] at D
        refine x_aloadn (x := 68) rfl rfl ?_
        refine x_dup rfl rfl ?_
        refine z_getM (N := 6) (v := g0) 9 3 rfl f_9_22 rfl J rfl z0 ?_
        refine x_iconst (v := 1) rfl ki_1 ?_
        refine z_iadd rfl rfl jk_1 (by omega) (fun v5 ev5 => ?_)
        refine z_putI (N := 6) (w := v5.toInt) 9 3 rfl f_9_22 rfl (jfin_no TX9 RX9 6 rfl rfl) hD J Sm rfl rfl rfl (pw_68_3 (by omega)) rfl (fun h w6 J Sm => ?_)
        rw [vwf w6 (show (g0.toInt + 1) = v5.toInt from by omega)] at D
        refine x_goto (tgt := 8) rfl rfl ?_
        exact jX.sub (jsb_c rfl jsb_n) (ih v5 g1 h (by omega) (jr_of rfl (by omega)) (jr_of rfl (by omega)) (jmw w6) (jmo w6 rfl z1) J Sm D)
set_option maxRecDepth 100000 in
set_option maxHeartbeats 4000000 in
theorem sf_X9_step_r68d {Dy : jH → Prop} {h : jH} {Q : Option Value → jH → Prop} {dr : jW} (hD : jDk Dy) (J : jJ jSgX Dy h) {p0 p1 : Int32} (zp0 : jiv h 68 5 = p0) (zp1 : jiv h 68 3 = p1) (rl_p0 : (p0.toInt ≠ 3 ∨ p1.toInt ≤ 399)) (D : d_X9_step_r68d (vw h) = dr) (hQ : ∀ hx9, jJ jSgX Dy hx9 → jSm fp_X9_step_r68d h hx9 → ∀ u0 u1 : Int32, jiv hx9 68 5 = u0 → jiv hx9 68 3 = u1 → (u0.toInt ≠ 3 ∨ u1.toInt ≤ 399) → dr = vw hx9 → Q none hx9) : jC m_X9_step 2 0 0 [.ref 68] h Q := by
  refine jC.of rfl k_X9_step rfl ?_
  have Sm := jSm_rf fp_X9_step_r68d h
  have ep0 := (show 0 ≤ p0.toInt ∧ p0.toInt ≤ 3 from zp0 ▸ jrg_f J sg_68_5_6_1_0_1)
  have ep1 := (show 0 ≤ p1.toInt ∧ p1.toInt ≤ 400 from zp1 ▸ jrg_f J sg_68_3_4_1_0_1)
  show jX m_X9_step 2 0 0 0 [(0, .ref 68)] [] _ 0 0 _
  unfold d_X9_step_r68d at D
  try rw [vrf zp0] at D
  try rw [vrf zp1] at D
  refine x_aloadn (x := 68) rfl rfl ?_
  refine x_aloadn (x := 68) rfl rfl ?_
  refine z_getI (N := 6) 9 4 rfl f_9_25 rfl J rfl sg_68_4_5_1_0_1 (fun v1 qv1 ev1 => ?_)
  try rw [vrf qv1] at D
  refine z_putI (N := 6) (w := v1.toInt) 9 3 rfl f_9_22 rfl (jfin_no TX9 RX9 6 rfl rfl) hD J Sm rfl rfl rfl (pw_68_3 (by omega)) rfl (fun h w2 J Sm => ?_)
  rw [vwf w2 (show v1.toInt = v1.toInt from by omega)] at D
  exact jX.sub (jsb_c rfl jsb_n) (ct_X9_step_r68d_8 hD hQ  401 v1 p0 h (by omega) (jr_of rfl (by omega)) (jr_of rfl (by omega)) (jmw w2) (jmo w2 rfl zp0) J Sm D)
def fp_X5_readName_r70d : jFp := [(68, 2, 3), (68, 3, 4), (68, 4, 5), (68, 5, 6), (71, 0, 84)]
set_option maxRecDepth 100000 in
set_option maxHeartbeats 4000000 in
theorem ct_X5_readName_r70d_73 {Dy : jH → Prop} {h0 : jH} {Q : Option Value → jH → Prop} {dr : (Int × jW)} (hD : jDk Dy) (hQ : ∀ (v : Int32) hx9, 0 ≤ v.toInt ∧ v.toInt ≤ 1 → jJ jSgX Dy hx9 → jSm fp_X5_readName_r70d h0 hx9 → ∀ u0 u1 : Int32, jiv hx9 68 5 = u0 → jiv hx9 68 3 = u1 → (u0.toInt ≠ 3 ∨ u1.toInt ≤ 399) → dr.1 = v.toInt → dr.2 = vw hx9 → Q (some (.int v)) hx9) : ∀ (g0 : Int32) (g1 : Int32) (h : jH), 0 ≤ g0.toInt ∧ g0.toInt ≤ 400 → 0 ≤ g1.toInt ∧ g1.toInt ≤ 3 → (g1.toInt ≠ 3 ∨ g0.toInt ≤ 399) → jiv h 68 3 = g0 → jiv h 68 5 = g1 → jJ jSgX Dy h → jSm fp_X5_readName_r70d h0 h → d_X5_readName_r70d_73  (vw h) = dr → jX m_X5_readName 3 0 0 73 [(0, .ref 70)] [] h 0 0 Q := by
  intro g0 g1 h y0 y1 y2 z0 z1  J Sm D
  unfold d_X5_readName_r70d_73 at D
  try rw [vrf z0] at D
  try rw [vrf z1] at D
  refine x_aloadn (x := 70) rfl rfl ?_
  refine z_getR (N := 9) (b := 68) 5 1 rfl f_5_39 rfl J rfl 8961 ⟨rfl, rfl⟩ rfl ?_
  refine x_inv (N := m_X9_blame) (As := []) (b := 68) (st := []) (dx9 := 2) (mc := 0) (ms := 0) (host := "") 9 rfl t_X9_blame ⟨Or.inl q_5_64, i_X9_blame.1, i_X9_blame.2⟩ ⟨by decide, rfl⟩ (congrArg Prod.fst (J.1.1 68 (9, 6) rfl)) rfl (by decide) rfl rfl ⟨by decide, by decide⟩ (jC.of rfl k_X9_blame rfl ?_)
  show jX m_X9_blame 2 0 0 0 [(0, .ref 68)] [] _ 0 0 _
  refine x_aloadn (x := 68) rfl rfl ?_
  refine x_aloadn (x := 68) rfl rfl ?_
  refine z_getM (N := 6) (v := g0) 9 3 rfl f_9_22 rfl J rfl z0 ?_
  refine z_putI (N := 6) (w := g0.toInt) 9 2 rfl f_9_19 rfl (jfin_no TX9 RX9 6 rfl rfl) hD J Sm rfl rfl rfl (pw_68_2 (by omega)) rfl (fun h w1 J Sm => ?_)
  rw [vwf w1 (show g0.toInt = g0.toInt from by omega)] at D
  refine x_iconst (v := 0) rfl ki_0 ?_
  refine x_zret rfl rfl (by decide) ?_
  show jX m_X5_readName 3 0 0 80 [(0, .ref 70)] [.int 0] _ 0 0 _
  refine x_zret rfl rfl (by decide) ?_
  exact hQ _ _ (jr_of jk_0 (by omega)) J Sm _ _ (jmo w1 rfl z1) (jmo w1 rfl z0) (by omega) ((congrArg Prod.fst D).symm.trans (show 0 = (0 : Int32).toInt from by have := jk_0; omega)) (congrArg Prod.snd D).symm
set_option maxRecDepth 100000 in
set_option maxHeartbeats 4000000 in
theorem ct_X5_readName_r70d_200188 {Dy : jH → Prop} {h0 : jH} {Q : Option Value → jH → Prop} {dr : (Int × jW)} (hD : jDk Dy) (hQ : ∀ (v : Int32) hx9, 0 ≤ v.toInt ∧ v.toInt ≤ 1 → jJ jSgX Dy hx9 → jSm fp_X5_readName_r70d h0 hx9 → ∀ u0 u1 : Int32, jiv hx9 68 5 = u0 → jiv hx9 68 3 = u1 → (u0.toInt ≠ 3 ∨ u1.toInt ≤ 399) → dr.1 = v.toInt → dr.2 = vw hx9 → Q (some (.int v)) hx9) : ∀ (s1 : Int32) (g0 : Int32) (g1 : Int32) (h : jH), 1 ≤ s1.toInt ∧ s1.toInt ≤ 71 → s1.toInt % 14 = 1 → 0 ≤ g0.toInt ∧ g0.toInt ≤ 400 → 0 ≤ g1.toInt ∧ g1.toInt ≤ 3 → (g1.toInt ≠ 3 ∨ g0.toInt ≤ 399) → jiv h 68 3 = g0 → jiv h 68 5 = g1 → jJ jSgX Dy h → jSm fp_X5_readName_r70d h0 h → d_X5_readName_r70d_200188  s1.toInt (vw h) = dr → jX m_X5_readName 3 0 0 188 [] [.int 0, .int s1, .ref 71] h 0 0 Q := by
  intro s1 g0 g1 h y0 y1 y2 y3 y4 z0 z1  J Sm D
  unfold d_X5_readName_r70d_200188 at D
  try rw [vrf z0] at D
  try rw [vrf z1] at D
  refine z_iast (N := 84) (l := 0) (u := 84) (w := 0) rfl hD J Sm rfl rfl rfl (by omega) jk_0 (wr_71 (fun q1 q2 q3 q4 => by omega) (fun q1 q2 q3 q4 => by omega) (fun q1 q2 q3 q4 => by omega) (fun q1 q2 q3 q4 => by omega)) rfl (fun h w1 J Sm => ?_)
  rw [vww w1 (show s1.toInt = s1.toInt from by omega) (show 0 = (0 : Int32).toInt from by have := jk_0; omega)] at D
  refine x_iconst (v := 1) rfl ki_1 ?_
  refine x_zret rfl rfl (by decide) ?_
  exact hQ _ _ (jr_of jk_1 (by omega)) J Sm _ _ (jmo w1 rfl z1) (jmo w1 rfl z0) (by omega) ((congrArg Prod.fst D).symm.trans (show 1 = (1 : Int32).toInt from by have := jk_1; omega)) (congrArg Prod.snd D).symm
set_option maxRecDepth 100000 in
set_option maxHeartbeats 4000000 in
theorem ct_X5_readName_r70d_300188 {Dy : jH → Prop} {h0 : jH} {Q : Option Value → jH → Prop} {dr : (Int × jW)} (hD : jDk Dy) (hQ : ∀ (v : Int32) hx9, 0 ≤ v.toInt ∧ v.toInt ≤ 1 → jJ jSgX Dy hx9 → jSm fp_X5_readName_r70d h0 hx9 → ∀ u0 u1 : Int32, jiv hx9 68 5 = u0 → jiv hx9 68 3 = u1 → (u0.toInt ≠ 3 ∨ u1.toInt ≤ 399) → dr.1 = v.toInt → dr.2 = vw hx9 → Q (some (.int v)) hx9) : ∀ (s1 : Int32) (g0 : Int32) (g1 : Int32) (h : jH), 1 ≤ s1.toInt ∧ s1.toInt ≤ 71 → s1.toInt % 14 = 1 → 0 ≤ g0.toInt ∧ g0.toInt ≤ 400 → 0 ≤ g1.toInt ∧ g1.toInt ≤ 3 → (g1.toInt ≠ 3 ∨ g0.toInt ≤ 399) → jiv h 68 3 = g0 → jiv h 68 5 = g1 → jJ jSgX Dy h → jSm fp_X5_readName_r70d h0 h → d_X5_readName_r70d_300188  s1.toInt (vw h) = dr → jX m_X5_readName 3 0 0 188 [] [.int 1, .int s1, .ref 71] h 0 0 Q := by
  intro s1 g0 g1 h y0 y1 y2 y3 y4 z0 z1  J Sm D
  unfold d_X5_readName_r70d_300188 at D
  try rw [vrf z0] at D
  try rw [vrf z1] at D
  refine z_iast (N := 84) (l := 0) (u := 84) (w := 1) rfl hD J Sm rfl rfl rfl (by omega) jk_1 (wr_71 (fun q1 q2 q3 q4 => by omega) (fun q1 q2 q3 q4 => by omega) (fun q1 q2 q3 q4 => by omega) (fun q1 q2 q3 q4 => by omega)) rfl (fun h w1 J Sm => ?_)
  rw [vww w1 (show s1.toInt = s1.toInt from by omega) (show 1 = (1 : Int32).toInt from by have := jk_1; omega)] at D
  refine x_iconst (v := 1) rfl ki_1 ?_
  refine x_zret rfl rfl (by decide) ?_
  exact hQ _ _ (jr_of jk_1 (by omega)) J Sm _ _ (jmo w1 rfl z1) (jmo w1 rfl z0) (by omega) ((congrArg Prod.fst D).symm.trans (show 1 = (1 : Int32).toInt from by have := jk_1; omega)) (congrArg Prod.snd D).symm
set_option maxRecDepth 100000 in
set_option maxHeartbeats 4000000 in
theorem ct_X5_readName_r70d_172 {Dy : jH → Prop} {h0 : jH} {Q : Option Value → jH → Prop} {dr : (Int × jW)} (hD : jDk Dy) (hQ : ∀ (v : Int32) hx9, 0 ≤ v.toInt ∧ v.toInt ≤ 1 → jJ jSgX Dy hx9 → jSm fp_X5_readName_r70d h0 hx9 → ∀ u0 u1 : Int32, jiv hx9 68 5 = u0 → jiv hx9 68 3 = u1 → (u0.toInt ≠ 3 ∨ u1.toInt ≤ 399) → dr.1 = v.toInt → dr.2 = vw hx9 → Q (some (.int v)) hx9) : ∀ (l1 : Int32) (l3 : Int32) (g0 : Int32) (g1 : Int32) (h : jH), 0 ≤ l1.toInt ∧ l1.toInt ≤ 70 → l1.toInt % 14 = 0 → 0 ≤ l3.toInt ∧ l3.toInt ≤ 1 → 0 ≤ g0.toInt ∧ g0.toInt ≤ 400 → 0 ≤ g1.toInt ∧ g1.toInt ≤ 3 → (g1.toInt ≠ 3 ∨ g0.toInt ≤ 399) → jiv h 68 3 = g0 → jiv h 68 5 = g1 → jJ jSgX Dy h → jSm fp_X5_readName_r70d h0 h → d_X5_readName_r70d_172  l1.toInt l3.toInt (vw h) = dr → jX m_X5_readName 3 0 0 172 [(0, .ref 70), (1, .int l1), (3, .int l3)] [] h 0 0 Q := by
  intro l1 l3 g0 g1 h y0 y1 y2 y3 y4 y5 z0 z1  J Sm D
  unfold d_X5_readName_r70d_172 at D
  try rw [vrf z0] at D
  try rw [vrf z1] at D
  refine x_aloadn (x := 70) rfl rfl ?_
  refine z_getR (N := 9) (b := 71) 5 2 rfl f_5_9 rfl J rfl 8962 ⟨rfl, rfl⟩ rfl ?_
  refine x_iloadn (x := l1) rfl rfl ?_
  refine x_iconst (v := 1) rfl ki_1 ?_
  refine z_iadd rfl rfl jk_1 (by omega) (fun v1 ev1 => ?_)
  refine x_iloadn (x := l3) rfl rfl ?_
  refine x_ifeq (tgt := 187) rfl rfl (ti_eq rfl jk_0 ⟨fun c2 => ?_, fun c2 => ?_⟩)
  ·
    rw [if_pos (by omega)] at D
    refine x_iconst (v := 0) rfl ki_0 ?_
    try rw [show (l1.toInt + 1) = v1.toInt from by omega] at D
    exact jX.sub jsb_n (ct_X5_readName_r70d_200188 hD hQ  v1 g0 g1 h (jr_of rfl (by omega)) (jr_mod rfl (by omega)) (jr_of rfl (by omega)) (jr_of rfl (by omega)) (by omega) z0 z1 J Sm D)
  ·
    rw [if_neg (by omega)] at D
    refine x_iconst (v := 1) rfl ki_1 ?_
    refine x_goto (tgt := 188) rfl rfl ?_
    try rw [show (l1.toInt + 1) = v1.toInt from by omega] at D
    exact jX.sub jsb_n (ct_X5_readName_r70d_300188 hD hQ  v1 g0 g1 h (jr_of rfl (by omega)) (jr_mod rfl (by omega)) (jr_of rfl (by omega)) (jr_of rfl (by omega)) (by omega) z0 z1 J Sm D)
set_option maxRecDepth 100000 in
set_option maxHeartbeats 4000000 in
theorem ct_X5_readName_r70d_200143 {Dy : jH → Prop} {h0 : jH} {Q : Option Value → jH → Prop} {dr : (Int × jW)} (hD : jDk Dy) (hQ : ∀ (v : Int32) hx9, 0 ≤ v.toInt ∧ v.toInt ≤ 1 → jJ jSgX Dy hx9 → jSm fp_X5_readName_r70d h0 hx9 → ∀ u0 u1 : Int32, jiv hx9 68 5 = u0 → jiv hx9 68 3 = u1 → (u0.toInt ≠ 3 ∨ u1.toInt ≤ 399) → dr.1 = v.toInt → dr.2 = vw hx9 → Q (some (.int v)) hx9) : ∀ (l1 : Int32) (g0 : Int32) (g1 : Int32) (h : jH), 0 ≤ l1.toInt ∧ l1.toInt ≤ 70 → l1.toInt % 14 = 0 → 0 ≤ g0.toInt ∧ g0.toInt ≤ 400 → 1 ≤ g1.toInt ∧ g1.toInt ≤ 1 → (g1.toInt ≠ 3 ∨ g0.toInt ≤ 399) → jiv h 68 3 = g0 → jiv h 68 5 = g1 → jJ jSgX Dy h → jSm fp_X5_readName_r70d h0 h → d_X5_readName_r70d_200143  l1.toInt (vw h) = dr → jX m_X5_readName 3 0 0 143 [(0, .ref 70), (1, .int l1)] [.int 0] h 0 0 Q := by
  intro l1 g0 g1 h y0 y1 y2 y3 y4 z0 z1  J Sm D
  unfold d_X5_readName_r70d_200143 at D
  try rw [vrf z0] at D
  try rw [vrf z1] at D
  refine x_istoren (lsx9 := [(3, .int 0), (0, .ref 70), (1, .int l1)]) rfl rfl rfl ?_
  refine x_aloadn (x := 70) rfl rfl ?_
  refine z_getR (N := 9) (b := 68) 5 1 rfl f_5_39 rfl J rfl 8961 ⟨rfl, rfl⟩ rfl ?_
  refine x_inv (N := m_X9_step) (As := []) (b := 68) (st := []) (dx9 := 2) (mc := 0) (ms := 0) (host := "") 9 rfl t_X9_step ⟨Or.inl q_5_67, i_X9_step.1, i_X9_step.2⟩ ⟨by decide, rfl⟩ (congrArg Prod.fst (J.1.1 68 (9, 6) rfl)) rfl (by decide) rfl rfl ⟨by decide, by decide⟩ (sf_X9_step_r68d  hD J z1 z0 (by omega) rfl  (fun h J S1 u2 u3 qu2 qu3 ru2 X4 => ?_))
  have Sm := jSm_tr rfl Sm S1
  rw [X4] at D
  have eu2 := (show 0 ≤ u2.toInt ∧ u2.toInt ≤ 3 from qu2 ▸ jrg_f J sg_68_5_6_1_0_1)
  try rw [vrf qu2] at D
  have eu3 := (show 0 ≤ u3.toInt ∧ u3.toInt ≤ 400 from qu3 ▸ jrg_f J sg_68_3_4_1_0_1)
  try rw [vrf qu3] at D
  show jX m_X5_readName 3 0 0 151 [(3, .int 0), (0, .ref 70), (1, .int l1)] [] _ 0 0 _
  refine x_aloadn (x := 70) rfl rfl ?_
  refine z_getR (N := 9) (b := 68) 5 1 rfl f_5_39 rfl J rfl 8961 ⟨rfl, rfl⟩ rfl ?_
  refine x_bipush (v := 45) rfl kb_45 ?_
  refine x_inv (N := m_X9_isSign) (As := [.int 45]) (b := 68) (st := []) (dx9 := 1) (mc := 0) (ms := 0) (host := "") 9 rfl t_X9_isSign ⟨Or.inl q_5_48, i_X9_isSign.1, i_X9_isSign.2⟩ ⟨by decide, rfl⟩ (congrArg Prod.fst (J.1.1 68 (9, 6) rfl)) rfl (by decide) rfl rfl ⟨by decide, by decide⟩ (sf_X9_isSign_r68d (jr_of jk_45 (by omega)) hD J qu2 qu3 (by omega) rfl  (fun v10 h ev10 J S5 u6 u7 qu6 qu7 ru6 X8 X9 => ?_))
  have Sm := jSm_tr rfl Sm S5
  try rw [jk_45] at X8
  try rw [X8] at D
  try rw [← X9] at D
  have eu6 := (show 0 ≤ u6.toInt ∧ u6.toInt ≤ 3 from qu6 ▸ jrg_f J sg_68_5_6_1_0_1)
  have Luu6 := congrArg Int32.toInt (((jmc S5 rfl qu2)).symm.trans qu6)
  try rw [Luu6] at D
  try rw [vrf qu6] at D
  have eu7 := (show 0 ≤ u7.toInt ∧ u7.toInt ≤ 400 from qu7 ▸ jrg_f J sg_68_3_4_1_0_1)
  have Luu7 := congrArg Int32.toInt (((jmc S5 rfl qu3)).symm.trans qu7)
  try rw [Luu7] at D
  try rw [vrf qu7] at D
  show jX m_X5_readName 3 0 0 160 [(3, .int 0), (0, .ref 70), (1, .int l1)] [.int v10] _ 0 0 _
  refine x_ifeq (tgt := 172) rfl rfl (ti_eq rfl jk_0 ⟨fun c11 => ?_, fun c11 => ?_⟩)
  ·
    rw [if_pos (by omega)] at D
    exact jX.sub (jsb_c rfl (jsb_c rfl (jsb_c rfl jsb_n))) (ct_X5_readName_r70d_172 hD hQ  l1 0 u7 u6 h (jr_of rfl (by omega)) (jr_mod rfl (by omega)) (jr_of jk_0 (by omega)) (jr_of rfl (by omega)) (jr_of rfl (by omega)) (by omega) qu7 qu6 J Sm (by rw [jk_0]; exact D))
  ·
    rw [if_neg (by omega)] at D
    refine x_iconst (v := 1) rfl ki_1 ?_
    refine x_istoren (lsx9 := [(3, .int 1), (0, .ref 70), (1, .int l1)]) rfl rfl rfl ?_
    refine x_aloadn (x := 70) rfl rfl ?_
    refine z_getR (N := 9) (b := 68) 5 1 rfl f_5_39 rfl J rfl 8961 ⟨rfl, rfl⟩ rfl ?_
    refine x_inv (N := m_X9_step) (As := []) (b := 68) (st := []) (dx9 := 2) (mc := 0) (ms := 0) (host := "") 9 rfl t_X9_step ⟨Or.inl q_5_67, i_X9_step.1, i_X9_step.2⟩ ⟨by decide, rfl⟩ (congrArg Prod.fst (J.1.1 68 (9, 6) rfl)) rfl (by decide) rfl rfl ⟨by decide, by decide⟩ (sf_X9_step_r68d  hD J qu6 qu7 (by omega) rfl  (fun h J S12 u13 u14 qu13 qu14 ru13 X15 => ?_))
    have Sm := jSm_tr rfl Sm S12
    rw [X15] at D
    have eu13 := (show 0 ≤ u13.toInt ∧ u13.toInt ≤ 3 from qu13 ▸ jrg_f J sg_68_5_6_1_0_1)
    try rw [vrf qu13] at D
    have eu14 := (show 0 ≤ u14.toInt ∧ u14.toInt ≤ 400 from qu14 ▸ jrg_f J sg_68_3_4_1_0_1)
    try rw [vrf qu14] at D
    show jX m_X5_readName 3 0 0 172 [(3, .int 1), (0, .ref 70), (1, .int l1)] [] _ 0 0 _
    exact jX.sub (jsb_c rfl (jsb_c rfl (jsb_c rfl jsb_n))) (ct_X5_readName_r70d_172 hD hQ  l1 1 u14 u13 h (jr_of rfl (by omega)) (jr_mod rfl (by omega)) (jr_of jk_1 (by omega)) (jr_of rfl (by omega)) (jr_of rfl (by omega)) (by omega) qu14 qu13 J Sm (by rw [jk_1]; exact D))
set_option maxRecDepth 100000 in
set_option maxHeartbeats 4000000 in
theorem ct_X5_readName_r70d_300143 {Dy : jH → Prop} {h0 : jH} {Q : Option Value → jH → Prop} {dr : (Int × jW)} (hD : jDk Dy) (hQ : ∀ (v : Int32) hx9, 0 ≤ v.toInt ∧ v.toInt ≤ 1 → jJ jSgX Dy hx9 → jSm fp_X5_readName_r70d h0 hx9 → ∀ u0 u1 : Int32, jiv hx9 68 5 = u0 → jiv hx9 68 3 = u1 → (u0.toInt ≠ 3 ∨ u1.toInt ≤ 399) → dr.1 = v.toInt → dr.2 = vw hx9 → Q (some (.int v)) hx9) : ∀ (l1 : Int32) (g0 : Int32) (g1 : Int32) (h : jH), 0 ≤ l1.toInt ∧ l1.toInt ≤ 70 → l1.toInt % 14 = 0 → 0 ≤ g0.toInt ∧ g0.toInt ≤ 400 → 1 ≤ g1.toInt ∧ g1.toInt ≤ 1 → (g1.toInt ≠ 3 ∨ g0.toInt ≤ 399) → jiv h 68 3 = g0 → jiv h 68 5 = g1 → jJ jSgX Dy h → jSm fp_X5_readName_r70d h0 h → d_X5_readName_r70d_300143  l1.toInt (vw h) = dr → jX m_X5_readName 3 0 0 143 [(0, .ref 70), (1, .int l1)] [.int 1] h 0 0 Q := by
  intro l1 g0 g1 h y0 y1 y2 y3 y4 z0 z1  J Sm D
  unfold d_X5_readName_r70d_300143 at D
  try rw [vrf z0] at D
  try rw [vrf z1] at D
  refine x_istoren (lsx9 := [(3, .int 1), (0, .ref 70), (1, .int l1)]) rfl rfl rfl ?_
  refine x_aloadn (x := 70) rfl rfl ?_
  refine z_getR (N := 9) (b := 68) 5 1 rfl f_5_39 rfl J rfl 8961 ⟨rfl, rfl⟩ rfl ?_
  refine x_inv (N := m_X9_step) (As := []) (b := 68) (st := []) (dx9 := 2) (mc := 0) (ms := 0) (host := "") 9 rfl t_X9_step ⟨Or.inl q_5_67, i_X9_step.1, i_X9_step.2⟩ ⟨by decide, rfl⟩ (congrArg Prod.fst (J.1.1 68 (9, 6) rfl)) rfl (by decide) rfl rfl ⟨by decide, by decide⟩ (sf_X9_step_r68d  hD J z1 z0 (by omega) rfl  (fun h J S1 u2 u3 qu2 qu3 ru2 X4 => ?_))
  have Sm := jSm_tr rfl Sm S1
  rw [X4] at D
  have eu2 := (show 0 ≤ u2.toInt ∧ u2.toInt ≤ 3 from qu2 ▸ jrg_f J sg_68_5_6_1_0_1)
  try rw [vrf qu2] at D
  have eu3 := (show 0 ≤ u3.toInt ∧ u3.toInt ≤ 400 from qu3 ▸ jrg_f J sg_68_3_4_1_0_1)
  try rw [vrf qu3] at D
  show jX m_X5_readName 3 0 0 151 [(3, .int 1), (0, .ref 70), (1, .int l1)] [] _ 0 0 _
  refine x_aloadn (x := 70) rfl rfl ?_
  refine z_getR (N := 9) (b := 68) 5 1 rfl f_5_39 rfl J rfl 8961 ⟨rfl, rfl⟩ rfl ?_
  refine x_bipush (v := 45) rfl kb_45 ?_
  refine x_inv (N := m_X9_isSign) (As := [.int 45]) (b := 68) (st := []) (dx9 := 1) (mc := 0) (ms := 0) (host := "") 9 rfl t_X9_isSign ⟨Or.inl q_5_48, i_X9_isSign.1, i_X9_isSign.2⟩ ⟨by decide, rfl⟩ (congrArg Prod.fst (J.1.1 68 (9, 6) rfl)) rfl (by decide) rfl rfl ⟨by decide, by decide⟩ (sf_X9_isSign_r68d (jr_of jk_45 (by omega)) hD J qu2 qu3 (by omega) rfl  (fun v10 h ev10 J S5 u6 u7 qu6 qu7 ru6 X8 X9 => ?_))
  have Sm := jSm_tr rfl Sm S5
  try rw [jk_45] at X8
  try rw [X8] at D
  try rw [← X9] at D
  have eu6 := (show 0 ≤ u6.toInt ∧ u6.toInt ≤ 3 from qu6 ▸ jrg_f J sg_68_5_6_1_0_1)
  have Luu6 := congrArg Int32.toInt (((jmc S5 rfl qu2)).symm.trans qu6)
  try rw [Luu6] at D
  try rw [vrf qu6] at D
  have eu7 := (show 0 ≤ u7.toInt ∧ u7.toInt ≤ 400 from qu7 ▸ jrg_f J sg_68_3_4_1_0_1)
  have Luu7 := congrArg Int32.toInt (((jmc S5 rfl qu3)).symm.trans qu7)
  try rw [Luu7] at D
  try rw [vrf qu7] at D
  show jX m_X5_readName 3 0 0 160 [(3, .int 1), (0, .ref 70), (1, .int l1)] [.int v10] _ 0 0 _
  refine x_ifeq (tgt := 172) rfl rfl (ti_eq rfl jk_0 ⟨fun c11 => ?_, fun c11 => ?_⟩)
  ·
    rw [if_pos (by omega)] at D
    exact jX.sub (jsb_c rfl (jsb_c rfl (jsb_c rfl jsb_n))) (ct_X5_readName_r70d_172 hD hQ  l1 1 u7 u6 h (jr_of rfl (by omega)) (jr_mod rfl (by omega)) (jr_of jk_1 (by omega)) (jr_of rfl (by omega)) (jr_of rfl (by omega)) (by omega) qu7 qu6 J Sm (by rw [jk_1]; exact D))
  ·
    rw [if_neg (by omega)] at D
    refine x_iconst (v := 1) rfl ki_1 ?_
    refine x_istoren (lsx9 := [(3, .int 1), (0, .ref 70), (1, .int l1)]) rfl rfl rfl ?_
    refine x_aloadn (x := 70) rfl rfl ?_
    refine z_getR (N := 9) (b := 68) 5 1 rfl f_5_39 rfl J rfl 8961 ⟨rfl, rfl⟩ rfl ?_
    refine x_inv (N := m_X9_step) (As := []) (b := 68) (st := []) (dx9 := 2) (mc := 0) (ms := 0) (host := "") 9 rfl t_X9_step ⟨Or.inl q_5_67, i_X9_step.1, i_X9_step.2⟩ ⟨by decide, rfl⟩ (congrArg Prod.fst (J.1.1 68 (9, 6) rfl)) rfl (by decide) rfl rfl ⟨by decide, by decide⟩ (sf_X9_step_r68d  hD J qu6 qu7 (by omega) rfl  (fun h J S12 u13 u14 qu13 qu14 ru13 X15 => ?_))
    have Sm := jSm_tr rfl Sm S12
    rw [X15] at D
    have eu13 := (show 0 ≤ u13.toInt ∧ u13.toInt ≤ 3 from qu13 ▸ jrg_f J sg_68_5_6_1_0_1)
    try rw [vrf qu13] at D
    have eu14 := (show 0 ≤ u14.toInt ∧ u14.toInt ≤ 400 from qu14 ▸ jrg_f J sg_68_3_4_1_0_1)
    try rw [vrf qu14] at D
    show jX m_X5_readName 3 0 0 172 [(3, .int 1), (0, .ref 70), (1, .int l1)] [] _ 0 0 _
    exact jX.sub (jsb_c rfl (jsb_c rfl (jsb_c rfl jsb_n))) (ct_X5_readName_r70d_172 hD hQ  l1 1 u14 u13 h (jr_of rfl (by omega)) (jr_mod rfl (by omega)) (jr_of jk_1 (by omega)) (jr_of rfl (by omega)) (jr_of rfl (by omega)) (by omega) qu14 qu13 J Sm (by rw [jk_1]; exact D))
set_option maxRecDepth 100000 in
set_option maxHeartbeats 4000000 in
theorem ct_X5_readName_r70d_92 {Dy : jH → Prop} {h0 : jH} {Q : Option Value → jH → Prop} {dr : (Int × jW)} (hD : jDk Dy) (hQ : ∀ (v : Int32) hx9, 0 ≤ v.toInt ∧ v.toInt ≤ 1 → jJ jSgX Dy hx9 → jSm fp_X5_readName_r70d h0 hx9 → ∀ u0 u1 : Int32, jiv hx9 68 5 = u0 → jiv hx9 68 3 = u1 → (u0.toInt ≠ 3 ∨ u1.toInt ≤ 399) → dr.1 = v.toInt → dr.2 = vw hx9 → Q (some (.int v)) hx9) : ∀ r : Nat, ∀ (l1 : Int32) (l2 : Int32) (l3 : Int32) (g0 : Int32) (g1 : Int32) (g2 : Int32) (h : jH), 12 - l3.toInt < (r : Int) → 0 ≤ l1.toInt ∧ l1.toInt ≤ 70 → l1.toInt % 14 = 0 → (-400) ≤ l2.toInt ∧ l2.toInt ≤ 12 → 0 ≤ l3.toInt ∧ l3.toInt ≤ 12 → 0 ≤ g0.toInt ∧ g0.toInt ≤ 400 → 0 ≤ g1.toInt ∧ g1.toInt ≤ 400 → 1 ≤ g2.toInt ∧ g2.toInt ≤ 1 → (g2.toInt ≠ 3 ∨ g0.toInt ≤ 399) → jiv h 68 3 = g0 → jiv h 68 4 = g1 → jiv h 68 5 = g2 → jJ jSgX Dy h → jSm fp_X5_readName_r70d h0 h → d_X5_readName_r70d_92 r l1.toInt l2.toInt l3.toInt (vw h) = dr → jX m_X5_readName 3 0 0 92 [(0, .ref 70), (1, .int l1), (2, .int l2), (3, .int l3)] [] h 0 0 Q := by
  intro r
  induction r with
  | zero =>
    intro l1 l2 l3 g0 g1 g2 h hm y0 y1 y2 y3 y4 y5 y6 y7 z0 z1 z2  J Sm D
    exfalso
    omega
  | succ r ih =>
    intro l1 l2 l3 g0 g1 g2 h hm y0 y1 y2 y3 y4 y5 y6 y7 z0 z1 z2  J Sm D
    rw [d_X5_readName_r70d_92.eq_2] at D
    try rw [vrf z0] at D
    try rw [vrf z1] at D
    try rw [vrf z2] at D
    refine x_iloadn (x := l3) rfl rfl ?_
    refine x_iloadn (x := l2) rfl rfl ?_
    refine x_icge (tgt := 121) rfl rfl (ti_ge rfl rfl ⟨fun c1 => ?_, fun c1 => ?_⟩)
    ·
      rw [if_pos (by omega)] at D
      refine x_aloadn (x := 70) rfl rfl ?_
      refine z_getR (N := 9) (b := 68) 5 1 rfl f_5_39 rfl J rfl 8961 ⟨rfl, rfl⟩ rfl ?_
      refine z_getM (N := 6) (v := g1) 9 4 rfl f_5_83 rfl J rfl z1 ?_
      refine x_aloadn (x := 70) rfl rfl ?_
      refine z_getR (N := 9) (b := 68) 5 1 rfl f_5_39 rfl J rfl 8961 ⟨rfl, rfl⟩ rfl ?_
      refine z_getI (N := 6) 9 1 rfl f_5_87 rfl J rfl sg_68_1_2_1_0_1 (fun v2 qv2 ev2 => ?_)
      try rw [vrf qv2] at D
      refine x_icne (tgt := 142) rfl rfl (ti_ne rfl rfl ⟨fun c3 => ?_, fun c3 => ?_⟩)
      ·
        rw [if_neg (by omega)] at D
        refine x_iconst (v := 0) rfl ki_0 ?_
        exact jX.sub (jsb_c rfl (jsb_c rfl jsb_n)) (ct_X5_readName_r70d_200143 hD hQ  l1 g0 g2 h (jr_of rfl (by omega)) (jr_mod rfl (by omega)) (jr_of rfl (by omega)) (jr_of rfl (by omega)) (by omega) z0 z2 J Sm D)
      ·
        rw [if_pos (by omega)] at D
        refine x_iconst (v := 1) rfl ki_1 ?_
        refine x_goto (tgt := 143) rfl rfl ?_
        exact jX.sub (jsb_c rfl (jsb_c rfl jsb_n)) (ct_X5_readName_r70d_300143 hD hQ  l1 g0 g2 h (jr_of rfl (by omega)) (jr_mod rfl (by omega)) (jr_of rfl (by omega)) (jr_of rfl (by omega)) (by omega) z0 z2 J Sm D)
    ·
      rw [if_neg (by omega)] at D
      refine x_aloadn (x := 70) rfl rfl ?_
      refine z_getR (N := 9) (b := 71) 5 2 rfl f_5_9 rfl J rfl 8962 ⟨rfl, rfl⟩ rfl ?_
      refine x_iloadn (x := l1) rfl rfl ?_
      refine x_iconst (v := 2) rfl ki_2 ?_
      refine z_iadd rfl rfl jk_2 (by omega) (fun v4 ev4 => ?_)
      refine x_iloadn (x := l3) rfl rfl ?_
      refine z_iadd rfl rfl rfl (by omega) (fun v5 ev5 => ?_)
      refine x_aloadn (x := 70) rfl rfl ?_
      refine z_getR (N := 9) (b := 68) 5 1 rfl f_5_39 rfl J rfl 8961 ⟨rfl, rfl⟩ rfl ?_
      refine x_iloadn (x := l3) rfl rfl ?_
      refine x_inv (N := m_X9_letter) (As := [.int l3]) (b := 68) (st := [.int v5, .ref 71]) (dx9 := 2) (mc := 0) (ms := 0) (host := "") 9 rfl t_X9_letter ⟨Or.inl q_5_79, i_X9_letter.1, i_X9_letter.2⟩ ⟨by decide, rfl⟩ (congrArg Prod.fst (J.1.1 68 (9, 6) rfl)) rfl (by decide) rfl rfl ⟨by decide, by decide⟩ (jC.of rfl k_X9_letter rfl ?_)
      show jX m_X9_letter 2 0 0 0 [(0, .ref 68), (1, .int l3)] [] _ 0 0 _
      refine x_iloadn (x := l3) rfl rfl ?_
      refine x_iflt (tgt := 31) rfl rfl (ti_lt rfl jk_0 (br_f (by omega) ?_))
      refine x_iloadn (x := l3) rfl rfl ?_
      refine x_aloadn (x := 68) rfl rfl ?_
      refine z_getM (N := 6) (v := g1) 9 4 rfl f_9_25 rfl J rfl z1 ?_
      refine x_aloadn (x := 68) rfl rfl ?_
      refine z_getM (N := 6) (v := g0) 9 3 rfl f_9_22 rfl J rfl z0 ?_
      refine z_isub rfl rfl rfl (by omega) (fun v6 ev6 => ?_)
      refine x_icge (tgt := 31) rfl rfl (ti_ge rfl rfl ⟨fun c7 => ?_, fun c7 => ?_⟩)
      ·
        rw [if_pos (by omega)] at D
        refine x_iconst (v := 0) rfl ki_0 ?_
        refine x_iret rfl rfl ?_
        show jX m_X5_readName 3 0 0 114 [(0, .ref 70), (1, .int l1), (2, .int l2), (3, .int l3)] [.int 0, .int v5, .ref 71] _ 0 0 _
        refine z_iast (N := 84) (l := 0) (u := 84) (w := 0) rfl hD J Sm rfl rfl rfl (by omega) jk_0 (wr_71 (fun q1 q2 q3 q4 => by omega) (fun q1 q2 q3 q4 => by omega) (fun q1 q2 q3 q4 => by omega) (fun q1 q2 q3 q4 => by omega)) rfl (fun h w8 J Sm => ?_)
        rw [vww w8 (show ((l1.toInt + 2) + l3.toInt) = v5.toInt from by omega) (show 0 = (0 : Int32).toInt from by have := jk_0; omega)] at D
        refine z_iinc (x := l3) (lsx9 := fun v9 => [(3, .int v9), (0, .ref 70), (1, .int l1), (2, .int l2)]) rfl rfl rfl jko_1 (by omega) rfl (fun _ => rfl) (fun v9 ev9 => ?_)
        refine x_goto (tgt := 92) rfl rfl ?_
        try rw [show (l3.toInt + 1) = v9.toInt from by omega] at D
        exact jX.sub (jsb_c rfl (jsb_c rfl (jsb_c rfl (jsb_c rfl jsb_n)))) (ih l1 l2 v9 g0 g1 g2 h (by omega) (jr_of rfl (by omega)) (jr_mod rfl (by omega)) (jr_of rfl (by omega)) (jr_of rfl (by omega)) (jr_of rfl (by omega)) (jr_of rfl (by omega)) (jr_of rfl (by omega)) (by omega) (jmo w8 rfl z0) (jmo w8 rfl z1) (jmo w8 rfl z2) J Sm D)
      ·
        rw [if_neg (by omega)] at D
        refine x_aloadn (x := 68) rfl rfl ?_
        refine z_getR (N := 6) (b := 69) 9 0 rfl f_9_11 rfl J rfl 8704 ⟨rfl, rfl⟩ rfl ?_
        refine x_aloadn (x := 68) rfl rfl ?_
        refine z_getM (N := 6) (v := g0) 9 3 rfl f_9_22 rfl J rfl z0 ?_
        refine x_iloadn (x := l3) rfl rfl ?_
        refine z_iadd rfl rfl rfl (by omega) (fun v10 ev10 => ?_)
        refine z_iald (N := 400) rfl J rfl sg_69_0_400_1_0_1 rfl (by omega) (fun v11 qv11 ev11 => ?_)
        try rw [vrd qv11 (show (g0.toInt + l3.toInt) = v10.toInt from by omega)] at D
        refine x_goto (tgt := 32) rfl rfl ?_
        refine x_iret rfl rfl ?_
        show jX m_X5_readName 3 0 0 114 [(0, .ref 70), (1, .int l1), (2, .int l2), (3, .int l3)] [.int v11, .int v5, .ref 71] _ 0 0 _
        refine z_iast (N := 84) (l := 0) (u := 84) (w := v11.toInt) rfl hD J Sm rfl rfl rfl (by omega) rfl (wr_71 (fun q1 q2 q3 q4 => by omega) (fun q1 q2 q3 q4 => by omega) (fun q1 q2 q3 q4 => by omega) (fun q1 q2 q3 q4 => by omega)) rfl (fun h w12 J Sm => ?_)
        rw [vww w12 (show ((l1.toInt + 2) + l3.toInt) = v5.toInt from by omega) (show v11.toInt = v11.toInt from by omega)] at D
        refine z_iinc (x := l3) (lsx9 := fun v13 => [(3, .int v13), (0, .ref 70), (1, .int l1), (2, .int l2)]) rfl rfl rfl jko_1 (by omega) rfl (fun _ => rfl) (fun v13 ev13 => ?_)
        refine x_goto (tgt := 92) rfl rfl ?_
        try rw [show (l3.toInt + 1) = v13.toInt from by omega] at D
        exact jX.sub (jsb_c rfl (jsb_c rfl (jsb_c rfl (jsb_c rfl jsb_n)))) (ih l1 l2 v13 g0 g1 g2 h (by omega) (jr_of rfl (by omega)) (jr_mod rfl (by omega)) (jr_of rfl (by omega)) (jr_of rfl (by omega)) (jr_of rfl (by omega)) (jr_of rfl (by omega)) (jr_of rfl (by omega)) (by omega) (jmo w12 rfl z0) (jmo w12 rfl z1) (jmo w12 rfl z2) J Sm D)
set_option maxRecDepth 100000 in
set_option maxHeartbeats 4000000 in
theorem sf_X5_readName_r70d {Dy : jH → Prop} {h : jH} {Q : Option Value → jH → Prop} {dr : (Int × jW)} {a1 : Int32} (y1 : 0 ≤ a1.toInt ∧ a1.toInt ≤ 70) (ym1 : a1.toInt % 14 = 0) (hD : jDk Dy) (J : jJ jSgX Dy h) {p0 p1 : Int32} (zp0 : jiv h 68 5 = p0) (zp1 : jiv h 68 3 = p1) (rl_p0 : (p0.toInt ≠ 3 ∨ p1.toInt ≤ 399)) (D : d_X5_readName_r70d a1.toInt (vw h) = dr) (hQ : ∀ (v : Int32) hx9, 0 ≤ v.toInt ∧ v.toInt ≤ 1 → jJ jSgX Dy hx9 → jSm fp_X5_readName_r70d h hx9 → ∀ u0 u1 : Int32, jiv hx9 68 5 = u0 → jiv hx9 68 3 = u1 → (u0.toInt ≠ 3 ∨ u1.toInt ≤ 399) → dr.1 = v.toInt → dr.2 = vw hx9 → Q (some (.int v)) hx9) : jC m_X5_readName 3 0 0 [.ref 70, .int a1] h Q := by
  refine jC.of rfl k_X5_readName rfl ?_
  have Sm := jSm_rf fp_X5_readName_r70d h
  have ep0 := (show 0 ≤ p0.toInt ∧ p0.toInt ≤ 3 from zp0 ▸ jrg_f J sg_68_5_6_1_0_1)
  have ep1 := (show 0 ≤ p1.toInt ∧ p1.toInt ≤ 400 from zp1 ▸ jrg_f J sg_68_3_4_1_0_1)
  show jX m_X5_readName 3 0 0 0 [(0, .ref 70), (1, .int a1)] [] _ 0 0 _
  unfold d_X5_readName_r70d at D
  try rw [vrf zp0] at D
  try rw [vrf zp1] at D
  refine x_aloadn (x := 70) rfl rfl ?_
  refine z_getR (N := 9) (b := 68) 5 1 rfl f_5_39 rfl J rfl 8961 ⟨rfl, rfl⟩ rfl ?_
  refine x_inv (N := m_X9_isEnd) (As := []) (b := 68) (st := []) (dx9 := 2) (mc := 0) (ms := 0) (host := "") 9 rfl t_X9_isEnd ⟨Or.inl q_5_60, i_X9_isEnd.1, i_X9_isEnd.2⟩ ⟨by decide, rfl⟩ (congrArg Prod.fst (J.1.1 68 (9, 6) rfl)) rfl (by decide) rfl rfl ⟨by decide, by decide⟩ (jC.of rfl k_X9_isEnd rfl ?_)
  show jX m_X9_isEnd 2 0 0 0 [(0, .ref 68)] [] _ 0 0 _
  refine x_aloadn (x := 68) rfl rfl ?_
  refine z_getM (N := 6) (v := p0) 9 5 rfl f_9_28 rfl J rfl zp0 ?_
  refine x_ifne (tgt := 11) rfl rfl (ti_ne rfl jk_0 ⟨fun c1 => ?_, fun c1 => ?_⟩)
  ·
    rw [if_neg (by omega)] at D
    refine x_iconst (v := 0) rfl ki_0 ?_
    refine x_zret rfl rfl (by decide) ?_
    show jX m_X5_readName 3 0 0 7 [(0, .ref 70), (1, .int a1)] [.int 0] _ 0 0 _
    refine x_ifeq (tgt := 12) rfl rfl (ti_eq jk_0 jk_0 (br_t (by omega) ?_))
    refine x_aloadn (x := 70) rfl rfl ?_
    refine z_getR (N := 9) (b := 68) 5 1 rfl f_5_39 rfl J rfl 8961 ⟨rfl, rfl⟩ rfl ?_
    refine x_bipush (v := 63) rfl kb_63 ?_
    refine x_inv (N := m_X9_isSign) (As := [.int 63]) (b := 68) (st := []) (dx9 := 1) (mc := 0) (ms := 0) (host := "") 9 rfl t_X9_isSign ⟨Or.inl q_5_48, i_X9_isSign.1, i_X9_isSign.2⟩ ⟨by decide, rfl⟩ (congrArg Prod.fst (J.1.1 68 (9, 6) rfl)) rfl (by decide) rfl rfl ⟨by decide, by decide⟩ (sf_X9_isSign_r68d (jr_of jk_63 (by omega)) hD J zp0 zp1 (by omega) rfl  (fun v7 h ev7 J S2 u3 u4 qu3 qu4 ru3 X5 X6 => ?_))
    have Sm := jSm_tr rfl Sm S2
    try rw [jk_63] at X5
    try rw [X5] at D
    try rw [← X6] at D
    have eu3 := (show 0 ≤ u3.toInt ∧ u3.toInt ≤ 3 from qu3 ▸ jrg_f J sg_68_5_6_1_0_1)
    have Luu3 := congrArg Int32.toInt (((jmc S2 rfl zp0)).symm.trans qu3)
    try rw [Luu3] at D
    try rw [vrf qu3] at D
    have eu4 := (show 0 ≤ u4.toInt ∧ u4.toInt ≤ 400 from qu4 ▸ jrg_f J sg_68_3_4_1_0_1)
    have Luu4 := congrArg Int32.toInt (((jmc S2 rfl zp1)).symm.trans qu4)
    try rw [Luu4] at D
    try rw [vrf qu4] at D
    show jX m_X5_readName 3 0 0 21 [(0, .ref 70), (1, .int a1)] [.int v7] _ 0 0 _
    refine x_ifeq (tgt := 33) rfl rfl (ti_eq rfl jk_0 ⟨fun c8 => ?_, fun c8 => ?_⟩)
    ·
      rw [if_pos (by omega)] at D
      refine x_aloadn (x := 70) rfl rfl ?_
      refine z_getR (N := 9) (b := 68) 5 1 rfl f_5_39 rfl J rfl 8961 ⟨rfl, rfl⟩ rfl ?_
      refine x_inv (N := m_X9_size) (As := []) (b := 68) (st := []) (dx9 := 2) (mc := 0) (ms := 0) (host := "") 9 rfl t_X9_size ⟨Or.inl q_5_73, i_X9_size.1, i_X9_size.2⟩ ⟨by decide, rfl⟩ (congrArg Prod.fst (J.1.1 68 (9, 6) rfl)) rfl (by decide) rfl rfl ⟨by decide, by decide⟩ (jC.of rfl k_X9_size rfl ?_)
      show jX m_X9_size 2 0 0 0 [(0, .ref 68)] [] _ 0 0 _
      refine x_aloadn (x := 68) rfl rfl ?_
      refine z_getI (N := 6) 9 4 rfl f_9_25 rfl J rfl sg_68_4_5_1_0_1 (fun v9 qv9 ev9 => ?_)
      try rw [vrf qv9] at D
      refine x_aloadn (x := 68) rfl rfl ?_
      refine z_getM (N := 6) (v := u4) 9 3 rfl f_9_22 rfl J rfl qu4 ?_
      refine z_isub rfl rfl rfl (by omega) (fun v10 ev10 => ?_)
      refine x_iret rfl rfl ?_
      show jX m_X5_readName 3 0 0 40 [(0, .ref 70), (1, .int a1)] [.int v10] _ 0 0 _
      refine x_istoren (lsx9 := [(2, .int v10), (0, .ref 70), (1, .int a1)]) rfl rfl rfl ?_
      refine x_aloadn (x := 70) rfl rfl ?_
      refine z_getR (N := 9) (b := 68) 5 1 rfl f_5_39 rfl J rfl 8961 ⟨rfl, rfl⟩ rfl ?_
      refine x_inv (N := m_X9_isLetters) (As := []) (b := 68) (st := []) (dx9 := 2) (mc := 0) (ms := 0) (host := "") 9 rfl t_X9_isLetters ⟨Or.inl q_5_76, i_X9_isLetters.1, i_X9_isLetters.2⟩ ⟨by decide, rfl⟩ (congrArg Prod.fst (J.1.1 68 (9, 6) rfl)) rfl (by decide) rfl rfl ⟨by decide, by decide⟩ (jC.of rfl k_X9_isLetters rfl ?_)
      show jX m_X9_isLetters 2 0 0 0 [(0, .ref 68)] [] _ 0 0 _
      refine x_aloadn (x := 68) rfl rfl ?_
      refine z_getM (N := 6) (v := u3) 9 5 rfl f_9_28 rfl J rfl qu3 ?_
      refine x_iconst (v := 1) rfl ki_1 ?_
      refine x_icne (tgt := 12) rfl rfl (ti_ne rfl jk_1 ⟨fun c11 => ?_, fun c11 => ?_⟩)
      ·
        rw [if_neg (by omega)] at D
        refine x_iconst (v := 0) rfl ki_0 ?_
        refine x_zret rfl rfl (by decide) ?_
        show jX m_X5_readName 3 0 0 48 [(2, .int v10), (0, .ref 70), (1, .int a1)] [.int 0] _ 0 0 _
        refine x_ifeq (tgt := 73) rfl rfl (ti_eq jk_0 jk_0 (br_t (by omega) ?_))
        exact jX.sub (jsb_c rfl jsb_n) (ct_X5_readName_r70d_73 hD hQ  u4 u3 h (jr_of rfl (by omega)) (jr_of rfl (by omega)) (by omega) qu4 qu3 J Sm D)
      ·
        rw [if_pos (by omega)] at D
        refine x_iconst (v := 1) rfl ki_1 ?_
        refine x_goto (tgt := 13) rfl rfl ?_
        refine x_zret rfl rfl (by decide) ?_
        show jX m_X5_readName 3 0 0 48 [(2, .int v10), (0, .ref 70), (1, .int a1)] [.int 1] _ 0 0 _
        refine x_ifeq (tgt := 73) rfl rfl (ti_eq jk_1 jk_0 (br_f (by omega) ?_))
        refine x_iloadn (x := v10) rfl rfl ?_
        refine x_bipush (v := 12) rfl kb_12 ?_
        refine x_icgt (tgt := 73) rfl rfl (ti_gt rfl jk_12 ⟨fun c12 => ?_, fun c12 => ?_⟩)
        ·
          rw [if_pos (by omega)] at D
          exact jX.sub (jsb_c rfl jsb_n) (ct_X5_readName_r70d_73 hD hQ  u4 u3 h (jr_of rfl (by omega)) (jr_of rfl (by omega)) (by omega) qu4 qu3 J Sm D)
        ·
          rw [if_neg (by omega)] at D
          refine x_iloadn (x := a1) rfl rfl ?_
          refine x_iflt (tgt := 73) rfl rfl (ti_lt rfl jk_0 (br_f (by omega) ?_))
          refine x_iloadn (x := a1) rfl rfl ?_
          refine x_aloadn (x := 70) rfl rfl ?_
          refine z_getR (N := 9) (b := 71) 5 2 rfl f_5_9 rfl J rfl 8962 ⟨rfl, rfl⟩ rfl ?_
          refine z_alen (N := 84) (v := 84) rfl J rfl rfl (by decide) ?_
          refine x_bipush (v := 14) rfl kb_14 ?_
          refine y_isub (v := 70) rfl (by decide) ?_
          refine x_icle (tgt := 81) rfl rfl (ti_le rfl jk_70 (br_t (by omega) ?_))
          refine x_aloadn (x := 70) rfl rfl ?_
          refine z_getR (N := 9) (b := 71) 5 2 rfl f_5_9 rfl J rfl 8962 ⟨rfl, rfl⟩ rfl ?_
          refine x_iloadn (x := a1) rfl rfl ?_
          refine x_iconst (v := 0) rfl ki_0 ?_
          refine z_iadd rfl rfl jk_0 (by omega) (fun v13 ev13 => ?_)
          refine x_iloadn (x := v10) rfl rfl ?_
          refine z_iast (N := 84) (l := 0) (u := 84) (w := v10.toInt) rfl hD J Sm rfl rfl rfl (by omega) rfl (wr_71 (fun q1 q2 q3 q4 => by omega) (fun q1 q2 q3 q4 => by omega) (fun q1 q2 q3 q4 => by omega) (fun q1 q2 q3 q4 => by omega)) rfl (fun h w14 J Sm => ?_)
          rw [vww w14 (show (a1.toInt + 0) = v13.toInt from by omega) (show (v9.toInt - u4.toInt) = v10.toInt from by omega)] at D
          refine x_iconst (v := 0) rfl ki_0 ?_
          refine x_istoren (lsx9 := [(3, .int 0), (2, .int v10), (0, .ref 70), (1, .int a1)]) rfl rfl rfl ?_
          try rw [show (v9.toInt - u4.toInt) = v10.toInt from by omega] at D
          exact jX.sub (jsb_c rfl (jsb_c rfl (jsb_c rfl (jsb_c rfl jsb_n)))) (ct_X5_readName_r70d_92 hD hQ  13 a1 v10 0 u4 v9 u3 h (by have := jk_0; omega) (jr_of rfl (by omega)) (jr_mod rfl (by omega)) (jr_of rfl (by omega)) (jr_of jk_0 (by omega)) (jr_of rfl (by omega)) (jr_of rfl (by omega)) (jr_of rfl (by omega)) (by omega) (jmo w14 rfl qu4) (jmo w14 rfl qv9) (jmo w14 rfl qu3) J Sm (by rw [jk_0]; exact D))
    ·
      rw [if_neg (by omega)] at D
      refine x_aloadn (x := 70) rfl rfl ?_
      refine z_getR (N := 9) (b := 68) 5 1 rfl f_5_39 rfl J rfl 8961 ⟨rfl, rfl⟩ rfl ?_
      refine x_inv (N := m_X9_step) (As := []) (b := 68) (st := []) (dx9 := 2) (mc := 0) (ms := 0) (host := "") 9 rfl t_X9_step ⟨Or.inl q_5_67, i_X9_step.1, i_X9_step.2⟩ ⟨by decide, rfl⟩ (congrArg Prod.fst (J.1.1 68 (9, 6) rfl)) rfl (by decide) rfl rfl ⟨by decide, by decide⟩ (sf_X9_step_r68d  hD J qu3 qu4 (by omega) rfl  (fun h J S15 u16 u17 qu16 qu17 ru16 X18 => ?_))
      have Sm := jSm_tr rfl Sm S15
      rw [X18] at D
      have eu16 := (show 0 ≤ u16.toInt ∧ u16.toInt ≤ 3 from qu16 ▸ jrg_f J sg_68_5_6_1_0_1)
      try rw [vrf qu16] at D
      have eu17 := (show 0 ≤ u17.toInt ∧ u17.toInt ≤ 400 from qu17 ▸ jrg_f J sg_68_3_4_1_0_1)
      try rw [vrf qu17] at D
      show jX m_X5_readName 3 0 0 31 [(0, .ref 70), (1, .int a1)] [] _ 0 0 _
      refine x_iconst (v := 1) rfl ki_1 ?_
      refine x_zret rfl rfl (by decide) ?_
      exact hQ _ _ (jr_of jk_1 (by omega)) J Sm _ _ qu16 qu17 (by omega) ((congrArg Prod.fst D).symm.trans (show 1 = (1 : Int32).toInt from by have := jk_1; omega)) (congrArg Prod.snd D).symm
  ·
    rw [if_pos (by omega)] at D
    refine x_iconst (v := 1) rfl ki_1 ?_
    refine x_goto (tgt := 12) rfl rfl ?_
    refine x_zret rfl rfl (by decide) ?_
    show jX m_X5_readName 3 0 0 7 [(0, .ref 70), (1, .int a1)] [.int 1] _ 0 0 _
    refine x_ifeq (tgt := 12) rfl rfl (ti_eq jk_1 jk_0 (br_f (by omega) ?_))
    refine x_iconst (v := 1) rfl ki_1 ?_
    refine x_zret rfl rfl (by decide) ?_
    exact hQ _ _ (jr_of jk_1 (by omega)) J Sm _ _ zp0 zp1 (by omega) ((congrArg Prod.fst D).symm.trans (show 1 = (1 : Int32).toInt from by have := jk_1; omega)) (congrArg Prod.snd D).symm
def fp_X5_readLine_r70d : jFp := [(68, 2, 3), (68, 3, 4), (68, 4, 5), (68, 5, 6), (71, 0, 84)]
set_option maxRecDepth 100000 in
set_option maxHeartbeats 4000000 in
theorem ct_X5_readLine_r70d_113 {Dy : jH → Prop} {h0 : jH} {Q : Option Value → jH → Prop} {dr : (Int × jW)} (hD : jDk Dy) (hQ : ∀ (v : Int32) hx9, (-1) ≤ v.toInt ∧ v.toInt ≤ 1 → jJ jSgX Dy hx9 → jSm fp_X5_readLine_r70d h0 hx9 → ∀ u0 u1 : Int32, jiv hx9 68 5 = u0 → jiv hx9 68 3 = u1 → (u0.toInt ≠ 3 ∨ u1.toInt ≤ 399) → dr.1 = v.toInt → dr.2 = vw hx9 → Q (some (.int v)) hx9) : ∀ (g0 : Int32) (g1 : Int32) (h : jH), 0 ≤ g0.toInt ∧ g0.toInt ≤ 400 → 0 ≤ g1.toInt ∧ g1.toInt ≤ 3 → (g1.toInt ≠ 3 ∨ g0.toInt ≤ 399) → jiv h 68 3 = g0 → jiv h 68 5 = g1 → jJ jSgX Dy h → jSm fp_X5_readLine_r70d h0 h → d_X5_readLine_r70d_113  (vw h) = dr → jX m_X5_readLine 5 0 0 113 [(0, .ref 70)] [] h 0 0 Q := by
  intro g0 g1 h y0 y1 y2 z0 z1  J Sm D
  unfold d_X5_readLine_r70d_113 at D
  try rw [vrf z0] at D
  try rw [vrf z1] at D
  refine x_aloadn (x := 70) rfl rfl ?_
  refine z_getR (N := 9) (b := 68) 5 1 rfl f_5_39 rfl J rfl 8961 ⟨rfl, rfl⟩ rfl ?_
  refine x_inv (N := m_X9_blame) (As := []) (b := 68) (st := []) (dx9 := 4) (mc := 0) (ms := 0) (host := "") 9 rfl t_X9_blame ⟨Or.inl q_5_64, i_X9_blame.1, i_X9_blame.2⟩ ⟨by decide, rfl⟩ (congrArg Prod.fst (J.1.1 68 (9, 6) rfl)) rfl (by decide) rfl rfl ⟨by decide, by decide⟩ (jC.of rfl k_X9_blame rfl ?_)
  show jX m_X9_blame 4 0 0 0 [(0, .ref 68)] [] _ 0 0 _
  refine x_aloadn (x := 68) rfl rfl ?_
  refine x_aloadn (x := 68) rfl rfl ?_
  refine z_getM (N := 6) (v := g0) 9 3 rfl f_9_22 rfl J rfl z0 ?_
  refine z_putI (N := 6) (w := g0.toInt) 9 2 rfl f_9_19 rfl (jfin_no TX9 RX9 6 rfl rfl) hD J Sm rfl rfl rfl (pw_68_2 (by omega)) rfl (fun h w1 J Sm => ?_)
  rw [vwf w1 (show g0.toInt = g0.toInt from by omega)] at D
  refine x_iconst (v := 0) rfl ki_0 ?_
  refine x_zret rfl rfl (by decide) ?_
  show jX m_X5_readLine 5 0 0 120 [(0, .ref 70)] [.int 0] _ 0 0 _
  refine x_pop rfl rfl ?_
  refine x_iconst (v := (-1)) rfl ki_m1 ?_
  refine x_iret rfl rfl ?_
  exact hQ _ _ (jr_of jk_m1 (by omega)) J Sm _ _ (jmo w1 rfl z1) (jmo w1 rfl z0) (by omega) ((congrArg Prod.fst D).symm.trans (show (-1) = ((-1) : Int32).toInt from by have := jk_m1; omega)) (congrArg Prod.snd D).symm
set_option maxRecDepth 100000 in
set_option maxHeartbeats 4000000 in
theorem ct_X5_readLine_r70d_50 {Dy : jH → Prop} {h0 : jH} {Q : Option Value → jH → Prop} {dr : (Int × jW)} (hD : jDk Dy) (hQ : ∀ (v : Int32) hx9, (-1) ≤ v.toInt ∧ v.toInt ≤ 1 → jJ jSgX Dy hx9 → jSm fp_X5_readLine_r70d h0 hx9 → ∀ u0 u1 : Int32, jiv hx9 68 5 = u0 → jiv hx9 68 3 = u1 → (u0.toInt ≠ 3 ∨ u1.toInt ≤ 399) → dr.1 = v.toInt → dr.2 = vw hx9 → Q (some (.int v)) hx9) : ∀ r : Nat, ∀ (l1 : Int32) (l2 : Int32) (g0 : Int32) (g1 : Int32) (h : jH), 2 - l2.toInt < (r : Int) → 1 ≤ l1.toInt ∧ l1.toInt ≤ 3 → 0 ≤ l2.toInt ∧ l2.toInt ≤ 2 → 0 ≤ g0.toInt ∧ g0.toInt ≤ 400 → 0 ≤ g1.toInt ∧ g1.toInt ≤ 3 → (g1.toInt ≠ 3 ∨ g0.toInt ≤ 399) → jiv h 68 3 = g0 → jiv h 68 5 = g1 → jJ jSgX Dy h → jSm fp_X5_readLine_r70d h0 h → d_X5_readLine_r70d_50 r l1.toInt l2.toInt (vw h) = dr → jX m_X5_readLine 5 0 0 50 [(0, .ref 70), (1, .int l1), (2, .int l2)] [] h 0 0 Q := by
  intro r
  induction r with
  | zero =>
    intro l1 l2 g0 g1 h hm y0 y1 y2 y3 y4 z0 z1  J Sm D
    exfalso
    omega
  | succ r ih =>
    intro l1 l2 g0 g1 h hm y0 y1 y2 y3 y4 z0 z1  J Sm D
    rw [d_X5_readLine_r70d_50.eq_2] at D
    try rw [vrf z0] at D
    try rw [vrf z1] at D
    refine x_iloadn (x := l2) rfl rfl ?_
    refine x_iloadn (x := l1) rfl rfl ?_
    refine x_icge (tgt := 136) rfl rfl (ti_ge rfl rfl ⟨fun c1 => ?_, fun c1 => ?_⟩)
    ·
      rw [if_pos (by omega)] at D
      refine x_iconst (v := (-1)) rfl ki_m1 ?_
      refine x_iret rfl rfl ?_
      exact hQ _ _ (jr_of jk_m1 (by omega)) J Sm _ _ z1 z0 (by omega) ((congrArg Prod.fst D).symm.trans (show (-1) = ((-1) : Int32).toInt from by have := jk_m1; omega)) (congrArg Prod.snd D).symm
    ·
      rw [if_neg (by omega)] at D
      refine x_aloadn (x := 70) rfl rfl ?_
      refine x_iloadn (x := l2) rfl rfl ?_
      refine x_inv (N := m_X5_readRole) (As := [.int l2]) (b := 70) (st := []) (dx9 := 4) (mc := 0) (ms := 0) (host := "") 5 rfl t_X5_readRole ⟨Or.inl q_5_56, i_X5_readRole.1, i_X5_readRole.2⟩ ⟨by decide, rfl⟩ (congrArg Prod.fst (J.1.1 70 (5, 9) rfl)) rfl (by decide) rfl rfl ⟨by decide, by decide⟩ (jC.of rfl k_X5_readRole rfl ?_)
      show jX m_X5_readRole 4 0 0 0 [(0, .ref 70), (1, .int l2)] [] _ 0 0 _
      refine x_aloadn (x := 70) rfl rfl ?_
      refine z_getR (N := 9) (b := 68) 5 1 rfl f_5_39 rfl J rfl 8961 ⟨rfl, rfl⟩ rfl ?_
      refine x_bipush (v := 63) rfl kb_63 ?_
      refine x_inv (N := m_X9_isSign) (As := [.int 63]) (b := 68) (st := []) (dx9 := 1) (mc := 0) (ms := 0) (host := "") 9 rfl t_X9_isSign ⟨Or.inl q_5_48, i_X9_isSign.1, i_X9_isSign.2⟩ ⟨by decide, rfl⟩ (congrArg Prod.fst (J.1.1 68 (9, 6) rfl)) rfl (by decide) rfl rfl ⟨by decide, by decide⟩ (sf_X9_isSign_r68d (jr_of jk_63 (by omega)) hD J z1 z0 (by omega) rfl  (fun v7 h ev7 J S2 u3 u4 qu3 qu4 ru3 X5 X6 => ?_))
      have Sm := jSm_tr rfl Sm S2
      try rw [jk_63] at X5
      try rw [X5] at D
      try rw [← X6] at D
      have eu3 := (show 0 ≤ u3.toInt ∧ u3.toInt ≤ 3 from qu3 ▸ jrg_f J sg_68_5_6_1_0_1)
      have Luu3 := congrArg Int32.toInt (((jmc S2 rfl z1)).symm.trans qu3)
      try rw [Luu3] at D
      try rw [vrf qu3] at D
      have eu4 := (show 0 ≤ u4.toInt ∧ u4.toInt ≤ 400 from qu4 ▸ jrg_f J sg_68_3_4_1_0_1)
      have Luu4 := congrArg Int32.toInt (((jmc S2 rfl z0)).symm.trans qu4)
      try rw [Luu4] at D
      try rw [vrf qu4] at D
      show jX m_X5_readRole 4 0 0 9 [(0, .ref 70), (1, .int l2)] [.int v7] _ 0 0 _
      refine x_istoren (lsx9 := [(2, .int v7), (0, .ref 70), (1, .int l2)]) rfl rfl rfl ?_
      refine x_aloadn (x := 70) rfl rfl ?_
      refine x_iloadn (x := l2) rfl rfl ?_
      refine x_iconst (v := 2) rfl ki_2 ?_
      refine z_imul rfl rfl jk_2 (by omega) (fun v8 ev8 => ?_)
      refine x_bipush (v := 14) rfl kb_14 ?_
      refine z_imul rfl rfl jk_14 (by omega) (fun v9 ev9 => ?_)
      try rw [show ((l2.toInt * 2) * 14) = v9.toInt from by omega] at D
      refine x_inv (N := m_X5_readName) (As := [.int v9]) (b := 70) (st := []) (dx9 := 3) (mc := 0) (ms := 0) (host := "") 5 rfl t_X5_readName ⟨Or.inl q_5_70, i_X5_readName.1, i_X5_readName.2⟩ ⟨by decide, rfl⟩ (congrArg Prod.fst (J.1.1 70 (5, 9) rfl)) rfl (by decide) rfl rfl ⟨by decide, by decide⟩ (sf_X5_readName_r70d (jr_of rfl (by omega)) (jr_mod rfl (by omega)) hD J qu3 qu4 (by omega) rfl  (fun v15 h ev15 J S10 u11 u12 qu11 qu12 ru11 X13 X14 => ?_))
      have Sm := jSm_tr rfl Sm S10
      try rw [X13] at D
      try rw [X14] at D
      have eu11 := (show 0 ≤ u11.toInt ∧ u11.toInt ≤ 3 from qu11 ▸ jrg_f J sg_68_5_6_1_0_1)
      try rw [vrf qu11] at D
      have eu12 := (show 0 ≤ u12.toInt ∧ u12.toInt ≤ 400 from qu12 ▸ jrg_f J sg_68_3_4_1_0_1)
      try rw [vrf qu12] at D
      show jX m_X5_readRole 4 0 0 20 [(2, .int v7), (0, .ref 70), (1, .int l2)] [.int v15] _ 0 0 _
      refine x_ifne (tgt := 25) rfl rfl (ti_ne rfl jk_0 ⟨fun c16 => ?_, fun c16 => ?_⟩)
      ·
        rw [if_neg (by omega)] at D
        refine x_iloadn (x := v7) rfl rfl ?_
        refine x_ifeq (tgt := 55) rfl rfl (ti_eq rfl jk_0 ⟨fun c17 => ?_, fun c17 => ?_⟩)
        ·
          rw [if_pos (by omega)] at D
          refine x_aloadn (x := 70) rfl rfl ?_
          refine x_iloadn (x := l2) rfl rfl ?_
          refine x_iconst (v := 2) rfl ki_2 ?_
          refine z_imul rfl rfl jk_2 (by omega) (fun v18 ev18 => ?_)
          refine x_iconst (v := 1) rfl ki_1 ?_
          refine z_iadd rfl rfl jk_1 (by omega) (fun v19 ev19 => ?_)
          refine x_bipush (v := 14) rfl kb_14 ?_
          refine z_imul rfl rfl jk_14 (by omega) (fun v20 ev20 => ?_)
          try rw [show (((l2.toInt * 2) + 1) * 14) = v20.toInt from by omega] at D
          refine x_inv (N := m_X5_readName) (As := [.int v20]) (b := 70) (st := []) (dx9 := 3) (mc := 0) (ms := 0) (host := "") 5 rfl t_X5_readName ⟨Or.inl q_5_70, i_X5_readName.1, i_X5_readName.2⟩ ⟨by decide, rfl⟩ (congrArg Prod.fst (J.1.1 70 (5, 9) rfl)) rfl (by decide) rfl rfl ⟨by decide, by decide⟩ (sf_X5_readName_r70d (jr_of rfl (by omega)) (jr_mod rfl (by omega)) hD J qu11 qu12 (by omega) rfl  (fun v26 h ev26 J S21 u22 u23 qu22 qu23 ru22 X24 X25 => ?_))
          have Sm := jSm_tr rfl Sm S21
          try rw [X24] at D
          try rw [X25] at D
          have eu22 := (show 0 ≤ u22.toInt ∧ u22.toInt ≤ 3 from qu22 ▸ jrg_f J sg_68_5_6_1_0_1)
          try rw [vrf qu22] at D
          have eu23 := (show 0 ≤ u23.toInt ∧ u23.toInt ≤ 400 from qu23 ▸ jrg_f J sg_68_3_4_1_0_1)
          try rw [vrf qu23] at D
          show jX m_X5_readRole 4 0 0 67 [(2, .int v7), (0, .ref 70), (1, .int l2)] [.int v26] _ 0 0 _
          refine x_zret rfl rfl (jz01 (by omega)) ?_
          show jX m_X5_readLine 5 0 0 60 [(0, .ref 70), (1, .int l1), (2, .int l2)] [.int v26] _ 0 0 _
          refine x_ifne (tgt := 65) rfl rfl (ti_ne rfl jk_0 ⟨fun c27 => ?_, fun c27 => ?_⟩)
          ·
            rw [if_neg (by omega)] at D
            refine x_aloadn (x := 70) rfl rfl ?_
            refine z_getR (N := 9) (b := 68) 5 1 rfl f_5_39 rfl J rfl 8961 ⟨rfl, rfl⟩ rfl ?_
            refine x_inv (N := m_X9_isEnd) (As := []) (b := 68) (st := []) (dx9 := 4) (mc := 0) (ms := 0) (host := "") 9 rfl t_X9_isEnd ⟨Or.inl q_5_60, i_X9_isEnd.1, i_X9_isEnd.2⟩ ⟨by decide, rfl⟩ (congrArg Prod.fst (J.1.1 68 (9, 6) rfl)) rfl (by decide) rfl rfl ⟨by decide, by decide⟩ (jC.of rfl k_X9_isEnd rfl ?_)
            show jX m_X9_isEnd 4 0 0 0 [(0, .ref 68)] [] _ 0 0 _
            refine x_aloadn (x := 68) rfl rfl ?_
            refine z_getM (N := 6) (v := u22) 9 5 rfl f_9_28 rfl J rfl qu22 ?_
            refine x_ifne (tgt := 11) rfl rfl (ti_ne rfl jk_0 ⟨fun c28 => ?_, fun c28 => ?_⟩)
            ·
              rw [if_neg (by omega)] at D
              refine x_iconst (v := 0) rfl ki_0 ?_
              refine x_zret rfl rfl (by decide) ?_
              show jX m_X5_readLine 5 0 0 72 [(0, .ref 70), (1, .int l1), (2, .int l2)] [.int 0] _ 0 0 _
              refine x_ifeq (tgt := 77) rfl rfl (ti_eq jk_0 jk_0 (br_t (by omega) ?_))
              refine x_aloadn (x := 70) rfl rfl ?_
              refine z_getR (N := 9) (b := 68) 5 1 rfl f_5_39 rfl J rfl 8961 ⟨rfl, rfl⟩ rfl ?_
              refine x_bipush (v := 46) rfl kb_46 ?_
              refine x_inv (N := m_X9_isSign) (As := [.int 46]) (b := 68) (st := []) (dx9 := 1) (mc := 0) (ms := 0) (host := "") 9 rfl t_X9_isSign ⟨Or.inl q_5_48, i_X9_isSign.1, i_X9_isSign.2⟩ ⟨by decide, rfl⟩ (congrArg Prod.fst (J.1.1 68 (9, 6) rfl)) rfl (by decide) rfl rfl ⟨by decide, by decide⟩ (sf_X9_isSign_r68d (jr_of jk_46 (by omega)) hD J qu22 qu23 (by omega) rfl  (fun v34 h ev34 J S29 u30 u31 qu30 qu31 ru30 X32 X33 => ?_))
              have Sm := jSm_tr rfl Sm S29
              try rw [jk_46] at X32
              try rw [X32] at D
              try rw [← X33] at D
              have eu30 := (show 0 ≤ u30.toInt ∧ u30.toInt ≤ 3 from qu30 ▸ jrg_f J sg_68_5_6_1_0_1)
              have Luu30 := congrArg Int32.toInt (((jmc S29 rfl qu22)).symm.trans qu30)
              try rw [Luu30] at D
              try rw [vrf qu30] at D
              have eu31 := (show 0 ≤ u31.toInt ∧ u31.toInt ≤ 400 from qu31 ▸ jrg_f J sg_68_3_4_1_0_1)
              have Luu31 := congrArg Int32.toInt (((jmc S29 rfl qu23)).symm.trans qu31)
              try rw [Luu31] at D
              try rw [vrf qu31] at D
              show jX m_X5_readLine 5 0 0 86 [(0, .ref 70), (1, .int l1), (2, .int l2)] [.int v34] _ 0 0 _
              refine x_ifeq (tgt := 94) rfl rfl (ti_eq rfl jk_0 ⟨fun c35 => ?_, fun c35 => ?_⟩)
              ·
                rw [if_pos (by omega)] at D
                refine x_aloadn (x := 70) rfl rfl ?_
                refine z_getR (N := 9) (b := 68) 5 1 rfl f_5_39 rfl J rfl 8961 ⟨rfl, rfl⟩ rfl ?_
                refine x_bipush (v := 44) rfl kb_44 ?_
                refine x_inv (N := m_X9_isSign) (As := [.int 44]) (b := 68) (st := []) (dx9 := 1) (mc := 0) (ms := 0) (host := "") 9 rfl t_X9_isSign ⟨Or.inl q_5_48, i_X9_isSign.1, i_X9_isSign.2⟩ ⟨by decide, rfl⟩ (congrArg Prod.fst (J.1.1 68 (9, 6) rfl)) rfl (by decide) rfl rfl ⟨by decide, by decide⟩ (sf_X9_isSign_r68d (jr_of jk_44 (by omega)) hD J qu30 qu31 (by omega) rfl  (fun v41 h ev41 J S36 u37 u38 qu37 qu38 ru37 X39 X40 => ?_))
                have Sm := jSm_tr rfl Sm S36
                try rw [jk_44] at X39
                try rw [X39] at D
                try rw [← X40] at D
                have eu37 := (show 0 ≤ u37.toInt ∧ u37.toInt ≤ 3 from qu37 ▸ jrg_f J sg_68_5_6_1_0_1)
                have Luu37 := congrArg Int32.toInt (((jmc S36 rfl qu30)).symm.trans qu37)
                try rw [Luu37] at D
                try rw [vrf qu37] at D
                have eu38 := (show 0 ≤ u38.toInt ∧ u38.toInt ≤ 400 from qu38 ▸ jrg_f J sg_68_3_4_1_0_1)
                have Luu38 := congrArg Int32.toInt (((jmc S36 rfl qu31)).symm.trans qu38)
                try rw [Luu38] at D
                try rw [vrf qu38] at D
                show jX m_X5_readLine 5 0 0 103 [(0, .ref 70), (1, .int l1), (2, .int l2)] [.int v41] _ 0 0 _
                refine x_ifeq (tgt := 113) rfl rfl (ti_eq rfl jk_0 ⟨fun c42 => ?_, fun c42 => ?_⟩)
                ·
                  rw [if_pos (by omega)] at D
                  exact jX.sub (jsb_c rfl jsb_n) (ct_X5_readLine_r70d_113 hD hQ  u38 u37 h (jr_of rfl (by omega)) (jr_of rfl (by omega)) (by omega) qu38 qu37 J Sm D)
                ·
                  rw [if_neg (by omega)] at D
                  refine x_iloadn (x := l2) rfl rfl ?_
                  refine x_iconst (v := 1) rfl ki_1 ?_
                  refine z_iadd rfl rfl jk_1 (by omega) (fun v43 ev43 => ?_)
                  refine x_iloadn (x := l1) rfl rfl ?_
                  refine x_iclt (tgt := 123) rfl rfl (ti_lt rfl rfl ⟨fun c44 => ?_, fun c44 => ?_⟩)
                  ·
                    rw [if_pos (by omega)] at D
                    refine x_aloadn (x := 70) rfl rfl ?_
                    refine z_getR (N := 9) (b := 68) 5 1 rfl f_5_39 rfl J rfl 8961 ⟨rfl, rfl⟩ rfl ?_
                    refine x_inv (N := m_X9_step) (As := []) (b := 68) (st := []) (dx9 := 2) (mc := 0) (ms := 0) (host := "") 9 rfl t_X9_step ⟨Or.inl q_5_67, i_X9_step.1, i_X9_step.2⟩ ⟨by decide, rfl⟩ (congrArg Prod.fst (J.1.1 68 (9, 6) rfl)) rfl (by decide) rfl rfl ⟨by decide, by decide⟩ (sf_X9_step_r68d  hD J qu37 qu38 (by omega) rfl  (fun h J S45 u46 u47 qu46 qu47 ru46 X48 => ?_))
                    have Sm := jSm_tr rfl Sm S45
                    rw [X48] at D
                    have eu46 := (show 0 ≤ u46.toInt ∧ u46.toInt ≤ 3 from qu46 ▸ jrg_f J sg_68_5_6_1_0_1)
                    try rw [vrf qu46] at D
                    have eu47 := (show 0 ≤ u47.toInt ∧ u47.toInt ≤ 400 from qu47 ▸ jrg_f J sg_68_3_4_1_0_1)
                    try rw [vrf qu47] at D
                    show jX m_X5_readLine 5 0 0 130 [(0, .ref 70), (1, .int l1), (2, .int l2)] [] _ 0 0 _
                    refine z_iinc (x := l2) (lsx9 := fun v49 => [(2, .int v49), (0, .ref 70), (1, .int l1)]) rfl rfl rfl jko_1 (by omega) rfl (fun _ => rfl) (fun v49 ev49 => ?_)
                    refine x_goto (tgt := 50) rfl rfl ?_
                    try rw [show (l2.toInt + 1) = v49.toInt from by omega] at D
                    exact jX.sub (jsb_c rfl (jsb_c rfl (jsb_c rfl jsb_n))) (ih l1 v49 u47 u46 h (by omega) (jr_of rfl (by omega)) (jr_of rfl (by omega)) (jr_of rfl (by omega)) (jr_of rfl (by omega)) (by omega) qu47 qu46 J Sm D)
                  ·
                    rw [if_neg (by omega)] at D
                    exact jX.sub (jsb_c rfl jsb_n) (ct_X5_readLine_r70d_113 hD hQ  u38 u37 h (jr_of rfl (by omega)) (jr_of rfl (by omega)) (by omega) qu38 qu37 J Sm D)
              ·
                rw [if_neg (by omega)] at D
                refine x_aloadn (x := 70) rfl rfl ?_
                refine x_inv (N := m_X5_readStop) (As := []) (b := 70) (st := []) (dx9 := 4) (mc := 0) (ms := 0) (host := "") 5 rfl t_X5_readStop ⟨Or.inl q_5_52, i_X5_readStop.1, i_X5_readStop.2⟩ ⟨by decide, rfl⟩ (congrArg Prod.fst (J.1.1 70 (5, 9) rfl)) rfl (by decide) rfl rfl ⟨by decide, by decide⟩ (jC.of rfl k_X5_readStop rfl ?_)
                show jX m_X5_readStop 4 0 0 0 [(0, .ref 70)] [] _ 0 0 _
                refine x_aloadn (x := 70) rfl rfl ?_
                refine z_getR (N := 9) (b := 68) 5 1 rfl f_5_39 rfl J rfl 8961 ⟨rfl, rfl⟩ rfl ?_
                refine x_inv (N := m_X9_step) (As := []) (b := 68) (st := []) (dx9 := 2) (mc := 0) (ms := 0) (host := "") 9 rfl t_X9_step ⟨Or.inl q_5_67, i_X9_step.1, i_X9_step.2⟩ ⟨by decide, rfl⟩ (congrArg Prod.fst (J.1.1 68 (9, 6) rfl)) rfl (by decide) rfl rfl ⟨by decide, by decide⟩ (sf_X9_step_r68d  hD J qu30 qu31 (by omega) rfl  (fun h J S50 u51 u52 qu51 qu52 ru51 X53 => ?_))
                have Sm := jSm_tr rfl Sm S50
                rw [X53] at D
                have eu51 := (show 0 ≤ u51.toInt ∧ u51.toInt ≤ 3 from qu51 ▸ jrg_f J sg_68_5_6_1_0_1)
                try rw [vrf qu51] at D
                have eu52 := (show 0 ≤ u52.toInt ∧ u52.toInt ≤ 400 from qu52 ▸ jrg_f J sg_68_3_4_1_0_1)
                try rw [vrf qu52] at D
                show jX m_X5_readStop 4 0 0 7 [(0, .ref 70)] [] _ 0 0 _
                refine x_aloadn (x := 70) rfl rfl ?_
                refine z_getR (N := 9) (b := 68) 5 1 rfl f_5_39 rfl J rfl 8961 ⟨rfl, rfl⟩ rfl ?_
                refine x_inv (N := m_X9_isEnd) (As := []) (b := 68) (st := []) (dx9 := 3) (mc := 0) (ms := 0) (host := "") 9 rfl t_X9_isEnd ⟨Or.inl q_5_60, i_X9_isEnd.1, i_X9_isEnd.2⟩ ⟨by decide, rfl⟩ (congrArg Prod.fst (J.1.1 68 (9, 6) rfl)) rfl (by decide) rfl rfl ⟨by decide, by decide⟩ (jC.of rfl k_X9_isEnd rfl ?_)
                show jX m_X9_isEnd 3 0 0 0 [(0, .ref 68)] [] _ 0 0 _
                refine x_aloadn (x := 68) rfl rfl ?_
                refine z_getM (N := 6) (v := u51) 9 5 rfl f_9_28 rfl J rfl qu51 ?_
                refine x_ifne (tgt := 11) rfl rfl (ti_ne rfl jk_0 ⟨fun c54 => ?_, fun c54 => ?_⟩)
                ·
                  rw [if_neg (by omega)] at D
                  refine x_iconst (v := 0) rfl ki_0 ?_
                  refine x_zret rfl rfl (by decide) ?_
                  show jX m_X5_readStop 4 0 0 14 [(0, .ref 70)] [.int 0] _ 0 0 _
                  refine x_ifeq (tgt := 19) rfl rfl (ti_eq jk_0 jk_0 (br_t (by omega) ?_))
                  refine x_aloadn (x := 70) rfl rfl ?_
                  refine z_getR (N := 9) (b := 68) 5 1 rfl f_5_39 rfl J rfl 8961 ⟨rfl, rfl⟩ rfl ?_
                  refine x_inv (N := m_X9_blame) (As := []) (b := 68) (st := []) (dx9 := 3) (mc := 0) (ms := 0) (host := "") 9 rfl t_X9_blame ⟨Or.inl q_5_64, i_X9_blame.1, i_X9_blame.2⟩ ⟨by decide, rfl⟩ (congrArg Prod.fst (J.1.1 68 (9, 6) rfl)) rfl (by decide) rfl rfl ⟨by decide, by decide⟩ (jC.of rfl k_X9_blame rfl ?_)
                  show jX m_X9_blame 3 0 0 0 [(0, .ref 68)] [] _ 0 0 _
                  refine x_aloadn (x := 68) rfl rfl ?_
                  refine x_aloadn (x := 68) rfl rfl ?_
                  refine z_getM (N := 6) (v := u52) 9 3 rfl f_9_22 rfl J rfl qu52 ?_
                  refine z_putI (N := 6) (w := u52.toInt) 9 2 rfl f_9_19 rfl (jfin_no TX9 RX9 6 rfl rfl) hD J Sm rfl rfl rfl (pw_68_2 (by omega)) rfl (fun h w55 J Sm => ?_)
                  rw [vwf w55 (show u52.toInt = u52.toInt from by omega)] at D
                  refine x_iconst (v := 0) rfl ki_0 ?_
                  refine x_zret rfl rfl (by decide) ?_
                  show jX m_X5_readStop 4 0 0 26 [(0, .ref 70)] [.int 0] _ 0 0 _
                  refine x_pop rfl rfl ?_
                  refine x_iconst (v := (-1)) rfl ki_m1 ?_
                  refine x_iret rfl rfl ?_
                  show jX m_X5_readLine 5 0 0 93 [(0, .ref 70), (1, .int l1), (2, .int l2)] [.int (-1)] _ 0 0 _
                  refine x_iret rfl rfl ?_
                  exact hQ _ _ (jr_of jk_m1 (by omega)) J Sm _ _ (jmo w55 rfl qu51) (jmo w55 rfl qu52) (by omega) ((congrArg Prod.fst D).symm.trans (show (-1) = ((-1) : Int32).toInt from by have := jk_m1; omega)) (congrArg Prod.snd D).symm
                ·
                  rw [if_pos (by omega)] at D
                  refine x_iconst (v := 1) rfl ki_1 ?_
                  refine x_goto (tgt := 12) rfl rfl ?_
                  refine x_zret rfl rfl (by decide) ?_
                  show jX m_X5_readStop 4 0 0 14 [(0, .ref 70)] [.int 1] _ 0 0 _
                  refine x_ifeq (tgt := 19) rfl rfl (ti_eq jk_1 jk_0 (br_f (by omega) ?_))
                  refine x_iconst (v := 0) rfl ki_0 ?_
                  refine x_iret rfl rfl ?_
                  show jX m_X5_readLine 5 0 0 93 [(0, .ref 70), (1, .int l1), (2, .int l2)] [.int 0] _ 0 0 _
                  refine x_iret rfl rfl ?_
                  exact hQ _ _ (jr_of jk_0 (by omega)) J Sm _ _ qu51 qu52 (by omega) ((congrArg Prod.fst D).symm.trans (show 0 = (0 : Int32).toInt from by have := jk_0; omega)) (congrArg Prod.snd D).symm
            ·
              rw [if_pos (by omega)] at D
              refine x_iconst (v := 1) rfl ki_1 ?_
              refine x_goto (tgt := 12) rfl rfl ?_
              refine x_zret rfl rfl (by decide) ?_
              show jX m_X5_readLine 5 0 0 72 [(0, .ref 70), (1, .int l1), (2, .int l2)] [.int 1] _ 0 0 _
              refine x_ifeq (tgt := 77) rfl rfl (ti_eq jk_1 jk_0 (br_f (by omega) ?_))
              refine x_iconst (v := 1) rfl ki_1 ?_
              refine x_iret rfl rfl ?_
              exact hQ _ _ (jr_of jk_1 (by omega)) J Sm _ _ qu22 qu23 (by omega) ((congrArg Prod.fst D).symm.trans (show 1 = (1 : Int32).toInt from by have := jk_1; omega)) (congrArg Prod.snd D).symm
          ·
            rw [if_pos (by omega)] at D
            refine x_iconst (v := (-1)) rfl ki_m1 ?_
            refine x_iret rfl rfl ?_
            exact hQ _ _ (jr_of jk_m1 (by omega)) J Sm _ _ qu22 qu23 (by omega) ((congrArg Prod.fst D).symm.trans (show (-1) = ((-1) : Int32).toInt from by have := jk_m1; omega)) (congrArg Prod.snd D).symm
        ·
          rw [if_neg (by omega)] at D
          refine x_aloadn (x := 70) rfl rfl ?_
          refine z_getR (N := 9) (b := 68) 5 1 rfl f_5_39 rfl J rfl 8961 ⟨rfl, rfl⟩ rfl ?_
          refine x_bipush (v := 44) rfl kb_44 ?_
          refine x_inv (N := m_X9_isSign) (As := [.int 44]) (b := 68) (st := []) (dx9 := 1) (mc := 0) (ms := 0) (host := "") 9 rfl t_X9_isSign ⟨Or.inl q_5_48, i_X9_isSign.1, i_X9_isSign.2⟩ ⟨by decide, rfl⟩ (congrArg Prod.fst (J.1.1 68 (9, 6) rfl)) rfl (by decide) rfl rfl ⟨by decide, by decide⟩ (sf_X9_isSign_r68d (jr_of jk_44 (by omega)) hD J qu11 qu12 (by omega) rfl  (fun v61 h ev61 J S56 u57 u58 qu57 qu58 ru57 X59 X60 => ?_))
          have Sm := jSm_tr rfl Sm S56
          try rw [jk_44] at X59
          try rw [X59] at D
          try rw [← X60] at D
          have eu57 := (show 0 ≤ u57.toInt ∧ u57.toInt ≤ 3 from qu57 ▸ jrg_f J sg_68_5_6_1_0_1)
          have Luu57 := congrArg Int32.toInt (((jmc S56 rfl qu11)).symm.trans qu57)
          try rw [Luu57] at D
          try rw [vrf qu57] at D
          have eu58 := (show 0 ≤ u58.toInt ∧ u58.toInt ≤ 400 from qu58 ▸ jrg_f J sg_68_3_4_1_0_1)
          have Luu58 := congrArg Int32.toInt (((jmc S56 rfl qu12)).symm.trans qu58)
          try rw [Luu58] at D
          try rw [vrf qu58] at D
          show jX m_X5_readRole 4 0 0 38 [(2, .int v7), (0, .ref 70), (1, .int l2)] [.int v61] _ 0 0 _
          refine x_ifne (tgt := 53) rfl rfl (ti_ne rfl jk_0 ⟨fun c62 => ?_, fun c62 => ?_⟩)
          ·
            rw [if_neg (by omega)] at D
            refine x_iconst (v := 1) rfl ki_1 ?_
            refine x_zret rfl rfl (by decide) ?_
            show jX m_X5_readLine 5 0 0 60 [(0, .ref 70), (1, .int l1), (2, .int l2)] [.int 1] _ 0 0 _
            refine x_ifne (tgt := 65) rfl rfl (ti_ne jk_1 jk_0 (bn_t (by omega) ?_))
            refine x_aloadn (x := 70) rfl rfl ?_
            refine z_getR (N := 9) (b := 68) 5 1 rfl f_5_39 rfl J rfl 8961 ⟨rfl, rfl⟩ rfl ?_
            refine x_inv (N := m_X9_isEnd) (As := []) (b := 68) (st := []) (dx9 := 4) (mc := 0) (ms := 0) (host := "") 9 rfl t_X9_isEnd ⟨Or.inl q_5_60, i_X9_isEnd.1, i_X9_isEnd.2⟩ ⟨by decide, rfl⟩ (congrArg Prod.fst (J.1.1 68 (9, 6) rfl)) rfl (by decide) rfl rfl ⟨by decide, by decide⟩ (jC.of rfl k_X9_isEnd rfl ?_)
            show jX m_X9_isEnd 4 0 0 0 [(0, .ref 68)] [] _ 0 0 _
            refine x_aloadn (x := 68) rfl rfl ?_
            refine z_getM (N := 6) (v := u57) 9 5 rfl f_9_28 rfl J rfl qu57 ?_
            refine x_ifne (tgt := 11) rfl rfl (ti_ne rfl jk_0 ⟨fun c63 => ?_, fun c63 => ?_⟩)
            ·
              rw [if_neg (by omega)] at D
              refine x_iconst (v := 0) rfl ki_0 ?_
              refine x_zret rfl rfl (by decide) ?_
              show jX m_X5_readLine 5 0 0 72 [(0, .ref 70), (1, .int l1), (2, .int l2)] [.int 0] _ 0 0 _
              refine x_ifeq (tgt := 77) rfl rfl (ti_eq jk_0 jk_0 (br_t (by omega) ?_))
              refine x_aloadn (x := 70) rfl rfl ?_
              refine z_getR (N := 9) (b := 68) 5 1 rfl f_5_39 rfl J rfl 8961 ⟨rfl, rfl⟩ rfl ?_
              refine x_bipush (v := 46) rfl kb_46 ?_
              refine x_inv (N := m_X9_isSign) (As := [.int 46]) (b := 68) (st := []) (dx9 := 1) (mc := 0) (ms := 0) (host := "") 9 rfl t_X9_isSign ⟨Or.inl q_5_48, i_X9_isSign.1, i_X9_isSign.2⟩ ⟨by decide, rfl⟩ (congrArg Prod.fst (J.1.1 68 (9, 6) rfl)) rfl (by decide) rfl rfl ⟨by decide, by decide⟩ (sf_X9_isSign_r68d (jr_of jk_46 (by omega)) hD J qu57 qu58 (by omega) rfl  (fun v69 h ev69 J S64 u65 u66 qu65 qu66 ru65 X67 X68 => ?_))
              have Sm := jSm_tr rfl Sm S64
              try rw [jk_46] at X67
              try rw [X67] at D
              try rw [← X68] at D
              have eu65 := (show 0 ≤ u65.toInt ∧ u65.toInt ≤ 3 from qu65 ▸ jrg_f J sg_68_5_6_1_0_1)
              have Luu65 := congrArg Int32.toInt (((jmc S64 rfl qu57)).symm.trans qu65)
              try rw [Luu65] at D
              try rw [vrf qu65] at D
              have eu66 := (show 0 ≤ u66.toInt ∧ u66.toInt ≤ 400 from qu66 ▸ jrg_f J sg_68_3_4_1_0_1)
              have Luu66 := congrArg Int32.toInt (((jmc S64 rfl qu58)).symm.trans qu66)
              try rw [Luu66] at D
              try rw [vrf qu66] at D
              show jX m_X5_readLine 5 0 0 86 [(0, .ref 70), (1, .int l1), (2, .int l2)] [.int v69] _ 0 0 _
              refine x_ifeq (tgt := 94) rfl rfl (ti_eq rfl jk_0 ⟨fun c70 => ?_, fun c70 => ?_⟩)
              ·
                rw [if_pos (by omega)] at D
                refine x_aloadn (x := 70) rfl rfl ?_
                refine z_getR (N := 9) (b := 68) 5 1 rfl f_5_39 rfl J rfl 8961 ⟨rfl, rfl⟩ rfl ?_
                refine x_bipush (v := 44) rfl kb_44 ?_
                refine x_inv (N := m_X9_isSign) (As := [.int 44]) (b := 68) (st := []) (dx9 := 1) (mc := 0) (ms := 0) (host := "") 9 rfl t_X9_isSign ⟨Or.inl q_5_48, i_X9_isSign.1, i_X9_isSign.2⟩ ⟨by decide, rfl⟩ (congrArg Prod.fst (J.1.1 68 (9, 6) rfl)) rfl (by decide) rfl rfl ⟨by decide, by decide⟩ (sf_X9_isSign_r68d (jr_of jk_44 (by omega)) hD J qu65 qu66 (by omega) rfl  (fun v76 h ev76 J S71 u72 u73 qu72 qu73 ru72 X74 X75 => ?_))
                have Sm := jSm_tr rfl Sm S71
                try rw [jk_44] at X74
                have Lkv76 : v61.toInt = v76.toInt := by (have Z := X59; try rw [← X60] at Z; try rw [← X68] at Z; exact Z.symm.trans X74)
                try rw [Lkv76] at D
                try rw [X74] at D
                try rw [← X75] at D
                have eu72 := (show 0 ≤ u72.toInt ∧ u72.toInt ≤ 3 from qu72 ▸ jrg_f J sg_68_5_6_1_0_1)
                have Luu72 := congrArg Int32.toInt (((jmc S71 rfl qu65)).symm.trans qu72)
                try rw [Luu72] at D
                try rw [vrf qu72] at D
                have eu73 := (show 0 ≤ u73.toInt ∧ u73.toInt ≤ 400 from qu73 ▸ jrg_f J sg_68_3_4_1_0_1)
                have Luu73 := congrArg Int32.toInt (((jmc S71 rfl qu66)).symm.trans qu73)
                try rw [Luu73] at D
                try rw [vrf qu73] at D
                show jX m_X5_readLine 5 0 0 103 [(0, .ref 70), (1, .int l1), (2, .int l2)] [.int v76] _ 0 0 _
                refine x_ifeq (tgt := 113) rfl rfl (ti_eq rfl jk_0 ⟨fun c77 => ?_, fun c77 => ?_⟩)
                ·
                  rw [if_pos (by omega)] at D
                  exact jX.sub (jsb_c rfl jsb_n) (ct_X5_readLine_r70d_113 hD hQ  u73 u72 h (jr_of rfl (by omega)) (jr_of rfl (by omega)) (by omega) qu73 qu72 J Sm D)
                ·
                  rw [if_neg (by omega)] at D
                  refine x_iloadn (x := l2) rfl rfl ?_
                  refine x_iconst (v := 1) rfl ki_1 ?_
                  refine z_iadd rfl rfl jk_1 (by omega) (fun v78 ev78 => ?_)
                  refine x_iloadn (x := l1) rfl rfl ?_
                  refine x_iclt (tgt := 123) rfl rfl (ti_lt rfl rfl ⟨fun c79 => ?_, fun c79 => ?_⟩)
                  ·
                    rw [if_pos (by omega)] at D
                    refine x_aloadn (x := 70) rfl rfl ?_
                    refine z_getR (N := 9) (b := 68) 5 1 rfl f_5_39 rfl J rfl 8961 ⟨rfl, rfl⟩ rfl ?_
                    refine x_inv (N := m_X9_step) (As := []) (b := 68) (st := []) (dx9 := 2) (mc := 0) (ms := 0) (host := "") 9 rfl t_X9_step ⟨Or.inl q_5_67, i_X9_step.1, i_X9_step.2⟩ ⟨by decide, rfl⟩ (congrArg Prod.fst (J.1.1 68 (9, 6) rfl)) rfl (by decide) rfl rfl ⟨by decide, by decide⟩ (sf_X9_step_r68d  hD J qu72 qu73 (by omega) rfl  (fun h J S80 u81 u82 qu81 qu82 ru81 X83 => ?_))
                    have Sm := jSm_tr rfl Sm S80
                    rw [X83] at D
                    have eu81 := (show 0 ≤ u81.toInt ∧ u81.toInt ≤ 3 from qu81 ▸ jrg_f J sg_68_5_6_1_0_1)
                    try rw [vrf qu81] at D
                    have eu82 := (show 0 ≤ u82.toInt ∧ u82.toInt ≤ 400 from qu82 ▸ jrg_f J sg_68_3_4_1_0_1)
                    try rw [vrf qu82] at D
                    show jX m_X5_readLine 5 0 0 130 [(0, .ref 70), (1, .int l1), (2, .int l2)] [] _ 0 0 _
                    refine z_iinc (x := l2) (lsx9 := fun v84 => [(2, .int v84), (0, .ref 70), (1, .int l1)]) rfl rfl rfl jko_1 (by omega) rfl (fun _ => rfl) (fun v84 ev84 => ?_)
                    refine x_goto (tgt := 50) rfl rfl ?_
                    try rw [show (l2.toInt + 1) = v84.toInt from by omega] at D
                    exact jX.sub (jsb_c rfl (jsb_c rfl (jsb_c rfl jsb_n))) (ih l1 v84 u82 u81 h (by omega) (jr_of rfl (by omega)) (jr_of rfl (by omega)) (jr_of rfl (by omega)) (jr_of rfl (by omega)) (by omega) qu82 qu81 J Sm D)
                  ·
                    rw [if_neg (by omega)] at D
                    exact jX.sub (jsb_c rfl jsb_n) (ct_X5_readLine_r70d_113 hD hQ  u73 u72 h (jr_of rfl (by omega)) (jr_of rfl (by omega)) (by omega) qu73 qu72 J Sm D)
              ·
                rw [if_neg (by omega)] at D
                refine x_aloadn (x := 70) rfl rfl ?_
                refine x_inv (N := m_X5_readStop) (As := []) (b := 70) (st := []) (dx9 := 4) (mc := 0) (ms := 0) (host := "") 5 rfl t_X5_readStop ⟨Or.inl q_5_52, i_X5_readStop.1, i_X5_readStop.2⟩ ⟨by decide, rfl⟩ (congrArg Prod.fst (J.1.1 70 (5, 9) rfl)) rfl (by decide) rfl rfl ⟨by decide, by decide⟩ (jC.of rfl k_X5_readStop rfl ?_)
                show jX m_X5_readStop 4 0 0 0 [(0, .ref 70)] [] _ 0 0 _
                refine x_aloadn (x := 70) rfl rfl ?_
                refine z_getR (N := 9) (b := 68) 5 1 rfl f_5_39 rfl J rfl 8961 ⟨rfl, rfl⟩ rfl ?_
                refine x_inv (N := m_X9_step) (As := []) (b := 68) (st := []) (dx9 := 2) (mc := 0) (ms := 0) (host := "") 9 rfl t_X9_step ⟨Or.inl q_5_67, i_X9_step.1, i_X9_step.2⟩ ⟨by decide, rfl⟩ (congrArg Prod.fst (J.1.1 68 (9, 6) rfl)) rfl (by decide) rfl rfl ⟨by decide, by decide⟩ (sf_X9_step_r68d  hD J qu65 qu66 (by omega) rfl  (fun h J S85 u86 u87 qu86 qu87 ru86 X88 => ?_))
                have Sm := jSm_tr rfl Sm S85
                rw [X88] at D
                have eu86 := (show 0 ≤ u86.toInt ∧ u86.toInt ≤ 3 from qu86 ▸ jrg_f J sg_68_5_6_1_0_1)
                try rw [vrf qu86] at D
                have eu87 := (show 0 ≤ u87.toInt ∧ u87.toInt ≤ 400 from qu87 ▸ jrg_f J sg_68_3_4_1_0_1)
                try rw [vrf qu87] at D
                show jX m_X5_readStop 4 0 0 7 [(0, .ref 70)] [] _ 0 0 _
                refine x_aloadn (x := 70) rfl rfl ?_
                refine z_getR (N := 9) (b := 68) 5 1 rfl f_5_39 rfl J rfl 8961 ⟨rfl, rfl⟩ rfl ?_
                refine x_inv (N := m_X9_isEnd) (As := []) (b := 68) (st := []) (dx9 := 3) (mc := 0) (ms := 0) (host := "") 9 rfl t_X9_isEnd ⟨Or.inl q_5_60, i_X9_isEnd.1, i_X9_isEnd.2⟩ ⟨by decide, rfl⟩ (congrArg Prod.fst (J.1.1 68 (9, 6) rfl)) rfl (by decide) rfl rfl ⟨by decide, by decide⟩ (jC.of rfl k_X9_isEnd rfl ?_)
                show jX m_X9_isEnd 3 0 0 0 [(0, .ref 68)] [] _ 0 0 _
                refine x_aloadn (x := 68) rfl rfl ?_
                refine z_getM (N := 6) (v := u86) 9 5 rfl f_9_28 rfl J rfl qu86 ?_
                refine x_ifne (tgt := 11) rfl rfl (ti_ne rfl jk_0 ⟨fun c89 => ?_, fun c89 => ?_⟩)
                ·
                  rw [if_neg (by omega)] at D
                  refine x_iconst (v := 0) rfl ki_0 ?_
                  refine x_zret rfl rfl (by decide) ?_
                  show jX m_X5_readStop 4 0 0 14 [(0, .ref 70)] [.int 0] _ 0 0 _
                  refine x_ifeq (tgt := 19) rfl rfl (ti_eq jk_0 jk_0 (br_t (by omega) ?_))
                  refine x_aloadn (x := 70) rfl rfl ?_
                  refine z_getR (N := 9) (b := 68) 5 1 rfl f_5_39 rfl J rfl 8961 ⟨rfl, rfl⟩ rfl ?_
                  refine x_inv (N := m_X9_blame) (As := []) (b := 68) (st := []) (dx9 := 3) (mc := 0) (ms := 0) (host := "") 9 rfl t_X9_blame ⟨Or.inl q_5_64, i_X9_blame.1, i_X9_blame.2⟩ ⟨by decide, rfl⟩ (congrArg Prod.fst (J.1.1 68 (9, 6) rfl)) rfl (by decide) rfl rfl ⟨by decide, by decide⟩ (jC.of rfl k_X9_blame rfl ?_)
                  show jX m_X9_blame 3 0 0 0 [(0, .ref 68)] [] _ 0 0 _
                  refine x_aloadn (x := 68) rfl rfl ?_
                  refine x_aloadn (x := 68) rfl rfl ?_
                  refine z_getM (N := 6) (v := u87) 9 3 rfl f_9_22 rfl J rfl qu87 ?_
                  refine z_putI (N := 6) (w := u87.toInt) 9 2 rfl f_9_19 rfl (jfin_no TX9 RX9 6 rfl rfl) hD J Sm rfl rfl rfl (pw_68_2 (by omega)) rfl (fun h w90 J Sm => ?_)
                  rw [vwf w90 (show u87.toInt = u87.toInt from by omega)] at D
                  refine x_iconst (v := 0) rfl ki_0 ?_
                  refine x_zret rfl rfl (by decide) ?_
                  show jX m_X5_readStop 4 0 0 26 [(0, .ref 70)] [.int 0] _ 0 0 _
                  refine x_pop rfl rfl ?_
                  refine x_iconst (v := (-1)) rfl ki_m1 ?_
                  refine x_iret rfl rfl ?_
                  show jX m_X5_readLine 5 0 0 93 [(0, .ref 70), (1, .int l1), (2, .int l2)] [.int (-1)] _ 0 0 _
                  refine x_iret rfl rfl ?_
                  exact hQ _ _ (jr_of jk_m1 (by omega)) J Sm _ _ (jmo w90 rfl qu86) (jmo w90 rfl qu87) (by omega) ((congrArg Prod.fst D).symm.trans (show (-1) = ((-1) : Int32).toInt from by have := jk_m1; omega)) (congrArg Prod.snd D).symm
                ·
                  rw [if_pos (by omega)] at D
                  refine x_iconst (v := 1) rfl ki_1 ?_
                  refine x_goto (tgt := 12) rfl rfl ?_
                  refine x_zret rfl rfl (by decide) ?_
                  show jX m_X5_readStop 4 0 0 14 [(0, .ref 70)] [.int 1] _ 0 0 _
                  refine x_ifeq (tgt := 19) rfl rfl (ti_eq jk_1 jk_0 (br_f (by omega) ?_))
                  refine x_iconst (v := 0) rfl ki_0 ?_
                  refine x_iret rfl rfl ?_
                  show jX m_X5_readLine 5 0 0 93 [(0, .ref 70), (1, .int l1), (2, .int l2)] [.int 0] _ 0 0 _
                  refine x_iret rfl rfl ?_
                  exact hQ _ _ (jr_of jk_0 (by omega)) J Sm _ _ qu86 qu87 (by omega) ((congrArg Prod.fst D).symm.trans (show 0 = (0 : Int32).toInt from by have := jk_0; omega)) (congrArg Prod.snd D).symm
            ·
              rw [if_pos (by omega)] at D
              refine x_iconst (v := 1) rfl ki_1 ?_
              refine x_goto (tgt := 12) rfl rfl ?_
              refine x_zret rfl rfl (by decide) ?_
              show jX m_X5_readLine 5 0 0 72 [(0, .ref 70), (1, .int l1), (2, .int l2)] [.int 1] _ 0 0 _
              refine x_ifeq (tgt := 77) rfl rfl (ti_eq jk_1 jk_0 (br_f (by omega) ?_))
              refine x_iconst (v := 1) rfl ki_1 ?_
              refine x_iret rfl rfl ?_
              exact hQ _ _ (jr_of jk_1 (by omega)) J Sm _ _ qu57 qu58 (by omega) ((congrArg Prod.fst D).symm.trans (show 1 = (1 : Int32).toInt from by have := jk_1; omega)) (congrArg Prod.snd D).symm
          ·
            rw [if_pos (by omega)] at D
            refine x_aloadn (x := 70) rfl rfl ?_
            refine z_getR (N := 9) (b := 68) 5 1 rfl f_5_39 rfl J rfl 8961 ⟨rfl, rfl⟩ rfl ?_
            refine x_bipush (v := 46) rfl kb_46 ?_
            refine x_inv (N := m_X9_isSign) (As := [.int 46]) (b := 68) (st := []) (dx9 := 1) (mc := 0) (ms := 0) (host := "") 9 rfl t_X9_isSign ⟨Or.inl q_5_48, i_X9_isSign.1, i_X9_isSign.2⟩ ⟨by decide, rfl⟩ (congrArg Prod.fst (J.1.1 68 (9, 6) rfl)) rfl (by decide) rfl rfl ⟨by decide, by decide⟩ (sf_X9_isSign_r68d (jr_of jk_46 (by omega)) hD J qu57 qu58 (by omega) rfl  (fun v96 h ev96 J S91 u92 u93 qu92 qu93 ru92 X94 X95 => ?_))
            have Sm := jSm_tr rfl Sm S91
            try rw [jk_46] at X94
            try rw [X94] at D
            try rw [← X95] at D
            have eu92 := (show 0 ≤ u92.toInt ∧ u92.toInt ≤ 3 from qu92 ▸ jrg_f J sg_68_5_6_1_0_1)
            have Luu92 := congrArg Int32.toInt (((jmc S91 rfl qu57)).symm.trans qu92)
            try rw [Luu92] at D
            try rw [vrf qu92] at D
            have eu93 := (show 0 ≤ u93.toInt ∧ u93.toInt ≤ 400 from qu93 ▸ jrg_f J sg_68_3_4_1_0_1)
            have Luu93 := congrArg Int32.toInt (((jmc S91 rfl qu58)).symm.trans qu93)
            try rw [Luu93] at D
            try rw [vrf qu93] at D
            show jX m_X5_readRole 4 0 0 50 [(2, .int v7), (0, .ref 70), (1, .int l2)] [.int v96] _ 0 0 _
            refine x_ifeq (tgt := 55) rfl rfl (ti_eq rfl jk_0 ⟨fun c97 => ?_, fun c97 => ?_⟩)
            ·
              rw [if_pos (by omega)] at D
              refine x_aloadn (x := 70) rfl rfl ?_
              refine x_iloadn (x := l2) rfl rfl ?_
              refine x_iconst (v := 2) rfl ki_2 ?_
              refine z_imul rfl rfl jk_2 (by omega) (fun v98 ev98 => ?_)
              refine x_iconst (v := 1) rfl ki_1 ?_
              refine z_iadd rfl rfl jk_1 (by omega) (fun v99 ev99 => ?_)
              refine x_bipush (v := 14) rfl kb_14 ?_
              refine z_imul rfl rfl jk_14 (by omega) (fun v100 ev100 => ?_)
              try rw [show (((l2.toInt * 2) + 1) * 14) = v100.toInt from by omega] at D
              refine x_inv (N := m_X5_readName) (As := [.int v100]) (b := 70) (st := []) (dx9 := 3) (mc := 0) (ms := 0) (host := "") 5 rfl t_X5_readName ⟨Or.inl q_5_70, i_X5_readName.1, i_X5_readName.2⟩ ⟨by decide, rfl⟩ (congrArg Prod.fst (J.1.1 70 (5, 9) rfl)) rfl (by decide) rfl rfl ⟨by decide, by decide⟩ (sf_X5_readName_r70d (jr_of rfl (by omega)) (jr_mod rfl (by omega)) hD J qu92 qu93 (by omega) rfl  (fun v106 h ev106 J S101 u102 u103 qu102 qu103 ru102 X104 X105 => ?_))
              have Sm := jSm_tr rfl Sm S101
              try rw [X104] at D
              try rw [X105] at D
              have eu102 := (show 0 ≤ u102.toInt ∧ u102.toInt ≤ 3 from qu102 ▸ jrg_f J sg_68_5_6_1_0_1)
              try rw [vrf qu102] at D
              have eu103 := (show 0 ≤ u103.toInt ∧ u103.toInt ≤ 400 from qu103 ▸ jrg_f J sg_68_3_4_1_0_1)
              try rw [vrf qu103] at D
              show jX m_X5_readRole 4 0 0 67 [(2, .int v7), (0, .ref 70), (1, .int l2)] [.int v106] _ 0 0 _
              refine x_zret rfl rfl (jz01 (by omega)) ?_
              show jX m_X5_readLine 5 0 0 60 [(0, .ref 70), (1, .int l1), (2, .int l2)] [.int v106] _ 0 0 _
              refine x_ifne (tgt := 65) rfl rfl (ti_ne rfl jk_0 ⟨fun c107 => ?_, fun c107 => ?_⟩)
              ·
                rw [if_neg (by omega)] at D
                refine x_aloadn (x := 70) rfl rfl ?_
                refine z_getR (N := 9) (b := 68) 5 1 rfl f_5_39 rfl J rfl 8961 ⟨rfl, rfl⟩ rfl ?_
                refine x_inv (N := m_X9_isEnd) (As := []) (b := 68) (st := []) (dx9 := 4) (mc := 0) (ms := 0) (host := "") 9 rfl t_X9_isEnd ⟨Or.inl q_5_60, i_X9_isEnd.1, i_X9_isEnd.2⟩ ⟨by decide, rfl⟩ (congrArg Prod.fst (J.1.1 68 (9, 6) rfl)) rfl (by decide) rfl rfl ⟨by decide, by decide⟩ (jC.of rfl k_X9_isEnd rfl ?_)
                show jX m_X9_isEnd 4 0 0 0 [(0, .ref 68)] [] _ 0 0 _
                refine x_aloadn (x := 68) rfl rfl ?_
                refine z_getM (N := 6) (v := u102) 9 5 rfl f_9_28 rfl J rfl qu102 ?_
                refine x_ifne (tgt := 11) rfl rfl (ti_ne rfl jk_0 ⟨fun c108 => ?_, fun c108 => ?_⟩)
                ·
                  rw [if_neg (by omega)] at D
                  refine x_iconst (v := 0) rfl ki_0 ?_
                  refine x_zret rfl rfl (by decide) ?_
                  show jX m_X5_readLine 5 0 0 72 [(0, .ref 70), (1, .int l1), (2, .int l2)] [.int 0] _ 0 0 _
                  refine x_ifeq (tgt := 77) rfl rfl (ti_eq jk_0 jk_0 (br_t (by omega) ?_))
                  refine x_aloadn (x := 70) rfl rfl ?_
                  refine z_getR (N := 9) (b := 68) 5 1 rfl f_5_39 rfl J rfl 8961 ⟨rfl, rfl⟩ rfl ?_
                  refine x_bipush (v := 46) rfl kb_46 ?_
                  refine x_inv (N := m_X9_isSign) (As := [.int 46]) (b := 68) (st := []) (dx9 := 1) (mc := 0) (ms := 0) (host := "") 9 rfl t_X9_isSign ⟨Or.inl q_5_48, i_X9_isSign.1, i_X9_isSign.2⟩ ⟨by decide, rfl⟩ (congrArg Prod.fst (J.1.1 68 (9, 6) rfl)) rfl (by decide) rfl rfl ⟨by decide, by decide⟩ (sf_X9_isSign_r68d (jr_of jk_46 (by omega)) hD J qu102 qu103 (by omega) rfl  (fun v114 h ev114 J S109 u110 u111 qu110 qu111 ru110 X112 X113 => ?_))
                  have Sm := jSm_tr rfl Sm S109
                  try rw [jk_46] at X112
                  try rw [X112] at D
                  try rw [← X113] at D
                  have eu110 := (show 0 ≤ u110.toInt ∧ u110.toInt ≤ 3 from qu110 ▸ jrg_f J sg_68_5_6_1_0_1)
                  have Luu110 := congrArg Int32.toInt (((jmc S109 rfl qu102)).symm.trans qu110)
                  try rw [Luu110] at D
                  try rw [vrf qu110] at D
                  have eu111 := (show 0 ≤ u111.toInt ∧ u111.toInt ≤ 400 from qu111 ▸ jrg_f J sg_68_3_4_1_0_1)
                  have Luu111 := congrArg Int32.toInt (((jmc S109 rfl qu103)).symm.trans qu111)
                  try rw [Luu111] at D
                  try rw [vrf qu111] at D
                  show jX m_X5_readLine 5 0 0 86 [(0, .ref 70), (1, .int l1), (2, .int l2)] [.int v114] _ 0 0 _
                  refine x_ifeq (tgt := 94) rfl rfl (ti_eq rfl jk_0 ⟨fun c115 => ?_, fun c115 => ?_⟩)
                  ·
                    rw [if_pos (by omega)] at D
                    refine x_aloadn (x := 70) rfl rfl ?_
                    refine z_getR (N := 9) (b := 68) 5 1 rfl f_5_39 rfl J rfl 8961 ⟨rfl, rfl⟩ rfl ?_
                    refine x_bipush (v := 44) rfl kb_44 ?_
                    refine x_inv (N := m_X9_isSign) (As := [.int 44]) (b := 68) (st := []) (dx9 := 1) (mc := 0) (ms := 0) (host := "") 9 rfl t_X9_isSign ⟨Or.inl q_5_48, i_X9_isSign.1, i_X9_isSign.2⟩ ⟨by decide, rfl⟩ (congrArg Prod.fst (J.1.1 68 (9, 6) rfl)) rfl (by decide) rfl rfl ⟨by decide, by decide⟩ (sf_X9_isSign_r68d (jr_of jk_44 (by omega)) hD J qu110 qu111 (by omega) rfl  (fun v121 h ev121 J S116 u117 u118 qu117 qu118 ru117 X119 X120 => ?_))
                    have Sm := jSm_tr rfl Sm S116
                    try rw [jk_44] at X119
                    try rw [X119] at D
                    try rw [← X120] at D
                    have eu117 := (show 0 ≤ u117.toInt ∧ u117.toInt ≤ 3 from qu117 ▸ jrg_f J sg_68_5_6_1_0_1)
                    have Luu117 := congrArg Int32.toInt (((jmc S116 rfl qu110)).symm.trans qu117)
                    try rw [Luu117] at D
                    try rw [vrf qu117] at D
                    have eu118 := (show 0 ≤ u118.toInt ∧ u118.toInt ≤ 400 from qu118 ▸ jrg_f J sg_68_3_4_1_0_1)
                    have Luu118 := congrArg Int32.toInt (((jmc S116 rfl qu111)).symm.trans qu118)
                    try rw [Luu118] at D
                    try rw [vrf qu118] at D
                    show jX m_X5_readLine 5 0 0 103 [(0, .ref 70), (1, .int l1), (2, .int l2)] [.int v121] _ 0 0 _
                    refine x_ifeq (tgt := 113) rfl rfl (ti_eq rfl jk_0 ⟨fun c122 => ?_, fun c122 => ?_⟩)
                    ·
                      rw [if_pos (by omega)] at D
                      exact jX.sub (jsb_c rfl jsb_n) (ct_X5_readLine_r70d_113 hD hQ  u118 u117 h (jr_of rfl (by omega)) (jr_of rfl (by omega)) (by omega) qu118 qu117 J Sm D)
                    ·
                      rw [if_neg (by omega)] at D
                      refine x_iloadn (x := l2) rfl rfl ?_
                      refine x_iconst (v := 1) rfl ki_1 ?_
                      refine z_iadd rfl rfl jk_1 (by omega) (fun v123 ev123 => ?_)
                      refine x_iloadn (x := l1) rfl rfl ?_
                      refine x_iclt (tgt := 123) rfl rfl (ti_lt rfl rfl ⟨fun c124 => ?_, fun c124 => ?_⟩)
                      ·
                        rw [if_pos (by omega)] at D
                        refine x_aloadn (x := 70) rfl rfl ?_
                        refine z_getR (N := 9) (b := 68) 5 1 rfl f_5_39 rfl J rfl 8961 ⟨rfl, rfl⟩ rfl ?_
                        refine x_inv (N := m_X9_step) (As := []) (b := 68) (st := []) (dx9 := 2) (mc := 0) (ms := 0) (host := "") 9 rfl t_X9_step ⟨Or.inl q_5_67, i_X9_step.1, i_X9_step.2⟩ ⟨by decide, rfl⟩ (congrArg Prod.fst (J.1.1 68 (9, 6) rfl)) rfl (by decide) rfl rfl ⟨by decide, by decide⟩ (sf_X9_step_r68d  hD J qu117 qu118 (by omega) rfl  (fun h J S125 u126 u127 qu126 qu127 ru126 X128 => ?_))
                        have Sm := jSm_tr rfl Sm S125
                        rw [X128] at D
                        have eu126 := (show 0 ≤ u126.toInt ∧ u126.toInt ≤ 3 from qu126 ▸ jrg_f J sg_68_5_6_1_0_1)
                        try rw [vrf qu126] at D
                        have eu127 := (show 0 ≤ u127.toInt ∧ u127.toInt ≤ 400 from qu127 ▸ jrg_f J sg_68_3_4_1_0_1)
                        try rw [vrf qu127] at D
                        show jX m_X5_readLine 5 0 0 130 [(0, .ref 70), (1, .int l1), (2, .int l2)] [] _ 0 0 _
                        refine z_iinc (x := l2) (lsx9 := fun v129 => [(2, .int v129), (0, .ref 70), (1, .int l1)]) rfl rfl rfl jko_1 (by omega) rfl (fun _ => rfl) (fun v129 ev129 => ?_)
                        refine x_goto (tgt := 50) rfl rfl ?_
                        try rw [show (l2.toInt + 1) = v129.toInt from by omega] at D
                        exact jX.sub (jsb_c rfl (jsb_c rfl (jsb_c rfl jsb_n))) (ih l1 v129 u127 u126 h (by omega) (jr_of rfl (by omega)) (jr_of rfl (by omega)) (jr_of rfl (by omega)) (jr_of rfl (by omega)) (by omega) qu127 qu126 J Sm D)
                      ·
                        rw [if_neg (by omega)] at D
                        exact jX.sub (jsb_c rfl jsb_n) (ct_X5_readLine_r70d_113 hD hQ  u118 u117 h (jr_of rfl (by omega)) (jr_of rfl (by omega)) (by omega) qu118 qu117 J Sm D)
                  ·
                    rw [if_neg (by omega)] at D
                    refine x_aloadn (x := 70) rfl rfl ?_
                    refine x_inv (N := m_X5_readStop) (As := []) (b := 70) (st := []) (dx9 := 4) (mc := 0) (ms := 0) (host := "") 5 rfl t_X5_readStop ⟨Or.inl q_5_52, i_X5_readStop.1, i_X5_readStop.2⟩ ⟨by decide, rfl⟩ (congrArg Prod.fst (J.1.1 70 (5, 9) rfl)) rfl (by decide) rfl rfl ⟨by decide, by decide⟩ (jC.of rfl k_X5_readStop rfl ?_)
                    show jX m_X5_readStop 4 0 0 0 [(0, .ref 70)] [] _ 0 0 _
                    refine x_aloadn (x := 70) rfl rfl ?_
                    refine z_getR (N := 9) (b := 68) 5 1 rfl f_5_39 rfl J rfl 8961 ⟨rfl, rfl⟩ rfl ?_
                    refine x_inv (N := m_X9_step) (As := []) (b := 68) (st := []) (dx9 := 2) (mc := 0) (ms := 0) (host := "") 9 rfl t_X9_step ⟨Or.inl q_5_67, i_X9_step.1, i_X9_step.2⟩ ⟨by decide, rfl⟩ (congrArg Prod.fst (J.1.1 68 (9, 6) rfl)) rfl (by decide) rfl rfl ⟨by decide, by decide⟩ (sf_X9_step_r68d  hD J qu110 qu111 (by omega) rfl  (fun h J S130 u131 u132 qu131 qu132 ru131 X133 => ?_))
                    have Sm := jSm_tr rfl Sm S130
                    rw [X133] at D
                    have eu131 := (show 0 ≤ u131.toInt ∧ u131.toInt ≤ 3 from qu131 ▸ jrg_f J sg_68_5_6_1_0_1)
                    try rw [vrf qu131] at D
                    have eu132 := (show 0 ≤ u132.toInt ∧ u132.toInt ≤ 400 from qu132 ▸ jrg_f J sg_68_3_4_1_0_1)
                    try rw [vrf qu132] at D
                    show jX m_X5_readStop 4 0 0 7 [(0, .ref 70)] [] _ 0 0 _
                    refine x_aloadn (x := 70) rfl rfl ?_
                    refine z_getR (N := 9) (b := 68) 5 1 rfl f_5_39 rfl J rfl 8961 ⟨rfl, rfl⟩ rfl ?_
                    refine x_inv (N := m_X9_isEnd) (As := []) (b := 68) (st := []) (dx9 := 3) (mc := 0) (ms := 0) (host := "") 9 rfl t_X9_isEnd ⟨Or.inl q_5_60, i_X9_isEnd.1, i_X9_isEnd.2⟩ ⟨by decide, rfl⟩ (congrArg Prod.fst (J.1.1 68 (9, 6) rfl)) rfl (by decide) rfl rfl ⟨by decide, by decide⟩ (jC.of rfl k_X9_isEnd rfl ?_)
                    show jX m_X9_isEnd 3 0 0 0 [(0, .ref 68)] [] _ 0 0 _
                    refine x_aloadn (x := 68) rfl rfl ?_
                    refine z_getM (N := 6) (v := u131) 9 5 rfl f_9_28 rfl J rfl qu131 ?_
                    refine x_ifne (tgt := 11) rfl rfl (ti_ne rfl jk_0 ⟨fun c134 => ?_, fun c134 => ?_⟩)
                    ·
                      rw [if_neg (by omega)] at D
                      refine x_iconst (v := 0) rfl ki_0 ?_
                      refine x_zret rfl rfl (by decide) ?_
                      show jX m_X5_readStop 4 0 0 14 [(0, .ref 70)] [.int 0] _ 0 0 _
                      refine x_ifeq (tgt := 19) rfl rfl (ti_eq jk_0 jk_0 (br_t (by omega) ?_))
                      refine x_aloadn (x := 70) rfl rfl ?_
                      refine z_getR (N := 9) (b := 68) 5 1 rfl f_5_39 rfl J rfl 8961 ⟨rfl, rfl⟩ rfl ?_
                      refine x_inv (N := m_X9_blame) (As := []) (b := 68) (st := []) (dx9 := 3) (mc := 0) (ms := 0) (host := "") 9 rfl t_X9_blame ⟨Or.inl q_5_64, i_X9_blame.1, i_X9_blame.2⟩ ⟨by decide, rfl⟩ (congrArg Prod.fst (J.1.1 68 (9, 6) rfl)) rfl (by decide) rfl rfl ⟨by decide, by decide⟩ (jC.of rfl k_X9_blame rfl ?_)
                      show jX m_X9_blame 3 0 0 0 [(0, .ref 68)] [] _ 0 0 _
                      refine x_aloadn (x := 68) rfl rfl ?_
                      refine x_aloadn (x := 68) rfl rfl ?_
                      refine z_getM (N := 6) (v := u132) 9 3 rfl f_9_22 rfl J rfl qu132 ?_
                      refine z_putI (N := 6) (w := u132.toInt) 9 2 rfl f_9_19 rfl (jfin_no TX9 RX9 6 rfl rfl) hD J Sm rfl rfl rfl (pw_68_2 (by omega)) rfl (fun h w135 J Sm => ?_)
                      rw [vwf w135 (show u132.toInt = u132.toInt from by omega)] at D
                      refine x_iconst (v := 0) rfl ki_0 ?_
                      refine x_zret rfl rfl (by decide) ?_
                      show jX m_X5_readStop 4 0 0 26 [(0, .ref 70)] [.int 0] _ 0 0 _
                      refine x_pop rfl rfl ?_
                      refine x_iconst (v := (-1)) rfl ki_m1 ?_
                      refine x_iret rfl rfl ?_
                      show jX m_X5_readLine 5 0 0 93 [(0, .ref 70), (1, .int l1), (2, .int l2)] [.int (-1)] _ 0 0 _
                      refine x_iret rfl rfl ?_
                      exact hQ _ _ (jr_of jk_m1 (by omega)) J Sm _ _ (jmo w135 rfl qu131) (jmo w135 rfl qu132) (by omega) ((congrArg Prod.fst D).symm.trans (show (-1) = ((-1) : Int32).toInt from by have := jk_m1; omega)) (congrArg Prod.snd D).symm
                    ·
                      rw [if_pos (by omega)] at D
                      refine x_iconst (v := 1) rfl ki_1 ?_
                      refine x_goto (tgt := 12) rfl rfl ?_
                      refine x_zret rfl rfl (by decide) ?_
                      show jX m_X5_readStop 4 0 0 14 [(0, .ref 70)] [.int 1] _ 0 0 _
                      refine x_ifeq (tgt := 19) rfl rfl (ti_eq jk_1 jk_0 (br_f (by omega) ?_))
                      refine x_iconst (v := 0) rfl ki_0 ?_
                      refine x_iret rfl rfl ?_
                      show jX m_X5_readLine 5 0 0 93 [(0, .ref 70), (1, .int l1), (2, .int l2)] [.int 0] _ 0 0 _
                      refine x_iret rfl rfl ?_
                      exact hQ _ _ (jr_of jk_0 (by omega)) J Sm _ _ qu131 qu132 (by omega) ((congrArg Prod.fst D).symm.trans (show 0 = (0 : Int32).toInt from by have := jk_0; omega)) (congrArg Prod.snd D).symm
                ·
                  rw [if_pos (by omega)] at D
                  refine x_iconst (v := 1) rfl ki_1 ?_
                  refine x_goto (tgt := 12) rfl rfl ?_
                  refine x_zret rfl rfl (by decide) ?_
                  show jX m_X5_readLine 5 0 0 72 [(0, .ref 70), (1, .int l1), (2, .int l2)] [.int 1] _ 0 0 _
                  refine x_ifeq (tgt := 77) rfl rfl (ti_eq jk_1 jk_0 (br_f (by omega) ?_))
                  refine x_iconst (v := 1) rfl ki_1 ?_
                  refine x_iret rfl rfl ?_
                  exact hQ _ _ (jr_of jk_1 (by omega)) J Sm _ _ qu102 qu103 (by omega) ((congrArg Prod.fst D).symm.trans (show 1 = (1 : Int32).toInt from by have := jk_1; omega)) (congrArg Prod.snd D).symm
              ·
                rw [if_pos (by omega)] at D
                refine x_iconst (v := (-1)) rfl ki_m1 ?_
                refine x_iret rfl rfl ?_
                exact hQ _ _ (jr_of jk_m1 (by omega)) J Sm _ _ qu102 qu103 (by omega) ((congrArg Prod.fst D).symm.trans (show (-1) = ((-1) : Int32).toInt from by have := jk_m1; omega)) (congrArg Prod.snd D).symm
            ·
              rw [if_neg (by omega)] at D
              refine x_iconst (v := 1) rfl ki_1 ?_
              refine x_zret rfl rfl (by decide) ?_
              show jX m_X5_readLine 5 0 0 60 [(0, .ref 70), (1, .int l1), (2, .int l2)] [.int 1] _ 0 0 _
              refine x_ifne (tgt := 65) rfl rfl (ti_ne jk_1 jk_0 (bn_t (by omega) ?_))
              refine x_aloadn (x := 70) rfl rfl ?_
              refine z_getR (N := 9) (b := 68) 5 1 rfl f_5_39 rfl J rfl 8961 ⟨rfl, rfl⟩ rfl ?_
              refine x_inv (N := m_X9_isEnd) (As := []) (b := 68) (st := []) (dx9 := 4) (mc := 0) (ms := 0) (host := "") 9 rfl t_X9_isEnd ⟨Or.inl q_5_60, i_X9_isEnd.1, i_X9_isEnd.2⟩ ⟨by decide, rfl⟩ (congrArg Prod.fst (J.1.1 68 (9, 6) rfl)) rfl (by decide) rfl rfl ⟨by decide, by decide⟩ (jC.of rfl k_X9_isEnd rfl ?_)
              show jX m_X9_isEnd 4 0 0 0 [(0, .ref 68)] [] _ 0 0 _
              refine x_aloadn (x := 68) rfl rfl ?_
              refine z_getM (N := 6) (v := u92) 9 5 rfl f_9_28 rfl J rfl qu92 ?_
              refine x_ifne (tgt := 11) rfl rfl (ti_ne rfl jk_0 ⟨fun c136 => ?_, fun c136 => ?_⟩)
              ·
                rw [if_neg (by omega)] at D
                refine x_iconst (v := 0) rfl ki_0 ?_
                refine x_zret rfl rfl (by decide) ?_
                show jX m_X5_readLine 5 0 0 72 [(0, .ref 70), (1, .int l1), (2, .int l2)] [.int 0] _ 0 0 _
                refine x_ifeq (tgt := 77) rfl rfl (ti_eq jk_0 jk_0 (br_t (by omega) ?_))
                refine x_aloadn (x := 70) rfl rfl ?_
                refine z_getR (N := 9) (b := 68) 5 1 rfl f_5_39 rfl J rfl 8961 ⟨rfl, rfl⟩ rfl ?_
                refine x_bipush (v := 46) rfl kb_46 ?_
                refine x_inv (N := m_X9_isSign) (As := [.int 46]) (b := 68) (st := []) (dx9 := 1) (mc := 0) (ms := 0) (host := "") 9 rfl t_X9_isSign ⟨Or.inl q_5_48, i_X9_isSign.1, i_X9_isSign.2⟩ ⟨by decide, rfl⟩ (congrArg Prod.fst (J.1.1 68 (9, 6) rfl)) rfl (by decide) rfl rfl ⟨by decide, by decide⟩ (sf_X9_isSign_r68d (jr_of jk_46 (by omega)) hD J qu92 qu93 (by omega) rfl  (fun v142 h ev142 J S137 u138 u139 qu138 qu139 ru138 X140 X141 => ?_))
                have Sm := jSm_tr rfl Sm S137
                try rw [jk_46] at X140
                have Lkv142 : v96.toInt = v142.toInt := by (have Z := X94; try rw [← X95] at Z; exact Z.symm.trans X140)
                try rw [Lkv142] at D
                try rw [X140] at D
                try rw [← X141] at D
                have eu138 := (show 0 ≤ u138.toInt ∧ u138.toInt ≤ 3 from qu138 ▸ jrg_f J sg_68_5_6_1_0_1)
                have Luu138 := congrArg Int32.toInt (((jmc S137 rfl qu92)).symm.trans qu138)
                try rw [Luu138] at D
                try rw [vrf qu138] at D
                have eu139 := (show 0 ≤ u139.toInt ∧ u139.toInt ≤ 400 from qu139 ▸ jrg_f J sg_68_3_4_1_0_1)
                have Luu139 := congrArg Int32.toInt (((jmc S137 rfl qu93)).symm.trans qu139)
                try rw [Luu139] at D
                try rw [vrf qu139] at D
                show jX m_X5_readLine 5 0 0 86 [(0, .ref 70), (1, .int l1), (2, .int l2)] [.int v142] _ 0 0 _
                refine x_ifeq (tgt := 94) rfl rfl (ti_eq rfl jk_0 ⟨fun c143 => ?_, fun c143 => ?_⟩)
                ·
                  rw [if_pos (by omega)] at D
                  refine x_aloadn (x := 70) rfl rfl ?_
                  refine z_getR (N := 9) (b := 68) 5 1 rfl f_5_39 rfl J rfl 8961 ⟨rfl, rfl⟩ rfl ?_
                  refine x_bipush (v := 44) rfl kb_44 ?_
                  refine x_inv (N := m_X9_isSign) (As := [.int 44]) (b := 68) (st := []) (dx9 := 1) (mc := 0) (ms := 0) (host := "") 9 rfl t_X9_isSign ⟨Or.inl q_5_48, i_X9_isSign.1, i_X9_isSign.2⟩ ⟨by decide, rfl⟩ (congrArg Prod.fst (J.1.1 68 (9, 6) rfl)) rfl (by decide) rfl rfl ⟨by decide, by decide⟩ (sf_X9_isSign_r68d (jr_of jk_44 (by omega)) hD J qu138 qu139 (by omega) rfl  (fun v149 h ev149 J S144 u145 u146 qu145 qu146 ru145 X147 X148 => ?_))
                  have Sm := jSm_tr rfl Sm S144
                  try rw [jk_44] at X147
                  have Lkv149 : v61.toInt = v149.toInt := by (have Z := X59; try rw [← X60] at Z; try rw [← X95] at Z; try rw [← X141] at Z; exact Z.symm.trans X147)
                  try rw [Lkv149] at D
                  try rw [X147] at D
                  try rw [← X148] at D
                  have eu145 := (show 0 ≤ u145.toInt ∧ u145.toInt ≤ 3 from qu145 ▸ jrg_f J sg_68_5_6_1_0_1)
                  have Luu145 := congrArg Int32.toInt (((jmc S144 rfl qu138)).symm.trans qu145)
                  try rw [Luu145] at D
                  try rw [vrf qu145] at D
                  have eu146 := (show 0 ≤ u146.toInt ∧ u146.toInt ≤ 400 from qu146 ▸ jrg_f J sg_68_3_4_1_0_1)
                  have Luu146 := congrArg Int32.toInt (((jmc S144 rfl qu139)).symm.trans qu146)
                  try rw [Luu146] at D
                  try rw [vrf qu146] at D
                  show jX m_X5_readLine 5 0 0 103 [(0, .ref 70), (1, .int l1), (2, .int l2)] [.int v149] _ 0 0 _
                  refine x_ifeq (tgt := 113) rfl rfl (ti_eq rfl jk_0 ⟨fun c150 => ?_, fun c150 => ?_⟩)
                  ·
                    rw [if_pos (by omega)] at D
                    exact jX.sub (jsb_c rfl jsb_n) (ct_X5_readLine_r70d_113 hD hQ  u146 u145 h (jr_of rfl (by omega)) (jr_of rfl (by omega)) (by omega) qu146 qu145 J Sm D)
                  ·
                    rw [if_neg (by omega)] at D
                    refine x_iloadn (x := l2) rfl rfl ?_
                    refine x_iconst (v := 1) rfl ki_1 ?_
                    refine z_iadd rfl rfl jk_1 (by omega) (fun v151 ev151 => ?_)
                    refine x_iloadn (x := l1) rfl rfl ?_
                    refine x_iclt (tgt := 123) rfl rfl (ti_lt rfl rfl ⟨fun c152 => ?_, fun c152 => ?_⟩)
                    ·
                      rw [if_pos (by omega)] at D
                      refine x_aloadn (x := 70) rfl rfl ?_
                      refine z_getR (N := 9) (b := 68) 5 1 rfl f_5_39 rfl J rfl 8961 ⟨rfl, rfl⟩ rfl ?_
                      refine x_inv (N := m_X9_step) (As := []) (b := 68) (st := []) (dx9 := 2) (mc := 0) (ms := 0) (host := "") 9 rfl t_X9_step ⟨Or.inl q_5_67, i_X9_step.1, i_X9_step.2⟩ ⟨by decide, rfl⟩ (congrArg Prod.fst (J.1.1 68 (9, 6) rfl)) rfl (by decide) rfl rfl ⟨by decide, by decide⟩ (sf_X9_step_r68d  hD J qu145 qu146 (by omega) rfl  (fun h J S153 u154 u155 qu154 qu155 ru154 X156 => ?_))
                      have Sm := jSm_tr rfl Sm S153
                      rw [X156] at D
                      have eu154 := (show 0 ≤ u154.toInt ∧ u154.toInt ≤ 3 from qu154 ▸ jrg_f J sg_68_5_6_1_0_1)
                      try rw [vrf qu154] at D
                      have eu155 := (show 0 ≤ u155.toInt ∧ u155.toInt ≤ 400 from qu155 ▸ jrg_f J sg_68_3_4_1_0_1)
                      try rw [vrf qu155] at D
                      show jX m_X5_readLine 5 0 0 130 [(0, .ref 70), (1, .int l1), (2, .int l2)] [] _ 0 0 _
                      refine z_iinc (x := l2) (lsx9 := fun v157 => [(2, .int v157), (0, .ref 70), (1, .int l1)]) rfl rfl rfl jko_1 (by omega) rfl (fun _ => rfl) (fun v157 ev157 => ?_)
                      refine x_goto (tgt := 50) rfl rfl ?_
                      try rw [show (l2.toInt + 1) = v157.toInt from by omega] at D
                      exact jX.sub (jsb_c rfl (jsb_c rfl (jsb_c rfl jsb_n))) (ih l1 v157 u155 u154 h (by omega) (jr_of rfl (by omega)) (jr_of rfl (by omega)) (jr_of rfl (by omega)) (jr_of rfl (by omega)) (by omega) qu155 qu154 J Sm D)
                    ·
                      rw [if_neg (by omega)] at D
                      exact jX.sub (jsb_c rfl jsb_n) (ct_X5_readLine_r70d_113 hD hQ  u146 u145 h (jr_of rfl (by omega)) (jr_of rfl (by omega)) (by omega) qu146 qu145 J Sm D)
                ·
                  rw [if_neg (by omega)] at D
                  refine x_aloadn (x := 70) rfl rfl ?_
                  refine x_inv (N := m_X5_readStop) (As := []) (b := 70) (st := []) (dx9 := 4) (mc := 0) (ms := 0) (host := "") 5 rfl t_X5_readStop ⟨Or.inl q_5_52, i_X5_readStop.1, i_X5_readStop.2⟩ ⟨by decide, rfl⟩ (congrArg Prod.fst (J.1.1 70 (5, 9) rfl)) rfl (by decide) rfl rfl ⟨by decide, by decide⟩ (jC.of rfl k_X5_readStop rfl ?_)
                  show jX m_X5_readStop 4 0 0 0 [(0, .ref 70)] [] _ 0 0 _
                  refine x_aloadn (x := 70) rfl rfl ?_
                  refine z_getR (N := 9) (b := 68) 5 1 rfl f_5_39 rfl J rfl 8961 ⟨rfl, rfl⟩ rfl ?_
                  refine x_inv (N := m_X9_step) (As := []) (b := 68) (st := []) (dx9 := 2) (mc := 0) (ms := 0) (host := "") 9 rfl t_X9_step ⟨Or.inl q_5_67, i_X9_step.1, i_X9_step.2⟩ ⟨by decide, rfl⟩ (congrArg Prod.fst (J.1.1 68 (9, 6) rfl)) rfl (by decide) rfl rfl ⟨by decide, by decide⟩ (sf_X9_step_r68d  hD J qu138 qu139 (by omega) rfl  (fun h J S158 u159 u160 qu159 qu160 ru159 X161 => ?_))
                  have Sm := jSm_tr rfl Sm S158
                  rw [X161] at D
                  have eu159 := (show 0 ≤ u159.toInt ∧ u159.toInt ≤ 3 from qu159 ▸ jrg_f J sg_68_5_6_1_0_1)
                  try rw [vrf qu159] at D
                  have eu160 := (show 0 ≤ u160.toInt ∧ u160.toInt ≤ 400 from qu160 ▸ jrg_f J sg_68_3_4_1_0_1)
                  try rw [vrf qu160] at D
                  show jX m_X5_readStop 4 0 0 7 [(0, .ref 70)] [] _ 0 0 _
                  refine x_aloadn (x := 70) rfl rfl ?_
                  refine z_getR (N := 9) (b := 68) 5 1 rfl f_5_39 rfl J rfl 8961 ⟨rfl, rfl⟩ rfl ?_
                  refine x_inv (N := m_X9_isEnd) (As := []) (b := 68) (st := []) (dx9 := 3) (mc := 0) (ms := 0) (host := "") 9 rfl t_X9_isEnd ⟨Or.inl q_5_60, i_X9_isEnd.1, i_X9_isEnd.2⟩ ⟨by decide, rfl⟩ (congrArg Prod.fst (J.1.1 68 (9, 6) rfl)) rfl (by decide) rfl rfl ⟨by decide, by decide⟩ (jC.of rfl k_X9_isEnd rfl ?_)
                  show jX m_X9_isEnd 3 0 0 0 [(0, .ref 68)] [] _ 0 0 _
                  refine x_aloadn (x := 68) rfl rfl ?_
                  refine z_getM (N := 6) (v := u159) 9 5 rfl f_9_28 rfl J rfl qu159 ?_
                  refine x_ifne (tgt := 11) rfl rfl (ti_ne rfl jk_0 ⟨fun c162 => ?_, fun c162 => ?_⟩)
                  ·
                    rw [if_neg (by omega)] at D
                    refine x_iconst (v := 0) rfl ki_0 ?_
                    refine x_zret rfl rfl (by decide) ?_
                    show jX m_X5_readStop 4 0 0 14 [(0, .ref 70)] [.int 0] _ 0 0 _
                    refine x_ifeq (tgt := 19) rfl rfl (ti_eq jk_0 jk_0 (br_t (by omega) ?_))
                    refine x_aloadn (x := 70) rfl rfl ?_
                    refine z_getR (N := 9) (b := 68) 5 1 rfl f_5_39 rfl J rfl 8961 ⟨rfl, rfl⟩ rfl ?_
                    refine x_inv (N := m_X9_blame) (As := []) (b := 68) (st := []) (dx9 := 3) (mc := 0) (ms := 0) (host := "") 9 rfl t_X9_blame ⟨Or.inl q_5_64, i_X9_blame.1, i_X9_blame.2⟩ ⟨by decide, rfl⟩ (congrArg Prod.fst (J.1.1 68 (9, 6) rfl)) rfl (by decide) rfl rfl ⟨by decide, by decide⟩ (jC.of rfl k_X9_blame rfl ?_)
                    show jX m_X9_blame 3 0 0 0 [(0, .ref 68)] [] _ 0 0 _
                    refine x_aloadn (x := 68) rfl rfl ?_
                    refine x_aloadn (x := 68) rfl rfl ?_
                    refine z_getM (N := 6) (v := u160) 9 3 rfl f_9_22 rfl J rfl qu160 ?_
                    refine z_putI (N := 6) (w := u160.toInt) 9 2 rfl f_9_19 rfl (jfin_no TX9 RX9 6 rfl rfl) hD J Sm rfl rfl rfl (pw_68_2 (by omega)) rfl (fun h w163 J Sm => ?_)
                    rw [vwf w163 (show u160.toInt = u160.toInt from by omega)] at D
                    refine x_iconst (v := 0) rfl ki_0 ?_
                    refine x_zret rfl rfl (by decide) ?_
                    show jX m_X5_readStop 4 0 0 26 [(0, .ref 70)] [.int 0] _ 0 0 _
                    refine x_pop rfl rfl ?_
                    refine x_iconst (v := (-1)) rfl ki_m1 ?_
                    refine x_iret rfl rfl ?_
                    show jX m_X5_readLine 5 0 0 93 [(0, .ref 70), (1, .int l1), (2, .int l2)] [.int (-1)] _ 0 0 _
                    refine x_iret rfl rfl ?_
                    exact hQ _ _ (jr_of jk_m1 (by omega)) J Sm _ _ (jmo w163 rfl qu159) (jmo w163 rfl qu160) (by omega) ((congrArg Prod.fst D).symm.trans (show (-1) = ((-1) : Int32).toInt from by have := jk_m1; omega)) (congrArg Prod.snd D).symm
                  ·
                    rw [if_pos (by omega)] at D
                    refine x_iconst (v := 1) rfl ki_1 ?_
                    refine x_goto (tgt := 12) rfl rfl ?_
                    refine x_zret rfl rfl (by decide) ?_
                    show jX m_X5_readStop 4 0 0 14 [(0, .ref 70)] [.int 1] _ 0 0 _
                    refine x_ifeq (tgt := 19) rfl rfl (ti_eq jk_1 jk_0 (br_f (by omega) ?_))
                    refine x_iconst (v := 0) rfl ki_0 ?_
                    refine x_iret rfl rfl ?_
                    show jX m_X5_readLine 5 0 0 93 [(0, .ref 70), (1, .int l1), (2, .int l2)] [.int 0] _ 0 0 _
                    refine x_iret rfl rfl ?_
                    exact hQ _ _ (jr_of jk_0 (by omega)) J Sm _ _ qu159 qu160 (by omega) ((congrArg Prod.fst D).symm.trans (show 0 = (0 : Int32).toInt from by have := jk_0; omega)) (congrArg Prod.snd D).symm
              ·
                rw [if_pos (by omega)] at D
                refine x_iconst (v := 1) rfl ki_1 ?_
                refine x_goto (tgt := 12) rfl rfl ?_
                refine x_zret rfl rfl (by decide) ?_
                show jX m_X5_readLine 5 0 0 72 [(0, .ref 70), (1, .int l1), (2, .int l2)] [.int 1] _ 0 0 _
                refine x_ifeq (tgt := 77) rfl rfl (ti_eq jk_1 jk_0 (br_f (by omega) ?_))
                refine x_iconst (v := 1) rfl ki_1 ?_
                refine x_iret rfl rfl ?_
                exact hQ _ _ (jr_of jk_1 (by omega)) J Sm _ _ qu92 qu93 (by omega) ((congrArg Prod.fst D).symm.trans (show 1 = (1 : Int32).toInt from by have := jk_1; omega)) (congrArg Prod.snd D).symm
      ·
        rw [if_pos (by omega)] at D
        refine x_iconst (v := 0) rfl ki_0 ?_
        refine x_zret rfl rfl (by decide) ?_
        show jX m_X5_readLine 5 0 0 60 [(0, .ref 70), (1, .int l1), (2, .int l2)] [.int 0] _ 0 0 _
        refine x_ifne (tgt := 65) rfl rfl (ti_ne jk_0 jk_0 (bn_f (by omega) ?_))
        refine x_iconst (v := (-1)) rfl ki_m1 ?_
        refine x_iret rfl rfl ?_
        exact hQ _ _ (jr_of jk_m1 (by omega)) J Sm _ _ qu11 qu12 (by omega) ((congrArg Prod.fst D).symm.trans (show (-1) = ((-1) : Int32).toInt from by have := jk_m1; omega)) (congrArg Prod.snd D).symm
set_option maxRecDepth 100000 in
set_option maxHeartbeats 4000000 in
theorem ct_X5_readLine_r70d_2 {Dy : jH → Prop} {h0 : jH} {Q : Option Value → jH → Prop} {dr : (Int × jW)} (hD : jDk Dy) (hQ : ∀ (v : Int32) hx9, (-1) ≤ v.toInt ∧ v.toInt ≤ 1 → jJ jSgX Dy hx9 → jSm fp_X5_readLine_r70d h0 hx9 → ∀ u0 u1 : Int32, jiv hx9 68 5 = u0 → jiv hx9 68 3 = u1 → (u0.toInt ≠ 3 ∨ u1.toInt ≤ 399) → dr.1 = v.toInt → dr.2 = vw hx9 → Q (some (.int v)) hx9) : ∀ r : Nat, ∀ (l1 : Int32) (l2 : Int32) (g0 : Int32) (g1 : Int32) (h : jH), 84 - l2.toInt < (r : Int) → 1 ≤ l1.toInt ∧ l1.toInt ≤ 3 → 0 ≤ l2.toInt ∧ l2.toInt ≤ 84 → 0 ≤ g0.toInt ∧ g0.toInt ≤ 400 → 0 ≤ g1.toInt ∧ g1.toInt ≤ 3 → (g1.toInt ≠ 3 ∨ g0.toInt ≤ 399) → jiv h 68 3 = g0 → jiv h 68 5 = g1 → jJ jSgX Dy h → jSm fp_X5_readLine_r70d h0 h → d_X5_readLine_r70d_2 r l1.toInt l2.toInt (vw h) = dr → jX m_X5_readLine 5 0 0 2 [(0, .ref 70), (1, .int l1), (2, .int l2)] [] h 0 0 Q := by
  intro r
  induction r with
  | zero =>
    intro l1 l2 g0 g1 h hm y0 y1 y2 y3 y4 z0 z1  J Sm D
    exfalso
    omega
  | succ r ih =>
    intro l1 l2 g0 g1 h hm y0 y1 y2 y3 y4 z0 z1  J Sm D
    rw [d_X5_readLine_r70d_2.eq_2] at D
    try rw [vrf z0] at D
    try rw [vrf z1] at D
    refine x_iloadn (x := l2) rfl rfl ?_
    refine x_aloadn (x := 70) rfl rfl ?_
    refine z_getR (N := 9) (b := 71) 5 2 rfl f_5_9 rfl J rfl 8962 ⟨rfl, rfl⟩ rfl ?_
    refine z_alen (N := 84) (v := 84) rfl J rfl rfl (by decide) ?_
    refine x_icge (tgt := 24) rfl rfl (ti_ge rfl jk_84 ⟨fun c1 => ?_, fun c1 => ?_⟩)
    ·
      rw [if_pos (by omega)] at D
      refine x_aloadn (x := 70) rfl rfl ?_
      refine z_getR (N := 9) (b := 68) 5 1 rfl f_5_39 rfl J rfl 8961 ⟨rfl, rfl⟩ rfl ?_
      refine x_inv (N := m_X9_begin) (As := []) (b := 68) (st := []) (dx9 := 4) (mc := 0) (ms := 0) (host := "") 9 rfl t_X9_begin ⟨Or.inl q_5_43, i_X9_begin.1, i_X9_begin.2⟩ ⟨by decide, rfl⟩ (congrArg Prod.fst (J.1.1 68 (9, 6) rfl)) rfl (by decide) rfl rfl ⟨by decide, by decide⟩ (jC.of rfl k_X9_begin rfl ?_)
      show jX m_X9_begin 4 0 0 0 [(0, .ref 68)] [] _ 0 0 _
      refine x_aloadn (x := 68) rfl rfl ?_
      refine x_iconst (v := (-1)) rfl ki_m1 ?_
      refine z_putI (N := 6) (w := (-1)) 9 2 rfl f_9_19 rfl (jfin_no TX9 RX9 6 rfl rfl) hD J Sm rfl rfl jk_m1 (pw_68_2 (by omega)) rfl (fun h w2 J Sm => ?_)
      rw [vwf w2 (show (-1) = ((-1) : Int32).toInt from by have := jk_m1; omega)] at D
      refine x_aloadn (x := 68) rfl rfl ?_
      refine x_iconst (v := 0) rfl ki_0 ?_
      refine z_putI (N := 6) (w := 0) 9 4 rfl f_9_25 rfl (jfin_no TX9 RX9 6 rfl rfl) hD J Sm rfl rfl jk_0 (pw_68_4 (by omega)) rfl (fun h w3 J Sm => ?_)
      rw [vwf w3 (show 0 = (0 : Int32).toInt from by have := jk_0; omega)] at D
      refine x_aloadn (x := 68) rfl rfl ?_
      refine x_inv (N := m_X9_step) (As := []) (b := 68) (st := []) (dx9 := 2) (mc := 0) (ms := 0) (host := "") 9 rfl t_X9_step ⟨Or.inl q_9_31, i_X9_step.1, i_X9_step.2⟩ ⟨by decide, rfl⟩ (congrArg Prod.fst (J.1.1 68 (9, 6) rfl)) rfl (by decide) rfl rfl ⟨by decide, by decide⟩ (sf_X9_step_r68d  hD J (jmo w3 rfl (jmo w2 rfl z1)) (jmo w3 rfl (jmo w2 rfl z0)) (by omega) rfl  (fun h J S4 u5 u6 qu5 qu6 ru5 X7 => ?_))
      have Sm := jSm_tr rfl Sm S4
      rw [X7] at D
      have eu5 := (show 0 ≤ u5.toInt ∧ u5.toInt ≤ 3 from qu5 ▸ jrg_f J sg_68_5_6_1_0_1)
      try rw [vrf qu5] at D
      have eu6 := (show 0 ≤ u6.toInt ∧ u6.toInt ≤ 400 from qu6 ▸ jrg_f J sg_68_3_4_1_0_1)
      try rw [vrf qu6] at D
      show jX m_X9_begin 4 0 0 14 [(0, .ref 68)] [] _ 0 0 _
      refine x_vret rfl rfl ?_
      show jX m_X5_readLine 5 0 0 31 [(0, .ref 70), (1, .int l1), (2, .int l2)] [] _ 0 0 _
      refine x_aloadn (x := 70) rfl rfl ?_
      refine z_getR (N := 9) (b := 68) 5 1 rfl f_5_39 rfl J rfl 8961 ⟨rfl, rfl⟩ rfl ?_
      refine x_bipush (v := 46) rfl kb_46 ?_
      refine x_inv (N := m_X9_isSign) (As := [.int 46]) (b := 68) (st := []) (dx9 := 1) (mc := 0) (ms := 0) (host := "") 9 rfl t_X9_isSign ⟨Or.inl q_5_48, i_X9_isSign.1, i_X9_isSign.2⟩ ⟨by decide, rfl⟩ (congrArg Prod.fst (J.1.1 68 (9, 6) rfl)) rfl (by decide) rfl rfl ⟨by decide, by decide⟩ (sf_X9_isSign_r68d (jr_of jk_46 (by omega)) hD J qu5 qu6 (by omega) rfl  (fun v13 h ev13 J S8 u9 u10 qu9 qu10 ru9 X11 X12 => ?_))
      have Sm := jSm_tr rfl Sm S8
      try rw [jk_46] at X11
      try rw [X11] at D
      try rw [← X12] at D
      have eu9 := (show 0 ≤ u9.toInt ∧ u9.toInt ≤ 3 from qu9 ▸ jrg_f J sg_68_5_6_1_0_1)
      have Luu9 := congrArg Int32.toInt (((jmc S8 rfl qu5)).symm.trans qu9)
      try rw [Luu9] at D
      try rw [vrf qu9] at D
      have eu10 := (show 0 ≤ u10.toInt ∧ u10.toInt ≤ 400 from qu10 ▸ jrg_f J sg_68_3_4_1_0_1)
      have Luu10 := congrArg Int32.toInt (((jmc S8 rfl qu6)).symm.trans qu10)
      try rw [Luu10] at D
      try rw [vrf qu10] at D
      show jX m_X5_readLine 5 0 0 40 [(0, .ref 70), (1, .int l1), (2, .int l2)] [.int v13] _ 0 0 _
      refine x_ifeq (tgt := 48) rfl rfl (ti_eq rfl jk_0 ⟨fun c14 => ?_, fun c14 => ?_⟩)
      ·
        rw [if_pos (by omega)] at D
        refine x_iconst (v := 0) rfl ki_0 ?_
        refine x_istoren (lsx9 := [(2, .int 0), (0, .ref 70), (1, .int l1)]) rfl rfl rfl ?_
        exact jX.sub (jsb_c rfl (jsb_c rfl (jsb_c rfl jsb_n))) (ct_X5_readLine_r70d_50 hD hQ  3 l1 0 u10 u9 h (by have := jk_0; omega) (jr_of rfl (by omega)) (jr_of jk_0 (by omega)) (jr_of rfl (by omega)) (jr_of rfl (by omega)) (by omega) qu10 qu9 J Sm (by rw [jk_0]; exact D))
      ·
        rw [if_neg (by omega)] at D
        refine x_aloadn (x := 70) rfl rfl ?_
        refine x_inv (N := m_X5_readStop) (As := []) (b := 70) (st := []) (dx9 := 4) (mc := 0) (ms := 0) (host := "") 5 rfl t_X5_readStop ⟨Or.inl q_5_52, i_X5_readStop.1, i_X5_readStop.2⟩ ⟨by decide, rfl⟩ (congrArg Prod.fst (J.1.1 70 (5, 9) rfl)) rfl (by decide) rfl rfl ⟨by decide, by decide⟩ (jC.of rfl k_X5_readStop rfl ?_)
        show jX m_X5_readStop 4 0 0 0 [(0, .ref 70)] [] _ 0 0 _
        refine x_aloadn (x := 70) rfl rfl ?_
        refine z_getR (N := 9) (b := 68) 5 1 rfl f_5_39 rfl J rfl 8961 ⟨rfl, rfl⟩ rfl ?_
        refine x_inv (N := m_X9_step) (As := []) (b := 68) (st := []) (dx9 := 2) (mc := 0) (ms := 0) (host := "") 9 rfl t_X9_step ⟨Or.inl q_5_67, i_X9_step.1, i_X9_step.2⟩ ⟨by decide, rfl⟩ (congrArg Prod.fst (J.1.1 68 (9, 6) rfl)) rfl (by decide) rfl rfl ⟨by decide, by decide⟩ (sf_X9_step_r68d  hD J qu9 qu10 (by omega) rfl  (fun h J S15 u16 u17 qu16 qu17 ru16 X18 => ?_))
        have Sm := jSm_tr rfl Sm S15
        rw [X18] at D
        have eu16 := (show 0 ≤ u16.toInt ∧ u16.toInt ≤ 3 from qu16 ▸ jrg_f J sg_68_5_6_1_0_1)
        try rw [vrf qu16] at D
        have eu17 := (show 0 ≤ u17.toInt ∧ u17.toInt ≤ 400 from qu17 ▸ jrg_f J sg_68_3_4_1_0_1)
        try rw [vrf qu17] at D
        show jX m_X5_readStop 4 0 0 7 [(0, .ref 70)] [] _ 0 0 _
        refine x_aloadn (x := 70) rfl rfl ?_
        refine z_getR (N := 9) (b := 68) 5 1 rfl f_5_39 rfl J rfl 8961 ⟨rfl, rfl⟩ rfl ?_
        refine x_inv (N := m_X9_isEnd) (As := []) (b := 68) (st := []) (dx9 := 3) (mc := 0) (ms := 0) (host := "") 9 rfl t_X9_isEnd ⟨Or.inl q_5_60, i_X9_isEnd.1, i_X9_isEnd.2⟩ ⟨by decide, rfl⟩ (congrArg Prod.fst (J.1.1 68 (9, 6) rfl)) rfl (by decide) rfl rfl ⟨by decide, by decide⟩ (jC.of rfl k_X9_isEnd rfl ?_)
        show jX m_X9_isEnd 3 0 0 0 [(0, .ref 68)] [] _ 0 0 _
        refine x_aloadn (x := 68) rfl rfl ?_
        refine z_getM (N := 6) (v := u16) 9 5 rfl f_9_28 rfl J rfl qu16 ?_
        refine x_ifne (tgt := 11) rfl rfl (ti_ne rfl jk_0 ⟨fun c19 => ?_, fun c19 => ?_⟩)
        ·
          rw [if_neg (by omega)] at D
          refine x_iconst (v := 0) rfl ki_0 ?_
          refine x_zret rfl rfl (by decide) ?_
          show jX m_X5_readStop 4 0 0 14 [(0, .ref 70)] [.int 0] _ 0 0 _
          refine x_ifeq (tgt := 19) rfl rfl (ti_eq jk_0 jk_0 (br_t (by omega) ?_))
          refine x_aloadn (x := 70) rfl rfl ?_
          refine z_getR (N := 9) (b := 68) 5 1 rfl f_5_39 rfl J rfl 8961 ⟨rfl, rfl⟩ rfl ?_
          refine x_inv (N := m_X9_blame) (As := []) (b := 68) (st := []) (dx9 := 3) (mc := 0) (ms := 0) (host := "") 9 rfl t_X9_blame ⟨Or.inl q_5_64, i_X9_blame.1, i_X9_blame.2⟩ ⟨by decide, rfl⟩ (congrArg Prod.fst (J.1.1 68 (9, 6) rfl)) rfl (by decide) rfl rfl ⟨by decide, by decide⟩ (jC.of rfl k_X9_blame rfl ?_)
          show jX m_X9_blame 3 0 0 0 [(0, .ref 68)] [] _ 0 0 _
          refine x_aloadn (x := 68) rfl rfl ?_
          refine x_aloadn (x := 68) rfl rfl ?_
          refine z_getM (N := 6) (v := u17) 9 3 rfl f_9_22 rfl J rfl qu17 ?_
          refine z_putI (N := 6) (w := u17.toInt) 9 2 rfl f_9_19 rfl (jfin_no TX9 RX9 6 rfl rfl) hD J Sm rfl rfl rfl (pw_68_2 (by omega)) rfl (fun h w20 J Sm => ?_)
          rw [vwf w20 (show u17.toInt = u17.toInt from by omega)] at D
          refine x_iconst (v := 0) rfl ki_0 ?_
          refine x_zret rfl rfl (by decide) ?_
          show jX m_X5_readStop 4 0 0 26 [(0, .ref 70)] [.int 0] _ 0 0 _
          refine x_pop rfl rfl ?_
          refine x_iconst (v := (-1)) rfl ki_m1 ?_
          refine x_iret rfl rfl ?_
          show jX m_X5_readLine 5 0 0 47 [(0, .ref 70), (1, .int l1), (2, .int l2)] [.int (-1)] _ 0 0 _
          refine x_iret rfl rfl ?_
          exact hQ _ _ (jr_of jk_m1 (by omega)) J Sm _ _ (jmo w20 rfl qu16) (jmo w20 rfl qu17) (by omega) ((congrArg Prod.fst D).symm.trans (show (-1) = ((-1) : Int32).toInt from by have := jk_m1; omega)) (congrArg Prod.snd D).symm
        ·
          rw [if_pos (by omega)] at D
          refine x_iconst (v := 1) rfl ki_1 ?_
          refine x_goto (tgt := 12) rfl rfl ?_
          refine x_zret rfl rfl (by decide) ?_
          show jX m_X5_readStop 4 0 0 14 [(0, .ref 70)] [.int 1] _ 0 0 _
          refine x_ifeq (tgt := 19) rfl rfl (ti_eq jk_1 jk_0 (br_f (by omega) ?_))
          refine x_iconst (v := 0) rfl ki_0 ?_
          refine x_iret rfl rfl ?_
          show jX m_X5_readLine 5 0 0 47 [(0, .ref 70), (1, .int l1), (2, .int l2)] [.int 0] _ 0 0 _
          refine x_iret rfl rfl ?_
          exact hQ _ _ (jr_of jk_0 (by omega)) J Sm _ _ qu16 qu17 (by omega) ((congrArg Prod.fst D).symm.trans (show 0 = (0 : Int32).toInt from by have := jk_0; omega)) (congrArg Prod.snd D).symm
    ·
      rw [if_neg (by omega)] at D
      refine x_aloadn (x := 70) rfl rfl ?_
      refine z_getR (N := 9) (b := 71) 5 2 rfl f_5_9 rfl J rfl 8962 ⟨rfl, rfl⟩ rfl ?_
      refine x_iloadn (x := l2) rfl rfl ?_
      refine x_iconst (v := 0) rfl ki_0 ?_
      refine z_iast (N := 84) (l := 0) (u := 84) (w := 0) rfl hD J Sm rfl rfl rfl (by omega) jk_0 (wr_71 (fun q1 q2 q3 q4 => by omega) (fun q1 q2 q3 q4 => by omega) (fun q1 q2 q3 q4 => by omega) (fun q1 q2 q3 q4 => by omega)) rfl (fun h w21 J Sm => ?_)
      rw [vww w21 (show l2.toInt = l2.toInt from by omega) (show 0 = (0 : Int32).toInt from by have := jk_0; omega)] at D
      refine z_iinc (x := l2) (lsx9 := fun v22 => [(2, .int v22), (0, .ref 70), (1, .int l1)]) rfl rfl rfl jko_1 (by omega) rfl (fun _ => rfl) (fun v22 ev22 => ?_)
      refine x_goto (tgt := 2) rfl rfl ?_
      try rw [show (l2.toInt + 1) = v22.toInt from by omega] at D
      exact jX.sub (jsb_c rfl (jsb_c rfl (jsb_c rfl jsb_n))) (ih l1 v22 g0 g1 h (by omega) (jr_of rfl (by omega)) (jr_of rfl (by omega)) (jr_of rfl (by omega)) (jr_of rfl (by omega)) (by omega) (jmo w21 rfl z0) (jmo w21 rfl z1) J Sm D)
set_option maxRecDepth 100000 in
set_option maxHeartbeats 4000000 in
theorem sf_X5_readLine_r70d {Dy : jH → Prop} {h : jH} {Q : Option Value → jH → Prop} {dr : (Int × jW)} {a1 : Int32} (y1 : 1 ≤ a1.toInt ∧ a1.toInt ≤ 3) (hD : jDk Dy) (J : jJ jSgX Dy h) {p0 p1 : Int32} (zp0 : jiv h 68 5 = p0) (zp1 : jiv h 68 3 = p1) (rl_p0 : (p0.toInt ≠ 3 ∨ p1.toInt ≤ 399)) (D : d_X5_readLine_r70d a1.toInt (vw h) = dr) (hQ : ∀ (v : Int32) hx9, (-1) ≤ v.toInt ∧ v.toInt ≤ 1 → jJ jSgX Dy hx9 → jSm fp_X5_readLine_r70d h hx9 → ∀ u0 u1 : Int32, jiv hx9 68 5 = u0 → jiv hx9 68 3 = u1 → (u0.toInt ≠ 3 ∨ u1.toInt ≤ 399) → dr.1 = v.toInt → dr.2 = vw hx9 → Q (some (.int v)) hx9) : jC m_X5_readLine 5 0 0 [.ref 70, .int a1] h Q := by
  refine jC.of rfl k_X5_readLine rfl ?_
  have Sm := jSm_rf fp_X5_readLine_r70d h
  have ep0 := (show 0 ≤ p0.toInt ∧ p0.toInt ≤ 3 from zp0 ▸ jrg_f J sg_68_5_6_1_0_1)
  have ep1 := (show 0 ≤ p1.toInt ∧ p1.toInt ≤ 400 from zp1 ▸ jrg_f J sg_68_3_4_1_0_1)
  show jX m_X5_readLine 5 0 0 0 [(0, .ref 70), (1, .int a1)] [] _ 0 0 _
  unfold d_X5_readLine_r70d at D
  try rw [vrf zp0] at D
  try rw [vrf zp1] at D
  refine x_iconst (v := 0) rfl ki_0 ?_
  refine x_istoren (lsx9 := [(2, .int 0), (0, .ref 70), (1, .int a1)]) rfl rfl rfl ?_
  exact jX.sub (jsb_c rfl (jsb_c rfl (jsb_c rfl jsb_n))) (ct_X5_readLine_r70d_2 hD hQ  85 a1 0 p1 p0 h (by have := jk_0; omega) (jr_of rfl (by omega)) (jr_of jk_0 (by omega)) (jr_of rfl (by omega)) (jr_of rfl (by omega)) (by omega) zp1 zp0 J Sm (by rw [jk_0]; exact D))
def fp_X8_put_r33_c0d : jFp := [(34, 0, 1200)]
set_option maxRecDepth 100000 in
set_option maxHeartbeats 4000000 in
theorem ct_X8_put_r33_c0d_38 {Dy : jH → Prop} {h0 : jH} {Q : Option Value → jH → Prop} {dr : jW} (hD : jDk Dy) (hQ : ∀ hx9, jJ jSgX Dy hx9 → jSm fp_X8_put_r33_c0d h0 hx9 → dr = vw hx9 → Q none hx9) : ∀ (h : jH), jJ jSgX Dy h → jSm fp_X8_put_r33_c0d h0 h → d_X8_put_r33_c0d_38  (vw h) = dr → jX m_X8_put 1 0 0 38 [] [] h 0 0 Q := by
  intro  h    J Sm D
  unfold d_X8_put_r33_c0d_38 at D
  refine x_vret rfl rfl ?_
  exact hQ _ J Sm D.symm
set_option maxRecDepth 100000 in
set_option maxHeartbeats 4000000 in
theorem sf_X8_put_r33_c0d {Dy : jH → Prop} {h : jH} {Q : Option Value → jH → Prop} {dr : jW} {a1 : Int32} {a3 : Int32} (y1 : 0 ≤ a1.toInt ∧ a1.toInt ≤ 199) (y3 : 0 ≤ a3.toInt ∧ a3.toInt ≤ 146399) (hD : jDk Dy) (J : jJ jSgX Dy h) (D : d_X8_put_r33_c0d a1.toInt a3.toInt (vw h) = dr) (hQ : ∀ hx9, jJ jSgX Dy hx9 → jSm fp_X8_put_r33_c0d h hx9 → dr = vw hx9 → Q none hx9) : jC m_X8_put 1 0 0 [.ref 33, .int a1, .int 0, .int a3] h Q := by
  refine jC.of rfl k_X8_put rfl ?_
  have Sm := jSm_rf fp_X8_put_r33_c0d h
  show jX m_X8_put 1 0 0 0 [(0, .ref 33), (1, .int a1), (2, .int 0), (3, .int a3)] [] _ 0 0 _
  unfold d_X8_put_r33_c0d at D
  refine x_iloadn (x := a1) rfl rfl ?_
  refine x_iflt (tgt := 38) rfl rfl (ti_lt rfl jk_0 (br_f (by omega) ?_))
  refine x_iloadn (x := a1) rfl rfl ?_
  refine x_aloadn (x := 33) rfl rfl ?_
  refine z_getI (N := 4) 8 3 rfl f_8_7 rfl J rfl sg_33_3_4_1_0_1 (fun v1 qv1 ev1 => ?_)
  try rw [vrf qv1] at D
  refine x_icge (tgt := 38) rfl rfl (ti_ge rfl rfl ⟨fun c2 => ?_, fun c2 => ?_⟩)
  ·
    rw [if_pos (by omega)] at D
    exact jX.sub jsb_n (ct_X8_put_r33_c0d_38 hD hQ  h J Sm D)
  ·
    rw [if_neg (by omega)] at D
    refine x_iloadn (x := 0) rfl rfl ?_
    refine x_iflt (tgt := 38) rfl rfl (ti_lt jk_0 jk_0 (br_f (by omega) ?_))
    refine x_iloadn (x := 0) rfl rfl ?_
    refine x_aloadn (x := 33) rfl rfl ?_
    refine z_getC (N := 4) (v := 6) 8 0 rfl f_8_19 rfl J rfl sg_33_0_1_1_0_1 jk_6 ?_
    refine x_icge (tgt := 38) rfl rfl (ti_ge jk_0 jk_6 (br_f (by omega) ?_))
    refine x_aloadn (x := 33) rfl rfl ?_
    refine z_getR (N := 4) (b := 34) 8 2 rfl f_8_25 rfl J rfl 4226 ⟨rfl, rfl⟩ rfl ?_
    refine x_iloadn (x := a1) rfl rfl ?_
    refine x_aloadn (x := 33) rfl rfl ?_
    refine z_getC (N := 4) (v := 6) 8 0 rfl f_8_19 rfl J rfl sg_33_0_1_1_0_1 jk_6 ?_
    refine z_imul rfl rfl jk_6 (by omega) (fun v3 ev3 => ?_)
    refine x_iloadn (x := 0) rfl rfl ?_
    refine z_iadd rfl rfl jk_0 (by omega) (fun v4 ev4 => ?_)
    refine x_iloadn (x := a3) rfl rfl ?_
    refine z_iast (N := 1200) (l := 0) (u := 1200) (w := a3.toInt) rfl hD J Sm rfl rfl rfl (by omega) rfl (wr_34 (fun q1 q2 q3 q4 => by omega) (fun q1 q2 q3 q4 => by omega) (fun q1 q2 q3 q4 => by omega) (fun q1 q2 q3 q4 => by omega) (fun q1 q2 q3 q4 => by omega)) rfl (fun h w5 J Sm => ?_)
    rw [vww w5 (show ((a1.toInt * 6) + 0) = v4.toInt from by omega) (show a3.toInt = a3.toInt from by omega)] at D
    exact jX.sub jsb_n (ct_X8_put_r33_c0d_38 hD hQ  h J Sm D)
def fp_X8_put_r33_c1d : jFp := [(34, 0, 1200)]
set_option maxRecDepth 100000 in
set_option maxHeartbeats 4000000 in
theorem ct_X8_put_r33_c1d_38 {Dy : jH → Prop} {h0 : jH} {Q : Option Value → jH → Prop} {dr : jW} (hD : jDk Dy) (hQ : ∀ hx9, jJ jSgX Dy hx9 → jSm fp_X8_put_r33_c1d h0 hx9 → dr = vw hx9 → Q none hx9) : ∀ (h : jH), jJ jSgX Dy h → jSm fp_X8_put_r33_c1d h0 h → d_X8_put_r33_c1d_38  (vw h) = dr → jX m_X8_put 1 0 0 38 [] [] h 0 0 Q := by
  intro  h    J Sm D
  unfold d_X8_put_r33_c1d_38 at D
  refine x_vret rfl rfl ?_
  exact hQ _ J Sm D.symm
set_option maxRecDepth 100000 in
set_option maxHeartbeats 4000000 in
theorem sf_X8_put_r33_c1d {Dy : jH → Prop} {h : jH} {Q : Option Value → jH → Prop} {dr : jW} {a1 : Int32} {a3 : Int32} (y1 : 0 ≤ a1.toInt ∧ a1.toInt ≤ 199) (y3 : 0 ≤ a3.toInt ∧ a3.toInt ≤ 146399) (hD : jDk Dy) (J : jJ jSgX Dy h) (D : d_X8_put_r33_c1d a1.toInt a3.toInt (vw h) = dr) (hQ : ∀ hx9, jJ jSgX Dy hx9 → jSm fp_X8_put_r33_c1d h hx9 → dr = vw hx9 → Q none hx9) : jC m_X8_put 1 0 0 [.ref 33, .int a1, .int 1, .int a3] h Q := by
  refine jC.of rfl k_X8_put rfl ?_
  have Sm := jSm_rf fp_X8_put_r33_c1d h
  show jX m_X8_put 1 0 0 0 [(0, .ref 33), (1, .int a1), (2, .int 1), (3, .int a3)] [] _ 0 0 _
  unfold d_X8_put_r33_c1d at D
  refine x_iloadn (x := a1) rfl rfl ?_
  refine x_iflt (tgt := 38) rfl rfl (ti_lt rfl jk_0 (br_f (by omega) ?_))
  refine x_iloadn (x := a1) rfl rfl ?_
  refine x_aloadn (x := 33) rfl rfl ?_
  refine z_getI (N := 4) 8 3 rfl f_8_7 rfl J rfl sg_33_3_4_1_0_1 (fun v1 qv1 ev1 => ?_)
  try rw [vrf qv1] at D
  refine x_icge (tgt := 38) rfl rfl (ti_ge rfl rfl ⟨fun c2 => ?_, fun c2 => ?_⟩)
  ·
    rw [if_pos (by omega)] at D
    exact jX.sub jsb_n (ct_X8_put_r33_c1d_38 hD hQ  h J Sm D)
  ·
    rw [if_neg (by omega)] at D
    refine x_iloadn (x := 1) rfl rfl ?_
    refine x_iflt (tgt := 38) rfl rfl (ti_lt jk_1 jk_0 (br_f (by omega) ?_))
    refine x_iloadn (x := 1) rfl rfl ?_
    refine x_aloadn (x := 33) rfl rfl ?_
    refine z_getC (N := 4) (v := 6) 8 0 rfl f_8_19 rfl J rfl sg_33_0_1_1_0_1 jk_6 ?_
    refine x_icge (tgt := 38) rfl rfl (ti_ge jk_1 jk_6 (br_f (by omega) ?_))
    refine x_aloadn (x := 33) rfl rfl ?_
    refine z_getR (N := 4) (b := 34) 8 2 rfl f_8_25 rfl J rfl 4226 ⟨rfl, rfl⟩ rfl ?_
    refine x_iloadn (x := a1) rfl rfl ?_
    refine x_aloadn (x := 33) rfl rfl ?_
    refine z_getC (N := 4) (v := 6) 8 0 rfl f_8_19 rfl J rfl sg_33_0_1_1_0_1 jk_6 ?_
    refine z_imul rfl rfl jk_6 (by omega) (fun v3 ev3 => ?_)
    refine x_iloadn (x := 1) rfl rfl ?_
    refine z_iadd rfl rfl jk_1 (by omega) (fun v4 ev4 => ?_)
    refine x_iloadn (x := a3) rfl rfl ?_
    refine z_iast (N := 1200) (l := 0) (u := 1200) (w := a3.toInt) rfl hD J Sm rfl rfl rfl (by omega) rfl (wr_34 (fun q1 q2 q3 q4 => by omega) (fun q1 q2 q3 q4 => by omega) (fun q1 q2 q3 q4 => by omega) (fun q1 q2 q3 q4 => by omega) (fun q1 q2 q3 q4 => by omega)) rfl (fun h w5 J Sm => ?_)
    rw [vww w5 (show ((a1.toInt * 6) + 1) = v4.toInt from by omega) (show a3.toInt = a3.toInt from by omega)] at D
    exact jX.sub jsb_n (ct_X8_put_r33_c1d_38 hD hQ  h J Sm D)
def fp_X8_put_r33_c2d : jFp := [(34, 0, 1200)]
set_option maxRecDepth 100000 in
set_option maxHeartbeats 4000000 in
theorem ct_X8_put_r33_c2d_38 {Dy : jH → Prop} {h0 : jH} {Q : Option Value → jH → Prop} {dr : jW} (hD : jDk Dy) (hQ : ∀ hx9, jJ jSgX Dy hx9 → jSm fp_X8_put_r33_c2d h0 hx9 → dr = vw hx9 → Q none hx9) : ∀ (h : jH), jJ jSgX Dy h → jSm fp_X8_put_r33_c2d h0 h → d_X8_put_r33_c2d_38  (vw h) = dr → jX m_X8_put 1 0 0 38 [] [] h 0 0 Q := by
  intro  h    J Sm D
  unfold d_X8_put_r33_c2d_38 at D
  refine x_vret rfl rfl ?_
  exact hQ _ J Sm D.symm
set_option maxRecDepth 100000 in
set_option maxHeartbeats 4000000 in
theorem sf_X8_put_r33_c2d {Dy : jH → Prop} {h : jH} {Q : Option Value → jH → Prop} {dr : jW} {a1 : Int32} {a3 : Int32} (y1 : 0 ≤ a1.toInt ∧ a1.toInt ≤ 199) (y3 : 0 ≤ a3.toInt ∧ a3.toInt ≤ 5) (hD : jDk Dy) (J : jJ jSgX Dy h) (D : d_X8_put_r33_c2d a1.toInt a3.toInt (vw h) = dr) (hQ : ∀ hx9, jJ jSgX Dy hx9 → jSm fp_X8_put_r33_c2d h hx9 → dr = vw hx9 → Q none hx9) : jC m_X8_put 1 0 0 [.ref 33, .int a1, .int 2, .int a3] h Q := by
  refine jC.of rfl k_X8_put rfl ?_
  have Sm := jSm_rf fp_X8_put_r33_c2d h
  show jX m_X8_put 1 0 0 0 [(0, .ref 33), (1, .int a1), (2, .int 2), (3, .int a3)] [] _ 0 0 _
  unfold d_X8_put_r33_c2d at D
  refine x_iloadn (x := a1) rfl rfl ?_
  refine x_iflt (tgt := 38) rfl rfl (ti_lt rfl jk_0 (br_f (by omega) ?_))
  refine x_iloadn (x := a1) rfl rfl ?_
  refine x_aloadn (x := 33) rfl rfl ?_
  refine z_getI (N := 4) 8 3 rfl f_8_7 rfl J rfl sg_33_3_4_1_0_1 (fun v1 qv1 ev1 => ?_)
  try rw [vrf qv1] at D
  refine x_icge (tgt := 38) rfl rfl (ti_ge rfl rfl ⟨fun c2 => ?_, fun c2 => ?_⟩)
  ·
    rw [if_pos (by omega)] at D
    exact jX.sub jsb_n (ct_X8_put_r33_c2d_38 hD hQ  h J Sm D)
  ·
    rw [if_neg (by omega)] at D
    refine x_iloadn (x := 2) rfl rfl ?_
    refine x_iflt (tgt := 38) rfl rfl (ti_lt jk_2 jk_0 (br_f (by omega) ?_))
    refine x_iloadn (x := 2) rfl rfl ?_
    refine x_aloadn (x := 33) rfl rfl ?_
    refine z_getC (N := 4) (v := 6) 8 0 rfl f_8_19 rfl J rfl sg_33_0_1_1_0_1 jk_6 ?_
    refine x_icge (tgt := 38) rfl rfl (ti_ge jk_2 jk_6 (br_f (by omega) ?_))
    refine x_aloadn (x := 33) rfl rfl ?_
    refine z_getR (N := 4) (b := 34) 8 2 rfl f_8_25 rfl J rfl 4226 ⟨rfl, rfl⟩ rfl ?_
    refine x_iloadn (x := a1) rfl rfl ?_
    refine x_aloadn (x := 33) rfl rfl ?_
    refine z_getC (N := 4) (v := 6) 8 0 rfl f_8_19 rfl J rfl sg_33_0_1_1_0_1 jk_6 ?_
    refine z_imul rfl rfl jk_6 (by omega) (fun v3 ev3 => ?_)
    refine x_iloadn (x := 2) rfl rfl ?_
    refine z_iadd rfl rfl jk_2 (by omega) (fun v4 ev4 => ?_)
    refine x_iloadn (x := a3) rfl rfl ?_
    refine z_iast (N := 1200) (l := 0) (u := 1200) (w := a3.toInt) rfl hD J Sm rfl rfl rfl (by omega) rfl (wr_34 (fun q1 q2 q3 q4 => by omega) (fun q1 q2 q3 q4 => by omega) (fun q1 q2 q3 q4 => by omega) (fun q1 q2 q3 q4 => by omega) (fun q1 q2 q3 q4 => by omega)) rfl (fun h w5 J Sm => ?_)
    rw [vww w5 (show ((a1.toInt * 6) + 2) = v4.toInt from by omega) (show a3.toInt = a3.toInt from by omega)] at D
    exact jX.sub jsb_n (ct_X8_put_r33_c2d_38 hD hQ  h J Sm D)
def fp_X8_put_r33_c3d : jFp := [(34, 0, 1200)]
set_option maxRecDepth 100000 in
set_option maxHeartbeats 4000000 in
theorem ct_X8_put_r33_c3d_38 {Dy : jH → Prop} {h0 : jH} {Q : Option Value → jH → Prop} {dr : jW} (hD : jDk Dy) (hQ : ∀ hx9, jJ jSgX Dy hx9 → jSm fp_X8_put_r33_c3d h0 hx9 → dr = vw hx9 → Q none hx9) : ∀ (h : jH), jJ jSgX Dy h → jSm fp_X8_put_r33_c3d h0 h → d_X8_put_r33_c3d_38  (vw h) = dr → jX m_X8_put 1 0 0 38 [] [] h 0 0 Q := by
  intro  h    J Sm D
  unfold d_X8_put_r33_c3d_38 at D
  refine x_vret rfl rfl ?_
  exact hQ _ J Sm D.symm
set_option maxRecDepth 100000 in
set_option maxHeartbeats 4000000 in
theorem sf_X8_put_r33_c3d {Dy : jH → Prop} {h : jH} {Q : Option Value → jH → Prop} {dr : jW} {a1 : Int32} {a3 : Int32} (y1 : 0 ≤ a1.toInt ∧ a1.toInt ≤ 199) (y3 : 0 ≤ a3.toInt ∧ a3.toInt ≤ 15) (hD : jDk Dy) (J : jJ jSgX Dy h) (D : d_X8_put_r33_c3d a1.toInt a3.toInt (vw h) = dr) (hQ : ∀ hx9, jJ jSgX Dy hx9 → jSm fp_X8_put_r33_c3d h hx9 → dr = vw hx9 → Q none hx9) : jC m_X8_put 1 0 0 [.ref 33, .int a1, .int 3, .int a3] h Q := by
  refine jC.of rfl k_X8_put rfl ?_
  have Sm := jSm_rf fp_X8_put_r33_c3d h
  show jX m_X8_put 1 0 0 0 [(0, .ref 33), (1, .int a1), (2, .int 3), (3, .int a3)] [] _ 0 0 _
  unfold d_X8_put_r33_c3d at D
  refine x_iloadn (x := a1) rfl rfl ?_
  refine x_iflt (tgt := 38) rfl rfl (ti_lt rfl jk_0 (br_f (by omega) ?_))
  refine x_iloadn (x := a1) rfl rfl ?_
  refine x_aloadn (x := 33) rfl rfl ?_
  refine z_getI (N := 4) 8 3 rfl f_8_7 rfl J rfl sg_33_3_4_1_0_1 (fun v1 qv1 ev1 => ?_)
  try rw [vrf qv1] at D
  refine x_icge (tgt := 38) rfl rfl (ti_ge rfl rfl ⟨fun c2 => ?_, fun c2 => ?_⟩)
  ·
    rw [if_pos (by omega)] at D
    exact jX.sub jsb_n (ct_X8_put_r33_c3d_38 hD hQ  h J Sm D)
  ·
    rw [if_neg (by omega)] at D
    refine x_iloadn (x := 3) rfl rfl ?_
    refine x_iflt (tgt := 38) rfl rfl (ti_lt jk_3 jk_0 (br_f (by omega) ?_))
    refine x_iloadn (x := 3) rfl rfl ?_
    refine x_aloadn (x := 33) rfl rfl ?_
    refine z_getC (N := 4) (v := 6) 8 0 rfl f_8_19 rfl J rfl sg_33_0_1_1_0_1 jk_6 ?_
    refine x_icge (tgt := 38) rfl rfl (ti_ge jk_3 jk_6 (br_f (by omega) ?_))
    refine x_aloadn (x := 33) rfl rfl ?_
    refine z_getR (N := 4) (b := 34) 8 2 rfl f_8_25 rfl J rfl 4226 ⟨rfl, rfl⟩ rfl ?_
    refine x_iloadn (x := a1) rfl rfl ?_
    refine x_aloadn (x := 33) rfl rfl ?_
    refine z_getC (N := 4) (v := 6) 8 0 rfl f_8_19 rfl J rfl sg_33_0_1_1_0_1 jk_6 ?_
    refine z_imul rfl rfl jk_6 (by omega) (fun v3 ev3 => ?_)
    refine x_iloadn (x := 3) rfl rfl ?_
    refine z_iadd rfl rfl jk_3 (by omega) (fun v4 ev4 => ?_)
    refine x_iloadn (x := a3) rfl rfl ?_
    refine z_iast (N := 1200) (l := 0) (u := 1200) (w := a3.toInt) rfl hD J Sm rfl rfl rfl (by omega) rfl (wr_34 (fun q1 q2 q3 q4 => by omega) (fun q1 q2 q3 q4 => by omega) (fun q1 q2 q3 q4 => by omega) (fun q1 q2 q3 q4 => by omega) (fun q1 q2 q3 q4 => by omega)) rfl (fun h w5 J Sm => ?_)
    rw [vww w5 (show ((a1.toInt * 6) + 3) = v4.toInt from by omega) (show a3.toInt = a3.toInt from by omega)] at D
    exact jX.sub jsb_n (ct_X8_put_r33_c3d_38 hD hQ  h J Sm D)
def fp_X8_put_r33_c5d : jFp := [(34, 0, 1200)]
set_option maxRecDepth 100000 in
set_option maxHeartbeats 4000000 in
theorem ct_X8_put_r33_c5d_38 {Dy : jH → Prop} {h0 : jH} {Q : Option Value → jH → Prop} {dr : jW} (hD : jDk Dy) (hQ : ∀ hx9, jJ jSgX Dy hx9 → jSm fp_X8_put_r33_c5d h0 hx9 → dr = vw hx9 → Q none hx9) : ∀ (h : jH), jJ jSgX Dy h → jSm fp_X8_put_r33_c5d h0 h → d_X8_put_r33_c5d_38  (vw h) = dr → jX m_X8_put 1 0 0 38 [] [] h 0 0 Q := by
  intro  h    J Sm D
  unfold d_X8_put_r33_c5d_38 at D
  refine x_vret rfl rfl ?_
  exact hQ _ J Sm D.symm
set_option maxRecDepth 100000 in
set_option maxHeartbeats 4000000 in
theorem sf_X8_put_r33_c5d {Dy : jH → Prop} {h : jH} {Q : Option Value → jH → Prop} {dr : jW} {a1 : Int32} {a3 : Int32} (y1 : 0 ≤ a1.toInt ∧ a1.toInt ≤ 199) (y3 : 0 ≤ a3.toInt ∧ a3.toInt ≤ 1) (hD : jDk Dy) (J : jJ jSgX Dy h) (D : d_X8_put_r33_c5d a1.toInt a3.toInt (vw h) = dr) (hQ : ∀ hx9, jJ jSgX Dy hx9 → jSm fp_X8_put_r33_c5d h hx9 → dr = vw hx9 → Q none hx9) : jC m_X8_put 1 0 0 [.ref 33, .int a1, .int 5, .int a3] h Q := by
  refine jC.of rfl k_X8_put rfl ?_
  have Sm := jSm_rf fp_X8_put_r33_c5d h
  show jX m_X8_put 1 0 0 0 [(0, .ref 33), (1, .int a1), (2, .int 5), (3, .int a3)] [] _ 0 0 _
  unfold d_X8_put_r33_c5d at D
  refine x_iloadn (x := a1) rfl rfl ?_
  refine x_iflt (tgt := 38) rfl rfl (ti_lt rfl jk_0 (br_f (by omega) ?_))
  refine x_iloadn (x := a1) rfl rfl ?_
  refine x_aloadn (x := 33) rfl rfl ?_
  refine z_getI (N := 4) 8 3 rfl f_8_7 rfl J rfl sg_33_3_4_1_0_1 (fun v1 qv1 ev1 => ?_)
  try rw [vrf qv1] at D
  refine x_icge (tgt := 38) rfl rfl (ti_ge rfl rfl ⟨fun c2 => ?_, fun c2 => ?_⟩)
  ·
    rw [if_pos (by omega)] at D
    exact jX.sub jsb_n (ct_X8_put_r33_c5d_38 hD hQ  h J Sm D)
  ·
    rw [if_neg (by omega)] at D
    refine x_iloadn (x := 5) rfl rfl ?_
    refine x_iflt (tgt := 38) rfl rfl (ti_lt jk_5 jk_0 (br_f (by omega) ?_))
    refine x_iloadn (x := 5) rfl rfl ?_
    refine x_aloadn (x := 33) rfl rfl ?_
    refine z_getC (N := 4) (v := 6) 8 0 rfl f_8_19 rfl J rfl sg_33_0_1_1_0_1 jk_6 ?_
    refine x_icge (tgt := 38) rfl rfl (ti_ge jk_5 jk_6 (br_f (by omega) ?_))
    refine x_aloadn (x := 33) rfl rfl ?_
    refine z_getR (N := 4) (b := 34) 8 2 rfl f_8_25 rfl J rfl 4226 ⟨rfl, rfl⟩ rfl ?_
    refine x_iloadn (x := a1) rfl rfl ?_
    refine x_aloadn (x := 33) rfl rfl ?_
    refine z_getC (N := 4) (v := 6) 8 0 rfl f_8_19 rfl J rfl sg_33_0_1_1_0_1 jk_6 ?_
    refine z_imul rfl rfl jk_6 (by omega) (fun v3 ev3 => ?_)
    refine x_iloadn (x := 5) rfl rfl ?_
    refine z_iadd rfl rfl jk_5 (by omega) (fun v4 ev4 => ?_)
    refine x_iloadn (x := a3) rfl rfl ?_
    refine z_iast (N := 1200) (l := 0) (u := 1200) (w := a3.toInt) rfl hD J Sm rfl rfl rfl (by omega) rfl (wr_34 (fun q1 q2 q3 q4 => by omega) (fun q1 q2 q3 q4 => by omega) (fun q1 q2 q3 q4 => by omega) (fun q1 q2 q3 q4 => by omega) (fun q1 q2 q3 q4 => by omega)) rfl (fun h w5 J Sm => ?_)
    rw [vww w5 (show ((a1.toInt * 6) + 5) = v4.toInt from by omega) (show a3.toInt = a3.toInt from by omega)] at D
    exact jX.sub jsb_n (ct_X8_put_r33_c5d_38 hD hQ  h J Sm D)
def fp_X8_add_r33d : jFp := [(33, 3, 4), (34, 0, 1200)]
set_option maxRecDepth 100000 in
set_option maxHeartbeats 4000000 in
theorem sf_X8_add_r33d {Dy : jH → Prop} {h : jH} {Q : Option Value → jH → Prop} {dr : jW} {a1 : Int32} {a2 : Int32} {a3 : Int32} {a4 : Int32} {a5 : Int32} {a6 : Int32} (y1 : 0 ≤ a1.toInt ∧ a1.toInt ≤ 146399) (y2 : 0 ≤ a2.toInt ∧ a2.toInt ≤ 146399) (y3 : 0 ≤ a3.toInt ∧ a3.toInt ≤ 5) (y4 : 0 ≤ a4.toInt ∧ a4.toInt ≤ 15) (y5 : (-1) ≤ a5.toInt ∧ a5.toInt ≤ 100000) (y6 : 0 ≤ a6.toInt ∧ a6.toInt ≤ 1) (hD : jDk Dy) (J : jJ jSgX Dy h) (D : d_X8_add_r33d a1.toInt a2.toInt a3.toInt a4.toInt a5.toInt a6.toInt (vw h) = dr) (hQ : ∀ hx9, jJ jSgX Dy hx9 → jSm fp_X8_add_r33d h hx9 → dr = vw hx9 → Q none hx9) : jC m_X8_add 2 0 0 [.ref 33, .int a1, .int a2, .int a3, .int a4, .int a5, .int a6] h Q := by
  refine jC.of rfl k_X8_add rfl ?_
  have Sm := jSm_rf fp_X8_add_r33d h
  show jX m_X8_add 2 0 0 0 [(0, .ref 33), (1, .int a1), (2, .int a2), (3, .int a3), (4, .int a4), (5, .int a5), (6, .int a6)] [] _ 0 0 _
  unfold d_X8_add_r33d at D
  refine x_aloadn (x := 33) rfl rfl ?_
  refine z_getI (N := 4) 8 3 rfl f_8_7 rfl J rfl sg_33_3_4_1_0_1 (fun v1 qv1 ev1 => ?_)
  try rw [vrf qv1] at D
  refine x_aloadn (x := 33) rfl rfl ?_
  refine z_getC (N := 4) (v := 200) 8 1 rfl f_8_22 rfl J rfl sg_33_1_2_1_0_1 jk_200 ?_
  refine x_iclt (tgt := 12) rfl rfl (ti_lt rfl jk_200 ⟨fun c2 => ?_, fun c2 => ?_⟩)
  ·
    rw [if_pos (by omega)] at D
    refine x_aloadn (x := 33) rfl rfl ?_
    refine z_getM (N := 4) (v := v1) 8 3 rfl f_8_7 rfl J rfl qv1 ?_
    refine x_istore (lsx9 := [(7, .int v1), (0, .ref 33), (1, .int a1), (2, .int a2), (3, .int a3), (4, .int a4), (5, .int a5), (6, .int a6)]) rfl rfl rfl ?_
    refine x_aloadn (x := 33) rfl rfl ?_
    refine x_iload (x := v1) rfl rfl ?_
    refine x_iconst (v := 1) rfl ki_1 ?_
    refine z_iadd rfl rfl jk_1 (by omega) (fun v3 ev3 => ?_)
    refine z_putI (N := 4) (w := v3.toInt) 8 3 rfl f_8_7 rfl (jfin_no TX8 RX8 4 rfl rfl) hD J Sm rfl rfl rfl (pw_33_3 (by omega)) rfl (fun h w4 J Sm => ?_)
    rw [vwf w4 (show (v1.toInt + 1) = v3.toInt from by omega)] at D
    refine x_aloadn (x := 33) rfl rfl ?_
    refine x_iload (x := v1) rfl rfl ?_
    refine x_iconst (v := 0) rfl ki_0 ?_
    refine x_iloadn (x := a1) rfl rfl ?_
    refine x_inv (N := m_X8_put) (As := [.int v1, .int 0, .int a1]) (b := 33) (st := []) (dx9 := 1) (mc := 0) (ms := 0) (host := "") 8 rfl t_X8_put ⟨Or.inl q_8_29, i_X8_put.1, i_X8_put.2⟩ ⟨by decide, rfl⟩ (congrArg Prod.fst (J.1.1 33 (8, 4) rfl)) rfl (by decide) rfl rfl ⟨by decide, by decide⟩ (sf_X8_put_r33_c0d (jr_of rfl (by omega)) (jr_of rfl (by omega)) hD J rfl  (fun h J S5 X6 => ?_))
    have Sm := jSm_tr rfl Sm S5
    rw [X6] at D
    show jX m_X8_add 2 0 0 34 [(7, .int v1), (0, .ref 33), (1, .int a1), (2, .int a2), (3, .int a3), (4, .int a4), (5, .int a5), (6, .int a6)] [] _ 0 0 _
    refine x_aloadn (x := 33) rfl rfl ?_
    refine x_iload (x := v1) rfl rfl ?_
    refine x_iconst (v := 1) rfl ki_1 ?_
    refine x_iloadn (x := a2) rfl rfl ?_
    refine x_inv (N := m_X8_put) (As := [.int v1, .int 1, .int a2]) (b := 33) (st := []) (dx9 := 1) (mc := 0) (ms := 0) (host := "") 8 rfl t_X8_put ⟨Or.inl q_8_29, i_X8_put.1, i_X8_put.2⟩ ⟨by decide, rfl⟩ (congrArg Prod.fst (J.1.1 33 (8, 4) rfl)) rfl (by decide) rfl rfl ⟨by decide, by decide⟩ (sf_X8_put_r33_c1d (jr_of rfl (by omega)) (jr_of rfl (by omega)) hD J rfl  (fun h J S7 X8 => ?_))
    have Sm := jSm_tr rfl Sm S7
    rw [X8] at D
    show jX m_X8_add 2 0 0 42 [(7, .int v1), (0, .ref 33), (1, .int a1), (2, .int a2), (3, .int a3), (4, .int a4), (5, .int a5), (6, .int a6)] [] _ 0 0 _
    refine x_aloadn (x := 33) rfl rfl ?_
    refine x_iload (x := v1) rfl rfl ?_
    refine x_iconst (v := 2) rfl ki_2 ?_
    refine x_iloadn (x := a3) rfl rfl ?_
    refine x_inv (N := m_X8_put) (As := [.int v1, .int 2, .int a3]) (b := 33) (st := []) (dx9 := 1) (mc := 0) (ms := 0) (host := "") 8 rfl t_X8_put ⟨Or.inl q_8_29, i_X8_put.1, i_X8_put.2⟩ ⟨by decide, rfl⟩ (congrArg Prod.fst (J.1.1 33 (8, 4) rfl)) rfl (by decide) rfl rfl ⟨by decide, by decide⟩ (sf_X8_put_r33_c2d (jr_of rfl (by omega)) (jr_of rfl (by omega)) hD J rfl  (fun h J S9 X10 => ?_))
    have Sm := jSm_tr rfl Sm S9
    rw [X10] at D
    show jX m_X8_add 2 0 0 50 [(7, .int v1), (0, .ref 33), (1, .int a1), (2, .int a2), (3, .int a3), (4, .int a4), (5, .int a5), (6, .int a6)] [] _ 0 0 _
    refine x_aloadn (x := 33) rfl rfl ?_
    refine x_iload (x := v1) rfl rfl ?_
    refine x_iconst (v := 3) rfl ki_3 ?_
    refine x_iload (x := a4) rfl rfl ?_
    refine x_inv (N := m_X8_put) (As := [.int v1, .int 3, .int a4]) (b := 33) (st := []) (dx9 := 1) (mc := 0) (ms := 0) (host := "") 8 rfl t_X8_put ⟨Or.inl q_8_29, i_X8_put.1, i_X8_put.2⟩ ⟨by decide, rfl⟩ (congrArg Prod.fst (J.1.1 33 (8, 4) rfl)) rfl (by decide) rfl rfl ⟨by decide, by decide⟩ (sf_X8_put_r33_c3d (jr_of rfl (by omega)) (jr_of rfl (by omega)) hD J rfl  (fun h J S11 X12 => ?_))
    have Sm := jSm_tr rfl Sm S11
    rw [X12] at D
    show jX m_X8_add 2 0 0 59 [(7, .int v1), (0, .ref 33), (1, .int a1), (2, .int a2), (3, .int a3), (4, .int a4), (5, .int a5), (6, .int a6)] [] _ 0 0 _
    refine x_aloadn (x := 33) rfl rfl ?_
    refine x_iload (x := v1) rfl rfl ?_
    refine x_iconst (v := 4) rfl ki_4 ?_
    refine x_iload (x := a5) rfl rfl ?_
    refine x_inv (N := m_X8_put) (As := [.int v1, .int 4, .int a5]) (b := 33) (st := []) (dx9 := 1) (mc := 0) (ms := 0) (host := "") 8 rfl t_X8_put ⟨Or.inl q_8_29, i_X8_put.1, i_X8_put.2⟩ ⟨by decide, rfl⟩ (congrArg Prod.fst (J.1.1 33 (8, 4) rfl)) rfl (by decide) rfl rfl ⟨by decide, by decide⟩ (sf_X8_put_r33_c4d (jr_of rfl (by omega)) hD J rfl  (fun h J S13 X14 => ?_))
    have Sm := jSm_tr rfl Sm S13
    rw [X14] at D
    show jX m_X8_add 2 0 0 68 [(7, .int v1), (0, .ref 33), (1, .int a1), (2, .int a2), (3, .int a3), (4, .int a4), (5, .int a5), (6, .int a6)] [] _ 0 0 _
    refine x_aloadn (x := 33) rfl rfl ?_
    refine x_iload (x := v1) rfl rfl ?_
    refine x_iconst (v := 5) rfl ki_5 ?_
    refine x_iload (x := a6) rfl rfl ?_
    refine x_inv (N := m_X8_put) (As := [.int v1, .int 5, .int a6]) (b := 33) (st := []) (dx9 := 1) (mc := 0) (ms := 0) (host := "") 8 rfl t_X8_put ⟨Or.inl q_8_29, i_X8_put.1, i_X8_put.2⟩ ⟨by decide, rfl⟩ (congrArg Prod.fst (J.1.1 33 (8, 4) rfl)) rfl (by decide) rfl rfl ⟨by decide, by decide⟩ (sf_X8_put_r33_c5d (jr_of rfl (by omega)) (jr_of rfl (by omega)) hD J rfl  (fun h J S15 X16 => ?_))
    have Sm := jSm_tr rfl Sm S15
    rw [X16] at D
    show jX m_X8_add 2 0 0 77 [(7, .int v1), (0, .ref 33), (1, .int a1), (2, .int a2), (3, .int a3), (4, .int a4), (5, .int a5), (6, .int a6)] [] _ 0 0 _
    refine x_vret rfl rfl ?_
    exact hQ _ J Sm D.symm
  ·
    rw [if_neg (by omega)] at D
    refine x_vret rfl rfl ?_
    exact hQ _ J Sm D.symm
def fp_X8_addFrom_r35_r71d : jFp := [(35, 3, 4), (36, 0, 16800)]
set_option maxRecDepth 100000 in
set_option maxHeartbeats 4000000 in
theorem ct_X8_addFrom_r35_r71d_58 {Dy : jH → Prop} {h0 : jH} {Q : Option Value → jH → Prop} {dr : jW} (hD : jDk Dy) (hQ : ∀ hx9, jJ jSgX Dy hx9 → jSm fp_X8_addFrom_r35_r71d h0 hx9 → dr = vw hx9 → Q none hx9) : ∀ (h : jH), jJ jSgX Dy h → jSm fp_X8_addFrom_r35_r71d h0 h → d_X8_addFrom_r35_r71d_58  (vw h) = dr → jX m_X8_addFrom 2 0 0 58 [] [] h 0 0 Q := by
  intro  h    J Sm D
  unfold d_X8_addFrom_r35_r71d_58 at D
  refine x_vret rfl rfl ?_
  exact hQ _ J Sm D.symm
set_option maxRecDepth 100000 in
set_option maxHeartbeats 4000000 in
theorem sf_X8_addFrom_r35_r71d {Dy : jH → Prop} {h : jH} {Q : Option Value → jH → Prop} {dr : jW} {a1 : Int32} (y1 : 0 ≤ a1.toInt ∧ a1.toInt ≤ 70) (ym1 : a1.toInt % 14 = 0) (hD : jDk Dy) (J : jJ jSgX Dy h) (D : d_X8_addFrom_r35_r71d a1.toInt (vw h) = dr) (hQ : ∀ hx9, jJ jSgX Dy hx9 → jSm fp_X8_addFrom_r35_r71d h hx9 → dr = vw hx9 → Q none hx9) : jC m_X8_addFrom 2 0 0 [.ref 35, .ref 71, .int a1] h Q := by
  refine jC.of rfl k_X8_addFrom rfl ?_
  have Sm := jSm_rf fp_X8_addFrom_r35_r71d h
  show jX m_X8_addFrom 2 0 0 0 [(0, .ref 35), (1, .ref 71), (2, .int a1)] [] _ 0 0 _
  unfold d_X8_addFrom_r35_r71d at D
  refine x_aloadn (x := 35) rfl rfl ?_
  refine z_getI (N := 4) 8 3 rfl f_8_7 rfl J rfl sg_35_3_4_1_0_1 (fun v1 qv1 ev1 => ?_)
  try rw [vrf qv1] at D
  refine x_aloadn (x := 35) rfl rfl ?_
  refine z_getC (N := 4) (v := 1200) 8 1 rfl f_8_22 rfl J rfl sg_35_1_2_1_0_1 jk_1200 ?_
  refine x_icge (tgt := 58) rfl rfl (ti_ge rfl jk_1200 ⟨fun c2 => ?_, fun c2 => ?_⟩)
  ·
    rw [if_pos (by omega)] at D
    exact jX.sub jsb_n (ct_X8_addFrom_r35_r71d_58 hD hQ  h J Sm D)
  ·
    rw [if_neg (by omega)] at D
    refine x_iloadn (x := a1) rfl rfl ?_
    refine x_iflt (tgt := 58) rfl rfl (ti_lt rfl jk_0 (br_f (by omega) ?_))
    refine x_iloadn (x := a1) rfl rfl ?_
    refine x_aloadn (x := 71) rfl rfl ?_
    refine z_alen (N := 84) (v := 84) rfl J rfl rfl (by decide) ?_
    refine x_aloadn (x := 35) rfl rfl ?_
    refine z_getC (N := 4) (v := 14) 8 0 rfl f_8_19 rfl J rfl sg_35_0_1_1_0_1 jk_14 ?_
    refine y_isub (v := 70) rfl (by decide) ?_
    refine x_icgt (tgt := 58) rfl rfl (ti_gt rfl jk_70 (br_f (by omega) ?_))
    refine x_aloadn (x := 71) rfl rfl ?_
    refine x_iloadn (x := a1) rfl rfl ?_
    refine x_aloadn (x := 35) rfl rfl ?_
    refine z_getR (N := 4) (b := 36) 8 2 rfl f_8_25 rfl J rfl 4482 ⟨rfl, rfl⟩ rfl ?_
    refine x_aloadn (x := 35) rfl rfl ?_
    refine z_getM (N := 4) (v := v1) 8 3 rfl f_8_7 rfl J rfl qv1 ?_
    refine x_aloadn (x := 35) rfl rfl ?_
    refine z_getC (N := 4) (v := 14) 8 0 rfl f_8_19 rfl J rfl sg_35_0_1_1_0_1 jk_14 ?_
    refine z_imul rfl rfl jk_14 (by omega) (fun v3 ev3 => ?_)
    refine x_aloadn (x := 35) rfl rfl ?_
    refine z_getC (N := 4) (v := 14) 8 0 rfl f_8_19 rfl J rfl sg_35_0_1_1_0_1 jk_14 ?_
    refine z_cpi (N1 := 84) (N2 := 16800) rfl ⟨q_8_33, jcp_w⟩ (by decide) rfl hD J Sm rfl rfl rfl rfl rfl rfl jk_14 (by omega) (cp_36 (fun k k1 k2 k3 => by have k4 := k3.1; have k5 := k3.2.1; have k6 := k3.2.2; simp only at k4 k5 k6; exact jcp_in J sg_71_0_84_14_0_1 rfl (by omega) (by decide)) (fun k k1 k2 k3 => by have k4 := k3.1; have k5 := k3.2.1; have k6 := k3.2.2; simp only at k4 k5 k6; exact jcp_in J sg_71_0_84_14_1_2 rfl (by omega) (by decide)) (fun k k1 k2 k3 => by have k4 := k3.1; have k5 := k3.2.1; have k6 := k3.2.2; simp only at k4 k5 k6; exact jcp_in J sg_71_0_84_14_2_14 rfl (by omega) (by decide)) (fun k k1 k2 k3 => by have k4 := k3.1; have k5 := k3.2.1; have k6 := k3.2.2; simp only at k4 k5 k6; exact jcp_in J sg_71_0_84_14_2_14 rfl (by omega) (by decide)) (fun k k1 k2 k3 => by have k4 := k3.1; have k5 := k3.2.1; have k6 := k3.2.2; simp only at k4 k5 k6; exact jcp_in J sg_71_0_84_14_2_14 rfl (by omega) (by decide)) (fun k k1 k2 k3 => by have k4 := k3.1; have k5 := k3.2.1; have k6 := k3.2.2; simp only at k4 k5 k6; exact jcp_in J sg_71_0_84_14_2_14 rfl (by omega) (by decide)) (fun k k1 k2 k3 => by have k4 := k3.1; have k5 := k3.2.1; have k6 := k3.2.2; simp only at k4 k5 k6; exact jcp_in J sg_71_0_84_14_2_14 rfl (by omega) (by decide)) (fun k k1 k2 k3 => by have k4 := k3.1; have k5 := k3.2.1; have k6 := k3.2.2; simp only at k4 k5 k6; exact jcp_in J sg_71_0_84_14_2_14 rfl (by omega) (by decide)) (fun k k1 k2 k3 => by have k4 := k3.1; have k5 := k3.2.1; have k6 := k3.2.2; simp only at k4 k5 k6; exact jcp_in J sg_71_0_84_14_2_14 rfl (by omega) (by decide)) (fun k k1 k2 k3 => by have k4 := k3.1; have k5 := k3.2.1; have k6 := k3.2.2; simp only at k4 k5 k6; exact jcp_in J sg_71_0_84_14_2_14 rfl (by omega) (by decide)) (fun k k1 k2 k3 => by have k4 := k3.1; have k5 := k3.2.1; have k6 := k3.2.2; simp only at k4 k5 k6; exact jcp_in J sg_71_0_84_14_2_14 rfl (by omega) (by decide)) (fun k k1 k2 k3 => by have k4 := k3.1; have k5 := k3.2.1; have k6 := k3.2.2; simp only at k4 k5 k6; exact jcp_in J sg_71_0_84_14_2_14 rfl (by omega) (by decide)) (fun k k1 k2 k3 => by have k4 := k3.1; have k5 := k3.2.1; have k6 := k3.2.2; simp only at k4 k5 k6; exact jcp_in J sg_71_0_84_14_2_14 rfl (by omega) (by decide)) (fun k k1 k2 k3 => by have k4 := k3.1; have k5 := k3.2.1; have k6 := k3.2.2; simp only at k4 k5 k6; exact jcp_in J sg_71_0_84_14_2_14 rfl (by omega) (by decide))) rfl (fun h w4 J Sm => ?_)
    try rw [show (v1.toInt * 14) = v3.toInt from by omega] at D
    rw [vwk w4 (show (a1.toInt : Int) = (a1 : Int32).toInt from by omega) (show (v3.toInt : Int) = (v3 : Int32).toInt from by omega) (show (14 : Int) = (14 : Int32).toInt from by decide)] at D
    refine x_aloadn (x := 35) rfl rfl ?_
    refine x_dup rfl rfl ?_
    refine z_getM (N := 4) (v := v1) 8 3 rfl f_8_7 rfl J rfl (jmk w4 rfl qv1) ?_
    refine x_iconst (v := 1) rfl ki_1 ?_
    refine z_iadd rfl rfl jk_1 (by omega) (fun v5 ev5 => ?_)
    refine z_putI (N := 4) (w := v5.toInt) 8 3 rfl f_8_7 rfl (jfin_no TX8 RX8 4 rfl rfl) hD J Sm rfl rfl rfl (pw_35_3 (by omega)) rfl (fun h w6 J Sm => ?_)
    rw [vwf w6 (show (v1.toInt + 1) = v5.toInt from by omega)] at D
    exact jX.sub jsb_n (ct_X8_addFrom_r35_r71d_58 hD hQ  h J Sm D)
def fp_X8_isFull_r33d : jFp := []
set_option maxRecDepth 100000 in
set_option maxHeartbeats 4000000 in
theorem ct_X8_isFull_r33d_200016 {Dy : jH → Prop} {h0 : jH} {Q : Option Value → jH → Prop} {dr : Int} (hD : jDk Dy) (hQ : ∀ (v : Int32) hx9, 0 ≤ v.toInt ∧ v.toInt ≤ 1 → jJ jSgX Dy hx9 → jSm fp_X8_isFull_r33d h0 hx9 → dr = v.toInt → vw hx9 = vw h0 → Q (some (.int v)) hx9) : ∀ (h : jH), jJ jSgX Dy h → jSm fp_X8_isFull_r33d h0 h → d_X8_isFull_r33d_200016  (vw h) = dr → vw h = vw h0 → jX m_X8_isFull 1 0 0 16 [] [.int 0] h 0 0 Q := by
  intro  h    J Sm D EV
  unfold d_X8_isFull_r33d_200016 at D
  refine x_zret rfl rfl (by decide) ?_
  exact hQ _ _ (jr_of jk_0 (by omega)) J Sm (D.symm.trans (show 0 = (0 : Int32).toInt from by have := jk_0; omega)) EV
set_option maxRecDepth 100000 in
set_option maxHeartbeats 4000000 in
theorem ct_X8_isFull_r33d_300016 {Dy : jH → Prop} {h0 : jH} {Q : Option Value → jH → Prop} {dr : Int} (hD : jDk Dy) (hQ : ∀ (v : Int32) hx9, 0 ≤ v.toInt ∧ v.toInt ≤ 1 → jJ jSgX Dy hx9 → jSm fp_X8_isFull_r33d h0 hx9 → dr = v.toInt → vw hx9 = vw h0 → Q (some (.int v)) hx9) : ∀ (h : jH), jJ jSgX Dy h → jSm fp_X8_isFull_r33d h0 h → d_X8_isFull_r33d_300016  (vw h) = dr → vw h = vw h0 → jX m_X8_isFull 1 0 0 16 [] [.int 1] h 0 0 Q := by
  intro  h    J Sm D EV
  unfold d_X8_isFull_r33d_300016 at D
  refine x_zret rfl rfl (by decide) ?_
  exact hQ _ _ (jr_of jk_1 (by omega)) J Sm (D.symm.trans (show 1 = (1 : Int32).toInt from by have := jk_1; omega)) EV
set_option maxRecDepth 100000 in
set_option maxHeartbeats 4000000 in
theorem sf_X8_isFull_r33d {Dy : jH → Prop} {h : jH} {Q : Option Value → jH → Prop} {dr : Int} (hD : jDk Dy) (J : jJ jSgX Dy h) (D : d_X8_isFull_r33d (vw h) = dr) (hQ : ∀ (v : Int32) hx9, 0 ≤ v.toInt ∧ v.toInt ≤ 1 → jJ jSgX Dy hx9 → jSm fp_X8_isFull_r33d h hx9 → dr = v.toInt → vw hx9 = vw h → Q (some (.int v)) hx9) : jC m_X8_isFull 1 0 0 [.ref 33] h Q := by
  refine jC.of rfl k_X8_isFull rfl ?_
  have Sm := jSm_rf fp_X8_isFull_r33d h
  show jX m_X8_isFull 1 0 0 0 [(0, .ref 33)] [] _ 0 0 _
  unfold d_X8_isFull_r33d at D
  have EV : vw h = vw h := rfl
  refine x_aloadn (x := 33) rfl rfl ?_
  refine z_getI (N := 4) 8 3 rfl f_8_7 rfl J rfl sg_33_3_4_1_0_1 (fun v1 qv1 ev1 => ?_)
  try rw [vrf qv1] at D
  refine x_aloadn (x := 33) rfl rfl ?_
  refine z_getC (N := 4) (v := 200) 8 1 rfl f_8_22 rfl J rfl sg_33_1_2_1_0_1 jk_200 ?_
  refine x_iclt (tgt := 15) rfl rfl (ti_lt rfl jk_200 ⟨fun c2 => ?_, fun c2 => ?_⟩)
  ·
    rw [if_pos (by omega)] at D
    refine x_iconst (v := 0) rfl ki_0 ?_
    exact jX.sub jsb_n (ct_X8_isFull_r33d_200016 hD hQ  h J Sm D EV)
  ·
    rw [if_neg (by omega)] at D
    refine x_iconst (v := 1) rfl ki_1 ?_
    refine x_goto (tgt := 16) rfl rfl ?_
    exact jX.sub jsb_n (ct_X8_isFull_r33d_300016 hD hQ  h J Sm D EV)
