def fp_X12_house_r125d : jFp := [(125, 0, 1), (125, 28, 29), (125, 31, 32), (125, 57, 58), (137, 0, 80), (138, 0, 2), (139, 0, 600), (140, 0, 200), (162, 40, 80), (163, 40, 80), (164, 0, 40)]
set_option maxRecDepth 100000 in
set_option maxHeartbeats 4000000 in
theorem ct_X12_house_r125d_38 {Dy : jH → Prop} {h0 : jH} {Q : Option Value → jH → Prop} {dr : (Int × jW)} (hD : jDk Dy) (hQ : ∀ (v : Int32) hx9, jJ jSgM Dy hx9 → jSm fp_X12_house_r125d h0 hx9 → dr.1 = v.toInt → dr.2 = vw hx9 → Q (some (.int v)) hx9) : ∀ (h : jH), jJ jSgM Dy h → jSm fp_X12_house_r125d h0 h → d_X12_house_r125d_38  (vw h) = dr → jX m_X12_house 9 0 0 38 [] [] h 0 0 Q := by
  intro  h    J Sm D
  unfold d_X12_house_r125d_38 at D
  refine x_iconst (v := (-1)) rfl ki_m1 ?_
  refine x_iret rfl rfl ?_
  exact hQ _ _ J Sm ((congrArg Prod.fst D).symm.trans (show (-1) = ((-1) : Int32).toInt from by have := jk_m1; omega)) (congrArg Prod.snd D).symm
set_option maxRecDepth 100000 in
set_option maxHeartbeats 4000000 in
theorem ct_X12_house_r125d_77 {Dy : jH → Prop} {h0 : jH} {Q : Option Value → jH → Prop} {dr : (Int × jW)} (hD : jDk Dy) (hQ : ∀ (v : Int32) hx9, jJ jSgM Dy hx9 → jSm fp_X12_house_r125d h0 hx9 → dr.1 = v.toInt → dr.2 = vw hx9 → Q (some (.int v)) hx9) : ∀ (s0 : Int32) (h : jH), jJ jSgM Dy h → jSm fp_X12_house_r125d h0 h → d_X12_house_r125d_77  s0.toInt (vw h) = dr → jX m_X12_house 9 0 0 77 [] [.int s0] h 0 0 Q := by
  intro s0 h    J Sm D
  have es0 := jfull s0
  unfold d_X12_house_r125d_77 at D
  refine x_iret rfl rfl ?_
  exact hQ _ _ J Sm ((congrArg Prod.fst D).symm.trans (show s0.toInt = s0.toInt from by omega)) (congrArg Prod.snd D).symm
set_option maxRecDepth 100000 in
set_option maxHeartbeats 4000000 in
theorem sf_X12_house_r125d {Dy : jH → Prop} {h : jH} {Q : Option Value → jH → Prop} {dr : (Int × jW)} {a1 : Int32} {a2 : Int32} {a3 : Int32} {a4 : Int32} (hD : jDk Dy) (J : jJ jSgM Dy h) (D : d_X12_house_r125d a1.toInt a2.toInt a3.toInt a4.toInt (vw h) = dr) (hQ : ∀ (v : Int32) hx9, jJ jSgM Dy hx9 → jSm fp_X12_house_r125d h hx9 → dr.1 = v.toInt → dr.2 = vw hx9 → Q (some (.int v)) hx9) : jC m_X12_house 9 0 0 [.ref 125, .int a1, .int a2, .int a3, .int a4] h Q := by
  refine jC.of rfl k_X12_house rfl ?_
  have Sm := jSm_rf fp_X12_house_r125d h
  have ea1 := jfull a1
  have ea2 := jfull a2
  have ea3 := jfull a3
  have ea4 := jfull a4
  show jX m_X12_house 9 0 0 0 [(0, .ref 125), (1, .int a1), (2, .int a2), (3, .int a3), (4, .int a4)] [] _ 0 0 _
  unfold d_X12_house_r125d at D
  refine x_aloadn (x := 125) rfl rfl ?_
  refine x_iconst (v := 0) rfl ki_0 ?_
  refine z_putI (N := 92) (w := 0) 12 0 rfl f_12_180 rfl (jfin_no TX12 RX12 92 rfl rfl) hD J Sm rfl rfl jk_0 (pw_125_0 (by omega)) rfl (fun h w1 J Sm => ?_)
  rw [vwf w1 (show 0 = (0 : Int32).toInt from by have := jk_0; omega)] at D
  refine x_aloadn (x := 125) rfl rfl ?_
  refine x_iloadn (x := a1) rfl rfl ?_
  refine x_inv (N := m_X12_isHolding) (As := [.int a1]) (b := 125) (st := []) (dx9 := 8) (mc := 0) (ms := 0) (host := "") 12 rfl t_X12_isHolding ⟨Or.inl q_12_811, i_X12_isHolding.1, i_X12_isHolding.2⟩ ⟨by decide, rfl⟩ (congrArg Prod.fst (J.1.1 125 (12, 92) rfl)) rfl (by decide) rfl rfl ⟨by decide, by decide⟩ (jC.of rfl k_X12_isHolding rfl ?_)
  show jX m_X12_isHolding 8 0 0 0 [(0, .ref 125), (1, .int a1)] [] _ 0 0 _
  refine x_iloadn (x := a1) rfl rfl ?_
  refine z_i2l rfl rfl (fun v2 ev2 => ?_)
  refine x_lconst (v := 0) rfl kl_0 ?_
  refine x_aloadn (x := 125) rfl rfl ?_
  refine z_getR (N := 92) (b := 126) 12 2 rfl f_12_8 rfl J rfl 16002 ⟨rfl, rfl⟩ rfl ?_
  refine x_bipush (v := 7) rfl kb_7 ?_
  refine z_iald (N := 50660) rfl J rfl sg_126_7_8_1_0_1 jk_7 (by omega) (fun v3 qv3 ev3 => ?_)
  try rw [vrn (n := 7) (by decide) (jmb_w w1 qv3 rfl)] at D
  refine z_i2l rfl rfl (fun v4 ev4 => ?_)
  refine x_lconst (v := 1) rfl kl_1 ?_
  refine z_lsub rfl rfl jkl_1 (by omega) (fun v5 ev5 => ?_)
  refine x_inst (N := m_X12_in) (As := [.long v2, .long 0, .long v5]) (st := []) (dx9 := 1) (mc := 0) (ms := 0) (host := "") rfl t_X12_in ⟨Or.inl q_12_188, s_X12_in⟩ rfl (by decide) rfl rfl ⟨by decide, by decide⟩ (zc_X12_in rfl jkl_0 rfl (fun v6 ev6 => ?_))
  show jX m_X12_isHolding 8 0 0 16 [(0, .ref 125), (1, .int a1)] [.int v6] _ 0 0 _
  refine x_zret rfl rfl (jz01 (by omega)) ?_
  show jX m_X12_house 9 0 0 10 [(0, .ref 125), (1, .int a1), (2, .int a2), (3, .int a3), (4, .int a4)] [.int v6] _ 0 0 _
  refine x_ifeq (tgt := 38) rfl rfl (ti_eq rfl jk_0 ⟨fun c7 => ?_, fun c7 => ?_⟩)
  ·
    rw [if_neg (by omega)] at D
    exact jX.sub jsb_n (ct_X12_house_r125d_38 hD hQ  h J Sm D)
  ·
    rw [if_pos (by omega)] at D
    refine x_iloadn (x := a2) rfl rfl ?_
    refine x_inst (N := m_X12_isDay) (As := [.int a2]) (st := []) (dx9 := 2) (mc := 0) (ms := 0) (host := "") rfl t_X12_isDay ⟨Or.inl q_12_273, s_X12_isDay⟩ rfl (by decide) rfl rfl ⟨by decide, by decide⟩ (zc_X12_isDay (d := 1) rfl (fun v8 ev8 => ?_))
    show jX m_X12_house 9 0 0 17 [(0, .ref 125), (1, .int a1), (2, .int a2), (3, .int a3), (4, .int a4)] [.int v8] _ 0 0 _
    refine x_ifeq (tgt := 38) rfl rfl (ti_eq rfl jk_0 ⟨fun c9 => ?_, fun c9 => ?_⟩)
    ·
      rw [if_neg (by omega)] at D
      exact jX.sub jsb_n (ct_X12_house_r125d_38 hD hQ  h J Sm D)
    ·
      rw [if_pos (by omega)] at D
      refine x_iloadn (x := a3) rfl rfl ?_
      refine x_inst (N := m_X12_isDay) (As := [.int a3]) (st := []) (dx9 := 2) (mc := 0) (ms := 0) (host := "") rfl t_X12_isDay ⟨Or.inl q_12_273, s_X12_isDay⟩ rfl (by decide) rfl rfl ⟨by decide, by decide⟩ (zc_X12_isDay (d := 1) rfl (fun v10 ev10 => ?_))
      show jX m_X12_house 9 0 0 24 [(0, .ref 125), (1, .int a1), (2, .int a2), (3, .int a3), (4, .int a4)] [.int v10] _ 0 0 _
      refine x_ifeq (tgt := 38) rfl rfl (ti_eq rfl jk_0 ⟨fun c11 => ?_, fun c11 => ?_⟩)
      ·
        rw [if_neg (by omega)] at D
        exact jX.sub jsb_n (ct_X12_house_r125d_38 hD hQ  h J Sm D)
      ·
        rw [if_pos (by omega)] at D
        refine x_iload (x := a4) rfl rfl ?_
        refine z_i2l rfl rfl (fun v12 ev12 => ?_)
        refine x_lconst (v := 0) rfl kl_0 ?_
        refine x_lconst (v := 1) rfl kl_1 ?_
        refine x_inst (N := m_X12_in) (As := [.long v12, .long 0, .long 1]) (st := []) (dx9 := 1) (mc := 0) (ms := 0) (host := "") rfl t_X12_in ⟨Or.inl q_12_188, s_X12_in⟩ rfl (by decide) rfl rfl ⟨by decide, by decide⟩ (zc_X12_in rfl jkl_0 jkl_1 (fun v13 ev13 => ?_))
        show jX m_X12_house 9 0 0 35 [(0, .ref 125), (1, .int a1), (2, .int a2), (3, .int a3), (4, .int a4)] [.int v13] _ 0 0 _
        refine x_ifne (tgt := 40) rfl rfl (ti_ne rfl jk_0 ⟨fun c14 => ?_, fun c14 => ?_⟩)
        ·
          rw [if_pos (by omega)] at D
          refine x_aloadn (x := 125) rfl rfl ?_
          refine x_iloadn (x := a3) rfl rfl ?_
          refine x_inv (N := m_X12_find) (As := [.int a3]) (b := 125) (st := []) (dx9 := 8) (mc := 0) (ms := 0) (host := "") 12 rfl t_X12_find ⟨Or.inl q_12_393, i_X12_find.1, i_X12_find.2⟩ ⟨by decide, rfl⟩ (congrArg Prod.fst (J.1.1 125 (12, 92) rfl)) rfl (by decide) rfl rfl ⟨by decide, by decide⟩ (sf_X12_find_r125d (jr_of rfl (by omega)) hD J rfl  (fun h J S15 X16 => ?_))
          have Sm := jSm_tr rfl Sm S15
          rw [X16] at D
          show jX m_X12_house 9 0 0 45 [(0, .ref 125), (1, .int a1), (2, .int a2), (3, .int a3), (4, .int a4)] [] _ 0 0 _
          refine x_aloadn (x := 125) rfl rfl ?_
          refine x_iloadn (x := a2) rfl rfl ?_
          refine x_iconst (v := 1) rfl ki_1 ?_
          refine x_inv (N := m_X12_findHouses) (As := [.int a2, .int 1]) (b := 125) (st := []) (dx9 := 2) (mc := 0) (ms := 0) (host := "") 12 rfl t_X12_findHouses ⟨Or.inl q_12_694, i_X12_findHouses.1, i_X12_findHouses.2⟩ ⟨by decide, rfl⟩ (congrArg Prod.fst (J.1.1 125 (12, 92) rfl)) rfl (by decide) rfl rfl ⟨by decide, by decide⟩ (sf_X12_findHouses_r125_c1d (jr_of rfl (by omega)) hD J rfl  (fun h J S17 X18 => ?_))
          have Sm := jSm_tr rfl Sm S17
          rw [X18] at D
          show jX m_X12_house 9 0 0 51 [(0, .ref 125), (1, .int a1), (2, .int a2), (3, .int a3), (4, .int a4)] [] _ 0 0 _
          refine x_iload (x := a4) rfl rfl ?_
          refine x_ifne (tgt := 68) rfl rfl (ti_ne rfl jk_0 ⟨fun c19 => ?_, fun c19 => ?_⟩)
          ·
            rw [if_neg (by omega)] at D
            refine x_aloadn (x := 125) rfl rfl ?_
            refine z_getR (N := 92) (b := 163) 12 78 rfl f_12_147 rfl J rfl 16078 ⟨rfl, rfl⟩ rfl ?_
            refine x_bipush (v := 40) rfl kb_40 ?_
            refine x_iloadn (x := a1) rfl rfl ?_
            refine z_iadd rfl jk_40 rfl (by omega) (fun v20 ev20 => ?_)
            refine z_iald (N := 80) rfl J rfl sg_163_0_80_1_0_1 rfl (by omega) (fun v21 qv21 ev21 => ?_)
            try rw [vrd qv21 (show (40 + a1.toInt) = v20.toInt from by omega)] at D
            exact jX.sub jsb_n (ct_X12_house_r125d_77 hD hQ  v21 h J Sm D)
          ·
            rw [if_pos (by omega)] at D
            refine x_aloadn (x := 125) rfl rfl ?_
            refine z_getR (N := 92) (b := 162) 12 77 rfl f_12_144 rfl J rfl 16077 ⟨rfl, rfl⟩ rfl ?_
            refine x_bipush (v := 40) rfl kb_40 ?_
            refine x_iloadn (x := a1) rfl rfl ?_
            refine z_iadd rfl jk_40 rfl (by omega) (fun v22 ev22 => ?_)
            refine z_iald0 (N := 80) rfl J rfl rfl (by omega) (fun v23 qv23 => ?_)
            have ev23 := jfull v23
            try rw [vrd qv23 (show (40 + a1.toInt) = v22.toInt from by omega)] at D
            refine x_goto (tgt := 77) rfl rfl ?_
            exact jX.sub jsb_n (ct_X12_house_r125d_77 hD hQ  v23 h J Sm D)
        ·
          rw [if_neg (by omega)] at D
          exact jX.sub jsb_n (ct_X12_house_r125d_38 hD hQ  h J Sm D)

