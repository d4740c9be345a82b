def fp_X11_value_r31d : jFp := [(31, 12, 13), (32, 19, 20), (47, 3, 4), (48, 0, 400)]
set_option maxRecDepth 100000 in
set_option maxHeartbeats 4000000 in
theorem ct_X11_value_r31d_26 {Dy : jH → Prop} {h0 : jH} {Q : Option Value → jH → Prop} {dr : (Int × jW)} (hD : jDk Dy) (hQ : ∀ (v : Int32) hx9, (-366) ≤ v.toInt ∧ v.toInt ≤ 100 → jJ jSgX Dy hx9 → jSm fp_X11_value_r31d h0 hx9 → dr.1 = v.toInt → dr.2 = vw hx9 → Q (some (.int v)) hx9) : ∀ (h : jH), jJ jSgX Dy h → jSm fp_X11_value_r31d h0 h → d_X11_value_r31d_26  (vw h) = dr → jX m_X11_value 3 0 0 26 [(0, .ref 31)] [] h 0 0 Q := by
  intro  h    J Sm D
  unfold d_X11_value_r31d_26 at D
  refine x_aloadn (x := 31) rfl rfl ?_
  refine x_iconst (v := (-1)) rfl ki_m1 ?_
  refine x_inv (N := m_X11_refuse) (As := [.int (-1)]) (b := 31) (st := []) (dx9 := 2) (mc := 0) (ms := 0) (host := "") 11 rfl t_X11_refuse ⟨Or.inl q_11_206, i_X11_refuse.1, i_X11_refuse.2⟩ ⟨by decide, rfl⟩ (congrArg Prod.fst (J.1.1 31 (11, 13) rfl)) rfl (by decide) rfl rfl ⟨by decide, by decide⟩ (jC.of rfl k_X11_refuse rfl ?_)
  show jX m_X11_refuse 2 0 0 0 [(0, .ref 31), (1, .int (-1))] [] _ 0 0 _
  refine x_aloadn (x := 31) rfl rfl ?_
  refine x_iloadn (x := (-1)) rfl rfl ?_
  refine z_putI (N := 13) (w := (-1)) 11 12 rfl f_11_94 rfl (jfin_no TX11 RX11 13 rfl rfl) hD J Sm rfl rfl jk_m1 (pw_31_12 (by omega)) rfl (fun h w1 J Sm => ?_)
  rw [vwf w1 (show (-1) = ((-1) : Int32).toInt from by have := jk_m1; omega)] at D
  refine x_iloadn (x := (-1)) rfl rfl ?_
  refine x_iret rfl rfl ?_
  show jX m_X11_value 3 0 0 31 [(0, .ref 31)] [.int (-1)] _ 0 0 _
  refine x_iret rfl rfl ?_
  exact hQ _ _ (jr_of jk_m1 (by omega)) J Sm ((congrArg Prod.fst D).symm.trans (show (-1) = ((-1) : Int32).toInt from by have := jk_m1; omega)) (congrArg Prod.snd D).symm
set_option maxRecDepth 100000 in
set_option maxHeartbeats 4000000 in
theorem sf_X11_value_r31d {Dy : jH → Prop} {h : jH} {Q : Option Value → jH → Prop} {dr : (Int × jW)} {a1 : Int32} {a2 : Int32} {a3 : Int32} {a4 : Int32} (hD : jDk Dy) (J : jJ jSgX Dy h) (D : d_X11_value_r31d a1.toInt a2.toInt a3.toInt a4.toInt (vw h) = dr) (hQ : ∀ (v : Int32) hx9, (-366) ≤ v.toInt ∧ v.toInt ≤ 100 → jJ jSgX Dy hx9 → jSm fp_X11_value_r31d h hx9 → dr.1 = v.toInt → dr.2 = vw hx9 → Q (some (.int v)) hx9) : jC m_X11_value 3 0 0 [.ref 31, .int a1, .int a2, .int a3, .int a4] h Q := by
  refine jC.of rfl k_X11_value rfl ?_
  have Sm := jSm_rf fp_X11_value_r31d h
  have ea1 := jfull a1
  have ea2 := jfull a2
  have ea3 := jfull a3
  have ea4 := jfull a4
  show jX m_X11_value 3 0 0 0 [(0, .ref 31), (1, .int a1), (2, .int a2), (3, .int a3), (4, .int a4)] [] _ 0 0 _
  unfold d_X11_value_r31d at D
  refine x_iloadn (x := a2) rfl rfl ?_
  refine x_iflt (tgt := 26) rfl rfl (ti_lt rfl jk_0 ⟨fun c1 => ?_, fun c1 => ?_⟩)
  ·
    rw [if_pos (by omega)] at D
    exact jX.sub (jsb_c rfl jsb_n) (ct_X11_value_r31d_26 hD hQ  h J Sm D)
  ·
    rw [if_neg (by omega)] at D
    refine x_iloadn (x := a2) rfl rfl ?_
    refine x_sipush (v := 10000) rfl ks_10000 ?_
    refine x_icgt (tgt := 26) rfl rfl (ti_gt rfl jk_10000 ⟨fun c2 => ?_, fun c2 => ?_⟩)
    ·
      rw [if_pos (by omega)] at D
      exact jX.sub (jsb_c rfl jsb_n) (ct_X11_value_r31d_26 hD hQ  h J Sm D)
    ·
      rw [if_neg (by omega)] at D
      refine x_iloadn (x := a3) rfl rfl ?_
      refine x_inst (N := m_X11_isDay) (As := [.int a3]) (st := []) (dx9 := 1) (mc := 0) (ms := 0) (host := "") rfl t_X11_isDay ⟨Or.inl q_11_115, s_X11_isDay⟩ rfl (by decide) rfl rfl ⟨by decide, by decide⟩ (zc_X11_isDay rfl (fun v3 ev3 => ?_))
      show jX m_X11_value 3 0 0 15 [(0, .ref 31), (1, .int a1), (2, .int a2), (3, .int a3), (4, .int a4)] [.int v3] _ 0 0 _
      refine x_ifeq (tgt := 26) rfl rfl (ti_eq rfl jk_0 ⟨fun c4 => ?_, fun c4 => ?_⟩)
      ·
        rw [if_neg (by omega)] at D
        exact jX.sub (jsb_c rfl jsb_n) (ct_X11_value_r31d_26 hD hQ  h J Sm D)
      ·
        rw [if_pos (by omega)] at D
        refine x_iload (x := a4) rfl rfl ?_
        refine x_inst (N := m_X11_isDay) (As := [.int a4]) (st := []) (dx9 := 1) (mc := 0) (ms := 0) (host := "") rfl t_X11_isDay ⟨Or.inl q_11_115, s_X11_isDay⟩ rfl (by decide) rfl rfl ⟨by decide, by decide⟩ (zc_X11_isDay rfl (fun v5 ev5 => ?_))
        show jX m_X11_value 3 0 0 23 [(0, .ref 31), (1, .int a1), (2, .int a2), (3, .int a3), (4, .int a4)] [.int v5] _ 0 0 _
        refine x_ifne (tgt := 32) rfl rfl (ti_ne rfl jk_0 ⟨fun c6 => ?_, fun c6 => ?_⟩)
        ·
          rw [if_pos (by omega)] at D
          refine x_aloadn (x := 31) rfl rfl ?_
          refine x_iloadn (x := a1) rfl rfl ?_
          refine x_inv (N := m_X11_isHolding) (As := [.int a1]) (b := 31) (st := []) (dx9 := 2) (mc := 0) (ms := 0) (host := "") 11 rfl t_X11_isHolding ⟨Or.inl q_11_415, i_X11_isHolding.1, i_X11_isHolding.2⟩ ⟨by decide, rfl⟩ (congrArg Prod.fst (J.1.1 31 (11, 13) rfl)) rfl (by decide) rfl rfl ⟨by decide, by decide⟩ (jC.of rfl k_X11_isHolding rfl ?_)
          show jX m_X11_isHolding 2 0 0 0 [(0, .ref 31), (1, .int a1)] [] _ 0 0 _
          refine x_iloadn (x := a1) rfl rfl ?_
          refine x_iflt (tgt := 28) rfl rfl (ti_lt rfl jk_0 ⟨fun c7 => ?_, fun c7 => ?_⟩)
          ·
            rw [if_pos (by omega)] at D
            refine x_iconst (v := 0) rfl ki_0 ?_
            refine x_zret rfl rfl (by decide) ?_
            show jX m_X11_value 3 0 0 37 [(0, .ref 31), (1, .int a1), (2, .int a2), (3, .int a3), (4, .int a4)] [.int 0] _ 0 0 _
            refine x_ifne (tgt := 47) rfl rfl (ti_ne jk_0 jk_0 (bn_f (by omega) ?_))
            refine x_aloadn (x := 31) rfl rfl ?_
            refine x_bipush (v := (-2)) rfl kb_m2 ?_
            refine x_inv (N := m_X11_refuse) (As := [.int (-2)]) (b := 31) (st := []) (dx9 := 2) (mc := 0) (ms := 0) (host := "") 11 rfl t_X11_refuse ⟨Or.inl q_11_206, i_X11_refuse.1, i_X11_refuse.2⟩ ⟨by decide, rfl⟩ (congrArg Prod.fst (J.1.1 31 (11, 13) rfl)) rfl (by decide) rfl rfl ⟨by decide, by decide⟩ (jC.of rfl k_X11_refuse rfl ?_)
            show jX m_X11_refuse 2 0 0 0 [(0, .ref 31), (1, .int (-2))] [] _ 0 0 _
            refine x_aloadn (x := 31) rfl rfl ?_
            refine x_iloadn (x := (-2)) rfl rfl ?_
            refine z_putI (N := 13) (w := (-2)) 11 12 rfl f_11_94 rfl (jfin_no TX11 RX11 13 rfl rfl) hD J Sm rfl rfl jk_m2 (pw_31_12 (by omega)) rfl (fun h w8 J Sm => ?_)
            rw [vwf w8 (show (-2) = ((-2) : Int32).toInt from by have := jk_m2; omega)] at D
            refine x_iloadn (x := (-2)) rfl rfl ?_
            refine x_iret rfl rfl ?_
            show jX m_X11_value 3 0 0 46 [(0, .ref 31), (1, .int a1), (2, .int a2), (3, .int a3), (4, .int a4)] [.int (-2)] _ 0 0 _
            refine x_iret rfl rfl ?_
            exact hQ _ _ (jr_of jk_m2 (by omega)) J Sm ((congrArg Prod.fst D).symm.trans (show (-2) = ((-2) : Int32).toInt from by have := jk_m2; omega)) (congrArg Prod.snd D).symm
          ·
            rw [if_neg (by omega)] at D
            refine x_iloadn (x := a1) rfl rfl ?_
            refine x_aloadn (x := 31) rfl rfl ?_
            refine z_getR (N := 13) (b := 32) 11 0 rfl f_11_10 rfl J rfl 3968 ⟨rfl, rfl⟩ rfl ?_
            refine z_getR (N := 20) (b := 49) 1 8 rfl f_11_408 rfl J rfl 4104 ⟨rfl, rfl⟩ rfl ?_
            refine z_getI (N := 4) 8 3 rfl f_11_142 rfl J rfl sg_49_3_4_1_0_1 (fun v9 qv9 ev9 => ?_)
            try rw [vrf qv9] at D
            refine x_icge (tgt := 28) rfl rfl (ti_ge rfl rfl ⟨fun c10 => ?_, fun c10 => ?_⟩)
            ·
              rw [if_pos (by omega)] at D
              refine x_iconst (v := 0) rfl ki_0 ?_
              refine x_zret rfl rfl (by decide) ?_
              show jX m_X11_value 3 0 0 37 [(0, .ref 31), (1, .int a1), (2, .int a2), (3, .int a3), (4, .int a4)] [.int 0] _ 0 0 _
              refine x_ifne (tgt := 47) rfl rfl (ti_ne jk_0 jk_0 (bn_f (by omega) ?_))
              refine x_aloadn (x := 31) rfl rfl ?_
              refine x_bipush (v := (-2)) rfl kb_m2 ?_
              refine x_inv (N := m_X11_refuse) (As := [.int (-2)]) (b := 31) (st := []) (dx9 := 2) (mc := 0) (ms := 0) (host := "") 11 rfl t_X11_refuse ⟨Or.inl q_11_206, i_X11_refuse.1, i_X11_refuse.2⟩ ⟨by decide, rfl⟩ (congrArg Prod.fst (J.1.1 31 (11, 13) rfl)) rfl (by decide) rfl rfl ⟨by decide, by decide⟩ (jC.of rfl k_X11_refuse rfl ?_)
              show jX m_X11_refuse 2 0 0 0 [(0, .ref 31), (1, .int (-2))] [] _ 0 0 _
              refine x_aloadn (x := 31) rfl rfl ?_
              refine x_iloadn (x := (-2)) rfl rfl ?_
              refine z_putI (N := 13) (w := (-2)) 11 12 rfl f_11_94 rfl (jfin_no TX11 RX11 13 rfl rfl) hD J Sm rfl rfl jk_m2 (pw_31_12 (by omega)) rfl (fun h w11 J Sm => ?_)
              rw [vwf w11 (show (-2) = ((-2) : Int32).toInt from by have := jk_m2; omega)] at D
              refine x_iloadn (x := (-2)) rfl rfl ?_
              refine x_iret rfl rfl ?_
              show jX m_X11_value 3 0 0 46 [(0, .ref 31), (1, .int a1), (2, .int a2), (3, .int a3), (4, .int a4)] [.int (-2)] _ 0 0 _
              refine x_iret rfl rfl ?_
              exact hQ _ _ (jr_of jk_m2 (by omega)) J Sm ((congrArg Prod.fst D).symm.trans (show (-2) = ((-2) : Int32).toInt from by have := jk_m2; omega)) (congrArg Prod.snd D).symm
            ·
              rw [if_neg (by omega)] at D
              refine x_iloadn (x := a1) rfl rfl ?_
              refine x_bipush (v := 40) rfl kb_40 ?_
              refine x_icge (tgt := 28) rfl rfl (ti_ge rfl jk_40 (br_f (by omega) ?_))
              refine x_iconst (v := 1) rfl ki_1 ?_
              refine x_goto (tgt := 29) rfl rfl ?_
              refine x_zret rfl rfl (by decide) ?_
              show jX m_X11_value 3 0 0 37 [(0, .ref 31), (1, .int a1), (2, .int a2), (3, .int a3), (4, .int a4)] [.int 1] _ 0 0 _
              refine x_ifne (tgt := 47) rfl rfl (ti_ne jk_1 jk_0 (bn_t (by omega) ?_))
              refine x_aloadn (x := 31) rfl rfl ?_
              refine z_getR (N := 13) (b := 32) 11 0 rfl f_11_10 rfl J rfl 3968 ⟨rfl, rfl⟩ rfl ?_
              refine z_getR (N := 20) (b := 49) 1 8 rfl f_11_408 rfl J rfl 4104 ⟨rfl, rfl⟩ rfl ?_
              refine x_iloadn (x := a1) rfl rfl ?_
              refine x_iconst (v := 2) rfl ki_2 ?_
              refine x_inv (N := m_X8_at) (As := [.int a1, .int 2]) (b := 49) (st := []) (dx9 := 1) (mc := 0) (ms := 0) (host := "") 8 rfl t_X8_at ⟨Or.inl q_11_171, i_X8_at.1, i_X8_at.2⟩ ⟨by decide, rfl⟩ (congrArg Prod.fst (J.1.1 49 (8, 4) rfl)) rfl (by decide) rfl rfl ⟨by decide, by decide⟩ (sf_X8_at_r49_c2d (jr_of rfl (by omega)) hD J rfl  (fun v15 h ev15 J S12 X13 X14 => ?_))
              have Sm := jSm_tr rfl Sm S12
              try rw [X13] at D
              try rw [← X14] at D
              show jX m_X11_value 3 0 0 59 [(0, .ref 31), (1, .int a1), (2, .int a2), (3, .int a3), (4, .int a4)] [.int v15] _ 0 0 _
              refine x_iconst (v := (-1)) rfl ki_m1 ?_
              refine x_iceq (tgt := 70) rfl rfl (ti_eq rfl jk_m1 ⟨fun c16 => ?_, fun c16 => ?_⟩)
              ·
                rw [if_pos (by omega)] at D
                refine x_aloadn (x := 31) rfl rfl ?_
                refine z_getR (N := 13) (b := 32) 11 0 rfl f_11_10 rfl J rfl 3968 ⟨rfl, rfl⟩ rfl ?_
                refine z_getR (N := 20) (b := 47) 1 7 rfl f_11_418 rfl J rfl 4103 ⟨rfl, rfl⟩ rfl ?_
                refine x_inv (N := m_X8_isFull) (As := []) (b := 47) (st := []) (dx9 := 1) (mc := 0) (ms := 0) (host := "") 8 rfl t_X8_isFull ⟨Or.inl q_11_130, i_X8_isFull.1, i_X8_isFull.2⟩ ⟨by decide, rfl⟩ (congrArg Prod.fst (J.1.1 47 (8, 4) rfl)) rfl (by decide) rfl rfl ⟨by decide, by decide⟩ (sf_X8_isFull_r47d  hD J rfl  (fun v20 h ev20 J S17 X18 X19 => ?_))
                have Sm := jSm_tr rfl Sm S17
                try rw [X18] at D
                try rw [← X19] at D
                show jX m_X11_value 3 0 0 80 [(0, .ref 31), (1, .int a1), (2, .int a2), (3, .int a3), (4, .int a4)] [.int v20] _ 0 0 _
                refine x_ifeq (tgt := 90) rfl rfl (ti_eq rfl jk_0 ⟨fun c21 => ?_, fun c21 => ?_⟩)
                ·
                  rw [if_pos (by omega)] at D
                  refine x_aloadn (x := 31) rfl rfl ?_
                  refine z_getR (N := 13) (b := 32) 11 0 rfl f_11_10 rfl J rfl 3968 ⟨rfl, rfl⟩ rfl ?_
                  refine z_getR (N := 20) (b := 47) 1 7 rfl f_11_418 rfl J rfl 4103 ⟨rfl, rfl⟩ rfl ?_
                  refine x_iload (x := a4) rfl rfl ?_
                  refine x_iloadn (x := a3) rfl rfl ?_
                  refine x_iloadn (x := a1) rfl rfl ?_
                  refine x_iloadn (x := a2) rfl rfl ?_
                  refine x_iconst (v := 0) rfl ki_0 ?_
                  refine x_iconst (v := 0) rfl ki_0 ?_
                  refine x_inv (N := m_X8_add) (As := [.int a4, .int a3, .int a1, .int a2, .int 0, .int 0]) (b := 47) (st := []) (dx9 := 2) (mc := 0) (ms := 0) (host := "") 8 rfl t_X8_add ⟨Or.inl q_11_145, i_X8_add.1, i_X8_add.2⟩ ⟨by decide, rfl⟩ (congrArg Prod.fst (J.1.1 47 (8, 4) rfl)) rfl (by decide) rfl rfl ⟨by decide, by decide⟩ (sf_X8_add_r47d (jr_of rfl (by omega)) (jr_of rfl (by omega)) (jr_of rfl (by omega)) (jr_of rfl (by omega)) (jr_of jk_0 (by omega)) (jr_of jk_0 (by omega)) hD J rfl  (fun h J S22 X23 => ?_))
                  have Sm := jSm_tr rfl Sm S22
                  try rw [jk_0] at X23
                  rw [X23] at D
                  show jX m_X11_value 3 0 0 107 [(0, .ref 31), (1, .int a1), (2, .int a2), (3, .int a3), (4, .int a4)] [] _ 0 0 _
                  refine x_aloadn (x := 31) rfl rfl ?_
                  refine x_aloadn (x := 31) rfl rfl ?_
                  refine z_getR (N := 13) (b := 32) 11 0 rfl f_11_10 rfl J rfl 3968 ⟨rfl, rfl⟩ rfl ?_
                  refine z_getR (N := 20) (b := 47) 1 7 rfl f_11_418 rfl J rfl 4103 ⟨rfl, rfl⟩ rfl ?_
                  refine z_getI (N := 4) 8 3 rfl f_11_142 rfl J rfl sg_47_3_4_1_0_1 (fun v24 qv24 ev24 => ?_)
                  try rw [vrf qv24] at D
                  refine x_inv (N := m_X11_accept) (As := [.int v24]) (b := 31) (st := []) (dx9 := 2) (mc := 0) (ms := 0) (host := "") 11 rfl t_X11_accept ⟨Or.inl q_11_165, i_X11_accept.1, i_X11_accept.2⟩ ⟨by decide, rfl⟩ (congrArg Prod.fst (J.1.1 31 (11, 13) rfl)) rfl (by decide) rfl rfl ⟨by decide, by decide⟩ (jC.of rfl k_X11_accept rfl ?_)
                  show jX m_X11_accept 2 0 0 0 [(0, .ref 31), (1, .int v24)] [] _ 0 0 _
                  refine x_aloadn (x := 31) rfl rfl ?_
                  refine x_iconst (v := 0) rfl ki_0 ?_
                  refine z_putI (N := 13) (w := 0) 11 12 rfl f_11_94 rfl (jfin_no TX11 RX11 13 rfl rfl) hD J Sm rfl rfl jk_0 (pw_31_12 (by omega)) rfl (fun h w25 J Sm => ?_)
                  rw [vwf w25 (show 0 = (0 : Int32).toInt from by have := jk_0; omega)] at D
                  refine x_aloadn (x := 31) rfl rfl ?_
                  refine z_getR (N := 13) (b := 32) 11 0 rfl f_11_10 rfl J rfl 3968 ⟨rfl, rfl⟩ rfl ?_
                  refine x_dup rfl rfl ?_
                  refine z_getI0 (N := 20) 1 19 rfl f_11_528 rfl J rfl (fun v26 qv26 => ?_)
                  have ev26 := jfull v26
                  try rw [vrf (jmb_c S22 (jmb_w w25 qv26 rfl) rfl)] at D
                  refine x_iconst (v := 1) rfl ki_1 ?_
                  refine z_iaddW rfl rfl jk_1 (fun v27 ev27 => ?_)
                  have fv27 := jfull v27
                  try rw [← ev27] at D
                  refine z_putI (N := 20) (w := v27.toInt) 1 19 rfl f_11_528 rfl (jfin_no TX1 RX1 20 rfl rfl) hD J Sm rfl rfl rfl (pw_32_19 trivial) rfl (fun h w28 J Sm => ?_)
                  rw [vwf w28 (show v27.toInt = v27.toInt from by omega)] at D
                  refine x_iloadn (x := v24) rfl rfl ?_
                  refine x_iret rfl rfl ?_
                  show jX m_X11_value 3 0 0 121 [(0, .ref 31), (1, .int a1), (2, .int a2), (3, .int a3), (4, .int a4)] [.int v24] _ 0 0 _
                  refine x_iret rfl rfl ?_
                  exact hQ _ _ (jr_of rfl (by omega)) J Sm ((congrArg Prod.fst D).symm.trans (show v24.toInt = v24.toInt from by omega)) (congrArg Prod.snd D).symm
                ·
                  rw [if_neg (by omega)] at D
                  refine x_aloadn (x := 31) rfl rfl ?_
                  refine x_bipush (v := (-5)) rfl kb_m5 ?_
                  refine x_inv (N := m_X11_refuse) (As := [.int (-5)]) (b := 31) (st := []) (dx9 := 2) (mc := 0) (ms := 0) (host := "") 11 rfl t_X11_refuse ⟨Or.inl q_11_206, i_X11_refuse.1, i_X11_refuse.2⟩ ⟨by decide, rfl⟩ (congrArg Prod.fst (J.1.1 31 (11, 13) rfl)) rfl (by decide) rfl rfl ⟨by decide, by decide⟩ (jC.of rfl k_X11_refuse rfl ?_)
                  show jX m_X11_refuse 2 0 0 0 [(0, .ref 31), (1, .int (-5))] [] _ 0 0 _
                  refine x_aloadn (x := 31) rfl rfl ?_
                  refine x_iloadn (x := (-5)) rfl rfl ?_
                  refine z_putI (N := 13) (w := (-5)) 11 12 rfl f_11_94 rfl (jfin_no TX11 RX11 13 rfl rfl) hD J Sm rfl rfl jk_m5 (pw_31_12 (by omega)) rfl (fun h w29 J Sm => ?_)
                  rw [vwf w29 (show (-5) = ((-5) : Int32).toInt from by have := jk_m5; omega)] at D
                  refine x_iloadn (x := (-5)) rfl rfl ?_
                  refine x_iret rfl rfl ?_
                  show jX m_X11_value 3 0 0 89 [(0, .ref 31), (1, .int a1), (2, .int a2), (3, .int a3), (4, .int a4)] [.int (-5)] _ 0 0 _
                  refine x_iret rfl rfl ?_
                  exact hQ _ _ (jr_of jk_m5 (by omega)) J Sm ((congrArg Prod.fst D).symm.trans (show (-5) = ((-5) : Int32).toInt from by have := jk_m5; omega)) (congrArg Prod.snd D).symm
              ·
                rw [if_neg (by omega)] at D
                refine x_aloadn (x := 31) rfl rfl ?_
                refine x_bipush (v := (-3)) rfl kb_m3 ?_
                refine x_inv (N := m_X11_refuse) (As := [.int (-3)]) (b := 31) (st := []) (dx9 := 2) (mc := 0) (ms := 0) (host := "") 11 rfl t_X11_refuse ⟨Or.inl q_11_206, i_X11_refuse.1, i_X11_refuse.2⟩ ⟨by decide, rfl⟩ (congrArg Prod.fst (J.1.1 31 (11, 13) rfl)) rfl (by decide) rfl rfl ⟨by decide, by decide⟩ (jC.of rfl k_X11_refuse rfl ?_)
                show jX m_X11_refuse 2 0 0 0 [(0, .ref 31), (1, .int (-3))] [] _ 0 0 _
                refine x_aloadn (x := 31) rfl rfl ?_
                refine x_iloadn (x := (-3)) rfl rfl ?_
                refine z_putI (N := 13) (w := (-3)) 11 12 rfl f_11_94 rfl (jfin_no TX11 RX11 13 rfl rfl) hD J Sm rfl rfl jk_m3 (pw_31_12 (by omega)) rfl (fun h w30 J Sm => ?_)
                rw [vwf w30 (show (-3) = ((-3) : Int32).toInt from by have := jk_m3; omega)] at D
                refine x_iloadn (x := (-3)) rfl rfl ?_
                refine x_iret rfl rfl ?_
                show jX m_X11_value 3 0 0 69 [(0, .ref 31), (1, .int a1), (2, .int a2), (3, .int a3), (4, .int a4)] [.int (-3)] _ 0 0 _
                refine x_iret rfl rfl ?_
                exact hQ _ _ (jr_of jk_m3 (by omega)) J Sm ((congrArg Prod.fst D).symm.trans (show (-3) = ((-3) : Int32).toInt from by have := jk_m3; omega)) (congrArg Prod.snd D).symm
        ·
          rw [if_neg (by omega)] at D
          exact jX.sub (jsb_c rfl jsb_n) (ct_X11_value_r31d_26 hD hQ  h J Sm D)
def fp_X11_waits_r31d : jFp := [(78, 13, 14), (82, 0, 600), (83, 0, 600), (84, 0, 200), (86, 0, 3)]
set_option maxRecDepth 100000 in
set_option maxHeartbeats 4000000 in
theorem ct_X11_waits_r31d_100070 {Dy : jH → Prop} {h0 : jH} {Q : Option Value → jH → Prop} {dr : (Int × jW)} (hD : jDk Dy) (hQ : ∀ (v : Int32) hx9, (-1) ≤ v.toInt ∧ v.toInt ≤ 200 → jJ jSgX Dy hx9 → jSm fp_X11_waits_r31d h0 hx9 → dr.1 = v.toInt → dr.2 = vw hx9 → Q (some (.int v)) hx9) : ∀ (h : jH), jJ jSgX Dy h → jSm fp_X11_waits_r31d h0 h → d_X11_waits_r31d_100070  (vw h) = dr → jX m_X11_waits 7 0 0 70 [] [.int (-1)] h 0 0 Q := by
  intro  h    J Sm D
  unfold d_X11_waits_r31d_100070 at D
  refine x_iret rfl rfl ?_
  exact hQ _ _ (jr_of jk_m1 (by omega)) J Sm ((congrArg Prod.fst D).symm.trans (show (-1) = ((-1) : Int32).toInt from by have := jk_m1; omega)) (congrArg Prod.snd D).symm
set_option maxRecDepth 100000 in
set_option maxHeartbeats 4000000 in
theorem ct_X11_waits_r31d_70 {Dy : jH → Prop} {h0 : jH} {Q : Option Value → jH → Prop} {dr : (Int × jW)} (hD : jDk Dy) (hQ : ∀ (v : Int32) hx9, (-1) ≤ v.toInt ∧ v.toInt ≤ 200 → jJ jSgX Dy hx9 → jSm fp_X11_waits_r31d h0 hx9 → dr.1 = v.toInt → dr.2 = vw hx9 → Q (some (.int v)) hx9) : ∀ (s0 : Int32) (h : jH), 0 ≤ s0.toInt ∧ s0.toInt ≤ 199 → jJ jSgX Dy h → jSm fp_X11_waits_r31d h0 h → d_X11_waits_r31d_70  s0.toInt (vw h) = dr → jX m_X11_waits 7 0 0 70 [] [.int s0] h 0 0 Q := by
  intro s0 h y0   J Sm D
  unfold d_X11_waits_r31d_70 at D
  refine x_iret rfl rfl ?_
  exact hQ _ _ (jr_of rfl (by omega)) J Sm ((congrArg Prod.fst D).symm.trans (show s0.toInt = s0.toInt from by omega)) (congrArg Prod.snd D).symm
set_option maxRecDepth 100000 in
set_option maxHeartbeats 4000000 in
theorem ct_X11_waits_r31d_69 {Dy : jH → Prop} {h0 : jH} {Q : Option Value → jH → Prop} {dr : (Int × jW)} (hD : jDk Dy) (hQ : ∀ (v : Int32) hx9, (-1) ≤ v.toInt ∧ v.toInt ≤ 200 → jJ jSgX Dy hx9 → jSm fp_X11_waits_r31d h0 hx9 → dr.1 = v.toInt → dr.2 = vw hx9 → Q (some (.int v)) hx9) : ∀ (h : jH), jJ jSgX Dy h → jSm fp_X11_waits_r31d h0 h → d_X11_waits_r31d_69  (vw h) = dr → jX m_X11_waits 7 0 0 69 [] [] h 0 0 Q := by
  intro  h    J Sm D
  unfold d_X11_waits_r31d_69 at D
  refine x_iconst (v := (-1)) rfl ki_m1 ?_
  exact jX.sub jsb_n (ct_X11_waits_r31d_100070 hD hQ  h J Sm D)
set_option maxRecDepth 100000 in
set_option maxHeartbeats 4000000 in
theorem sf_X11_waits_r31d {Dy : jH → Prop} {h : jH} {Q : Option Value → jH → Prop} {dr : (Int × jW)} {a1 : Int32} {a2 : Int32} (hD : jDk Dy) (J : jJ jSgX Dy h) (D : d_X11_waits_r31d a1.toInt a2.toInt (vw h) = dr) (hQ : ∀ (v : Int32) hx9, (-1) ≤ v.toInt ∧ v.toInt ≤ 200 → jJ jSgX Dy hx9 → jSm fp_X11_waits_r31d h hx9 → dr.1 = v.toInt → dr.2 = vw hx9 → Q (some (.int v)) hx9) : jC m_X11_waits 7 0 0 [.ref 31, .int a1, .int a2] h Q := by
  refine jC.of rfl k_X11_waits rfl ?_
  have Sm := jSm_rf fp_X11_waits_r31d h
  have ea1 := jfull a1
  have ea2 := jfull a2
  show jX m_X11_waits 7 0 0 0 [(0, .ref 31), (1, .int a1), (2, .int a2)] [] _ 0 0 _
  unfold d_X11_waits_r31d at D
  refine x_iloadn (x := a1) rfl rfl ?_
  refine x_inst (N := m_X11_isDay) (As := [.int a1]) (st := []) (dx9 := 1) (mc := 0) (ms := 0) (host := "") rfl t_X11_isDay ⟨Or.inl q_11_115, s_X11_isDay⟩ rfl (by decide) rfl rfl ⟨by decide, by decide⟩ (zc_X11_isDay rfl (fun v1 ev1 => ?_))
  show jX m_X11_waits 7 0 0 4 [(0, .ref 31), (1, .int a1), (2, .int a2)] [.int v1] _ 0 0 _
  refine x_ifne (tgt := 9) rfl rfl (ti_ne rfl jk_0 ⟨fun c2 => ?_, fun c2 => ?_⟩)
  ·
    rw [if_pos (by omega)] at D
    refine x_aloadn (x := 31) rfl rfl ?_
    refine z_getR (N := 13) (b := 78) 11 4 rfl f_11_41 rfl J rfl 3972 ⟨rfl, rfl⟩ rfl ?_
    refine x_iloadn (x := a1) rfl rfl ?_
    refine x_inv (N := m_X7_asKnown) (As := [.int a1]) (b := 78) (st := []) (dx9 := 6) (mc := 0) (ms := 0) (host := "") 7 rfl t_X7_asKnown ⟨Or.inl q_11_240, i_X7_asKnown.1, i_X7_asKnown.2⟩ ⟨by decide, rfl⟩ (congrArg Prod.fst (J.1.1 78 (7, 16) rfl)) rfl (by decide) rfl rfl ⟨by decide, by decide⟩ (sf_X7_asKnown_r78d (jr_of rfl (by omega)) hD J rfl  (fun h J S3 X4 => ?_))
    have Sm := jSm_tr rfl Sm S3
    rw [X4] at D
    show jX m_X11_waits 7 0 0 17 [(0, .ref 31), (1, .int a1), (2, .int a2)] [] _ 0 0 _
    refine x_iloadn (x := a2) rfl rfl ?_
    refine x_iconst (v := (-1)) rfl ki_m1 ?_
    refine x_icne (tgt := 30) rfl rfl (ti_ne rfl jk_m1 ⟨fun c5 => ?_, fun c5 => ?_⟩)
    ·
      rw [if_neg (by omega)] at D
      refine x_iloadn (x := a2) rfl rfl ?_
      refine x_iflt (tgt := 69) rfl rfl (ti_lt rfl jk_0 ⟨fun c6 => ?_, fun c6 => ?_⟩)
      ·
        rw [if_pos (by omega)] at D
        exact jX.sub jsb_n (ct_X11_waits_r31d_69 hD hQ  h J Sm D)
      ·
        rw [if_neg (by omega)] at D
        refine x_iloadn (x := a2) rfl rfl ?_
        refine x_aloadn (x := 31) rfl rfl ?_
        refine z_getR (N := 13) (b := 78) 11 4 rfl f_11_41 rfl J rfl 3972 ⟨rfl, rfl⟩ rfl ?_
        refine z_getI (N := 16) 7 13 rfl f_11_243 rfl J rfl sg_78_13_14_1_0_1 (fun v7 qv7 ev7 => ?_)
        try rw [vrf qv7] at D
        refine x_icge (tgt := 69) rfl rfl (ti_ge rfl rfl ⟨fun c8 => ?_, fun c8 => ?_⟩)
        ·
          rw [if_pos (by omega)] at D
          exact jX.sub jsb_n (ct_X11_waits_r31d_69 hD hQ  h J Sm D)
        ·
          rw [if_neg (by omega)] at D
          refine x_iloadn (x := a2) rfl rfl ?_
          refine x_aloadn (x := 31) rfl rfl ?_
          refine z_getR (N := 13) (b := 78) 11 4 rfl f_11_41 rfl J rfl 3972 ⟨rfl, rfl⟩ rfl ?_
          refine z_getR (N := 16) (b := 84) 7 12 rfl f_11_246 rfl J rfl 9996 ⟨rfl, rfl⟩ rfl ?_
          refine z_alen (N := 200) (v := 200) rfl J rfl rfl (by decide) ?_
          refine x_icge (tgt := 69) rfl rfl (ti_ge rfl jk_200 (br_f (by omega) ?_))
          refine x_aloadn (x := 31) rfl rfl ?_
          refine z_getR (N := 13) (b := 78) 11 4 rfl f_11_41 rfl J rfl 3972 ⟨rfl, rfl⟩ rfl ?_
          refine z_getR (N := 16) (b := 84) 7 12 rfl f_11_246 rfl J rfl 9996 ⟨rfl, rfl⟩ rfl ?_
          refine x_iloadn (x := a2) rfl rfl ?_
          refine z_iald (N := 200) rfl J rfl sg_84_0_200_1_0_1 rfl (by omega) (fun v9 qv9 ev9 => ?_)
          try rw [vrd qv9 (show a2.toInt = a2.toInt from by omega)] at D
          refine x_goto (tgt := 70) rfl rfl ?_
          exact jX.sub jsb_n (ct_X11_waits_r31d_70 hD hQ  v9 h (jr_of rfl (by omega)) J Sm D)
    ·
      rw [if_pos (by omega)] at D
      refine x_aloadn (x := 31) rfl rfl ?_
      refine z_getR (N := 13) (b := 78) 11 4 rfl f_11_41 rfl J rfl 3972 ⟨rfl, rfl⟩ rfl ?_
      refine z_getI (N := 16) 7 13 rfl f_11_243 rfl J rfl sg_78_13_14_1_0_1 (fun v10 qv10 ev10 => ?_)
      try rw [vrf qv10] at D
      refine x_iret rfl rfl ?_
      exact hQ _ _ (jr_of rfl (by omega)) J Sm ((congrArg Prod.fst D).symm.trans (show v10.toInt = v10.toInt from by omega)) (congrArg Prod.snd D).symm
  ·
    rw [if_neg (by omega)] at D
    refine x_iconst (v := (-1)) rfl ki_m1 ?_
    refine x_iret rfl rfl ?_
    exact hQ _ _ (jr_of jk_m1 (by omega)) J Sm ((congrArg Prod.fst D).symm.trans (show (-1) = ((-1) : Int32).toInt from by have := jk_m1; omega)) (congrArg Prod.snd D).symm
def fp_X3_isWished_r87d : jFp := []
set_option maxRecDepth 100000 in
set_option maxHeartbeats 4000000 in
theorem ct_X3_isWished_r87d_2 {Dy : jH → Prop} {h0 : jH} {Q : Option Value → jH → Prop} {dr : Int} (hD : jDk Dy) (hQ : ∀ (v : Int32) hx9, 0 ≤ v.toInt ∧ v.toInt ≤ 1 → jJ jSgX Dy hx9 → jSm fp_X3_isWished_r87d h0 hx9 → dr = v.toInt → vw hx9 = vw h0 → Q (some (.int v)) hx9) : ∀ r : Nat, ∀ (l1 : Int32) (l2 : Int32) (h : jH), 9 - l2.toInt < (r : Int) → 0 ≤ l1.toInt ∧ l1.toInt ≤ 599 → 0 ≤ l2.toInt ∧ l2.toInt ≤ 9 → jJ jSgX Dy h → jSm fp_X3_isWished_r87d h0 h → d_X3_isWished_r87d_2 r l1.toInt l2.toInt (vw h) = dr → vw h = vw h0 → jX m_X3_isWished 1 0 0 2 [(0, .ref 87), (1, .int l1), (2, .int l2)] [] h 0 0 Q := by
  intro r
  induction r with
  | zero =>
    intro l1 l2 h hm y0 y1   J Sm D EV
    exfalso
    omega
  | succ r ih =>
    intro l1 l2 h hm y0 y1   J Sm D EV
    rw [d_X3_isWished_r87d_2.eq_2] at D
    refine x_iloadn (x := l2) rfl rfl ?_
    refine x_aloadn (x := 87) rfl rfl ?_
    refine z_getI (N := 14) 3 3 rfl f_3_15 rfl J rfl sg_87_3_4_1_0_1 (fun v1 qv1 ev1 => ?_)
    try rw [vrf qv1] at D
    refine x_icge (tgt := 28) rfl rfl (ti_ge rfl rfl ⟨fun c2 => ?_, fun c2 => ?_⟩)
    ·
      rw [if_pos (by omega)] at D
      refine x_iconst (v := 0) rfl ki_0 ?_
      refine x_zret rfl rfl (by decide) ?_
      exact hQ _ _ (jr_of jk_0 (by omega)) J Sm (D.symm.trans (show 0 = (0 : Int32).toInt from by have := jk_0; omega)) EV
    ·
      rw [if_neg (by omega)] at D
      refine x_aloadn (x := 87) rfl rfl ?_
      refine z_getR (N := 14) (b := 88) 3 2 rfl f_3_9 rfl J rfl 11138 ⟨rfl, rfl⟩ rfl ?_
      refine x_iloadn (x := l2) rfl rfl ?_
      refine z_iald (N := 9) rfl J rfl sg_88_0_9_1_0_1 rfl (by omega) (fun v3 qv3 ev3 => ?_)
      try rw [vrd qv3 (show l2.toInt = l2.toInt from by omega)] at D
      refine x_iloadn (x := l1) rfl rfl ?_
      refine x_icne (tgt := 22) rfl rfl (ti_ne rfl rfl ⟨fun c4 => ?_, fun c4 => ?_⟩)
      ·
        rw [if_neg (by omega)] at D
        refine z_iinc (x := l2) (lsx9 := fun v5 => [(2, .int v5), (0, .ref 87), (1, .int l1)]) rfl rfl rfl jko_1 (by omega) rfl (fun _ => rfl) (fun v5 ev5 => ?_)
        refine x_goto (tgt := 2) rfl rfl ?_
        try rw [show (l2.toInt + 1) = v5.toInt from by omega] at D
        exact jX.sub (jsb_c rfl (jsb_c rfl (jsb_c rfl jsb_n))) (ih l1 v5 h (by omega) (jr_of rfl (by omega)) (jr_of rfl (by omega)) J Sm D EV)
      ·
        rw [if_pos (by omega)] at D
        refine x_iconst (v := 1) rfl ki_1 ?_
        refine x_zret rfl rfl (by decide) ?_
        exact hQ _ _ (jr_of jk_1 (by omega)) J Sm (D.symm.trans (show 1 = (1 : Int32).toInt from by have := jk_1; omega)) EV
set_option maxRecDepth 100000 in
set_option maxHeartbeats 4000000 in
theorem sf_X3_isWished_r87d {Dy : jH → Prop} {h : jH} {Q : Option Value → jH → Prop} {dr : Int} {a1 : Int32} (y1 : 0 ≤ a1.toInt ∧ a1.toInt ≤ 599) (hD : jDk Dy) (J : jJ jSgX Dy h) (D : d_X3_isWished_r87d a1.toInt (vw h) = dr) (hQ : ∀ (v : Int32) hx9, 0 ≤ v.toInt ∧ v.toInt ≤ 1 → jJ jSgX Dy hx9 → jSm fp_X3_isWished_r87d h hx9 → dr = v.toInt → vw hx9 = vw h → Q (some (.int v)) hx9) : jC m_X3_isWished 1 0 0 [.ref 87, .int a1] h Q := by
  refine jC.of rfl k_X3_isWished rfl ?_
  have Sm := jSm_rf fp_X3_isWished_r87d h
  show jX m_X3_isWished 1 0 0 0 [(0, .ref 87), (1, .int a1)] [] _ 0 0 _
  unfold d_X3_isWished_r87d at D
  have EV : vw h = vw h := rfl
  refine x_iconst (v := 0) rfl ki_0 ?_
  refine x_istoren (lsx9 := [(2, .int 0), (0, .ref 87), (1, .int a1)]) rfl rfl rfl ?_
  exact jX.sub (jsb_c rfl (jsb_c rfl (jsb_c rfl jsb_n))) (ct_X3_isWished_r87d_2 hD hQ  10 a1 0 h (by have := jk_0; omega) (jr_of rfl (by omega)) (jr_of jk_0 (by omega)) J Sm (by rw [jk_0]; exact D) EV)
def fp_X11_wish_r31d : jFp := [(31, 12, 13), (32, 19, 20), (87, 3, 4), (87, 13, 14), (88, 0, 9)]
set_option maxRecDepth 100000 in
set_option maxHeartbeats 4000000 in
theorem sf_X11_wish_r31d {Dy : jH → Prop} {h : jH} {Q : Option Value → jH → Prop} {dr : (Int × jW)} {a1 : Int32} (hD : jDk Dy) (J : jJ jSgX Dy h) (D : d_X11_wish_r31d a1.toInt (vw h) = dr) (hQ : ∀ (v : Int32) hx9, (-366) ≤ v.toInt ∧ v.toInt ≤ 9 → jJ jSgX Dy hx9 → jSm fp_X11_wish_r31d h hx9 → dr.1 = v.toInt → dr.2 = vw hx9 → Q (some (.int v)) hx9) : jC m_X11_wish 2 0 0 [.ref 31, .int a1] h Q := by
  refine jC.of rfl k_X11_wish rfl ?_
  have Sm := jSm_rf fp_X11_wish_r31d h
  have ea1 := jfull a1
  show jX m_X11_wish 2 0 0 0 [(0, .ref 31), (1, .int a1)] [] _ 0 0 _
  unfold d_X11_wish_r31d at D
  refine x_aloadn (x := 31) rfl rfl ?_
  refine z_getR (N := 13) (b := 78) 11 4 rfl f_11_41 rfl J rfl 3972 ⟨rfl, rfl⟩ rfl ?_
  refine x_iloadn (x := a1) rfl rfl ?_
  refine x_inv (N := m_X7_isMention) (As := [.int a1]) (b := 78) (st := []) (dx9 := 1) (mc := 0) (ms := 0) (host := "") 7 rfl t_X7_isMention ⟨Or.inl q_11_187, i_X7_isMention.1, i_X7_isMention.2⟩ ⟨by decide, rfl⟩ (congrArg Prod.fst (J.1.1 78 (7, 16) rfl)) rfl (by decide) rfl rfl ⟨by decide, by decide⟩ (jC.of rfl k_X7_isMention rfl ?_)
  show jX m_X7_isMention 1 0 0 0 [(0, .ref 78), (1, .int a1)] [] _ 0 0 _
  refine x_iloadn (x := a1) rfl rfl ?_
  refine x_iflt (tgt := 41) rfl rfl (ti_lt rfl jk_0 ⟨fun c1 => ?_, fun c1 => ?_⟩)
  ·
    rw [if_pos (by omega)] at D
    refine x_iconst (v := 0) rfl ki_0 ?_
    refine x_zret rfl rfl (by decide) ?_
    show jX m_X11_wish 2 0 0 8 [(0, .ref 31), (1, .int a1)] [.int 0] _ 0 0 _
    refine x_ifne (tgt := 18) rfl rfl (ti_ne jk_0 jk_0 (bn_f (by omega) ?_))
    refine x_aloadn (x := 31) rfl rfl ?_
    refine x_bipush (v := (-2)) rfl kb_m2 ?_
    refine x_inv (N := m_X11_refuse) (As := [.int (-2)]) (b := 31) (st := []) (dx9 := 1) (mc := 0) (ms := 0) (host := "") 11 rfl t_X11_refuse ⟨Or.inl q_11_206, i_X11_refuse.1, i_X11_refuse.2⟩ ⟨by decide, rfl⟩ (congrArg Prod.fst (J.1.1 31 (11, 13) rfl)) rfl (by decide) rfl rfl ⟨by decide, by decide⟩ (jC.of rfl k_X11_refuse rfl ?_)
    show jX m_X11_refuse 1 0 0 0 [(0, .ref 31), (1, .int (-2))] [] _ 0 0 _
    refine x_aloadn (x := 31) rfl rfl ?_
    refine x_iloadn (x := (-2)) rfl rfl ?_
    refine z_putI (N := 13) (w := (-2)) 11 12 rfl f_11_94 rfl (jfin_no TX11 RX11 13 rfl rfl) hD J Sm rfl rfl jk_m2 (pw_31_12 (by omega)) rfl (fun h w2 J Sm => ?_)
    rw [vwf w2 (show (-2) = ((-2) : Int32).toInt from by have := jk_m2; omega)] at D
    refine x_iloadn (x := (-2)) rfl rfl ?_
    refine x_iret rfl rfl ?_
    show jX m_X11_wish 2 0 0 17 [(0, .ref 31), (1, .int a1)] [.int (-2)] _ 0 0 _
    refine x_iret rfl rfl ?_
    exact hQ _ _ (jr_of jk_m2 (by omega)) J Sm ((congrArg Prod.fst D).symm.trans (show (-2) = ((-2) : Int32).toInt from by have := jk_m2; omega)) (congrArg Prod.snd D).symm
  ·
    rw [if_neg (by omega)] at D
    refine x_iloadn (x := a1) rfl rfl ?_
    refine x_sipush (v := 600) rfl ks_600 ?_
    refine x_icge (tgt := 41) rfl rfl (ti_ge rfl jk_600 ⟨fun c3 => ?_, fun c3 => ?_⟩)
    ·
      rw [if_pos (by omega)] at D
      refine x_iconst (v := 0) rfl ki_0 ?_
      refine x_zret rfl rfl (by decide) ?_
      show jX m_X11_wish 2 0 0 8 [(0, .ref 31), (1, .int a1)] [.int 0] _ 0 0 _
      refine x_ifne (tgt := 18) rfl rfl (ti_ne jk_0 jk_0 (bn_f (by omega) ?_))
      refine x_aloadn (x := 31) rfl rfl ?_
      refine x_bipush (v := (-2)) rfl kb_m2 ?_
      refine x_inv (N := m_X11_refuse) (As := [.int (-2)]) (b := 31) (st := []) (dx9 := 1) (mc := 0) (ms := 0) (host := "") 11 rfl t_X11_refuse ⟨Or.inl q_11_206, i_X11_refuse.1, i_X11_refuse.2⟩ ⟨by decide, rfl⟩ (congrArg Prod.fst (J.1.1 31 (11, 13) rfl)) rfl (by decide) rfl rfl ⟨by decide, by decide⟩ (jC.of rfl k_X11_refuse rfl ?_)
      show jX m_X11_refuse 1 0 0 0 [(0, .ref 31), (1, .int (-2))] [] _ 0 0 _
      refine x_aloadn (x := 31) rfl rfl ?_
      refine x_iloadn (x := (-2)) rfl rfl ?_
      refine z_putI (N := 13) (w := (-2)) 11 12 rfl f_11_94 rfl (jfin_no TX11 RX11 13 rfl rfl) hD J Sm rfl rfl jk_m2 (pw_31_12 (by omega)) rfl (fun h w4 J Sm => ?_)
      rw [vwf w4 (show (-2) = ((-2) : Int32).toInt from by have := jk_m2; omega)] at D
      refine x_iloadn (x := (-2)) rfl rfl ?_
      refine x_iret rfl rfl ?_
      show jX m_X11_wish 2 0 0 17 [(0, .ref 31), (1, .int a1)] [.int (-2)] _ 0 0 _
      refine x_iret rfl rfl ?_
      exact hQ _ _ (jr_of jk_m2 (by omega)) J Sm ((congrArg Prod.fst D).symm.trans (show (-2) = ((-2) : Int32).toInt from by have := jk_m2; omega)) (congrArg Prod.snd D).symm
    ·
      rw [if_neg (by omega)] at D
      refine x_iloadn (x := a1) rfl rfl ?_
      refine x_iconst (v := 3) rfl ki_3 ?_
      refine z_idiv rfl rfl jk_3 (by omega) (by omega) (fun v5 ev5 => ?_)
      refine x_aloadn (x := 78) rfl rfl ?_
      refine z_getR (N := 16) (b := 32) 7 0 rfl f_7_55 rfl J rfl 9984 ⟨rfl, rfl⟩ rfl ?_
      refine z_getR (N := 20) (b := 33) 1 0 rfl f_7_63 rfl J rfl 4096 ⟨rfl, rfl⟩ rfl ?_
      refine z_getI (N := 4) 8 3 rfl f_7_85 rfl J rfl sg_33_3_4_1_0_1 (fun v6 qv6 ev6 => ?_)
      try rw [vrf qv6] at D
      refine x_icge (tgt := 41) rfl rfl (ti_ge rfl rfl ⟨fun c7 => ?_, fun c7 => ?_⟩)
      ·
        rw [if_pos (by omega)] at D
        refine x_iconst (v := 0) rfl ki_0 ?_
        refine x_zret rfl rfl (by decide) ?_
        show jX m_X11_wish 2 0 0 8 [(0, .ref 31), (1, .int a1)] [.int 0] _ 0 0 _
        refine x_ifne (tgt := 18) rfl rfl (ti_ne jk_0 jk_0 (bn_f (by omega) ?_))
        refine x_aloadn (x := 31) rfl rfl ?_
        refine x_bipush (v := (-2)) rfl kb_m2 ?_
        refine x_inv (N := m_X11_refuse) (As := [.int (-2)]) (b := 31) (st := []) (dx9 := 1) (mc := 0) (ms := 0) (host := "") 11 rfl t_X11_refuse ⟨Or.inl q_11_206, i_X11_refuse.1, i_X11_refuse.2⟩ ⟨by decide, rfl⟩ (congrArg Prod.fst (J.1.1 31 (11, 13) rfl)) rfl (by decide) rfl rfl ⟨by decide, by decide⟩ (jC.of rfl k_X11_refuse rfl ?_)
        show jX m_X11_refuse 1 0 0 0 [(0, .ref 31), (1, .int (-2))] [] _ 0 0 _
        refine x_aloadn (x := 31) rfl rfl ?_
        refine x_iloadn (x := (-2)) rfl rfl ?_
        refine z_putI (N := 13) (w := (-2)) 11 12 rfl f_11_94 rfl (jfin_no TX11 RX11 13 rfl rfl) hD J Sm rfl rfl jk_m2 (pw_31_12 (by omega)) rfl (fun h w8 J Sm => ?_)
        rw [vwf w8 (show (-2) = ((-2) : Int32).toInt from by have := jk_m2; omega)] at D
        refine x_iloadn (x := (-2)) rfl rfl ?_
        refine x_iret rfl rfl ?_
        show jX m_X11_wish 2 0 0 17 [(0, .ref 31), (1, .int a1)] [.int (-2)] _ 0 0 _
        refine x_iret rfl rfl ?_
        exact hQ _ _ (jr_of jk_m2 (by omega)) J Sm ((congrArg Prod.fst D).symm.trans (show (-2) = ((-2) : Int32).toInt from by have := jk_m2; omega)) (congrArg Prod.snd D).symm
      ·
        rw [if_neg (by omega)] at D
        refine x_aloadn (x := 78) rfl rfl ?_
        refine z_getR (N := 16) (b := 79) 7 7 rfl f_7_27 rfl J rfl 9991 ⟨rfl, rfl⟩ rfl ?_
        refine x_iloadn (x := a1) rfl rfl ?_
        refine z_iald (N := 600) rfl J rfl sg_79_0_600_1_0_1 rfl (by omega) (fun v9 qv9 ev9 => ?_)
        try rw [vrd qv9 (show a1.toInt = a1.toInt from by omega)] at D
        refine x_iconst (v := (-1)) rfl ki_m1 ?_
        refine x_iceq (tgt := 41) rfl rfl (ti_eq rfl jk_m1 ⟨fun c10 => ?_, fun c10 => ?_⟩)
        ·
          rw [if_pos (by omega)] at D
          refine x_iconst (v := 0) rfl ki_0 ?_
          refine x_zret rfl rfl (by decide) ?_
          show jX m_X11_wish 2 0 0 8 [(0, .ref 31), (1, .int a1)] [.int 0] _ 0 0 _
          refine x_ifne (tgt := 18) rfl rfl (ti_ne jk_0 jk_0 (bn_f (by omega) ?_))
          refine x_aloadn (x := 31) rfl rfl ?_
          refine x_bipush (v := (-2)) rfl kb_m2 ?_
          refine x_inv (N := m_X11_refuse) (As := [.int (-2)]) (b := 31) (st := []) (dx9 := 1) (mc := 0) (ms := 0) (host := "") 11 rfl t_X11_refuse ⟨Or.inl q_11_206, i_X11_refuse.1, i_X11_refuse.2⟩ ⟨by decide, rfl⟩ (congrArg Prod.fst (J.1.1 31 (11, 13) rfl)) rfl (by decide) rfl rfl ⟨by decide, by decide⟩ (jC.of rfl k_X11_refuse rfl ?_)
          show jX m_X11_refuse 1 0 0 0 [(0, .ref 31), (1, .int (-2))] [] _ 0 0 _
          refine x_aloadn (x := 31) rfl rfl ?_
          refine x_iloadn (x := (-2)) rfl rfl ?_
          refine z_putI (N := 13) (w := (-2)) 11 12 rfl f_11_94 rfl (jfin_no TX11 RX11 13 rfl rfl) hD J Sm rfl rfl jk_m2 (pw_31_12 (by omega)) rfl (fun h w11 J Sm => ?_)
          rw [vwf w11 (show (-2) = ((-2) : Int32).toInt from by have := jk_m2; omega)] at D
          refine x_iloadn (x := (-2)) rfl rfl ?_
          refine x_iret rfl rfl ?_
          show jX m_X11_wish 2 0 0 17 [(0, .ref 31), (1, .int a1)] [.int (-2)] _ 0 0 _
          refine x_iret rfl rfl ?_
          exact hQ _ _ (jr_of jk_m2 (by omega)) J Sm ((congrArg Prod.fst D).symm.trans (show (-2) = ((-2) : Int32).toInt from by have := jk_m2; omega)) (congrArg Prod.snd D).symm
        ·
          rw [if_neg (by omega)] at D
          refine x_iconst (v := 1) rfl ki_1 ?_
          refine x_goto (tgt := 42) rfl rfl ?_
          refine x_zret rfl rfl (by decide) ?_
          show jX m_X11_wish 2 0 0 8 [(0, .ref 31), (1, .int a1)] [.int 1] _ 0 0 _
          refine x_ifne (tgt := 18) rfl rfl (ti_ne jk_1 jk_0 (bn_t (by omega) ?_))
          refine x_aloadn (x := 31) rfl rfl ?_
          refine z_getR (N := 13) (b := 87) 11 5 rfl f_11_50 rfl J rfl 3973 ⟨rfl, rfl⟩ rfl ?_
          refine x_iloadn (x := a1) rfl rfl ?_
          refine x_inv (N := m_X3_isWished) (As := [.int a1]) (b := 87) (st := []) (dx9 := 1) (mc := 0) (ms := 0) (host := "") 3 rfl t_X3_isWished ⟨Or.inl q_11_270, i_X3_isWished.1, i_X3_isWished.2⟩ ⟨by decide, rfl⟩ (congrArg Prod.fst (J.1.1 87 (3, 14) rfl)) rfl (by decide) rfl rfl ⟨by decide, by decide⟩ (sf_X3_isWished_r87d (jr_of rfl (by omega)) hD J rfl  (fun v15 h ev15 J S12 X13 X14 => ?_))
          have Sm := jSm_tr rfl Sm S12
          try rw [X13] at D
          try rw [← X14] at D
          show jX m_X11_wish 2 0 0 26 [(0, .ref 31), (1, .int a1)] [.int v15] _ 0 0 _
          refine x_ifeq (tgt := 36) rfl rfl (ti_eq rfl jk_0 ⟨fun c16 => ?_, fun c16 => ?_⟩)
          ·
            rw [if_pos (by omega)] at D
            refine x_aloadn (x := 31) rfl rfl ?_
            refine z_getR (N := 13) (b := 87) 11 5 rfl f_11_50 rfl J rfl 3973 ⟨rfl, rfl⟩ rfl ?_
            refine z_getI (N := 14) 3 3 rfl f_11_273 rfl J rfl sg_87_3_4_1_0_1 (fun v17 qv17 ev17 => ?_)
            try rw [vrf qv17] at D
            refine x_bipush (v := 9) rfl kb_9 ?_
            refine x_iclt (tgt := 55) rfl rfl (ti_lt rfl jk_9 ⟨fun c18 => ?_, fun c18 => ?_⟩)
            ·
              rw [if_pos (by omega)] at D
              refine x_aloadn (x := 31) rfl rfl ?_
              refine z_getR (N := 13) (b := 87) 11 5 rfl f_11_50 rfl J rfl 3973 ⟨rfl, rfl⟩ rfl ?_
              refine x_iloadn (x := a1) rfl rfl ?_
              refine x_inv (N := m_X3_put) (As := [.int a1]) (b := 87) (st := []) (dx9 := 1) (mc := 0) (ms := 0) (host := "") 3 rfl t_X3_put ⟨Or.inl q_11_276, i_X3_put.1, i_X3_put.2⟩ ⟨by decide, rfl⟩ (congrArg Prod.fst (J.1.1 87 (3, 14) rfl)) rfl (by decide) rfl rfl ⟨by decide, by decide⟩ (jC.of rfl k_X3_put rfl ?_)
              show jX m_X3_put 1 0 0 0 [(0, .ref 87), (1, .int a1)] [] _ 0 0 _
              refine x_aloadn (x := 87) rfl rfl ?_
              refine z_getM (N := 14) (v := v17) 3 3 rfl f_3_15 rfl J rfl qv17 ?_
              refine x_bipush (v := 9) rfl kb_9 ?_
              refine x_icge (tgt := 34) rfl rfl (ti_ge rfl jk_9 (br_f (by omega) ?_))
              refine x_aloadn (x := 87) rfl rfl ?_
              refine z_getR (N := 14) (b := 88) 3 2 rfl f_3_9 rfl J rfl 11138 ⟨rfl, rfl⟩ rfl ?_
              refine x_aloadn (x := 87) rfl rfl ?_
              refine z_getM (N := 14) (v := v17) 3 3 rfl f_3_15 rfl J rfl qv17 ?_
              refine x_iloadn (x := a1) rfl rfl ?_
              refine z_iast (N := 9) (l := 0) (u := 9) (w := a1.toInt) rfl hD J Sm rfl rfl rfl (by omega) rfl (wr_88 (fun q1 q2 q3 q4 => by omega)) rfl (fun h w19 J Sm => ?_)
              rw [vww w19 (show v17.toInt = v17.toInt from by omega) (show a1.toInt = a1.toInt from by omega)] at D
              refine x_aloadn (x := 87) rfl rfl ?_
              refine x_dup rfl rfl ?_
              refine z_getM (N := 14) (v := v17) 3 3 rfl f_3_15 rfl J rfl (jmo w19 rfl qv17) ?_
              refine x_iconst (v := 1) rfl ki_1 ?_
              refine z_iadd rfl rfl jk_1 (by omega) (fun v20 ev20 => ?_)
              refine z_putI (N := 14) (w := v20.toInt) 3 3 rfl f_3_15 rfl (jfin_no TX3 RX3 14 rfl rfl) hD J Sm rfl rfl rfl (pw_87_3 (by omega)) rfl (fun h w21 J Sm => ?_)
              rw [vwf w21 (show (v17.toInt + 1) = v20.toInt from by omega)] at D
              refine x_aloadn (x := 87) rfl rfl ?_
              refine x_iconst (v := 0) rfl ki_0 ?_
              refine z_putI (N := 14) (w := 0) 3 13 rfl f_3_46 rfl (jfin_no TX3 RX3 14 rfl rfl) hD J Sm rfl rfl jk_0 (pw_87_13 trivial) rfl (fun h w22 J Sm => ?_)
              rw [vwf w22 (show 0 = (0 : Int32).toInt from by have := jk_0; omega)] at D
              refine x_vret rfl rfl ?_
              show jX m_X11_wish 2 0 0 63 [(0, .ref 31), (1, .int a1)] [] _ 0 0 _
              refine x_aloadn (x := 31) rfl rfl ?_
              refine x_aloadn (x := 31) rfl rfl ?_
              refine z_getR (N := 13) (b := 87) 11 5 rfl f_11_50 rfl J rfl 3973 ⟨rfl, rfl⟩ rfl ?_
              refine z_getM (N := 14) (v := v20) 3 3 rfl f_11_273 rfl J rfl (jmo w22 rfl (jmw w21)) ?_
              refine x_inv (N := m_X11_accept) (As := [.int v20]) (b := 31) (st := []) (dx9 := 1) (mc := 0) (ms := 0) (host := "") 11 rfl t_X11_accept ⟨Or.inl q_11_165, i_X11_accept.1, i_X11_accept.2⟩ ⟨by decide, rfl⟩ (congrArg Prod.fst (J.1.1 31 (11, 13) rfl)) rfl (by decide) rfl rfl ⟨by decide, by decide⟩ (jC.of rfl k_X11_accept rfl ?_)
              show jX m_X11_accept 1 0 0 0 [(0, .ref 31), (1, .int v20)] [] _ 0 0 _
              refine x_aloadn (x := 31) rfl rfl ?_
              refine x_iconst (v := 0) rfl ki_0 ?_
              refine z_putI (N := 13) (w := 0) 11 12 rfl f_11_94 rfl (jfin_no TX11 RX11 13 rfl rfl) hD J Sm rfl rfl jk_0 (pw_31_12 (by omega)) rfl (fun h w23 J Sm => ?_)
              rw [vwf w23 (show 0 = (0 : Int32).toInt from by have := jk_0; omega)] at D
              refine x_aloadn (x := 31) rfl rfl ?_
              refine z_getR (N := 13) (b := 32) 11 0 rfl f_11_10 rfl J rfl 3968 ⟨rfl, rfl⟩ rfl ?_
              refine x_dup rfl rfl ?_
              refine z_getI0 (N := 20) 1 19 rfl f_11_528 rfl J rfl (fun v24 qv24 => ?_)
              have ev24 := jfull v24
              try rw [vrf (jmb_w w19 (jmb_w w21 (jmb_w w22 (jmb_w w23 qv24 rfl) rfl) rfl) rfl)] at D
              refine x_iconst (v := 1) rfl ki_1 ?_
              refine z_iaddW rfl rfl jk_1 (fun v25 ev25 => ?_)
              have fv25 := jfull v25
              try rw [← ev25] at D
              refine z_putI (N := 20) (w := v25.toInt) 1 19 rfl f_11_528 rfl (jfin_no TX1 RX1 20 rfl rfl) hD J Sm rfl rfl rfl (pw_32_19 trivial) rfl (fun h w26 J Sm => ?_)
              rw [vwf w26 (show v25.toInt = v25.toInt from by omega)] at D
              refine x_iloadn (x := v20) rfl rfl ?_
              refine x_iret rfl rfl ?_
              show jX m_X11_wish 2 0 0 74 [(0, .ref 31), (1, .int a1)] [.int v20] _ 0 0 _
              refine x_iret rfl rfl ?_
              exact hQ _ _ (jr_of rfl (by omega)) J Sm ((congrArg Prod.fst D).symm.trans (show (v17.toInt + 1) = v20.toInt from by omega)) (congrArg Prod.snd D).symm
            ·
              rw [if_neg (by omega)] at D
              refine x_aloadn (x := 31) rfl rfl ?_
              refine x_bipush (v := (-5)) rfl kb_m5 ?_
              refine x_inv (N := m_X11_refuse) (As := [.int (-5)]) (b := 31) (st := []) (dx9 := 1) (mc := 0) (ms := 0) (host := "") 11 rfl t_X11_refuse ⟨Or.inl q_11_206, i_X11_refuse.1, i_X11_refuse.2⟩ ⟨by decide, rfl⟩ (congrArg Prod.fst (J.1.1 31 (11, 13) rfl)) rfl (by decide) rfl rfl ⟨by decide, by decide⟩ (jC.of rfl k_X11_refuse rfl ?_)
              show jX m_X11_refuse 1 0 0 0 [(0, .ref 31), (1, .int (-5))] [] _ 0 0 _
              refine x_aloadn (x := 31) rfl rfl ?_
              refine x_iloadn (x := (-5)) rfl rfl ?_
              refine z_putI (N := 13) (w := (-5)) 11 12 rfl f_11_94 rfl (jfin_no TX11 RX11 13 rfl rfl) hD J Sm rfl rfl jk_m5 (pw_31_12 (by omega)) rfl (fun h w27 J Sm => ?_)
              rw [vwf w27 (show (-5) = ((-5) : Int32).toInt from by have := jk_m5; omega)] at D
              refine x_iloadn (x := (-5)) rfl rfl ?_
              refine x_iret rfl rfl ?_
              show jX m_X11_wish 2 0 0 54 [(0, .ref 31), (1, .int a1)] [.int (-5)] _ 0 0 _
              refine x_iret rfl rfl ?_
              exact hQ _ _ (jr_of jk_m5 (by omega)) J Sm ((congrArg Prod.fst D).symm.trans (show (-5) = ((-5) : Int32).toInt from by have := jk_m5; omega)) (congrArg Prod.snd D).symm
          ·
            rw [if_neg (by omega)] at D
            refine x_aloadn (x := 31) rfl rfl ?_
            refine x_bipush (v := (-4)) rfl kb_m4 ?_
            refine x_inv (N := m_X11_refuse) (As := [.int (-4)]) (b := 31) (st := []) (dx9 := 1) (mc := 0) (ms := 0) (host := "") 11 rfl t_X11_refuse ⟨Or.inl q_11_206, i_X11_refuse.1, i_X11_refuse.2⟩ ⟨by decide, rfl⟩ (congrArg Prod.fst (J.1.1 31 (11, 13) rfl)) rfl (by decide) rfl rfl ⟨by decide, by decide⟩ (jC.of rfl k_X11_refuse rfl ?_)
            show jX m_X11_refuse 1 0 0 0 [(0, .ref 31), (1, .int (-4))] [] _ 0 0 _
            refine x_aloadn (x := 31) rfl rfl ?_
            refine x_iloadn (x := (-4)) rfl rfl ?_
            refine z_putI (N := 13) (w := (-4)) 11 12 rfl f_11_94 rfl (jfin_no TX11 RX11 13 rfl rfl) hD J Sm rfl rfl jk_m4 (pw_31_12 (by omega)) rfl (fun h w28 J Sm => ?_)
            rw [vwf w28 (show (-4) = ((-4) : Int32).toInt from by have := jk_m4; omega)] at D
            refine x_iloadn (x := (-4)) rfl rfl ?_
            refine x_iret rfl rfl ?_
            show jX m_X11_wish 2 0 0 35 [(0, .ref 31), (1, .int a1)] [.int (-4)] _ 0 0 _
            refine x_iret rfl rfl ?_
            exact hQ _ _ (jr_of jk_m4 (by omega)) J Sm ((congrArg Prod.fst D).symm.trans (show (-4) = ((-4) : Int32).toInt from by have := jk_m4; omega)) (congrArg Prod.snd D).symm
def fp_X11_worth_r31d : jFp := []
set_option maxRecDepth 100000 in
set_option maxHeartbeats 4000000 in
theorem ct_X11_worth_r31d_22 {Dy : jH → Prop} {h0 : jH} {Q : Option Value → jH → Prop} {dr : Int} (hD : jDk Dy) (hQ : ∀ (v : Int32) hx9, (-1) ≤ v.toInt ∧ v.toInt ≤ 400 → jJ jSgX Dy hx9 → jSm fp_X11_worth_r31d h0 hx9 → dr = v.toInt → vw hx9 = vw h0 → Q (some (.int v)) hx9) : ∀ (h : jH), jJ jSgX Dy h → jSm fp_X11_worth_r31d h0 h → d_X11_worth_r31d_22  (vw h) = dr → vw h = vw h0 → jX m_X11_worth 6 0 0 22 [] [] h 0 0 Q := by
  intro  h    J Sm D EV
  unfold d_X11_worth_r31d_22 at D
  refine x_iconst (v := (-1)) rfl ki_m1 ?_
  refine x_iret rfl rfl ?_
  exact hQ _ _ (jr_of jk_m1 (by omega)) J Sm (D.symm.trans (show (-1) = ((-1) : Int32).toInt from by have := jk_m1; omega)) EV
set_option maxRecDepth 100000 in
set_option maxHeartbeats 4000000 in
theorem sf_X11_worth_r31d {Dy : jH → Prop} {h : jH} {Q : Option Value → jH → Prop} {dr : Int} {a1 : Int32} {a2 : Int32} (hD : jDk Dy) (J : jJ jSgX Dy h) (D : d_X11_worth_r31d a1.toInt a2.toInt (vw h) = dr) (hQ : ∀ (v : Int32) hx9, (-1) ≤ v.toInt ∧ v.toInt ≤ 400 → jJ jSgX Dy hx9 → jSm fp_X11_worth_r31d h hx9 → dr = v.toInt → vw hx9 = vw h → Q (some (.int v)) hx9) : jC m_X11_worth 6 0 0 [.ref 31, .int a1, .int a2] h Q := by
  refine jC.of rfl k_X11_worth rfl ?_
  have Sm := jSm_rf fp_X11_worth_r31d h
  have ea1 := jfull a1
  have ea2 := jfull a2
  show jX m_X11_worth 6 0 0 0 [(0, .ref 31), (1, .int a1), (2, .int a2)] [] _ 0 0 _
  unfold d_X11_worth_r31d at D
  have EV : vw h = vw h := rfl
  refine x_aloadn (x := 31) rfl rfl ?_
  refine z_getR (N := 13) (b := 78) 11 4 rfl f_11_41 rfl J rfl 3972 ⟨rfl, rfl⟩ rfl ?_
  refine x_iloadn (x := a1) rfl rfl ?_
  refine x_inv (N := m_X7_isMention) (As := [.int a1]) (b := 78) (st := []) (dx9 := 5) (mc := 0) (ms := 0) (host := "") 7 rfl t_X7_isMention ⟨Or.inl q_11_187, i_X7_isMention.1, i_X7_isMention.2⟩ ⟨by decide, rfl⟩ (congrArg Prod.fst (J.1.1 78 (7, 16) rfl)) rfl (by decide) rfl rfl ⟨by decide, by decide⟩ (jC.of rfl k_X7_isMention rfl ?_)
  show jX m_X7_isMention 5 0 0 0 [(0, .ref 78), (1, .int a1)] [] _ 0 0 _
  refine x_iloadn (x := a1) rfl rfl ?_
  refine x_iflt (tgt := 41) rfl rfl (ti_lt rfl jk_0 ⟨fun c1 => ?_, fun c1 => ?_⟩)
  ·
    rw [if_pos (by omega)] at D
    refine x_iconst (v := 0) rfl ki_0 ?_
    refine x_zret rfl rfl (by decide) ?_
    show jX m_X11_worth 6 0 0 8 [(0, .ref 31), (1, .int a1), (2, .int a2)] [.int 0] _ 0 0 _
    refine x_ifeq (tgt := 22) rfl rfl (ti_eq jk_0 jk_0 (br_t (by omega) ?_))
    exact jX.sub jsb_n (ct_X11_worth_r31d_22 hD hQ  h J Sm D EV)
  ·
    rw [if_neg (by omega)] at D
    refine x_iloadn (x := a1) rfl rfl ?_
    refine x_sipush (v := 600) rfl ks_600 ?_
    refine x_icge (tgt := 41) rfl rfl (ti_ge rfl jk_600 ⟨fun c2 => ?_, fun c2 => ?_⟩)
    ·
      rw [if_pos (by omega)] at D
      refine x_iconst (v := 0) rfl ki_0 ?_
      refine x_zret rfl rfl (by decide) ?_
      show jX m_X11_worth 6 0 0 8 [(0, .ref 31), (1, .int a1), (2, .int a2)] [.int 0] _ 0 0 _
      refine x_ifeq (tgt := 22) rfl rfl (ti_eq jk_0 jk_0 (br_t (by omega) ?_))
      exact jX.sub jsb_n (ct_X11_worth_r31d_22 hD hQ  h J Sm D EV)
    ·
      rw [if_neg (by omega)] at D
      refine x_iloadn (x := a1) rfl rfl ?_
      refine x_iconst (v := 3) rfl ki_3 ?_
      refine z_idiv rfl rfl jk_3 (by omega) (by omega) (fun v3 ev3 => ?_)
      refine x_aloadn (x := 78) rfl rfl ?_
      refine z_getR (N := 16) (b := 32) 7 0 rfl f_7_55 rfl J rfl 9984 ⟨rfl, rfl⟩ rfl ?_
      refine z_getR (N := 20) (b := 33) 1 0 rfl f_7_63 rfl J rfl 4096 ⟨rfl, rfl⟩ rfl ?_
      refine z_getI (N := 4) 8 3 rfl f_7_85 rfl J rfl sg_33_3_4_1_0_1 (fun v4 qv4 ev4 => ?_)
      try rw [vrf qv4] at D
      refine x_icge (tgt := 41) rfl rfl (ti_ge rfl rfl ⟨fun c5 => ?_, fun c5 => ?_⟩)
      ·
        rw [if_pos (by omega)] at D
        refine x_iconst (v := 0) rfl ki_0 ?_
        refine x_zret rfl rfl (by decide) ?_
        show jX m_X11_worth 6 0 0 8 [(0, .ref 31), (1, .int a1), (2, .int a2)] [.int 0] _ 0 0 _
        refine x_ifeq (tgt := 22) rfl rfl (ti_eq jk_0 jk_0 (br_t (by omega) ?_))
        exact jX.sub jsb_n (ct_X11_worth_r31d_22 hD hQ  h J Sm D EV)
      ·
        rw [if_neg (by omega)] at D
        refine x_aloadn (x := 78) rfl rfl ?_
        refine z_getR (N := 16) (b := 79) 7 7 rfl f_7_27 rfl J rfl 9991 ⟨rfl, rfl⟩ rfl ?_
        refine x_iloadn (x := a1) rfl rfl ?_
        refine z_iald (N := 600) rfl J rfl sg_79_0_600_1_0_1 rfl (by omega) (fun v6 qv6 ev6 => ?_)
        try rw [vrd qv6 (show a1.toInt = a1.toInt from by omega)] at D
        refine x_iconst (v := (-1)) rfl ki_m1 ?_
        refine x_iceq (tgt := 41) rfl rfl (ti_eq rfl jk_m1 ⟨fun c7 => ?_, fun c7 => ?_⟩)
        ·
          rw [if_pos (by omega)] at D
          refine x_iconst (v := 0) rfl ki_0 ?_
          refine x_zret rfl rfl (by decide) ?_
          show jX m_X11_worth 6 0 0 8 [(0, .ref 31), (1, .int a1), (2, .int a2)] [.int 0] _ 0 0 _
          refine x_ifeq (tgt := 22) rfl rfl (ti_eq jk_0 jk_0 (br_t (by omega) ?_))
          exact jX.sub jsb_n (ct_X11_worth_r31d_22 hD hQ  h J Sm D EV)
        ·
          rw [if_neg (by omega)] at D
          refine x_iconst (v := 1) rfl ki_1 ?_
          refine x_goto (tgt := 42) rfl rfl ?_
          refine x_zret rfl rfl (by decide) ?_
          show jX m_X11_worth 6 0 0 8 [(0, .ref 31), (1, .int a1), (2, .int a2)] [.int 1] _ 0 0 _
          refine x_ifeq (tgt := 22) rfl rfl (ti_eq jk_1 jk_0 (br_f (by omega) ?_))
          refine x_aloadn (x := 31) rfl rfl ?_
          refine z_getR (N := 13) (b := 78) 11 4 rfl f_11_41 rfl J rfl 3972 ⟨rfl, rfl⟩ rfl ?_
          refine x_iloadn (x := a2) rfl rfl ?_
          refine x_inv (N := m_X7_isMention) (As := [.int a2]) (b := 78) (st := []) (dx9 := 5) (mc := 0) (ms := 0) (host := "") 7 rfl t_X7_isMention ⟨Or.inl q_11_187, i_X7_isMention.1, i_X7_isMention.2⟩ ⟨by decide, rfl⟩ (congrArg Prod.fst (J.1.1 78 (7, 16) rfl)) rfl (by decide) rfl rfl ⟨by decide, by decide⟩ (jC.of rfl k_X7_isMention rfl ?_)
          show jX m_X7_isMention 5 0 0 0 [(0, .ref 78), (1, .int a2)] [] _ 0 0 _
          refine x_iloadn (x := a2) rfl rfl ?_
          refine x_iflt (tgt := 41) rfl rfl (ti_lt rfl jk_0 ⟨fun c8 => ?_, fun c8 => ?_⟩)
          ·
            rw [if_pos (by omega)] at D
            refine x_iconst (v := 0) rfl ki_0 ?_
            refine x_zret rfl rfl (by decide) ?_
            show jX m_X11_worth 6 0 0 19 [(0, .ref 31), (1, .int a1), (2, .int a2)] [.int 0] _ 0 0 _
            refine x_ifne (tgt := 24) rfl rfl (ti_ne jk_0 jk_0 (bn_f (by omega) ?_))
            exact jX.sub jsb_n (ct_X11_worth_r31d_22 hD hQ  h J Sm D EV)
          ·
            rw [if_neg (by omega)] at D
            refine x_iloadn (x := a2) rfl rfl ?_
            refine x_sipush (v := 600) rfl ks_600 ?_
            refine x_icge (tgt := 41) rfl rfl (ti_ge rfl jk_600 ⟨fun c9 => ?_, fun c9 => ?_⟩)
            ·
              rw [if_pos (by omega)] at D
              refine x_iconst (v := 0) rfl ki_0 ?_
              refine x_zret rfl rfl (by decide) ?_
              show jX m_X11_worth 6 0 0 19 [(0, .ref 31), (1, .int a1), (2, .int a2)] [.int 0] _ 0 0 _
              refine x_ifne (tgt := 24) rfl rfl (ti_ne jk_0 jk_0 (bn_f (by omega) ?_))
              exact jX.sub jsb_n (ct_X11_worth_r31d_22 hD hQ  h J Sm D EV)
            ·
              rw [if_neg (by omega)] at D
              refine x_iloadn (x := a2) rfl rfl ?_
              refine x_iconst (v := 3) rfl ki_3 ?_
              refine z_idiv rfl rfl jk_3 (by omega) (by omega) (fun v10 ev10 => ?_)
              refine x_aloadn (x := 78) rfl rfl ?_
              refine z_getR (N := 16) (b := 32) 7 0 rfl f_7_55 rfl J rfl 9984 ⟨rfl, rfl⟩ rfl ?_
              refine z_getR (N := 20) (b := 33) 1 0 rfl f_7_63 rfl J rfl 4096 ⟨rfl, rfl⟩ rfl ?_
              refine z_getM (N := 4) (v := v4) 8 3 rfl f_7_85 rfl J rfl qv4 ?_
              refine x_icge (tgt := 41) rfl rfl (ti_ge rfl rfl ⟨fun c11 => ?_, fun c11 => ?_⟩)
              ·
                rw [if_pos (by omega)] at D
                refine x_iconst (v := 0) rfl ki_0 ?_
                refine x_zret rfl rfl (by decide) ?_
                show jX m_X11_worth 6 0 0 19 [(0, .ref 31), (1, .int a1), (2, .int a2)] [.int 0] _ 0 0 _
                refine x_ifne (tgt := 24) rfl rfl (ti_ne jk_0 jk_0 (bn_f (by omega) ?_))
                exact jX.sub jsb_n (ct_X11_worth_r31d_22 hD hQ  h J Sm D EV)
              ·
                rw [if_neg (by omega)] at D
                refine x_aloadn (x := 78) rfl rfl ?_
                refine z_getR (N := 16) (b := 79) 7 7 rfl f_7_27 rfl J rfl 9991 ⟨rfl, rfl⟩ rfl ?_
                refine x_iloadn (x := a2) rfl rfl ?_
                refine z_iald (N := 600) rfl J rfl sg_79_0_600_1_0_1 rfl (by omega) (fun v12 qv12 ev12 => ?_)
                try rw [vrd qv12 (show a2.toInt = a2.toInt from by omega)] at D
                refine x_iconst (v := (-1)) rfl ki_m1 ?_
                refine x_iceq (tgt := 41) rfl rfl (ti_eq rfl jk_m1 ⟨fun c13 => ?_, fun c13 => ?_⟩)
                ·
                  rw [if_pos (by omega)] at D
                  refine x_iconst (v := 0) rfl ki_0 ?_
                  refine x_zret rfl rfl (by decide) ?_
                  show jX m_X11_worth 6 0 0 19 [(0, .ref 31), (1, .int a1), (2, .int a2)] [.int 0] _ 0 0 _
                  refine x_ifne (tgt := 24) rfl rfl (ti_ne jk_0 jk_0 (bn_f (by omega) ?_))
                  exact jX.sub jsb_n (ct_X11_worth_r31d_22 hD hQ  h J Sm D EV)
                ·
                  rw [if_neg (by omega)] at D
                  refine x_iconst (v := 1) rfl ki_1 ?_
                  refine x_goto (tgt := 42) rfl rfl ?_
                  refine x_zret rfl rfl (by decide) ?_
                  show jX m_X11_worth 6 0 0 19 [(0, .ref 31), (1, .int a1), (2, .int a2)] [.int 1] _ 0 0 _
                  refine x_ifne (tgt := 24) rfl rfl (ti_ne jk_1 jk_0 (bn_t (by omega) ?_))
                  refine x_aloadn (x := 31) rfl rfl ?_
                  refine z_getR (N := 13) (b := 78) 11 4 rfl f_11_41 rfl J rfl 3972 ⟨rfl, rfl⟩ rfl ?_
                  refine x_iloadn (x := a1) rfl rfl ?_
                  refine x_iloadn (x := a2) rfl rfl ?_
                  refine x_inv (N := m_X7_worthOf) (As := [.int a1, .int a2]) (b := 78) (st := []) (dx9 := 5) (mc := 0) (ms := 0) (host := "") 7 rfl t_X7_worthOf ⟨Or.inl q_11_227, i_X7_worthOf.1, i_X7_worthOf.2⟩ ⟨by decide, rfl⟩ (congrArg Prod.fst (J.1.1 78 (7, 16) rfl)) rfl (by decide) rfl rfl ⟨by decide, by decide⟩ (sf_X7_worthOf_r78d (jr_of rfl (by omega)) (jr_of rfl (by omega)) hD J rfl  (fun v17 h ev17 J S14 X15 X16 => ?_))
                  have Sm := jSm_tr rfl Sm S14
                  try rw [X15] at D
                  try rw [← X16] at D
                  have EV := X16.trans EV
                  show jX m_X11_worth 6 0 0 33 [(0, .ref 31), (1, .int a1), (2, .int a2)] [.int v17] _ 0 0 _
                  refine x_iret rfl rfl ?_
                  exact hQ _ _ (jr_of rfl (by omega)) J Sm (D.symm.trans (show v17.toInt = v17.toInt from by omega)) EV
