def fp_X11_apart_r31d : jFp := [(31, 12, 13), (32, 19, 20), (37, 3, 4), (38, 0, 120)]
set_option maxRecDepth 100000 in
set_option maxHeartbeats 4000000 in
theorem ct_X11_apart_r31d_22 {Dy : jH → Prop} {h0 : jH} {Q : Option Value → jH → Prop} {dr : (Int × jW)} (hD : jDk Dy) (hQ : ∀ (v : Int32) hx9, (-5) ≤ v.toInt ∧ v.toInt ≤ 0 → jJ jSgX Dy hx9 → jSm fp_X11_apart_r31d h0 hx9 → dr.1 = v.toInt → dr.2 = vw hx9 → Q (some (.int v)) hx9) : ∀ (h : jH), jJ jSgX Dy h → jSm fp_X11_apart_r31d h0 h → d_X11_apart_r31d_22  (vw h) = dr → jX m_X11_apart 3 0 0 22 [(0, .ref 31)] [] h 0 0 Q := by
  intro  h    J Sm D
  unfold d_X11_apart_r31d_22 at D
  refine x_aloadn (x := 31) rfl rfl ?_
  refine x_bipush (v := (-2)) rfl kb_m2 ?_
  refine x_inv (N := m_X11_refuse) (As := [.int (-2)]) (b := 31) (st := []) (dx9 := 2) (mc := 0) (ms := 0) (host := "") 11 rfl t_X11_refuse ⟨Or.inl q_11_206, i_X11_refuse.1, i_X11_refuse.2⟩ ⟨by decide, rfl⟩ (congrArg Prod.fst (J.1.1 31 (11, 13) rfl)) rfl (by decide) rfl rfl ⟨by decide, by decide⟩ (jC.of rfl k_X11_refuse rfl ?_)
  show jX m_X11_refuse 2 0 0 0 [(0, .ref 31), (1, .int (-2))] [] _ 0 0 _
  refine x_aloadn (x := 31) rfl rfl ?_
  refine x_iloadn (x := (-2)) rfl rfl ?_
  refine z_putI (N := 13) (w := (-2)) 11 12 rfl f_11_94 rfl (jfin_no TX11 RX11 13 rfl rfl) hD J Sm rfl rfl jk_m2 (pw_31_12 (by omega)) rfl (fun h w1 J Sm => ?_)
  rw [vwf w1 (show (-2) = ((-2) : Int32).toInt from by have := jk_m2; omega)] at D
  refine x_iloadn (x := (-2)) rfl rfl ?_
  refine x_iret rfl rfl ?_
  show jX m_X11_apart 3 0 0 28 [(0, .ref 31)] [.int (-2)] _ 0 0 _
  refine x_iret rfl rfl ?_
  exact hQ _ _ (jr_of jk_m2 (by omega)) J Sm ((congrArg Prod.fst D).symm.trans (show (-2) = ((-2) : Int32).toInt from by have := jk_m2; omega)) (congrArg Prod.snd D).symm
set_option maxRecDepth 100000 in
set_option maxHeartbeats 4000000 in
theorem sf_X11_apart_r31d {Dy : jH → Prop} {h : jH} {Q : Option Value → jH → Prop} {dr : (Int × jW)} {a1 : Int32} {a2 : Int32} (hD : jDk Dy) (J : jJ jSgX Dy h) (D : d_X11_apart_r31d a1.toInt a2.toInt (vw h) = dr) (hQ : ∀ (v : Int32) hx9, (-5) ≤ v.toInt ∧ v.toInt ≤ 0 → jJ jSgX Dy hx9 → jSm fp_X11_apart_r31d h hx9 → dr.1 = v.toInt → dr.2 = vw hx9 → Q (some (.int v)) hx9) : jC m_X11_apart 3 0 0 [.ref 31, .int a1, .int a2] h Q := by
  refine jC.of rfl k_X11_apart rfl ?_
  have Sm := jSm_rf fp_X11_apart_r31d h
  have ea1 := jfull a1
  have ea2 := jfull a2
  show jX m_X11_apart 3 0 0 0 [(0, .ref 31), (1, .int a1), (2, .int a2)] [] _ 0 0 _
  unfold d_X11_apart_r31d at D
  refine x_aloadn (x := 31) rfl rfl ?_
  refine z_getR (N := 13) (b := 78) 11 4 rfl f_11_41 rfl J rfl 3972 ⟨rfl, rfl⟩ rfl ?_
  refine x_iloadn (x := a1) rfl rfl ?_
  refine x_inv (N := m_X7_isMention) (As := [.int a1]) (b := 78) (st := []) (dx9 := 2) (mc := 0) (ms := 0) (host := "") 7 rfl t_X7_isMention ⟨Or.inl q_11_187, i_X7_isMention.1, i_X7_isMention.2⟩ ⟨by decide, rfl⟩ (congrArg Prod.fst (J.1.1 78 (7, 16) rfl)) rfl (by decide) rfl rfl ⟨by decide, by decide⟩ (jC.of rfl k_X7_isMention rfl ?_)
  show jX m_X7_isMention 2 0 0 0 [(0, .ref 78), (1, .int a1)] [] _ 0 0 _
  refine x_iloadn (x := a1) rfl rfl ?_
  refine x_iflt (tgt := 41) rfl rfl (ti_lt rfl jk_0 ⟨fun c1 => ?_, fun c1 => ?_⟩)
  ·
    rw [if_pos (by omega)] at D
    refine x_iconst (v := 0) rfl ki_0 ?_
    refine x_zret rfl rfl (by decide) ?_
    show jX m_X11_apart 3 0 0 8 [(0, .ref 31), (1, .int a1), (2, .int a2)] [.int 0] _ 0 0 _
    refine x_ifeq (tgt := 22) rfl rfl (ti_eq jk_0 jk_0 (br_t (by omega) ?_))
    exact jX.sub (jsb_c rfl jsb_n) (ct_X11_apart_r31d_22 hD hQ  h J Sm D)
  ·
    rw [if_neg (by omega)] at D
    refine x_iloadn (x := a1) rfl rfl ?_
    refine x_sipush (v := 600) rfl ks_600 ?_
    refine x_icge (tgt := 41) rfl rfl (ti_ge rfl jk_600 ⟨fun c2 => ?_, fun c2 => ?_⟩)
    ·
      rw [if_pos (by omega)] at D
      refine x_iconst (v := 0) rfl ki_0 ?_
      refine x_zret rfl rfl (by decide) ?_
      show jX m_X11_apart 3 0 0 8 [(0, .ref 31), (1, .int a1), (2, .int a2)] [.int 0] _ 0 0 _
      refine x_ifeq (tgt := 22) rfl rfl (ti_eq jk_0 jk_0 (br_t (by omega) ?_))
      exact jX.sub (jsb_c rfl jsb_n) (ct_X11_apart_r31d_22 hD hQ  h J Sm D)
    ·
      rw [if_neg (by omega)] at D
      refine x_iloadn (x := a1) rfl rfl ?_
      refine x_iconst (v := 3) rfl ki_3 ?_
      refine z_idiv rfl rfl jk_3 (by omega) (by omega) (fun v3 ev3 => ?_)
      refine x_aloadn (x := 78) rfl rfl ?_
      refine z_getR (N := 16) (b := 32) 7 0 rfl f_7_55 rfl J rfl 9984 ⟨rfl, rfl⟩ rfl ?_
      refine z_getR (N := 20) (b := 33) 1 0 rfl f_7_63 rfl J rfl 4096 ⟨rfl, rfl⟩ rfl ?_
      refine z_getI (N := 4) 8 3 rfl f_7_85 rfl J rfl sg_33_3_4_1_0_1 (fun v4 qv4 ev4 => ?_)
      try rw [vrf qv4] at D
      refine x_icge (tgt := 41) rfl rfl (ti_ge rfl rfl ⟨fun c5 => ?_, fun c5 => ?_⟩)
      ·
        rw [if_pos (by omega)] at D
        refine x_iconst (v := 0) rfl ki_0 ?_
        refine x_zret rfl rfl (by decide) ?_
        show jX m_X11_apart 3 0 0 8 [(0, .ref 31), (1, .int a1), (2, .int a2)] [.int 0] _ 0 0 _
        refine x_ifeq (tgt := 22) rfl rfl (ti_eq jk_0 jk_0 (br_t (by omega) ?_))
        exact jX.sub (jsb_c rfl jsb_n) (ct_X11_apart_r31d_22 hD hQ  h J Sm D)
      ·
        rw [if_neg (by omega)] at D
        refine x_aloadn (x := 78) rfl rfl ?_
        refine z_getR (N := 16) (b := 79) 7 7 rfl f_7_27 rfl J rfl 9991 ⟨rfl, rfl⟩ rfl ?_
        refine x_iloadn (x := a1) rfl rfl ?_
        refine z_iald (N := 600) rfl J rfl sg_79_0_600_1_0_1 rfl (by omega) (fun v6 qv6 ev6 => ?_)
        try rw [vrd qv6 (show a1.toInt = a1.toInt from by omega)] at D
        refine x_iconst (v := (-1)) rfl ki_m1 ?_
        refine x_iceq (tgt := 41) rfl rfl (ti_eq rfl jk_m1 ⟨fun c7 => ?_, fun c7 => ?_⟩)
        ·
          rw [if_pos (by omega)] at D
          refine x_iconst (v := 0) rfl ki_0 ?_
          refine x_zret rfl rfl (by decide) ?_
          show jX m_X11_apart 3 0 0 8 [(0, .ref 31), (1, .int a1), (2, .int a2)] [.int 0] _ 0 0 _
          refine x_ifeq (tgt := 22) rfl rfl (ti_eq jk_0 jk_0 (br_t (by omega) ?_))
          exact jX.sub (jsb_c rfl jsb_n) (ct_X11_apart_r31d_22 hD hQ  h J Sm D)
        ·
          rw [if_neg (by omega)] at D
          refine x_iconst (v := 1) rfl ki_1 ?_
          refine x_goto (tgt := 42) rfl rfl ?_
          refine x_zret rfl rfl (by decide) ?_
          show jX m_X11_apart 3 0 0 8 [(0, .ref 31), (1, .int a1), (2, .int a2)] [.int 1] _ 0 0 _
          refine x_ifeq (tgt := 22) rfl rfl (ti_eq jk_1 jk_0 (br_f (by omega) ?_))
          refine x_aloadn (x := 31) rfl rfl ?_
          refine z_getR (N := 13) (b := 78) 11 4 rfl f_11_41 rfl J rfl 3972 ⟨rfl, rfl⟩ rfl ?_
          refine x_iloadn (x := a2) rfl rfl ?_
          refine x_inv (N := m_X7_isMention) (As := [.int a2]) (b := 78) (st := []) (dx9 := 2) (mc := 0) (ms := 0) (host := "") 7 rfl t_X7_isMention ⟨Or.inl q_11_187, i_X7_isMention.1, i_X7_isMention.2⟩ ⟨by decide, rfl⟩ (congrArg Prod.fst (J.1.1 78 (7, 16) rfl)) rfl (by decide) rfl rfl ⟨by decide, by decide⟩ (jC.of rfl k_X7_isMention rfl ?_)
          show jX m_X7_isMention 2 0 0 0 [(0, .ref 78), (1, .int a2)] [] _ 0 0 _
          refine x_iloadn (x := a2) rfl rfl ?_
          refine x_iflt (tgt := 41) rfl rfl (ti_lt rfl jk_0 ⟨fun c8 => ?_, fun c8 => ?_⟩)
          ·
            rw [if_pos (by omega)] at D
            refine x_iconst (v := 0) rfl ki_0 ?_
            refine x_zret rfl rfl (by decide) ?_
            show jX m_X11_apart 3 0 0 19 [(0, .ref 31), (1, .int a1), (2, .int a2)] [.int 0] _ 0 0 _
            refine x_ifne (tgt := 29) rfl rfl (ti_ne jk_0 jk_0 (bn_f (by omega) ?_))
            exact jX.sub (jsb_c rfl jsb_n) (ct_X11_apart_r31d_22 hD hQ  h J Sm D)
          ·
            rw [if_neg (by omega)] at D
            refine x_iloadn (x := a2) rfl rfl ?_
            refine x_sipush (v := 600) rfl ks_600 ?_
            refine x_icge (tgt := 41) rfl rfl (ti_ge rfl jk_600 ⟨fun c9 => ?_, fun c9 => ?_⟩)
            ·
              rw [if_pos (by omega)] at D
              refine x_iconst (v := 0) rfl ki_0 ?_
              refine x_zret rfl rfl (by decide) ?_
              show jX m_X11_apart 3 0 0 19 [(0, .ref 31), (1, .int a1), (2, .int a2)] [.int 0] _ 0 0 _
              refine x_ifne (tgt := 29) rfl rfl (ti_ne jk_0 jk_0 (bn_f (by omega) ?_))
              exact jX.sub (jsb_c rfl jsb_n) (ct_X11_apart_r31d_22 hD hQ  h J Sm D)
            ·
              rw [if_neg (by omega)] at D
              refine x_iloadn (x := a2) rfl rfl ?_
              refine x_iconst (v := 3) rfl ki_3 ?_
              refine z_idiv rfl rfl jk_3 (by omega) (by omega) (fun v10 ev10 => ?_)
              refine x_aloadn (x := 78) rfl rfl ?_
              refine z_getR (N := 16) (b := 32) 7 0 rfl f_7_55 rfl J rfl 9984 ⟨rfl, rfl⟩ rfl ?_
              refine z_getR (N := 20) (b := 33) 1 0 rfl f_7_63 rfl J rfl 4096 ⟨rfl, rfl⟩ rfl ?_
              refine z_getM (N := 4) (v := v4) 8 3 rfl f_7_85 rfl J rfl qv4 ?_
              refine x_icge (tgt := 41) rfl rfl (ti_ge rfl rfl ⟨fun c11 => ?_, fun c11 => ?_⟩)
              ·
                rw [if_pos (by omega)] at D
                refine x_iconst (v := 0) rfl ki_0 ?_
                refine x_zret rfl rfl (by decide) ?_
                show jX m_X11_apart 3 0 0 19 [(0, .ref 31), (1, .int a1), (2, .int a2)] [.int 0] _ 0 0 _
                refine x_ifne (tgt := 29) rfl rfl (ti_ne jk_0 jk_0 (bn_f (by omega) ?_))
                exact jX.sub (jsb_c rfl jsb_n) (ct_X11_apart_r31d_22 hD hQ  h J Sm D)
              ·
                rw [if_neg (by omega)] at D
                refine x_aloadn (x := 78) rfl rfl ?_
                refine z_getR (N := 16) (b := 79) 7 7 rfl f_7_27 rfl J rfl 9991 ⟨rfl, rfl⟩ rfl ?_
                refine x_iloadn (x := a2) rfl rfl ?_
                refine z_iald (N := 600) rfl J rfl sg_79_0_600_1_0_1 rfl (by omega) (fun v12 qv12 ev12 => ?_)
                try rw [vrd qv12 (show a2.toInt = a2.toInt from by omega)] at D
                refine x_iconst (v := (-1)) rfl ki_m1 ?_
                refine x_iceq (tgt := 41) rfl rfl (ti_eq rfl jk_m1 ⟨fun c13 => ?_, fun c13 => ?_⟩)
                ·
                  rw [if_pos (by omega)] at D
                  refine x_iconst (v := 0) rfl ki_0 ?_
                  refine x_zret rfl rfl (by decide) ?_
                  show jX m_X11_apart 3 0 0 19 [(0, .ref 31), (1, .int a1), (2, .int a2)] [.int 0] _ 0 0 _
                  refine x_ifne (tgt := 29) rfl rfl (ti_ne jk_0 jk_0 (bn_f (by omega) ?_))
                  exact jX.sub (jsb_c rfl jsb_n) (ct_X11_apart_r31d_22 hD hQ  h J Sm D)
                ·
                  rw [if_neg (by omega)] at D
                  refine x_iconst (v := 1) rfl ki_1 ?_
                  refine x_goto (tgt := 42) rfl rfl ?_
                  refine x_zret rfl rfl (by decide) ?_
                  show jX m_X11_apart 3 0 0 19 [(0, .ref 31), (1, .int a1), (2, .int a2)] [.int 1] _ 0 0 _
                  refine x_ifne (tgt := 29) rfl rfl (ti_ne jk_1 jk_0 (bn_t (by omega) ?_))
                  refine x_iloadn (x := a1) rfl rfl ?_
                  refine x_iloadn (x := a2) rfl rfl ?_
                  refine x_icne (tgt := 41) rfl rfl (ti_ne rfl rfl ⟨fun c14 => ?_, fun c14 => ?_⟩)
                  ·
                    rw [if_neg (by omega)] at D
                    refine x_aloadn (x := 31) rfl rfl ?_
                    refine z_getR (N := 13) (b := 32) 11 0 rfl f_11_10 rfl J rfl 3968 ⟨rfl, rfl⟩ rfl ?_
                    refine z_getR (N := 20) (b := 37) 1 2 rfl f_11_230 rfl J rfl 4098 ⟨rfl, rfl⟩ rfl ?_
                    refine x_inv (N := m_X8_isFull) (As := []) (b := 37) (st := []) (dx9 := 1) (mc := 0) (ms := 0) (host := "") 8 rfl t_X8_isFull ⟨Or.inl q_11_130, i_X8_isFull.1, i_X8_isFull.2⟩ ⟨by decide, rfl⟩ (congrArg Prod.fst (J.1.1 37 (8, 4) rfl)) rfl (by decide) rfl rfl ⟨by decide, by decide⟩ (sf_X8_isFull_r37d  hD J rfl  (fun v18 h ev18 J S15 X16 X17 => ?_))
                    have Sm := jSm_tr rfl Sm S15
                    try rw [X16] at D
                    try rw [← X17] at D
                    show jX m_X11_apart 3 0 0 51 [(0, .ref 31), (1, .int a1), (2, .int a2)] [.int v18] _ 0 0 _
                    refine x_ifeq (tgt := 61) rfl rfl (ti_eq rfl jk_0 ⟨fun c19 => ?_, fun c19 => ?_⟩)
                    ·
                      rw [if_pos (by omega)] at D
                      refine x_aloadn (x := 31) rfl rfl ?_
                      refine z_getR (N := 13) (b := 32) 11 0 rfl f_11_10 rfl J rfl 3968 ⟨rfl, rfl⟩ rfl ?_
                      refine z_getR (N := 20) (b := 37) 1 2 rfl f_11_230 rfl J rfl 4098 ⟨rfl, rfl⟩ rfl ?_
                      refine x_iloadn (x := a1) rfl rfl ?_
                      refine x_iloadn (x := a2) rfl rfl ?_
                      refine x_iconst (v := 0) rfl ki_0 ?_
                      refine x_iconst (v := 0) rfl ki_0 ?_
                      refine x_iconst (v := 0) rfl ki_0 ?_
                      refine x_iconst (v := 0) rfl ki_0 ?_
                      refine x_inv (N := m_X8_add) (As := [.int a1, .int a2, .int 0, .int 0, .int 0, .int 0]) (b := 37) (st := []) (dx9 := 2) (mc := 0) (ms := 0) (host := "") 8 rfl t_X8_add ⟨Or.inl q_11_145, i_X8_add.1, i_X8_add.2⟩ ⟨by decide, rfl⟩ (congrArg Prod.fst (J.1.1 37 (8, 4) rfl)) rfl (by decide) rfl rfl ⟨by decide, by decide⟩ (sf_X8_add_r37d (jr_of rfl (by omega)) (jr_of rfl (by omega)) (jr_of jk_0 (by omega)) (jr_of jk_0 (by omega)) (jr_of jk_0 (by omega)) (jr_of jk_0 (by omega)) hD J rfl  (fun h J S20 X21 => ?_))
                      have Sm := jSm_tr rfl Sm S20
                      try rw [jk_0] at X21
                      rw [X21] at D
                      show jX m_X11_apart 3 0 0 77 [(0, .ref 31), (1, .int a1), (2, .int a2)] [] _ 0 0 _
                      refine x_aloadn (x := 31) rfl rfl ?_
                      refine x_iconst (v := 0) rfl ki_0 ?_
                      refine x_inv (N := m_X11_accept) (As := [.int 0]) (b := 31) (st := []) (dx9 := 2) (mc := 0) (ms := 0) (host := "") 11 rfl t_X11_accept ⟨Or.inl q_11_165, i_X11_accept.1, i_X11_accept.2⟩ ⟨by decide, rfl⟩ (congrArg Prod.fst (J.1.1 31 (11, 13) rfl)) rfl (by decide) rfl rfl ⟨by decide, by decide⟩ (jC.of rfl k_X11_accept rfl ?_)
                      show jX m_X11_accept 2 0 0 0 [(0, .ref 31), (1, .int 0)] [] _ 0 0 _
                      refine x_aloadn (x := 31) rfl rfl ?_
                      refine x_iconst (v := 0) rfl ki_0 ?_
                      refine z_putI (N := 13) (w := 0) 11 12 rfl f_11_94 rfl (jfin_no TX11 RX11 13 rfl rfl) hD J Sm rfl rfl jk_0 (pw_31_12 (by omega)) rfl (fun h w22 J Sm => ?_)
                      rw [vwf w22 (show 0 = (0 : Int32).toInt from by have := jk_0; omega)] at D
                      refine x_aloadn (x := 31) rfl rfl ?_
                      refine z_getR (N := 13) (b := 32) 11 0 rfl f_11_10 rfl J rfl 3968 ⟨rfl, rfl⟩ rfl ?_
                      refine x_dup rfl rfl ?_
                      refine z_getI0 (N := 20) 1 19 rfl f_11_528 rfl J rfl (fun v23 qv23 => ?_)
                      have ev23 := jfull v23
                      try rw [vrf (jmb_c S20 (jmb_w w22 qv23 rfl) rfl)] at D
                      refine x_iconst (v := 1) rfl ki_1 ?_
                      refine z_iaddW rfl rfl jk_1 (fun v24 ev24 => ?_)
                      have fv24 := jfull v24
                      try rw [← ev24] at D
                      refine z_putI (N := 20) (w := v24.toInt) 1 19 rfl f_11_528 rfl (jfin_no TX1 RX1 20 rfl rfl) hD J Sm rfl rfl rfl (pw_32_19 trivial) rfl (fun h w25 J Sm => ?_)
                      rw [vwf w25 (show v24.toInt = v24.toInt from by omega)] at D
                      refine x_iloadn (x := 0) rfl rfl ?_
                      refine x_iret rfl rfl ?_
                      show jX m_X11_apart 3 0 0 82 [(0, .ref 31), (1, .int a1), (2, .int a2)] [.int 0] _ 0 0 _
                      refine x_iret rfl rfl ?_
                      exact hQ _ _ (jr_of jk_0 (by omega)) J Sm ((congrArg Prod.fst D).symm.trans (show 0 = (0 : Int32).toInt from by have := jk_0; omega)) (congrArg Prod.snd D).symm
                    ·
                      rw [if_neg (by omega)] at D
                      refine x_aloadn (x := 31) rfl rfl ?_
                      refine x_bipush (v := (-5)) rfl kb_m5 ?_
                      refine x_inv (N := m_X11_refuse) (As := [.int (-5)]) (b := 31) (st := []) (dx9 := 2) (mc := 0) (ms := 0) (host := "") 11 rfl t_X11_refuse ⟨Or.inl q_11_206, i_X11_refuse.1, i_X11_refuse.2⟩ ⟨by decide, rfl⟩ (congrArg Prod.fst (J.1.1 31 (11, 13) rfl)) rfl (by decide) rfl rfl ⟨by decide, by decide⟩ (jC.of rfl k_X11_refuse rfl ?_)
                      show jX m_X11_refuse 2 0 0 0 [(0, .ref 31), (1, .int (-5))] [] _ 0 0 _
                      refine x_aloadn (x := 31) rfl rfl ?_
                      refine x_iloadn (x := (-5)) rfl rfl ?_
                      refine z_putI (N := 13) (w := (-5)) 11 12 rfl f_11_94 rfl (jfin_no TX11 RX11 13 rfl rfl) hD J Sm rfl rfl jk_m5 (pw_31_12 (by omega)) rfl (fun h w26 J Sm => ?_)
                      rw [vwf w26 (show (-5) = ((-5) : Int32).toInt from by have := jk_m5; omega)] at D
                      refine x_iloadn (x := (-5)) rfl rfl ?_
                      refine x_iret rfl rfl ?_
                      show jX m_X11_apart 3 0 0 60 [(0, .ref 31), (1, .int a1), (2, .int a2)] [.int (-5)] _ 0 0 _
                      refine x_iret rfl rfl ?_
                      exact hQ _ _ (jr_of jk_m5 (by omega)) J Sm ((congrArg Prod.fst D).symm.trans (show (-5) = ((-5) : Int32).toInt from by have := jk_m5; omega)) (congrArg Prod.snd D).symm
                  ·
                    rw [if_pos (by omega)] at D
                    refine x_aloadn (x := 31) rfl rfl ?_
                    refine x_bipush (v := (-3)) rfl kb_m3 ?_
                    refine x_inv (N := m_X11_refuse) (As := [.int (-3)]) (b := 31) (st := []) (dx9 := 2) (mc := 0) (ms := 0) (host := "") 11 rfl t_X11_refuse ⟨Or.inl q_11_206, i_X11_refuse.1, i_X11_refuse.2⟩ ⟨by decide, rfl⟩ (congrArg Prod.fst (J.1.1 31 (11, 13) rfl)) rfl (by decide) rfl rfl ⟨by decide, by decide⟩ (jC.of rfl k_X11_refuse rfl ?_)
                    show jX m_X11_refuse 2 0 0 0 [(0, .ref 31), (1, .int (-3))] [] _ 0 0 _
                    refine x_aloadn (x := 31) rfl rfl ?_
                    refine x_iloadn (x := (-3)) rfl rfl ?_
                    refine z_putI (N := 13) (w := (-3)) 11 12 rfl f_11_94 rfl (jfin_no TX11 RX11 13 rfl rfl) hD J Sm rfl rfl jk_m3 (pw_31_12 (by omega)) rfl (fun h w27 J Sm => ?_)
                    rw [vwf w27 (show (-3) = ((-3) : Int32).toInt from by have := jk_m3; omega)] at D
                    refine x_iloadn (x := (-3)) rfl rfl ?_
                    refine x_iret rfl rfl ?_
                    show jX m_X11_apart 3 0 0 40 [(0, .ref 31), (1, .int a1), (2, .int a2)] [.int (-3)] _ 0 0 _
                    refine x_iret rfl rfl ?_
                    exact hQ _ _ (jr_of jk_m3 (by omega)) J Sm ((congrArg Prod.fst D).symm.trans (show (-3) = ((-3) : Int32).toInt from by have := jk_m3; omega)) (congrArg Prod.snd D).symm
def fp_X8_put_r45_c0d : jFp := [(46, 0, 120)]
set_option maxRecDepth 100000 in
set_option maxHeartbeats 4000000 in
theorem ct_X8_put_r45_c0d_38 {Dy : jH → Prop} {h0 : jH} {Q : Option Value → jH → Prop} {dr : jW} (hD : jDk Dy) (hQ : ∀ hx9, jJ jSgX Dy hx9 → jSm fp_X8_put_r45_c0d h0 hx9 → dr = vw hx9 → Q none hx9) : ∀ (h : jH), jJ jSgX Dy h → jSm fp_X8_put_r45_c0d h0 h → d_X8_put_r45_c0d_38  (vw h) = dr → jX m_X8_put 1 0 0 38 [] [] h 0 0 Q := by
  intro  h    J Sm D
  unfold d_X8_put_r45_c0d_38 at D
  refine x_vret rfl rfl ?_
  exact hQ _ J Sm D.symm
set_option maxRecDepth 100000 in
set_option maxHeartbeats 4000000 in
theorem sf_X8_put_r45_c0d {Dy : jH → Prop} {h : jH} {Q : Option Value → jH → Prop} {dr : jW} {a1 : Int32} {a3 : Int32} (y1 : 0 ≤ a1.toInt ∧ a1.toInt ≤ 39) (y3 : 0 ≤ a3.toInt ∧ a3.toInt ≤ 146399) (hD : jDk Dy) (J : jJ jSgX Dy h) (D : d_X8_put_r45_c0d a1.toInt a3.toInt (vw h) = dr) (hQ : ∀ hx9, jJ jSgX Dy hx9 → jSm fp_X8_put_r45_c0d h hx9 → dr = vw hx9 → Q none hx9) : jC m_X8_put 1 0 0 [.ref 45, .int a1, .int 0, .int a3] h Q := by
  refine jC.of rfl k_X8_put rfl ?_
  have Sm := jSm_rf fp_X8_put_r45_c0d h
  show jX m_X8_put 1 0 0 0 [(0, .ref 45), (1, .int a1), (2, .int 0), (3, .int a3)] [] _ 0 0 _
  unfold d_X8_put_r45_c0d at D
  refine x_iloadn (x := a1) rfl rfl ?_
  refine x_iflt (tgt := 38) rfl rfl (ti_lt rfl jk_0 (br_f (by omega) ?_))
  refine x_iloadn (x := a1) rfl rfl ?_
  refine x_aloadn (x := 45) rfl rfl ?_
  refine z_getI (N := 4) 8 3 rfl f_8_7 rfl J rfl sg_45_3_4_1_0_1 (fun v1 qv1 ev1 => ?_)
  try rw [vrf qv1] at D
  refine x_icge (tgt := 38) rfl rfl (ti_ge rfl rfl ⟨fun c2 => ?_, fun c2 => ?_⟩)
  ·
    rw [if_pos (by omega)] at D
    exact jX.sub jsb_n (ct_X8_put_r45_c0d_38 hD hQ  h J Sm D)
  ·
    rw [if_neg (by omega)] at D
    refine x_iloadn (x := 0) rfl rfl ?_
    refine x_iflt (tgt := 38) rfl rfl (ti_lt jk_0 jk_0 (br_f (by omega) ?_))
    refine x_iloadn (x := 0) rfl rfl ?_
    refine x_aloadn (x := 45) rfl rfl ?_
    refine z_getC (N := 4) (v := 3) 8 0 rfl f_8_19 rfl J rfl sg_45_0_1_1_0_1 jk_3 ?_
    refine x_icge (tgt := 38) rfl rfl (ti_ge jk_0 jk_3 (br_f (by omega) ?_))
    refine x_aloadn (x := 45) rfl rfl ?_
    refine z_getR (N := 4) (b := 46) 8 2 rfl f_8_25 rfl J rfl 5762 ⟨rfl, rfl⟩ rfl ?_
    refine x_iloadn (x := a1) rfl rfl ?_
    refine x_aloadn (x := 45) rfl rfl ?_
    refine z_getC (N := 4) (v := 3) 8 0 rfl f_8_19 rfl J rfl sg_45_0_1_1_0_1 jk_3 ?_
    refine z_imul rfl rfl jk_3 (by omega) (fun v3 ev3 => ?_)
    refine x_iloadn (x := 0) rfl rfl ?_
    refine z_iadd rfl rfl jk_0 (by omega) (fun v4 ev4 => ?_)
    refine x_iloadn (x := a3) rfl rfl ?_
    refine z_iast (N := 120) (l := 0) (u := 120) (w := a3.toInt) rfl hD J Sm rfl rfl rfl (by omega) rfl (wr_46 (fun q1 q2 q3 q4 => by omega) (fun q1 q2 q3 q4 => by omega) (fun q1 q2 q3 q4 => by omega)) rfl (fun h w5 J Sm => ?_)
    rw [vww w5 (show ((a1.toInt * 3) + 0) = v4.toInt from by omega) (show a3.toInt = a3.toInt from by omega)] at D
    exact jX.sub jsb_n (ct_X8_put_r45_c0d_38 hD hQ  h J Sm D)
def fp_X8_put_r45_c1d : jFp := [(46, 0, 120)]
set_option maxRecDepth 100000 in
set_option maxHeartbeats 4000000 in
theorem ct_X8_put_r45_c1d_38 {Dy : jH → Prop} {h0 : jH} {Q : Option Value → jH → Prop} {dr : jW} (hD : jDk Dy) (hQ : ∀ hx9, jJ jSgX Dy hx9 → jSm fp_X8_put_r45_c1d h0 hx9 → dr = vw hx9 → Q none hx9) : ∀ (h : jH), jJ jSgX Dy h → jSm fp_X8_put_r45_c1d h0 h → d_X8_put_r45_c1d_38  (vw h) = dr → jX m_X8_put 1 0 0 38 [] [] h 0 0 Q := by
  intro  h    J Sm D
  unfold d_X8_put_r45_c1d_38 at D
  refine x_vret rfl rfl ?_
  exact hQ _ J Sm D.symm
set_option maxRecDepth 100000 in
set_option maxHeartbeats 4000000 in
theorem sf_X8_put_r45_c1d {Dy : jH → Prop} {h : jH} {Q : Option Value → jH → Prop} {dr : jW} {a1 : Int32} {a3 : Int32} (y1 : 0 ≤ a1.toInt ∧ a1.toInt ≤ 39) (y3 : 0 ≤ a3.toInt ∧ a3.toInt ≤ 146399) (hD : jDk Dy) (J : jJ jSgX Dy h) (D : d_X8_put_r45_c1d a1.toInt a3.toInt (vw h) = dr) (hQ : ∀ hx9, jJ jSgX Dy hx9 → jSm fp_X8_put_r45_c1d h hx9 → dr = vw hx9 → Q none hx9) : jC m_X8_put 1 0 0 [.ref 45, .int a1, .int 1, .int a3] h Q := by
  refine jC.of rfl k_X8_put rfl ?_
  have Sm := jSm_rf fp_X8_put_r45_c1d h
  show jX m_X8_put 1 0 0 0 [(0, .ref 45), (1, .int a1), (2, .int 1), (3, .int a3)] [] _ 0 0 _
  unfold d_X8_put_r45_c1d at D
  refine x_iloadn (x := a1) rfl rfl ?_
  refine x_iflt (tgt := 38) rfl rfl (ti_lt rfl jk_0 (br_f (by omega) ?_))
  refine x_iloadn (x := a1) rfl rfl ?_
  refine x_aloadn (x := 45) rfl rfl ?_
  refine z_getI (N := 4) 8 3 rfl f_8_7 rfl J rfl sg_45_3_4_1_0_1 (fun v1 qv1 ev1 => ?_)
  try rw [vrf qv1] at D
  refine x_icge (tgt := 38) rfl rfl (ti_ge rfl rfl ⟨fun c2 => ?_, fun c2 => ?_⟩)
  ·
    rw [if_pos (by omega)] at D
    exact jX.sub jsb_n (ct_X8_put_r45_c1d_38 hD hQ  h J Sm D)
  ·
    rw [if_neg (by omega)] at D
    refine x_iloadn (x := 1) rfl rfl ?_
    refine x_iflt (tgt := 38) rfl rfl (ti_lt jk_1 jk_0 (br_f (by omega) ?_))
    refine x_iloadn (x := 1) rfl rfl ?_
    refine x_aloadn (x := 45) rfl rfl ?_
    refine z_getC (N := 4) (v := 3) 8 0 rfl f_8_19 rfl J rfl sg_45_0_1_1_0_1 jk_3 ?_
    refine x_icge (tgt := 38) rfl rfl (ti_ge jk_1 jk_3 (br_f (by omega) ?_))
    refine x_aloadn (x := 45) rfl rfl ?_
    refine z_getR (N := 4) (b := 46) 8 2 rfl f_8_25 rfl J rfl 5762 ⟨rfl, rfl⟩ rfl ?_
    refine x_iloadn (x := a1) rfl rfl ?_
    refine x_aloadn (x := 45) rfl rfl ?_
    refine z_getC (N := 4) (v := 3) 8 0 rfl f_8_19 rfl J rfl sg_45_0_1_1_0_1 jk_3 ?_
    refine z_imul rfl rfl jk_3 (by omega) (fun v3 ev3 => ?_)
    refine x_iloadn (x := 1) rfl rfl ?_
    refine z_iadd rfl rfl jk_1 (by omega) (fun v4 ev4 => ?_)
    refine x_iloadn (x := a3) rfl rfl ?_
    refine z_iast (N := 120) (l := 0) (u := 120) (w := a3.toInt) rfl hD J Sm rfl rfl rfl (by omega) rfl (wr_46 (fun q1 q2 q3 q4 => by omega) (fun q1 q2 q3 q4 => by omega) (fun q1 q2 q3 q4 => by omega)) rfl (fun h w5 J Sm => ?_)
    rw [vww w5 (show ((a1.toInt * 3) + 1) = v4.toInt from by omega) (show a3.toInt = a3.toInt from by omega)] at D
    exact jX.sub jsb_n (ct_X8_put_r45_c1d_38 hD hQ  h J Sm D)
def fp_X8_put_r45_c2d : jFp := [(46, 0, 120)]
set_option maxRecDepth 100000 in
set_option maxHeartbeats 4000000 in
theorem ct_X8_put_r45_c2d_38 {Dy : jH → Prop} {h0 : jH} {Q : Option Value → jH → Prop} {dr : jW} (hD : jDk Dy) (hQ : ∀ hx9, jJ jSgX Dy hx9 → jSm fp_X8_put_r45_c2d h0 hx9 → dr = vw hx9 → Q none hx9) : ∀ (h : jH), jJ jSgX Dy h → jSm fp_X8_put_r45_c2d h0 h → d_X8_put_r45_c2d_38  (vw h) = dr → jX m_X8_put 1 0 0 38 [] [] h 0 0 Q := by
  intro  h    J Sm D
  unfold d_X8_put_r45_c2d_38 at D
  refine x_vret rfl rfl ?_
  exact hQ _ J Sm D.symm
set_option maxRecDepth 100000 in
set_option maxHeartbeats 4000000 in
theorem sf_X8_put_r45_c2d {Dy : jH → Prop} {h : jH} {Q : Option Value → jH → Prop} {dr : jW} {a1 : Int32} {a3 : Int32} (y1 : 0 ≤ a1.toInt ∧ a1.toInt ≤ 39) (y3 : 0 ≤ a3.toInt ∧ a3.toInt ≤ 199) (hD : jDk Dy) (J : jJ jSgX Dy h) (D : d_X8_put_r45_c2d a1.toInt a3.toInt (vw h) = dr) (hQ : ∀ hx9, jJ jSgX Dy hx9 → jSm fp_X8_put_r45_c2d h hx9 → dr = vw hx9 → Q none hx9) : jC m_X8_put 1 0 0 [.ref 45, .int a1, .int 2, .int a3] h Q := by
  refine jC.of rfl k_X8_put rfl ?_
  have Sm := jSm_rf fp_X8_put_r45_c2d h
  show jX m_X8_put 1 0 0 0 [(0, .ref 45), (1, .int a1), (2, .int 2), (3, .int a3)] [] _ 0 0 _
  unfold d_X8_put_r45_c2d at D
  refine x_iloadn (x := a1) rfl rfl ?_
  refine x_iflt (tgt := 38) rfl rfl (ti_lt rfl jk_0 (br_f (by omega) ?_))
  refine x_iloadn (x := a1) rfl rfl ?_
  refine x_aloadn (x := 45) rfl rfl ?_
  refine z_getI (N := 4) 8 3 rfl f_8_7 rfl J rfl sg_45_3_4_1_0_1 (fun v1 qv1 ev1 => ?_)
  try rw [vrf qv1] at D
  refine x_icge (tgt := 38) rfl rfl (ti_ge rfl rfl ⟨fun c2 => ?_, fun c2 => ?_⟩)
  ·
    rw [if_pos (by omega)] at D
    exact jX.sub jsb_n (ct_X8_put_r45_c2d_38 hD hQ  h J Sm D)
  ·
    rw [if_neg (by omega)] at D
    refine x_iloadn (x := 2) rfl rfl ?_
    refine x_iflt (tgt := 38) rfl rfl (ti_lt jk_2 jk_0 (br_f (by omega) ?_))
    refine x_iloadn (x := 2) rfl rfl ?_
    refine x_aloadn (x := 45) rfl rfl ?_
    refine z_getC (N := 4) (v := 3) 8 0 rfl f_8_19 rfl J rfl sg_45_0_1_1_0_1 jk_3 ?_
    refine x_icge (tgt := 38) rfl rfl (ti_ge jk_2 jk_3 (br_f (by omega) ?_))
    refine x_aloadn (x := 45) rfl rfl ?_
    refine z_getR (N := 4) (b := 46) 8 2 rfl f_8_25 rfl J rfl 5762 ⟨rfl, rfl⟩ rfl ?_
    refine x_iloadn (x := a1) rfl rfl ?_
    refine x_aloadn (x := 45) rfl rfl ?_
    refine z_getC (N := 4) (v := 3) 8 0 rfl f_8_19 rfl J rfl sg_45_0_1_1_0_1 jk_3 ?_
    refine z_imul rfl rfl jk_3 (by omega) (fun v3 ev3 => ?_)
    refine x_iloadn (x := 2) rfl rfl ?_
    refine z_iadd rfl rfl jk_2 (by omega) (fun v4 ev4 => ?_)
    refine x_iloadn (x := a3) rfl rfl ?_
    refine z_iast (N := 120) (l := 0) (u := 120) (w := a3.toInt) rfl hD J Sm rfl rfl rfl (by omega) rfl (wr_46 (fun q1 q2 q3 q4 => by omega) (fun q1 q2 q3 q4 => by omega) (fun q1 q2 q3 q4 => by omega)) rfl (fun h w5 J Sm => ?_)
    rw [vww w5 (show ((a1.toInt * 3) + 2) = v4.toInt from by omega) (show a3.toInt = a3.toInt from by omega)] at D
    exact jX.sub jsb_n (ct_X8_put_r45_c2d_38 hD hQ  h J Sm D)
def fp_X8_put_r45_c3d : jFp := []
set_option maxRecDepth 100000 in
set_option maxHeartbeats 4000000 in
theorem ct_X8_put_r45_c3d_38 {Dy : jH → Prop} {h0 : jH} {Q : Option Value → jH → Prop} {dr : jW} (hD : jDk Dy) (hQ : ∀ hx9, jJ jSgX Dy hx9 → jSm fp_X8_put_r45_c3d h0 hx9 → dr = vw hx9 → Q none hx9) : ∀ (h : jH), jJ jSgX Dy h → jSm fp_X8_put_r45_c3d h0 h → d_X8_put_r45_c3d_38  (vw h) = dr → jX m_X8_put 1 0 0 38 [] [] h 0 0 Q := by
  intro  h    J Sm D
  unfold d_X8_put_r45_c3d_38 at D
  refine x_vret rfl rfl ?_
  exact hQ _ J Sm D.symm
set_option maxRecDepth 100000 in
set_option maxHeartbeats 4000000 in
theorem sf_X8_put_r45_c3d {Dy : jH → Prop} {h : jH} {Q : Option Value → jH → Prop} {dr : jW} {a1 : Int32} {a3 : Int32} (y1 : 0 ≤ a1.toInt ∧ a1.toInt ≤ 39) (y3 : 0 ≤ a3.toInt ∧ a3.toInt ≤ 0) (hD : jDk Dy) (J : jJ jSgX Dy h) (D : d_X8_put_r45_c3d a1.toInt a3.toInt (vw h) = dr) (hQ : ∀ hx9, jJ jSgX Dy hx9 → jSm fp_X8_put_r45_c3d h hx9 → dr = vw hx9 → Q none hx9) : jC m_X8_put 1 0 0 [.ref 45, .int a1, .int 3, .int a3] h Q := by
  refine jC.of rfl k_X8_put rfl ?_
  have Sm := jSm_rf fp_X8_put_r45_c3d h
  show jX m_X8_put 1 0 0 0 [(0, .ref 45), (1, .int a1), (2, .int 3), (3, .int a3)] [] _ 0 0 _
  unfold d_X8_put_r45_c3d at D
  refine x_iloadn (x := a1) rfl rfl ?_
  refine x_iflt (tgt := 38) rfl rfl (ti_lt rfl jk_0 (br_f (by omega) ?_))
  refine x_iloadn (x := a1) rfl rfl ?_
  refine x_aloadn (x := 45) rfl rfl ?_
  refine z_getI (N := 4) 8 3 rfl f_8_7 rfl J rfl sg_45_3_4_1_0_1 (fun v1 qv1 ev1 => ?_)
  try rw [vrf qv1] at D
  refine x_icge (tgt := 38) rfl rfl (ti_ge rfl rfl ⟨fun c2 => ?_, fun c2 => ?_⟩)
  ·
    rw [if_pos (by omega)] at D
    exact jX.sub jsb_n (ct_X8_put_r45_c3d_38 hD hQ  h J Sm D)
  ·
    rw [if_neg (by omega)] at D
    refine x_iloadn (x := 3) rfl rfl ?_
    refine x_iflt (tgt := 38) rfl rfl (ti_lt jk_3 jk_0 (br_f (by omega) ?_))
    refine x_iloadn (x := 3) rfl rfl ?_
    refine x_aloadn (x := 45) rfl rfl ?_
    refine z_getC (N := 4) (v := 3) 8 0 rfl f_8_19 rfl J rfl sg_45_0_1_1_0_1 jk_3 ?_
    refine x_icge (tgt := 38) rfl rfl (ti_ge jk_3 jk_3 (br_t (by omega) ?_))
    exact jX.sub jsb_n (ct_X8_put_r45_c3d_38 hD hQ  h J Sm D)
def fp_X8_put_r45_c4d : jFp := []
set_option maxRecDepth 100000 in
set_option maxHeartbeats 4000000 in
theorem ct_X8_put_r45_c4d_38 {Dy : jH → Prop} {h0 : jH} {Q : Option Value → jH → Prop} {dr : jW} (hD : jDk Dy) (hQ : ∀ hx9, jJ jSgX Dy hx9 → jSm fp_X8_put_r45_c4d h0 hx9 → dr = vw hx9 → Q none hx9) : ∀ (h : jH), jJ jSgX Dy h → jSm fp_X8_put_r45_c4d h0 h → d_X8_put_r45_c4d_38  (vw h) = dr → jX m_X8_put 1 0 0 38 [] [] h 0 0 Q := by
  intro  h    J Sm D
  unfold d_X8_put_r45_c4d_38 at D
  refine x_vret rfl rfl ?_
  exact hQ _ J Sm D.symm
set_option maxRecDepth 100000 in
set_option maxHeartbeats 4000000 in
theorem sf_X8_put_r45_c4d {Dy : jH → Prop} {h : jH} {Q : Option Value → jH → Prop} {dr : jW} {a1 : Int32} {a3 : Int32} (y1 : 0 ≤ a1.toInt ∧ a1.toInt ≤ 39) (y3 : 0 ≤ a3.toInt ∧ a3.toInt ≤ 0) (hD : jDk Dy) (J : jJ jSgX Dy h) (D : d_X8_put_r45_c4d a1.toInt a3.toInt (vw h) = dr) (hQ : ∀ hx9, jJ jSgX Dy hx9 → jSm fp_X8_put_r45_c4d h hx9 → dr = vw hx9 → Q none hx9) : jC m_X8_put 1 0 0 [.ref 45, .int a1, .int 4, .int a3] h Q := by
  refine jC.of rfl k_X8_put rfl ?_
  have Sm := jSm_rf fp_X8_put_r45_c4d h
  show jX m_X8_put 1 0 0 0 [(0, .ref 45), (1, .int a1), (2, .int 4), (3, .int a3)] [] _ 0 0 _
  unfold d_X8_put_r45_c4d at D
  refine x_iloadn (x := a1) rfl rfl ?_
  refine x_iflt (tgt := 38) rfl rfl (ti_lt rfl jk_0 (br_f (by omega) ?_))
  refine x_iloadn (x := a1) rfl rfl ?_
  refine x_aloadn (x := 45) rfl rfl ?_
  refine z_getI (N := 4) 8 3 rfl f_8_7 rfl J rfl sg_45_3_4_1_0_1 (fun v1 qv1 ev1 => ?_)
  try rw [vrf qv1] at D
  refine x_icge (tgt := 38) rfl rfl (ti_ge rfl rfl ⟨fun c2 => ?_, fun c2 => ?_⟩)
  ·
    rw [if_pos (by omega)] at D
    exact jX.sub jsb_n (ct_X8_put_r45_c4d_38 hD hQ  h J Sm D)
  ·
    rw [if_neg (by omega)] at D
    refine x_iloadn (x := 4) rfl rfl ?_
    refine x_iflt (tgt := 38) rfl rfl (ti_lt jk_4 jk_0 (br_f (by omega) ?_))
    refine x_iloadn (x := 4) rfl rfl ?_
    refine x_aloadn (x := 45) rfl rfl ?_
    refine z_getC (N := 4) (v := 3) 8 0 rfl f_8_19 rfl J rfl sg_45_0_1_1_0_1 jk_3 ?_
    refine x_icge (tgt := 38) rfl rfl (ti_ge jk_4 jk_3 (br_t (by omega) ?_))
    exact jX.sub jsb_n (ct_X8_put_r45_c4d_38 hD hQ  h J Sm D)
def fp_X8_put_r45_c5d : jFp := []
set_option maxRecDepth 100000 in
set_option maxHeartbeats 4000000 in
theorem ct_X8_put_r45_c5d_38 {Dy : jH → Prop} {h0 : jH} {Q : Option Value → jH → Prop} {dr : jW} (hD : jDk Dy) (hQ : ∀ hx9, jJ jSgX Dy hx9 → jSm fp_X8_put_r45_c5d h0 hx9 → dr = vw hx9 → Q none hx9) : ∀ (h : jH), jJ jSgX Dy h → jSm fp_X8_put_r45_c5d h0 h → d_X8_put_r45_c5d_38  (vw h) = dr → jX m_X8_put 1 0 0 38 [] [] h 0 0 Q := by
  intro  h    J Sm D
  unfold d_X8_put_r45_c5d_38 at D
  refine x_vret rfl rfl ?_
  exact hQ _ J Sm D.symm
set_option maxRecDepth 100000 in
set_option maxHeartbeats 4000000 in
theorem sf_X8_put_r45_c5d {Dy : jH → Prop} {h : jH} {Q : Option Value → jH → Prop} {dr : jW} {a1 : Int32} {a3 : Int32} (y1 : 0 ≤ a1.toInt ∧ a1.toInt ≤ 39) (y3 : 0 ≤ a3.toInt ∧ a3.toInt ≤ 0) (hD : jDk Dy) (J : jJ jSgX Dy h) (D : d_X8_put_r45_c5d a1.toInt a3.toInt (vw h) = dr) (hQ : ∀ hx9, jJ jSgX Dy hx9 → jSm fp_X8_put_r45_c5d h hx9 → dr = vw hx9 → Q none hx9) : jC m_X8_put 1 0 0 [.ref 45, .int a1, .int 5, .int a3] h Q := by
  refine jC.of rfl k_X8_put rfl ?_
  have Sm := jSm_rf fp_X8_put_r45_c5d h
  show jX m_X8_put 1 0 0 0 [(0, .ref 45), (1, .int a1), (2, .int 5), (3, .int a3)] [] _ 0 0 _
  unfold d_X8_put_r45_c5d at D
  refine x_iloadn (x := a1) rfl rfl ?_
  refine x_iflt (tgt := 38) rfl rfl (ti_lt rfl jk_0 (br_f (by omega) ?_))
  refine x_iloadn (x := a1) rfl rfl ?_
  refine x_aloadn (x := 45) rfl rfl ?_
  refine z_getI (N := 4) 8 3 rfl f_8_7 rfl J rfl sg_45_3_4_1_0_1 (fun v1 qv1 ev1 => ?_)
  try rw [vrf qv1] at D
  refine x_icge (tgt := 38) rfl rfl (ti_ge rfl rfl ⟨fun c2 => ?_, fun c2 => ?_⟩)
  ·
    rw [if_pos (by omega)] at D
    exact jX.sub jsb_n (ct_X8_put_r45_c5d_38 hD hQ  h J Sm D)
  ·
    rw [if_neg (by omega)] at D
    refine x_iloadn (x := 5) rfl rfl ?_
    refine x_iflt (tgt := 38) rfl rfl (ti_lt jk_5 jk_0 (br_f (by omega) ?_))
    refine x_iloadn (x := 5) rfl rfl ?_
    refine x_aloadn (x := 45) rfl rfl ?_
    refine z_getC (N := 4) (v := 3) 8 0 rfl f_8_19 rfl J rfl sg_45_0_1_1_0_1 jk_3 ?_
    refine x_icge (tgt := 38) rfl rfl (ti_ge jk_5 jk_3 (br_t (by omega) ?_))
    exact jX.sub jsb_n (ct_X8_put_r45_c5d_38 hD hQ  h J Sm D)
def fp_X8_add_r45d : jFp := [(45, 3, 4), (46, 0, 120)]
set_option maxRecDepth 100000 in
set_option maxHeartbeats 4000000 in
theorem sf_X8_add_r45d {Dy : jH → Prop} {h : jH} {Q : Option Value → jH → Prop} {dr : jW} {a1 : Int32} {a2 : Int32} {a3 : Int32} {a4 : Int32} {a5 : Int32} {a6 : Int32} (y1 : 0 ≤ a1.toInt ∧ a1.toInt ≤ 146399) (y2 : 0 ≤ a2.toInt ∧ a2.toInt ≤ 146399) (y3 : 0 ≤ a3.toInt ∧ a3.toInt ≤ 199) (y4 : 0 ≤ a4.toInt ∧ a4.toInt ≤ 0) (y5 : 0 ≤ a5.toInt ∧ a5.toInt ≤ 0) (y6 : 0 ≤ a6.toInt ∧ a6.toInt ≤ 0) (hD : jDk Dy) (J : jJ jSgX Dy h) (D : d_X8_add_r45d a1.toInt a2.toInt a3.toInt a4.toInt a5.toInt a6.toInt (vw h) = dr) (hQ : ∀ hx9, jJ jSgX Dy hx9 → jSm fp_X8_add_r45d h hx9 → dr = vw hx9 → Q none hx9) : jC m_X8_add 2 0 0 [.ref 45, .int a1, .int a2, .int a3, .int a4, .int a5, .int a6] h Q := by
  refine jC.of rfl k_X8_add rfl ?_
  have Sm := jSm_rf fp_X8_add_r45d h
  show jX m_X8_add 2 0 0 0 [(0, .ref 45), (1, .int a1), (2, .int a2), (3, .int a3), (4, .int a4), (5, .int a5), (6, .int a6)] [] _ 0 0 _
  unfold d_X8_add_r45d at D
  refine x_aloadn (x := 45) rfl rfl ?_
  refine z_getI (N := 4) 8 3 rfl f_8_7 rfl J rfl sg_45_3_4_1_0_1 (fun v1 qv1 ev1 => ?_)
  try rw [vrf qv1] at D
  refine x_aloadn (x := 45) rfl rfl ?_
  refine z_getC (N := 4) (v := 40) 8 1 rfl f_8_22 rfl J rfl sg_45_1_2_1_0_1 jk_40 ?_
  refine x_iclt (tgt := 12) rfl rfl (ti_lt rfl jk_40 ⟨fun c2 => ?_, fun c2 => ?_⟩)
  ·
    rw [if_pos (by omega)] at D
    refine x_aloadn (x := 45) rfl rfl ?_
    refine z_getM (N := 4) (v := v1) 8 3 rfl f_8_7 rfl J rfl qv1 ?_
    refine x_istore (lsx9 := [(7, .int v1), (0, .ref 45), (1, .int a1), (2, .int a2), (3, .int a3), (4, .int a4), (5, .int a5), (6, .int a6)]) rfl rfl rfl ?_
    refine x_aloadn (x := 45) rfl rfl ?_
    refine x_iload (x := v1) rfl rfl ?_
    refine x_iconst (v := 1) rfl ki_1 ?_
    refine z_iadd rfl rfl jk_1 (by omega) (fun v3 ev3 => ?_)
    refine z_putI (N := 4) (w := v3.toInt) 8 3 rfl f_8_7 rfl (jfin_no TX8 RX8 4 rfl rfl) hD J Sm rfl rfl rfl (pw_45_3 (by omega)) rfl (fun h w4 J Sm => ?_)
    rw [vwf w4 (show (v1.toInt + 1) = v3.toInt from by omega)] at D
    refine x_aloadn (x := 45) rfl rfl ?_
    refine x_iload (x := v1) rfl rfl ?_
    refine x_iconst (v := 0) rfl ki_0 ?_
    refine x_iloadn (x := a1) rfl rfl ?_
    refine x_inv (N := m_X8_put) (As := [.int v1, .int 0, .int a1]) (b := 45) (st := []) (dx9 := 1) (mc := 0) (ms := 0) (host := "") 8 rfl t_X8_put ⟨Or.inl q_8_29, i_X8_put.1, i_X8_put.2⟩ ⟨by decide, rfl⟩ (congrArg Prod.fst (J.1.1 45 (8, 4) rfl)) rfl (by decide) rfl rfl ⟨by decide, by decide⟩ (sf_X8_put_r45_c0d (jr_of rfl (by omega)) (jr_of rfl (by omega)) hD J rfl  (fun h J S5 X6 => ?_))
    have Sm := jSm_tr rfl Sm S5
    rw [X6] at D
    show jX m_X8_add 2 0 0 34 [(7, .int v1), (0, .ref 45), (1, .int a1), (2, .int a2), (3, .int a3), (4, .int a4), (5, .int a5), (6, .int a6)] [] _ 0 0 _
    refine x_aloadn (x := 45) rfl rfl ?_
    refine x_iload (x := v1) rfl rfl ?_
    refine x_iconst (v := 1) rfl ki_1 ?_
    refine x_iloadn (x := a2) rfl rfl ?_
    refine x_inv (N := m_X8_put) (As := [.int v1, .int 1, .int a2]) (b := 45) (st := []) (dx9 := 1) (mc := 0) (ms := 0) (host := "") 8 rfl t_X8_put ⟨Or.inl q_8_29, i_X8_put.1, i_X8_put.2⟩ ⟨by decide, rfl⟩ (congrArg Prod.fst (J.1.1 45 (8, 4) rfl)) rfl (by decide) rfl rfl ⟨by decide, by decide⟩ (sf_X8_put_r45_c1d (jr_of rfl (by omega)) (jr_of rfl (by omega)) hD J rfl  (fun h J S7 X8 => ?_))
    have Sm := jSm_tr rfl Sm S7
    rw [X8] at D
    show jX m_X8_add 2 0 0 42 [(7, .int v1), (0, .ref 45), (1, .int a1), (2, .int a2), (3, .int a3), (4, .int a4), (5, .int a5), (6, .int a6)] [] _ 0 0 _
    refine x_aloadn (x := 45) rfl rfl ?_
    refine x_iload (x := v1) rfl rfl ?_
    refine x_iconst (v := 2) rfl ki_2 ?_
    refine x_iloadn (x := a3) rfl rfl ?_
    refine x_inv (N := m_X8_put) (As := [.int v1, .int 2, .int a3]) (b := 45) (st := []) (dx9 := 1) (mc := 0) (ms := 0) (host := "") 8 rfl t_X8_put ⟨Or.inl q_8_29, i_X8_put.1, i_X8_put.2⟩ ⟨by decide, rfl⟩ (congrArg Prod.fst (J.1.1 45 (8, 4) rfl)) rfl (by decide) rfl rfl ⟨by decide, by decide⟩ (sf_X8_put_r45_c2d (jr_of rfl (by omega)) (jr_of rfl (by omega)) hD J rfl  (fun h J S9 X10 => ?_))
    have Sm := jSm_tr rfl Sm S9
    rw [X10] at D
    show jX m_X8_add 2 0 0 50 [(7, .int v1), (0, .ref 45), (1, .int a1), (2, .int a2), (3, .int a3), (4, .int a4), (5, .int a5), (6, .int a6)] [] _ 0 0 _
    refine x_aloadn (x := 45) rfl rfl ?_
    refine x_iload (x := v1) rfl rfl ?_
    refine x_iconst (v := 3) rfl ki_3 ?_
    refine x_iload (x := a4) rfl rfl ?_
    refine x_inv (N := m_X8_put) (As := [.int v1, .int 3, .int a4]) (b := 45) (st := []) (dx9 := 1) (mc := 0) (ms := 0) (host := "") 8 rfl t_X8_put ⟨Or.inl q_8_29, i_X8_put.1, i_X8_put.2⟩ ⟨by decide, rfl⟩ (congrArg Prod.fst (J.1.1 45 (8, 4) rfl)) rfl (by decide) rfl rfl ⟨by decide, by decide⟩ (sf_X8_put_r45_c3d (jr_of rfl (by omega)) (jr_of rfl (by omega)) hD J rfl  (fun h J S11 X12 => ?_))
    have Sm := jSm_tr rfl Sm S11
    rw [X12] at D
    show jX m_X8_add 2 0 0 59 [(7, .int v1), (0, .ref 45), (1, .int a1), (2, .int a2), (3, .int a3), (4, .int a4), (5, .int a5), (6, .int a6)] [] _ 0 0 _
    refine x_aloadn (x := 45) rfl rfl ?_
    refine x_iload (x := v1) rfl rfl ?_
    refine x_iconst (v := 4) rfl ki_4 ?_
    refine x_iload (x := a5) rfl rfl ?_
    refine x_inv (N := m_X8_put) (As := [.int v1, .int 4, .int a5]) (b := 45) (st := []) (dx9 := 1) (mc := 0) (ms := 0) (host := "") 8 rfl t_X8_put ⟨Or.inl q_8_29, i_X8_put.1, i_X8_put.2⟩ ⟨by decide, rfl⟩ (congrArg Prod.fst (J.1.1 45 (8, 4) rfl)) rfl (by decide) rfl rfl ⟨by decide, by decide⟩ (sf_X8_put_r45_c4d (jr_of rfl (by omega)) (jr_of rfl (by omega)) hD J rfl  (fun h J S13 X14 => ?_))
    have Sm := jSm_tr rfl Sm S13
    rw [X14] at D
    show jX m_X8_add 2 0 0 68 [(7, .int v1), (0, .ref 45), (1, .int a1), (2, .int a2), (3, .int a3), (4, .int a4), (5, .int a5), (6, .int a6)] [] _ 0 0 _
    refine x_aloadn (x := 45) rfl rfl ?_
    refine x_iload (x := v1) rfl rfl ?_
    refine x_iconst (v := 5) rfl ki_5 ?_
    refine x_iload (x := a6) rfl rfl ?_
    refine x_inv (N := m_X8_put) (As := [.int v1, .int 5, .int a6]) (b := 45) (st := []) (dx9 := 1) (mc := 0) (ms := 0) (host := "") 8 rfl t_X8_put ⟨Or.inl q_8_29, i_X8_put.1, i_X8_put.2⟩ ⟨by decide, rfl⟩ (congrArg Prod.fst (J.1.1 45 (8, 4) rfl)) rfl (by decide) rfl rfl ⟨by decide, by decide⟩ (sf_X8_put_r45_c5d (jr_of rfl (by omega)) (jr_of rfl (by omega)) hD J rfl  (fun h J S15 X16 => ?_))
    have Sm := jSm_tr rfl Sm S15
    rw [X16] at D
    show jX m_X8_add 2 0 0 77 [(7, .int v1), (0, .ref 45), (1, .int a1), (2, .int a2), (3, .int a3), (4, .int a4), (5, .int a5), (6, .int a6)] [] _ 0 0 _
    refine x_vret rfl rfl ?_
    exact hQ _ J Sm D.symm
  ·
    rw [if_neg (by omega)] at D
    refine x_vret rfl rfl ?_
    exact hQ _ J Sm D.symm
def fp_X8_isFull_r45d : jFp := []
set_option maxRecDepth 100000 in
set_option maxHeartbeats 4000000 in
theorem ct_X8_isFull_r45d_200016 {Dy : jH → Prop} {h0 : jH} {Q : Option Value → jH → Prop} {dr : Int} (hD : jDk Dy) (hQ : ∀ (v : Int32) hx9, 0 ≤ v.toInt ∧ v.toInt ≤ 1 → jJ jSgX Dy hx9 → jSm fp_X8_isFull_r45d h0 hx9 → dr = v.toInt → vw hx9 = vw h0 → Q (some (.int v)) hx9) : ∀ (h : jH), jJ jSgX Dy h → jSm fp_X8_isFull_r45d h0 h → d_X8_isFull_r45d_200016  (vw h) = dr → vw h = vw h0 → jX m_X8_isFull 1 0 0 16 [] [.int 0] h 0 0 Q := by
  intro  h    J Sm D EV
  unfold d_X8_isFull_r45d_200016 at D
  refine x_zret rfl rfl (by decide) ?_
  exact hQ _ _ (jr_of jk_0 (by omega)) J Sm (D.symm.trans (show 0 = (0 : Int32).toInt from by have := jk_0; omega)) EV
set_option maxRecDepth 100000 in
set_option maxHeartbeats 4000000 in
theorem ct_X8_isFull_r45d_300016 {Dy : jH → Prop} {h0 : jH} {Q : Option Value → jH → Prop} {dr : Int} (hD : jDk Dy) (hQ : ∀ (v : Int32) hx9, 0 ≤ v.toInt ∧ v.toInt ≤ 1 → jJ jSgX Dy hx9 → jSm fp_X8_isFull_r45d h0 hx9 → dr = v.toInt → vw hx9 = vw h0 → Q (some (.int v)) hx9) : ∀ (h : jH), jJ jSgX Dy h → jSm fp_X8_isFull_r45d h0 h → d_X8_isFull_r45d_300016  (vw h) = dr → vw h = vw h0 → jX m_X8_isFull 1 0 0 16 [] [.int 1] h 0 0 Q := by
  intro  h    J Sm D EV
  unfold d_X8_isFull_r45d_300016 at D
  refine x_zret rfl rfl (by decide) ?_
  exact hQ _ _ (jr_of jk_1 (by omega)) J Sm (D.symm.trans (show 1 = (1 : Int32).toInt from by have := jk_1; omega)) EV
set_option maxRecDepth 100000 in
set_option maxHeartbeats 4000000 in
theorem sf_X8_isFull_r45d {Dy : jH → Prop} {h : jH} {Q : Option Value → jH → Prop} {dr : Int} (hD : jDk Dy) (J : jJ jSgX Dy h) (D : d_X8_isFull_r45d (vw h) = dr) (hQ : ∀ (v : Int32) hx9, 0 ≤ v.toInt ∧ v.toInt ≤ 1 → jJ jSgX Dy hx9 → jSm fp_X8_isFull_r45d h hx9 → dr = v.toInt → vw hx9 = vw h → Q (some (.int v)) hx9) : jC m_X8_isFull 1 0 0 [.ref 45] h Q := by
  refine jC.of rfl k_X8_isFull rfl ?_
  have Sm := jSm_rf fp_X8_isFull_r45d h
  show jX m_X8_isFull 1 0 0 0 [(0, .ref 45)] [] _ 0 0 _
  unfold d_X8_isFull_r45d at D
  have EV : vw h = vw h := rfl
  refine x_aloadn (x := 45) rfl rfl ?_
  refine z_getI (N := 4) 8 3 rfl f_8_7 rfl J rfl sg_45_3_4_1_0_1 (fun v1 qv1 ev1 => ?_)
  try rw [vrf qv1] at D
  refine x_aloadn (x := 45) rfl rfl ?_
  refine z_getC (N := 4) (v := 40) 8 1 rfl f_8_22 rfl J rfl sg_45_1_2_1_0_1 jk_40 ?_
  refine x_iclt (tgt := 15) rfl rfl (ti_lt rfl jk_40 ⟨fun c2 => ?_, fun c2 => ?_⟩)
  ·
    rw [if_pos (by omega)] at D
    refine x_iconst (v := 0) rfl ki_0 ?_
    exact jX.sub jsb_n (ct_X8_isFull_r45d_200016 hD hQ  h J Sm D EV)
  ·
    rw [if_neg (by omega)] at D
    refine x_iconst (v := 1) rfl ki_1 ?_
    refine x_goto (tgt := 16) rfl rfl ?_
    exact jX.sub jsb_n (ct_X8_isFull_r45d_300016 hD hQ  h J Sm D EV)
def fp_X11_appeal_r31d : jFp := [(31, 12, 13), (32, 19, 20), (45, 3, 4), (46, 0, 120)]
set_option maxRecDepth 100000 in
set_option maxHeartbeats 4000000 in
theorem ct_X11_appeal_r31d_14 {Dy : jH → Prop} {h0 : jH} {Q : Option Value → jH → Prop} {dr : (Int × jW)} (hD : jDk Dy) (hQ : ∀ (v : Int32) hx9, (-366) ≤ v.toInt ∧ v.toInt ≤ 40 → jJ jSgX Dy hx9 → jSm fp_X11_appeal_r31d h0 hx9 → dr.1 = v.toInt → dr.2 = vw hx9 → Q (some (.int v)) hx9) : ∀ (h : jH), jJ jSgX Dy h → jSm fp_X11_appeal_r31d h0 h → d_X11_appeal_r31d_14  (vw h) = dr → jX m_X11_appeal 3 0 0 14 [(0, .ref 31)] [] h 0 0 Q := by
  intro  h    J Sm D
  unfold d_X11_appeal_r31d_14 at D
  refine x_aloadn (x := 31) rfl rfl ?_
  refine x_iconst (v := (-1)) rfl ki_m1 ?_
  refine x_inv (N := m_X11_refuse) (As := [.int (-1)]) (b := 31) (st := []) (dx9 := 2) (mc := 0) (ms := 0) (host := "") 11 rfl t_X11_refuse ⟨Or.inl q_11_206, i_X11_refuse.1, i_X11_refuse.2⟩ ⟨by decide, rfl⟩ (congrArg Prod.fst (J.1.1 31 (11, 13) rfl)) rfl (by decide) rfl rfl ⟨by decide, by decide⟩ (jC.of rfl k_X11_refuse rfl ?_)
  show jX m_X11_refuse 2 0 0 0 [(0, .ref 31), (1, .int (-1))] [] _ 0 0 _
  refine x_aloadn (x := 31) rfl rfl ?_
  refine x_iloadn (x := (-1)) rfl rfl ?_
  refine z_putI (N := 13) (w := (-1)) 11 12 rfl f_11_94 rfl (jfin_no TX11 RX11 13 rfl rfl) hD J Sm rfl rfl jk_m1 (pw_31_12 (by omega)) rfl (fun h w1 J Sm => ?_)
  rw [vwf w1 (show (-1) = ((-1) : Int32).toInt from by have := jk_m1; omega)] at D
  refine x_iloadn (x := (-1)) rfl rfl ?_
  refine x_iret rfl rfl ?_
  show jX m_X11_appeal 3 0 0 19 [(0, .ref 31)] [.int (-1)] _ 0 0 _
  refine x_iret rfl rfl ?_
  exact hQ _ _ (jr_of jk_m1 (by omega)) J Sm ((congrArg Prod.fst D).symm.trans (show (-1) = ((-1) : Int32).toInt from by have := jk_m1; omega)) (congrArg Prod.snd D).symm
set_option maxRecDepth 100000 in
set_option maxHeartbeats 4000000 in
theorem ct_X11_appeal_r31d_44 {Dy : jH → Prop} {h0 : jH} {Q : Option Value → jH → Prop} {dr : (Int × jW)} (hD : jDk Dy) (hQ : ∀ (v : Int32) hx9, (-366) ≤ v.toInt ∧ v.toInt ≤ 40 → jJ jSgX Dy hx9 → jSm fp_X11_appeal_r31d h0 hx9 → dr.1 = v.toInt → dr.2 = vw hx9 → Q (some (.int v)) hx9) : ∀ (h : jH), jJ jSgX Dy h → jSm fp_X11_appeal_r31d h0 h → d_X11_appeal_r31d_44  (vw h) = dr → jX m_X11_appeal 3 0 0 44 [(0, .ref 31)] [] h 0 0 Q := by
  intro  h    J Sm D
  unfold d_X11_appeal_r31d_44 at D
  refine x_aloadn (x := 31) rfl rfl ?_
  refine x_bipush (v := (-2)) rfl kb_m2 ?_
  refine x_inv (N := m_X11_refuse) (As := [.int (-2)]) (b := 31) (st := []) (dx9 := 2) (mc := 0) (ms := 0) (host := "") 11 rfl t_X11_refuse ⟨Or.inl q_11_206, i_X11_refuse.1, i_X11_refuse.2⟩ ⟨by decide, rfl⟩ (congrArg Prod.fst (J.1.1 31 (11, 13) rfl)) rfl (by decide) rfl rfl ⟨by decide, by decide⟩ (jC.of rfl k_X11_refuse rfl ?_)
  show jX m_X11_refuse 2 0 0 0 [(0, .ref 31), (1, .int (-2))] [] _ 0 0 _
  refine x_aloadn (x := 31) rfl rfl ?_
  refine x_iloadn (x := (-2)) rfl rfl ?_
  refine z_putI (N := 13) (w := (-2)) 11 12 rfl f_11_94 rfl (jfin_no TX11 RX11 13 rfl rfl) hD J Sm rfl rfl jk_m2 (pw_31_12 (by omega)) rfl (fun h w1 J Sm => ?_)
  rw [vwf w1 (show (-2) = ((-2) : Int32).toInt from by have := jk_m2; omega)] at D
  refine x_iloadn (x := (-2)) rfl rfl ?_
  refine x_iret rfl rfl ?_
  show jX m_X11_appeal 3 0 0 50 [(0, .ref 31)] [.int (-2)] _ 0 0 _
  refine x_iret rfl rfl ?_
  exact hQ _ _ (jr_of jk_m2 (by omega)) J Sm ((congrArg Prod.fst D).symm.trans (show (-2) = ((-2) : Int32).toInt from by have := jk_m2; omega)) (congrArg Prod.snd D).symm
set_option maxRecDepth 100000 in
set_option maxHeartbeats 4000000 in
theorem sf_X11_appeal_r31d {Dy : jH → Prop} {h : jH} {Q : Option Value → jH → Prop} {dr : (Int × jW)} {a1 : Int32} {a2 : Int32} {a3 : Int32} (hD : jDk Dy) (J : jJ jSgX Dy h) (D : d_X11_appeal_r31d a1.toInt a2.toInt a3.toInt (vw h) = dr) (hQ : ∀ (v : Int32) hx9, (-366) ≤ v.toInt ∧ v.toInt ≤ 40 → jJ jSgX Dy hx9 → jSm fp_X11_appeal_r31d h hx9 → dr.1 = v.toInt → dr.2 = vw hx9 → Q (some (.int v)) hx9) : jC m_X11_appeal 3 0 0 [.ref 31, .int a1, .int a2, .int a3] h Q := by
  refine jC.of rfl k_X11_appeal rfl ?_
  have Sm := jSm_rf fp_X11_appeal_r31d h
  have ea1 := jfull a1
  have ea2 := jfull a2
  have ea3 := jfull a3
  show jX m_X11_appeal 3 0 0 0 [(0, .ref 31), (1, .int a1), (2, .int a2), (3, .int a3)] [] _ 0 0 _
  unfold d_X11_appeal_r31d at D
  refine x_iloadn (x := a2) rfl rfl ?_
  refine x_inst (N := m_X11_isDay) (As := [.int a2]) (st := []) (dx9 := 1) (mc := 0) (ms := 0) (host := "") rfl t_X11_isDay ⟨Or.inl q_11_115, s_X11_isDay⟩ rfl (by decide) rfl rfl ⟨by decide, by decide⟩ (zc_X11_isDay rfl (fun v1 ev1 => ?_))
  show jX m_X11_appeal 3 0 0 4 [(0, .ref 31), (1, .int a1), (2, .int a2), (3, .int a3)] [.int v1] _ 0 0 _
  refine x_ifeq (tgt := 14) rfl rfl (ti_eq rfl jk_0 ⟨fun c2 => ?_, fun c2 => ?_⟩)
  ·
    rw [if_neg (by omega)] at D
    exact jX.sub (jsb_c rfl jsb_n) (ct_X11_appeal_r31d_14 hD hQ  h J Sm D)
  ·
    rw [if_pos (by omega)] at D
    refine x_iloadn (x := a3) rfl rfl ?_
    refine x_inst (N := m_X11_isDay) (As := [.int a3]) (st := []) (dx9 := 1) (mc := 0) (ms := 0) (host := "") rfl t_X11_isDay ⟨Or.inl q_11_115, s_X11_isDay⟩ rfl (by decide) rfl rfl ⟨by decide, by decide⟩ (zc_X11_isDay rfl (fun v3 ev3 => ?_))
    show jX m_X11_appeal 3 0 0 11 [(0, .ref 31), (1, .int a1), (2, .int a2), (3, .int a3)] [.int v3] _ 0 0 _
    refine x_ifne (tgt := 20) rfl rfl (ti_ne rfl jk_0 ⟨fun c4 => ?_, fun c4 => ?_⟩)
    ·
      rw [if_pos (by omega)] at D
      refine x_aloadn (x := 31) rfl rfl ?_
      refine x_iloadn (x := a1) rfl rfl ?_
      refine x_inv (N := m_X11_isLine) (As := [.int a1]) (b := 31) (st := []) (dx9 := 2) (mc := 0) (ms := 0) (host := "") 11 rfl t_X11_isLine ⟨Or.inl q_11_168, i_X11_isLine.1, i_X11_isLine.2⟩ ⟨by decide, rfl⟩ (congrArg Prod.fst (J.1.1 31 (11, 13) rfl)) rfl (by decide) rfl rfl ⟨by decide, by decide⟩ (jC.of rfl k_X11_isLine rfl ?_)
      show jX m_X11_isLine 2 0 0 0 [(0, .ref 31), (1, .int a1)] [] _ 0 0 _
      refine x_iloadn (x := a1) rfl rfl ?_
      refine x_iflt (tgt := 22) rfl rfl (ti_lt rfl jk_0 ⟨fun c5 => ?_, fun c5 => ?_⟩)
      ·
        rw [if_pos (by omega)] at D
        refine x_iconst (v := 0) rfl ki_0 ?_
        refine x_zret rfl rfl (by decide) ?_
        show jX m_X11_appeal 3 0 0 25 [(0, .ref 31), (1, .int a1), (2, .int a2), (3, .int a3)] [.int 0] _ 0 0 _
        refine x_ifeq (tgt := 44) rfl rfl (ti_eq jk_0 jk_0 (br_t (by omega) ?_))
        exact jX.sub (jsb_c rfl jsb_n) (ct_X11_appeal_r31d_44 hD hQ  h J Sm D)
      ·
        rw [if_neg (by omega)] at D
        refine x_iloadn (x := a1) rfl rfl ?_
        refine x_aloadn (x := 31) rfl rfl ?_
        refine z_getR (N := 13) (b := 32) 11 0 rfl f_11_10 rfl J rfl 3968 ⟨rfl, rfl⟩ rfl ?_
        refine z_getR (N := 20) (b := 33) 1 0 rfl f_11_126 rfl J rfl 4096 ⟨rfl, rfl⟩ rfl ?_
        refine z_getI (N := 4) 8 3 rfl f_11_142 rfl J rfl sg_33_3_4_1_0_1 (fun v6 qv6 ev6 => ?_)
        try rw [vrf qv6] at D
        refine x_icge (tgt := 22) rfl rfl (ti_ge rfl rfl ⟨fun c7 => ?_, fun c7 => ?_⟩)
        ·
          rw [if_pos (by omega)] at D
          refine x_iconst (v := 0) rfl ki_0 ?_
          refine x_zret rfl rfl (by decide) ?_
          show jX m_X11_appeal 3 0 0 25 [(0, .ref 31), (1, .int a1), (2, .int a2), (3, .int a3)] [.int 0] _ 0 0 _
          refine x_ifeq (tgt := 44) rfl rfl (ti_eq jk_0 jk_0 (br_t (by omega) ?_))
          exact jX.sub (jsb_c rfl jsb_n) (ct_X11_appeal_r31d_44 hD hQ  h J Sm D)
        ·
          rw [if_neg (by omega)] at D
          refine x_iconst (v := 1) rfl ki_1 ?_
          refine x_goto (tgt := 23) rfl rfl ?_
          refine x_zret rfl rfl (by decide) ?_
          show jX m_X11_appeal 3 0 0 25 [(0, .ref 31), (1, .int a1), (2, .int a2), (3, .int a3)] [.int 1] _ 0 0 _
          refine x_ifeq (tgt := 44) rfl rfl (ti_eq jk_1 jk_0 (br_f (by omega) ?_))
          refine x_aloadn (x := 31) rfl rfl ?_
          refine z_getR (N := 13) (b := 32) 11 0 rfl f_11_10 rfl J rfl 3968 ⟨rfl, rfl⟩ rfl ?_
          refine z_getR (N := 20) (b := 33) 1 0 rfl f_11_126 rfl J rfl 4096 ⟨rfl, rfl⟩ rfl ?_
          refine x_iloadn (x := a1) rfl rfl ?_
          refine x_iconst (v := 2) rfl ki_2 ?_
          refine x_inv (N := m_X8_at) (As := [.int a1, .int 2]) (b := 33) (st := []) (dx9 := 1) (mc := 0) (ms := 0) (host := "") 8 rfl t_X8_at ⟨Or.inl q_11_171, i_X8_at.1, i_X8_at.2⟩ ⟨by decide, rfl⟩ (congrArg Prod.fst (J.1.1 33 (8, 4) rfl)) rfl (by decide) rfl rfl ⟨by decide, by decide⟩ (sf_X8_at_r33_c2d  hD J rfl  (fun v11 h ev11 J S8 X9 X10 => ?_))
          have Sm := jSm_tr rfl Sm S8
          try rw [X9] at D
          try rw [← X10] at D
          show jX m_X11_appeal 3 0 0 40 [(0, .ref 31), (1, .int a1), (2, .int a2), (3, .int a3)] [.int v11] _ 0 0 _
          refine x_iconst (v := 5) rfl ki_5 ?_
          refine x_iceq (tgt := 51) rfl rfl (ti_eq rfl jk_5 ⟨fun c12 => ?_, fun c12 => ?_⟩)
          ·
            rw [if_pos (by omega)] at D
            refine x_iloadn (x := a2) rfl rfl ?_
            refine x_aloadn (x := 31) rfl rfl ?_
            refine z_getR (N := 13) (b := 32) 11 0 rfl f_11_10 rfl J rfl 3968 ⟨rfl, rfl⟩ rfl ?_
            refine z_getR (N := 20) (b := 33) 1 0 rfl f_11_126 rfl J rfl 4096 ⟨rfl, rfl⟩ rfl ?_
            refine x_iloadn (x := a1) rfl rfl ?_
            refine x_iconst (v := 1) rfl ki_1 ?_
            refine x_inv (N := m_X8_at) (As := [.int a1, .int 1]) (b := 33) (st := [.int a2]) (dx9 := 1) (mc := 0) (ms := 0) (host := "") 8 rfl t_X8_at ⟨Or.inl q_11_171, i_X8_at.1, i_X8_at.2⟩ ⟨by decide, rfl⟩ (congrArg Prod.fst (J.1.1 33 (8, 4) rfl)) rfl (by decide) rfl rfl ⟨by decide, by decide⟩ (sf_X8_at_r33_c1d  hD J rfl  (fun v16 h ev16 J S13 X14 X15 => ?_))
            have Sm := jSm_tr rfl Sm S13
            try rw [X14] at D
            try rw [← X15] at D
            show jX m_X11_appeal 3 0 0 64 [(0, .ref 31), (1, .int a1), (2, .int a2), (3, .int a3)] [.int v16, .int a2] _ 0 0 _
            refine x_icge (tgt := 73) rfl rfl (ti_ge rfl rfl ⟨fun c17 => ?_, fun c17 => ?_⟩)
            ·
              rw [if_pos (by omega)] at D
              refine x_aloadn (x := 31) rfl rfl ?_
              refine z_getR (N := 13) (b := 32) 11 0 rfl f_11_10 rfl J rfl 3968 ⟨rfl, rfl⟩ rfl ?_
              refine z_getR (N := 20) (b := 45) 1 6 rfl f_11_402 rfl J rfl 4102 ⟨rfl, rfl⟩ rfl ?_
              refine x_inv (N := m_X8_isFull) (As := []) (b := 45) (st := []) (dx9 := 1) (mc := 0) (ms := 0) (host := "") 8 rfl t_X8_isFull ⟨Or.inl q_11_130, i_X8_isFull.1, i_X8_isFull.2⟩ ⟨by decide, rfl⟩ (congrArg Prod.fst (J.1.1 45 (8, 4) rfl)) rfl (by decide) rfl rfl ⟨by decide, by decide⟩ (sf_X8_isFull_r45d  hD J rfl  (fun v21 h ev21 J S18 X19 X20 => ?_))
              have Sm := jSm_tr rfl Sm S18
              try rw [X19] at D
              try rw [← X20] at D
              show jX m_X11_appeal 3 0 0 83 [(0, .ref 31), (1, .int a1), (2, .int a2), (3, .int a3)] [.int v21] _ 0 0 _
              refine x_ifeq (tgt := 93) rfl rfl (ti_eq rfl jk_0 ⟨fun c22 => ?_, fun c22 => ?_⟩)
              ·
                rw [if_pos (by omega)] at D
                refine x_aloadn (x := 31) rfl rfl ?_
                refine z_getR (N := 13) (b := 32) 11 0 rfl f_11_10 rfl J rfl 3968 ⟨rfl, rfl⟩ rfl ?_
                refine z_getR (N := 20) (b := 45) 1 6 rfl f_11_402 rfl J rfl 4102 ⟨rfl, rfl⟩ rfl ?_
                refine x_iloadn (x := a3) rfl rfl ?_
                refine x_iloadn (x := a2) rfl rfl ?_
                refine x_iloadn (x := a1) rfl rfl ?_
                refine x_iconst (v := 0) rfl ki_0 ?_
                refine x_iconst (v := 0) rfl ki_0 ?_
                refine x_iconst (v := 0) rfl ki_0 ?_
                refine x_inv (N := m_X8_add) (As := [.int a3, .int a2, .int a1, .int 0, .int 0, .int 0]) (b := 45) (st := []) (dx9 := 2) (mc := 0) (ms := 0) (host := "") 8 rfl t_X8_add ⟨Or.inl q_11_145, i_X8_add.1, i_X8_add.2⟩ ⟨by decide, rfl⟩ (congrArg Prod.fst (J.1.1 45 (8, 4) rfl)) rfl (by decide) rfl rfl ⟨by decide, by decide⟩ (sf_X8_add_r45d (jr_of rfl (by omega)) (jr_of rfl (by omega)) (jr_of rfl (by omega)) (jr_of jk_0 (by omega)) (jr_of jk_0 (by omega)) (jr_of jk_0 (by omega)) hD J rfl  (fun h J S23 X24 => ?_))
                have Sm := jSm_tr rfl Sm S23
                try rw [jk_0] at X24
                rw [X24] at D
                show jX m_X11_appeal 3 0 0 109 [(0, .ref 31), (1, .int a1), (2, .int a2), (3, .int a3)] [] _ 0 0 _
                refine x_aloadn (x := 31) rfl rfl ?_
                refine x_aloadn (x := 31) rfl rfl ?_
                refine z_getR (N := 13) (b := 32) 11 0 rfl f_11_10 rfl J rfl 3968 ⟨rfl, rfl⟩ rfl ?_
                refine z_getR (N := 20) (b := 45) 1 6 rfl f_11_402 rfl J rfl 4102 ⟨rfl, rfl⟩ rfl ?_
                refine z_getI (N := 4) 8 3 rfl f_11_142 rfl J rfl sg_45_3_4_1_0_1 (fun v25 qv25 ev25 => ?_)
                try rw [vrf qv25] at D
                refine x_inv (N := m_X11_accept) (As := [.int v25]) (b := 31) (st := []) (dx9 := 2) (mc := 0) (ms := 0) (host := "") 11 rfl t_X11_accept ⟨Or.inl q_11_165, i_X11_accept.1, i_X11_accept.2⟩ ⟨by decide, rfl⟩ (congrArg Prod.fst (J.1.1 31 (11, 13) rfl)) rfl (by decide) rfl rfl ⟨by decide, by decide⟩ (jC.of rfl k_X11_accept rfl ?_)
                show jX m_X11_accept 2 0 0 0 [(0, .ref 31), (1, .int v25)] [] _ 0 0 _
                refine x_aloadn (x := 31) rfl rfl ?_
                refine x_iconst (v := 0) rfl ki_0 ?_
                refine z_putI (N := 13) (w := 0) 11 12 rfl f_11_94 rfl (jfin_no TX11 RX11 13 rfl rfl) hD J Sm rfl rfl jk_0 (pw_31_12 (by omega)) rfl (fun h w26 J Sm => ?_)
                rw [vwf w26 (show 0 = (0 : Int32).toInt from by have := jk_0; omega)] at D
                refine x_aloadn (x := 31) rfl rfl ?_
                refine z_getR (N := 13) (b := 32) 11 0 rfl f_11_10 rfl J rfl 3968 ⟨rfl, rfl⟩ rfl ?_
                refine x_dup rfl rfl ?_
                refine z_getI0 (N := 20) 1 19 rfl f_11_528 rfl J rfl (fun v27 qv27 => ?_)
                have ev27 := jfull v27
                try rw [vrf (jmb_c S23 (jmb_w w26 qv27 rfl) rfl)] at D
                refine x_iconst (v := 1) rfl ki_1 ?_
                refine z_iaddW rfl rfl jk_1 (fun v28 ev28 => ?_)
                have fv28 := jfull v28
                try rw [← ev28] at D
                refine z_putI (N := 20) (w := v28.toInt) 1 19 rfl f_11_528 rfl (jfin_no TX1 RX1 20 rfl rfl) hD J Sm rfl rfl rfl (pw_32_19 trivial) rfl (fun h w29 J Sm => ?_)
                rw [vwf w29 (show v28.toInt = v28.toInt from by omega)] at D
                refine x_iloadn (x := v25) rfl rfl ?_
                refine x_iret rfl rfl ?_
                show jX m_X11_appeal 3 0 0 123 [(0, .ref 31), (1, .int a1), (2, .int a2), (3, .int a3)] [.int v25] _ 0 0 _
                refine x_iret rfl rfl ?_
                exact hQ _ _ (jr_of rfl (by omega)) J Sm ((congrArg Prod.fst D).symm.trans (show v25.toInt = v25.toInt from by omega)) (congrArg Prod.snd D).symm
              ·
                rw [if_neg (by omega)] at D
                refine x_aloadn (x := 31) rfl rfl ?_
                refine x_bipush (v := (-5)) rfl kb_m5 ?_
                refine x_inv (N := m_X11_refuse) (As := [.int (-5)]) (b := 31) (st := []) (dx9 := 2) (mc := 0) (ms := 0) (host := "") 11 rfl t_X11_refuse ⟨Or.inl q_11_206, i_X11_refuse.1, i_X11_refuse.2⟩ ⟨by decide, rfl⟩ (congrArg Prod.fst (J.1.1 31 (11, 13) rfl)) rfl (by decide) rfl rfl ⟨by decide, by decide⟩ (jC.of rfl k_X11_refuse rfl ?_)
                show jX m_X11_refuse 2 0 0 0 [(0, .ref 31), (1, .int (-5))] [] _ 0 0 _
                refine x_aloadn (x := 31) rfl rfl ?_
                refine x_iloadn (x := (-5)) rfl rfl ?_
                refine z_putI (N := 13) (w := (-5)) 11 12 rfl f_11_94 rfl (jfin_no TX11 RX11 13 rfl rfl) hD J Sm rfl rfl jk_m5 (pw_31_12 (by omega)) rfl (fun h w30 J Sm => ?_)
                rw [vwf w30 (show (-5) = ((-5) : Int32).toInt from by have := jk_m5; omega)] at D
                refine x_iloadn (x := (-5)) rfl rfl ?_
                refine x_iret rfl rfl ?_
                show jX m_X11_appeal 3 0 0 92 [(0, .ref 31), (1, .int a1), (2, .int a2), (3, .int a3)] [.int (-5)] _ 0 0 _
                refine x_iret rfl rfl ?_
                exact hQ _ _ (jr_of jk_m5 (by omega)) J Sm ((congrArg Prod.fst D).symm.trans (show (-5) = ((-5) : Int32).toInt from by have := jk_m5; omega)) (congrArg Prod.snd D).symm
            ·
              rw [if_neg (by omega)] at D
              refine x_aloadn (x := 31) rfl rfl ?_
              refine x_iconst (v := (-1)) rfl ki_m1 ?_
              refine x_inv (N := m_X11_refuse) (As := [.int (-1)]) (b := 31) (st := []) (dx9 := 2) (mc := 0) (ms := 0) (host := "") 11 rfl t_X11_refuse ⟨Or.inl q_11_206, i_X11_refuse.1, i_X11_refuse.2⟩ ⟨by decide, rfl⟩ (congrArg Prod.fst (J.1.1 31 (11, 13) rfl)) rfl (by decide) rfl rfl ⟨by decide, by decide⟩ (jC.of rfl k_X11_refuse rfl ?_)
              show jX m_X11_refuse 2 0 0 0 [(0, .ref 31), (1, .int (-1))] [] _ 0 0 _
              refine x_aloadn (x := 31) rfl rfl ?_
              refine x_iloadn (x := (-1)) rfl rfl ?_
              refine z_putI (N := 13) (w := (-1)) 11 12 rfl f_11_94 rfl (jfin_no TX11 RX11 13 rfl rfl) hD J Sm rfl rfl jk_m1 (pw_31_12 (by omega)) rfl (fun h w31 J Sm => ?_)
              rw [vwf w31 (show (-1) = ((-1) : Int32).toInt from by have := jk_m1; omega)] at D
              refine x_iloadn (x := (-1)) rfl rfl ?_
              refine x_iret rfl rfl ?_
              show jX m_X11_appeal 3 0 0 72 [(0, .ref 31), (1, .int a1), (2, .int a2), (3, .int a3)] [.int (-1)] _ 0 0 _
              refine x_iret rfl rfl ?_
              exact hQ _ _ (jr_of jk_m1 (by omega)) J Sm ((congrArg Prod.fst D).symm.trans (show (-1) = ((-1) : Int32).toInt from by have := jk_m1; omega)) (congrArg Prod.snd D).symm
          ·
            rw [if_neg (by omega)] at D
            exact jX.sub (jsb_c rfl jsb_n) (ct_X11_appeal_r31d_44 hD hQ  h J Sm D)
    ·
      rw [if_neg (by omega)] at D
      exact jX.sub (jsb_c rfl jsb_n) (ct_X11_appeal_r31d_14 hD hQ  h J Sm D)
def fp_X4_greatestRest_r107d : jFp := []
set_option maxRecDepth 100000 in
set_option maxHeartbeats 4000000 in
theorem ct_X4_greatestRest_r107d_41 {Dy : jH → Prop} {h0 : jH} {Q : Option Value → jH → Prop} {dr : Int} {K9 : Int → Int → Int → jW → Int} {R9 : Int} (hD : jDk Dy) (hQ : ∀ (v : Int32) hx9, (-1) ≤ v.toInt ∧ v.toInt ≤ 39 → jJ jSgX Dy hx9 → jSm fp_X4_greatestRest_r107d h0 hx9 → dr = v.toInt → vw hx9 = vw h0 → Q (some (.int v)) hx9) (k9 : ∀ (l1 : Int64) (l3 : Int32) (l4 : Int32) (h : jH), 40 - l4.toInt < R9 → (-1) ≤ l3.toInt ∧ l3.toInt ≤ 39 → 0 ≤ l4.toInt ∧ l4.toInt ≤ 40 → jJ jSgX Dy h → jSm fp_X4_greatestRest_r107d h0 h → K9 l1.toInt l3.toInt l4.toInt (vw h) = dr → vw h = vw h0 → jX m_X4_greatestRest 2 0 0 9 [(0, .ref 107), (1, .long l1), (3, .int l3), (4, .int l4)] [] h 0 0 Q) : ∀ (l1 : Int64) (l3 : Int32) (l4 : Int32) (h : jH), (-1) ≤ l3.toInt ∧ l3.toInt ≤ 39 → 0 ≤ l4.toInt ∧ l4.toInt ≤ 39 → 40 - l4.toInt ≤ R9 → jJ jSgX Dy h → jSm fp_X4_greatestRest_r107d h0 h → d_X4_greatestRest_r107d_41 K9  l1.toInt l3.toInt l4.toInt (vw h) = dr → vw h = vw h0 → jX m_X4_greatestRest 2 0 0 41 [(0, .ref 107), (1, .long l1), (3, .int l3), (4, .int l4)] [] h 0 0 Q := by
  intro l1 l3 l4 h y0 y1  m9 J Sm D EV
  have el1 := jfullL l1
  unfold d_X4_greatestRest_r107d_41 at D
  refine z_iinc (x := l4) (lsx9 := fun v1 => [(4, .int v1), (0, .ref 107), (1, .long l1), (3, .int l3)]) rfl rfl rfl jko_1 (by omega) rfl (fun _ => rfl) (fun v1 ev1 => ?_)
  refine x_goto (tgt := 9) rfl rfl ?_
  try rw [show (l4.toInt + 1) = v1.toInt from by omega] at D
  exact jX.sub (jsb_c rfl (jsb_c rfl (jsb_c rfl (jsb_c rfl jsb_n)))) (k9 l1 l3 v1 h (by omega) (jr_of rfl (by omega)) (jr_of rfl (by omega)) J Sm D EV)
set_option maxRecDepth 100000 in
set_option maxHeartbeats 4000000 in
theorem ct_X4_greatestRest_r107d_9 {Dy : jH → Prop} {h0 : jH} {Q : Option Value → jH → Prop} {dr : Int} (hD : jDk Dy) (hQ : ∀ (v : Int32) hx9, (-1) ≤ v.toInt ∧ v.toInt ≤ 39 → jJ jSgX Dy hx9 → jSm fp_X4_greatestRest_r107d h0 hx9 → dr = v.toInt → vw hx9 = vw h0 → Q (some (.int v)) hx9) : ∀ r : Nat, ∀ (l1 : Int64) (l3 : Int32) (l4 : Int32) (h : jH), 40 - l4.toInt < (r : Int) → (-1) ≤ l3.toInt ∧ l3.toInt ≤ 39 → 0 ≤ l4.toInt ∧ l4.toInt ≤ 40 → jJ jSgX Dy h → jSm fp_X4_greatestRest_r107d h0 h → d_X4_greatestRest_r107d_9 r l1.toInt l3.toInt l4.toInt (vw h) = dr → vw h = vw h0 → jX m_X4_greatestRest 2 0 0 9 [(0, .ref 107), (1, .long l1), (3, .int l3), (4, .int l4)] [] h 0 0 Q := by
  intro r
  induction r with
  | zero =>
    intro l1 l3 l4 h hm y0 y1   J Sm D EV
    exfalso
    have el1 := jfullL l1
    omega
  | succ r ih =>
    intro l1 l3 l4 h hm y0 y1   J Sm D EV
    have el1 := jfullL l1
    rw [d_X4_greatestRest_r107d_9.eq_2] at D
    refine x_iload (x := l4) rfl rfl ?_
    refine x_aloadn (x := 107) rfl rfl ?_
    refine x_inv (N := m_X4_houses) (As := []) (b := 107) (st := [.int l4]) (dx9 := 1) (mc := 0) (ms := 0) (host := "") 4 rfl t_X4_houses ⟨Or.inl q_4_107, i_X4_houses.1, i_X4_houses.2⟩ ⟨by decide, rfl⟩ (congrArg Prod.fst (J.1.1 107 (4, 18) rfl)) rfl (by decide) rfl rfl ⟨by decide, by decide⟩ (jC.of rfl k_X4_houses rfl ?_)
    show jX m_X4_houses 1 0 0 0 [(0, .ref 107)] [] _ 0 0 _
    refine x_bipush (v := 40) rfl kb_40 ?_
    refine x_aloadn (x := 107) rfl rfl ?_
    refine z_getR (N := 18) (b := 32) 4 0 rfl f_4_59 rfl J rfl 13696 ⟨rfl, rfl⟩ rfl ?_
    refine z_getR (N := 20) (b := 49) 1 8 rfl f_4_71 rfl J rfl 4104 ⟨rfl, rfl⟩ rfl ?_
    refine z_getI (N := 4) 8 3 rfl f_4_77 rfl J rfl sg_49_3_4_1_0_1 (fun v1 qv1 ev1 => ?_)
    try rw [vrf qv1] at D
    refine z_mmin rfl q_4_82 (by decide) rfl jk_40 rfl (fun v2 ev2 => ?_)
    refine x_iret rfl rfl ?_
    show jX m_X4_greatestRest 2 0 0 15 [(0, .ref 107), (1, .long l1), (3, .int l3), (4, .int l4)] [.int v2, .int l4] _ 0 0 _
    refine x_icge (tgt := 47) rfl rfl (ti_ge rfl rfl ⟨fun c3 => ?_, fun c3 => ?_⟩)
    ·
      rw [if_pos (by omega)] at D
      refine x_iloadn (x := l3) rfl rfl ?_
      refine x_iret rfl rfl ?_
      exact hQ _ _ (jr_of rfl (by omega)) J Sm (D.symm.trans (show l3.toInt = l3.toInt from by omega)) EV
    ·
      rw [if_neg (by omega)] at D
      refine x_aloadn (x := 107) rfl rfl ?_
      refine z_getR (N := 18) (b := 110) 4 5 rfl f_4_18 rfl J rfl 13701 ⟨rfl, rfl⟩ rfl ?_
      refine x_iload (x := l4) rfl rfl ?_
      refine z_laldQ (N := 40) rfl J rfl rfl (by omega) (fun v4 qv4 => ?_)
      have ev4 := jfullL v4
      try rw [vrdL qv4 (show l4.toInt = l4.toInt from by omega)] at D
      refine x_lloadn (x := l1) rfl rfl ?_
      refine z_lcmp rfl rfl rfl (fun v5 ev5 => ?_)
      refine x_ifle (tgt := 41) rfl rfl (ti_le rfl jk_0 ⟨fun c6 => ?_, fun c6 => ?_⟩)
      ·
        rw [if_pos (by omega)] at D
        exact jX.sub (jsb_c rfl (jsb_c rfl (jsb_c rfl (jsb_c rfl jsb_n)))) (ct_X4_greatestRest_r107d_41 hD hQ ih l1 l3 l4 h (jr_of rfl (by omega)) (jr_of rfl (by omega)) (by omega) J Sm D EV)
      ·
        rw [if_neg (by omega)] at D
        refine x_aloadn (x := 107) rfl rfl ?_
        refine z_getR (N := 18) (b := 110) 4 5 rfl f_4_18 rfl J rfl 13701 ⟨rfl, rfl⟩ rfl ?_
        refine x_iload (x := l4) rfl rfl ?_
        refine z_laldQ (N := 40) rfl J rfl rfl (by omega) (fun v7 qv7 => ?_)
        have ev7 := jfullL v7
        try rw [show v4.toInt = v7.toInt from ((vrdL qv4 (show l4.toInt = l4.toInt from by omega)).symm.trans (vrdL qv7 (show l4.toInt = l4.toInt from by omega)))] at D
        try rw [vrdL qv7 (show l4.toInt = l4.toInt from by omega)] at D
        refine x_lstoren (lsx9 := [(1, .long v7), (0, .ref 107), (3, .int l3), (4, .int l4)]) rfl rfl rfl ?_
        refine x_iload (x := l4) rfl rfl ?_
        refine x_istoren (lsx9 := [(3, .int l4), (1, .long v7), (0, .ref 107), (4, .int l4)]) rfl rfl rfl ?_
        exact jX.sub (jsb_c rfl (jsb_c rfl (jsb_c rfl (jsb_c rfl jsb_n)))) (ct_X4_greatestRest_r107d_41 hD hQ ih v7 l4 l4 h (jr_of rfl (by omega)) (jr_of rfl (by omega)) (by omega) J Sm D EV)
set_option maxRecDepth 100000 in
set_option maxHeartbeats 4000000 in
theorem sf_X4_greatestRest_r107d {Dy : jH → Prop} {h : jH} {Q : Option Value → jH → Prop} {dr : Int} (hD : jDk Dy) (J : jJ jSgX Dy h) (D : d_X4_greatestRest_r107d (vw h) = dr) (hQ : ∀ (v : Int32) hx9, (-1) ≤ v.toInt ∧ v.toInt ≤ 39 → jJ jSgX Dy hx9 → jSm fp_X4_greatestRest_r107d h hx9 → dr = v.toInt → vw hx9 = vw h → Q (some (.int v)) hx9) : jC m_X4_greatestRest 2 0 0 [.ref 107] h Q := by
  refine jC.of rfl k_X4_greatestRest rfl ?_
  have Sm := jSm_rf fp_X4_greatestRest_r107d h
  show jX m_X4_greatestRest 2 0 0 0 [(0, .ref 107)] [] _ 0 0 _
  unfold d_X4_greatestRest_r107d at D
  have EV : vw h = vw h := rfl
  refine x_ldc2 (v := (-1)) rfl z_4_137 ?_
  refine x_lstoren (lsx9 := [(1, .long (-1)), (0, .ref 107)]) rfl rfl rfl ?_
  refine x_iconst (v := (-1)) rfl ki_m1 ?_
  refine x_istoren (lsx9 := [(3, .int (-1)), (1, .long (-1)), (0, .ref 107)]) rfl rfl rfl ?_
  refine x_iconst (v := 0) rfl ki_0 ?_
  refine x_istore (lsx9 := [(4, .int 0), (3, .int (-1)), (1, .long (-1)), (0, .ref 107)]) rfl rfl rfl ?_
  exact jX.sub (jsb_c rfl (jsb_c rfl (jsb_c rfl (jsb_c rfl jsb_n)))) (ct_X4_greatestRest_r107d_9 hD hQ  41 (-1) (-1) 0 h (by have := jk_0; omega) (jr_of jk_m1 (by omega)) (jr_of jk_0 (by omega)) J Sm (by rw [jkl_m1, jk_m1, jk_0]; exact D) EV)
def fp_X4_share_r107d : jFp := [(108, 0, 40), (110, 0, 40)]
set_option maxRecDepth 100000 in
set_option maxHeartbeats 4000000 in
theorem ct_X4_share_r107d_175 {Dy : jH → Prop} {h0 : jH} {Q : Option Value → jH → Prop} {dr : jW} (hD : jDk Dy) (hQ : ∀ hx9, jJ jSgX Dy hx9 → jSm fp_X4_share_r107d h0 hx9 → dr = vw hx9 → Q none hx9) : ∀ (h : jH), jJ jSgX Dy h → jSm fp_X4_share_r107d h0 h → d_X4_share_r107d_175  (vw h) = dr → jX m_X4_share 3 0 0 175 [] [] h 0 0 Q := by
  intro  h    J Sm D
  unfold d_X4_share_r107d_175 at D
  refine x_vret rfl rfl ?_
  exact hQ _ J Sm D.symm
set_option maxRecDepth 100000 in
set_option maxHeartbeats 4000000 in
theorem ct_X4_share_r107d_163 {Dy : jH → Prop} {h0 : jH} {Q : Option Value → jH → Prop} {dr : jW} {K116 : Int → Int → jW → jW} {R116 : Int} (hD : jDk Dy) (hQ : ∀ hx9, jJ jSgX Dy hx9 → jSm fp_X4_share_r107d h0 hx9 → dr = vw hx9 → Q none hx9) (k116 : ∀ (l4 : Int64) (l6 : Int32) (h : jH), 40 - l6.toInt < R116 → 0 ≤ l6.toInt ∧ l6.toInt ≤ 40 → jJ jSgX Dy h → jSm fp_X4_share_r107d h0 h → K116 l4.toInt l6.toInt (vw h) = dr → jX m_X4_share 3 0 0 116 [(0, .ref 107), (4, .long l4), (6, .int l6)] [] h 0 0 Q) : ∀ (l4 : Int64) (l6 : Int32) (h : jH), 1 ≤ l4.toInt ∧ l4.toInt ≤ 9223372036854775807 → 0 ≤ l6.toInt ∧ l6.toInt ≤ 39 → 40 - l6.toInt ≤ R116 → jJ jSgX Dy h → jSm fp_X4_share_r107d h0 h → d_X4_share_r107d_163 K116  l4.toInt l6.toInt (vw h) = dr → jX m_X4_share 3 0 0 163 [(0, .ref 107), (4, .long l4), (6, .int l6)] [] h 0 0 Q := by
  intro l4 l6 h y0 y1  m116 J Sm D
  unfold d_X4_share_r107d_163 at D
  refine x_lload (x := l4) rfl rfl ?_
  refine x_lconst (v := 1) rfl kl_1 ?_
  refine z_lsub rfl rfl jkl_1 (by omega) (fun v1 ev1 => ?_)
  refine x_lstore (lsx9 := [(4, .long v1), (0, .ref 107), (6, .int l6)]) rfl rfl rfl ?_
  refine z_iinc (x := l6) (lsx9 := fun v2 => [(6, .int v2), (4, .long v1), (0, .ref 107)]) rfl rfl rfl jko_1 (by omega) rfl (fun _ => rfl) (fun v2 ev2 => ?_)
  refine x_goto (tgt := 116) rfl rfl ?_
  try rw [show (l4.toInt - 1) = v1.toInt from by omega] at D
  try rw [show (l6.toInt + 1) = v2.toInt from by omega] at D
  exact jX.sub (jsb_c rfl (jsb_c rfl (jsb_c rfl jsb_n))) (k116 v1 v2 h (by omega) (jr_of rfl (by omega)) J Sm D)
set_option maxRecDepth 100000 in
set_option maxHeartbeats 4000000 in
theorem ct_X4_share_r107d_116 {Dy : jH → Prop} {h0 : jH} {Q : Option Value → jH → Prop} {dr : jW} (hD : jDk Dy) (hQ : ∀ hx9, jJ jSgX Dy hx9 → jSm fp_X4_share_r107d h0 hx9 → dr = vw hx9 → Q none hx9) : ∀ r : Nat, ∀ (l4 : Int64) (l6 : Int32) (h : jH), 40 - l6.toInt < (r : Int) → 0 ≤ l6.toInt ∧ l6.toInt ≤ 40 → jJ jSgX Dy h → jSm fp_X4_share_r107d h0 h → d_X4_share_r107d_116 r l4.toInt l6.toInt (vw h) = dr → jX m_X4_share 3 0 0 116 [(0, .ref 107), (4, .long l4), (6, .int l6)] [] h 0 0 Q := by
  intro r
  induction r with
  | zero =>
    intro l4 l6 h hm y0   J Sm D
    exfalso
    have el4 := jfullL l4
    omega
  | succ r ih =>
    intro l4 l6 h hm y0   J Sm D
    have el4 := jfullL l4
    rw [d_X4_share_r107d_116.eq_2] at D
    refine x_iload (x := l6) rfl rfl ?_
    refine x_bipush (v := 40) rfl kb_40 ?_
    refine x_icge (tgt := 175) rfl rfl (ti_ge rfl jk_40 ⟨fun c1 => ?_, fun c1 => ?_⟩)
    ·
      rw [if_pos (by omega)] at D
      exact jX.sub jsb_n (ct_X4_share_r107d_175 hD hQ  h J Sm D)
    ·
      rw [if_neg (by omega)] at D
      refine x_lload (x := l4) rfl rfl ?_
      refine x_lconst (v := 0) rfl kl_0 ?_
      refine z_lcmp rfl rfl jkl_0 (fun v2 ev2 => ?_)
      refine x_ifle (tgt := 175) rfl rfl (ti_le rfl jk_0 ⟨fun c3 => ?_, fun c3 => ?_⟩)
      ·
        rw [if_pos (by omega)] at D
        exact jX.sub jsb_n (ct_X4_share_r107d_175 hD hQ  h J Sm D)
      ·
        rw [if_neg (by omega)] at D
        refine x_aloadn (x := 107) rfl rfl ?_
        refine x_inv (N := m_X4_greatestRest) (As := []) (b := 107) (st := []) (dx9 := 2) (mc := 0) (ms := 0) (host := "") 4 rfl t_X4_greatestRest ⟨Or.inl q_4_139, i_X4_greatestRest.1, i_X4_greatestRest.2⟩ ⟨by decide, rfl⟩ (congrArg Prod.fst (J.1.1 107 (4, 18) rfl)) rfl (by decide) rfl rfl ⟨by decide, by decide⟩ (sf_X4_greatestRest_r107d  hD J rfl  (fun v7 h ev7 J S4 X5 X6 => ?_))
        have Sm := jSm_tr rfl Sm S4
        try rw [X5] at D
        try rw [← X6] at D
        show jX m_X4_share 3 0 0 134 [(0, .ref 107), (4, .long l4), (6, .int l6)] [.int v7] _ 0 0 _
        refine x_istore (lsx9 := [(7, .int v7), (0, .ref 107), (4, .long l4), (6, .int l6)]) rfl rfl rfl ?_
        refine x_iload (x := v7) rfl rfl ?_
        refine x_iconst (v := (-1)) rfl ki_m1 ?_
        refine x_iceq (tgt := 163) rfl rfl (ti_eq rfl jk_m1 ⟨fun c8 => ?_, fun c8 => ?_⟩)
        ·
          rw [if_pos (by omega)] at D
          exact jX.sub (jsb_c rfl (jsb_c rfl (jsb_c rfl jsb_n))) (ct_X4_share_r107d_163 hD hQ ih l4 l6 h (jr_ofl rfl (by omega)) (jr_of rfl (by omega)) (by omega) J Sm D)
        ·
          rw [if_neg (by omega)] at D
          refine x_aloadn (x := 107) rfl rfl ?_
          refine z_getR (N := 18) (b := 108) 4 3 rfl f_4_9 rfl J rfl 13699 ⟨rfl, rfl⟩ rfl ?_
          refine x_iload (x := v7) rfl rfl ?_
          refine x_dup2 rfl rfl rfl ?_
          refine z_iald0 (N := 40) rfl J rfl rfl (by omega) (fun v9 qv9 => ?_)
          have ev9 := jfull v9
          try rw [vrd qv9 (show v7.toInt = v7.toInt from by omega)] at D
          refine x_iconst (v := 1) rfl ki_1 ?_
          refine z_iaddW rfl rfl jk_1 (fun v10 ev10 => ?_)
          have fv10 := jfull v10
          try rw [← ev10] at D
          refine z_iast (N := 40) (l := 0) (u := 40) (w := v10.toInt) rfl hD J Sm rfl rfl rfl (by omega) rfl (wr_108) rfl (fun h w11 J Sm => ?_)
          rw [vww w11 (show v7.toInt = v7.toInt from by omega) (show v10.toInt = v10.toInt from by omega)] at D
          refine x_aloadn (x := 107) rfl rfl ?_
          refine z_getR (N := 18) (b := 110) 4 5 rfl f_4_18 rfl J rfl 13701 ⟨rfl, rfl⟩ rfl ?_
          refine x_iload (x := v7) rfl rfl ?_
          refine x_ldc2 (v := (-1)) rfl z_4_137 ?_
          refine z_last (N := 40) (l := 0) (u := 40) rfl hD J Sm rfl rfl rfl (by omega) rfl (fun h w12 J Sm => ?_)
          rw [vwwL w12 (show v7.toInt = v7.toInt from by omega) (show (-1) = ((-1) : Int64).toInt from by have := jkl_m1; omega)] at D
          exact jX.sub (jsb_c rfl (jsb_c rfl (jsb_c rfl jsb_n))) (ct_X4_share_r107d_163 hD hQ ih l4 l6 h (jr_ofl rfl (by omega)) (jr_of rfl (by omega)) (by omega) J Sm D)
set_option maxRecDepth 100000 in
set_option maxHeartbeats 4000000 in
theorem ct_X4_share_r107d_93 {Dy : jH → Prop} {h0 : jH} {Q : Option Value → jH → Prop} {dr : jW} {K17 : Int → Int → Int → Int → jW → jW} {R17 : Int} (hD : jDk Dy) (hQ : ∀ hx9, jJ jSgX Dy hx9 → jSm fp_X4_share_r107d h0 hx9 → dr = vw hx9 → Q none hx9) (k17 : ∀ (l1 : Int32) (l2 : Int64) (l4 : Int64) (l6 : Int32) (h : jH), 40 - l6.toInt < R17 → 0 ≤ l1.toInt ∧ l1.toInt ≤ 1000000 → 0 ≤ l6.toInt ∧ l6.toInt ≤ 40 → jJ jSgX Dy h → jSm fp_X4_share_r107d h0 h → K17 l1.toInt l2.toInt l4.toInt l6.toInt (vw h) = dr → jX m_X4_share 3 0 0 17 [(0, .ref 107), (1, .int l1), (2, .long l2), (4, .long l4), (6, .int l6)] [] h 0 0 Q) : ∀ (l1 : Int32) (l2 : Int64) (l4 : Int64) (l6 : Int32) (s0 : Int64) (s1 : Int32) (h : jH), 0 ≤ l1.toInt ∧ l1.toInt ≤ 1000000 → 0 ≤ l6.toInt ∧ l6.toInt ≤ 39 → 0 ≤ s1.toInt ∧ s1.toInt ≤ 39 → l2.toInt ≠ 0 → 40 - l6.toInt ≤ R17 → jJ jSgX Dy h → jSm fp_X4_share_r107d h0 h → d_X4_share_r107d_93 K17  l1.toInt l2.toInt l4.toInt l6.toInt s0.toInt s1.toInt (vw h) = dr → jX m_X4_share 3 0 0 93 [(0, .ref 107), (1, .int l1), (2, .long l2), (4, .long l4), (6, .int l6)] [.long s0, .int s1, .ref 110] h 0 0 Q := by
  intro l1 l2 l4 l6 s0 s1 h y0 y1 y2 y3  m17 J Sm D
  have el2 := jfullL l2
  have el4 := jfullL l4
  have es0 := jfullL s0
  unfold d_X4_share_r107d_93 at D
  refine z_last (N := 40) (l := 0) (u := 40) rfl hD J Sm rfl rfl rfl (by omega) rfl (fun h w1 J Sm => ?_)
  rw [vwwL w1 (show s1.toInt = s1.toInt from by omega) (show s0.toInt = s0.toInt from by omega)] at D
  refine x_lload (x := l4) rfl rfl ?_
  refine x_aloadn (x := 107) rfl rfl ?_
  refine z_getR (N := 18) (b := 108) 4 3 rfl f_4_9 rfl J rfl 13699 ⟨rfl, rfl⟩ rfl ?_
  refine x_iload (x := l6) rfl rfl ?_
  refine z_iald0 (N := 40) rfl J rfl rfl (by omega) (fun v2 qv2 => ?_)
  have ev2 := jfull v2
  try rw [vrd (jmb_l w1 qv2) (show l6.toInt = l6.toInt from by omega)] at D
  refine z_i2l rfl rfl (fun v3 ev3 => ?_)
  refine z_lsubW rfl rfl rfl (fun v4 ev4 => ?_)
  have fv4 := jfullL v4
  try rw [show v2.toInt = v3.toInt from by omega] at D
  try rw [← ev4] at D
  refine x_lstore (lsx9 := [(4, .long v4), (0, .ref 107), (1, .int l1), (2, .long l2), (6, .int l6)]) rfl rfl rfl ?_
  refine z_iinc (x := l6) (lsx9 := fun v5 => [(6, .int v5), (4, .long v4), (0, .ref 107), (1, .int l1), (2, .long l2)]) rfl rfl rfl jko_1 (by omega) rfl (fun _ => rfl) (fun v5 ev5 => ?_)
  refine x_goto (tgt := 17) rfl rfl ?_
  try rw [show (l6.toInt + 1) = v5.toInt from by omega] at D
  exact jX.sub (jsb_c rfl (jsb_c rfl (jsb_c rfl (jsb_c rfl (jsb_c rfl jsb_n))))) (k17 l1 l2 v4 v5 h (by omega) (jr_of rfl (by omega)) (jr_of rfl (by omega)) J Sm D)
set_option maxRecDepth 100000 in
set_option maxHeartbeats 4000000 in
theorem ct_X4_share_r107d_5000093 {Dy : jH → Prop} {h0 : jH} {Q : Option Value → jH → Prop} {dr : jW} {K17 : Int → Int → Int → Int → jW → jW} {R17 : Int} (hD : jDk Dy) (hQ : ∀ hx9, jJ jSgX Dy hx9 → jSm fp_X4_share_r107d h0 hx9 → dr = vw hx9 → Q none hx9) (k17 : ∀ (l1 : Int32) (l2 : Int64) (l4 : Int64) (l6 : Int32) (h : jH), 40 - l6.toInt < R17 → 0 ≤ l1.toInt ∧ l1.toInt ≤ 1000000 → 0 ≤ l6.toInt ∧ l6.toInt ≤ 40 → jJ jSgX Dy h → jSm fp_X4_share_r107d h0 h → K17 l1.toInt l2.toInt l4.toInt l6.toInt (vw h) = dr → jX m_X4_share 3 0 0 17 [(0, .ref 107), (1, .int l1), (2, .long l2), (4, .long l4), (6, .int l6)] [] h 0 0 Q) : ∀ (l1 : Int32) (l2 : Int64) (l4 : Int64) (l6 : Int32) (s1 : Int32) (h : jH), 0 ≤ l1.toInt ∧ l1.toInt ≤ 1000000 → 0 ≤ l6.toInt ∧ l6.toInt ≤ 39 → 0 ≤ s1.toInt ∧ s1.toInt ≤ 39 → 40 - l6.toInt ≤ R17 → jJ jSgX Dy h → jSm fp_X4_share_r107d h0 h → d_X4_share_r107d_5000093 K17  l1.toInt l2.toInt l4.toInt l6.toInt s1.toInt (vw h) = dr → jX m_X4_share 3 0 0 93 [(0, .ref 107), (1, .int l1), (2, .long l2), (4, .long l4), (6, .int l6)] [.long (-1), .int s1, .ref 110] h 0 0 Q := by
  intro l1 l2 l4 l6 s1 h y0 y1 y2  m17 J Sm D
  have el2 := jfullL l2
  have el4 := jfullL l4
  unfold d_X4_share_r107d_5000093 at D
  refine z_last (N := 40) (l := 0) (u := 40) rfl hD J Sm rfl rfl rfl (by omega) rfl (fun h w1 J Sm => ?_)
  rw [vwwL w1 (show s1.toInt = s1.toInt from by omega) (show (-1) = ((-1) : Int64).toInt from by have := jkl_m1; omega)] at D
  refine x_lload (x := l4) rfl rfl ?_
  refine x_aloadn (x := 107) rfl rfl ?_
  refine z_getR (N := 18) (b := 108) 4 3 rfl f_4_9 rfl J rfl 13699 ⟨rfl, rfl⟩ rfl ?_
  refine x_iload (x := l6) rfl rfl ?_
  refine z_iald0 (N := 40) rfl J rfl rfl (by omega) (fun v2 qv2 => ?_)
  have ev2 := jfull v2
  try rw [vrd (jmb_l w1 qv2) (show l6.toInt = l6.toInt from by omega)] at D
  refine z_i2l rfl rfl (fun v3 ev3 => ?_)
  refine z_lsubW rfl rfl rfl (fun v4 ev4 => ?_)
  have fv4 := jfullL v4
  try rw [show v2.toInt = v3.toInt from by omega] at D
  try rw [← ev4] at D
  refine x_lstore (lsx9 := [(4, .long v4), (0, .ref 107), (1, .int l1), (2, .long l2), (6, .int l6)]) rfl rfl rfl ?_
  refine z_iinc (x := l6) (lsx9 := fun v5 => [(6, .int v5), (4, .long v4), (0, .ref 107), (1, .int l1), (2, .long l2)]) rfl rfl rfl jko_1 (by omega) rfl (fun _ => rfl) (fun v5 ev5 => ?_)
  refine x_goto (tgt := 17) rfl rfl ?_
  try rw [show (l6.toInt + 1) = v5.toInt from by omega] at D
  exact jX.sub (jsb_c rfl (jsb_c rfl (jsb_c rfl (jsb_c rfl (jsb_c rfl jsb_n))))) (k17 l1 l2 v4 v5 h (by omega) (jr_of rfl (by omega)) (jr_of rfl (by omega)) J Sm D)
set_option maxRecDepth 100000 in
set_option maxHeartbeats 4000000 in
theorem ct_X4_share_r107d_83 {Dy : jH → Prop} {h0 : jH} {Q : Option Value → jH → Prop} {dr : jW} {K17 : Int → Int → Int → Int → jW → jW} {R17 : Int} (hD : jDk Dy) (hQ : ∀ hx9, jJ jSgX Dy hx9 → jSm fp_X4_share_r107d h0 hx9 → dr = vw hx9 → Q none hx9) (k17 : ∀ (l1 : Int32) (l2 : Int64) (l4 : Int64) (l6 : Int32) (h : jH), 40 - l6.toInt < R17 → 0 ≤ l1.toInt ∧ l1.toInt ≤ 1000000 → 0 ≤ l6.toInt ∧ l6.toInt ≤ 40 → jJ jSgX Dy h → jSm fp_X4_share_r107d h0 h → K17 l1.toInt l2.toInt l4.toInt l6.toInt (vw h) = dr → jX m_X4_share 3 0 0 17 [(0, .ref 107), (1, .int l1), (2, .long l2), (4, .long l4), (6, .int l6)] [] h 0 0 Q) : ∀ (l1 : Int32) (l2 : Int64) (l4 : Int64) (l6 : Int32) (s0 : Int32) (h : jH), 0 ≤ l1.toInt ∧ l1.toInt ≤ 1000000 → 0 ≤ l6.toInt ∧ l6.toInt ≤ 39 → 0 ≤ s0.toInt ∧ s0.toInt ≤ 39 → 40 - l6.toInt ≤ R17 → jJ jSgX Dy h → jSm fp_X4_share_r107d h0 h → d_X4_share_r107d_83 K17  l1.toInt l2.toInt l4.toInt l6.toInt s0.toInt (vw h) = dr → jX m_X4_share 3 0 0 83 [(0, .ref 107), (1, .int l1), (2, .long l2), (4, .long l4), (6, .int l6)] [.int s0, .ref 110] h 0 0 Q := by
  intro l1 l2 l4 l6 s0 h y0 y1 y2  m17 J Sm D
  have el2 := jfullL l2
  have el4 := jfullL l4
  unfold d_X4_share_r107d_83 at D
  refine x_ldc2 (v := (-1)) rfl z_4_137 ?_
  refine x_goto (tgt := 93) rfl rfl ?_
  exact jX.sub (jsb_c rfl (jsb_c rfl (jsb_c rfl (jsb_c rfl (jsb_c rfl jsb_n))))) (ct_X4_share_r107d_5000093 hD hQ k17 l1 l2 l4 l6 s0 h (jr_of rfl (by omega)) (jr_of rfl (by omega)) (jr_of rfl (by omega)) (by omega) J Sm D)
set_option maxRecDepth 100000 in
set_option maxHeartbeats 4000000 in
theorem ct_X4_share_r107d_60 {Dy : jH → Prop} {h0 : jH} {Q : Option Value → jH → Prop} {dr : jW} {K17 : Int → Int → Int → Int → jW → jW} {R17 : Int} (hD : jDk Dy) (hQ : ∀ hx9, jJ jSgX Dy hx9 → jSm fp_X4_share_r107d h0 hx9 → dr = vw hx9 → Q none hx9) (k17 : ∀ (l1 : Int32) (l2 : Int64) (l4 : Int64) (l6 : Int32) (h : jH), 40 - l6.toInt < R17 → 0 ≤ l1.toInt ∧ l1.toInt ≤ 1000000 → 0 ≤ l6.toInt ∧ l6.toInt ≤ 40 → jJ jSgX Dy h → jSm fp_X4_share_r107d h0 h → K17 l1.toInt l2.toInt l4.toInt l6.toInt (vw h) = dr → jX m_X4_share 3 0 0 17 [(0, .ref 107), (1, .int l1), (2, .long l2), (4, .long l4), (6, .int l6)] [] h 0 0 Q) : ∀ (l1 : Int32) (l2 : Int64) (l4 : Int64) (l6 : Int32) (l7 : Int64) (s0 : Int32) (s1 : Int32) (h : jH), 0 ≤ l1.toInt ∧ l1.toInt ≤ 1000000 → 0 ≤ l6.toInt ∧ l6.toInt ≤ 39 → 0 ≤ s1.toInt ∧ s1.toInt ≤ 39 → l2.toInt ≠ 0 → 40 - l6.toInt ≤ R17 → jJ jSgX Dy h → jSm fp_X4_share_r107d h0 h → d_X4_share_r107d_60 K17  l1.toInt l2.toInt l4.toInt l6.toInt l7.toInt s0.toInt s1.toInt (vw h) = dr → jX m_X4_share 3 0 0 60 [(0, .ref 107), (1, .int l1), (2, .long l2), (4, .long l4), (6, .int l6), (7, .long l7)] [.int s0, .int s1, .ref 108] h 0 0 Q := by
  intro l1 l2 l4 l6 l7 s0 s1 h y0 y1 y2 y3  m17 J Sm D
  have el2 := jfullL l2
  have el4 := jfullL l4
  have el7 := jfullL l7
  have es0 := jfull s0
  unfold d_X4_share_r107d_60 at D
  refine z_iast (N := 40) (l := 0) (u := 40) (w := s0.toInt) rfl hD J Sm rfl rfl rfl (by omega) rfl (wr_108) rfl (fun h w1 J Sm => ?_)
  rw [vww w1 (show s1.toInt = s1.toInt from by omega) (show s0.toInt = s0.toInt from by omega)] at D
  refine x_aloadn (x := 107) rfl rfl ?_
  refine z_getR (N := 18) (b := 110) 4 5 rfl f_4_18 rfl J rfl 13701 ⟨rfl, rfl⟩ rfl ?_
  refine x_iload (x := l6) rfl rfl ?_
  refine x_lloadn (x := l2) rfl rfl ?_
  refine x_lconst (v := 0) rfl kl_0 ?_
  refine z_lcmp rfl rfl jkl_0 (fun v2 ev2 => ?_)
  refine x_ifeq (tgt := 83) rfl rfl (ti_eq rfl jk_0 ⟨fun c3 => ?_, fun c3 => ?_⟩)
  ·
    rw [if_pos (by omega)] at D
    exact jX.sub (jsb_c rfl (jsb_c rfl (jsb_c rfl (jsb_c rfl (jsb_c rfl jsb_n))))) (ct_X4_share_r107d_83 hD hQ k17 l1 l2 l4 l6 l6 h (jr_of rfl (by omega)) (jr_of rfl (by omega)) (jr_of rfl (by omega)) (by omega) J Sm D)
  ·
    rw [if_neg (by omega)] at D
    refine x_aloadn (x := 107) rfl rfl ?_
    refine z_getR (N := 18) (b := 109) 4 4 rfl f_4_15 rfl J rfl 13700 ⟨rfl, rfl⟩ rfl ?_
    refine x_iload (x := l6) rfl rfl ?_
    refine z_iald0 (N := 40) rfl J rfl rfl (by omega) (fun v4 qv4 => ?_)
    have ev4 := jfull v4
    try rw [vrd (jmb_w w1 qv4 rfl) (show l6.toInt = l6.toInt from by omega)] at D
    refine x_ifne (tgt := 89) rfl rfl (ti_ne rfl jk_0 ⟨fun c5 => ?_, fun c5 => ?_⟩)
    ·
      rw [if_neg (by omega)] at D
      refine x_lload (x := l7) rfl rfl ?_
      refine x_lloadn (x := l2) rfl rfl ?_
      refine z_lremW rfl rfl rfl (by omega) (fun v6 ev6 => ?_)
      have fv6 := jfullL v6
      try rw [← ev6] at D
      exact jX.sub (jsb_c rfl (jsb_c rfl (jsb_c rfl (jsb_c rfl (jsb_c rfl jsb_n))))) (ct_X4_share_r107d_93 hD hQ k17 l1 l2 l4 l6 v6 l6 h (jr_of rfl (by omega)) (jr_of rfl (by omega)) (jr_of rfl (by omega)) (by omega) (by omega) J Sm D)
    ·
      rw [if_pos (by omega)] at D
      exact jX.sub (jsb_c rfl (jsb_c rfl (jsb_c rfl (jsb_c rfl (jsb_c rfl jsb_n))))) (ct_X4_share_r107d_83 hD hQ k17 l1 l2 l4 l6 l6 h (jr_of rfl (by omega)) (jr_of rfl (by omega)) (jr_of rfl (by omega)) (by omega) J Sm D)
set_option maxRecDepth 100000 in
set_option maxHeartbeats 4000000 in
theorem ct_X4_share_r107d_200060 {Dy : jH → Prop} {h0 : jH} {Q : Option Value → jH → Prop} {dr : jW} {K17 : Int → Int → Int → Int → jW → jW} {R17 : Int} (hD : jDk Dy) (hQ : ∀ hx9, jJ jSgX Dy hx9 → jSm fp_X4_share_r107d h0 hx9 → dr = vw hx9 → Q none hx9) (k17 : ∀ (l1 : Int32) (l2 : Int64) (l4 : Int64) (l6 : Int32) (h : jH), 40 - l6.toInt < R17 → 0 ≤ l1.toInt ∧ l1.toInt ≤ 1000000 → 0 ≤ l6.toInt ∧ l6.toInt ≤ 40 → jJ jSgX Dy h → jSm fp_X4_share_r107d h0 h → K17 l1.toInt l2.toInt l4.toInt l6.toInt (vw h) = dr → jX m_X4_share 3 0 0 17 [(0, .ref 107), (1, .int l1), (2, .long l2), (4, .long l4), (6, .int l6)] [] h 0 0 Q) : ∀ (l1 : Int32) (l2 : Int64) (l4 : Int64) (l6 : Int32) (l7 : Int64) (s1 : Int32) (h : jH), 0 ≤ l1.toInt ∧ l1.toInt ≤ 1000000 → 0 ≤ l2.toInt ∧ l2.toInt ≤ 0 → 0 ≤ l6.toInt ∧ l6.toInt ≤ 39 → 0 ≤ s1.toInt ∧ s1.toInt ≤ 39 → 40 - l6.toInt ≤ R17 → jJ jSgX Dy h → jSm fp_X4_share_r107d h0 h → d_X4_share_r107d_200060 K17  l1.toInt l2.toInt l4.toInt l6.toInt l7.toInt s1.toInt (vw h) = dr → jX m_X4_share 3 0 0 60 [(0, .ref 107), (1, .int l1), (2, .long l2), (4, .long l4), (6, .int l6), (7, .long l7)] [.int 0, .int s1, .ref 108] h 0 0 Q := by
  intro l1 l2 l4 l6 l7 s1 h y0 y1 y2 y3  m17 J Sm D
  have el4 := jfullL l4
  have el7 := jfullL l7
  unfold d_X4_share_r107d_200060 at D
  refine z_iast (N := 40) (l := 0) (u := 40) (w := 0) rfl hD J Sm rfl rfl rfl (by omega) jk_0 (wr_108) rfl (fun h w1 J Sm => ?_)
  rw [vww w1 (show s1.toInt = s1.toInt from by omega) (show 0 = (0 : Int32).toInt from by have := jk_0; omega)] at D
  refine x_aloadn (x := 107) rfl rfl ?_
  refine z_getR (N := 18) (b := 110) 4 5 rfl f_4_18 rfl J rfl 13701 ⟨rfl, rfl⟩ rfl ?_
  refine x_iload (x := l6) rfl rfl ?_
  refine x_lloadn (x := l2) rfl rfl ?_
  refine x_lconst (v := 0) rfl kl_0 ?_
  refine z_lcmp rfl rfl jkl_0 (fun v2 ev2 => ?_)
  refine x_ifeq (tgt := 83) rfl rfl (ti_eq rfl jk_0 (br_t (by omega) ?_))
  exact jX.sub (jsb_c rfl (jsb_c rfl (jsb_c rfl (jsb_c rfl (jsb_c rfl jsb_n))))) (ct_X4_share_r107d_83 hD hQ k17 l1 l2 l4 l6 l6 h (jr_of rfl (by omega)) (jr_of rfl (by omega)) (jr_of rfl (by omega)) (by omega) J Sm D)
set_option maxRecDepth 100000 in
set_option maxHeartbeats 4000000 in
theorem ct_X4_share_r107d_17 {Dy : jH → Prop} {h0 : jH} {Q : Option Value → jH → Prop} {dr : jW} (hD : jDk Dy) (hQ : ∀ hx9, jJ jSgX Dy hx9 → jSm fp_X4_share_r107d h0 hx9 → dr = vw hx9 → Q none hx9) : ∀ r : Nat, ∀ (l1 : Int32) (l2 : Int64) (l4 : Int64) (l6 : Int32) (h : jH), 40 - l6.toInt < (r : Int) → 0 ≤ l1.toInt ∧ l1.toInt ≤ 1000000 → 0 ≤ l6.toInt ∧ l6.toInt ≤ 40 → jJ jSgX Dy h → jSm fp_X4_share_r107d h0 h → d_X4_share_r107d_17 r l1.toInt l2.toInt l4.toInt l6.toInt (vw h) = dr → jX m_X4_share 3 0 0 17 [(0, .ref 107), (1, .int l1), (2, .long l2), (4, .long l4), (6, .int l6)] [] h 0 0 Q := by
  intro r
  induction r with
  | zero =>
    intro l1 l2 l4 l6 h hm y0 y1   J Sm D
    exfalso
    have el2 := jfullL l2
    have el4 := jfullL l4
    omega
  | succ r ih =>
    intro l1 l2 l4 l6 h hm y0 y1   J Sm D
    have el2 := jfullL l2
    have el4 := jfullL l4
    rw [d_X4_share_r107d_17.eq_2] at D
    refine x_iload (x := l6) rfl rfl ?_
    refine x_aloadn (x := 107) rfl rfl ?_
    refine x_inv (N := m_X4_houses) (As := []) (b := 107) (st := [.int l6]) (dx9 := 2) (mc := 0) (ms := 0) (host := "") 4 rfl t_X4_houses ⟨Or.inl q_4_107, i_X4_houses.1, i_X4_houses.2⟩ ⟨by decide, rfl⟩ (congrArg Prod.fst (J.1.1 107 (4, 18) rfl)) rfl (by decide) rfl rfl ⟨by decide, by decide⟩ (jC.of rfl k_X4_houses rfl ?_)
    show jX m_X4_houses 2 0 0 0 [(0, .ref 107)] [] _ 0 0 _
    refine x_bipush (v := 40) rfl kb_40 ?_
    refine x_aloadn (x := 107) rfl rfl ?_
    refine z_getR (N := 18) (b := 32) 4 0 rfl f_4_59 rfl J rfl 13696 ⟨rfl, rfl⟩ rfl ?_
    refine z_getR (N := 20) (b := 49) 1 8 rfl f_4_71 rfl J rfl 4104 ⟨rfl, rfl⟩ rfl ?_
    refine z_getI (N := 4) 8 3 rfl f_4_77 rfl J rfl sg_49_3_4_1_0_1 (fun v1 qv1 ev1 => ?_)
    try rw [vrf qv1] at D
    refine z_mmin rfl q_4_82 (by decide) rfl jk_40 rfl (fun v2 ev2 => ?_)
    refine x_iret rfl rfl ?_
    show jX m_X4_share 3 0 0 23 [(0, .ref 107), (1, .int l1), (2, .long l2), (4, .long l4), (6, .int l6)] [.int v2, .int l6] _ 0 0 _
    refine x_icge (tgt := 113) rfl rfl (ti_ge rfl rfl ⟨fun c3 => ?_, fun c3 => ?_⟩)
    ·
      rw [if_pos (by omega)] at D
      refine x_iconst (v := 0) rfl ki_0 ?_
      refine x_istore (lsx9 := [(6, .int 0), (0, .ref 107), (1, .int l1), (2, .long l2), (4, .long l4)]) rfl rfl rfl ?_
      exact jX.sub (jsb_c rfl (jsb_c rfl (jsb_c rfl jsb_n))) (ct_X4_share_r107d_116 hD hQ  41 l4 0 h (by have := jk_0; omega) (jr_of jk_0 (by omega)) J Sm (by rw [jk_0]; exact D))
    ·
      rw [if_neg (by omega)] at D
      refine x_iloadn (x := l1) rfl rfl ?_
      refine z_i2l rfl rfl (fun v4 ev4 => ?_)
      refine x_aloadn (x := 107) rfl rfl ?_
      refine z_getR (N := 18) (b := 109) 4 4 rfl f_4_15 rfl J rfl 13700 ⟨rfl, rfl⟩ rfl ?_
      refine x_iload (x := l6) rfl rfl ?_
      refine z_iald0 (N := 40) rfl J rfl rfl (by omega) (fun v5 qv5 => ?_)
      have ev5 := jfull v5
      try rw [vrd qv5 (show l6.toInt = l6.toInt from by omega)] at D
      refine z_i2l rfl rfl (fun v6 ev6 => ?_)
      refine z_lmulW rfl rfl rfl (fun v7 ev7 => ?_)
      have fv7 := jfullL v7
      try rw [show l1.toInt = v4.toInt from by omega] at D
      try rw [show v5.toInt = v6.toInt from by omega] at D
      try rw [← ev7] at D
      refine x_lstore (lsx9 := [(7, .long v7), (0, .ref 107), (1, .int l1), (2, .long l2), (4, .long l4), (6, .int l6)]) rfl rfl rfl ?_
      refine x_aloadn (x := 107) rfl rfl ?_
      refine z_getR (N := 18) (b := 108) 4 3 rfl f_4_9 rfl J rfl 13699 ⟨rfl, rfl⟩ rfl ?_
      refine x_iload (x := l6) rfl rfl ?_
      refine x_lloadn (x := l2) rfl rfl ?_
      refine x_lconst (v := 0) rfl kl_0 ?_
      refine z_lcmp rfl rfl jkl_0 (fun v8 ev8 => ?_)
      refine x_ifne (tgt := 55) rfl rfl (ti_ne rfl jk_0 ⟨fun c9 => ?_, fun c9 => ?_⟩)
      ·
        rw [if_neg (by omega)] at D
        refine x_lload (x := v7) rfl rfl ?_
        refine x_lloadn (x := l2) rfl rfl ?_
        refine z_ldivW rfl rfl rfl (by omega) (fun v10 ev10 => ?_)
        have fv10 := jfullL v10
        try rw [← ev10] at D
        refine z_l2iD rfl rfl (fun v11 ev11 => ?_)
        have fv11 := jfull v11
        try rw [← ev11] at D
        try rw [show v4.toInt = l1.toInt from by omega] at D
        exact jX.sub (jsb_c rfl (jsb_c rfl (jsb_c rfl (jsb_c rfl (jsb_c rfl (jsb_c rfl jsb_n)))))) (ct_X4_share_r107d_60 hD hQ ih l1 l2 l4 l6 v7 v11 l6 h (jr_of rfl (by omega)) (jr_of rfl (by omega)) (jr_of rfl (by omega)) (by omega) (by omega) J Sm D)
      ·
        rw [if_pos (by omega)] at D
        refine x_iconst (v := 0) rfl ki_0 ?_
        refine x_goto (tgt := 60) rfl rfl ?_
        try rw [show v4.toInt = l1.toInt from by omega] at D
        exact jX.sub (jsb_c rfl (jsb_c rfl (jsb_c rfl (jsb_c rfl (jsb_c rfl (jsb_c rfl jsb_n)))))) (ct_X4_share_r107d_200060 hD hQ ih l1 l2 l4 l6 v7 l6 h (jr_of rfl (by omega)) (jr_ofl rfl (by omega)) (jr_of rfl (by omega)) (jr_of rfl (by omega)) (by omega) J Sm D)
set_option maxRecDepth 100000 in
set_option maxHeartbeats 4000000 in
theorem ct_X4_share_r107d_12 {Dy : jH → Prop} {h0 : jH} {Q : Option Value → jH → Prop} {dr : jW} (hD : jDk Dy) (hQ : ∀ hx9, jJ jSgX Dy hx9 → jSm fp_X4_share_r107d h0 hx9 → dr = vw hx9 → Q none hx9) : ∀ (l1 : Int32) (l2 : Int64) (s0 : Int64) (h : jH), 0 ≤ l1.toInt ∧ l1.toInt ≤ 1000000 → 0 ≤ s0.toInt ∧ s0.toInt ≤ 1000000 → l2.toInt ≠ 0 → jJ jSgX Dy h → jSm fp_X4_share_r107d h0 h → d_X4_share_r107d_12  l1.toInt l2.toInt s0.toInt (vw h) = dr → jX m_X4_share 3 0 0 12 [(0, .ref 107), (1, .int l1), (2, .long l2)] [.long s0] h 0 0 Q := by
  intro l1 l2 s0 h y0 y1 y2   J Sm D
  have el2 := jfullL l2
  unfold d_X4_share_r107d_12 at D
  refine x_lstore (lsx9 := [(4, .long s0), (0, .ref 107), (1, .int l1), (2, .long l2)]) rfl rfl rfl ?_
  refine x_iconst (v := 0) rfl ki_0 ?_
  refine x_istore (lsx9 := [(6, .int 0), (4, .long s0), (0, .ref 107), (1, .int l1), (2, .long l2)]) rfl rfl rfl ?_
  exact jX.sub (jsb_c rfl (jsb_c rfl (jsb_c rfl (jsb_c rfl (jsb_c rfl jsb_n))))) (ct_X4_share_r107d_17 hD hQ  41 l1 l2 s0 0 h (by have := jk_0; omega) (jr_of rfl (by omega)) (jr_of jk_0 (by omega)) J Sm (by rw [jk_0]; exact D))
set_option maxRecDepth 100000 in
set_option maxHeartbeats 4000000 in
theorem ct_X4_share_r107d_5000012 {Dy : jH → Prop} {h0 : jH} {Q : Option Value → jH → Prop} {dr : jW} (hD : jDk Dy) (hQ : ∀ hx9, jJ jSgX Dy hx9 → jSm fp_X4_share_r107d h0 hx9 → dr = vw hx9 → Q none hx9) : ∀ (l1 : Int32) (l2 : Int64) (h : jH), 0 ≤ l1.toInt ∧ l1.toInt ≤ 1000000 → 0 ≤ l2.toInt ∧ l2.toInt ≤ 0 → jJ jSgX Dy h → jSm fp_X4_share_r107d h0 h → d_X4_share_r107d_5000012  l1.toInt l2.toInt (vw h) = dr → jX m_X4_share 3 0 0 12 [(0, .ref 107), (1, .int l1), (2, .long l2)] [.long 0] h 0 0 Q := by
  intro l1 l2 h y0 y1   J Sm D
  unfold d_X4_share_r107d_5000012 at D
  refine x_lstore (lsx9 := [(4, .long 0), (0, .ref 107), (1, .int l1), (2, .long l2)]) rfl rfl rfl ?_
  refine x_iconst (v := 0) rfl ki_0 ?_
  refine x_istore (lsx9 := [(6, .int 0), (4, .long 0), (0, .ref 107), (1, .int l1), (2, .long l2)]) rfl rfl rfl ?_
  exact jX.sub (jsb_c rfl (jsb_c rfl (jsb_c rfl (jsb_c rfl (jsb_c rfl jsb_n))))) (ct_X4_share_r107d_17 hD hQ  41 l1 l2 0 0 h (by have := jk_0; omega) (jr_of rfl (by omega)) (jr_of jk_0 (by omega)) J Sm (by rw [jkl_0, jk_0]; exact D))
set_option maxRecDepth 100000 in
set_option maxHeartbeats 4000000 in
theorem sf_X4_share_r107d {Dy : jH → Prop} {h : jH} {Q : Option Value → jH → Prop} {dr : jW} {a1 : Int32} {a2 : Int64} (y1 : 0 ≤ a1.toInt ∧ a1.toInt ≤ 1000000) (hD : jDk Dy) (J : jJ jSgX Dy h) (D : d_X4_share_r107d a1.toInt a2.toInt (vw h) = dr) (hQ : ∀ hx9, jJ jSgX Dy hx9 → jSm fp_X4_share_r107d h hx9 → dr = vw hx9 → Q none hx9) : jC m_X4_share 3 0 0 [.ref 107, .int a1, .long a2] h Q := by
  refine jC.of rfl k_X4_share rfl ?_
  have Sm := jSm_rf fp_X4_share_r107d h
  have ea2 := jfullL a2
  show jX m_X4_share 3 0 0 0 [(0, .ref 107), (1, .int a1), (2, .long a2)] [] _ 0 0 _
  unfold d_X4_share_r107d at D
  refine x_lloadn (x := a2) rfl rfl ?_
  refine x_lconst (v := 0) rfl kl_0 ?_
  refine z_lcmp rfl rfl jkl_0 (fun v1 ev1 => ?_)
  refine x_ifne (tgt := 10) rfl rfl (ti_ne rfl jk_0 ⟨fun c2 => ?_, fun c2 => ?_⟩)
  ·
    rw [if_neg (by omega)] at D
    refine x_iloadn (x := a1) rfl rfl ?_
    refine z_i2l rfl rfl (fun v3 ev3 => ?_)
    try rw [show a1.toInt = v3.toInt from by omega] at D
    exact jX.sub (jsb_c rfl (jsb_c rfl (jsb_c rfl jsb_n))) (ct_X4_share_r107d_12 hD hQ  a1 a2 v3 h (jr_of rfl (by omega)) (jr_ofl rfl (by omega)) (by omega) J Sm (by rw [show a1.toInt = v3.toInt from by omega]; exact D))
  ·
    rw [if_pos (by omega)] at D
    refine x_lconst (v := 0) rfl kl_0 ?_
    refine x_goto (tgt := 12) rfl rfl ?_
    exact jX.sub (jsb_c rfl (jsb_c rfl (jsb_c rfl jsb_n))) (ct_X4_share_r107d_5000012 hD hQ  a1 a2 h (jr_of rfl (by omega)) (jr_ofl rfl (by omega)) J Sm D)
def fp_X8_at_r53_c1d : jFp := []
set_option maxRecDepth 100000 in
set_option maxHeartbeats 4000000 in
theorem ct_X8_at_r53_c1d_24 {Dy : jH → Prop} {h0 : jH} {Q : Option Value → jH → Prop} {dr : Int} (hD : jDk Dy) (hQ : ∀ (v : Int32) hx9, 0 ≤ v.toInt ∧ v.toInt ≤ 399 → jJ jSgX Dy hx9 → jSm fp_X8_at_r53_c1d h0 hx9 → dr = v.toInt → vw hx9 = vw h0 → Q (some (.int v)) hx9) : ∀ (h : jH), jJ jSgX Dy h → jSm fp_X8_at_r53_c1d h0 h → d_X8_at_r53_c1d_24  (vw h) = dr → vw h = vw h0 → jX m_X8_at 1 0 0 24 [] [] h 0 0 Q := by
  intro  h    J Sm D EV
  unfold d_X8_at_r53_c1d_24 at D
  refine x_iconst (v := 0) rfl ki_0 ?_
  refine x_iret rfl rfl ?_
  exact hQ _ _ (jr_of jk_0 (by omega)) J Sm (D.symm.trans (show 0 = (0 : Int32).toInt from by have := jk_0; omega)) EV
set_option maxRecDepth 100000 in
set_option maxHeartbeats 4000000 in
theorem sf_X8_at_r53_c1d {Dy : jH → Prop} {h : jH} {Q : Option Value → jH → Prop} {dr : Int} {a1 : Int32} (hD : jDk Dy) (J : jJ jSgX Dy h) (D : d_X8_at_r53_c1d a1.toInt (vw h) = dr) (hQ : ∀ (v : Int32) hx9, 0 ≤ v.toInt ∧ v.toInt ≤ 399 → jJ jSgX Dy hx9 → jSm fp_X8_at_r53_c1d h hx9 → dr = v.toInt → vw hx9 = vw h → Q (some (.int v)) hx9) : jC m_X8_at 1 0 0 [.ref 53, .int a1, .int 1] h Q := by
  refine jC.of rfl k_X8_at rfl ?_
  have Sm := jSm_rf fp_X8_at_r53_c1d h
  have ea1 := jfull a1
  show jX m_X8_at 1 0 0 0 [(0, .ref 53), (1, .int a1), (2, .int 1)] [] _ 0 0 _
  unfold d_X8_at_r53_c1d at D
  have EV : vw h = vw h := rfl
  refine x_iloadn (x := a1) rfl rfl ?_
  refine x_iflt (tgt := 24) rfl rfl (ti_lt rfl jk_0 ⟨fun c1 => ?_, fun c1 => ?_⟩)
  ·
    rw [if_pos (by omega)] at D
    exact jX.sub jsb_n (ct_X8_at_r53_c1d_24 hD hQ  h J Sm D EV)
  ·
    rw [if_neg (by omega)] at D
    refine x_iloadn (x := a1) rfl rfl ?_
    refine x_aloadn (x := 53) rfl rfl ?_
    refine z_getI (N := 4) 8 3 rfl f_8_7 rfl J rfl sg_53_3_4_1_0_1 (fun v2 qv2 ev2 => ?_)
    try rw [vrf qv2] at D
    refine x_icge (tgt := 24) rfl rfl (ti_ge rfl rfl ⟨fun c3 => ?_, fun c3 => ?_⟩)
    ·
      rw [if_pos (by omega)] at D
      exact jX.sub jsb_n (ct_X8_at_r53_c1d_24 hD hQ  h J Sm D EV)
    ·
      rw [if_neg (by omega)] at D
      refine x_iloadn (x := 1) rfl rfl ?_
      refine x_iflt (tgt := 24) rfl rfl (ti_lt jk_1 jk_0 (br_f (by omega) ?_))
      refine x_iloadn (x := 1) rfl rfl ?_
      refine x_aloadn (x := 53) rfl rfl ?_
      refine z_getC (N := 4) (v := 4) 8 0 rfl f_8_19 rfl J rfl sg_53_0_1_1_0_1 jk_4 ?_
      refine x_iclt (tgt := 26) rfl rfl (ti_lt jk_1 jk_4 (br_t (by omega) ?_))
      refine x_aloadn (x := 53) rfl rfl ?_
      refine z_getR (N := 4) (b := 54) 8 2 rfl f_8_25 rfl J rfl 6786 ⟨rfl, rfl⟩ rfl ?_
      refine x_iloadn (x := a1) rfl rfl ?_
      refine x_aloadn (x := 53) rfl rfl ?_
      refine z_getC (N := 4) (v := 4) 8 0 rfl f_8_19 rfl J rfl sg_53_0_1_1_0_1 jk_4 ?_
      refine z_imul rfl rfl jk_4 (by omega) (fun v4 ev4 => ?_)
      refine x_iloadn (x := 1) rfl rfl ?_
      refine z_iadd rfl rfl jk_1 (by omega) (fun v5 ev5 => ?_)
      refine z_iald (N := 160) rfl J rfl sg_54_0_160_4_1_2 rfl (by omega) (fun v6 qv6 ev6 => ?_)
      try rw [vrd qv6 (show ((a1.toInt * 4) + 1) = v5.toInt from by omega)] at D
      refine x_iret rfl rfl ?_
      exact hQ _ _ (jr_of rfl (by omega)) J Sm (D.symm.trans (show v6.toInt = v6.toInt from by omega)) EV
def fp_X8_at_r53_c2d : jFp := []
set_option maxRecDepth 100000 in
set_option maxHeartbeats 4000000 in
theorem ct_X8_at_r53_c2d_24 {Dy : jH → Prop} {h0 : jH} {Q : Option Value → jH → Prop} {dr : Int} (hD : jDk Dy) (hQ : ∀ (v : Int32) hx9, 0 ≤ v.toInt ∧ v.toInt ≤ 2 → jJ jSgX Dy hx9 → jSm fp_X8_at_r53_c2d h0 hx9 → dr = v.toInt → vw hx9 = vw h0 → Q (some (.int v)) hx9) : ∀ (h : jH), jJ jSgX Dy h → jSm fp_X8_at_r53_c2d h0 h → d_X8_at_r53_c2d_24  (vw h) = dr → vw h = vw h0 → jX m_X8_at 1 0 0 24 [] [] h 0 0 Q := by
  intro  h    J Sm D EV
  unfold d_X8_at_r53_c2d_24 at D
  refine x_iconst (v := 0) rfl ki_0 ?_
  refine x_iret rfl rfl ?_
  exact hQ _ _ (jr_of jk_0 (by omega)) J Sm (D.symm.trans (show 0 = (0 : Int32).toInt from by have := jk_0; omega)) EV
set_option maxRecDepth 100000 in
set_option maxHeartbeats 4000000 in
theorem sf_X8_at_r53_c2d {Dy : jH → Prop} {h : jH} {Q : Option Value → jH → Prop} {dr : Int} {a1 : Int32} (hD : jDk Dy) (J : jJ jSgX Dy h) (D : d_X8_at_r53_c2d a1.toInt (vw h) = dr) (hQ : ∀ (v : Int32) hx9, 0 ≤ v.toInt ∧ v.toInt ≤ 2 → jJ jSgX Dy hx9 → jSm fp_X8_at_r53_c2d h hx9 → dr = v.toInt → vw hx9 = vw h → Q (some (.int v)) hx9) : jC m_X8_at 1 0 0 [.ref 53, .int a1, .int 2] h Q := by
  refine jC.of rfl k_X8_at rfl ?_
  have Sm := jSm_rf fp_X8_at_r53_c2d h
  have ea1 := jfull a1
  show jX m_X8_at 1 0 0 0 [(0, .ref 53), (1, .int a1), (2, .int 2)] [] _ 0 0 _
  unfold d_X8_at_r53_c2d at D
  have EV : vw h = vw h := rfl
  refine x_iloadn (x := a1) rfl rfl ?_
  refine x_iflt (tgt := 24) rfl rfl (ti_lt rfl jk_0 ⟨fun c1 => ?_, fun c1 => ?_⟩)
  ·
    rw [if_pos (by omega)] at D
    exact jX.sub jsb_n (ct_X8_at_r53_c2d_24 hD hQ  h J Sm D EV)
  ·
    rw [if_neg (by omega)] at D
    refine x_iloadn (x := a1) rfl rfl ?_
    refine x_aloadn (x := 53) rfl rfl ?_
    refine z_getI (N := 4) 8 3 rfl f_8_7 rfl J rfl sg_53_3_4_1_0_1 (fun v2 qv2 ev2 => ?_)
    try rw [vrf qv2] at D
    refine x_icge (tgt := 24) rfl rfl (ti_ge rfl rfl ⟨fun c3 => ?_, fun c3 => ?_⟩)
    ·
      rw [if_pos (by omega)] at D
      exact jX.sub jsb_n (ct_X8_at_r53_c2d_24 hD hQ  h J Sm D EV)
    ·
      rw [if_neg (by omega)] at D
      refine x_iloadn (x := 2) rfl rfl ?_
      refine x_iflt (tgt := 24) rfl rfl (ti_lt jk_2 jk_0 (br_f (by omega) ?_))
      refine x_iloadn (x := 2) rfl rfl ?_
      refine x_aloadn (x := 53) rfl rfl ?_
      refine z_getC (N := 4) (v := 4) 8 0 rfl f_8_19 rfl J rfl sg_53_0_1_1_0_1 jk_4 ?_
      refine x_iclt (tgt := 26) rfl rfl (ti_lt jk_2 jk_4 (br_t (by omega) ?_))
      refine x_aloadn (x := 53) rfl rfl ?_
      refine z_getR (N := 4) (b := 54) 8 2 rfl f_8_25 rfl J rfl 6786 ⟨rfl, rfl⟩ rfl ?_
      refine x_iloadn (x := a1) rfl rfl ?_
      refine x_aloadn (x := 53) rfl rfl ?_
      refine z_getC (N := 4) (v := 4) 8 0 rfl f_8_19 rfl J rfl sg_53_0_1_1_0_1 jk_4 ?_
      refine z_imul rfl rfl jk_4 (by omega) (fun v4 ev4 => ?_)
      refine x_iloadn (x := 2) rfl rfl ?_
      refine z_iadd rfl rfl jk_2 (by omega) (fun v5 ev5 => ?_)
      refine z_iald (N := 160) rfl J rfl sg_54_0_160_4_2_3 rfl (by omega) (fun v6 qv6 ev6 => ?_)
      try rw [vrd qv6 (show ((a1.toInt * 4) + 2) = v5.toInt from by omega)] at D
      refine x_iret rfl rfl ?_
      exact hQ _ _ (jr_of rfl (by omega)) J Sm (D.symm.trans (show v6.toInt = v6.toInt from by omega)) EV
def fp_X8_at_r53_c3d : jFp := []
set_option maxRecDepth 100000 in
set_option maxHeartbeats 4000000 in
theorem ct_X8_at_r53_c3d_24 {Dy : jH → Prop} {h0 : jH} {Q : Option Value → jH → Prop} {dr : Int} (hD : jDk Dy) (hQ : ∀ (v : Int32) hx9, 0 ≤ v.toInt ∧ v.toInt ≤ 1000000 → jJ jSgX Dy hx9 → jSm fp_X8_at_r53_c3d h0 hx9 → dr = v.toInt → vw hx9 = vw h0 → Q (some (.int v)) hx9) : ∀ (h : jH), jJ jSgX Dy h → jSm fp_X8_at_r53_c3d h0 h → d_X8_at_r53_c3d_24  (vw h) = dr → vw h = vw h0 → jX m_X8_at 1 0 0 24 [] [] h 0 0 Q := by
  intro  h    J Sm D EV
  unfold d_X8_at_r53_c3d_24 at D
  refine x_iconst (v := 0) rfl ki_0 ?_
  refine x_iret rfl rfl ?_
  exact hQ _ _ (jr_of jk_0 (by omega)) J Sm (D.symm.trans (show 0 = (0 : Int32).toInt from by have := jk_0; omega)) EV
set_option maxRecDepth 100000 in
set_option maxHeartbeats 4000000 in
theorem sf_X8_at_r53_c3d {Dy : jH → Prop} {h : jH} {Q : Option Value → jH → Prop} {dr : Int} {a1 : Int32} (hD : jDk Dy) (J : jJ jSgX Dy h) (D : d_X8_at_r53_c3d a1.toInt (vw h) = dr) (hQ : ∀ (v : Int32) hx9, 0 ≤ v.toInt ∧ v.toInt ≤ 1000000 → jJ jSgX Dy hx9 → jSm fp_X8_at_r53_c3d h hx9 → dr = v.toInt → vw hx9 = vw h → Q (some (.int v)) hx9) : jC m_X8_at 1 0 0 [.ref 53, .int a1, .int 3] h Q := by
  refine jC.of rfl k_X8_at rfl ?_
  have Sm := jSm_rf fp_X8_at_r53_c3d h
  have ea1 := jfull a1
  show jX m_X8_at 1 0 0 0 [(0, .ref 53), (1, .int a1), (2, .int 3)] [] _ 0 0 _
  unfold d_X8_at_r53_c3d at D
  have EV : vw h = vw h := rfl
  refine x_iloadn (x := a1) rfl rfl ?_
  refine x_iflt (tgt := 24) rfl rfl (ti_lt rfl jk_0 ⟨fun c1 => ?_, fun c1 => ?_⟩)
  ·
    rw [if_pos (by omega)] at D
    exact jX.sub jsb_n (ct_X8_at_r53_c3d_24 hD hQ  h J Sm D EV)
  ·
    rw [if_neg (by omega)] at D
    refine x_iloadn (x := a1) rfl rfl ?_
    refine x_aloadn (x := 53) rfl rfl ?_
    refine z_getI (N := 4) 8 3 rfl f_8_7 rfl J rfl sg_53_3_4_1_0_1 (fun v2 qv2 ev2 => ?_)
    try rw [vrf qv2] at D
    refine x_icge (tgt := 24) rfl rfl (ti_ge rfl rfl ⟨fun c3 => ?_, fun c3 => ?_⟩)
    ·
      rw [if_pos (by omega)] at D
      exact jX.sub jsb_n (ct_X8_at_r53_c3d_24 hD hQ  h J Sm D EV)
    ·
      rw [if_neg (by omega)] at D
      refine x_iloadn (x := 3) rfl rfl ?_
      refine x_iflt (tgt := 24) rfl rfl (ti_lt jk_3 jk_0 (br_f (by omega) ?_))
      refine x_iloadn (x := 3) rfl rfl ?_
      refine x_aloadn (x := 53) rfl rfl ?_
      refine z_getC (N := 4) (v := 4) 8 0 rfl f_8_19 rfl J rfl sg_53_0_1_1_0_1 jk_4 ?_
      refine x_iclt (tgt := 26) rfl rfl (ti_lt jk_3 jk_4 (br_t (by omega) ?_))
      refine x_aloadn (x := 53) rfl rfl ?_
      refine z_getR (N := 4) (b := 54) 8 2 rfl f_8_25 rfl J rfl 6786 ⟨rfl, rfl⟩ rfl ?_
      refine x_iloadn (x := a1) rfl rfl ?_
      refine x_aloadn (x := 53) rfl rfl ?_
      refine z_getC (N := 4) (v := 4) 8 0 rfl f_8_19 rfl J rfl sg_53_0_1_1_0_1 jk_4 ?_
      refine z_imul rfl rfl jk_4 (by omega) (fun v4 ev4 => ?_)
      refine x_iloadn (x := 3) rfl rfl ?_
      refine z_iadd rfl rfl jk_3 (by omega) (fun v5 ev5 => ?_)
      refine z_iald (N := 160) rfl J rfl sg_54_0_160_4_3_4 rfl (by omega) (fun v6 qv6 ev6 => ?_)
      try rw [vrd qv6 (show ((a1.toInt * 4) + 3) = v5.toInt from by omega)] at D
      refine x_iret rfl rfl ?_
      exact hQ _ _ (jr_of rfl (by omega)) J Sm (D.symm.trans (show v6.toInt = v6.toInt from by omega)) EV
def fp_X4_partOut_r107d : jFp := [(85, 0, 4), (98, 10, 11), (98, 11, 12), (98, 12, 13), (98, 13, 14), (98, 14, 15), (98, 15, 16), (99, 0, 30), (100, 0, 30), (101, 0, 3), (102, 0, 40), (103, 0, 40), (104, 0, 40), (105, 0, 3), (106, 0, 100), (108, 0, 40), (109, 0, 40), (110, 0, 40), (111, 0, 3)]
set_option maxRecDepth 100000 in
set_option maxHeartbeats 4000000 in
theorem ct_X4_partOut_r107d_269 {Dy : jH → Prop} {h0 : jH} {Q : Option Value → jH → Prop} {dr : jW} {K198 : Int → Int → jW → jW} {R198 : Int} (hD : jDk Dy) (hQ : ∀ hx9, jJ jSgX Dy hx9 → jSm fp_X4_partOut_r107d h0 hx9 → dr = vw hx9 → Q none hx9) (k198 : ∀ (l3 : Int32) (l7 : Int32) (g0 : Int32) (h : jH), 40 - l7.toInt < R198 → 0 ≤ l3.toInt ∧ l3.toInt ≤ 2 → 0 ≤ l7.toInt ∧ l7.toInt ≤ 40 → 0 ≤ g0.toInt ∧ g0.toInt ≤ 40 → jiv h 49 3 = g0 → jJ jSgX Dy h → jSm fp_X4_partOut_r107d h0 h → K198 l3.toInt l7.toInt (vw h) = dr → jX m_X4_partOut 7 0 0 198 [(0, .ref 107), (3, .int l3), (7, .int l7)] [] h 0 0 Q) : ∀ (l3 : Int32) (l7 : Int32) (g0 : Int32) (h : jH), 0 ≤ l3.toInt ∧ l3.toInt ≤ 2 → 0 ≤ l7.toInt ∧ l7.toInt ≤ 39 → 0 ≤ g0.toInt ∧ g0.toInt ≤ 40 → jiv h 49 3 = g0 → 40 - l7.toInt ≤ R198 → jJ jSgX Dy h → jSm fp_X4_partOut_r107d h0 h → d_X4_partOut_r107d_269 K198  l3.toInt l7.toInt (vw h) = dr → jX m_X4_partOut 7 0 0 269 [(0, .ref 107), (3, .int l3), (7, .int l7)] [] h 0 0 Q := by
  intro l3 l7 g0 h y0 y1 y2 z0 m198 J Sm D
  unfold d_X4_partOut_r107d_269 at D
  try rw [vrf z0] at D
  refine z_iinc (x := l7) (lsx9 := fun v1 => [(7, .int v1), (0, .ref 107), (3, .int l3)]) rfl rfl rfl jko_1 (by omega) rfl (fun _ => rfl) (fun v1 ev1 => ?_)
  refine x_goto (tgt := 198) rfl rfl ?_
  try rw [show (l7.toInt + 1) = v1.toInt from by omega] at D
  exact jX.sub (jsb_c rfl (jsb_c rfl (jsb_c rfl jsb_n))) (k198 l3 v1 g0 h (by omega) (jr_of rfl (by omega)) (jr_of rfl (by omega)) (jr_of rfl (by omega)) z0 J Sm D)
set_option maxRecDepth 100000 in
set_option maxHeartbeats 4000000 in
theorem ct_X4_partOut_r107d_198 {Dy : jH → Prop} {h0 : jH} {Q : Option Value → jH → Prop} {dr : jW} (hD : jDk Dy) (hQ : ∀ hx9, jJ jSgX Dy hx9 → jSm fp_X4_partOut_r107d h0 hx9 → dr = vw hx9 → Q none hx9) : ∀ r : Nat, ∀ (l3 : Int32) (l7 : Int32) (g0 : Int32) (h : jH), 40 - l7.toInt < (r : Int) → 0 ≤ l3.toInt ∧ l3.toInt ≤ 2 → 0 ≤ l7.toInt ∧ l7.toInt ≤ 40 → 0 ≤ g0.toInt ∧ g0.toInt ≤ 40 → jiv h 49 3 = g0 → jJ jSgX Dy h → jSm fp_X4_partOut_r107d h0 h → d_X4_partOut_r107d_198 r l3.toInt l7.toInt (vw h) = dr → jX m_X4_partOut 7 0 0 198 [(0, .ref 107), (3, .int l3), (7, .int l7)] [] h 0 0 Q := by
  intro r
  induction r with
  | zero =>
    intro l3 l7 g0 h hm y0 y1 y2 z0  J Sm D
    exfalso
    omega
  | succ r ih =>
    intro l3 l7 g0 h hm y0 y1 y2 z0  J Sm D
    rw [d_X4_partOut_r107d_198.eq_2] at D
    try rw [vrf z0] at D
    refine x_iload (x := l7) rfl rfl ?_
    refine x_aloadn (x := 107) rfl rfl ?_
    refine x_inv (N := m_X4_houses) (As := []) (b := 107) (st := [.int l7]) (dx9 := 6) (mc := 0) (ms := 0) (host := "") 4 rfl t_X4_houses ⟨Or.inl q_4_107, i_X4_houses.1, i_X4_houses.2⟩ ⟨by decide, rfl⟩ (congrArg Prod.fst (J.1.1 107 (4, 18) rfl)) rfl (by decide) rfl rfl ⟨by decide, by decide⟩ (jC.of rfl k_X4_houses rfl ?_)
    show jX m_X4_houses 6 0 0 0 [(0, .ref 107)] [] _ 0 0 _
    refine x_bipush (v := 40) rfl kb_40 ?_
    refine x_aloadn (x := 107) rfl rfl ?_
    refine z_getR (N := 18) (b := 32) 4 0 rfl f_4_59 rfl J rfl 13696 ⟨rfl, rfl⟩ rfl ?_
    refine z_getR (N := 20) (b := 49) 1 8 rfl f_4_71 rfl J rfl 4104 ⟨rfl, rfl⟩ rfl ?_
    refine z_getM (N := 4) (v := g0) 8 3 rfl f_4_77 rfl J rfl z0 ?_
    refine z_mmin rfl q_4_82 (by decide) rfl jk_40 rfl (fun v1 ev1 => ?_)
    refine x_iret rfl rfl ?_
    show jX m_X4_partOut 7 0 0 204 [(0, .ref 107), (3, .int l3), (7, .int l7)] [.int v1, .int l7] _ 0 0 _
    refine x_icge (tgt := 275) rfl rfl (ti_ge rfl rfl ⟨fun c2 => ?_, fun c2 => ?_⟩)
    ·
      rw [if_pos (by omega)] at D
      refine x_vret rfl rfl ?_
      exact hQ _ J Sm D.symm
    ·
      rw [if_neg (by omega)] at D
      refine x_aloadn (x := 107) rfl rfl ?_
      refine z_getR (N := 18) (b := 108) 4 3 rfl f_4_9 rfl J rfl 13699 ⟨rfl, rfl⟩ rfl ?_
      refine x_iload (x := l7) rfl rfl ?_
      refine z_iald0 (N := 40) rfl J rfl rfl (by omega) (fun v3 qv3 => ?_)
      have ev3 := jfull v3
      try rw [vrd qv3 (show l7.toInt = l7.toInt from by omega)] at D
      refine x_ifle (tgt := 269) rfl rfl (ti_le rfl jk_0 ⟨fun c4 => ?_, fun c4 => ?_⟩)
      ·
        rw [if_pos (by omega)] at D
        exact jX.sub (jsb_c rfl (jsb_c rfl (jsb_c rfl jsb_n))) (ct_X4_partOut_r107d_269 hD hQ ih l3 l7 g0 h (jr_of rfl (by omega)) (jr_of rfl (by omega)) (jr_of rfl (by omega)) z0 (by omega) J Sm D)
      ·
        rw [if_neg (by omega)] at D
        refine x_aloadn (x := 107) rfl rfl ?_
        refine z_getR (N := 18) (b := 98) 4 2 rfl f_4_67 rfl J rfl 13698 ⟨rfl, rfl⟩ rfl ?_
        refine x_iconst (v := 2) rfl ki_2 ?_
        refine x_iloadn (x := l3) rfl rfl ?_
        refine x_aloadn (x := 107) rfl rfl ?_
        refine z_getR (N := 18) (b := 98) 4 2 rfl f_4_67 rfl J rfl 13698 ⟨rfl, rfl⟩ rfl ?_
        refine z_getR (N := 16) (b := 103) 0 6 rfl f_4_114 rfl J rfl 12550 ⟨rfl, rfl⟩ rfl ?_
        refine x_iload (x := l7) rfl rfl ?_
        refine z_iald (N := 40) rfl J rfl sg_103_0_40_1_0_1 rfl (by omega) (fun v5 qv5 ev5 => ?_)
        try rw [vrd qv5 (show l7.toInt = l7.toInt from by omega)] at D
        refine x_inv (N := m_X0_weigh) (As := [.int 2, .int l3, .int v5]) (b := 98) (st := []) (dx9 := 6) (mc := 0) (ms := 0) (host := "") 0 rfl t_X0_weigh ⟨Or.inl q_4_119, i_X0_weigh.1, i_X0_weigh.2⟩ ⟨by decide, rfl⟩ (congrArg Prod.fst (J.1.1 98 (0, 16) rfl)) rfl (by decide) rfl rfl ⟨by decide, by decide⟩ (sf_X0_weigh_r98d (jr_of jk_2 (by omega)) (jr_of rfl (by omega)) (jr_of rfl (by omega)) hD J rfl  (fun v9 h ev9 J S6 X7 X8 => ?_))
        have Sm := jSm_tr rfl Sm S6
        try rw [jk_2] at X7
        try rw [jk_2] at X8
        try rw [X7] at D
        try rw [X8] at D
        show jX m_X4_partOut 7 0 0 236 [(0, .ref 107), (3, .int l3), (7, .int l7)] [.int v9] _ 0 0 _
        refine x_ifeq (tgt := 269) rfl rfl (ti_eq rfl jk_0 ⟨fun c10 => ?_, fun c10 => ?_⟩)
        ·
          rw [if_pos (by omega)] at D
          exact jX.sub (jsb_c rfl (jsb_c rfl (jsb_c rfl jsb_n))) (ct_X4_partOut_r107d_269 hD hQ ih l3 l7 g0 h (jr_of rfl (by omega)) (jr_of rfl (by omega)) (jr_of rfl (by omega)) (jmc S6 rfl z0) (by omega) J Sm D)
        ·
          rw [if_neg (by omega)] at D
          refine x_aloadn (x := 107) rfl rfl ?_
          refine z_getR (N := 18) (b := 108) 4 3 rfl f_4_9 rfl J rfl 13699 ⟨rfl, rfl⟩ rfl ?_
          refine x_iload (x := l7) rfl rfl ?_
          refine x_aloadn (x := 107) rfl rfl ?_
          refine z_getR (N := 18) (b := 108) 4 3 rfl f_4_9 rfl J rfl 13699 ⟨rfl, rfl⟩ rfl ?_
          refine x_iload (x := l7) rfl rfl ?_
          refine z_ialdM (N := 40) (v := v3) rfl J rfl rfl (by omega) (jmc S6 rfl qv3) ?_
          refine z_i2l rfl rfl (fun v11 ev11 => ?_)
          refine x_lconst (v := 0) rfl kl_0 ?_
          refine x_aloadn (x := 107) rfl rfl ?_
          refine z_getR (N := 18) (b := 98) 4 2 rfl f_4_67 rfl J rfl 13698 ⟨rfl, rfl⟩ rfl ?_
          refine z_getLQ (N := 16) 0 14 rfl f_4_127 rfl J rfl (fun v12 qv12 => ?_)
          have ev12 := jfullL v12
          try rw [vrfL qv12] at D
          refine z_lmax rfl q_4_131 (by decide) rfl jkl_0 rfl (fun v13 ev13 => ?_)
          refine z_lmin rfl q_4_135 (by decide) rfl rfl rfl (fun v14 ev14 => ?_)
          refine z_l2i rfl rfl (by omega) (fun v15 ev15 => ?_)
          refine z_iast (N := 40) (l := 0) (u := 40) (w := v15.toInt) rfl hD J Sm rfl rfl rfl (by omega) rfl (wr_108) rfl (fun h w16 J Sm => ?_)
          rw [vww w16 (show l7.toInt = l7.toInt from by omega) (show (min v3.toInt (max 0 v12.toInt)) = v15.toInt from by omega)] at D
          exact jX.sub (jsb_c rfl (jsb_c rfl (jsb_c rfl jsb_n))) (ct_X4_partOut_r107d_269 hD hQ ih l3 l7 g0 h (jr_of rfl (by omega)) (jr_of rfl (by omega)) (jr_of rfl (by omega)) (jmo w16 rfl (jmc S6 rfl z0)) (by omega) J Sm D)
set_option maxRecDepth 100000 in
set_option maxHeartbeats 4000000 in
theorem ct_X4_partOut_r107d_200167 {Dy : jH → Prop} {h0 : jH} {Q : Option Value → jH → Prop} {dr : jW} {K77 : Int → Int → Int → Int → jW → jW} {R77 : Int} (hD : jDk Dy) (hQ : ∀ hx9, jJ jSgX Dy hx9 → jSm fp_X4_partOut_r107d h0 hx9 → dr = vw hx9 → Q none hx9) (k77 : ∀ (l3 : Int32) (l4 : Int32) (l5 : Int64) (l7 : Int32) (h : jH), 40 - l7.toInt < R77 → 0 ≤ l3.toInt ∧ l3.toInt ≤ 2 → 0 ≤ l4.toInt ∧ l4.toInt ≤ 1000000 → 0 ≤ l7.toInt ∧ l7.toInt ≤ 40 → jJ jSgX Dy h → jSm fp_X4_partOut_r107d h0 h → K77 l3.toInt l4.toInt l5.toInt l7.toInt (vw h) = dr → jX m_X4_partOut 7 0 0 77 [(0, .ref 107), (3, .int l3), (4, .int l4), (5, .long l5), (7, .int l7)] [] h 0 0 Q) : ∀ (l3 : Int32) (l4 : Int32) (l5 : Int64) (l7 : Int32) (s1 : Int32) (h : jH), 0 ≤ l3.toInt ∧ l3.toInt ≤ 2 → 0 ≤ l4.toInt ∧ l4.toInt ≤ 1000000 → 0 ≤ l7.toInt ∧ l7.toInt ≤ 39 → 0 ≤ s1.toInt ∧ s1.toInt ≤ 39 → 40 - l7.toInt ≤ R77 → jJ jSgX Dy h → jSm fp_X4_partOut_r107d h0 h → d_X4_partOut_r107d_200167 K77  l3.toInt l4.toInt l5.toInt l7.toInt s1.toInt (vw h) = dr → jX m_X4_partOut 7 0 0 167 [(0, .ref 107), (3, .int l3), (4, .int l4), (5, .long l5), (7, .int l7)] [.int 0, .int s1, .ref 109] h 0 0 Q := by
  intro l3 l4 l5 l7 s1 h y0 y1 y2 y3  m77 J Sm D
  have el5 := jfullL l5
  unfold d_X4_partOut_r107d_200167 at D
  refine z_iast (N := 40) (l := 0) (u := 40) (w := 0) rfl hD J Sm rfl rfl rfl (by omega) jk_0 (wr_109) rfl (fun h w1 J Sm => ?_)
  rw [vww w1 (show s1.toInt = s1.toInt from by omega) (show 0 = (0 : Int32).toInt from by have := jk_0; omega)] at D
  refine x_lload (x := l5) rfl rfl ?_
  refine x_aloadn (x := 107) rfl rfl ?_
  refine z_getR (N := 18) (b := 109) 4 4 rfl f_4_15 rfl J rfl 13700 ⟨rfl, rfl⟩ rfl ?_
  refine x_iload (x := l7) rfl rfl ?_
  refine z_iald0 (N := 40) rfl J rfl rfl (by omega) (fun v2 qv2 => ?_)
  have ev2 := jfull v2
  try rw [vrd qv2 (show l7.toInt = l7.toInt from by omega)] at D
  refine z_i2l rfl rfl (fun v3 ev3 => ?_)
  refine z_laddW rfl rfl rfl (fun v4 ev4 => ?_)
  have fv4 := jfullL v4
  try rw [show v2.toInt = v3.toInt from by omega] at D
  try rw [← ev4] at D
  refine x_lstore (lsx9 := [(5, .long v4), (0, .ref 107), (3, .int l3), (4, .int l4), (7, .int l7)]) rfl rfl rfl ?_
  refine z_iinc (x := l7) (lsx9 := fun v5 => [(7, .int v5), (5, .long v4), (0, .ref 107), (3, .int l3), (4, .int l4)]) rfl rfl rfl jko_1 (by omega) rfl (fun _ => rfl) (fun v5 ev5 => ?_)
  refine x_goto (tgt := 77) rfl rfl ?_
  try rw [show (l7.toInt + 1) = v5.toInt from by omega] at D
  exact jX.sub (jsb_c rfl (jsb_c rfl (jsb_c rfl (jsb_c rfl (jsb_c rfl jsb_n))))) (k77 l3 l4 v4 v5 h (by omega) (jr_of rfl (by omega)) (jr_of rfl (by omega)) (jr_of rfl (by omega)) J Sm D)
set_option maxRecDepth 100000 in
set_option maxHeartbeats 4000000 in
theorem ct_X4_partOut_r107d_167 {Dy : jH → Prop} {h0 : jH} {Q : Option Value → jH → Prop} {dr : jW} {K77 : Int → Int → Int → Int → jW → jW} {R77 : Int} (hD : jDk Dy) (hQ : ∀ hx9, jJ jSgX Dy hx9 → jSm fp_X4_partOut_r107d h0 hx9 → dr = vw hx9 → Q none hx9) (k77 : ∀ (l3 : Int32) (l4 : Int32) (l5 : Int64) (l7 : Int32) (h : jH), 40 - l7.toInt < R77 → 0 ≤ l3.toInt ∧ l3.toInt ≤ 2 → 0 ≤ l4.toInt ∧ l4.toInt ≤ 1000000 → 0 ≤ l7.toInt ∧ l7.toInt ≤ 40 → jJ jSgX Dy h → jSm fp_X4_partOut_r107d h0 h → K77 l3.toInt l4.toInt l5.toInt l7.toInt (vw h) = dr → jX m_X4_partOut 7 0 0 77 [(0, .ref 107), (3, .int l3), (4, .int l4), (5, .long l5), (7, .int l7)] [] h 0 0 Q) : ∀ (l3 : Int32) (l4 : Int32) (l5 : Int64) (l7 : Int32) (s0 : Int32) (s1 : Int32) (h : jH), 0 ≤ l3.toInt ∧ l3.toInt ≤ 2 → 0 ≤ l4.toInt ∧ l4.toInt ≤ 1000000 → 0 ≤ l7.toInt ∧ l7.toInt ≤ 39 → 0 ≤ s1.toInt ∧ s1.toInt ≤ 39 → 40 - l7.toInt ≤ R77 → jJ jSgX Dy h → jSm fp_X4_partOut_r107d h0 h → d_X4_partOut_r107d_167 K77  l3.toInt l4.toInt l5.toInt l7.toInt s0.toInt s1.toInt (vw h) = dr → jX m_X4_partOut 7 0 0 167 [(0, .ref 107), (3, .int l3), (4, .int l4), (5, .long l5), (7, .int l7)] [.int s0, .int s1, .ref 109] h 0 0 Q := by
  intro l3 l4 l5 l7 s0 s1 h y0 y1 y2 y3  m77 J Sm D
  have el5 := jfullL l5
  have es0 := jfull s0
  unfold d_X4_partOut_r107d_167 at D
  refine z_iast (N := 40) (l := 0) (u := 40) (w := s0.toInt) rfl hD J Sm rfl rfl rfl (by omega) rfl (wr_109) rfl (fun h w1 J Sm => ?_)
  rw [vww w1 (show s1.toInt = s1.toInt from by omega) (show s0.toInt = s0.toInt from by omega)] at D
  refine x_lload (x := l5) rfl rfl ?_
  refine x_aloadn (x := 107) rfl rfl ?_
  refine z_getR (N := 18) (b := 109) 4 4 rfl f_4_15 rfl J rfl 13700 ⟨rfl, rfl⟩ rfl ?_
  refine x_iload (x := l7) rfl rfl ?_
  refine z_iald0 (N := 40) rfl J rfl rfl (by omega) (fun v2 qv2 => ?_)
  have ev2 := jfull v2
  try rw [vrd qv2 (show l7.toInt = l7.toInt from by omega)] at D
  refine z_i2l rfl rfl (fun v3 ev3 => ?_)
  refine z_laddW rfl rfl rfl (fun v4 ev4 => ?_)
  have fv4 := jfullL v4
  try rw [show v2.toInt = v3.toInt from by omega] at D
  try rw [← ev4] at D
  refine x_lstore (lsx9 := [(5, .long v4), (0, .ref 107), (3, .int l3), (4, .int l4), (7, .int l7)]) rfl rfl rfl ?_
  refine z_iinc (x := l7) (lsx9 := fun v5 => [(7, .int v5), (5, .long v4), (0, .ref 107), (3, .int l3), (4, .int l4)]) rfl rfl rfl jko_1 (by omega) rfl (fun _ => rfl) (fun v5 ev5 => ?_)
  refine x_goto (tgt := 77) rfl rfl ?_
  try rw [show (l7.toInt + 1) = v5.toInt from by omega] at D
  exact jX.sub (jsb_c rfl (jsb_c rfl (jsb_c rfl (jsb_c rfl (jsb_c rfl jsb_n))))) (k77 l3 l4 v4 v5 h (by omega) (jr_of rfl (by omega)) (jr_of rfl (by omega)) (jr_of rfl (by omega)) J Sm D)
set_option maxRecDepth 100000 in
set_option maxHeartbeats 4000000 in
theorem ct_X4_partOut_r107d_300140 {Dy : jH → Prop} {h0 : jH} {Q : Option Value → jH → Prop} {dr : jW} {K77 : Int → Int → Int → Int → jW → jW} {R77 : Int} (hD : jDk Dy) (hQ : ∀ hx9, jJ jSgX Dy hx9 → jSm fp_X4_partOut_r107d h0 hx9 → dr = vw hx9 → Q none hx9) (k77 : ∀ (l3 : Int32) (l4 : Int32) (l5 : Int64) (l7 : Int32) (h : jH), 40 - l7.toInt < R77 → 0 ≤ l3.toInt ∧ l3.toInt ≤ 2 → 0 ≤ l4.toInt ∧ l4.toInt ≤ 1000000 → 0 ≤ l7.toInt ∧ l7.toInt ≤ 40 → jJ jSgX Dy h → jSm fp_X4_partOut_r107d h0 h → K77 l3.toInt l4.toInt l5.toInt l7.toInt (vw h) = dr → jX m_X4_partOut 7 0 0 77 [(0, .ref 107), (3, .int l3), (4, .int l4), (5, .long l5), (7, .int l7)] [] h 0 0 Q) : ∀ (l3 : Int32) (l4 : Int32) (l5 : Int64) (l7 : Int32) (h : jH), 0 ≤ l3.toInt ∧ l3.toInt ≤ 2 → 0 ≤ l4.toInt ∧ l4.toInt ≤ 1000000 → 0 ≤ l7.toInt ∧ l7.toInt ≤ 39 → 40 - l7.toInt ≤ R77 → jJ jSgX Dy h → jSm fp_X4_partOut_r107d h0 h → d_X4_partOut_r107d_300140 K77  l3.toInt l4.toInt l5.toInt l7.toInt (vw h) = dr → jX m_X4_partOut 7 0 0 140 [(0, .ref 107), (3, .int l3), (4, .int l4), (5, .long l5), (7, .int l7)] [.int 1] h 0 0 Q := by
  intro l3 l4 l5 l7 h y0 y1 y2  m77 J Sm D
  have el5 := jfullL l5
  unfold d_X4_partOut_r107d_300140 at D
  refine x_istore (lsx9 := [(8, .int 1), (0, .ref 107), (3, .int l3), (4, .int l4), (5, .long l5), (7, .int l7)]) rfl rfl rfl ?_
  refine x_aloadn (x := 107) rfl rfl ?_
  refine z_getR (N := 18) (b := 109) 4 4 rfl f_4_15 rfl J rfl 13700 ⟨rfl, rfl⟩ rfl ?_
  refine x_iload (x := l7) rfl rfl ?_
  refine x_iload (x := 1) rfl rfl ?_
  refine x_ifeq (tgt := 166) rfl rfl (ti_eq jk_1 jk_0 (br_f (by omega) ?_))
  refine x_aloadn (x := 107) rfl rfl ?_
  refine z_getR (N := 18) (b := 98) 4 2 rfl f_4_67 rfl J rfl 13698 ⟨rfl, rfl⟩ rfl ?_
  refine z_getR (N := 16) (b := 102) 0 5 rfl f_4_111 rfl J rfl 12549 ⟨rfl, rfl⟩ rfl ?_
  refine x_iload (x := l7) rfl rfl ?_
  refine z_iald0 (N := 40) rfl J rfl rfl (by omega) (fun v1 qv1 => ?_)
  have ev1 := jfull v1
  try rw [vrd qv1 (show l7.toInt = l7.toInt from by omega)] at D
  refine x_goto (tgt := 167) rfl rfl ?_
  exact jX.sub (jsb_c rfl (jsb_c rfl (jsb_c rfl (jsb_c rfl (jsb_c rfl jsb_n))))) (ct_X4_partOut_r107d_167 hD hQ k77 l3 l4 l5 l7 v1 l7 h (jr_of rfl (by omega)) (jr_of rfl (by omega)) (jr_of rfl (by omega)) (jr_of rfl (by omega)) (by omega) J Sm D)
set_option maxRecDepth 100000 in
set_option maxHeartbeats 4000000 in
theorem ct_X4_partOut_r107d_200140 {Dy : jH → Prop} {h0 : jH} {Q : Option Value → jH → Prop} {dr : jW} {K77 : Int → Int → Int → Int → jW → jW} {R77 : Int} (hD : jDk Dy) (hQ : ∀ hx9, jJ jSgX Dy hx9 → jSm fp_X4_partOut_r107d h0 hx9 → dr = vw hx9 → Q none hx9) (k77 : ∀ (l3 : Int32) (l4 : Int32) (l5 : Int64) (l7 : Int32) (h : jH), 40 - l7.toInt < R77 → 0 ≤ l3.toInt ∧ l3.toInt ≤ 2 → 0 ≤ l4.toInt ∧ l4.toInt ≤ 1000000 → 0 ≤ l7.toInt ∧ l7.toInt ≤ 40 → jJ jSgX Dy h → jSm fp_X4_partOut_r107d h0 h → K77 l3.toInt l4.toInt l5.toInt l7.toInt (vw h) = dr → jX m_X4_partOut 7 0 0 77 [(0, .ref 107), (3, .int l3), (4, .int l4), (5, .long l5), (7, .int l7)] [] h 0 0 Q) : ∀ (l3 : Int32) (l4 : Int32) (l5 : Int64) (l7 : Int32) (h : jH), 0 ≤ l3.toInt ∧ l3.toInt ≤ 2 → 0 ≤ l4.toInt ∧ l4.toInt ≤ 1000000 → 0 ≤ l7.toInt ∧ l7.toInt ≤ 39 → 40 - l7.toInt ≤ R77 → jJ jSgX Dy h → jSm fp_X4_partOut_r107d h0 h → d_X4_partOut_r107d_200140 K77  l3.toInt l4.toInt l5.toInt l7.toInt (vw h) = dr → jX m_X4_partOut 7 0 0 140 [(0, .ref 107), (3, .int l3), (4, .int l4), (5, .long l5), (7, .int l7)] [.int 0] h 0 0 Q := by
  intro l3 l4 l5 l7 h y0 y1 y2  m77 J Sm D
  have el5 := jfullL l5
  unfold d_X4_partOut_r107d_200140 at D
  refine x_istore (lsx9 := [(8, .int 0), (0, .ref 107), (3, .int l3), (4, .int l4), (5, .long l5), (7, .int l7)]) rfl rfl rfl ?_
  refine x_aloadn (x := 107) rfl rfl ?_
  refine z_getR (N := 18) (b := 109) 4 4 rfl f_4_15 rfl J rfl 13700 ⟨rfl, rfl⟩ rfl ?_
  refine x_iload (x := l7) rfl rfl ?_
  refine x_iload (x := 0) rfl rfl ?_
  refine x_ifeq (tgt := 166) rfl rfl (ti_eq jk_0 jk_0 (br_t (by omega) ?_))
  refine x_iconst (v := 0) rfl ki_0 ?_
  exact jX.sub (jsb_c rfl (jsb_c rfl (jsb_c rfl (jsb_c rfl (jsb_c rfl jsb_n))))) (ct_X4_partOut_r107d_200167 hD hQ k77 l3 l4 l5 l7 l7 h (jr_of rfl (by omega)) (jr_of rfl (by omega)) (jr_of rfl (by omega)) (jr_of rfl (by omega)) (by omega) J Sm D)
set_option maxRecDepth 100000 in
set_option maxHeartbeats 4000000 in
theorem ct_X4_partOut_r107d_139 {Dy : jH → Prop} {h0 : jH} {Q : Option Value → jH → Prop} {dr : jW} {K77 : Int → Int → Int → Int → jW → jW} {R77 : Int} (hD : jDk Dy) (hQ : ∀ hx9, jJ jSgX Dy hx9 → jSm fp_X4_partOut_r107d h0 hx9 → dr = vw hx9 → Q none hx9) (k77 : ∀ (l3 : Int32) (l4 : Int32) (l5 : Int64) (l7 : Int32) (h : jH), 40 - l7.toInt < R77 → 0 ≤ l3.toInt ∧ l3.toInt ≤ 2 → 0 ≤ l4.toInt ∧ l4.toInt ≤ 1000000 → 0 ≤ l7.toInt ∧ l7.toInt ≤ 40 → jJ jSgX Dy h → jSm fp_X4_partOut_r107d h0 h → K77 l3.toInt l4.toInt l5.toInt l7.toInt (vw h) = dr → jX m_X4_partOut 7 0 0 77 [(0, .ref 107), (3, .int l3), (4, .int l4), (5, .long l5), (7, .int l7)] [] h 0 0 Q) : ∀ (l3 : Int32) (l4 : Int32) (l5 : Int64) (l7 : Int32) (h : jH), 0 ≤ l3.toInt ∧ l3.toInt ≤ 2 → 0 ≤ l4.toInt ∧ l4.toInt ≤ 1000000 → 0 ≤ l7.toInt ∧ l7.toInt ≤ 39 → 40 - l7.toInt ≤ R77 → jJ jSgX Dy h → jSm fp_X4_partOut_r107d h0 h → d_X4_partOut_r107d_139 K77  l3.toInt l4.toInt l5.toInt l7.toInt (vw h) = dr → jX m_X4_partOut 7 0 0 139 [(0, .ref 107), (3, .int l3), (4, .int l4), (5, .long l5), (7, .int l7)] [] h 0 0 Q := by
  intro l3 l4 l5 l7 h y0 y1 y2  m77 J Sm D
  have el5 := jfullL l5
  unfold d_X4_partOut_r107d_139 at D
  refine x_iconst (v := 0) rfl ki_0 ?_
  exact jX.sub (jsb_c rfl (jsb_c rfl (jsb_c rfl (jsb_c rfl (jsb_c rfl jsb_n))))) (ct_X4_partOut_r107d_200140 hD hQ k77 l3 l4 l5 l7 h (jr_of rfl (by omega)) (jr_of rfl (by omega)) (jr_of rfl (by omega)) (by omega) J Sm D)
set_option maxRecDepth 100000 in
set_option maxHeartbeats 4000000 in
theorem ct_X4_partOut_r107d_77 {Dy : jH → Prop} {h0 : jH} {Q : Option Value → jH → Prop} {dr : jW} (hD : jDk Dy) (hQ : ∀ hx9, jJ jSgX Dy hx9 → jSm fp_X4_partOut_r107d h0 hx9 → dr = vw hx9 → Q none hx9) : ∀ r : Nat, ∀ (l3 : Int32) (l4 : Int32) (l5 : Int64) (l7 : Int32) (h : jH), 40 - l7.toInt < (r : Int) → 0 ≤ l3.toInt ∧ l3.toInt ≤ 2 → 0 ≤ l4.toInt ∧ l4.toInt ≤ 1000000 → 0 ≤ l7.toInt ∧ l7.toInt ≤ 40 → jJ jSgX Dy h → jSm fp_X4_partOut_r107d h0 h → d_X4_partOut_r107d_77 r l3.toInt l4.toInt l5.toInt l7.toInt (vw h) = dr → jX m_X4_partOut 7 0 0 77 [(0, .ref 107), (3, .int l3), (4, .int l4), (5, .long l5), (7, .int l7)] [] h 0 0 Q := by
  intro r
  induction r with
  | zero =>
    intro l3 l4 l5 l7 h hm y0 y1 y2   J Sm D
    exfalso
    have el5 := jfullL l5
    omega
  | succ r ih =>
    intro l3 l4 l5 l7 h hm y0 y1 y2   J Sm D
    have el5 := jfullL l5
    rw [d_X4_partOut_r107d_77.eq_2] at D
    refine x_iload (x := l7) rfl rfl ?_
    refine x_aloadn (x := 107) rfl rfl ?_
    refine x_inv (N := m_X4_houses) (As := []) (b := 107) (st := [.int l7]) (dx9 := 6) (mc := 0) (ms := 0) (host := "") 4 rfl t_X4_houses ⟨Or.inl q_4_107, i_X4_houses.1, i_X4_houses.2⟩ ⟨by decide, rfl⟩ (congrArg Prod.fst (J.1.1 107 (4, 18) rfl)) rfl (by decide) rfl rfl ⟨by decide, by decide⟩ (jC.of rfl k_X4_houses rfl ?_)
    show jX m_X4_houses 6 0 0 0 [(0, .ref 107)] [] _ 0 0 _
    refine x_bipush (v := 40) rfl kb_40 ?_
    refine x_aloadn (x := 107) rfl rfl ?_
    refine z_getR (N := 18) (b := 32) 4 0 rfl f_4_59 rfl J rfl 13696 ⟨rfl, rfl⟩ rfl ?_
    refine z_getR (N := 20) (b := 49) 1 8 rfl f_4_71 rfl J rfl 4104 ⟨rfl, rfl⟩ rfl ?_
    refine z_getI (N := 4) 8 3 rfl f_4_77 rfl J rfl sg_49_3_4_1_0_1 (fun v1 qv1 ev1 => ?_)
    try rw [vrf qv1] at D
    refine z_mmin rfl q_4_82 (by decide) rfl jk_40 rfl (fun v2 ev2 => ?_)
    refine x_iret rfl rfl ?_
    show jX m_X4_partOut 7 0 0 83 [(0, .ref 107), (3, .int l3), (4, .int l4), (5, .long l5), (7, .int l7)] [.int v2, .int l7] _ 0 0 _
    refine x_icge (tgt := 187) rfl rfl (ti_ge rfl rfl ⟨fun c3 => ?_, fun c3 => ?_⟩)
    ·
      rw [if_pos (by omega)] at D
      refine x_aloadn (x := 107) rfl rfl ?_
      refine x_iload (x := l4) rfl rfl ?_
      refine x_lload (x := l5) rfl rfl ?_
      refine x_inv (N := m_X4_share) (As := [.int l4, .long l5]) (b := 107) (st := []) (dx9 := 3) (mc := 0) (ms := 0) (host := "") 4 rfl t_X4_share ⟨Or.inl q_4_123, i_X4_share.1, i_X4_share.2⟩ ⟨by decide, rfl⟩ (congrArg Prod.fst (J.1.1 107 (4, 18) rfl)) rfl (by decide) rfl rfl ⟨by decide, by decide⟩ (sf_X4_share_r107d (jr_of rfl (by omega)) hD J rfl  (fun h J S4 X5 => ?_))
      have Sm := jSm_tr rfl Sm S4
      rw [X5] at D
      show jX m_X4_partOut 7 0 0 195 [(0, .ref 107), (3, .int l3), (4, .int l4), (5, .long l5), (7, .int l7)] [] _ 0 0 _
      refine x_iconst (v := 0) rfl ki_0 ?_
      refine x_istore (lsx9 := [(7, .int 0), (0, .ref 107), (3, .int l3), (4, .int l4), (5, .long l5)]) rfl rfl rfl ?_
      exact jX.sub (jsb_c rfl (jsb_c rfl (jsb_c rfl jsb_n))) (ct_X4_partOut_r107d_198 hD hQ  41 l3 0 v1 h (by have := jk_0; omega) (jr_of rfl (by omega)) (jr_of jk_0 (by omega)) (jr_of rfl (by omega)) (jmc S4 rfl qv1) J Sm (by rw [jk_0]; exact D))
    ·
      rw [if_neg (by omega)] at D
      refine x_aloadn (x := 107) rfl rfl ?_
      refine z_getR (N := 18) (b := 98) 4 2 rfl f_4_67 rfl J rfl 13698 ⟨rfl, rfl⟩ rfl ?_
      refine z_getR (N := 16) (b := 102) 0 5 rfl f_4_111 rfl J rfl 12549 ⟨rfl, rfl⟩ rfl ?_
      refine x_iload (x := l7) rfl rfl ?_
      refine z_iald0 (N := 40) rfl J rfl rfl (by omega) (fun v6 qv6 => ?_)
      have ev6 := jfull v6
      try rw [vrd qv6 (show l7.toInt = l7.toInt from by omega)] at D
      refine x_ifle (tgt := 139) rfl rfl (ti_le rfl jk_0 ⟨fun c7 => ?_, fun c7 => ?_⟩)
      ·
        rw [if_pos (by omega)] at D
        exact jX.sub (jsb_c rfl (jsb_c rfl (jsb_c rfl (jsb_c rfl (jsb_c rfl jsb_n))))) (ct_X4_partOut_r107d_139 hD hQ ih l3 l4 l5 l7 h (jr_of rfl (by omega)) (jr_of rfl (by omega)) (jr_of rfl (by omega)) (by omega) J Sm D)
      ·
        rw [if_neg (by omega)] at D
        refine x_aloadn (x := 107) rfl rfl ?_
        refine z_getR (N := 18) (b := 98) 4 2 rfl f_4_67 rfl J rfl 13698 ⟨rfl, rfl⟩ rfl ?_
        refine z_getR (N := 16) (b := 103) 0 6 rfl f_4_114 rfl J rfl 12550 ⟨rfl, rfl⟩ rfl ?_
        refine x_iload (x := l7) rfl rfl ?_
        refine z_iald (N := 40) rfl J rfl sg_103_0_40_1_0_1 rfl (by omega) (fun v8 qv8 ev8 => ?_)
        try rw [vrd qv8 (show l7.toInt = l7.toInt from by omega)] at D
        refine x_iconst (v := (-1)) rfl ki_m1 ?_
        refine x_iceq (tgt := 139) rfl rfl (ti_eq rfl jk_m1 ⟨fun c9 => ?_, fun c9 => ?_⟩)
        ·
          rw [if_pos (by omega)] at D
          exact jX.sub (jsb_c rfl (jsb_c rfl (jsb_c rfl (jsb_c rfl (jsb_c rfl jsb_n))))) (ct_X4_partOut_r107d_139 hD hQ ih l3 l4 l5 l7 h (jr_of rfl (by omega)) (jr_of rfl (by omega)) (jr_of rfl (by omega)) (by omega) J Sm D)
        ·
          rw [if_neg (by omega)] at D
          refine x_aloadn (x := 107) rfl rfl ?_
          refine z_getR (N := 18) (b := 98) 4 2 rfl f_4_67 rfl J rfl 13698 ⟨rfl, rfl⟩ rfl ?_
          refine x_iconst (v := 1) rfl ki_1 ?_
          refine x_iloadn (x := l3) rfl rfl ?_
          refine x_aloadn (x := 107) rfl rfl ?_
          refine z_getR (N := 18) (b := 98) 4 2 rfl f_4_67 rfl J rfl 13698 ⟨rfl, rfl⟩ rfl ?_
          refine z_getR (N := 16) (b := 103) 0 6 rfl f_4_114 rfl J rfl 12550 ⟨rfl, rfl⟩ rfl ?_
          refine x_iload (x := l7) rfl rfl ?_
          refine z_ialdM (N := 40) (v := v8) rfl J rfl rfl (by omega) qv8 ?_
          refine x_inv (N := m_X0_weigh) (As := [.int 1, .int l3, .int v8]) (b := 98) (st := []) (dx9 := 6) (mc := 0) (ms := 0) (host := "") 0 rfl t_X0_weigh ⟨Or.inl q_4_119, i_X0_weigh.1, i_X0_weigh.2⟩ ⟨by decide, rfl⟩ (congrArg Prod.fst (J.1.1 98 (0, 16) rfl)) rfl (by decide) rfl rfl ⟨by decide, by decide⟩ (sf_X0_weigh_r98d (jr_of jk_1 (by omega)) (jr_of rfl (by omega)) (jr_of rfl (by omega)) hD J rfl  (fun v13 h ev13 J S10 X11 X12 => ?_))
          have Sm := jSm_tr rfl Sm S10
          try rw [jk_1] at X11
          try rw [jk_1] at X12
          try rw [X11] at D
          try rw [X12] at D
          show jX m_X4_partOut 7 0 0 132 [(0, .ref 107), (3, .int l3), (4, .int l4), (5, .long l5), (7, .int l7)] [.int v13] _ 0 0 _
          refine x_ifne (tgt := 139) rfl rfl (ti_ne rfl jk_0 ⟨fun c14 => ?_, fun c14 => ?_⟩)
          ·
            rw [if_neg (by omega)] at D
            exact jX.sub (jsb_c rfl (jsb_c rfl (jsb_c rfl (jsb_c rfl (jsb_c rfl jsb_n))))) (ct_X4_partOut_r107d_139 hD hQ ih l3 l4 l5 l7 h (jr_of rfl (by omega)) (jr_of rfl (by omega)) (jr_of rfl (by omega)) (by omega) J Sm D)
          ·
            rw [if_pos (by omega)] at D
            refine x_iconst (v := 1) rfl ki_1 ?_
            refine x_goto (tgt := 140) rfl rfl ?_
            exact jX.sub (jsb_c rfl (jsb_c rfl (jsb_c rfl (jsb_c rfl (jsb_c rfl jsb_n))))) (ct_X4_partOut_r107d_300140 hD hQ ih l3 l4 l5 l7 h (jr_of rfl (by omega)) (jr_of rfl (by omega)) (jr_of rfl (by omega)) (by omega) J Sm D)
set_option maxRecDepth 100000 in
set_option maxHeartbeats 4000000 in
theorem sf_X4_partOut_r107d {Dy : jH → Prop} {h : jH} {Q : Option Value → jH → Prop} {dr : jW} {a1 : Int32} {a2 : Int32} (y2 : 0 ≤ a2.toInt ∧ a2.toInt ≤ 146399) (hD : jDk Dy) (J : jJ jSgX Dy h) (D : d_X4_partOut_r107d a1.toInt a2.toInt (vw h) = dr) (hQ : ∀ hx9, jJ jSgX Dy hx9 → jSm fp_X4_partOut_r107d h hx9 → dr = vw hx9 → Q none hx9) : jC m_X4_partOut 7 0 0 [.ref 107, .int a1, .int a2] h Q := by
  refine jC.of rfl k_X4_partOut rfl ?_
  have Sm := jSm_rf fp_X4_partOut_r107d h
  have ea1 := jfull a1
  show jX m_X4_partOut 7 0 0 0 [(0, .ref 107), (1, .int a1), (2, .int a2)] [] _ 0 0 _
  unfold d_X4_partOut_r107d at D
  refine x_aloadn (x := 107) rfl rfl ?_
  refine z_getR (N := 18) (b := 111) 4 6 rfl f_4_22 rfl J rfl 13702 ⟨rfl, rfl⟩ rfl ?_
  refine x_iloadn (x := a1) rfl rfl ?_
  refine x_iloadn (x := a2) rfl rfl ?_
  refine x_aloadn (x := 107) rfl rfl ?_
  refine z_getR (N := 18) (b := 32) 4 0 rfl f_4_59 rfl J rfl 13696 ⟨rfl, rfl⟩ rfl ?_
  refine z_getI0 (N := 20) 1 19 rfl f_4_88 rfl J rfl (fun v1 qv1 => ?_)
  have ev1 := jfull v1
  try rw [vrf qv1] at D
  refine x_inst (N := m_X11_isFresh) (As := [.ref 111, .int a1, .int a2, .int v1]) (st := []) (dx9 := 6) (mc := 0) (ms := 0) (host := "ParishChest") rfl t_X11_isFresh ⟨Or.inr q_4_91, s_X11_isFresh⟩ rfl (by decide) rfl rfl ⟨by decide, by decide⟩ (jC.of rfl k_X11_isFresh rfl ?_)
  show jX m_X11_isFresh 6 0 0 0 [(0, .ref 111), (1, .int a1), (2, .int a2), (3, .int v1)] [] _ 0 0 _
  refine x_aloadn (x := 111) rfl rfl ?_
  refine z_alen (N := 3) (v := 3) rfl J rfl rfl (by decide) ?_
  refine x_iconst (v := 3) rfl ki_3 ?_
  refine x_icge (tgt := 8) rfl rfl (ti_ge jk_3 jk_3 (br_t (by omega) ?_))
  refine x_aloadn (x := 111) rfl rfl ?_
  refine x_iconst (v := 0) rfl ki_0 ?_
  refine z_iald0 (N := 3) rfl J rfl jk_0 (by omega) (fun v2 qv2 => ?_)
  have ev2 := jfull v2
  try rw [vrn (n := 0) (by decide) qv2] at D
  refine x_iloadn (x := a1) rfl rfl ?_
  refine x_icne (tgt := 33) rfl rfl (ti_ne rfl rfl ⟨fun c3 => ?_, fun c3 => ?_⟩)
  ·
    rw [if_neg (by omega)] at D
    refine x_iconst (v := 0) rfl ki_0 ?_
    refine x_istore (lsx9 := [(4, .int 0), (0, .ref 111), (1, .int a1), (2, .int a2), (3, .int v1)]) rfl rfl rfl ?_
    refine x_aloadn (x := 111) rfl rfl ?_
    refine x_iconst (v := 0) rfl ki_0 ?_
    refine x_iloadn (x := a1) rfl rfl ?_
    refine z_iast (N := 3) (l := 0) (u := 3) (w := a1.toInt) rfl hD J Sm rfl rfl jk_0 (by omega) rfl (wr_111) rfl (fun h w4 J Sm => ?_)
    rw [vwn (n := 0) (by decide) w4 (show a1.toInt = a1.toInt from by omega)] at D
    refine x_aloadn (x := 111) rfl rfl ?_
    refine x_iconst (v := 1) rfl ki_1 ?_
    refine x_iloadn (x := a2) rfl rfl ?_
    refine z_iast (N := 3) (l := 0) (u := 3) (w := a2.toInt) rfl hD J Sm rfl rfl jk_1 (by omega) rfl (wr_111) rfl (fun h w5 J Sm => ?_)
    rw [vwn (n := 1) (by decide) w5 (show a2.toInt = a2.toInt from by omega)] at D
    refine x_aloadn (x := 111) rfl rfl ?_
    refine x_iconst (v := 2) rfl ki_2 ?_
    refine x_iloadn (x := v1) rfl rfl ?_
    refine z_iast (N := 3) (l := 0) (u := 3) (w := v1.toInt) rfl hD J Sm rfl rfl jk_2 (by omega) rfl (wr_111) rfl (fun h w6 J Sm => ?_)
    rw [vwn (n := 2) (by decide) w6 (show v1.toInt = v1.toInt from by omega)] at D
    refine x_iload (x := 0) rfl rfl ?_
    refine x_zret rfl rfl (by decide) ?_
    show jX m_X4_partOut 7 0 0 16 [(0, .ref 107), (1, .int a1), (2, .int a2)] [.int 0] _ 0 0 _
    refine x_ifeq (tgt := 20) rfl rfl (ti_eq jk_0 jk_0 (br_t (by omega) ?_))
    refine x_aloadn (x := 107) rfl rfl ?_
    refine z_getR (N := 18) (b := 32) 4 0 rfl f_4_59 rfl J rfl 13696 ⟨rfl, rfl⟩ rfl ?_
    refine z_getR (N := 20) (b := 53) 1 10 rfl f_4_95 rfl J rfl 4106 ⟨rfl, rfl⟩ rfl ?_
    refine x_iloadn (x := a1) rfl rfl ?_
    refine x_iconst (v := 2) rfl ki_2 ?_
    refine x_inv (N := m_X8_at) (As := [.int a1, .int 2]) (b := 53) (st := []) (dx9 := 1) (mc := 0) (ms := 0) (host := "") 8 rfl t_X8_at ⟨Or.inl q_4_98, i_X8_at.1, i_X8_at.2⟩ ⟨by decide, rfl⟩ (congrArg Prod.fst (J.1.1 53 (8, 4) rfl)) rfl (by decide) rfl rfl ⟨by decide, by decide⟩ (sf_X8_at_r53_c2d  hD J rfl  (fun v10 h ev10 J S7 X8 X9 => ?_))
    have Sm := jSm_tr rfl Sm S7
    try rw [X8] at D
    try rw [← X9] at D
    show jX m_X4_partOut 7 0 0 32 [(0, .ref 107), (1, .int a1), (2, .int a2)] [.int v10] _ 0 0 _
    refine x_istoren (lsx9 := [(3, .int v10), (0, .ref 107), (1, .int a1), (2, .int a2)]) rfl rfl rfl ?_
    refine x_aloadn (x := 107) rfl rfl ?_
    refine z_getR (N := 18) (b := 32) 4 0 rfl f_4_59 rfl J rfl 13696 ⟨rfl, rfl⟩ rfl ?_
    refine z_getR (N := 20) (b := 53) 1 10 rfl f_4_95 rfl J rfl 4106 ⟨rfl, rfl⟩ rfl ?_
    refine x_iloadn (x := a1) rfl rfl ?_
    refine x_iconst (v := 3) rfl ki_3 ?_
    refine x_inv (N := m_X8_at) (As := [.int a1, .int 3]) (b := 53) (st := []) (dx9 := 1) (mc := 0) (ms := 0) (host := "") 8 rfl t_X8_at ⟨Or.inl q_4_98, i_X8_at.1, i_X8_at.2⟩ ⟨by decide, rfl⟩ (congrArg Prod.fst (J.1.1 53 (8, 4) rfl)) rfl (by decide) rfl rfl ⟨by decide, by decide⟩ (sf_X8_at_r53_c3d  hD J rfl  (fun v14 h ev14 J S11 X12 X13 => ?_))
    have Sm := jSm_tr rfl Sm S11
    try rw [X12] at D
    try rw [← X13] at D
    show jX m_X4_partOut 7 0 0 45 [(3, .int v10), (0, .ref 107), (1, .int a1), (2, .int a2)] [.int v14] _ 0 0 _
    refine x_istore (lsx9 := [(4, .int v14), (3, .int v10), (0, .ref 107), (1, .int a1), (2, .int a2)]) rfl rfl rfl ?_
    refine x_aloadn (x := 107) rfl rfl ?_
    refine z_getR (N := 18) (b := 98) 4 2 rfl f_4_67 rfl J rfl 13698 ⟨rfl, rfl⟩ rfl ?_
    refine x_aloadn (x := 107) rfl rfl ?_
    refine z_getR (N := 18) (b := 32) 4 0 rfl f_4_59 rfl J rfl 13696 ⟨rfl, rfl⟩ rfl ?_
    refine z_getR (N := 20) (b := 53) 1 10 rfl f_4_95 rfl J rfl 4106 ⟨rfl, rfl⟩ rfl ?_
    refine x_iloadn (x := a1) rfl rfl ?_
    refine x_iconst (v := 1) rfl ki_1 ?_
    refine x_inv (N := m_X8_at) (As := [.int a1, .int 1]) (b := 53) (st := [.ref 98]) (dx9 := 1) (mc := 0) (ms := 0) (host := "") 8 rfl t_X8_at ⟨Or.inl q_4_98, i_X8_at.1, i_X8_at.2⟩ ⟨by decide, rfl⟩ (congrArg Prod.fst (J.1.1 53 (8, 4) rfl)) rfl (by decide) rfl rfl ⟨by decide, by decide⟩ (sf_X8_at_r53_c1d  hD J rfl  (fun v18 h ev18 J S15 X16 X17 => ?_))
    have Sm := jSm_tr rfl Sm S15
    try rw [X16] at D
    try rw [← X17] at D
    show jX m_X4_partOut 7 0 0 63 [(4, .int v14), (3, .int v10), (0, .ref 107), (1, .int a1), (2, .int a2)] [.int v18, .ref 98] _ 0 0 _
    refine x_sipush (v := 366) rfl ks_366 ?_
    refine z_imul rfl rfl jk_366 (by omega) (fun v19 ev19 => ?_)
    refine x_iloadn (x := a2) rfl rfl ?_
    refine x_inv (N := m_X0_turnTo) (As := [.int v19, .int a2]) (b := 98) (st := []) (dx9 := 6) (mc := 0) (ms := 0) (host := "") 0 rfl t_X0_turnTo ⟨Or.inl q_4_101, i_X0_turnTo.1, i_X0_turnTo.2⟩ ⟨by decide, rfl⟩ (congrArg Prod.fst (J.1.1 98 (0, 16) rfl)) rfl (by decide) rfl rfl ⟨by decide, by decide⟩ (jC.of rfl k_X0_turnTo rfl ?_)
    show jX m_X0_turnTo 6 0 0 0 [(0, .ref 98), (1, .int v19), (2, .int a2)] [] _ 0 0 _
    refine x_aloadn (x := 98) rfl rfl ?_
    refine x_iloadn (x := v19) rfl rfl ?_
    refine x_iloadn (x := a2) rfl rfl ?_
    try rw [show (v18.toInt * 366) = v19.toInt from by omega] at D
    refine x_inv (N := m_X0_readLaws) (As := [.int v19, .int a2]) (b := 98) (st := []) (dx9 := 3) (mc := 0) (ms := 0) (host := "") 0 rfl t_X0_readLaws ⟨Or.inl q_0_65, i_X0_readLaws.1, i_X0_readLaws.2⟩ ⟨by decide, rfl⟩ (congrArg Prod.fst (J.1.1 98 (0, 16) rfl)) rfl (by decide) rfl rfl ⟨by decide, by decide⟩ (sf_X0_readLaws_r98d (jr_of rfl (by omega)) (jr_of rfl (by omega)) hD J rfl  (fun h J S20 X21 => ?_))
    have Sm := jSm_tr rfl Sm S20
    rw [X21] at D
    show jX m_X0_turnTo 6 0 0 6 [(0, .ref 98), (1, .int v19), (2, .int a2)] [] _ 0 0 _
    refine x_aloadn (x := 98) rfl rfl ?_
    refine x_iloadn (x := v19) rfl rfl ?_
    refine x_iloadn (x := a2) rfl rfl ?_
    refine x_inv (N := m_X0_readHouses) (As := [.int v19, .int a2]) (b := 98) (st := []) (dx9 := 3) (mc := 0) (ms := 0) (host := "") 0 rfl t_X0_readHouses ⟨Or.inl q_0_69, i_X0_readHouses.1, i_X0_readHouses.2⟩ ⟨by decide, rfl⟩ (congrArg Prod.fst (J.1.1 98 (0, 16) rfl)) rfl (by decide) rfl rfl ⟨by decide, by decide⟩ (sf_X0_readHouses_r98d (jr_of rfl (by omega)) (jr_of rfl (by omega)) hD J rfl  (fun h J S22 X23 => ?_))
    have Sm := jSm_tr rfl Sm S22
    rw [X23] at D
    show jX m_X0_turnTo 6 0 0 12 [(0, .ref 98), (1, .int v19), (2, .int a2)] [] _ 0 0 _
    refine x_vret rfl rfl ?_
    show jX m_X4_partOut 7 0 0 71 [(4, .int v14), (3, .int v10), (0, .ref 107), (1, .int a1), (2, .int a2)] [] _ 0 0 _
    refine x_lconst (v := 0) rfl kl_0 ?_
    refine x_lstore (lsx9 := [(5, .long 0), (4, .int v14), (3, .int v10), (0, .ref 107), (1, .int a1), (2, .int a2)]) rfl rfl rfl ?_
    refine x_iconst (v := 0) rfl ki_0 ?_
    refine x_istore (lsx9 := [(7, .int 0), (5, .long 0), (4, .int v14), (3, .int v10), (0, .ref 107), (1, .int a1), (2, .int a2)]) rfl rfl rfl ?_
    exact jX.sub (jsb_c rfl (jsb_c rfl (jsb_c rfl (jsb_c rfl (jsb_c rfl jsb_n))))) (ct_X4_partOut_r107d_77 hD hQ  41 v10 v14 0 0 h (by have := jk_0; omega) (jr_of rfl (by omega)) (jr_of rfl (by omega)) (jr_of jk_0 (by omega)) J Sm (by rw [jkl_0, jk_0]; exact D))
  ·
    rw [if_pos (by omega)] at D
    refine x_aloadn (x := 111) rfl rfl ?_
    refine x_iconst (v := 1) rfl ki_1 ?_
    refine z_iald0 (N := 3) rfl J rfl jk_1 (by omega) (fun v24 qv24 => ?_)
    have ev24 := jfull v24
    try rw [vrn (n := 1) (by decide) qv24] at D
    refine x_iloadn (x := a2) rfl rfl ?_
    refine x_icne (tgt := 33) rfl rfl (ti_ne rfl rfl ⟨fun c25 => ?_, fun c25 => ?_⟩)
    ·
      rw [if_neg (by omega)] at D
      refine x_iconst (v := 0) rfl ki_0 ?_
      refine x_istore (lsx9 := [(4, .int 0), (0, .ref 111), (1, .int a1), (2, .int a2), (3, .int v1)]) rfl rfl rfl ?_
      refine x_aloadn (x := 111) rfl rfl ?_
      refine x_iconst (v := 0) rfl ki_0 ?_
      refine x_iloadn (x := a1) rfl rfl ?_
      refine z_iast (N := 3) (l := 0) (u := 3) (w := a1.toInt) rfl hD J Sm rfl rfl jk_0 (by omega) rfl (wr_111) rfl (fun h w26 J Sm => ?_)
      rw [vwn (n := 0) (by decide) w26 (show a1.toInt = a1.toInt from by omega)] at D
      refine x_aloadn (x := 111) rfl rfl ?_
      refine x_iconst (v := 1) rfl ki_1 ?_
      refine x_iloadn (x := a2) rfl rfl ?_
      refine z_iast (N := 3) (l := 0) (u := 3) (w := a2.toInt) rfl hD J Sm rfl rfl jk_1 (by omega) rfl (wr_111) rfl (fun h w27 J Sm => ?_)
      rw [vwn (n := 1) (by decide) w27 (show a2.toInt = a2.toInt from by omega)] at D
      refine x_aloadn (x := 111) rfl rfl ?_
      refine x_iconst (v := 2) rfl ki_2 ?_
      refine x_iloadn (x := v1) rfl rfl ?_
      refine z_iast (N := 3) (l := 0) (u := 3) (w := v1.toInt) rfl hD J Sm rfl rfl jk_2 (by omega) rfl (wr_111) rfl (fun h w28 J Sm => ?_)
      rw [vwn (n := 2) (by decide) w28 (show v1.toInt = v1.toInt from by omega)] at D
      refine x_iload (x := 0) rfl rfl ?_
      refine x_zret rfl rfl (by decide) ?_
      show jX m_X4_partOut 7 0 0 16 [(0, .ref 107), (1, .int a1), (2, .int a2)] [.int 0] _ 0 0 _
      refine x_ifeq (tgt := 20) rfl rfl (ti_eq jk_0 jk_0 (br_t (by omega) ?_))
      refine x_aloadn (x := 107) rfl rfl ?_
      refine z_getR (N := 18) (b := 32) 4 0 rfl f_4_59 rfl J rfl 13696 ⟨rfl, rfl⟩ rfl ?_
      refine z_getR (N := 20) (b := 53) 1 10 rfl f_4_95 rfl J rfl 4106 ⟨rfl, rfl⟩ rfl ?_
      refine x_iloadn (x := a1) rfl rfl ?_
      refine x_iconst (v := 2) rfl ki_2 ?_
      refine x_inv (N := m_X8_at) (As := [.int a1, .int 2]) (b := 53) (st := []) (dx9 := 1) (mc := 0) (ms := 0) (host := "") 8 rfl t_X8_at ⟨Or.inl q_4_98, i_X8_at.1, i_X8_at.2⟩ ⟨by decide, rfl⟩ (congrArg Prod.fst (J.1.1 53 (8, 4) rfl)) rfl (by decide) rfl rfl ⟨by decide, by decide⟩ (sf_X8_at_r53_c2d  hD J rfl  (fun v32 h ev32 J S29 X30 X31 => ?_))
      have Sm := jSm_tr rfl Sm S29
      try rw [X30] at D
      try rw [← X31] at D
      show jX m_X4_partOut 7 0 0 32 [(0, .ref 107), (1, .int a1), (2, .int a2)] [.int v32] _ 0 0 _
      refine x_istoren (lsx9 := [(3, .int v32), (0, .ref 107), (1, .int a1), (2, .int a2)]) rfl rfl rfl ?_
      refine x_aloadn (x := 107) rfl rfl ?_
      refine z_getR (N := 18) (b := 32) 4 0 rfl f_4_59 rfl J rfl 13696 ⟨rfl, rfl⟩ rfl ?_
      refine z_getR (N := 20) (b := 53) 1 10 rfl f_4_95 rfl J rfl 4106 ⟨rfl, rfl⟩ rfl ?_
      refine x_iloadn (x := a1) rfl rfl ?_
      refine x_iconst (v := 3) rfl ki_3 ?_
      refine x_inv (N := m_X8_at) (As := [.int a1, .int 3]) (b := 53) (st := []) (dx9 := 1) (mc := 0) (ms := 0) (host := "") 8 rfl t_X8_at ⟨Or.inl q_4_98, i_X8_at.1, i_X8_at.2⟩ ⟨by decide, rfl⟩ (congrArg Prod.fst (J.1.1 53 (8, 4) rfl)) rfl (by decide) rfl rfl ⟨by decide, by decide⟩ (sf_X8_at_r53_c3d  hD J rfl  (fun v36 h ev36 J S33 X34 X35 => ?_))
      have Sm := jSm_tr rfl Sm S33
      try rw [X34] at D
      try rw [← X35] at D
      show jX m_X4_partOut 7 0 0 45 [(3, .int v32), (0, .ref 107), (1, .int a1), (2, .int a2)] [.int v36] _ 0 0 _
      refine x_istore (lsx9 := [(4, .int v36), (3, .int v32), (0, .ref 107), (1, .int a1), (2, .int a2)]) rfl rfl rfl ?_
      refine x_aloadn (x := 107) rfl rfl ?_
      refine z_getR (N := 18) (b := 98) 4 2 rfl f_4_67 rfl J rfl 13698 ⟨rfl, rfl⟩ rfl ?_
      refine x_aloadn (x := 107) rfl rfl ?_
      refine z_getR (N := 18) (b := 32) 4 0 rfl f_4_59 rfl J rfl 13696 ⟨rfl, rfl⟩ rfl ?_
      refine z_getR (N := 20) (b := 53) 1 10 rfl f_4_95 rfl J rfl 4106 ⟨rfl, rfl⟩ rfl ?_
      refine x_iloadn (x := a1) rfl rfl ?_
      refine x_iconst (v := 1) rfl ki_1 ?_
      refine x_inv (N := m_X8_at) (As := [.int a1, .int 1]) (b := 53) (st := [.ref 98]) (dx9 := 1) (mc := 0) (ms := 0) (host := "") 8 rfl t_X8_at ⟨Or.inl q_4_98, i_X8_at.1, i_X8_at.2⟩ ⟨by decide, rfl⟩ (congrArg Prod.fst (J.1.1 53 (8, 4) rfl)) rfl (by decide) rfl rfl ⟨by decide, by decide⟩ (sf_X8_at_r53_c1d  hD J rfl  (fun v40 h ev40 J S37 X38 X39 => ?_))
      have Sm := jSm_tr rfl Sm S37
      try rw [X38] at D
      try rw [← X39] at D
      show jX m_X4_partOut 7 0 0 63 [(4, .int v36), (3, .int v32), (0, .ref 107), (1, .int a1), (2, .int a2)] [.int v40, .ref 98] _ 0 0 _
      refine x_sipush (v := 366) rfl ks_366 ?_
      refine z_imul rfl rfl jk_366 (by omega) (fun v41 ev41 => ?_)
      refine x_iloadn (x := a2) rfl rfl ?_
      refine x_inv (N := m_X0_turnTo) (As := [.int v41, .int a2]) (b := 98) (st := []) (dx9 := 6) (mc := 0) (ms := 0) (host := "") 0 rfl t_X0_turnTo ⟨Or.inl q_4_101, i_X0_turnTo.1, i_X0_turnTo.2⟩ ⟨by decide, rfl⟩ (congrArg Prod.fst (J.1.1 98 (0, 16) rfl)) rfl (by decide) rfl rfl ⟨by decide, by decide⟩ (jC.of rfl k_X0_turnTo rfl ?_)
      show jX m_X0_turnTo 6 0 0 0 [(0, .ref 98), (1, .int v41), (2, .int a2)] [] _ 0 0 _
      refine x_aloadn (x := 98) rfl rfl ?_
      refine x_iloadn (x := v41) rfl rfl ?_
      refine x_iloadn (x := a2) rfl rfl ?_
      try rw [show (v40.toInt * 366) = v41.toInt from by omega] at D
      refine x_inv (N := m_X0_readLaws) (As := [.int v41, .int a2]) (b := 98) (st := []) (dx9 := 3) (mc := 0) (ms := 0) (host := "") 0 rfl t_X0_readLaws ⟨Or.inl q_0_65, i_X0_readLaws.1, i_X0_readLaws.2⟩ ⟨by decide, rfl⟩ (congrArg Prod.fst (J.1.1 98 (0, 16) rfl)) rfl (by decide) rfl rfl ⟨by decide, by decide⟩ (sf_X0_readLaws_r98d (jr_of rfl (by omega)) (jr_of rfl (by omega)) hD J rfl  (fun h J S42 X43 => ?_))
      have Sm := jSm_tr rfl Sm S42
      rw [X43] at D
      show jX m_X0_turnTo 6 0 0 6 [(0, .ref 98), (1, .int v41), (2, .int a2)] [] _ 0 0 _
      refine x_aloadn (x := 98) rfl rfl ?_
      refine x_iloadn (x := v41) rfl rfl ?_
      refine x_iloadn (x := a2) rfl rfl ?_
      refine x_inv (N := m_X0_readHouses) (As := [.int v41, .int a2]) (b := 98) (st := []) (dx9 := 3) (mc := 0) (ms := 0) (host := "") 0 rfl t_X0_readHouses ⟨Or.inl q_0_69, i_X0_readHouses.1, i_X0_readHouses.2⟩ ⟨by decide, rfl⟩ (congrArg Prod.fst (J.1.1 98 (0, 16) rfl)) rfl (by decide) rfl rfl ⟨by decide, by decide⟩ (sf_X0_readHouses_r98d (jr_of rfl (by omega)) (jr_of rfl (by omega)) hD J rfl  (fun h J S44 X45 => ?_))
      have Sm := jSm_tr rfl Sm S44
      rw [X45] at D
      show jX m_X0_turnTo 6 0 0 12 [(0, .ref 98), (1, .int v41), (2, .int a2)] [] _ 0 0 _
      refine x_vret rfl rfl ?_
      show jX m_X4_partOut 7 0 0 71 [(4, .int v36), (3, .int v32), (0, .ref 107), (1, .int a1), (2, .int a2)] [] _ 0 0 _
      refine x_lconst (v := 0) rfl kl_0 ?_
      refine x_lstore (lsx9 := [(5, .long 0), (4, .int v36), (3, .int v32), (0, .ref 107), (1, .int a1), (2, .int a2)]) rfl rfl rfl ?_
      refine x_iconst (v := 0) rfl ki_0 ?_
      refine x_istore (lsx9 := [(7, .int 0), (5, .long 0), (4, .int v36), (3, .int v32), (0, .ref 107), (1, .int a1), (2, .int a2)]) rfl rfl rfl ?_
      exact jX.sub (jsb_c rfl (jsb_c rfl (jsb_c rfl (jsb_c rfl (jsb_c rfl jsb_n))))) (ct_X4_partOut_r107d_77 hD hQ  41 v32 v36 0 0 h (by have := jk_0; omega) (jr_of rfl (by omega)) (jr_of rfl (by omega)) (jr_of jk_0 (by omega)) J Sm (by rw [jkl_0, jk_0]; exact D))
    ·
      rw [if_pos (by omega)] at D
      refine x_aloadn (x := 111) rfl rfl ?_
      refine x_iconst (v := 2) rfl ki_2 ?_
      refine z_iald0 (N := 3) rfl J rfl jk_2 (by omega) (fun v46 qv46 => ?_)
      have ev46 := jfull v46
      try rw [vrn (n := 2) (by decide) qv46] at D
      refine x_iloadn (x := v1) rfl rfl ?_
      refine x_icne (tgt := 33) rfl rfl (ti_ne rfl rfl ⟨fun c47 => ?_, fun c47 => ?_⟩)
      ·
        rw [if_neg (by omega)] at D
        refine x_iconst (v := 0) rfl ki_0 ?_
        refine x_istore (lsx9 := [(4, .int 0), (0, .ref 111), (1, .int a1), (2, .int a2), (3, .int v1)]) rfl rfl rfl ?_
        refine x_aloadn (x := 111) rfl rfl ?_
        refine x_iconst (v := 0) rfl ki_0 ?_
        refine x_iloadn (x := a1) rfl rfl ?_
        refine z_iast (N := 3) (l := 0) (u := 3) (w := a1.toInt) rfl hD J Sm rfl rfl jk_0 (by omega) rfl (wr_111) rfl (fun h w48 J Sm => ?_)
        rw [vwn (n := 0) (by decide) w48 (show a1.toInt = a1.toInt from by omega)] at D
        refine x_aloadn (x := 111) rfl rfl ?_
        refine x_iconst (v := 1) rfl ki_1 ?_
        refine x_iloadn (x := a2) rfl rfl ?_
        refine z_iast (N := 3) (l := 0) (u := 3) (w := a2.toInt) rfl hD J Sm rfl rfl jk_1 (by omega) rfl (wr_111) rfl (fun h w49 J Sm => ?_)
        rw [vwn (n := 1) (by decide) w49 (show a2.toInt = a2.toInt from by omega)] at D
        refine x_aloadn (x := 111) rfl rfl ?_
        refine x_iconst (v := 2) rfl ki_2 ?_
        refine x_iloadn (x := v1) rfl rfl ?_
        refine z_iast (N := 3) (l := 0) (u := 3) (w := v1.toInt) rfl hD J Sm rfl rfl jk_2 (by omega) rfl (wr_111) rfl (fun h w50 J Sm => ?_)
        rw [vwn (n := 2) (by decide) w50 (show v1.toInt = v1.toInt from by omega)] at D
        refine x_iload (x := 0) rfl rfl ?_
        refine x_zret rfl rfl (by decide) ?_
        show jX m_X4_partOut 7 0 0 16 [(0, .ref 107), (1, .int a1), (2, .int a2)] [.int 0] _ 0 0 _
        refine x_ifeq (tgt := 20) rfl rfl (ti_eq jk_0 jk_0 (br_t (by omega) ?_))
        refine x_aloadn (x := 107) rfl rfl ?_
        refine z_getR (N := 18) (b := 32) 4 0 rfl f_4_59 rfl J rfl 13696 ⟨rfl, rfl⟩ rfl ?_
        refine z_getR (N := 20) (b := 53) 1 10 rfl f_4_95 rfl J rfl 4106 ⟨rfl, rfl⟩ rfl ?_
        refine x_iloadn (x := a1) rfl rfl ?_
        refine x_iconst (v := 2) rfl ki_2 ?_
        refine x_inv (N := m_X8_at) (As := [.int a1, .int 2]) (b := 53) (st := []) (dx9 := 1) (mc := 0) (ms := 0) (host := "") 8 rfl t_X8_at ⟨Or.inl q_4_98, i_X8_at.1, i_X8_at.2⟩ ⟨by decide, rfl⟩ (congrArg Prod.fst (J.1.1 53 (8, 4) rfl)) rfl (by decide) rfl rfl ⟨by decide, by decide⟩ (sf_X8_at_r53_c2d  hD J rfl  (fun v54 h ev54 J S51 X52 X53 => ?_))
        have Sm := jSm_tr rfl Sm S51
        try rw [X52] at D
        try rw [← X53] at D
        show jX m_X4_partOut 7 0 0 32 [(0, .ref 107), (1, .int a1), (2, .int a2)] [.int v54] _ 0 0 _
        refine x_istoren (lsx9 := [(3, .int v54), (0, .ref 107), (1, .int a1), (2, .int a2)]) rfl rfl rfl ?_
        refine x_aloadn (x := 107) rfl rfl ?_
        refine z_getR (N := 18) (b := 32) 4 0 rfl f_4_59 rfl J rfl 13696 ⟨rfl, rfl⟩ rfl ?_
        refine z_getR (N := 20) (b := 53) 1 10 rfl f_4_95 rfl J rfl 4106 ⟨rfl, rfl⟩ rfl ?_
        refine x_iloadn (x := a1) rfl rfl ?_
        refine x_iconst (v := 3) rfl ki_3 ?_
        refine x_inv (N := m_X8_at) (As := [.int a1, .int 3]) (b := 53) (st := []) (dx9 := 1) (mc := 0) (ms := 0) (host := "") 8 rfl t_X8_at ⟨Or.inl q_4_98, i_X8_at.1, i_X8_at.2⟩ ⟨by decide, rfl⟩ (congrArg Prod.fst (J.1.1 53 (8, 4) rfl)) rfl (by decide) rfl rfl ⟨by decide, by decide⟩ (sf_X8_at_r53_c3d  hD J rfl  (fun v58 h ev58 J S55 X56 X57 => ?_))
        have Sm := jSm_tr rfl Sm S55
        try rw [X56] at D
        try rw [← X57] at D
        show jX m_X4_partOut 7 0 0 45 [(3, .int v54), (0, .ref 107), (1, .int a1), (2, .int a2)] [.int v58] _ 0 0 _
        refine x_istore (lsx9 := [(4, .int v58), (3, .int v54), (0, .ref 107), (1, .int a1), (2, .int a2)]) rfl rfl rfl ?_
        refine x_aloadn (x := 107) rfl rfl ?_
        refine z_getR (N := 18) (b := 98) 4 2 rfl f_4_67 rfl J rfl 13698 ⟨rfl, rfl⟩ rfl ?_
        refine x_aloadn (x := 107) rfl rfl ?_
        refine z_getR (N := 18) (b := 32) 4 0 rfl f_4_59 rfl J rfl 13696 ⟨rfl, rfl⟩ rfl ?_
        refine z_getR (N := 20) (b := 53) 1 10 rfl f_4_95 rfl J rfl 4106 ⟨rfl, rfl⟩ rfl ?_
        refine x_iloadn (x := a1) rfl rfl ?_
        refine x_iconst (v := 1) rfl ki_1 ?_
        refine x_inv (N := m_X8_at) (As := [.int a1, .int 1]) (b := 53) (st := [.ref 98]) (dx9 := 1) (mc := 0) (ms := 0) (host := "") 8 rfl t_X8_at ⟨Or.inl q_4_98, i_X8_at.1, i_X8_at.2⟩ ⟨by decide, rfl⟩ (congrArg Prod.fst (J.1.1 53 (8, 4) rfl)) rfl (by decide) rfl rfl ⟨by decide, by decide⟩ (sf_X8_at_r53_c1d  hD J rfl  (fun v62 h ev62 J S59 X60 X61 => ?_))
        have Sm := jSm_tr rfl Sm S59
        try rw [X60] at D
        try rw [← X61] at D
        show jX m_X4_partOut 7 0 0 63 [(4, .int v58), (3, .int v54), (0, .ref 107), (1, .int a1), (2, .int a2)] [.int v62, .ref 98] _ 0 0 _
        refine x_sipush (v := 366) rfl ks_366 ?_
        refine z_imul rfl rfl jk_366 (by omega) (fun v63 ev63 => ?_)
        refine x_iloadn (x := a2) rfl rfl ?_
        refine x_inv (N := m_X0_turnTo) (As := [.int v63, .int a2]) (b := 98) (st := []) (dx9 := 6) (mc := 0) (ms := 0) (host := "") 0 rfl t_X0_turnTo ⟨Or.inl q_4_101, i_X0_turnTo.1, i_X0_turnTo.2⟩ ⟨by decide, rfl⟩ (congrArg Prod.fst (J.1.1 98 (0, 16) rfl)) rfl (by decide) rfl rfl ⟨by decide, by decide⟩ (jC.of rfl k_X0_turnTo rfl ?_)
        show jX m_X0_turnTo 6 0 0 0 [(0, .ref 98), (1, .int v63), (2, .int a2)] [] _ 0 0 _
        refine x_aloadn (x := 98) rfl rfl ?_
        refine x_iloadn (x := v63) rfl rfl ?_
        refine x_iloadn (x := a2) rfl rfl ?_
        try rw [show (v62.toInt * 366) = v63.toInt from by omega] at D
        refine x_inv (N := m_X0_readLaws) (As := [.int v63, .int a2]) (b := 98) (st := []) (dx9 := 3) (mc := 0) (ms := 0) (host := "") 0 rfl t_X0_readLaws ⟨Or.inl q_0_65, i_X0_readLaws.1, i_X0_readLaws.2⟩ ⟨by decide, rfl⟩ (congrArg Prod.fst (J.1.1 98 (0, 16) rfl)) rfl (by decide) rfl rfl ⟨by decide, by decide⟩ (sf_X0_readLaws_r98d (jr_of rfl (by omega)) (jr_of rfl (by omega)) hD J rfl  (fun h J S64 X65 => ?_))
        have Sm := jSm_tr rfl Sm S64
        rw [X65] at D
        show jX m_X0_turnTo 6 0 0 6 [(0, .ref 98), (1, .int v63), (2, .int a2)] [] _ 0 0 _
        refine x_aloadn (x := 98) rfl rfl ?_
        refine x_iloadn (x := v63) rfl rfl ?_
        refine x_iloadn (x := a2) rfl rfl ?_
        refine x_inv (N := m_X0_readHouses) (As := [.int v63, .int a2]) (b := 98) (st := []) (dx9 := 3) (mc := 0) (ms := 0) (host := "") 0 rfl t_X0_readHouses ⟨Or.inl q_0_69, i_X0_readHouses.1, i_X0_readHouses.2⟩ ⟨by decide, rfl⟩ (congrArg Prod.fst (J.1.1 98 (0, 16) rfl)) rfl (by decide) rfl rfl ⟨by decide, by decide⟩ (sf_X0_readHouses_r98d (jr_of rfl (by omega)) (jr_of rfl (by omega)) hD J rfl  (fun h J S66 X67 => ?_))
        have Sm := jSm_tr rfl Sm S66
        rw [X67] at D
        show jX m_X0_turnTo 6 0 0 12 [(0, .ref 98), (1, .int v63), (2, .int a2)] [] _ 0 0 _
        refine x_vret rfl rfl ?_
        show jX m_X4_partOut 7 0 0 71 [(4, .int v58), (3, .int v54), (0, .ref 107), (1, .int a1), (2, .int a2)] [] _ 0 0 _
        refine x_lconst (v := 0) rfl kl_0 ?_
        refine x_lstore (lsx9 := [(5, .long 0), (4, .int v58), (3, .int v54), (0, .ref 107), (1, .int a1), (2, .int a2)]) rfl rfl rfl ?_
        refine x_iconst (v := 0) rfl ki_0 ?_
        refine x_istore (lsx9 := [(7, .int 0), (5, .long 0), (4, .int v58), (3, .int v54), (0, .ref 107), (1, .int a1), (2, .int a2)]) rfl rfl rfl ?_
        exact jX.sub (jsb_c rfl (jsb_c rfl (jsb_c rfl (jsb_c rfl (jsb_c rfl jsb_n))))) (ct_X4_partOut_r107d_77 hD hQ  41 v54 v58 0 0 h (by have := jk_0; omega) (jr_of rfl (by omega)) (jr_of rfl (by omega)) (jr_of jk_0 (by omega)) J Sm (by rw [jkl_0, jk_0]; exact D))
      ·
        rw [if_pos (by omega)] at D
        refine x_iconst (v := 1) rfl ki_1 ?_
        refine x_goto (tgt := 34) rfl rfl ?_
        refine x_istore (lsx9 := [(4, .int 1), (0, .ref 111), (1, .int a1), (2, .int a2), (3, .int v1)]) rfl rfl rfl ?_
        refine x_aloadn (x := 111) rfl rfl ?_
        refine x_iconst (v := 0) rfl ki_0 ?_
        refine x_iloadn (x := a1) rfl rfl ?_
        refine z_iast (N := 3) (l := 0) (u := 3) (w := a1.toInt) rfl hD J Sm rfl rfl jk_0 (by omega) rfl (wr_111) rfl (fun h w68 J Sm => ?_)
        rw [vwn (n := 0) (by decide) w68 (show a1.toInt = a1.toInt from by omega)] at D
        refine x_aloadn (x := 111) rfl rfl ?_
        refine x_iconst (v := 1) rfl ki_1 ?_
        refine x_iloadn (x := a2) rfl rfl ?_
        refine z_iast (N := 3) (l := 0) (u := 3) (w := a2.toInt) rfl hD J Sm rfl rfl jk_1 (by omega) rfl (wr_111) rfl (fun h w69 J Sm => ?_)
        rw [vwn (n := 1) (by decide) w69 (show a2.toInt = a2.toInt from by omega)] at D
        refine x_aloadn (x := 111) rfl rfl ?_
        refine x_iconst (v := 2) rfl ki_2 ?_
        refine x_iloadn (x := v1) rfl rfl ?_
        refine z_iast (N := 3) (l := 0) (u := 3) (w := v1.toInt) rfl hD J Sm rfl rfl jk_2 (by omega) rfl (wr_111) rfl (fun h w70 J Sm => ?_)
        rw [vwn (n := 2) (by decide) w70 (show v1.toInt = v1.toInt from by omega)] at D
        refine x_iload (x := 1) rfl rfl ?_
        refine x_zret rfl rfl (by decide) ?_
        show jX m_X4_partOut 7 0 0 16 [(0, .ref 107), (1, .int a1), (2, .int a2)] [.int 1] _ 0 0 _
        refine x_ifeq (tgt := 20) rfl rfl (ti_eq jk_1 jk_0 (br_f (by omega) ?_))
        refine x_vret rfl rfl ?_
        exact hQ _ J Sm D.symm
def fp_X8_at_r55_c1d : jFp := []
set_option maxRecDepth 100000 in
set_option maxHeartbeats 4000000 in
theorem ct_X8_at_r55_c1d_24 {Dy : jH → Prop} {h0 : jH} {Q : Option Value → jH → Prop} {dr : Int} (hD : jDk Dy) (hQ : ∀ (v : Int32) hx9, 0 ≤ v.toInt ∧ v.toInt ≤ 146399 → jJ jSgX Dy hx9 → jSm fp_X8_at_r55_c1d h0 hx9 → dr = v.toInt → vw hx9 = vw h0 → Q (some (.int v)) hx9) : ∀ (h : jH), jJ jSgX Dy h → jSm fp_X8_at_r55_c1d h0 h → d_X8_at_r55_c1d_24  (vw h) = dr → vw h = vw h0 → jX m_X8_at 1 0 0 24 [] [] h 0 0 Q := by
  intro  h    J Sm D EV
  unfold d_X8_at_r55_c1d_24 at D
  refine x_iconst (v := 0) rfl ki_0 ?_
  refine x_iret rfl rfl ?_
  exact hQ _ _ (jr_of jk_0 (by omega)) J Sm (D.symm.trans (show 0 = (0 : Int32).toInt from by have := jk_0; omega)) EV
set_option maxRecDepth 100000 in
set_option maxHeartbeats 4000000 in
theorem sf_X8_at_r55_c1d {Dy : jH → Prop} {h : jH} {Q : Option Value → jH → Prop} {dr : Int} {a1 : Int32} (y1 : 0 ≤ a1.toInt ∧ a1.toInt ≤ 99) (hD : jDk Dy) (J : jJ jSgX Dy h) (D : d_X8_at_r55_c1d a1.toInt (vw h) = dr) (hQ : ∀ (v : Int32) hx9, 0 ≤ v.toInt ∧ v.toInt ≤ 146399 → jJ jSgX Dy hx9 → jSm fp_X8_at_r55_c1d h hx9 → dr = v.toInt → vw hx9 = vw h → Q (some (.int v)) hx9) : jC m_X8_at 1 0 0 [.ref 55, .int a1, .int 1] h Q := by
  refine jC.of rfl k_X8_at rfl ?_
  have Sm := jSm_rf fp_X8_at_r55_c1d h
  show jX m_X8_at 1 0 0 0 [(0, .ref 55), (1, .int a1), (2, .int 1)] [] _ 0 0 _
  unfold d_X8_at_r55_c1d at D
  have EV : vw h = vw h := rfl
  refine x_iloadn (x := a1) rfl rfl ?_
  refine x_iflt (tgt := 24) rfl rfl (ti_lt rfl jk_0 (br_f (by omega) ?_))
  refine x_iloadn (x := a1) rfl rfl ?_
  refine x_aloadn (x := 55) rfl rfl ?_
  refine z_getI (N := 4) 8 3 rfl f_8_7 rfl J rfl sg_55_3_4_1_0_1 (fun v1 qv1 ev1 => ?_)
  try rw [vrf qv1] at D
  refine x_icge (tgt := 24) rfl rfl (ti_ge rfl rfl ⟨fun c2 => ?_, fun c2 => ?_⟩)
  ·
    rw [if_pos (by omega)] at D
    exact jX.sub jsb_n (ct_X8_at_r55_c1d_24 hD hQ  h J Sm D EV)
  ·
    rw [if_neg (by omega)] at D
    refine x_iloadn (x := 1) rfl rfl ?_
    refine x_iflt (tgt := 24) rfl rfl (ti_lt jk_1 jk_0 (br_f (by omega) ?_))
    refine x_iloadn (x := 1) rfl rfl ?_
    refine x_aloadn (x := 55) rfl rfl ?_
    refine z_getC (N := 4) (v := 5) 8 0 rfl f_8_19 rfl J rfl sg_55_0_1_1_0_1 jk_5 ?_
    refine x_iclt (tgt := 26) rfl rfl (ti_lt jk_1 jk_5 (br_t (by omega) ?_))
    refine x_aloadn (x := 55) rfl rfl ?_
    refine z_getR (N := 4) (b := 56) 8 2 rfl f_8_25 rfl J rfl 7042 ⟨rfl, rfl⟩ rfl ?_
    refine x_iloadn (x := a1) rfl rfl ?_
    refine x_aloadn (x := 55) rfl rfl ?_
    refine z_getC (N := 4) (v := 5) 8 0 rfl f_8_19 rfl J rfl sg_55_0_1_1_0_1 jk_5 ?_
    refine z_imul rfl rfl jk_5 (by omega) (fun v3 ev3 => ?_)
    refine x_iloadn (x := 1) rfl rfl ?_
    refine z_iadd rfl rfl jk_1 (by omega) (fun v4 ev4 => ?_)
    refine z_iald (N := 500) rfl J rfl sg_56_0_500_5_1_2 rfl (by omega) (fun v5 qv5 ev5 => ?_)
    try rw [vrd qv5 (show ((a1.toInt * 5) + 1) = v4.toInt from by omega)] at D
    refine x_iret rfl rfl ?_
    exact hQ _ _ (jr_of rfl (by omega)) J Sm (D.symm.trans (show v5.toInt = v5.toInt from by omega)) EV
def fp_X8_at_r55_c2d : jFp := []
set_option maxRecDepth 100000 in
set_option maxHeartbeats 4000000 in
theorem ct_X8_at_r55_c2d_24 {Dy : jH → Prop} {h0 : jH} {Q : Option Value → jH → Prop} {dr : Int} (hD : jDk Dy) (hQ : ∀ (v : Int32) hx9, 0 ≤ v.toInt ∧ v.toInt ≤ 39 → jJ jSgX Dy hx9 → jSm fp_X8_at_r55_c2d h0 hx9 → dr = v.toInt → vw hx9 = vw h0 → Q (some (.int v)) hx9) : ∀ (h : jH), jJ jSgX Dy h → jSm fp_X8_at_r55_c2d h0 h → d_X8_at_r55_c2d_24  (vw h) = dr → vw h = vw h0 → jX m_X8_at 1 0 0 24 [] [] h 0 0 Q := by
  intro  h    J Sm D EV
  unfold d_X8_at_r55_c2d_24 at D
  refine x_iconst (v := 0) rfl ki_0 ?_
  refine x_iret rfl rfl ?_
  exact hQ _ _ (jr_of jk_0 (by omega)) J Sm (D.symm.trans (show 0 = (0 : Int32).toInt from by have := jk_0; omega)) EV
set_option maxRecDepth 100000 in
set_option maxHeartbeats 4000000 in
theorem sf_X8_at_r55_c2d {Dy : jH → Prop} {h : jH} {Q : Option Value → jH → Prop} {dr : Int} {a1 : Int32} (y1 : 0 ≤ a1.toInt ∧ a1.toInt ≤ 99) (hD : jDk Dy) (J : jJ jSgX Dy h) (D : d_X8_at_r55_c2d a1.toInt (vw h) = dr) (hQ : ∀ (v : Int32) hx9, 0 ≤ v.toInt ∧ v.toInt ≤ 39 → jJ jSgX Dy hx9 → jSm fp_X8_at_r55_c2d h hx9 → dr = v.toInt → vw hx9 = vw h → Q (some (.int v)) hx9) : jC m_X8_at 1 0 0 [.ref 55, .int a1, .int 2] h Q := by
  refine jC.of rfl k_X8_at rfl ?_
  have Sm := jSm_rf fp_X8_at_r55_c2d h
  show jX m_X8_at 1 0 0 0 [(0, .ref 55), (1, .int a1), (2, .int 2)] [] _ 0 0 _
  unfold d_X8_at_r55_c2d at D
  have EV : vw h = vw h := rfl
  refine x_iloadn (x := a1) rfl rfl ?_
  refine x_iflt (tgt := 24) rfl rfl (ti_lt rfl jk_0 (br_f (by omega) ?_))
  refine x_iloadn (x := a1) rfl rfl ?_
  refine x_aloadn (x := 55) rfl rfl ?_
  refine z_getI (N := 4) 8 3 rfl f_8_7 rfl J rfl sg_55_3_4_1_0_1 (fun v1 qv1 ev1 => ?_)
  try rw [vrf qv1] at D
  refine x_icge (tgt := 24) rfl rfl (ti_ge rfl rfl ⟨fun c2 => ?_, fun c2 => ?_⟩)
  ·
    rw [if_pos (by omega)] at D
    exact jX.sub jsb_n (ct_X8_at_r55_c2d_24 hD hQ  h J Sm D EV)
  ·
    rw [if_neg (by omega)] at D
    refine x_iloadn (x := 2) rfl rfl ?_
    refine x_iflt (tgt := 24) rfl rfl (ti_lt jk_2 jk_0 (br_f (by omega) ?_))
    refine x_iloadn (x := 2) rfl rfl ?_
    refine x_aloadn (x := 55) rfl rfl ?_
    refine z_getC (N := 4) (v := 5) 8 0 rfl f_8_19 rfl J rfl sg_55_0_1_1_0_1 jk_5 ?_
    refine x_iclt (tgt := 26) rfl rfl (ti_lt jk_2 jk_5 (br_t (by omega) ?_))
    refine x_aloadn (x := 55) rfl rfl ?_
    refine z_getR (N := 4) (b := 56) 8 2 rfl f_8_25 rfl J rfl 7042 ⟨rfl, rfl⟩ rfl ?_
    refine x_iloadn (x := a1) rfl rfl ?_
    refine x_aloadn (x := 55) rfl rfl ?_
    refine z_getC (N := 4) (v := 5) 8 0 rfl f_8_19 rfl J rfl sg_55_0_1_1_0_1 jk_5 ?_
    refine z_imul rfl rfl jk_5 (by omega) (fun v3 ev3 => ?_)
    refine x_iloadn (x := 2) rfl rfl ?_
    refine z_iadd rfl rfl jk_2 (by omega) (fun v4 ev4 => ?_)
    refine z_iald (N := 500) rfl J rfl sg_56_0_500_5_2_3 rfl (by omega) (fun v5 qv5 ev5 => ?_)
    try rw [vrd qv5 (show ((a1.toInt * 5) + 2) = v4.toInt from by omega)] at D
    refine x_iret rfl rfl ?_
    exact hQ _ _ (jr_of rfl (by omega)) J Sm (D.symm.trans (show v5.toInt = v5.toInt from by omega)) EV
def fp_X8_at_r55_c3d : jFp := []
set_option maxRecDepth 100000 in
set_option maxHeartbeats 4000000 in
theorem ct_X8_at_r55_c3d_24 {Dy : jH → Prop} {h0 : jH} {Q : Option Value → jH → Prop} {dr : Int} (hD : jDk Dy) (hQ : ∀ (v : Int32) hx9, 0 ≤ v.toInt ∧ v.toInt ≤ 39 → jJ jSgX Dy hx9 → jSm fp_X8_at_r55_c3d h0 hx9 → dr = v.toInt → vw hx9 = vw h0 → Q (some (.int v)) hx9) : ∀ (h : jH), jJ jSgX Dy h → jSm fp_X8_at_r55_c3d h0 h → d_X8_at_r55_c3d_24  (vw h) = dr → vw h = vw h0 → jX m_X8_at 1 0 0 24 [] [] h 0 0 Q := by
  intro  h    J Sm D EV
  unfold d_X8_at_r55_c3d_24 at D
  refine x_iconst (v := 0) rfl ki_0 ?_
  refine x_iret rfl rfl ?_
  exact hQ _ _ (jr_of jk_0 (by omega)) J Sm (D.symm.trans (show 0 = (0 : Int32).toInt from by have := jk_0; omega)) EV
set_option maxRecDepth 100000 in
set_option maxHeartbeats 4000000 in
theorem sf_X8_at_r55_c3d {Dy : jH → Prop} {h : jH} {Q : Option Value → jH → Prop} {dr : Int} {a1 : Int32} (y1 : 0 ≤ a1.toInt ∧ a1.toInt ≤ 99) (hD : jDk Dy) (J : jJ jSgX Dy h) (D : d_X8_at_r55_c3d a1.toInt (vw h) = dr) (hQ : ∀ (v : Int32) hx9, 0 ≤ v.toInt ∧ v.toInt ≤ 39 → jJ jSgX Dy hx9 → jSm fp_X8_at_r55_c3d h hx9 → dr = v.toInt → vw hx9 = vw h → Q (some (.int v)) hx9) : jC m_X8_at 1 0 0 [.ref 55, .int a1, .int 3] h Q := by
  refine jC.of rfl k_X8_at rfl ?_
  have Sm := jSm_rf fp_X8_at_r55_c3d h
  show jX m_X8_at 1 0 0 0 [(0, .ref 55), (1, .int a1), (2, .int 3)] [] _ 0 0 _
  unfold d_X8_at_r55_c3d at D
  have EV : vw h = vw h := rfl
  refine x_iloadn (x := a1) rfl rfl ?_
  refine x_iflt (tgt := 24) rfl rfl (ti_lt rfl jk_0 (br_f (by omega) ?_))
  refine x_iloadn (x := a1) rfl rfl ?_
  refine x_aloadn (x := 55) rfl rfl ?_
  refine z_getI (N := 4) 8 3 rfl f_8_7 rfl J rfl sg_55_3_4_1_0_1 (fun v1 qv1 ev1 => ?_)
  try rw [vrf qv1] at D
  refine x_icge (tgt := 24) rfl rfl (ti_ge rfl rfl ⟨fun c2 => ?_, fun c2 => ?_⟩)
  ·
    rw [if_pos (by omega)] at D
    exact jX.sub jsb_n (ct_X8_at_r55_c3d_24 hD hQ  h J Sm D EV)
  ·
    rw [if_neg (by omega)] at D
    refine x_iloadn (x := 3) rfl rfl ?_
    refine x_iflt (tgt := 24) rfl rfl (ti_lt jk_3 jk_0 (br_f (by omega) ?_))
    refine x_iloadn (x := 3) rfl rfl ?_
    refine x_aloadn (x := 55) rfl rfl ?_
    refine z_getC (N := 4) (v := 5) 8 0 rfl f_8_19 rfl J rfl sg_55_0_1_1_0_1 jk_5 ?_
    refine x_iclt (tgt := 26) rfl rfl (ti_lt jk_3 jk_5 (br_t (by omega) ?_))
    refine x_aloadn (x := 55) rfl rfl ?_
    refine z_getR (N := 4) (b := 56) 8 2 rfl f_8_25 rfl J rfl 7042 ⟨rfl, rfl⟩ rfl ?_
    refine x_iloadn (x := a1) rfl rfl ?_
    refine x_aloadn (x := 55) rfl rfl ?_
    refine z_getC (N := 4) (v := 5) 8 0 rfl f_8_19 rfl J rfl sg_55_0_1_1_0_1 jk_5 ?_
    refine z_imul rfl rfl jk_5 (by omega) (fun v3 ev3 => ?_)
    refine x_iloadn (x := 3) rfl rfl ?_
    refine z_iadd rfl rfl jk_3 (by omega) (fun v4 ev4 => ?_)
    refine z_iald (N := 500) rfl J rfl sg_56_0_500_5_3_4 rfl (by omega) (fun v5 qv5 ev5 => ?_)
    try rw [vrd qv5 (show ((a1.toInt * 5) + 3) = v4.toInt from by omega)] at D
    refine x_iret rfl rfl ?_
    exact hQ _ _ (jr_of rfl (by omega)) J Sm (D.symm.trans (show v5.toInt = v5.toInt from by omega)) EV
def fp_X8_at_r55_c4d : jFp := []
set_option maxRecDepth 100000 in
set_option maxHeartbeats 4000000 in
theorem ct_X8_at_r55_c4d_24 {Dy : jH → Prop} {h0 : jH} {Q : Option Value → jH → Prop} {dr : Int} (hD : jDk Dy) (hQ : ∀ (v : Int32) hx9, 0 ≤ v.toInt ∧ v.toInt ≤ 1000000 → jJ jSgX Dy hx9 → jSm fp_X8_at_r55_c4d h0 hx9 → dr = v.toInt → vw hx9 = vw h0 → Q (some (.int v)) hx9) : ∀ (h : jH), jJ jSgX Dy h → jSm fp_X8_at_r55_c4d h0 h → d_X8_at_r55_c4d_24  (vw h) = dr → vw h = vw h0 → jX m_X8_at 1 0 0 24 [] [] h 0 0 Q := by
  intro  h    J Sm D EV
  unfold d_X8_at_r55_c4d_24 at D
  refine x_iconst (v := 0) rfl ki_0 ?_
  refine x_iret rfl rfl ?_
  exact hQ _ _ (jr_of jk_0 (by omega)) J Sm (D.symm.trans (show 0 = (0 : Int32).toInt from by have := jk_0; omega)) EV
set_option maxRecDepth 100000 in
set_option maxHeartbeats 4000000 in
theorem sf_X8_at_r55_c4d {Dy : jH → Prop} {h : jH} {Q : Option Value → jH → Prop} {dr : Int} {a1 : Int32} (y1 : 0 ≤ a1.toInt ∧ a1.toInt ≤ 99) (hD : jDk Dy) (J : jJ jSgX Dy h) (D : d_X8_at_r55_c4d a1.toInt (vw h) = dr) (hQ : ∀ (v : Int32) hx9, 0 ≤ v.toInt ∧ v.toInt ≤ 1000000 → jJ jSgX Dy hx9 → jSm fp_X8_at_r55_c4d h hx9 → dr = v.toInt → vw hx9 = vw h → Q (some (.int v)) hx9) : jC m_X8_at 1 0 0 [.ref 55, .int a1, .int 4] h Q := by
  refine jC.of rfl k_X8_at rfl ?_
  have Sm := jSm_rf fp_X8_at_r55_c4d h
  show jX m_X8_at 1 0 0 0 [(0, .ref 55), (1, .int a1), (2, .int 4)] [] _ 0 0 _
  unfold d_X8_at_r55_c4d at D
  have EV : vw h = vw h := rfl
  refine x_iloadn (x := a1) rfl rfl ?_
  refine x_iflt (tgt := 24) rfl rfl (ti_lt rfl jk_0 (br_f (by omega) ?_))
  refine x_iloadn (x := a1) rfl rfl ?_
  refine x_aloadn (x := 55) rfl rfl ?_
  refine z_getI (N := 4) 8 3 rfl f_8_7 rfl J rfl sg_55_3_4_1_0_1 (fun v1 qv1 ev1 => ?_)
  try rw [vrf qv1] at D
  refine x_icge (tgt := 24) rfl rfl (ti_ge rfl rfl ⟨fun c2 => ?_, fun c2 => ?_⟩)
  ·
    rw [if_pos (by omega)] at D
    exact jX.sub jsb_n (ct_X8_at_r55_c4d_24 hD hQ  h J Sm D EV)
  ·
    rw [if_neg (by omega)] at D
    refine x_iloadn (x := 4) rfl rfl ?_
    refine x_iflt (tgt := 24) rfl rfl (ti_lt jk_4 jk_0 (br_f (by omega) ?_))
    refine x_iloadn (x := 4) rfl rfl ?_
    refine x_aloadn (x := 55) rfl rfl ?_
    refine z_getC (N := 4) (v := 5) 8 0 rfl f_8_19 rfl J rfl sg_55_0_1_1_0_1 jk_5 ?_
    refine x_iclt (tgt := 26) rfl rfl (ti_lt jk_4 jk_5 (br_t (by omega) ?_))
    refine x_aloadn (x := 55) rfl rfl ?_
    refine z_getR (N := 4) (b := 56) 8 2 rfl f_8_25 rfl J rfl 7042 ⟨rfl, rfl⟩ rfl ?_
    refine x_iloadn (x := a1) rfl rfl ?_
    refine x_aloadn (x := 55) rfl rfl ?_
    refine z_getC (N := 4) (v := 5) 8 0 rfl f_8_19 rfl J rfl sg_55_0_1_1_0_1 jk_5 ?_
    refine z_imul rfl rfl jk_5 (by omega) (fun v3 ev3 => ?_)
    refine x_iloadn (x := 4) rfl rfl ?_
    refine z_iadd rfl rfl jk_4 (by omega) (fun v4 ev4 => ?_)
    refine z_iald (N := 500) rfl J rfl sg_56_0_500_5_4_5 rfl (by omega) (fun v5 qv5 ev5 => ?_)
    try rw [vrd qv5 (show ((a1.toInt * 5) + 4) = v4.toInt from by omega)] at D
    refine x_iret rfl rfl ?_
    exact hQ _ _ (jr_of rfl (by omega)) J Sm (D.symm.trans (show v5.toInt = v5.toInt from by omega)) EV
def fp_X8_isKnown_r53d : jFp := []
set_option maxRecDepth 100000 in
set_option maxHeartbeats 4000000 in
theorem ct_X8_isKnown_r53d_200032 {Dy : jH → Prop} {h0 : jH} {Q : Option Value → jH → Prop} {dr : Int} (hD : jDk Dy) (hQ : ∀ (v : Int32) hx9, 0 ≤ v.toInt ∧ v.toInt ≤ 1 → jJ jSgX Dy hx9 → jSm fp_X8_isKnown_r53d h0 hx9 → dr = v.toInt → vw hx9 = vw h0 → Q (some (.int v)) hx9) : ∀ (h : jH), jJ jSgX Dy h → jSm fp_X8_isKnown_r53d h0 h → d_X8_isKnown_r53d_200032  (vw h) = dr → vw h = vw h0 → jX m_X8_isKnown 1 0 0 32 [] [.int 0] h 0 0 Q := by
  intro  h    J Sm D EV
  unfold d_X8_isKnown_r53d_200032 at D
  refine x_zret rfl rfl (by decide) ?_
  exact hQ _ _ (jr_of jk_0 (by omega)) J Sm (D.symm.trans (show 0 = (0 : Int32).toInt from by have := jk_0; omega)) EV
set_option maxRecDepth 100000 in
set_option maxHeartbeats 4000000 in
theorem ct_X8_isKnown_r53d_300032 {Dy : jH → Prop} {h0 : jH} {Q : Option Value → jH → Prop} {dr : Int} (hD : jDk Dy) (hQ : ∀ (v : Int32) hx9, 0 ≤ v.toInt ∧ v.toInt ≤ 1 → jJ jSgX Dy hx9 → jSm fp_X8_isKnown_r53d h0 hx9 → dr = v.toInt → vw hx9 = vw h0 → Q (some (.int v)) hx9) : ∀ (h : jH), jJ jSgX Dy h → jSm fp_X8_isKnown_r53d h0 h → d_X8_isKnown_r53d_300032  (vw h) = dr → vw h = vw h0 → jX m_X8_isKnown 1 0 0 32 [] [.int 1] h 0 0 Q := by
  intro  h    J Sm D EV
  unfold d_X8_isKnown_r53d_300032 at D
  refine x_zret rfl rfl (by decide) ?_
  exact hQ _ _ (jr_of jk_1 (by omega)) J Sm (D.symm.trans (show 1 = (1 : Int32).toInt from by have := jk_1; omega)) EV
set_option maxRecDepth 100000 in
set_option maxHeartbeats 4000000 in
theorem ct_X8_isKnown_r53d_31 {Dy : jH → Prop} {h0 : jH} {Q : Option Value → jH → Prop} {dr : Int} (hD : jDk Dy) (hQ : ∀ (v : Int32) hx9, 0 ≤ v.toInt ∧ v.toInt ≤ 1 → jJ jSgX Dy hx9 → jSm fp_X8_isKnown_r53d h0 hx9 → dr = v.toInt → vw hx9 = vw h0 → Q (some (.int v)) hx9) : ∀ (h : jH), jJ jSgX Dy h → jSm fp_X8_isKnown_r53d h0 h → d_X8_isKnown_r53d_31  (vw h) = dr → vw h = vw h0 → jX m_X8_isKnown 1 0 0 31 [] [] h 0 0 Q := by
  intro  h    J Sm D EV
  unfold d_X8_isKnown_r53d_31 at D
  refine x_iconst (v := 0) rfl ki_0 ?_
  exact jX.sub jsb_n (ct_X8_isKnown_r53d_200032 hD hQ  h J Sm D EV)
set_option maxRecDepth 100000 in
set_option maxHeartbeats 4000000 in
theorem sf_X8_isKnown_r53d {Dy : jH → Prop} {h : jH} {Q : Option Value → jH → Prop} {dr : Int} {a1 : Int32} {a2 : Int32} (y2 : 0 ≤ a2.toInt ∧ a2.toInt ≤ 146399) (hD : jDk Dy) (J : jJ jSgX Dy h) (D : d_X8_isKnown_r53d a1.toInt a2.toInt (vw h) = dr) (hQ : ∀ (v : Int32) hx9, 0 ≤ v.toInt ∧ v.toInt ≤ 1 → jJ jSgX Dy hx9 → jSm fp_X8_isKnown_r53d h hx9 → dr = v.toInt → vw hx9 = vw h → Q (some (.int v)) hx9) : jC m_X8_isKnown 1 0 0 [.ref 53, .int a1, .int a2] h Q := by
  refine jC.of rfl k_X8_isKnown rfl ?_
  have Sm := jSm_rf fp_X8_isKnown_r53d h
  have ea1 := jfull a1
  show jX m_X8_isKnown 1 0 0 0 [(0, .ref 53), (1, .int a1), (2, .int a2)] [] _ 0 0 _
  unfold d_X8_isKnown_r53d at D
  have EV : vw h = vw h := rfl
  refine x_iloadn (x := a1) rfl rfl ?_
  refine x_iflt (tgt := 31) rfl rfl (ti_lt rfl jk_0 ⟨fun c1 => ?_, fun c1 => ?_⟩)
  ·
    rw [if_pos (by omega)] at D
    exact jX.sub jsb_n (ct_X8_isKnown_r53d_31 hD hQ  h J Sm D EV)
  ·
    rw [if_neg (by omega)] at D
    refine x_iloadn (x := a1) rfl rfl ?_
    refine x_aloadn (x := 53) rfl rfl ?_
    refine z_getI (N := 4) 8 3 rfl f_8_7 rfl J rfl sg_53_3_4_1_0_1 (fun v2 qv2 ev2 => ?_)
    try rw [vrf qv2] at D
    refine x_icge (tgt := 31) rfl rfl (ti_ge rfl rfl ⟨fun c3 => ?_, fun c3 => ?_⟩)
    ·
      rw [if_pos (by omega)] at D
      exact jX.sub jsb_n (ct_X8_isKnown_r53d_31 hD hQ  h J Sm D EV)
    ·
      rw [if_neg (by omega)] at D
      refine x_aloadn (x := 53) rfl rfl ?_
      refine z_getR (N := 4) (b := 54) 8 2 rfl f_8_25 rfl J rfl 6786 ⟨rfl, rfl⟩ rfl ?_
      refine x_iloadn (x := a1) rfl rfl ?_
      refine x_aloadn (x := 53) rfl rfl ?_
      refine z_getC (N := 4) (v := 4) 8 0 rfl f_8_19 rfl J rfl sg_53_0_1_1_0_1 jk_4 ?_
      refine z_imul rfl rfl jk_4 (by omega) (fun v4 ev4 => ?_)
      refine z_iald (N := 160) rfl J rfl sg_54_0_160_4_0_1 rfl (by omega) (fun v5 qv5 ev5 => ?_)
      try rw [vrd qv5 (show (a1.toInt * 4) = v4.toInt from by omega)] at D
      refine x_iloadn (x := a2) rfl rfl ?_
      refine x_icgt (tgt := 31) rfl rfl (ti_gt rfl rfl ⟨fun c6 => ?_, fun c6 => ?_⟩)
      ·
        rw [if_pos (by omega)] at D
        exact jX.sub jsb_n (ct_X8_isKnown_r53d_31 hD hQ  h J Sm D EV)
      ·
        rw [if_neg (by omega)] at D
        refine x_iconst (v := 1) rfl ki_1 ?_
        refine x_goto (tgt := 32) rfl rfl ?_
        exact jX.sub jsb_n (ct_X8_isKnown_r53d_300032 hD hQ  h J Sm D EV)
def fp_X8_isKnown_r55d : jFp := []
set_option maxRecDepth 100000 in
set_option maxHeartbeats 4000000 in
theorem ct_X8_isKnown_r55d_300032 {Dy : jH → Prop} {h0 : jH} {Q : Option Value → jH → Prop} {dr : Int} (hD : jDk Dy) (hQ : ∀ (v : Int32) hx9, 0 ≤ v.toInt ∧ v.toInt ≤ 1 → jJ jSgX Dy hx9 → jSm fp_X8_isKnown_r55d h0 hx9 → dr = v.toInt → vw hx9 = vw h0 → Q (some (.int v)) hx9) : ∀ (h : jH), jJ jSgX Dy h → jSm fp_X8_isKnown_r55d h0 h → d_X8_isKnown_r55d_300032  (vw h) = dr → vw h = vw h0 → jX m_X8_isKnown 1 0 0 32 [] [.int 1] h 0 0 Q := by
  intro  h    J Sm D EV
  unfold d_X8_isKnown_r55d_300032 at D
  refine x_zret rfl rfl (by decide) ?_
  exact hQ _ _ (jr_of jk_1 (by omega)) J Sm (D.symm.trans (show 1 = (1 : Int32).toInt from by have := jk_1; omega)) EV
set_option maxRecDepth 100000 in
set_option maxHeartbeats 4000000 in
theorem ct_X8_isKnown_r55d_200032 {Dy : jH → Prop} {h0 : jH} {Q : Option Value → jH → Prop} {dr : Int} (hD : jDk Dy) (hQ : ∀ (v : Int32) hx9, 0 ≤ v.toInt ∧ v.toInt ≤ 1 → jJ jSgX Dy hx9 → jSm fp_X8_isKnown_r55d h0 hx9 → dr = v.toInt → vw hx9 = vw h0 → Q (some (.int v)) hx9) : ∀ (h : jH), jJ jSgX Dy h → jSm fp_X8_isKnown_r55d h0 h → d_X8_isKnown_r55d_200032  (vw h) = dr → vw h = vw h0 → jX m_X8_isKnown 1 0 0 32 [] [.int 0] h 0 0 Q := by
  intro  h    J Sm D EV
  unfold d_X8_isKnown_r55d_200032 at D
  refine x_zret rfl rfl (by decide) ?_
  exact hQ _ _ (jr_of jk_0 (by omega)) J Sm (D.symm.trans (show 0 = (0 : Int32).toInt from by have := jk_0; omega)) EV
set_option maxRecDepth 100000 in
set_option maxHeartbeats 4000000 in
theorem ct_X8_isKnown_r55d_31 {Dy : jH → Prop} {h0 : jH} {Q : Option Value → jH → Prop} {dr : Int} (hD : jDk Dy) (hQ : ∀ (v : Int32) hx9, 0 ≤ v.toInt ∧ v.toInt ≤ 1 → jJ jSgX Dy hx9 → jSm fp_X8_isKnown_r55d h0 hx9 → dr = v.toInt → vw hx9 = vw h0 → Q (some (.int v)) hx9) : ∀ (h : jH), jJ jSgX Dy h → jSm fp_X8_isKnown_r55d h0 h → d_X8_isKnown_r55d_31  (vw h) = dr → vw h = vw h0 → jX m_X8_isKnown 1 0 0 31 [] [] h 0 0 Q := by
  intro  h    J Sm D EV
  unfold d_X8_isKnown_r55d_31 at D
  refine x_iconst (v := 0) rfl ki_0 ?_
  exact jX.sub jsb_n (ct_X8_isKnown_r55d_200032 hD hQ  h J Sm D EV)
set_option maxRecDepth 100000 in
set_option maxHeartbeats 4000000 in
theorem sf_X8_isKnown_r55d {Dy : jH → Prop} {h : jH} {Q : Option Value → jH → Prop} {dr : Int} {a1 : Int32} {a2 : Int32} (y1 : 0 ≤ a1.toInt ∧ a1.toInt ≤ 99) (y2 : 0 ≤ a2.toInt ∧ a2.toInt ≤ 146399) (hD : jDk Dy) (J : jJ jSgX Dy h) (D : d_X8_isKnown_r55d a1.toInt a2.toInt (vw h) = dr) (hQ : ∀ (v : Int32) hx9, 0 ≤ v.toInt ∧ v.toInt ≤ 1 → jJ jSgX Dy hx9 → jSm fp_X8_isKnown_r55d h hx9 → dr = v.toInt → vw hx9 = vw h → Q (some (.int v)) hx9) : jC m_X8_isKnown 1 0 0 [.ref 55, .int a1, .int a2] h Q := by
  refine jC.of rfl k_X8_isKnown rfl ?_
  have Sm := jSm_rf fp_X8_isKnown_r55d h
  show jX m_X8_isKnown 1 0 0 0 [(0, .ref 55), (1, .int a1), (2, .int a2)] [] _ 0 0 _
  unfold d_X8_isKnown_r55d at D
  have EV : vw h = vw h := rfl
  refine x_iloadn (x := a1) rfl rfl ?_
  refine x_iflt (tgt := 31) rfl rfl (ti_lt rfl jk_0 (br_f (by omega) ?_))
  refine x_iloadn (x := a1) rfl rfl ?_
  refine x_aloadn (x := 55) rfl rfl ?_
  refine z_getI (N := 4) 8 3 rfl f_8_7 rfl J rfl sg_55_3_4_1_0_1 (fun v1 qv1 ev1 => ?_)
  try rw [vrf qv1] at D
  refine x_icge (tgt := 31) rfl rfl (ti_ge rfl rfl ⟨fun c2 => ?_, fun c2 => ?_⟩)
  ·
    rw [if_pos (by omega)] at D
    exact jX.sub jsb_n (ct_X8_isKnown_r55d_31 hD hQ  h J Sm D EV)
  ·
    rw [if_neg (by omega)] at D
    refine x_aloadn (x := 55) rfl rfl ?_
    refine z_getR (N := 4) (b := 56) 8 2 rfl f_8_25 rfl J rfl 7042 ⟨rfl, rfl⟩ rfl ?_
    refine x_iloadn (x := a1) rfl rfl ?_
    refine x_aloadn (x := 55) rfl rfl ?_
    refine z_getC (N := 4) (v := 5) 8 0 rfl f_8_19 rfl J rfl sg_55_0_1_1_0_1 jk_5 ?_
    refine z_imul rfl rfl jk_5 (by omega) (fun v3 ev3 => ?_)
    refine z_iald (N := 500) rfl J rfl sg_56_0_500_5_0_1 rfl (by omega) (fun v4 qv4 ev4 => ?_)
    try rw [vrd qv4 (show (a1.toInt * 5) = v3.toInt from by omega)] at D
    refine x_iloadn (x := a2) rfl rfl ?_
    refine x_icgt (tgt := 31) rfl rfl (ti_gt rfl rfl ⟨fun c5 => ?_, fun c5 => ?_⟩)
    ·
      rw [if_pos (by omega)] at D
      exact jX.sub jsb_n (ct_X8_isKnown_r55d_31 hD hQ  h J Sm D EV)
    ·
      rw [if_neg (by omega)] at D
      refine x_iconst (v := 1) rfl ki_1 ?_
      refine x_goto (tgt := 32) rfl rfl ?_
      exact jX.sub jsb_n (ct_X8_isKnown_r55d_300032 hD hQ  h J Sm D EV)
def fp_X11_arrear_r31d : jFp := [(78, 13, 14), (82, 0, 600), (83, 0, 600), (84, 0, 200), (85, 0, 4), (86, 0, 3), (98, 10, 11), (98, 11, 12), (98, 12, 13), (98, 13, 14), (98, 14, 15), (98, 15, 16), (99, 0, 30), (100, 0, 30), (101, 0, 3), (102, 0, 40), (103, 0, 40), (104, 0, 40), (105, 0, 3), (106, 0, 100), (108, 0, 40), (109, 0, 40), (110, 0, 40), (111, 0, 3)]
set_option maxRecDepth 100000 in
set_option maxHeartbeats 4000000 in
theorem ct_X11_arrear_r31d_39 {Dy : jH → Prop} {h0 : jH} {Q : Option Value → jH → Prop} {dr : (Int × jW)} (hD : jDk Dy) (hQ : ∀ (v : Int32) hx9, jJ jSgX Dy hx9 → jSm fp_X11_arrear_r31d h0 hx9 → dr.1 = v.toInt → dr.2 = vw hx9 → Q (some (.int v)) hx9) : ∀ (h : jH), jJ jSgX Dy h → jSm fp_X11_arrear_r31d h0 h → d_X11_arrear_r31d_39  (vw h) = dr → jX m_X11_arrear 8 0 0 39 [] [] h 0 0 Q := by
  intro  h    J Sm D
  unfold d_X11_arrear_r31d_39 at D
  refine x_ldcw (v := (-2000000000)) rfl z_11_455 ?_
  refine x_iret rfl rfl ?_
  exact hQ _ _ J Sm ((congrArg Prod.fst D).symm.trans (show (-2000000000) = ((-2000000000) : Int32).toInt from by have := jk_m2000000000; omega)) (congrArg Prod.snd D).symm
set_option maxRecDepth 100000 in
set_option maxHeartbeats 4000000 in
theorem ct_X11_arrear_r31d_177 {Dy : jH → Prop} {h0 : jH} {Q : Option Value → jH → Prop} {dr : (Int × jW)} {K76 : Int → Int → Int → Int → Int → Int → jW → (Int × jW)} {R76 : Int} (hD : jDk Dy) (hQ : ∀ (v : Int32) hx9, jJ jSgX Dy hx9 → jSm fp_X11_arrear_r31d h0 hx9 → dr.1 = v.toInt → dr.2 = vw hx9 → Q (some (.int v)) hx9) (k76 : ∀ (l1 : Int32) (l2 : Int32) (l3 : Int32) (l4 : Int32) (l5 : Int32) (l6 : Int32) (h : jH), 100 - l6.toInt < R76 → 0 ≤ l2.toInt ∧ l2.toInt ≤ 39 → 0 ≤ l3.toInt ∧ l3.toInt ≤ 146399 → 0 ≤ l4.toInt ∧ l4.toInt ≤ 146399 → 0 ≤ l6.toInt ∧ l6.toInt ≤ 100 → jJ jSgX Dy h → jSm fp_X11_arrear_r31d h0 h → K76 l1.toInt l2.toInt l3.toInt l4.toInt l5.toInt l6.toInt (vw h) = dr → jX m_X11_arrear 8 0 0 76 [(0, .ref 31), (1, .int l1), (2, .int l2), (3, .int l3), (4, .int l4), (5, .int l5), (6, .int l6)] [] h 0 0 Q) : ∀ (l1 : Int32) (l2 : Int32) (l3 : Int32) (l4 : Int32) (l5 : Int32) (l6 : Int32) (h : jH), 0 ≤ l2.toInt ∧ l2.toInt ≤ 39 → 0 ≤ l3.toInt ∧ l3.toInt ≤ 146399 → 0 ≤ l4.toInt ∧ l4.toInt ≤ 146399 → 0 ≤ l6.toInt ∧ l6.toInt ≤ 99 → 100 - l6.toInt ≤ R76 → jJ jSgX Dy h → jSm fp_X11_arrear_r31d h0 h → d_X11_arrear_r31d_177 K76  l1.toInt l2.toInt l3.toInt l4.toInt l5.toInt l6.toInt (vw h) = dr → jX m_X11_arrear 8 0 0 177 [(0, .ref 31), (1, .int l1), (2, .int l2), (3, .int l3), (4, .int l4), (5, .int l5), (6, .int l6)] [] h 0 0 Q := by
  intro l1 l2 l3 l4 l5 l6 h y0 y1 y2 y3  m76 J Sm D
  have el1 := jfull l1
  have el5 := jfull l5
  unfold d_X11_arrear_r31d_177 at D
  refine z_iinc (x := l6) (lsx9 := fun v1 => [(6, .int v1), (0, .ref 31), (1, .int l1), (2, .int l2), (3, .int l3), (4, .int l4), (5, .int l5)]) rfl rfl rfl jko_1 (by omega) rfl (fun _ => rfl) (fun v1 ev1 => ?_)
  refine x_goto (tgt := 76) rfl rfl ?_
  try rw [show (l6.toInt + 1) = v1.toInt from by omega] at D
  exact jX.sub (jsb_c rfl (jsb_c rfl (jsb_c rfl (jsb_c rfl (jsb_c rfl (jsb_c rfl (jsb_c rfl jsb_n))))))) (k76 l1 l2 l3 l4 l5 v1 h (by omega) (jr_of rfl (by omega)) (jr_of rfl (by omega)) (jr_of rfl (by omega)) (jr_of rfl (by omega)) J Sm D)
set_option maxRecDepth 100000 in
set_option maxHeartbeats 4000000 in
theorem ct_X11_arrear_r31d_76 {Dy : jH → Prop} {h0 : jH} {Q : Option Value → jH → Prop} {dr : (Int × jW)} (hD : jDk Dy) (hQ : ∀ (v : Int32) hx9, jJ jSgX Dy hx9 → jSm fp_X11_arrear_r31d h0 hx9 → dr.1 = v.toInt → dr.2 = vw hx9 → Q (some (.int v)) hx9) : ∀ r : Nat, ∀ (l1 : Int32) (l2 : Int32) (l3 : Int32) (l4 : Int32) (l5 : Int32) (l6 : Int32) (h : jH), 100 - l6.toInt < (r : Int) → 0 ≤ l2.toInt ∧ l2.toInt ≤ 39 → 0 ≤ l3.toInt ∧ l3.toInt ≤ 146399 → 0 ≤ l4.toInt ∧ l4.toInt ≤ 146399 → 0 ≤ l6.toInt ∧ l6.toInt ≤ 100 → jJ jSgX Dy h → jSm fp_X11_arrear_r31d h0 h → d_X11_arrear_r31d_76 r l1.toInt l2.toInt l3.toInt l4.toInt l5.toInt l6.toInt (vw h) = dr → jX m_X11_arrear 8 0 0 76 [(0, .ref 31), (1, .int l1), (2, .int l2), (3, .int l3), (4, .int l4), (5, .int l5), (6, .int l6)] [] h 0 0 Q := by
  intro r
  induction r with
  | zero =>
    intro l1 l2 l3 l4 l5 l6 h hm y0 y1 y2 y3   J Sm D
    exfalso
    have el1 := jfull l1
    have el5 := jfull l5
    omega
  | succ r ih =>
    intro l1 l2 l3 l4 l5 l6 h hm y0 y1 y2 y3   J Sm D
    have el1 := jfull l1
    have el5 := jfull l5
    rw [d_X11_arrear_r31d_76.eq_2] at D
    refine x_iload (x := l6) rfl rfl ?_
    refine x_aloadn (x := 31) rfl rfl ?_
    refine z_getR (N := 13) (b := 32) 11 0 rfl f_11_10 rfl J rfl 3968 ⟨rfl, rfl⟩ rfl ?_
    refine z_getR (N := 20) (b := 55) 1 11 rfl f_11_452 rfl J rfl 4107 ⟨rfl, rfl⟩ rfl ?_
    refine z_getI (N := 4) 8 3 rfl f_11_142 rfl J rfl sg_55_3_4_1_0_1 (fun v1 qv1 ev1 => ?_)
    try rw [vrf qv1] at D
    refine x_icge (tgt := 183) rfl rfl (ti_ge rfl rfl ⟨fun c2 => ?_, fun c2 => ?_⟩)
    ·
      rw [if_pos (by omega)] at D
      refine x_iload (x := l5) rfl rfl ?_
      refine x_iret rfl rfl ?_
      exact hQ _ _ J Sm ((congrArg Prod.fst D).symm.trans (show l5.toInt = l5.toInt from by omega)) (congrArg Prod.snd D).symm
    ·
      rw [if_neg (by omega)] at D
      refine x_aloadn (x := 31) rfl rfl ?_
      refine z_getR (N := 13) (b := 32) 11 0 rfl f_11_10 rfl J rfl 3968 ⟨rfl, rfl⟩ rfl ?_
      refine z_getR (N := 20) (b := 55) 1 11 rfl f_11_452 rfl J rfl 4107 ⟨rfl, rfl⟩ rfl ?_
      refine x_iload (x := l6) rfl rfl ?_
      refine x_iload (x := l4) rfl rfl ?_
      refine x_inv (N := m_X8_isKnown) (As := [.int l6, .int l4]) (b := 55) (st := []) (dx9 := 1) (mc := 0) (ms := 0) (host := "") 8 rfl t_X8_isKnown ⟨Or.inl q_11_440, i_X8_isKnown.1, i_X8_isKnown.2⟩ ⟨by decide, rfl⟩ (congrArg Prod.fst (J.1.1 55 (8, 4) rfl)) rfl (by decide) rfl rfl ⟨by decide, by decide⟩ (sf_X8_isKnown_r55d (jr_of rfl (by omega)) (jr_of rfl (by omega)) hD J rfl  (fun v6 h ev6 J S3 X4 X5 => ?_))
      have Sm := jSm_tr rfl Sm S3
      try rw [X4] at D
      try rw [← X5] at D
      show jX m_X11_arrear 8 0 0 105 [(0, .ref 31), (1, .int l1), (2, .int l2), (3, .int l3), (4, .int l4), (5, .int l5), (6, .int l6)] [.int v6] _ 0 0 _
      refine x_ifeq (tgt := 177) rfl rfl (ti_eq rfl jk_0 ⟨fun c7 => ?_, fun c7 => ?_⟩)
      ·
        rw [if_pos (by omega)] at D
        exact jX.sub (jsb_c rfl (jsb_c rfl (jsb_c rfl (jsb_c rfl (jsb_c rfl (jsb_c rfl (jsb_c rfl jsb_n))))))) (ct_X11_arrear_r31d_177 hD hQ ih l1 l2 l3 l4 l5 l6 h (jr_of rfl (by omega)) (jr_of rfl (by omega)) (jr_of rfl (by omega)) (jr_of rfl (by omega)) (by omega) J Sm D)
      ·
        rw [if_neg (by omega)] at D
        refine x_aloadn (x := 31) rfl rfl ?_
        refine z_getR (N := 13) (b := 32) 11 0 rfl f_11_10 rfl J rfl 3968 ⟨rfl, rfl⟩ rfl ?_
        refine z_getR (N := 20) (b := 55) 1 11 rfl f_11_452 rfl J rfl 4107 ⟨rfl, rfl⟩ rfl ?_
        refine x_iload (x := l6) rfl rfl ?_
        refine x_iconst (v := 1) rfl ki_1 ?_
        refine x_inv (N := m_X8_at) (As := [.int l6, .int 1]) (b := 55) (st := []) (dx9 := 1) (mc := 0) (ms := 0) (host := "") 8 rfl t_X8_at ⟨Or.inl q_11_171, i_X8_at.1, i_X8_at.2⟩ ⟨by decide, rfl⟩ (congrArg Prod.fst (J.1.1 55 (8, 4) rfl)) rfl (by decide) rfl rfl ⟨by decide, by decide⟩ (sf_X8_at_r55_c1d (jr_of rfl (by omega)) hD J rfl  (fun v11 h ev11 J S8 X9 X10 => ?_))
        have Sm := jSm_tr rfl Sm S8
        try rw [X9] at D
        try rw [← X10] at D
        show jX m_X11_arrear 8 0 0 121 [(0, .ref 31), (1, .int l1), (2, .int l2), (3, .int l3), (4, .int l4), (5, .int l5), (6, .int l6)] [.int v11] _ 0 0 _
        refine x_iloadn (x := l3) rfl rfl ?_
        refine x_icgt (tgt := 177) rfl rfl (ti_gt rfl rfl ⟨fun c12 => ?_, fun c12 => ?_⟩)
        ·
          rw [if_pos (by omega)] at D
          exact jX.sub (jsb_c rfl (jsb_c rfl (jsb_c rfl (jsb_c rfl (jsb_c rfl (jsb_c rfl (jsb_c rfl jsb_n))))))) (ct_X11_arrear_r31d_177 hD hQ ih l1 l2 l3 l4 l5 l6 h (jr_of rfl (by omega)) (jr_of rfl (by omega)) (jr_of rfl (by omega)) (jr_of rfl (by omega)) (by omega) J Sm D)
        ·
          rw [if_neg (by omega)] at D
          refine x_aloadn (x := 31) rfl rfl ?_
          refine z_getR (N := 13) (b := 32) 11 0 rfl f_11_10 rfl J rfl 3968 ⟨rfl, rfl⟩ rfl ?_
          refine z_getR (N := 20) (b := 55) 1 11 rfl f_11_452 rfl J rfl 4107 ⟨rfl, rfl⟩ rfl ?_
          refine x_iload (x := l6) rfl rfl ?_
          refine x_iconst (v := 2) rfl ki_2 ?_
          refine x_inv (N := m_X8_at) (As := [.int l6, .int 2]) (b := 55) (st := []) (dx9 := 1) (mc := 0) (ms := 0) (host := "") 8 rfl t_X8_at ⟨Or.inl q_11_171, i_X8_at.1, i_X8_at.2⟩ ⟨by decide, rfl⟩ (congrArg Prod.fst (J.1.1 55 (8, 4) rfl)) rfl (by decide) rfl rfl ⟨by decide, by decide⟩ (sf_X8_at_r55_c2d (jr_of rfl (by omega)) hD J rfl  (fun v16 h ev16 J S13 X14 X15 => ?_))
          have Sm := jSm_tr rfl Sm S13
          try rw [X14] at D
          try rw [← X15] at D
          show jX m_X11_arrear 8 0 0 138 [(0, .ref 31), (1, .int l1), (2, .int l2), (3, .int l3), (4, .int l4), (5, .int l5), (6, .int l6)] [.int v16] _ 0 0 _
          refine x_iloadn (x := l2) rfl rfl ?_
          refine x_icne (tgt := 177) rfl rfl (ti_ne rfl rfl ⟨fun c17 => ?_, fun c17 => ?_⟩)
          ·
            rw [if_neg (by omega)] at D
            exact jX.sub (jsb_c rfl (jsb_c rfl (jsb_c rfl (jsb_c rfl (jsb_c rfl (jsb_c rfl (jsb_c rfl jsb_n))))))) (ct_X11_arrear_r31d_177 hD hQ ih l1 l2 l3 l4 l5 l6 h (jr_of rfl (by omega)) (jr_of rfl (by omega)) (jr_of rfl (by omega)) (jr_of rfl (by omega)) (by omega) J Sm D)
          ·
            rw [if_pos (by omega)] at D
            refine x_aloadn (x := 31) rfl rfl ?_
            refine z_getR (N := 13) (b := 32) 11 0 rfl f_11_10 rfl J rfl 3968 ⟨rfl, rfl⟩ rfl ?_
            refine z_getR (N := 20) (b := 55) 1 11 rfl f_11_452 rfl J rfl 4107 ⟨rfl, rfl⟩ rfl ?_
            refine x_iload (x := l6) rfl rfl ?_
            refine x_iconst (v := 3) rfl ki_3 ?_
            refine x_inv (N := m_X8_at) (As := [.int l6, .int 3]) (b := 55) (st := []) (dx9 := 1) (mc := 0) (ms := 0) (host := "") 8 rfl t_X8_at ⟨Or.inl q_11_171, i_X8_at.1, i_X8_at.2⟩ ⟨by decide, rfl⟩ (congrArg Prod.fst (J.1.1 55 (8, 4) rfl)) rfl (by decide) rfl rfl ⟨by decide, by decide⟩ (sf_X8_at_r55_c3d (jr_of rfl (by omega)) hD J rfl  (fun v21 h ev21 J S18 X19 X20 => ?_))
            have Sm := jSm_tr rfl Sm S18
            try rw [X19] at D
            try rw [← X20] at D
            show jX m_X11_arrear 8 0 0 155 [(0, .ref 31), (1, .int l1), (2, .int l2), (3, .int l3), (4, .int l4), (5, .int l5), (6, .int l6)] [.int v21] _ 0 0 _
            refine x_iloadn (x := l1) rfl rfl ?_
            refine x_icne (tgt := 177) rfl rfl (ti_ne rfl rfl ⟨fun c22 => ?_, fun c22 => ?_⟩)
            ·
              rw [if_neg (by omega)] at D
              exact jX.sub (jsb_c rfl (jsb_c rfl (jsb_c rfl (jsb_c rfl (jsb_c rfl (jsb_c rfl (jsb_c rfl jsb_n))))))) (ct_X11_arrear_r31d_177 hD hQ ih l1 l2 l3 l4 l5 l6 h (jr_of rfl (by omega)) (jr_of rfl (by omega)) (jr_of rfl (by omega)) (jr_of rfl (by omega)) (by omega) J Sm D)
            ·
              rw [if_pos (by omega)] at D
              refine x_iload (x := l5) rfl rfl ?_
              refine x_aloadn (x := 31) rfl rfl ?_
              refine z_getR (N := 13) (b := 32) 11 0 rfl f_11_10 rfl J rfl 3968 ⟨rfl, rfl⟩ rfl ?_
              refine z_getR (N := 20) (b := 55) 1 11 rfl f_11_452 rfl J rfl 4107 ⟨rfl, rfl⟩ rfl ?_
              refine x_iload (x := l6) rfl rfl ?_
              refine x_iconst (v := 4) rfl ki_4 ?_
              refine x_inv (N := m_X8_at) (As := [.int l6, .int 4]) (b := 55) (st := [.int l5]) (dx9 := 1) (mc := 0) (ms := 0) (host := "") 8 rfl t_X8_at ⟨Or.inl q_11_171, i_X8_at.1, i_X8_at.2⟩ ⟨by decide, rfl⟩ (congrArg Prod.fst (J.1.1 55 (8, 4) rfl)) rfl (by decide) rfl rfl ⟨by decide, by decide⟩ (sf_X8_at_r55_c4d (jr_of rfl (by omega)) hD J rfl  (fun v26 h ev26 J S23 X24 X25 => ?_))
              have Sm := jSm_tr rfl Sm S23
              try rw [X24] at D
              try rw [← X25] at D
              show jX m_X11_arrear 8 0 0 174 [(0, .ref 31), (1, .int l1), (2, .int l2), (3, .int l3), (4, .int l4), (5, .int l5), (6, .int l6)] [.int v26, .int l5] _ 0 0 _
              refine z_isubW rfl rfl rfl (fun v27 ev27 => ?_)
              have fv27 := jfull v27
              try rw [← ev27] at D
              refine x_istore (lsx9 := [(5, .int v27), (0, .ref 31), (1, .int l1), (2, .int l2), (3, .int l3), (4, .int l4), (6, .int l6)]) rfl rfl rfl ?_
              exact jX.sub (jsb_c rfl (jsb_c rfl (jsb_c rfl (jsb_c rfl (jsb_c rfl (jsb_c rfl (jsb_c rfl jsb_n))))))) (ct_X11_arrear_r31d_177 hD hQ ih l1 l2 l3 l4 v27 l6 h (jr_of rfl (by omega)) (jr_of rfl (by omega)) (jr_of rfl (by omega)) (jr_of rfl (by omega)) (by omega) J Sm D)
set_option maxRecDepth 100000 in
set_option maxHeartbeats 4000000 in
theorem sf_X11_arrear_r31d {Dy : jH → Prop} {h : jH} {Q : Option Value → jH → Prop} {dr : (Int × jW)} {a1 : Int32} {a2 : Int32} {a3 : Int32} {a4 : Int32} (hD : jDk Dy) (J : jJ jSgX Dy h) (D : d_X11_arrear_r31d a1.toInt a2.toInt a3.toInt a4.toInt (vw h) = dr) (hQ : ∀ (v : Int32) hx9, jJ jSgX Dy hx9 → jSm fp_X11_arrear_r31d h hx9 → dr.1 = v.toInt → dr.2 = vw hx9 → Q (some (.int v)) hx9) : jC m_X11_arrear 8 0 0 [.ref 31, .int a1, .int a2, .int a3, .int a4] h Q := by
  refine jC.of rfl k_X11_arrear rfl ?_
  have Sm := jSm_rf fp_X11_arrear_r31d h
  have ea1 := jfull a1
  have ea2 := jfull a2
  have ea3 := jfull a3
  have ea4 := jfull a4
  show jX m_X11_arrear 8 0 0 0 [(0, .ref 31), (1, .int a1), (2, .int a2), (3, .int a3), (4, .int a4)] [] _ 0 0 _
  unfold d_X11_arrear_r31d at D
  refine x_iloadn (x := a3) rfl rfl ?_
  refine x_inst (N := m_X11_isDay) (As := [.int a3]) (st := []) (dx9 := 1) (mc := 0) (ms := 0) (host := "") rfl t_X11_isDay ⟨Or.inl q_11_115, s_X11_isDay⟩ rfl (by decide) rfl rfl ⟨by decide, by decide⟩ (zc_X11_isDay rfl (fun v1 ev1 => ?_))
  show jX m_X11_arrear 8 0 0 4 [(0, .ref 31), (1, .int a1), (2, .int a2), (3, .int a3), (4, .int a4)] [.int v1] _ 0 0 _
  refine x_ifeq (tgt := 39) rfl rfl (ti_eq rfl jk_0 ⟨fun c2 => ?_, fun c2 => ?_⟩)
  ·
    rw [if_neg (by omega)] at D
    exact jX.sub jsb_n (ct_X11_arrear_r31d_39 hD hQ  h J Sm D)
  ·
    rw [if_pos (by omega)] at D
    refine x_iload (x := a4) rfl rfl ?_
    refine x_inst (N := m_X11_isDay) (As := [.int a4]) (st := []) (dx9 := 1) (mc := 0) (ms := 0) (host := "") rfl t_X11_isDay ⟨Or.inl q_11_115, s_X11_isDay⟩ rfl (by decide) rfl rfl ⟨by decide, by decide⟩ (zc_X11_isDay rfl (fun v3 ev3 => ?_))
    show jX m_X11_arrear 8 0 0 12 [(0, .ref 31), (1, .int a1), (2, .int a2), (3, .int a3), (4, .int a4)] [.int v3] _ 0 0 _
    refine x_ifeq (tgt := 39) rfl rfl (ti_eq rfl jk_0 ⟨fun c4 => ?_, fun c4 => ?_⟩)
    ·
      rw [if_neg (by omega)] at D
      exact jX.sub jsb_n (ct_X11_arrear_r31d_39 hD hQ  h J Sm D)
    ·
      rw [if_pos (by omega)] at D
      refine x_aloadn (x := 31) rfl rfl ?_
      refine z_getR (N := 13) (b := 32) 11 0 rfl f_11_10 rfl J rfl 3968 ⟨rfl, rfl⟩ rfl ?_
      refine z_getR (N := 20) (b := 53) 1 10 rfl f_11_437 rfl J rfl 4106 ⟨rfl, rfl⟩ rfl ?_
      refine x_iloadn (x := a1) rfl rfl ?_
      refine x_iload (x := a4) rfl rfl ?_
      refine x_inv (N := m_X8_isKnown) (As := [.int a1, .int a4]) (b := 53) (st := []) (dx9 := 1) (mc := 0) (ms := 0) (host := "") 8 rfl t_X8_isKnown ⟨Or.inl q_11_440, i_X8_isKnown.1, i_X8_isKnown.2⟩ ⟨by decide, rfl⟩ (congrArg Prod.fst (J.1.1 53 (8, 4) rfl)) rfl (by decide) rfl rfl ⟨by decide, by decide⟩ (sf_X8_isKnown_r53d (jr_of rfl (by omega)) hD J rfl  (fun v8 h ev8 J S5 X6 X7 => ?_))
      have Sm := jSm_tr rfl Sm S5
      try rw [X6] at D
      try rw [← X7] at D
      show jX m_X11_arrear 8 0 0 28 [(0, .ref 31), (1, .int a1), (2, .int a2), (3, .int a3), (4, .int a4)] [.int v8] _ 0 0 _
      refine x_ifeq (tgt := 39) rfl rfl (ti_eq rfl jk_0 ⟨fun c9 => ?_, fun c9 => ?_⟩)
      ·
        rw [if_pos (by omega)] at D
        exact jX.sub jsb_n (ct_X11_arrear_r31d_39 hD hQ  h J Sm D)
      ·
        rw [if_neg (by omega)] at D
        refine x_aloadn (x := 31) rfl rfl ?_
        refine x_iloadn (x := a2) rfl rfl ?_
        refine x_inv (N := m_X11_isHolding) (As := [.int a2]) (b := 31) (st := []) (dx9 := 7) (mc := 0) (ms := 0) (host := "") 11 rfl t_X11_isHolding ⟨Or.inl q_11_415, i_X11_isHolding.1, i_X11_isHolding.2⟩ ⟨by decide, rfl⟩ (congrArg Prod.fst (J.1.1 31 (11, 13) rfl)) rfl (by decide) rfl rfl ⟨by decide, by decide⟩ (jC.of rfl k_X11_isHolding rfl ?_)
        show jX m_X11_isHolding 7 0 0 0 [(0, .ref 31), (1, .int a2)] [] _ 0 0 _
        refine x_iloadn (x := a2) rfl rfl ?_
        refine x_iflt (tgt := 28) rfl rfl (ti_lt rfl jk_0 ⟨fun c10 => ?_, fun c10 => ?_⟩)
        ·
          rw [if_pos (by omega)] at D
          refine x_iconst (v := 0) rfl ki_0 ?_
          refine x_zret rfl rfl (by decide) ?_
          show jX m_X11_arrear 8 0 0 36 [(0, .ref 31), (1, .int a1), (2, .int a2), (3, .int a3), (4, .int a4)] [.int 0] _ 0 0 _
          refine x_ifne (tgt := 43) rfl rfl (ti_ne jk_0 jk_0 (bn_f (by omega) ?_))
          exact jX.sub jsb_n (ct_X11_arrear_r31d_39 hD hQ  h J Sm D)
        ·
          rw [if_neg (by omega)] at D
          refine x_iloadn (x := a2) rfl rfl ?_
          refine x_aloadn (x := 31) rfl rfl ?_
          refine z_getR (N := 13) (b := 32) 11 0 rfl f_11_10 rfl J rfl 3968 ⟨rfl, rfl⟩ rfl ?_
          refine z_getR (N := 20) (b := 49) 1 8 rfl f_11_408 rfl J rfl 4104 ⟨rfl, rfl⟩ rfl ?_
          refine z_getI (N := 4) 8 3 rfl f_11_142 rfl J rfl sg_49_3_4_1_0_1 (fun v11 qv11 ev11 => ?_)
          try rw [vrf qv11] at D
          refine x_icge (tgt := 28) rfl rfl (ti_ge rfl rfl ⟨fun c12 => ?_, fun c12 => ?_⟩)
          ·
            rw [if_pos (by omega)] at D
            refine x_iconst (v := 0) rfl ki_0 ?_
            refine x_zret rfl rfl (by decide) ?_
            show jX m_X11_arrear 8 0 0 36 [(0, .ref 31), (1, .int a1), (2, .int a2), (3, .int a3), (4, .int a4)] [.int 0] _ 0 0 _
            refine x_ifne (tgt := 43) rfl rfl (ti_ne jk_0 jk_0 (bn_f (by omega) ?_))
            exact jX.sub jsb_n (ct_X11_arrear_r31d_39 hD hQ  h J Sm D)
          ·
            rw [if_neg (by omega)] at D
            refine x_iloadn (x := a2) rfl rfl ?_
            refine x_bipush (v := 40) rfl kb_40 ?_
            refine x_icge (tgt := 28) rfl rfl (ti_ge rfl jk_40 (br_f (by omega) ?_))
            refine x_iconst (v := 1) rfl ki_1 ?_
            refine x_goto (tgt := 29) rfl rfl ?_
            refine x_zret rfl rfl (by decide) ?_
            show jX m_X11_arrear 8 0 0 36 [(0, .ref 31), (1, .int a1), (2, .int a2), (3, .int a3), (4, .int a4)] [.int 1] _ 0 0 _
            refine x_ifne (tgt := 43) rfl rfl (ti_ne jk_1 jk_0 (bn_t (by omega) ?_))
            refine x_aloadn (x := 31) rfl rfl ?_
            refine z_getR (N := 13) (b := 78) 11 4 rfl f_11_41 rfl J rfl 3972 ⟨rfl, rfl⟩ rfl ?_
            refine x_iload (x := a4) rfl rfl ?_
            refine x_inv (N := m_X7_asKnown) (As := [.int a4]) (b := 78) (st := []) (dx9 := 6) (mc := 0) (ms := 0) (host := "") 7 rfl t_X7_asKnown ⟨Or.inl q_11_240, i_X7_asKnown.1, i_X7_asKnown.2⟩ ⟨by decide, rfl⟩ (congrArg Prod.fst (J.1.1 78 (7, 16) rfl)) rfl (by decide) rfl rfl ⟨by decide, by decide⟩ (sf_X7_asKnown_r78d (jr_of rfl (by omega)) hD J rfl  (fun h J S13 X14 => ?_))
            have Sm := jSm_tr rfl Sm S13
            rw [X14] at D
            show jX m_X11_arrear 8 0 0 52 [(0, .ref 31), (1, .int a1), (2, .int a2), (3, .int a3), (4, .int a4)] [] _ 0 0 _
            refine x_aloadn (x := 31) rfl rfl ?_
            refine z_getR (N := 13) (b := 107) 11 8 rfl f_11_75 rfl J rfl 3976 ⟨rfl, rfl⟩ rfl ?_
            refine x_iloadn (x := a1) rfl rfl ?_
            refine x_iload (x := a4) rfl rfl ?_
            refine x_inv (N := m_X4_partOut) (As := [.int a1, .int a4]) (b := 107) (st := []) (dx9 := 7) (mc := 0) (ms := 0) (host := "") 4 rfl t_X4_partOut ⟨Or.inl q_11_443, i_X4_partOut.1, i_X4_partOut.2⟩ ⟨by decide, rfl⟩ (congrArg Prod.fst (J.1.1 107 (4, 18) rfl)) rfl (by decide) rfl rfl ⟨by decide, by decide⟩ (sf_X4_partOut_r107d (jr_of rfl (by omega)) hD J rfl  (fun h J S15 X16 => ?_))
            have Sm := jSm_tr rfl Sm S15
            rw [X16] at D
            show jX m_X11_arrear 8 0 0 62 [(0, .ref 31), (1, .int a1), (2, .int a2), (3, .int a3), (4, .int a4)] [] _ 0 0 _
            refine x_aloadn (x := 31) rfl rfl ?_
            refine z_getR (N := 13) (b := 107) 11 8 rfl f_11_75 rfl J rfl 3976 ⟨rfl, rfl⟩ rfl ?_
            refine z_getR (N := 18) (b := 108) 4 3 rfl f_11_449 rfl J rfl 13699 ⟨rfl, rfl⟩ rfl ?_
            refine x_iloadn (x := a2) rfl rfl ?_
            refine z_iald0 (N := 40) rfl J rfl rfl (by omega) (fun v17 qv17 => ?_)
            have ev17 := jfull v17
            try rw [vrd qv17 (show a2.toInt = a2.toInt from by omega)] at D
            refine x_istore (lsx9 := [(5, .int v17), (0, .ref 31), (1, .int a1), (2, .int a2), (3, .int a3), (4, .int a4)]) rfl rfl rfl ?_
            refine x_iconst (v := 0) rfl ki_0 ?_
            refine x_istore (lsx9 := [(6, .int 0), (5, .int v17), (0, .ref 31), (1, .int a1), (2, .int a2), (3, .int a3), (4, .int a4)]) rfl rfl rfl ?_
            exact jX.sub (jsb_c rfl (jsb_c rfl (jsb_c rfl (jsb_c rfl (jsb_c rfl (jsb_c rfl (jsb_c rfl jsb_n))))))) (ct_X11_arrear_r31d_76 hD hQ  101 a1 a2 a3 a4 v17 0 h (by have := jk_0; omega) (jr_of rfl (by omega)) (jr_of rfl (by omega)) (jr_of rfl (by omega)) (jr_of jk_0 (by omega)) J Sm (by rw [jk_0]; exact D))
def fp_X8_at_r63_c0d : jFp := []
set_option maxRecDepth 100000 in
set_option maxHeartbeats 4000000 in
theorem ct_X8_at_r63_c0d_24 {Dy : jH → Prop} {h0 : jH} {Q : Option Value → jH → Prop} {dr : Int} (hD : jDk Dy) (hQ : ∀ (v : Int32) hx9, 0 ≤ v.toInt ∧ v.toInt ≤ 3 → jJ jSgX Dy hx9 → jSm fp_X8_at_r63_c0d h0 hx9 → dr = v.toInt → vw hx9 = vw h0 → Q (some (.int v)) hx9) : ∀ (h : jH), jJ jSgX Dy h → jSm fp_X8_at_r63_c0d h0 h → d_X8_at_r63_c0d_24  (vw h) = dr → vw h = vw h0 → jX m_X8_at 1 0 0 24 [] [] h 0 0 Q := by
  intro  h    J Sm D EV
  unfold d_X8_at_r63_c0d_24 at D
  refine x_iconst (v := 0) rfl ki_0 ?_
  refine x_iret rfl rfl ?_
  exact hQ _ _ (jr_of jk_0 (by omega)) J Sm (D.symm.trans (show 0 = (0 : Int32).toInt from by have := jk_0; omega)) EV
set_option maxRecDepth 100000 in
set_option maxHeartbeats 4000000 in
theorem sf_X8_at_r63_c0d {Dy : jH → Prop} {h : jH} {Q : Option Value → jH → Prop} {dr : Int} {a1 : Int32} (y1 : 0 ≤ a1.toInt ∧ a1.toInt ≤ 369) (hD : jDk Dy) (J : jJ jSgX Dy h) (D : d_X8_at_r63_c0d a1.toInt (vw h) = dr) (hQ : ∀ (v : Int32) hx9, 0 ≤ v.toInt ∧ v.toInt ≤ 3 → jJ jSgX Dy hx9 → jSm fp_X8_at_r63_c0d h hx9 → dr = v.toInt → vw hx9 = vw h → Q (some (.int v)) hx9) : jC m_X8_at 1 0 0 [.ref 63, .int a1, .int 0] h Q := by
  refine jC.of rfl k_X8_at rfl ?_
  have Sm := jSm_rf fp_X8_at_r63_c0d h
  show jX m_X8_at 1 0 0 0 [(0, .ref 63), (1, .int a1), (2, .int 0)] [] _ 0 0 _
  unfold d_X8_at_r63_c0d at D
  have EV : vw h = vw h := rfl
  refine x_iloadn (x := a1) rfl rfl ?_
  refine x_iflt (tgt := 24) rfl rfl (ti_lt rfl jk_0 (br_f (by omega) ?_))
  refine x_iloadn (x := a1) rfl rfl ?_
  refine x_aloadn (x := 63) rfl rfl ?_
  refine z_getI (N := 4) 8 3 rfl f_8_7 rfl J rfl sg_63_3_4_1_0_1 (fun v1 qv1 ev1 => ?_)
  try rw [vrf qv1] at D
  refine x_icge (tgt := 24) rfl rfl (ti_ge rfl rfl ⟨fun c2 => ?_, fun c2 => ?_⟩)
  ·
    rw [if_pos (by omega)] at D
    exact jX.sub jsb_n (ct_X8_at_r63_c0d_24 hD hQ  h J Sm D EV)
  ·
    rw [if_neg (by omega)] at D
    refine x_iloadn (x := 0) rfl rfl ?_
    refine x_iflt (tgt := 24) rfl rfl (ti_lt jk_0 jk_0 (br_f (by omega) ?_))
    refine x_iloadn (x := 0) rfl rfl ?_
    refine x_aloadn (x := 63) rfl rfl ?_
    refine z_getC (N := 4) (v := 2) 8 0 rfl f_8_19 rfl J rfl sg_63_0_1_1_0_1 jk_2 ?_
    refine x_iclt (tgt := 26) rfl rfl (ti_lt jk_0 jk_2 (br_t (by omega) ?_))
    refine x_aloadn (x := 63) rfl rfl ?_
    refine z_getR (N := 4) (b := 64) 8 2 rfl f_8_25 rfl J rfl 8066 ⟨rfl, rfl⟩ rfl ?_
    refine x_iloadn (x := a1) rfl rfl ?_
    refine x_aloadn (x := 63) rfl rfl ?_
    refine z_getC (N := 4) (v := 2) 8 0 rfl f_8_19 rfl J rfl sg_63_0_1_1_0_1 jk_2 ?_
    refine z_imul rfl rfl jk_2 (by omega) (fun v3 ev3 => ?_)
    refine x_iloadn (x := 0) rfl rfl ?_
    refine z_iadd rfl rfl jk_0 (by omega) (fun v4 ev4 => ?_)
    refine z_iald (N := 740) rfl J rfl sg_64_0_740_2_0_1 rfl (by omega) (fun v5 qv5 ev5 => ?_)
    try rw [vrd qv5 (show ((a1.toInt * 2) + 0) = v4.toInt from by omega)] at D
    refine x_iret rfl rfl ?_
    exact hQ _ _ (jr_of rfl (by omega)) J Sm (D.symm.trans (show v5.toInt = v5.toInt from by omega)) EV
def fp_X8_at_r63_c1d : jFp := []
set_option maxRecDepth 100000 in
set_option maxHeartbeats 4000000 in
theorem ct_X8_at_r63_c1d_24 {Dy : jH → Prop} {h0 : jH} {Q : Option Value → jH → Prop} {dr : Int} (hD : jDk Dy) (hQ : ∀ (v : Int32) hx9, 0 ≤ v.toInt ∧ v.toInt ≤ 200 → jJ jSgX Dy hx9 → jSm fp_X8_at_r63_c1d h0 hx9 → dr = v.toInt → vw hx9 = vw h0 → Q (some (.int v)) hx9) : ∀ (h : jH), jJ jSgX Dy h → jSm fp_X8_at_r63_c1d h0 h → d_X8_at_r63_c1d_24  (vw h) = dr → vw h = vw h0 → jX m_X8_at 1 0 0 24 [] [] h 0 0 Q := by
  intro  h    J Sm D EV
  unfold d_X8_at_r63_c1d_24 at D
  refine x_iconst (v := 0) rfl ki_0 ?_
  refine x_iret rfl rfl ?_
  exact hQ _ _ (jr_of jk_0 (by omega)) J Sm (D.symm.trans (show 0 = (0 : Int32).toInt from by have := jk_0; omega)) EV
set_option maxRecDepth 100000 in
set_option maxHeartbeats 4000000 in
theorem sf_X8_at_r63_c1d {Dy : jH → Prop} {h : jH} {Q : Option Value → jH → Prop} {dr : Int} {a1 : Int32} (y1 : 0 ≤ a1.toInt ∧ a1.toInt ≤ 369) (hD : jDk Dy) (J : jJ jSgX Dy h) (D : d_X8_at_r63_c1d a1.toInt (vw h) = dr) (hQ : ∀ (v : Int32) hx9, 0 ≤ v.toInt ∧ v.toInt ≤ 200 → jJ jSgX Dy hx9 → jSm fp_X8_at_r63_c1d h hx9 → dr = v.toInt → vw hx9 = vw h → Q (some (.int v)) hx9) : jC m_X8_at 1 0 0 [.ref 63, .int a1, .int 1] h Q := by
  refine jC.of rfl k_X8_at rfl ?_
  have Sm := jSm_rf fp_X8_at_r63_c1d h
  show jX m_X8_at 1 0 0 0 [(0, .ref 63), (1, .int a1), (2, .int 1)] [] _ 0 0 _
  unfold d_X8_at_r63_c1d at D
  have EV : vw h = vw h := rfl
  refine x_iloadn (x := a1) rfl rfl ?_
  refine x_iflt (tgt := 24) rfl rfl (ti_lt rfl jk_0 (br_f (by omega) ?_))
  refine x_iloadn (x := a1) rfl rfl ?_
  refine x_aloadn (x := 63) rfl rfl ?_
  refine z_getI (N := 4) 8 3 rfl f_8_7 rfl J rfl sg_63_3_4_1_0_1 (fun v1 qv1 ev1 => ?_)
  try rw [vrf qv1] at D
  refine x_icge (tgt := 24) rfl rfl (ti_ge rfl rfl ⟨fun c2 => ?_, fun c2 => ?_⟩)
  ·
    rw [if_pos (by omega)] at D
    exact jX.sub jsb_n (ct_X8_at_r63_c1d_24 hD hQ  h J Sm D EV)
  ·
    rw [if_neg (by omega)] at D
    refine x_iloadn (x := 1) rfl rfl ?_
    refine x_iflt (tgt := 24) rfl rfl (ti_lt jk_1 jk_0 (br_f (by omega) ?_))
    refine x_iloadn (x := 1) rfl rfl ?_
    refine x_aloadn (x := 63) rfl rfl ?_
    refine z_getC (N := 4) (v := 2) 8 0 rfl f_8_19 rfl J rfl sg_63_0_1_1_0_1 jk_2 ?_
    refine x_iclt (tgt := 26) rfl rfl (ti_lt jk_1 jk_2 (br_t (by omega) ?_))
    refine x_aloadn (x := 63) rfl rfl ?_
    refine z_getR (N := 4) (b := 64) 8 2 rfl f_8_25 rfl J rfl 8066 ⟨rfl, rfl⟩ rfl ?_
    refine x_iloadn (x := a1) rfl rfl ?_
    refine x_aloadn (x := 63) rfl rfl ?_
    refine z_getC (N := 4) (v := 2) 8 0 rfl f_8_19 rfl J rfl sg_63_0_1_1_0_1 jk_2 ?_
    refine z_imul rfl rfl jk_2 (by omega) (fun v3 ev3 => ?_)
    refine x_iloadn (x := 1) rfl rfl ?_
    refine z_iadd rfl rfl jk_1 (by omega) (fun v4 ev4 => ?_)
    refine z_iald (N := 740) rfl J rfl sg_64_0_740_2_1_2 rfl (by omega) (fun v5 qv5 ev5 => ?_)
    try rw [vrd qv5 (show ((a1.toInt * 2) + 1) = v4.toInt from by omega)] at D
    refine x_iret rfl rfl ?_
    exact hQ _ _ (jr_of rfl (by omega)) J Sm (D.symm.trans (show v5.toInt = v5.toInt from by omega)) EV
def fp_X11_as_r31d : jFp := []
set_option maxRecDepth 100000 in
set_option maxHeartbeats 4000000 in
theorem ct_X11_as_r31d_10 {Dy : jH → Prop} {h0 : jH} {Q : Option Value → jH → Prop} {dr : Int} (hD : jDk Dy) (hQ : ∀ (v : Int32) hx9, (-3) ≤ v.toInt ∧ v.toInt ≤ 200 → jJ jSgX Dy hx9 → jSm fp_X11_as_r31d h0 hx9 → dr = v.toInt → vw hx9 = vw h0 → Q (some (.int v)) hx9) : ∀ (h : jH), jJ jSgX Dy h → jSm fp_X11_as_r31d h0 h → d_X11_as_r31d_10  (vw h) = dr → vw h = vw h0 → jX m_X11_as 2 0 0 10 [] [] h 0 0 Q := by
  intro  h    J Sm D EV
  unfold d_X11_as_r31d_10 at D
  refine x_iconst (v := (-1)) rfl ki_m1 ?_
  refine x_iret rfl rfl ?_
  exact hQ _ _ (jr_of jk_m1 (by omega)) J Sm (D.symm.trans (show (-1) = ((-1) : Int32).toInt from by have := jk_m1; omega)) EV
set_option maxRecDepth 100000 in
set_option maxHeartbeats 4000000 in
theorem ct_X11_as_r31d_30 {Dy : jH → Prop} {h0 : jH} {Q : Option Value → jH → Prop} {dr : Int} (hD : jDk Dy) (hQ : ∀ (v : Int32) hx9, (-3) ≤ v.toInt ∧ v.toInt ≤ 200 → jJ jSgX Dy hx9 → jSm fp_X11_as_r31d h0 hx9 → dr = v.toInt → vw hx9 = vw h0 → Q (some (.int v)) hx9) : ∀ (h : jH), jJ jSgX Dy h → jSm fp_X11_as_r31d h0 h → d_X11_as_r31d_30  (vw h) = dr → vw h = vw h0 → jX m_X11_as 2 0 0 30 [] [] h 0 0 Q := by
  intro  h    J Sm D EV
  unfold d_X11_as_r31d_30 at D
  refine x_bipush (v := (-2)) rfl kb_m2 ?_
  refine x_iret rfl rfl ?_
  exact hQ _ _ (jr_of jk_m2 (by omega)) J Sm (D.symm.trans (show (-2) = ((-2) : Int32).toInt from by have := jk_m2; omega)) EV
set_option maxRecDepth 100000 in
set_option maxHeartbeats 4000000 in
theorem ct_X11_as_r31d_127 {Dy : jH → Prop} {h0 : jH} {Q : Option Value → jH → Prop} {dr : Int} (hD : jDk Dy) (hQ : ∀ (v : Int32) hx9, (-3) ≤ v.toInt ∧ v.toInt ≤ 200 → jJ jSgX Dy hx9 → jSm fp_X11_as_r31d h0 hx9 → dr = v.toInt → vw hx9 = vw h0 → Q (some (.int v)) hx9) : ∀ (s0 : Int32) (h : jH), (-3) ≤ s0.toInt ∧ s0.toInt ≤ 200 → jJ jSgX Dy h → jSm fp_X11_as_r31d h0 h → d_X11_as_r31d_127  s0.toInt (vw h) = dr → vw h = vw h0 → jX m_X11_as 2 0 0 127 [] [.int s0] h 0 0 Q := by
  intro s0 h y0   J Sm D EV
  unfold d_X11_as_r31d_127 at D
  refine x_iret rfl rfl ?_
  exact hQ _ _ (jr_of rfl (by omega)) J Sm (D.symm.trans (show s0.toInt = s0.toInt from by omega)) EV
set_option maxRecDepth 100000 in
set_option maxHeartbeats 4000000 in
theorem ct_X11_as_r31d_120 {Dy : jH → Prop} {h0 : jH} {Q : Option Value → jH → Prop} {dr : Int} (hD : jDk Dy) (hQ : ∀ (v : Int32) hx9, (-3) ≤ v.toInt ∧ v.toInt ≤ 200 → jJ jSgX Dy hx9 → jSm fp_X11_as_r31d h0 hx9 → dr = v.toInt → vw hx9 = vw h0 → Q (some (.int v)) hx9) : ∀ (l4 : Int32) (h : jH), 0 ≤ l4.toInt ∧ l4.toInt ≤ 200 → jJ jSgX Dy h → jSm fp_X11_as_r31d h0 h → d_X11_as_r31d_120  l4.toInt (vw h) = dr → vw h = vw h0 → jX m_X11_as 2 0 0 120 [(4, .int l4)] [] h 0 0 Q := by
  intro l4 h y0   J Sm D EV
  unfold d_X11_as_r31d_120 at D
  refine x_iload (x := l4) rfl rfl ?_
  refine x_goto (tgt := 127) rfl rfl ?_
  exact jX.sub jsb_n (ct_X11_as_r31d_127 hD hQ  l4 h (jr_of rfl (by omega)) J Sm D EV)
set_option maxRecDepth 100000 in
set_option maxHeartbeats 4000000 in
theorem ct_X11_as_r31d_125 {Dy : jH → Prop} {h0 : jH} {Q : Option Value → jH → Prop} {dr : Int} (hD : jDk Dy) (hQ : ∀ (v : Int32) hx9, (-3) ≤ v.toInt ∧ v.toInt ≤ 200 → jJ jSgX Dy hx9 → jSm fp_X11_as_r31d h0 hx9 → dr = v.toInt → vw hx9 = vw h0 → Q (some (.int v)) hx9) : ∀ (h : jH), jJ jSgX Dy h → jSm fp_X11_as_r31d h0 h → d_X11_as_r31d_125  (vw h) = dr → vw h = vw h0 → jX m_X11_as 2 0 0 125 [] [] h 0 0 Q := by
  intro  h    J Sm D EV
  unfold d_X11_as_r31d_125 at D
  refine x_bipush (v := (-3)) rfl kb_m3 ?_
  exact jX.sub jsb_n (ct_X11_as_r31d_127 hD hQ  (-3) h (jr_of jk_m3 (by omega)) J Sm (by rw [jk_m3]; exact D) EV)
set_option maxRecDepth 100000 in
set_option maxHeartbeats 4000000 in
theorem ct_X11_as_r31d_80 {Dy : jH → Prop} {h0 : jH} {Q : Option Value → jH → Prop} {dr : Int} (hD : jDk Dy) (hQ : ∀ (v : Int32) hx9, (-3) ≤ v.toInt ∧ v.toInt ≤ 200 → jJ jSgX Dy hx9 → jSm fp_X11_as_r31d h0 hx9 → dr = v.toInt → vw hx9 = vw h0 → Q (some (.int v)) hx9) : ∀ (s0 : Int32) (h : jH), (-3) ≤ s0.toInt ∧ s0.toInt ≤ 200 → jJ jSgX Dy h → jSm fp_X11_as_r31d h0 h → d_X11_as_r31d_80  s0.toInt (vw h) = dr → vw h = vw h0 → jX m_X11_as 2 0 0 80 [] [.int s0] h 0 0 Q := by
  intro s0 h y0   J Sm D EV
  unfold d_X11_as_r31d_80 at D
  refine x_iret rfl rfl ?_
  exact hQ _ _ (jr_of rfl (by omega)) J Sm (D.symm.trans (show s0.toInt = s0.toInt from by omega)) EV
set_option maxRecDepth 100000 in
set_option maxHeartbeats 4000000 in
theorem sf_X11_as_r31d {Dy : jH → Prop} {h : jH} {Q : Option Value → jH → Prop} {dr : Int} {a1 : Int32} {a2 : Int32} (hD : jDk Dy) (J : jJ jSgX Dy h) (D : d_X11_as_r31d a1.toInt a2.toInt (vw h) = dr) (hQ : ∀ (v : Int32) hx9, (-3) ≤ v.toInt ∧ v.toInt ≤ 200 → jJ jSgX Dy hx9 → jSm fp_X11_as_r31d h hx9 → dr = v.toInt → vw hx9 = vw h → Q (some (.int v)) hx9) : jC m_X11_as 2 0 0 [.ref 31, .int a1, .int a2] h Q := by
  refine jC.of rfl k_X11_as rfl ?_
  have Sm := jSm_rf fp_X11_as_r31d h
  have ea1 := jfull a1
  have ea2 := jfull a2
  show jX m_X11_as 2 0 0 0 [(0, .ref 31), (1, .int a1), (2, .int a2)] [] _ 0 0 _
  unfold d_X11_as_r31d at D
  have EV : vw h = vw h := rfl
  refine x_iloadn (x := a2) rfl rfl ?_
  refine x_iflt (tgt := 10) rfl rfl (ti_lt rfl jk_0 ⟨fun c1 => ?_, fun c1 => ?_⟩)
  ·
    rw [if_pos (by omega)] at D
    exact jX.sub jsb_n (ct_X11_as_r31d_10 hD hQ  h J Sm D EV)
  ·
    rw [if_neg (by omega)] at D
    refine x_iloadn (x := a2) rfl rfl ?_
    refine x_bipush (v := 9) rfl kb_9 ?_
    refine x_icle (tgt := 12) rfl rfl (ti_le rfl jk_9 ⟨fun c2 => ?_, fun c2 => ?_⟩)
    ·
      rw [if_pos (by omega)] at D
      refine x_iloadn (x := a1) rfl rfl ?_
      refine x_iflt (tgt := 30) rfl rfl (ti_lt rfl jk_0 ⟨fun c3 => ?_, fun c3 => ?_⟩)
      ·
        rw [if_pos (by omega)] at D
        exact jX.sub jsb_n (ct_X11_as_r31d_30 hD hQ  h J Sm D EV)
      ·
        rw [if_neg (by omega)] at D
        refine x_iloadn (x := a1) rfl rfl ?_
        refine x_aloadn (x := 31) rfl rfl ?_
        refine z_getR (N := 13) (b := 32) 11 0 rfl f_11_10 rfl J rfl 3968 ⟨rfl, rfl⟩ rfl ?_
        refine z_getR (N := 20) (b := 63) 1 15 rfl f_11_159 rfl J rfl 4111 ⟨rfl, rfl⟩ rfl ?_
        refine z_getI (N := 4) 8 3 rfl f_11_142 rfl J rfl sg_63_3_4_1_0_1 (fun v4 qv4 ev4 => ?_)
        try rw [vrf qv4] at D
        refine x_iclt (tgt := 33) rfl rfl (ti_lt rfl rfl ⟨fun c5 => ?_, fun c5 => ?_⟩)
        ·
          rw [if_pos (by omega)] at D
          refine x_aloadn (x := 31) rfl rfl ?_
          refine z_getR (N := 13) (b := 32) 11 0 rfl f_11_10 rfl J rfl 3968 ⟨rfl, rfl⟩ rfl ?_
          refine z_getR (N := 20) (b := 63) 1 15 rfl f_11_159 rfl J rfl 4111 ⟨rfl, rfl⟩ rfl ?_
          refine x_iloadn (x := a1) rfl rfl ?_
          refine x_iconst (v := 0) rfl ki_0 ?_
          refine x_inv (N := m_X8_at) (As := [.int a1, .int 0]) (b := 63) (st := []) (dx9 := 1) (mc := 0) (ms := 0) (host := "") 8 rfl t_X8_at ⟨Or.inl q_11_171, i_X8_at.1, i_X8_at.2⟩ ⟨by decide, rfl⟩ (congrArg Prod.fst (J.1.1 63 (8, 4) rfl)) rfl (by decide) rfl rfl ⟨by decide, by decide⟩ (sf_X8_at_r63_c0d (jr_of rfl (by omega)) hD J rfl  (fun v9 h ev9 J S6 X7 X8 => ?_))
          have Sm := jSm_tr rfl Sm S6
          try rw [X7] at D
          try rw [← X8] at D
          have EV := X8.trans EV
          show jX m_X11_as 2 0 0 45 [(0, .ref 31), (1, .int a1), (2, .int a2)] [.int v9] _ 0 0 _
          refine x_istoren (lsx9 := [(3, .int v9), (0, .ref 31), (1, .int a1), (2, .int a2)]) rfl rfl rfl ?_
          refine x_aloadn (x := 31) rfl rfl ?_
          refine z_getR (N := 13) (b := 32) 11 0 rfl f_11_10 rfl J rfl 3968 ⟨rfl, rfl⟩ rfl ?_
          refine z_getR (N := 20) (b := 63) 1 15 rfl f_11_159 rfl J rfl 4111 ⟨rfl, rfl⟩ rfl ?_
          refine x_iloadn (x := a1) rfl rfl ?_
          refine x_iconst (v := 1) rfl ki_1 ?_
          refine x_inv (N := m_X8_at) (As := [.int a1, .int 1]) (b := 63) (st := []) (dx9 := 1) (mc := 0) (ms := 0) (host := "") 8 rfl t_X8_at ⟨Or.inl q_11_171, i_X8_at.1, i_X8_at.2⟩ ⟨by decide, rfl⟩ (congrArg Prod.fst (J.1.1 63 (8, 4) rfl)) rfl (by decide) rfl rfl ⟨by decide, by decide⟩ (sf_X8_at_r63_c1d (jr_of rfl (by omega)) hD J rfl  (fun v13 h ev13 J S10 X11 X12 => ?_))
          have Sm := jSm_tr rfl Sm S10
          try rw [X11] at D
          try rw [← X12] at D
          have EV := X12.trans EV
          show jX m_X11_as 2 0 0 58 [(3, .int v9), (0, .ref 31), (1, .int a1), (2, .int a2)] [.int v13] _ 0 0 _
          refine x_istore (lsx9 := [(4, .int v13), (3, .int v9), (0, .ref 31), (1, .int a1), (2, .int a2)]) rfl rfl rfl ?_
          refine x_iloadn (x := a2) rfl rfl ?_
          refine x_iconst (v := 5) rfl ki_5 ?_
          refine x_icle (tgt := 81) rfl rfl (ti_le rfl jk_5 ⟨fun c14 => ?_, fun c14 => ?_⟩)
          ·
            rw [if_pos (by omega)] at D
            refine x_iloadn (x := v9) rfl rfl ?_
            refine x_ifeq (tgt := 88) rfl rfl (ti_eq rfl jk_0 ⟨fun c15 => ?_, fun c15 => ?_⟩)
            ·
              rw [if_pos (by omega)] at D
              refine x_aloadn (x := 31) rfl rfl ?_
              refine z_getR (N := 13) (b := 32) 11 0 rfl f_11_10 rfl J rfl 3968 ⟨rfl, rfl⟩ rfl ?_
              refine z_getR (N := 20) (b := 33) 1 0 rfl f_11_126 rfl J rfl 4096 ⟨rfl, rfl⟩ rfl ?_
              refine x_iload (x := v13) rfl rfl ?_
              refine x_iconst (v := 2) rfl ki_2 ?_
              refine x_inv (N := m_X8_at) (As := [.int v13, .int 2]) (b := 33) (st := []) (dx9 := 1) (mc := 0) (ms := 0) (host := "") 8 rfl t_X8_at ⟨Or.inl q_11_171, i_X8_at.1, i_X8_at.2⟩ ⟨by decide, rfl⟩ (congrArg Prod.fst (J.1.1 33 (8, 4) rfl)) rfl (by decide) rfl rfl ⟨by decide, by decide⟩ (sf_X8_at_r33_c2d  hD J rfl  (fun v19 h ev19 J S16 X17 X18 => ?_))
              have Sm := jSm_tr rfl Sm S16
              try rw [X17] at D
              try rw [← X18] at D
              have EV := X18.trans EV
              show jX m_X11_as 2 0 0 101 [(4, .int v13), (3, .int v9), (0, .ref 31), (1, .int a1), (2, .int a2)] [.int v19] _ 0 0 _
              refine x_istore (lsx9 := [(5, .int v19), (4, .int v13), (3, .int v9), (0, .ref 31), (1, .int a1), (2, .int a2)]) rfl rfl rfl ?_
              refine x_iload (x := v19) rfl rfl ?_
              refine x_iloadn (x := a2) rfl rfl ?_
              refine x_iceq (tgt := 120) rfl rfl (ti_eq rfl rfl ⟨fun c20 => ?_, fun c20 => ?_⟩)
              ·
                rw [if_pos (by omega)] at D
                exact jX.sub (jsb_c rfl jsb_n) (ct_X11_as_r31d_120 hD hQ  v13 h (jr_of rfl (by omega)) J Sm D EV)
              ·
                rw [if_neg (by omega)] at D
                refine x_iloadn (x := a2) rfl rfl ?_
                refine x_iconst (v := 3) rfl ki_3 ?_
                refine x_icne (tgt := 125) rfl rfl (ti_ne rfl jk_3 ⟨fun c21 => ?_, fun c21 => ?_⟩)
                ·
                  rw [if_neg (by omega)] at D
                  exact jX.sub jsb_n (ct_X11_as_r31d_125 hD hQ  h J Sm D EV)
                ·
                  rw [if_pos (by omega)] at D
                  refine x_iload (x := v19) rfl rfl ?_
                  refine x_iconst (v := 4) rfl ki_4 ?_
                  refine x_icne (tgt := 125) rfl rfl (ti_ne rfl jk_4 ⟨fun c22 => ?_, fun c22 => ?_⟩)
                  ·
                    rw [if_neg (by omega)] at D
                    exact jX.sub jsb_n (ct_X11_as_r31d_125 hD hQ  h J Sm D EV)
                  ·
                    rw [if_pos (by omega)] at D
                    exact jX.sub (jsb_c rfl jsb_n) (ct_X11_as_r31d_120 hD hQ  v13 h (jr_of rfl (by omega)) J Sm D EV)
            ·
              rw [if_neg (by omega)] at D
              refine x_bipush (v := (-3)) rfl kb_m3 ?_
              refine x_iret rfl rfl ?_
              exact hQ _ _ (jr_of jk_m3 (by omega)) J Sm (D.symm.trans (show (-3) = ((-3) : Int32).toInt from by have := jk_m3; omega)) EV
          ·
            rw [if_neg (by omega)] at D
            refine x_iloadn (x := v9) rfl rfl ?_
            refine x_iloadn (x := a2) rfl rfl ?_
            refine x_bipush (v := 6) rfl kb_6 ?_
            refine z_isub rfl rfl jk_6 (by omega) (fun v23 ev23 => ?_)
            refine x_icne (tgt := 78) rfl rfl (ti_ne rfl rfl ⟨fun c24 => ?_, fun c24 => ?_⟩)
            ·
              rw [if_neg (by omega)] at D
              refine x_bipush (v := (-3)) rfl kb_m3 ?_
              exact jX.sub jsb_n (ct_X11_as_r31d_80 hD hQ  (-3) h (jr_of jk_m3 (by omega)) J Sm (by rw [jk_m3]; exact D) EV)
            ·
              rw [if_pos (by omega)] at D
              refine x_iload (x := v13) rfl rfl ?_
              refine x_goto (tgt := 80) rfl rfl ?_
              exact jX.sub jsb_n (ct_X11_as_r31d_80 hD hQ  v13 h (jr_of rfl (by omega)) J Sm D EV)
        ·
          rw [if_neg (by omega)] at D
          exact jX.sub jsb_n (ct_X11_as_r31d_30 hD hQ  h J Sm D EV)
    ·
      rw [if_neg (by omega)] at D
      exact jX.sub jsb_n (ct_X11_as_r31d_10 hD hQ  h J Sm D EV)
def fp_X8_at_r35d : jFp := []
set_option maxRecDepth 100000 in
set_option maxHeartbeats 4000000 in
theorem ct_X8_at_r35d_24 {Dy : jH → Prop} {h0 : jH} {Q : Option Value → jH → Prop} {dr : Int} (hD : jDk Dy) (hQ : ∀ (v : Int32) hx9, jJ jSgX Dy hx9 → jSm fp_X8_at_r35d h0 hx9 → dr = v.toInt → vw hx9 = vw h0 → Q (some (.int v)) hx9) : ∀ (h : jH), jJ jSgX Dy h → jSm fp_X8_at_r35d h0 h → d_X8_at_r35d_24  (vw h) = dr → vw h = vw h0 → jX m_X8_at 1 0 0 24 [] [] h 0 0 Q := by
  intro  h    J Sm D EV
  unfold d_X8_at_r35d_24 at D
  refine x_iconst (v := 0) rfl ki_0 ?_
  refine x_iret rfl rfl ?_
  exact hQ _ _ J Sm (D.symm.trans (show 0 = (0 : Int32).toInt from by have := jk_0; omega)) EV
set_option maxRecDepth 100000 in
set_option maxHeartbeats 4000000 in
theorem sf_X8_at_r35d {Dy : jH → Prop} {h : jH} {Q : Option Value → jH → Prop} {dr : Int} {a1 : Int32} {a2 : Int32} (y1 : 0 ≤ a1.toInt ∧ a1.toInt ≤ 1199) (y2 : 2 ≤ a2.toInt ∧ a2.toInt ≤ 19) (hD : jDk Dy) (J : jJ jSgX Dy h) (D : d_X8_at_r35d a1.toInt a2.toInt (vw h) = dr) (hQ : ∀ (v : Int32) hx9, jJ jSgX Dy hx9 → jSm fp_X8_at_r35d h hx9 → dr = v.toInt → vw hx9 = vw h → Q (some (.int v)) hx9) : jC m_X8_at 1 0 0 [.ref 35, .int a1, .int a2] h Q := by
  refine jC.of rfl k_X8_at rfl ?_
  have Sm := jSm_rf fp_X8_at_r35d h
  show jX m_X8_at 1 0 0 0 [(0, .ref 35), (1, .int a1), (2, .int a2)] [] _ 0 0 _
  unfold d_X8_at_r35d at D
  have EV : vw h = vw h := rfl
  refine x_iloadn (x := a1) rfl rfl ?_
  refine x_iflt (tgt := 24) rfl rfl (ti_lt rfl jk_0 (br_f (by omega) ?_))
  refine x_iloadn (x := a1) rfl rfl ?_
  refine x_aloadn (x := 35) rfl rfl ?_
  refine z_getI (N := 4) 8 3 rfl f_8_7 rfl J rfl sg_35_3_4_1_0_1 (fun v1 qv1 ev1 => ?_)
  try rw [vrf qv1] at D
  refine x_icge (tgt := 24) rfl rfl (ti_ge rfl rfl ⟨fun c2 => ?_, fun c2 => ?_⟩)
  ·
    rw [if_pos (by omega)] at D
    exact jX.sub jsb_n (ct_X8_at_r35d_24 hD hQ  h J Sm D EV)
  ·
    rw [if_neg (by omega)] at D
    refine x_iloadn (x := a2) rfl rfl ?_
    refine x_iflt (tgt := 24) rfl rfl (ti_lt rfl jk_0 (br_f (by omega) ?_))
    refine x_iloadn (x := a2) rfl rfl ?_
    refine x_aloadn (x := 35) rfl rfl ?_
    refine z_getC (N := 4) (v := 14) 8 0 rfl f_8_19 rfl J rfl sg_35_0_1_1_0_1 jk_14 ?_
    refine x_iclt (tgt := 26) rfl rfl (ti_lt rfl jk_14 ⟨fun c3 => ?_, fun c3 => ?_⟩)
    ·
      rw [if_pos (by omega)] at D
      refine x_aloadn (x := 35) rfl rfl ?_
      refine z_getR (N := 4) (b := 36) 8 2 rfl f_8_25 rfl J rfl 4482 ⟨rfl, rfl⟩ rfl ?_
      refine x_iloadn (x := a1) rfl rfl ?_
      refine x_aloadn (x := 35) rfl rfl ?_
      refine z_getC (N := 4) (v := 14) 8 0 rfl f_8_19 rfl J rfl sg_35_0_1_1_0_1 jk_14 ?_
      refine z_imul rfl rfl jk_14 (by omega) (fun v4 ev4 => ?_)
      refine x_iloadn (x := a2) rfl rfl ?_
      refine z_iadd rfl rfl rfl (by omega) (fun v5 ev5 => ?_)
      refine z_iald0 (N := 16800) rfl J rfl rfl (by omega) (fun v6 qv6 => ?_)
      have ev6 := jfull v6
      try rw [vrd qv6 (show ((a1.toInt * 14) + a2.toInt) = v5.toInt from by omega)] at D
      refine x_iret rfl rfl ?_
      exact hQ _ _ J Sm (D.symm.trans (show v6.toInt = v6.toInt from by omega)) EV
    ·
      rw [if_neg (by omega)] at D
      exact jX.sub jsb_n (ct_X8_at_r35d_24 hD hQ  h J Sm D EV)
def fp_X5_pairAt_r70d : jFp := []
set_option maxRecDepth 100000 in
set_option maxHeartbeats 4000000 in
theorem ct_X5_pairAt_r70d_112 {Dy : jH → Prop} {h0 : jH} {Q : Option Value → jH → Prop} {dr : Int} {K3 : Int → Int → Int → Int → Int → jW → Int} {R3 : Int} (hD : jDk Dy) (hQ : ∀ (v : Int32) hx9, (-1) ≤ v.toInt ∧ v.toInt ≤ 1016 → jJ jSgX Dy hx9 → jSm fp_X5_pairAt_r70d h0 hx9 → dr = v.toInt → vw hx9 = vw h0 → Q (some (.int v)) hx9) (k3 : ∀ (l1 : Int32) (l2 : Int32) (l3 : Int32) (l4 : Int32) (l5 : Int32) (h : jH), 8 - l5.toInt < R3 → 0 ≤ l1.toInt ∧ l1.toInt ≤ 1199 → 0 ≤ l2.toInt ∧ l2.toInt ≤ 11 → 1 ≤ l3.toInt ∧ l3.toInt ≤ 12 → 0 ≤ l4.toInt ∧ l4.toInt ≤ 15 → 0 ≤ l5.toInt ∧ l5.toInt ≤ 8 → jJ jSgX Dy h → jSm fp_X5_pairAt_r70d h0 h → K3 l1.toInt l2.toInt l3.toInt l4.toInt l5.toInt (vw h) = dr → vw h = vw h0 → jX m_X5_pairAt 2 0 0 3 [(0, .ref 70), (1, .int l1), (2, .int l2), (3, .int l3), (4, .int l4), (5, .int l5)] [] h 0 0 Q) : ∀ (l1 : Int32) (l2 : Int32) (l3 : Int32) (l4 : Int32) (l5 : Int32) (l6 : Int32) (l8 : Int32) (h : jH), 0 ≤ l1.toInt ∧ l1.toInt ≤ 1199 → 0 ≤ l2.toInt ∧ l2.toInt ≤ 11 → 1 ≤ l3.toInt ∧ l3.toInt ≤ 12 → 0 ≤ l4.toInt ∧ l4.toInt ≤ 15 → 0 ≤ l5.toInt ∧ l5.toInt ≤ 7 → 0 ≤ l6.toInt ∧ l6.toInt ≤ 1016 → l6.toInt % 8 = 0 → 0 ≤ l8.toInt ∧ l8.toInt ≤ 1 → 8 - l5.toInt ≤ R3 → jJ jSgX Dy h → jSm fp_X5_pairAt_r70d h0 h → d_X5_pairAt_r70d_112 K3  l1.toInt l2.toInt l3.toInt l4.toInt l5.toInt l6.toInt l8.toInt (vw h) = dr → vw h = vw h0 → jX m_X5_pairAt 2 0 0 112 [(0, .ref 70), (1, .int l1), (2, .int l2), (3, .int l3), (4, .int l4), (5, .int l5), (6, .int l6), (8, .int l8)] [] h 0 0 Q := by
  intro l1 l2 l3 l4 l5 l6 l8 h y0 y1 y2 y3 y4 y5 y6 y7  m3 J Sm D EV
  unfold d_X5_pairAt_r70d_112 at D
  refine x_iload (x := l8) rfl rfl ?_
  refine x_ifeq (tgt := 120) rfl rfl (ti_eq rfl jk_0 ⟨fun c1 => ?_, fun c1 => ?_⟩)
  ·
    rw [if_pos (by omega)] at D
    refine z_iinc (x := l5) (lsx9 := fun v2 => [(5, .int v2), (0, .ref 70), (1, .int l1), (2, .int l2), (3, .int l3), (4, .int l4), (6, .int l6), (8, .int l8)]) rfl rfl rfl jko_1 (by omega) rfl (fun _ => rfl) (fun v2 ev2 => ?_)
    refine x_goto (tgt := 3) rfl rfl ?_
    try rw [show (l5.toInt + 1) = v2.toInt from by omega] at D
    exact jX.sub (jsb_c rfl (jsb_c rfl (jsb_c rfl (jsb_c rfl (jsb_c rfl (jsb_c rfl jsb_n)))))) (k3 l1 l2 l3 l4 v2 h (by omega) (jr_of rfl (by omega)) (jr_of rfl (by omega)) (jr_of rfl (by omega)) (jr_of rfl (by omega)) (jr_of rfl (by omega)) J Sm D EV)
  ·
    rw [if_neg (by omega)] at D
    refine x_iload (x := l6) rfl rfl ?_
    refine x_iret rfl rfl ?_
    exact hQ _ _ (jr_of rfl (by omega)) J Sm (D.symm.trans (show l6.toInt = l6.toInt from by omega)) EV
set_option maxRecDepth 100000 in
set_option maxHeartbeats 4000000 in
theorem ct_X5_pairAt_r70d_200104 {Dy : jH → Prop} {h0 : jH} {Q : Option Value → jH → Prop} {dr : Int} {K3 : Int → Int → Int → Int → Int → jW → Int} {K55 : Int → Int → Int → Int → Int → Int → Int → Int → Int → jW → Int} {R3 : Int} {R55 : Int} (hD : jDk Dy) (hQ : ∀ (v : Int32) hx9, (-1) ≤ v.toInt ∧ v.toInt ≤ 1016 → jJ jSgX Dy hx9 → jSm fp_X5_pairAt_r70d h0 hx9 → dr = v.toInt → vw hx9 = vw h0 → Q (some (.int v)) hx9) (k3 : ∀ (l1 : Int32) (l2 : Int32) (l3 : Int32) (l4 : Int32) (l5 : Int32) (h : jH), 8 - l5.toInt < R3 → 0 ≤ l1.toInt ∧ l1.toInt ≤ 1199 → 0 ≤ l2.toInt ∧ l2.toInt ≤ 11 → 1 ≤ l3.toInt ∧ l3.toInt ≤ 12 → 0 ≤ l4.toInt ∧ l4.toInt ≤ 15 → 0 ≤ l5.toInt ∧ l5.toInt ≤ 8 → jJ jSgX Dy h → jSm fp_X5_pairAt_r70d h0 h → K3 l1.toInt l2.toInt l3.toInt l4.toInt l5.toInt (vw h) = dr → vw h = vw h0 → jX m_X5_pairAt 2 0 0 3 [(0, .ref 70), (1, .int l1), (2, .int l2), (3, .int l3), (4, .int l4), (5, .int l5)] [] h 0 0 Q) (k55 : ∀ (l1 : Int32) (l2 : Int32) (l3 : Int32) (l4 : Int32) (l5 : Int32) (l6 : Int32) (l7 : Int32) (l8 : Int32) (l9 : Int32) (h : jH), 3 - l9.toInt < R55 → 0 ≤ l1.toInt ∧ l1.toInt ≤ 1199 → 0 ≤ l2.toInt ∧ l2.toInt ≤ 11 → 1 ≤ l3.toInt ∧ l3.toInt ≤ 12 → 0 ≤ l4.toInt ∧ l4.toInt ≤ 15 → 0 ≤ l5.toInt ∧ l5.toInt ≤ 7 → 0 ≤ l6.toInt ∧ l6.toInt ≤ 1016 → l6.toInt % 8 = 0 → (-400) ≤ l7.toInt ∧ l7.toInt ≤ 3 → 0 ≤ l8.toInt ∧ l8.toInt ≤ 1 → 0 ≤ l9.toInt ∧ l9.toInt ≤ 3 → 8 - l5.toInt ≤ R3 → jJ jSgX Dy h → jSm fp_X5_pairAt_r70d h0 h → K55 l1.toInt l2.toInt l3.toInt l4.toInt l5.toInt l6.toInt l7.toInt l8.toInt l9.toInt (vw h) = dr → vw h = vw h0 → jX m_X5_pairAt 2 0 0 55 [(0, .ref 70), (1, .int l1), (2, .int l2), (3, .int l3), (4, .int l4), (5, .int l5), (6, .int l6), (7, .int l7), (8, .int l8), (9, .int l9)] [] h 0 0 Q) : ∀ (l1 : Int32) (l2 : Int32) (l3 : Int32) (l4 : Int32) (l5 : Int32) (l6 : Int32) (l7 : Int32) (l9 : Int32) (h : jH), 0 ≤ l1.toInt ∧ l1.toInt ≤ 1199 → 0 ≤ l2.toInt ∧ l2.toInt ≤ 11 → 1 ≤ l3.toInt ∧ l3.toInt ≤ 12 → 0 ≤ l4.toInt ∧ l4.toInt ≤ 15 → 0 ≤ l5.toInt ∧ l5.toInt ≤ 7 → 0 ≤ l6.toInt ∧ l6.toInt ≤ 1016 → l6.toInt % 8 = 0 → 1 ≤ l7.toInt ∧ l7.toInt ≤ 3 → 0 ≤ l9.toInt ∧ l9.toInt ≤ 2 → 8 - l5.toInt ≤ R3 → 3 - l9.toInt ≤ R55 → jJ jSgX Dy h → jSm fp_X5_pairAt_r70d h0 h → d_X5_pairAt_r70d_200104 K3 K55  l1.toInt l2.toInt l3.toInt l4.toInt l5.toInt l6.toInt l7.toInt l9.toInt (vw h) = dr → vw h = vw h0 → jX m_X5_pairAt 2 0 0 104 [(0, .ref 70), (1, .int l1), (2, .int l2), (3, .int l3), (4, .int l4), (5, .int l5), (6, .int l6), (7, .int l7), (9, .int l9)] [.int 0] h 0 0 Q := by
  intro l1 l2 l3 l4 l5 l6 l7 l9 h y0 y1 y2 y3 y4 y5 y6 y7 y8  m3 m55 J Sm D EV
  unfold d_X5_pairAt_r70d_200104 at D
  refine x_istore (lsx9 := [(8, .int 0), (0, .ref 70), (1, .int l1), (2, .int l2), (3, .int l3), (4, .int l4), (5, .int l5), (6, .int l6), (7, .int l7), (9, .int l9)]) rfl rfl rfl ?_
  refine z_iinc (x := l9) (lsx9 := fun v1 => [(9, .int v1), (8, .int 0), (0, .ref 70), (1, .int l1), (2, .int l2), (3, .int l3), (4, .int l4), (5, .int l5), (6, .int l6), (7, .int l7)]) rfl rfl rfl jko_1 (by omega) rfl (fun _ => rfl) (fun v1 ev1 => ?_)
  refine x_goto (tgt := 55) rfl rfl ?_
  try rw [show (l9.toInt + 1) = v1.toInt from by omega] at D
  exact jX.sub (jsb_c rfl (jsb_c rfl (jsb_c rfl (jsb_c rfl (jsb_c rfl (jsb_c rfl (jsb_c rfl (jsb_c rfl (jsb_c rfl (jsb_c rfl jsb_n)))))))))) (k55 l1 l2 l3 l4 l5 l6 l7 0 v1 h (by omega) (jr_of rfl (by omega)) (jr_of rfl (by omega)) (jr_of rfl (by omega)) (jr_of rfl (by omega)) (jr_of rfl (by omega)) (jr_of rfl (by omega)) (jr_mod rfl (by omega)) (jr_of rfl (by omega)) (jr_of jk_0 (by omega)) (jr_of rfl (by omega)) (by omega) J Sm (by rw [jk_0]; exact D) EV)
set_option maxRecDepth 100000 in
set_option maxHeartbeats 4000000 in
theorem ct_X5_pairAt_r70d_300104 {Dy : jH → Prop} {h0 : jH} {Q : Option Value → jH → Prop} {dr : Int} {K3 : Int → Int → Int → Int → Int → jW → Int} {K55 : Int → Int → Int → Int → Int → Int → Int → Int → Int → jW → Int} {R3 : Int} {R55 : Int} (hD : jDk Dy) (hQ : ∀ (v : Int32) hx9, (-1) ≤ v.toInt ∧ v.toInt ≤ 1016 → jJ jSgX Dy hx9 → jSm fp_X5_pairAt_r70d h0 hx9 → dr = v.toInt → vw hx9 = vw h0 → Q (some (.int v)) hx9) (k3 : ∀ (l1 : Int32) (l2 : Int32) (l3 : Int32) (l4 : Int32) (l5 : Int32) (h : jH), 8 - l5.toInt < R3 → 0 ≤ l1.toInt ∧ l1.toInt ≤ 1199 → 0 ≤ l2.toInt ∧ l2.toInt ≤ 11 → 1 ≤ l3.toInt ∧ l3.toInt ≤ 12 → 0 ≤ l4.toInt ∧ l4.toInt ≤ 15 → 0 ≤ l5.toInt ∧ l5.toInt ≤ 8 → jJ jSgX Dy h → jSm fp_X5_pairAt_r70d h0 h → K3 l1.toInt l2.toInt l3.toInt l4.toInt l5.toInt (vw h) = dr → vw h = vw h0 → jX m_X5_pairAt 2 0 0 3 [(0, .ref 70), (1, .int l1), (2, .int l2), (3, .int l3), (4, .int l4), (5, .int l5)] [] h 0 0 Q) (k55 : ∀ (l1 : Int32) (l2 : Int32) (l3 : Int32) (l4 : Int32) (l5 : Int32) (l6 : Int32) (l7 : Int32) (l8 : Int32) (l9 : Int32) (h : jH), 3 - l9.toInt < R55 → 0 ≤ l1.toInt ∧ l1.toInt ≤ 1199 → 0 ≤ l2.toInt ∧ l2.toInt ≤ 11 → 1 ≤ l3.toInt ∧ l3.toInt ≤ 12 → 0 ≤ l4.toInt ∧ l4.toInt ≤ 15 → 0 ≤ l5.toInt ∧ l5.toInt ≤ 7 → 0 ≤ l6.toInt ∧ l6.toInt ≤ 1016 → l6.toInt % 8 = 0 → (-400) ≤ l7.toInt ∧ l7.toInt ≤ 3 → 0 ≤ l8.toInt ∧ l8.toInt ≤ 1 → 0 ≤ l9.toInt ∧ l9.toInt ≤ 3 → 8 - l5.toInt ≤ R3 → jJ jSgX Dy h → jSm fp_X5_pairAt_r70d h0 h → K55 l1.toInt l2.toInt l3.toInt l4.toInt l5.toInt l6.toInt l7.toInt l8.toInt l9.toInt (vw h) = dr → vw h = vw h0 → jX m_X5_pairAt 2 0 0 55 [(0, .ref 70), (1, .int l1), (2, .int l2), (3, .int l3), (4, .int l4), (5, .int l5), (6, .int l6), (7, .int l7), (8, .int l8), (9, .int l9)] [] h 0 0 Q) : ∀ (l1 : Int32) (l2 : Int32) (l3 : Int32) (l4 : Int32) (l5 : Int32) (l6 : Int32) (l7 : Int32) (l9 : Int32) (h : jH), 0 ≤ l1.toInt ∧ l1.toInt ≤ 1199 → 0 ≤ l2.toInt ∧ l2.toInt ≤ 11 → 1 ≤ l3.toInt ∧ l3.toInt ≤ 12 → 0 ≤ l4.toInt ∧ l4.toInt ≤ 15 → 0 ≤ l5.toInt ∧ l5.toInt ≤ 7 → 0 ≤ l6.toInt ∧ l6.toInt ≤ 1016 → l6.toInt % 8 = 0 → 1 ≤ l7.toInt ∧ l7.toInt ≤ 3 → 0 ≤ l9.toInt ∧ l9.toInt ≤ 2 → 8 - l5.toInt ≤ R3 → 3 - l9.toInt ≤ R55 → jJ jSgX Dy h → jSm fp_X5_pairAt_r70d h0 h → d_X5_pairAt_r70d_300104 K3 K55  l1.toInt l2.toInt l3.toInt l4.toInt l5.toInt l6.toInt l7.toInt l9.toInt (vw h) = dr → vw h = vw h0 → jX m_X5_pairAt 2 0 0 104 [(0, .ref 70), (1, .int l1), (2, .int l2), (3, .int l3), (4, .int l4), (5, .int l5), (6, .int l6), (7, .int l7), (9, .int l9)] [.int 1] h 0 0 Q := by
  intro l1 l2 l3 l4 l5 l6 l7 l9 h y0 y1 y2 y3 y4 y5 y6 y7 y8  m3 m55 J Sm D EV
  unfold d_X5_pairAt_r70d_300104 at D
  refine x_istore (lsx9 := [(8, .int 1), (0, .ref 70), (1, .int l1), (2, .int l2), (3, .int l3), (4, .int l4), (5, .int l5), (6, .int l6), (7, .int l7), (9, .int l9)]) rfl rfl rfl ?_
  refine z_iinc (x := l9) (lsx9 := fun v1 => [(9, .int v1), (8, .int 1), (0, .ref 70), (1, .int l1), (2, .int l2), (3, .int l3), (4, .int l4), (5, .int l5), (6, .int l6), (7, .int l7)]) rfl rfl rfl jko_1 (by omega) rfl (fun _ => rfl) (fun v1 ev1 => ?_)
  refine x_goto (tgt := 55) rfl rfl ?_
  try rw [show (l9.toInt + 1) = v1.toInt from by omega] at D
  exact jX.sub (jsb_c rfl (jsb_c rfl (jsb_c rfl (jsb_c rfl (jsb_c rfl (jsb_c rfl (jsb_c rfl (jsb_c rfl (jsb_c rfl (jsb_c rfl jsb_n)))))))))) (k55 l1 l2 l3 l4 l5 l6 l7 1 v1 h (by omega) (jr_of rfl (by omega)) (jr_of rfl (by omega)) (jr_of rfl (by omega)) (jr_of rfl (by omega)) (jr_of rfl (by omega)) (jr_of rfl (by omega)) (jr_mod rfl (by omega)) (jr_of rfl (by omega)) (jr_of jk_1 (by omega)) (jr_of rfl (by omega)) (by omega) J Sm (by rw [jk_1]; exact D) EV)
set_option maxRecDepth 100000 in
set_option maxHeartbeats 4000000 in
theorem ct_X5_pairAt_r70d_55 {Dy : jH → Prop} {h0 : jH} {Q : Option Value → jH → Prop} {dr : Int} {K3 : Int → Int → Int → Int → Int → jW → Int} {R3 : Int} (hD : jDk Dy) (hQ : ∀ (v : Int32) hx9, (-1) ≤ v.toInt ∧ v.toInt ≤ 1016 → jJ jSgX Dy hx9 → jSm fp_X5_pairAt_r70d h0 hx9 → dr = v.toInt → vw hx9 = vw h0 → Q (some (.int v)) hx9) (k3 : ∀ (l1 : Int32) (l2 : Int32) (l3 : Int32) (l4 : Int32) (l5 : Int32) (h : jH), 8 - l5.toInt < R3 → 0 ≤ l1.toInt ∧ l1.toInt ≤ 1199 → 0 ≤ l2.toInt ∧ l2.toInt ≤ 11 → 1 ≤ l3.toInt ∧ l3.toInt ≤ 12 → 0 ≤ l4.toInt ∧ l4.toInt ≤ 15 → 0 ≤ l5.toInt ∧ l5.toInt ≤ 8 → jJ jSgX Dy h → jSm fp_X5_pairAt_r70d h0 h → K3 l1.toInt l2.toInt l3.toInt l4.toInt l5.toInt (vw h) = dr → vw h = vw h0 → jX m_X5_pairAt 2 0 0 3 [(0, .ref 70), (1, .int l1), (2, .int l2), (3, .int l3), (4, .int l4), (5, .int l5)] [] h 0 0 Q) : ∀ r : Nat, ∀ (l1 : Int32) (l2 : Int32) (l3 : Int32) (l4 : Int32) (l5 : Int32) (l6 : Int32) (l7 : Int32) (l8 : Int32) (l9 : Int32) (h : jH), 3 - l9.toInt < (r : Int) → 0 ≤ l1.toInt ∧ l1.toInt ≤ 1199 → 0 ≤ l2.toInt ∧ l2.toInt ≤ 11 → 1 ≤ l3.toInt ∧ l3.toInt ≤ 12 → 0 ≤ l4.toInt ∧ l4.toInt ≤ 15 → 0 ≤ l5.toInt ∧ l5.toInt ≤ 7 → 0 ≤ l6.toInt ∧ l6.toInt ≤ 1016 → l6.toInt % 8 = 0 → (-400) ≤ l7.toInt ∧ l7.toInt ≤ 3 → 0 ≤ l8.toInt ∧ l8.toInt ≤ 1 → 0 ≤ l9.toInt ∧ l9.toInt ≤ 3 → 8 - l5.toInt ≤ R3 → jJ jSgX Dy h → jSm fp_X5_pairAt_r70d h0 h → d_X5_pairAt_r70d_55 K3 r l1.toInt l2.toInt l3.toInt l4.toInt l5.toInt l6.toInt l7.toInt l8.toInt l9.toInt (vw h) = dr → vw h = vw h0 → jX m_X5_pairAt 2 0 0 55 [(0, .ref 70), (1, .int l1), (2, .int l2), (3, .int l3), (4, .int l4), (5, .int l5), (6, .int l6), (7, .int l7), (8, .int l8), (9, .int l9)] [] h 0 0 Q := by
  intro r
  induction r with
  | zero =>
    intro l1 l2 l3 l4 l5 l6 l7 l8 l9 h hm y0 y1 y2 y3 y4 y5 y6 y7 y8 y9  m3 J Sm D EV
    exfalso
    omega
  | succ r ih =>
    intro l1 l2 l3 l4 l5 l6 l7 l8 l9 h hm y0 y1 y2 y3 y4 y5 y6 y7 y8 y9  m3 J Sm D EV
    rw [d_X5_pairAt_r70d_55.eq_2] at D
    refine x_iload (x := l9) rfl rfl ?_
    refine x_iload (x := l7) rfl rfl ?_
    refine x_icge (tgt := 112) rfl rfl (ti_ge rfl rfl ⟨fun c1 => ?_, fun c1 => ?_⟩)
    ·
      rw [if_pos (by omega)] at D
      exact jX.sub (jsb_c rfl (jsb_c rfl (jsb_c rfl (jsb_c rfl (jsb_c rfl (jsb_c rfl (jsb_c rfl (jsb_c rfl jsb_n)))))))) (ct_X5_pairAt_r70d_112 hD hQ k3 l1 l2 l3 l4 l5 l6 l8 h (jr_of rfl (by omega)) (jr_of rfl (by omega)) (jr_of rfl (by omega)) (jr_of rfl (by omega)) (jr_of rfl (by omega)) (jr_of rfl (by omega)) (jr_mod rfl (by omega)) (jr_of rfl (by omega)) (by omega) J Sm D EV)
    ·
      rw [if_neg (by omega)] at D
      refine x_iload (x := l8) rfl rfl ?_
      refine x_ifeq (tgt := 112) rfl rfl (ti_eq rfl jk_0 ⟨fun c2 => ?_, fun c2 => ?_⟩)
      ·
        rw [if_pos (by omega)] at D
        exact jX.sub (jsb_c rfl (jsb_c rfl (jsb_c rfl (jsb_c rfl (jsb_c rfl (jsb_c rfl (jsb_c rfl (jsb_c rfl jsb_n)))))))) (ct_X5_pairAt_r70d_112 hD hQ k3 l1 l2 l3 l4 l5 l6 l8 h (jr_of rfl (by omega)) (jr_of rfl (by omega)) (jr_of rfl (by omega)) (jr_of rfl (by omega)) (jr_of rfl (by omega)) (jr_of rfl (by omega)) (jr_mod rfl (by omega)) (jr_of rfl (by omega)) (by omega) J Sm D EV)
      ·
        rw [if_neg (by omega)] at D
        refine x_aloadn (x := 70) rfl rfl ?_
        refine z_getR (N := 9) (b := 73) 5 4 rfl f_5_18 rfl J rfl 8964 ⟨rfl, rfl⟩ rfl ?_
        refine x_iload (x := l6) rfl rfl ?_
        refine x_iconst (v := 1) rfl ki_1 ?_
        refine z_iadd rfl rfl jk_1 (by omega) (fun v3 ev3 => ?_)
        refine x_iload (x := l9) rfl rfl ?_
        refine z_iadd rfl rfl rfl (by omega) (fun v4 ev4 => ?_)
        refine z_iald (N := 1024) rfl J rfl sg_73_0_1024_4_1_4 rfl (by omega) (fun v5 qv5 ev5 => ?_)
        try rw [vrd qv5 (show ((l6.toInt + 1) + l9.toInt) = v4.toInt from by omega)] at D
        refine x_aloadn (x := 70) rfl rfl ?_
        refine z_getR (N := 9) (b := 32) 5 0 rfl f_5_35 rfl J rfl 8960 ⟨rfl, rfl⟩ rfl ?_
        refine z_getR (N := 20) (b := 35) 1 1 rfl f_5_118 rfl J rfl 4097 ⟨rfl, rfl⟩ rfl ?_
        refine x_iloadn (x := l1) rfl rfl ?_
        refine x_iconst (v := 2) rfl ki_2 ?_
        refine x_iloadn (x := l2) rfl rfl ?_
        refine z_iadd rfl jk_2 rfl (by omega) (fun v6 ev6 => ?_)
        refine x_iload (x := l9) rfl rfl ?_
        refine z_iadd rfl rfl rfl (by omega) (fun v7 ev7 => ?_)
        try rw [show ((2 + l2.toInt) + l9.toInt) = v7.toInt from by omega] at D
        refine x_inv (N := m_X8_at) (As := [.int l1, .int v7]) (b := 35) (st := [.int v5]) (dx9 := 1) (mc := 0) (ms := 0) (host := "") 8 rfl t_X8_at ⟨Or.inl q_5_108, i_X8_at.1, i_X8_at.2⟩ ⟨by decide, rfl⟩ (congrArg Prod.fst (J.1.1 35 (8, 4) rfl)) rfl (by decide) rfl rfl ⟨by decide, by decide⟩ (sf_X8_at_r35d (jr_of rfl (by omega)) (jr_of rfl (by omega)) hD J rfl  (fun v11 h J S8 X9 X10 => ?_))
        have ev11 := jfull v11
        have Sm := jSm_tr rfl Sm S8
        try rw [X9] at D
        try rw [← X10] at D
        have EV := X10.trans EV
        show jX m_X5_pairAt 2 0 0 96 [(0, .ref 70), (1, .int l1), (2, .int l2), (3, .int l3), (4, .int l4), (5, .int l5), (6, .int l6), (7, .int l7), (8, .int l8), (9, .int l9)] [.int v11, .int v5] _ 0 0 _
        refine x_icne (tgt := 103) rfl rfl (ti_ne rfl rfl ⟨fun c12 => ?_, fun c12 => ?_⟩)
        ·
          rw [if_neg (by omega)] at D
          refine x_iconst (v := 0) rfl ki_0 ?_
          exact jX.sub (jsb_c rfl (jsb_c rfl (jsb_c rfl (jsb_c rfl (jsb_c rfl (jsb_c rfl (jsb_c rfl (jsb_c rfl (jsb_c rfl jsb_n))))))))) (ct_X5_pairAt_r70d_200104 hD hQ k3 ih l1 l2 l3 l4 l5 l6 l7 l9 h (jr_of rfl (by omega)) (jr_of rfl (by omega)) (jr_of rfl (by omega)) (jr_of rfl (by omega)) (jr_of rfl (by omega)) (jr_of rfl (by omega)) (jr_mod rfl (by omega)) (jr_of rfl (by omega)) (jr_of rfl (by omega)) (by omega) (by omega) J Sm D EV)
        ·
          rw [if_pos (by omega)] at D
          refine x_iconst (v := 1) rfl ki_1 ?_
          refine x_goto (tgt := 104) rfl rfl ?_
          exact jX.sub (jsb_c rfl (jsb_c rfl (jsb_c rfl (jsb_c rfl (jsb_c rfl (jsb_c rfl (jsb_c rfl (jsb_c rfl (jsb_c rfl jsb_n))))))))) (ct_X5_pairAt_r70d_300104 hD hQ k3 ih l1 l2 l3 l4 l5 l6 l7 l9 h (jr_of rfl (by omega)) (jr_of rfl (by omega)) (jr_of rfl (by omega)) (jr_of rfl (by omega)) (jr_of rfl (by omega)) (jr_of rfl (by omega)) (jr_mod rfl (by omega)) (jr_of rfl (by omega)) (jr_of rfl (by omega)) (by omega) (by omega) J Sm D EV)
set_option maxRecDepth 100000 in
set_option maxHeartbeats 4000000 in
theorem ct_X5_pairAt_r70d_200050 {Dy : jH → Prop} {h0 : jH} {Q : Option Value → jH → Prop} {dr : Int} {K3 : Int → Int → Int → Int → Int → jW → Int} {R3 : Int} (hD : jDk Dy) (hQ : ∀ (v : Int32) hx9, (-1) ≤ v.toInt ∧ v.toInt ≤ 1016 → jJ jSgX Dy hx9 → jSm fp_X5_pairAt_r70d h0 hx9 → dr = v.toInt → vw hx9 = vw h0 → Q (some (.int v)) hx9) (k3 : ∀ (l1 : Int32) (l2 : Int32) (l3 : Int32) (l4 : Int32) (l5 : Int32) (h : jH), 8 - l5.toInt < R3 → 0 ≤ l1.toInt ∧ l1.toInt ≤ 1199 → 0 ≤ l2.toInt ∧ l2.toInt ≤ 11 → 1 ≤ l3.toInt ∧ l3.toInt ≤ 12 → 0 ≤ l4.toInt ∧ l4.toInt ≤ 15 → 0 ≤ l5.toInt ∧ l5.toInt ≤ 8 → jJ jSgX Dy h → jSm fp_X5_pairAt_r70d h0 h → K3 l1.toInt l2.toInt l3.toInt l4.toInt l5.toInt (vw h) = dr → vw h = vw h0 → jX m_X5_pairAt 2 0 0 3 [(0, .ref 70), (1, .int l1), (2, .int l2), (3, .int l3), (4, .int l4), (5, .int l5)] [] h 0 0 Q) : ∀ (l1 : Int32) (l2 : Int32) (l3 : Int32) (l4 : Int32) (l5 : Int32) (l6 : Int32) (l7 : Int32) (h : jH), 0 ≤ l1.toInt ∧ l1.toInt ≤ 1199 → 0 ≤ l2.toInt ∧ l2.toInt ≤ 11 → 1 ≤ l3.toInt ∧ l3.toInt ≤ 12 → 0 ≤ l4.toInt ∧ l4.toInt ≤ 15 → 0 ≤ l5.toInt ∧ l5.toInt ≤ 7 → 0 ≤ l6.toInt ∧ l6.toInt ≤ 1016 → l6.toInt % 8 = 0 → (-9) ≤ l7.toInt ∧ l7.toInt ≤ 3 → 8 - l5.toInt ≤ R3 → jJ jSgX Dy h → jSm fp_X5_pairAt_r70d h0 h → d_X5_pairAt_r70d_200050 K3  l1.toInt l2.toInt l3.toInt l4.toInt l5.toInt l6.toInt l7.toInt (vw h) = dr → vw h = vw h0 → jX m_X5_pairAt 2 0 0 50 [(0, .ref 70), (1, .int l1), (2, .int l2), (3, .int l3), (4, .int l4), (5, .int l5), (6, .int l6), (7, .int l7)] [.int 0] h 0 0 Q := by
  intro l1 l2 l3 l4 l5 l6 l7 h y0 y1 y2 y3 y4 y5 y6 y7  m3 J Sm D EV
  unfold d_X5_pairAt_r70d_200050 at D
  refine x_istore (lsx9 := [(8, .int 0), (0, .ref 70), (1, .int l1), (2, .int l2), (3, .int l3), (4, .int l4), (5, .int l5), (6, .int l6), (7, .int l7)]) rfl rfl rfl ?_
  refine x_iconst (v := 0) rfl ki_0 ?_
  refine x_istore (lsx9 := [(9, .int 0), (8, .int 0), (0, .ref 70), (1, .int l1), (2, .int l2), (3, .int l3), (4, .int l4), (5, .int l5), (6, .int l6), (7, .int l7)]) rfl rfl rfl ?_
  exact jX.sub (jsb_c rfl (jsb_c rfl (jsb_c rfl (jsb_c rfl (jsb_c rfl (jsb_c rfl (jsb_c rfl (jsb_c rfl (jsb_c rfl (jsb_c rfl jsb_n)))))))))) (ct_X5_pairAt_r70d_55 hD hQ k3 4 l1 l2 l3 l4 l5 l6 l7 0 0 h (by have := jk_0; omega) (jr_of rfl (by omega)) (jr_of rfl (by omega)) (jr_of rfl (by omega)) (jr_of rfl (by omega)) (jr_of rfl (by omega)) (jr_of rfl (by omega)) (jr_mod rfl (by omega)) (jr_of rfl (by omega)) (jr_of jk_0 (by omega)) (jr_of jk_0 (by omega)) (by omega) J Sm (by rw [jk_0]; exact D) EV)
set_option maxRecDepth 100000 in
set_option maxHeartbeats 4000000 in
theorem ct_X5_pairAt_r70d_300050 {Dy : jH → Prop} {h0 : jH} {Q : Option Value → jH → Prop} {dr : Int} {K3 : Int → Int → Int → Int → Int → jW → Int} {R3 : Int} (hD : jDk Dy) (hQ : ∀ (v : Int32) hx9, (-1) ≤ v.toInt ∧ v.toInt ≤ 1016 → jJ jSgX Dy hx9 → jSm fp_X5_pairAt_r70d h0 hx9 → dr = v.toInt → vw hx9 = vw h0 → Q (some (.int v)) hx9) (k3 : ∀ (l1 : Int32) (l2 : Int32) (l3 : Int32) (l4 : Int32) (l5 : Int32) (h : jH), 8 - l5.toInt < R3 → 0 ≤ l1.toInt ∧ l1.toInt ≤ 1199 → 0 ≤ l2.toInt ∧ l2.toInt ≤ 11 → 1 ≤ l3.toInt ∧ l3.toInt ≤ 12 → 0 ≤ l4.toInt ∧ l4.toInt ≤ 15 → 0 ≤ l5.toInt ∧ l5.toInt ≤ 8 → jJ jSgX Dy h → jSm fp_X5_pairAt_r70d h0 h → K3 l1.toInt l2.toInt l3.toInt l4.toInt l5.toInt (vw h) = dr → vw h = vw h0 → jX m_X5_pairAt 2 0 0 3 [(0, .ref 70), (1, .int l1), (2, .int l2), (3, .int l3), (4, .int l4), (5, .int l5)] [] h 0 0 Q) : ∀ (l1 : Int32) (l2 : Int32) (l3 : Int32) (l4 : Int32) (l5 : Int32) (l6 : Int32) (l7 : Int32) (h : jH), 0 ≤ l1.toInt ∧ l1.toInt ≤ 1199 → 0 ≤ l2.toInt ∧ l2.toInt ≤ 11 → 1 ≤ l3.toInt ∧ l3.toInt ≤ 12 → 0 ≤ l4.toInt ∧ l4.toInt ≤ 15 → 0 ≤ l5.toInt ∧ l5.toInt ≤ 7 → 0 ≤ l6.toInt ∧ l6.toInt ≤ 1016 → l6.toInt % 8 = 0 → (-400) ≤ l7.toInt ∧ l7.toInt ≤ 3 → 8 - l5.toInt ≤ R3 → jJ jSgX Dy h → jSm fp_X5_pairAt_r70d h0 h → d_X5_pairAt_r70d_300050 K3  l1.toInt l2.toInt l3.toInt l4.toInt l5.toInt l6.toInt l7.toInt (vw h) = dr → vw h = vw h0 → jX m_X5_pairAt 2 0 0 50 [(0, .ref 70), (1, .int l1), (2, .int l2), (3, .int l3), (4, .int l4), (5, .int l5), (6, .int l6), (7, .int l7)] [.int 1] h 0 0 Q := by
  intro l1 l2 l3 l4 l5 l6 l7 h y0 y1 y2 y3 y4 y5 y6 y7  m3 J Sm D EV
  unfold d_X5_pairAt_r70d_300050 at D
  refine x_istore (lsx9 := [(8, .int 1), (0, .ref 70), (1, .int l1), (2, .int l2), (3, .int l3), (4, .int l4), (5, .int l5), (6, .int l6), (7, .int l7)]) rfl rfl rfl ?_
  refine x_iconst (v := 0) rfl ki_0 ?_
  refine x_istore (lsx9 := [(9, .int 0), (8, .int 1), (0, .ref 70), (1, .int l1), (2, .int l2), (3, .int l3), (4, .int l4), (5, .int l5), (6, .int l6), (7, .int l7)]) rfl rfl rfl ?_
  exact jX.sub (jsb_c rfl (jsb_c rfl (jsb_c rfl (jsb_c rfl (jsb_c rfl (jsb_c rfl (jsb_c rfl (jsb_c rfl (jsb_c rfl (jsb_c rfl jsb_n)))))))))) (ct_X5_pairAt_r70d_55 hD hQ k3 4 l1 l2 l3 l4 l5 l6 l7 1 0 h (by have := jk_0; omega) (jr_of rfl (by omega)) (jr_of rfl (by omega)) (jr_of rfl (by omega)) (jr_of rfl (by omega)) (jr_of rfl (by omega)) (jr_of rfl (by omega)) (jr_mod rfl (by omega)) (jr_of rfl (by omega)) (jr_of jk_1 (by omega)) (jr_of jk_0 (by omega)) (by omega) J Sm (by rw [jk_1, jk_0]; exact D) EV)
set_option maxRecDepth 100000 in
set_option maxHeartbeats 4000000 in
theorem ct_X5_pairAt_r70d_3 {Dy : jH → Prop} {h0 : jH} {Q : Option Value → jH → Prop} {dr : Int} (hD : jDk Dy) (hQ : ∀ (v : Int32) hx9, (-1) ≤ v.toInt ∧ v.toInt ≤ 1016 → jJ jSgX Dy hx9 → jSm fp_X5_pairAt_r70d h0 hx9 → dr = v.toInt → vw hx9 = vw h0 → Q (some (.int v)) hx9) : ∀ r : Nat, ∀ (l1 : Int32) (l2 : Int32) (l3 : Int32) (l4 : Int32) (l5 : Int32) (h : jH), 8 - l5.toInt < (r : Int) → 0 ≤ l1.toInt ∧ l1.toInt ≤ 1199 → 0 ≤ l2.toInt ∧ l2.toInt ≤ 11 → 1 ≤ l3.toInt ∧ l3.toInt ≤ 12 → 0 ≤ l4.toInt ∧ l4.toInt ≤ 15 → 0 ≤ l5.toInt ∧ l5.toInt ≤ 8 → jJ jSgX Dy h → jSm fp_X5_pairAt_r70d h0 h → d_X5_pairAt_r70d_3 r l1.toInt l2.toInt l3.toInt l4.toInt l5.toInt (vw h) = dr → vw h = vw h0 → jX m_X5_pairAt 2 0 0 3 [(0, .ref 70), (1, .int l1), (2, .int l2), (3, .int l3), (4, .int l4), (5, .int l5)] [] h 0 0 Q := by
  intro r
  induction r with
  | zero =>
    intro l1 l2 l3 l4 l5 h hm y0 y1 y2 y3 y4   J Sm D EV
    exfalso
    omega
  | succ r ih =>
    intro l1 l2 l3 l4 l5 h hm y0 y1 y2 y3 y4   J Sm D EV
    rw [d_X5_pairAt_r70d_3.eq_2] at D
    refine x_iload (x := l5) rfl rfl ?_
    refine x_aloadn (x := 70) rfl rfl ?_
    refine z_getR (N := 9) (b := 74) 5 5 rfl f_5_21 rfl J rfl 8965 ⟨rfl, rfl⟩ rfl ?_
    refine x_iload (x := l4) rfl rfl ?_
    refine z_iald (N := 16) rfl J rfl sg_74_0_16_1_0_1 rfl (by omega) (fun v1 qv1 ev1 => ?_)
    try rw [vrd qv1 (show l4.toInt = l4.toInt from by omega)] at D
    refine x_icge (tgt := 126) rfl rfl (ti_ge rfl rfl ⟨fun c2 => ?_, fun c2 => ?_⟩)
    ·
      rw [if_pos (by omega)] at D
      refine x_iconst (v := (-1)) rfl ki_m1 ?_
      refine x_iret rfl rfl ?_
      exact hQ _ _ (jr_of jk_m1 (by omega)) J Sm (D.symm.trans (show (-1) = ((-1) : Int32).toInt from by have := jk_m1; omega)) EV
    ·
      rw [if_neg (by omega)] at D
      refine x_iload (x := l4) rfl rfl ?_
      refine x_bipush (v := 8) rfl kb_8 ?_
      refine z_imul rfl rfl jk_8 (by omega) (fun v3 ev3 => ?_)
      refine x_iload (x := l5) rfl rfl ?_
      refine z_iadd rfl rfl rfl (by omega) (fun v4 ev4 => ?_)
      refine x_bipush (v := 8) rfl kb_8 ?_
      refine z_imul rfl rfl jk_8 (by omega) (fun v5 ev5 => ?_)
      refine x_istore (lsx9 := [(6, .int v5), (0, .ref 70), (1, .int l1), (2, .int l2), (3, .int l3), (4, .int l4), (5, .int l5)]) rfl rfl rfl ?_
      refine x_aloadn (x := 70) rfl rfl ?_
      refine z_getR (N := 9) (b := 73) 5 4 rfl f_5_18 rfl J rfl 8964 ⟨rfl, rfl⟩ rfl ?_
      refine x_iload (x := v5) rfl rfl ?_
      refine z_iald (N := 1024) rfl J rfl sg_73_0_1024_4_0_1 rfl (by omega) (fun v6 qv6 ev6 => ?_)
      try rw [vrd qv6 (show (((l4.toInt * 8) + l5.toInt) * 8) = v5.toInt from by omega)] at D
      refine x_istore (lsx9 := [(7, .int v6), (6, .int v5), (0, .ref 70), (1, .int l1), (2, .int l2), (3, .int l3), (4, .int l4), (5, .int l5)]) rfl rfl rfl ?_
      refine x_iload (x := v6) rfl rfl ?_
      refine x_iloadn (x := l3) rfl rfl ?_
      refine x_iloadn (x := l2) rfl rfl ?_
      refine z_isub rfl rfl rfl (by omega) (fun v7 ev7 => ?_)
      refine x_icgt (tgt := 49) rfl rfl (ti_gt rfl rfl ⟨fun c8 => ?_, fun c8 => ?_⟩)
      ·
        rw [if_pos (by omega)] at D
        refine x_iconst (v := 0) rfl ki_0 ?_
        try rw [show (((l4.toInt * 8) + l5.toInt) * 8) = v5.toInt from by omega] at D
        exact jX.sub (jsb_c rfl (jsb_c rfl (jsb_c rfl (jsb_c rfl (jsb_c rfl (jsb_c rfl (jsb_c rfl (jsb_c rfl jsb_n)))))))) (ct_X5_pairAt_r70d_200050 hD hQ ih l1 l2 l3 l4 l5 v5 v6 h (jr_of rfl (by omega)) (jr_of rfl (by omega)) (jr_of rfl (by omega)) (jr_of rfl (by omega)) (jr_of rfl (by omega)) (jr_of rfl (by omega)) (jr_mod rfl (by omega)) (jr_of rfl (by omega)) (by omega) J Sm D EV)
      ·
        rw [if_neg (by omega)] at D
        refine x_iconst (v := 1) rfl ki_1 ?_
        refine x_goto (tgt := 50) rfl rfl ?_
        try rw [show (((l4.toInt * 8) + l5.toInt) * 8) = v5.toInt from by omega] at D
        exact jX.sub (jsb_c rfl (jsb_c rfl (jsb_c rfl (jsb_c rfl (jsb_c rfl (jsb_c rfl (jsb_c rfl (jsb_c rfl jsb_n)))))))) (ct_X5_pairAt_r70d_300050 hD hQ ih l1 l2 l3 l4 l5 v5 v6 h (jr_of rfl (by omega)) (jr_of rfl (by omega)) (jr_of rfl (by omega)) (jr_of rfl (by omega)) (jr_of rfl (by omega)) (jr_of rfl (by omega)) (jr_mod rfl (by omega)) (jr_of rfl (by omega)) (by omega) J Sm D EV)
set_option maxRecDepth 100000 in
set_option maxHeartbeats 4000000 in
theorem sf_X5_pairAt_r70d {Dy : jH → Prop} {h : jH} {Q : Option Value → jH → Prop} {dr : Int} {a1 : Int32} {a2 : Int32} {a3 : Int32} {a4 : Int32} (y1 : 0 ≤ a1.toInt ∧ a1.toInt ≤ 1199) (y2 : 0 ≤ a2.toInt ∧ a2.toInt ≤ 11) (y3 : 1 ≤ a3.toInt ∧ a3.toInt ≤ 12) (y4 : 0 ≤ a4.toInt ∧ a4.toInt ≤ 15) (hD : jDk Dy) (J : jJ jSgX Dy h) (D : d_X5_pairAt_r70d a1.toInt a2.toInt a3.toInt a4.toInt (vw h) = dr) (hQ : ∀ (v : Int32) hx9, (-1) ≤ v.toInt ∧ v.toInt ≤ 1016 → jJ jSgX Dy hx9 → jSm fp_X5_pairAt_r70d h hx9 → dr = v.toInt → vw hx9 = vw h → Q (some (.int v)) hx9) : jC m_X5_pairAt 2 0 0 [.ref 70, .int a1, .int a2, .int a3, .int a4] h Q := by
  refine jC.of rfl k_X5_pairAt rfl ?_
  have Sm := jSm_rf fp_X5_pairAt_r70d h
  show jX m_X5_pairAt 2 0 0 0 [(0, .ref 70), (1, .int a1), (2, .int a2), (3, .int a3), (4, .int a4)] [] _ 0 0 _
  unfold d_X5_pairAt_r70d at D
  have EV : vw h = vw h := rfl
  refine x_iconst (v := 0) rfl ki_0 ?_
  refine x_istore (lsx9 := [(5, .int 0), (0, .ref 70), (1, .int a1), (2, .int a2), (3, .int a3), (4, .int a4)]) rfl rfl rfl ?_
  exact jX.sub (jsb_c rfl (jsb_c rfl (jsb_c rfl (jsb_c rfl (jsb_c rfl (jsb_c rfl jsb_n)))))) (ct_X5_pairAt_r70d_3 hD hQ  9 a1 a2 a3 a4 0 h (by have := jk_0; omega) (jr_of rfl (by omega)) (jr_of rfl (by omega)) (jr_of rfl (by omega)) (jr_of rfl (by omega)) (jr_of jk_0 (by omega)) J Sm (by rw [jk_0]; exact D) EV)
def fp_X8_at_r35_c0d : jFp := []
set_option maxRecDepth 100000 in
set_option maxHeartbeats 4000000 in
theorem ct_X8_at_r35_c0d_24 {Dy : jH → Prop} {h0 : jH} {Q : Option Value → jH → Prop} {dr : Int} (hD : jDk Dy) (hQ : ∀ (v : Int32) hx9, (-400) ≤ v.toInt ∧ v.toInt ≤ 12 → jJ jSgX Dy hx9 → jSm fp_X8_at_r35_c0d h0 hx9 → dr = v.toInt → vw hx9 = vw h0 → Q (some (.int v)) hx9) : ∀ (h : jH), jJ jSgX Dy h → jSm fp_X8_at_r35_c0d h0 h → d_X8_at_r35_c0d_24  (vw h) = dr → vw h = vw h0 → jX m_X8_at 1 0 0 24 [] [] h 0 0 Q := by
  intro  h    J Sm D EV
  unfold d_X8_at_r35_c0d_24 at D
  refine x_iconst (v := 0) rfl ki_0 ?_
  refine x_iret rfl rfl ?_
  exact hQ _ _ (jr_of jk_0 (by omega)) J Sm (D.symm.trans (show 0 = (0 : Int32).toInt from by have := jk_0; omega)) EV
set_option maxRecDepth 100000 in
set_option maxHeartbeats 4000000 in
theorem sf_X8_at_r35_c0d {Dy : jH → Prop} {h : jH} {Q : Option Value → jH → Prop} {dr : Int} {a1 : Int32} (y1 : 0 ≤ a1.toInt ∧ a1.toInt ≤ 1199) (hD : jDk Dy) (J : jJ jSgX Dy h) (D : d_X8_at_r35_c0d a1.toInt (vw h) = dr) (hQ : ∀ (v : Int32) hx9, (-400) ≤ v.toInt ∧ v.toInt ≤ 12 → jJ jSgX Dy hx9 → jSm fp_X8_at_r35_c0d h hx9 → dr = v.toInt → vw hx9 = vw h → Q (some (.int v)) hx9) : jC m_X8_at 1 0 0 [.ref 35, .int a1, .int 0] h Q := by
  refine jC.of rfl k_X8_at rfl ?_
  have Sm := jSm_rf fp_X8_at_r35_c0d h
  show jX m_X8_at 1 0 0 0 [(0, .ref 35), (1, .int a1), (2, .int 0)] [] _ 0 0 _
  unfold d_X8_at_r35_c0d at D
  have EV : vw h = vw h := rfl
  refine x_iloadn (x := a1) rfl rfl ?_
  refine x_iflt (tgt := 24) rfl rfl (ti_lt rfl jk_0 (br_f (by omega) ?_))
  refine x_iloadn (x := a1) rfl rfl ?_
  refine x_aloadn (x := 35) rfl rfl ?_
  refine z_getI (N := 4) 8 3 rfl f_8_7 rfl J rfl sg_35_3_4_1_0_1 (fun v1 qv1 ev1 => ?_)
  try rw [vrf qv1] at D
  refine x_icge (tgt := 24) rfl rfl (ti_ge rfl rfl ⟨fun c2 => ?_, fun c2 => ?_⟩)
  ·
    rw [if_pos (by omega)] at D
    exact jX.sub jsb_n (ct_X8_at_r35_c0d_24 hD hQ  h J Sm D EV)
  ·
    rw [if_neg (by omega)] at D
    refine x_iloadn (x := 0) rfl rfl ?_
    refine x_iflt (tgt := 24) rfl rfl (ti_lt jk_0 jk_0 (br_f (by omega) ?_))
    refine x_iloadn (x := 0) rfl rfl ?_
    refine x_aloadn (x := 35) rfl rfl ?_
    refine z_getC (N := 4) (v := 14) 8 0 rfl f_8_19 rfl J rfl sg_35_0_1_1_0_1 jk_14 ?_
    refine x_iclt (tgt := 26) rfl rfl (ti_lt jk_0 jk_14 (br_t (by omega) ?_))
    refine x_aloadn (x := 35) rfl rfl ?_
    refine z_getR (N := 4) (b := 36) 8 2 rfl f_8_25 rfl J rfl 4482 ⟨rfl, rfl⟩ rfl ?_
    refine x_iloadn (x := a1) rfl rfl ?_
    refine x_aloadn (x := 35) rfl rfl ?_
    refine z_getC (N := 4) (v := 14) 8 0 rfl f_8_19 rfl J rfl sg_35_0_1_1_0_1 jk_14 ?_
    refine z_imul rfl rfl jk_14 (by omega) (fun v3 ev3 => ?_)
    refine x_iloadn (x := 0) rfl rfl ?_
    refine z_iadd rfl rfl jk_0 (by omega) (fun v4 ev4 => ?_)
    refine z_iald (N := 16800) rfl J rfl sg_36_0_16800_14_0_1 rfl (by omega) (fun v5 qv5 ev5 => ?_)
    try rw [vrd qv5 (show ((a1.toInt * 14) + 0) = v4.toInt from by omega)] at D
    refine x_iret rfl rfl ?_
    exact hQ _ _ (jr_of rfl (by omega)) J Sm (D.symm.trans (show v5.toInt = v5.toInt from by omega)) EV
def fp_X8_at_r35_c1d : jFp := []
set_option maxRecDepth 100000 in
set_option maxHeartbeats 4000000 in
theorem ct_X8_at_r35_c1d_24 {Dy : jH → Prop} {h0 : jH} {Q : Option Value → jH → Prop} {dr : Int} (hD : jDk Dy) (hQ : ∀ (v : Int32) hx9, 0 ≤ v.toInt ∧ v.toInt ≤ 1 → jJ jSgX Dy hx9 → jSm fp_X8_at_r35_c1d h0 hx9 → dr = v.toInt → vw hx9 = vw h0 → Q (some (.int v)) hx9) : ∀ (h : jH), jJ jSgX Dy h → jSm fp_X8_at_r35_c1d h0 h → d_X8_at_r35_c1d_24  (vw h) = dr → vw h = vw h0 → jX m_X8_at 1 0 0 24 [] [] h 0 0 Q := by
  intro  h    J Sm D EV
  unfold d_X8_at_r35_c1d_24 at D
  refine x_iconst (v := 0) rfl ki_0 ?_
  refine x_iret rfl rfl ?_
  exact hQ _ _ (jr_of jk_0 (by omega)) J Sm (D.symm.trans (show 0 = (0 : Int32).toInt from by have := jk_0; omega)) EV
set_option maxRecDepth 100000 in
set_option maxHeartbeats 4000000 in
theorem sf_X8_at_r35_c1d {Dy : jH → Prop} {h : jH} {Q : Option Value → jH → Prop} {dr : Int} {a1 : Int32} (y1 : 0 ≤ a1.toInt ∧ a1.toInt ≤ 1199) (hD : jDk Dy) (J : jJ jSgX Dy h) (D : d_X8_at_r35_c1d a1.toInt (vw h) = dr) (hQ : ∀ (v : Int32) hx9, 0 ≤ v.toInt ∧ v.toInt ≤ 1 → jJ jSgX Dy hx9 → jSm fp_X8_at_r35_c1d h hx9 → dr = v.toInt → vw hx9 = vw h → Q (some (.int v)) hx9) : jC m_X8_at 1 0 0 [.ref 35, .int a1, .int 1] h Q := by
  refine jC.of rfl k_X8_at rfl ?_
  have Sm := jSm_rf fp_X8_at_r35_c1d h
  show jX m_X8_at 1 0 0 0 [(0, .ref 35), (1, .int a1), (2, .int 1)] [] _ 0 0 _
  unfold d_X8_at_r35_c1d at D
  have EV : vw h = vw h := rfl
  refine x_iloadn (x := a1) rfl rfl ?_
  refine x_iflt (tgt := 24) rfl rfl (ti_lt rfl jk_0 (br_f (by omega) ?_))
  refine x_iloadn (x := a1) rfl rfl ?_
  refine x_aloadn (x := 35) rfl rfl ?_
  refine z_getI (N := 4) 8 3 rfl f_8_7 rfl J rfl sg_35_3_4_1_0_1 (fun v1 qv1 ev1 => ?_)
  try rw [vrf qv1] at D
  refine x_icge (tgt := 24) rfl rfl (ti_ge rfl rfl ⟨fun c2 => ?_, fun c2 => ?_⟩)
  ·
    rw [if_pos (by omega)] at D
    exact jX.sub jsb_n (ct_X8_at_r35_c1d_24 hD hQ  h J Sm D EV)
  ·
    rw [if_neg (by omega)] at D
    refine x_iloadn (x := 1) rfl rfl ?_
    refine x_iflt (tgt := 24) rfl rfl (ti_lt jk_1 jk_0 (br_f (by omega) ?_))
    refine x_iloadn (x := 1) rfl rfl ?_
    refine x_aloadn (x := 35) rfl rfl ?_
    refine z_getC (N := 4) (v := 14) 8 0 rfl f_8_19 rfl J rfl sg_35_0_1_1_0_1 jk_14 ?_
    refine x_iclt (tgt := 26) rfl rfl (ti_lt jk_1 jk_14 (br_t (by omega) ?_))
    refine x_aloadn (x := 35) rfl rfl ?_
    refine z_getR (N := 4) (b := 36) 8 2 rfl f_8_25 rfl J rfl 4482 ⟨rfl, rfl⟩ rfl ?_
    refine x_iloadn (x := a1) rfl rfl ?_
    refine x_aloadn (x := 35) rfl rfl ?_
    refine z_getC (N := 4) (v := 14) 8 0 rfl f_8_19 rfl J rfl sg_35_0_1_1_0_1 jk_14 ?_
    refine z_imul rfl rfl jk_14 (by omega) (fun v3 ev3 => ?_)
    refine x_iloadn (x := 1) rfl rfl ?_
    refine z_iadd rfl rfl jk_1 (by omega) (fun v4 ev4 => ?_)
    refine z_iald (N := 16800) rfl J rfl sg_36_0_16800_14_1_2 rfl (by omega) (fun v5 qv5 ev5 => ?_)
    try rw [vrd qv5 (show ((a1.toInt * 14) + 1) = v4.toInt from by omega)] at D
    refine x_iret rfl rfl ?_
    exact hQ _ _ (jr_of rfl (by omega)) J Sm (D.symm.trans (show v5.toInt = v5.toInt from by omega)) EV
def fp_X5_fold_r70d : jFp := [(75, 0, 43200), (76, 0, 1200), (77, 0, 1200)]
set_option maxRecDepth 100000 in
set_option maxHeartbeats 4000000 in
theorem ct_X5_fold_r70d_200208 {Dy : jH → Prop} {h0 : jH} {Q : Option Value → jH → Prop} {dr : jW} (hD : jDk Dy) (hQ : ∀ hx9, jJ jSgX Dy hx9 → jSm fp_X5_fold_r70d h0 hx9 → dr = vw hx9 → Q none hx9) : ∀ (s1 : Int32) (h : jH), 0 ≤ s1.toInt ∧ s1.toInt ≤ 1199 → jJ jSgX Dy h → jSm fp_X5_fold_r70d h0 h → d_X5_fold_r70d_200208  s1.toInt (vw h) = dr → jX m_X5_fold 3 0 0 208 [] [.int 0, .int s1, .ref 77] h 0 0 Q := by
  intro s1 h y0   J Sm D
  unfold d_X5_fold_r70d_200208 at D
  refine z_zast (N := 1200) (l := 0) (u := 1200) (w := 0) rfl hD J Sm rfl rfl rfl (by omega) jk_0 (by omega) (wr_77 (fun q1 q2 q3 q4 => by omega)) rfl (fun h w1 J Sm => ?_)
  rw [vww w1 (show s1.toInt = s1.toInt from by omega) (show 0 = (0 : Int32).toInt from by have := jk_0; omega)] at D
  refine x_vret rfl rfl ?_
  exact hQ _ J Sm D.symm
set_option maxRecDepth 100000 in
set_option maxHeartbeats 4000000 in
theorem ct_X5_fold_r70d_300208 {Dy : jH → Prop} {h0 : jH} {Q : Option Value → jH → Prop} {dr : jW} (hD : jDk Dy) (hQ : ∀ hx9, jJ jSgX Dy hx9 → jSm fp_X5_fold_r70d h0 hx9 → dr = vw hx9 → Q none hx9) : ∀ (s1 : Int32) (h : jH), 0 ≤ s1.toInt ∧ s1.toInt ≤ 1199 → jJ jSgX Dy h → jSm fp_X5_fold_r70d h0 h → d_X5_fold_r70d_300208  s1.toInt (vw h) = dr → jX m_X5_fold 3 0 0 208 [] [.int 1, .int s1, .ref 77] h 0 0 Q := by
  intro s1 h y0   J Sm D
  unfold d_X5_fold_r70d_300208 at D
  refine z_zast (N := 1200) (l := 0) (u := 1200) (w := 1) rfl hD J Sm rfl rfl rfl (by omega) jk_1 (by omega) (wr_77 (fun q1 q2 q3 q4 => by omega)) rfl (fun h w1 J Sm => ?_)
  rw [vww w1 (show s1.toInt = s1.toInt from by omega) (show 1 = (1 : Int32).toInt from by have := jk_1; omega)] at D
  refine x_vret rfl rfl ?_
  exact hQ _ J Sm D.symm
set_option maxRecDepth 100000 in
set_option maxHeartbeats 4000000 in
theorem ct_X5_fold_r70d_181 {Dy : jH → Prop} {h0 : jH} {Q : Option Value → jH → Prop} {dr : jW} (hD : jDk Dy) (hQ : ∀ hx9, jJ jSgX Dy hx9 → jSm fp_X5_fold_r70d h0 hx9 → dr = vw hx9 → Q none hx9) : ∀ (l1 : Int32) (s0 : Int32) (s1 : Int32) (h : jH), 0 ≤ l1.toInt ∧ l1.toInt ≤ 1199 → 0 ≤ s0.toInt ∧ s0.toInt ≤ 36 → 0 ≤ s1.toInt ∧ s1.toInt ≤ 1199 → jJ jSgX Dy h → jSm fp_X5_fold_r70d h0 h → d_X5_fold_r70d_181  l1.toInt s0.toInt s1.toInt (vw h) = dr → jX m_X5_fold 3 0 0 181 [(0, .ref 70), (1, .int l1)] [.int s0, .int s1, .ref 76] h 0 0 Q := by
  intro l1 s0 s1 h y0 y1 y2   J Sm D
  unfold d_X5_fold_r70d_181 at D
  refine z_iast (N := 1200) (l := 0) (u := 1200) (w := s0.toInt) rfl hD J Sm rfl rfl rfl (by omega) rfl (wr_76 (fun q1 q2 q3 q4 => by omega)) rfl (fun h w1 J Sm => ?_)
  rw [vww w1 (show s1.toInt = s1.toInt from by omega) (show s0.toInt = s0.toInt from by omega)] at D
  refine x_aloadn (x := 70) rfl rfl ?_
  refine z_getR (N := 9) (b := 77) 5 8 rfl f_5_31 rfl J rfl 8968 ⟨rfl, rfl⟩ rfl ?_
  refine x_iloadn (x := l1) rfl rfl ?_
  refine x_aloadn (x := 70) rfl rfl ?_
  refine z_getR (N := 9) (b := 32) 5 0 rfl f_5_35 rfl J rfl 8960 ⟨rfl, rfl⟩ rfl ?_
  refine z_getR (N := 20) (b := 35) 1 1 rfl f_5_118 rfl J rfl 4097 ⟨rfl, rfl⟩ rfl ?_
  refine x_iloadn (x := l1) rfl rfl ?_
  refine x_iconst (v := 1) rfl ki_1 ?_
  refine x_inv (N := m_X8_at) (As := [.int l1, .int 1]) (b := 35) (st := [.int l1, .ref 77]) (dx9 := 1) (mc := 0) (ms := 0) (host := "") 8 rfl t_X8_at ⟨Or.inl q_5_108, i_X8_at.1, i_X8_at.2⟩ ⟨by decide, rfl⟩ (congrArg Prod.fst (J.1.1 35 (8, 4) rfl)) rfl (by decide) rfl rfl ⟨by decide, by decide⟩ (sf_X8_at_r35_c1d (jr_of rfl (by omega)) hD J rfl  (fun v5 h ev5 J S2 X3 X4 => ?_))
  have Sm := jSm_tr rfl Sm S2
  try rw [X3] at D
  try rw [← X4] at D
  show jX m_X5_fold 3 0 0 199 [(0, .ref 70), (1, .int l1)] [.int v5, .int l1, .ref 77] _ 0 0 _
  refine x_iconst (v := 1) rfl ki_1 ?_
  refine x_icne (tgt := 207) rfl rfl (ti_ne rfl jk_1 ⟨fun c6 => ?_, fun c6 => ?_⟩)
  ·
    rw [if_neg (by omega)] at D
    refine x_iconst (v := 0) rfl ki_0 ?_
    exact jX.sub jsb_n (ct_X5_fold_r70d_200208 hD hQ  l1 h (jr_of rfl (by omega)) J Sm D)
  ·
    rw [if_pos (by omega)] at D
    refine x_iconst (v := 1) rfl ki_1 ?_
    refine x_goto (tgt := 208) rfl rfl ?_
    exact jX.sub jsb_n (ct_X5_fold_r70d_300208 hD hQ  l1 h (jr_of rfl (by omega)) J Sm D)
set_option maxRecDepth 100000 in
set_option maxHeartbeats 4000000 in
theorem ct_X5_fold_r70d_100181 {Dy : jH → Prop} {h0 : jH} {Q : Option Value → jH → Prop} {dr : jW} (hD : jDk Dy) (hQ : ∀ hx9, jJ jSgX Dy hx9 → jSm fp_X5_fold_r70d h0 hx9 → dr = vw hx9 → Q none hx9) : ∀ (l1 : Int32) (s1 : Int32) (h : jH), 0 ≤ l1.toInt ∧ l1.toInt ≤ 1199 → 0 ≤ s1.toInt ∧ s1.toInt ≤ 1199 → jJ jSgX Dy h → jSm fp_X5_fold_r70d h0 h → d_X5_fold_r70d_100181  l1.toInt s1.toInt (vw h) = dr → jX m_X5_fold 3 0 0 181 [(0, .ref 70), (1, .int l1)] [.int (-1), .int s1, .ref 76] h 0 0 Q := by
  intro l1 s1 h y0 y1   J Sm D
  unfold d_X5_fold_r70d_100181 at D
  refine z_iast (N := 1200) (l := 0) (u := 1200) (w := (-1)) rfl hD J Sm rfl rfl rfl (by omega) jk_m1 (wr_76 (fun q1 q2 q3 q4 => by omega)) rfl (fun h w1 J Sm => ?_)
  rw [vww w1 (show s1.toInt = s1.toInt from by omega) (show (-1) = ((-1) : Int32).toInt from by have := jk_m1; omega)] at D
  refine x_aloadn (x := 70) rfl rfl ?_
  refine z_getR (N := 9) (b := 77) 5 8 rfl f_5_31 rfl J rfl 8968 ⟨rfl, rfl⟩ rfl ?_
  refine x_iloadn (x := l1) rfl rfl ?_
  refine x_aloadn (x := 70) rfl rfl ?_
  refine z_getR (N := 9) (b := 32) 5 0 rfl f_5_35 rfl J rfl 8960 ⟨rfl, rfl⟩ rfl ?_
  refine z_getR (N := 20) (b := 35) 1 1 rfl f_5_118 rfl J rfl 4097 ⟨rfl, rfl⟩ rfl ?_
  refine x_iloadn (x := l1) rfl rfl ?_
  refine x_iconst (v := 1) rfl ki_1 ?_
  refine x_inv (N := m_X8_at) (As := [.int l1, .int 1]) (b := 35) (st := [.int l1, .ref 77]) (dx9 := 1) (mc := 0) (ms := 0) (host := "") 8 rfl t_X8_at ⟨Or.inl q_5_108, i_X8_at.1, i_X8_at.2⟩ ⟨by decide, rfl⟩ (congrArg Prod.fst (J.1.1 35 (8, 4) rfl)) rfl (by decide) rfl rfl ⟨by decide, by decide⟩ (sf_X8_at_r35_c1d (jr_of rfl (by omega)) hD J rfl  (fun v5 h ev5 J S2 X3 X4 => ?_))
  have Sm := jSm_tr rfl Sm S2
  try rw [X3] at D
  try rw [← X4] at D
  show jX m_X5_fold 3 0 0 199 [(0, .ref 70), (1, .int l1)] [.int v5, .int l1, .ref 77] _ 0 0 _
  refine x_iconst (v := 1) rfl ki_1 ?_
  refine x_icne (tgt := 207) rfl rfl (ti_ne rfl jk_1 ⟨fun c6 => ?_, fun c6 => ?_⟩)
  ·
    rw [if_neg (by omega)] at D
    refine x_iconst (v := 0) rfl ki_0 ?_
    exact jX.sub jsb_n (ct_X5_fold_r70d_200208 hD hQ  l1 h (jr_of rfl (by omega)) J Sm D)
  ·
    rw [if_pos (by omega)] at D
    refine x_iconst (v := 1) rfl ki_1 ?_
    refine x_goto (tgt := 208) rfl rfl ?_
    exact jX.sub jsb_n (ct_X5_fold_r70d_300208 hD hQ  l1 h (jr_of rfl (by omega)) J Sm D)
set_option maxRecDepth 100000 in
set_option maxHeartbeats 4000000 in
theorem ct_X5_fold_r70d_166 {Dy : jH → Prop} {h0 : jH} {Q : Option Value → jH → Prop} {dr : jW} (hD : jDk Dy) (hQ : ∀ hx9, jJ jSgX Dy hx9 → jSm fp_X5_fold_r70d h0 hx9 → dr = vw hx9 → Q none hx9) : ∀ (l1 : Int32) (l3 : Int32) (l5 : Int32) (h : jH), 0 ≤ l1.toInt ∧ l1.toInt ≤ 1199 → (-400) ≤ l3.toInt ∧ l3.toInt ≤ 12 → 0 ≤ l5.toInt ∧ l5.toInt ≤ 36 → jJ jSgX Dy h → jSm fp_X5_fold_r70d h0 h → d_X5_fold_r70d_166  l1.toInt l3.toInt l5.toInt (vw h) = dr → jX m_X5_fold 3 0 0 166 [(0, .ref 70), (1, .int l1), (3, .int l3), (5, .int l5)] [] h 0 0 Q := by
  intro l1 l3 l5 h y0 y1 y2   J Sm D
  unfold d_X5_fold_r70d_166 at D
  refine x_aloadn (x := 70) rfl rfl ?_
  refine z_getR (N := 9) (b := 76) 5 7 rfl f_5_28 rfl J rfl 8967 ⟨rfl, rfl⟩ rfl ?_
  refine x_iloadn (x := l1) rfl rfl ?_
  refine x_iloadn (x := l3) rfl rfl ?_
  refine x_ifne (tgt := 179) rfl rfl (ti_ne rfl jk_0 ⟨fun c1 => ?_, fun c1 => ?_⟩)
  ·
    rw [if_neg (by omega)] at D
    refine x_iload (x := l5) rfl rfl ?_
    exact jX.sub (jsb_c rfl (jsb_c rfl jsb_n)) (ct_X5_fold_r70d_181 hD hQ  l1 l5 l1 h (jr_of rfl (by omega)) (jr_of rfl (by omega)) (jr_of rfl (by omega)) J Sm D)
  ·
    rw [if_pos (by omega)] at D
    refine x_iconst (v := (-1)) rfl ki_m1 ?_
    refine x_goto (tgt := 181) rfl rfl ?_
    exact jX.sub (jsb_c rfl (jsb_c rfl jsb_n)) (ct_X5_fold_r70d_100181 hD hQ  l1 l1 h (jr_of rfl (by omega)) (jr_of rfl (by omega)) J Sm D)
set_option maxRecDepth 100000 in
set_option maxHeartbeats 4000000 in
theorem ct_X5_fold_r70d_163 {Dy : jH → Prop} {h0 : jH} {Q : Option Value → jH → Prop} {dr : jW} {K25 : Int → Int → Int → Int → Int → Int → jW → jW} {R25 : Int} (hD : jDk Dy) (hQ : ∀ hx9, jJ jSgX Dy hx9 → jSm fp_X5_fold_r70d h0 hx9 → dr = vw hx9 → Q none hx9) (k25 : ∀ (l1 : Int32) (l2 : Int32) (l3 : Int32) (l4 : Int32) (l5 : Int32) (l6 : Int32) (h : jH), 266 - l6.toInt < R25 → 0 ≤ l1.toInt ∧ l1.toInt ≤ 1199 → 0 ≤ l2.toInt ∧ l2.toInt ≤ 15 → (-400) ≤ l3.toInt ∧ l3.toInt ≤ 12 → 0 ≤ l4.toInt ∧ l4.toInt ≤ 43164 → l4.toInt % 36 = 0 → 0 ≤ l5.toInt ∧ l5.toInt ≤ 36 → 0 ≤ l6.toInt ∧ l6.toInt ≤ 266 → jJ jSgX Dy h → jSm fp_X5_fold_r70d h0 h → K25 l1.toInt l2.toInt l3.toInt l4.toInt l5.toInt l6.toInt (vw h) = dr → jX m_X5_fold 3 0 0 25 [(0, .ref 70), (1, .int l1), (2, .int l2), (3, .int l3), (4, .int l4), (5, .int l5), (6, .int l6)] [] h 0 0 Q) : ∀ (l1 : Int32) (l2 : Int32) (l3 : Int32) (l4 : Int32) (l5 : Int32) (l6 : Int32) (h : jH), 0 ≤ l1.toInt ∧ l1.toInt ≤ 1199 → 0 ≤ l2.toInt ∧ l2.toInt ≤ 15 → 1 ≤ l3.toInt ∧ l3.toInt ≤ 12 → 0 ≤ l4.toInt ∧ l4.toInt ≤ 43164 → l4.toInt % 36 = 0 → 0 ≤ l5.toInt ∧ l5.toInt ≤ 36 → 1 ≤ l6.toInt ∧ l6.toInt ≤ 266 → 266 - l6.toInt < R25 → jJ jSgX Dy h → jSm fp_X5_fold_r70d h0 h → d_X5_fold_r70d_163 K25  l1.toInt l2.toInt l3.toInt l4.toInt l5.toInt l6.toInt (vw h) = dr → jX m_X5_fold 3 0 0 163 [(0, .ref 70), (1, .int l1), (2, .int l2), (3, .int l3), (4, .int l4), (5, .int l5), (6, .int l6)] [] h 0 0 Q := by
  intro l1 l2 l3 l4 l5 l6 h y0 y1 y2 y3 y4 y5 y6  m25 J Sm D
  unfold d_X5_fold_r70d_163 at D
  refine x_goto (tgt := 25) rfl rfl ?_
  exact jX.sub (jsb_c rfl (jsb_c rfl (jsb_c rfl (jsb_c rfl (jsb_c rfl (jsb_c rfl (jsb_c rfl jsb_n))))))) (k25 l1 l2 l3 l4 l5 l6 h (by omega) (jr_of rfl (by omega)) (jr_of rfl (by omega)) (jr_of rfl (by omega)) (jr_of rfl (by omega)) (jr_mod rfl (by omega)) (jr_of rfl (by omega)) (jr_of rfl (by omega)) J Sm D)
set_option maxRecDepth 100000 in
set_option maxHeartbeats 4000000 in
theorem ct_X5_fold_r70d_107 {Dy : jH → Prop} {h0 : jH} {Q : Option Value → jH → Prop} {dr : jW} {K25 : Int → Int → Int → Int → Int → Int → jW → jW} {R25 : Int} (hD : jDk Dy) (hQ : ∀ hx9, jJ jSgX Dy hx9 → jSm fp_X5_fold_r70d h0 hx9 → dr = vw hx9 → Q none hx9) (k25 : ∀ (l1 : Int32) (l2 : Int32) (l3 : Int32) (l4 : Int32) (l5 : Int32) (l6 : Int32) (h : jH), 266 - l6.toInt < R25 → 0 ≤ l1.toInt ∧ l1.toInt ≤ 1199 → 0 ≤ l2.toInt ∧ l2.toInt ≤ 15 → (-400) ≤ l3.toInt ∧ l3.toInt ≤ 12 → 0 ≤ l4.toInt ∧ l4.toInt ≤ 43164 → l4.toInt % 36 = 0 → 0 ≤ l5.toInt ∧ l5.toInt ≤ 36 → 0 ≤ l6.toInt ∧ l6.toInt ≤ 266 → jJ jSgX Dy h → jSm fp_X5_fold_r70d h0 h → K25 l1.toInt l2.toInt l3.toInt l4.toInt l5.toInt l6.toInt (vw h) = dr → jX m_X5_fold 3 0 0 25 [(0, .ref 70), (1, .int l1), (2, .int l2), (3, .int l3), (4, .int l4), (5, .int l5), (6, .int l6)] [] h 0 0 Q) : ∀ r : Nat, ∀ (l1 : Int32) (l2 : Int32) (l3 : Int32) (l4 : Int32) (l5 : Int32) (l6 : Int32) (l7 : Int32) (l8 : Int32) (l9 : Int32) (h : jH), 36 - l5.toInt < (r : Int) → 0 ≤ l1.toInt ∧ l1.toInt ≤ 1199 → 0 ≤ l2.toInt ∧ l2.toInt ≤ 15 → 1 ≤ l3.toInt ∧ l3.toInt ≤ 12 → 0 ≤ l4.toInt ∧ l4.toInt ≤ 43164 → l4.toInt % 36 = 0 → 0 ≤ l5.toInt ∧ l5.toInt ≤ 36 → 0 ≤ l6.toInt ∧ l6.toInt ≤ 11 → 0 ≤ l7.toInt ∧ l7.toInt ≤ 1016 → (-400) ≤ l8.toInt ∧ l8.toInt ≤ 3 → 0 ≤ l9.toInt ∧ l9.toInt ≤ 3 → l5.toInt - l9.toInt ≤ 33 → 266 - l6.toInt ≤ R25 → jJ jSgX Dy h → jSm fp_X5_fold_r70d h0 h → d_X5_fold_r70d_107 K25 r l1.toInt l2.toInt l3.toInt l4.toInt l5.toInt l6.toInt l7.toInt l8.toInt l9.toInt (vw h) = dr → jX m_X5_fold 3 0 0 107 [(0, .ref 70), (1, .int l1), (2, .int l2), (3, .int l3), (4, .int l4), (5, .int l5), (6, .int l6), (7, .int l7), (8, .int l8), (9, .int l9)] [] h 0 0 Q := by
  intro r
  induction r with
  | zero =>
    intro l1 l2 l3 l4 l5 l6 l7 l8 l9 h hm y0 y1 y2 y3 y4 y5 y6 y7 y8 y9 y10  m25 J Sm D
    exfalso
    omega
  | succ r ih =>
    intro l1 l2 l3 l4 l5 l6 l7 l8 l9 h hm y0 y1 y2 y3 y4 y5 y6 y7 y8 y9 y10  m25 J Sm D
    rw [d_X5_fold_r70d_107.eq_2] at D
    refine x_iload (x := l9) rfl rfl ?_
    refine x_iload (x := l8) rfl rfl ?_
    refine x_icge (tgt := 147) rfl rfl (ti_ge rfl rfl ⟨fun c1 => ?_, fun c1 => ?_⟩)
    ·
      rw [if_pos (by omega)] at D
      refine x_iload (x := l6) rfl rfl ?_
      refine x_iconst (v := 1) rfl ki_1 ?_
      refine x_aloadn (x := 70) rfl rfl ?_
      refine z_getR (N := 9) (b := 73) 5 4 rfl f_5_18 rfl J rfl 8964 ⟨rfl, rfl⟩ rfl ?_
      refine x_iload (x := l7) rfl rfl ?_
      refine z_iald (N := 1024) rfl J rfl sg_73_0_1024_1_0_1 rfl (by omega) (fun v2 qv2 ev2 => ?_)
      try rw [vrd qv2 (show l7.toInt = l7.toInt from by omega)] at D
      refine z_mmax rfl q_5_130 (by decide) rfl jk_1 rfl (fun v3 ev3 => ?_)
      refine z_iadd rfl rfl rfl (by omega) (fun v4 ev4 => ?_)
      refine x_istore (lsx9 := [(6, .int v4), (0, .ref 70), (1, .int l1), (2, .int l2), (3, .int l3), (4, .int l4), (5, .int l5), (7, .int l7), (8, .int l8), (9, .int l9)]) rfl rfl rfl ?_
      try rw [show (l6.toInt + (max 1 v2.toInt)) = v4.toInt from by omega] at D
      exact jX.sub (jsb_c rfl (jsb_c rfl (jsb_c rfl (jsb_c rfl (jsb_c rfl (jsb_c rfl (jsb_c rfl jsb_n))))))) (ct_X5_fold_r70d_163 hD hQ k25 l1 l2 l3 l4 l5 v4 h (jr_of rfl (by omega)) (jr_of rfl (by omega)) (jr_of rfl (by omega)) (jr_of rfl (by omega)) (jr_mod rfl (by omega)) (jr_of rfl (by omega)) (jr_of rfl (by omega)) (by omega) J Sm D)
    ·
      rw [if_neg (by omega)] at D
      refine x_aloadn (x := 70) rfl rfl ?_
      refine z_getR (N := 9) (b := 75) 5 6 rfl f_5_25 rfl J rfl 8966 ⟨rfl, rfl⟩ rfl ?_
      refine x_iload (x := l4) rfl rfl ?_
      refine x_iload (x := l5) rfl rfl ?_
      refine z_iadd rfl rfl rfl (by omega) (fun v5 ev5 => ?_)
      refine x_aloadn (x := 70) rfl rfl ?_
      refine z_getR (N := 9) (b := 73) 5 4 rfl f_5_18 rfl J rfl 8964 ⟨rfl, rfl⟩ rfl ?_
      refine x_iload (x := l7) rfl rfl ?_
      refine x_iconst (v := 4) rfl ki_4 ?_
      refine z_iadd rfl rfl jk_4 (by omega) (fun v6 ev6 => ?_)
      refine x_iconst (v := 1) rfl ki_1 ?_
      refine z_iadd rfl rfl jk_1 (by omega) (fun v7 ev7 => ?_)
      refine x_iload (x := l9) rfl rfl ?_
      refine z_iadd rfl rfl rfl (by omega) (fun v8 ev8 => ?_)
      refine z_iald (N := 1024) rfl J rfl sg_73_0_1024_1_0_1 rfl (by omega) (fun v9 qv9 ev9 => ?_)
      try rw [vrd qv9 (show (((l7.toInt + 4) + 1) + l9.toInt) = v8.toInt from by omega)] at D
      refine z_iast (N := 43200) (l := 0) (u := 43200) (w := v9.toInt) rfl hD J Sm rfl rfl rfl (by omega) rfl (wr_75) rfl (fun h w10 J Sm => ?_)
      rw [vww w10 (show (l4.toInt + l5.toInt) = v5.toInt from by omega) (show v9.toInt = v9.toInt from by omega)] at D
      refine z_iinc (x := l5) (lsx9 := fun v11 => [(5, .int v11), (0, .ref 70), (1, .int l1), (2, .int l2), (3, .int l3), (4, .int l4), (6, .int l6), (7, .int l7), (8, .int l8), (9, .int l9)]) rfl rfl rfl jko_1 (by omega) rfl (fun _ => rfl) (fun v11 ev11 => ?_)
      refine z_iinc (x := l9) (lsx9 := fun v12 => [(9, .int v12), (5, .int v11), (0, .ref 70), (1, .int l1), (2, .int l2), (3, .int l3), (4, .int l4), (6, .int l6), (7, .int l7), (8, .int l8)]) rfl rfl rfl jko_1 (by omega) rfl (fun _ => rfl) (fun v12 ev12 => ?_)
      refine x_goto (tgt := 107) rfl rfl ?_
      try rw [show (l5.toInt + 1) = v11.toInt from by omega] at D
      try rw [show (l9.toInt + 1) = v12.toInt from by omega] at D
      exact jX.sub (jsb_c rfl (jsb_c rfl (jsb_c rfl (jsb_c rfl (jsb_c rfl (jsb_c rfl (jsb_c rfl (jsb_c rfl (jsb_c rfl (jsb_c rfl jsb_n)))))))))) (ih l1 l2 l3 l4 v11 l6 l7 l8 v12 h (by omega) (jr_of rfl (by omega)) (jr_of rfl (by omega)) (jr_of rfl (by omega)) (jr_of rfl (by omega)) (jr_mod rfl (by omega)) (jr_of rfl (by omega)) (jr_of rfl (by omega)) (jr_of rfl (by omega)) (jr_of rfl (by omega)) (jr_of rfl (by omega)) (by omega) (by omega) J Sm D)
set_option maxRecDepth 100000 in
set_option maxHeartbeats 4000000 in
theorem ct_X5_fold_r70d_25 {Dy : jH → Prop} {h0 : jH} {Q : Option Value → jH → Prop} {dr : jW} (hD : jDk Dy) (hQ : ∀ hx9, jJ jSgX Dy hx9 → jSm fp_X5_fold_r70d h0 hx9 → dr = vw hx9 → Q none hx9) : ∀ r : Nat, ∀ (l1 : Int32) (l2 : Int32) (l3 : Int32) (l4 : Int32) (l5 : Int32) (l6 : Int32) (h : jH), 266 - l6.toInt < (r : Int) → 0 ≤ l1.toInt ∧ l1.toInt ≤ 1199 → 0 ≤ l2.toInt ∧ l2.toInt ≤ 15 → (-400) ≤ l3.toInt ∧ l3.toInt ≤ 12 → 0 ≤ l4.toInt ∧ l4.toInt ≤ 43164 → l4.toInt % 36 = 0 → 0 ≤ l5.toInt ∧ l5.toInt ≤ 36 → 0 ≤ l6.toInt ∧ l6.toInt ≤ 266 → jJ jSgX Dy h → jSm fp_X5_fold_r70d h0 h → d_X5_fold_r70d_25 r l1.toInt l2.toInt l3.toInt l4.toInt l5.toInt l6.toInt (vw h) = dr → jX m_X5_fold 3 0 0 25 [(0, .ref 70), (1, .int l1), (2, .int l2), (3, .int l3), (4, .int l4), (5, .int l5), (6, .int l6)] [] h 0 0 Q := by
  intro r
  induction r with
  | zero =>
    intro l1 l2 l3 l4 l5 l6 h hm y0 y1 y2 y3 y4 y5 y6   J Sm D
    exfalso
    omega
  | succ r ih =>
    intro l1 l2 l3 l4 l5 l6 h hm y0 y1 y2 y3 y4 y5 y6   J Sm D
    rw [d_X5_fold_r70d_25.eq_2] at D
    refine x_iload (x := l6) rfl rfl ?_
    refine x_iloadn (x := l3) rfl rfl ?_
    refine x_icge (tgt := 166) rfl rfl (ti_ge rfl rfl ⟨fun c1 => ?_, fun c1 => ?_⟩)
    ·
      rw [if_pos (by omega)] at D
      exact jX.sub (jsb_c rfl (jsb_c rfl (jsb_c rfl (jsb_c rfl jsb_n)))) (ct_X5_fold_r70d_166 hD hQ  l1 l3 l5 h (jr_of rfl (by omega)) (jr_of rfl (by omega)) (jr_of rfl (by omega)) J Sm D)
    ·
      rw [if_neg (by omega)] at D
      refine x_iload (x := l5) rfl rfl ?_
      refine x_bipush (v := 33) rfl kb_33 ?_
      refine x_icgt (tgt := 166) rfl rfl (ti_gt rfl jk_33 ⟨fun c2 => ?_, fun c2 => ?_⟩)
      ·
        rw [if_pos (by omega)] at D
        exact jX.sub (jsb_c rfl (jsb_c rfl (jsb_c rfl (jsb_c rfl jsb_n)))) (ct_X5_fold_r70d_166 hD hQ  l1 l3 l5 h (jr_of rfl (by omega)) (jr_of rfl (by omega)) (jr_of rfl (by omega)) J Sm D)
      ·
        rw [if_neg (by omega)] at D
        refine x_aloadn (x := 70) rfl rfl ?_
        refine x_iloadn (x := l1) rfl rfl ?_
        refine x_iload (x := l6) rfl rfl ?_
        refine x_iloadn (x := l3) rfl rfl ?_
        refine x_iloadn (x := l2) rfl rfl ?_
        refine x_inv (N := m_X5_pairAt) (As := [.int l1, .int l6, .int l3, .int l2]) (b := 70) (st := []) (dx9 := 2) (mc := 0) (ms := 0) (host := "") 5 rfl t_X5_pairAt ⟨Or.inl q_5_121, i_X5_pairAt.1, i_X5_pairAt.2⟩ ⟨by decide, rfl⟩ (congrArg Prod.fst (J.1.1 70 (5, 9) rfl)) rfl (by decide) rfl rfl ⟨by decide, by decide⟩ (sf_X5_pairAt_r70d (jr_of rfl (by omega)) (jr_of rfl (by omega)) (jr_of rfl (by omega)) (jr_of rfl (by omega)) hD J rfl  (fun v6 h ev6 J S3 X4 X5 => ?_))
        have Sm := jSm_tr rfl Sm S3
        try rw [X4] at D
        try rw [← X5] at D
        show jX m_X5_fold 3 0 0 47 [(0, .ref 70), (1, .int l1), (2, .int l2), (3, .int l3), (4, .int l4), (5, .int l5), (6, .int l6)] [.int v6] _ 0 0 _
        refine x_istore (lsx9 := [(7, .int v6), (0, .ref 70), (1, .int l1), (2, .int l2), (3, .int l3), (4, .int l4), (5, .int l5), (6, .int l6)]) rfl rfl rfl ?_
        refine x_iload (x := v6) rfl rfl ?_
        refine x_iconst (v := (-1)) rfl ki_m1 ?_
        refine x_icne (tgt := 89) rfl rfl (ti_ne rfl jk_m1 ⟨fun c7 => ?_, fun c7 => ?_⟩)
        ·
          rw [if_neg (by omega)] at D
          refine x_iconst (v := 3) rfl ki_3 ?_
          refine x_aloadn (x := 70) rfl rfl ?_
          refine z_getR (N := 9) (b := 73) 5 4 rfl f_5_18 rfl J rfl 8964 ⟨rfl, rfl⟩ rfl ?_
          refine x_iload (x := v6) rfl rfl ?_
          refine x_iconst (v := 4) rfl ki_4 ?_
          refine z_iadd rfl rfl jk_4 (by omega) (fun v8 ev8 => ?_)
          refine z_iald (N := 1024) rfl J rfl sg_73_0_1024_1_0_1 rfl (by omega) (fun v9 qv9 ev9 => ?_)
          try rw [vrd qv9 (show (v6.toInt + 4) = v8.toInt from by omega)] at D
          refine z_mmin rfl q_5_125 (by decide) rfl jk_3 rfl (fun v10 ev10 => ?_)
          refine x_istore (lsx9 := [(8, .int v10), (7, .int v6), (0, .ref 70), (1, .int l1), (2, .int l2), (3, .int l3), (4, .int l4), (5, .int l5), (6, .int l6)]) rfl rfl rfl ?_
          refine x_iconst (v := 0) rfl ki_0 ?_
          refine x_istore (lsx9 := [(9, .int 0), (8, .int v10), (7, .int v6), (0, .ref 70), (1, .int l1), (2, .int l2), (3, .int l3), (4, .int l4), (5, .int l5), (6, .int l6)]) rfl rfl rfl ?_
          try rw [show (min 3 v9.toInt) = v10.toInt from by omega] at D
          exact jX.sub (jsb_c rfl (jsb_c rfl (jsb_c rfl (jsb_c rfl (jsb_c rfl (jsb_c rfl (jsb_c rfl (jsb_c rfl (jsb_c rfl (jsb_c rfl jsb_n)))))))))) (ct_X5_fold_r70d_107 hD hQ ih 37 l1 l2 l3 l4 l5 l6 v6 v10 0 h (by omega) (jr_of rfl (by omega)) (jr_of rfl (by omega)) (jr_of rfl (by omega)) (jr_of rfl (by omega)) (jr_mod rfl (by omega)) (jr_of rfl (by omega)) (jr_of rfl (by omega)) (jr_of rfl (by omega)) (jr_of rfl (by omega)) (jr_of jk_0 (by omega)) (by have := jk_0; omega) (by omega) J Sm (by rw [jk_0]; exact D))
        ·
          rw [if_pos (by omega)] at D
          refine x_aloadn (x := 70) rfl rfl ?_
          refine z_getR (N := 9) (b := 75) 5 6 rfl f_5_25 rfl J rfl 8966 ⟨rfl, rfl⟩ rfl ?_
          refine x_iload (x := l4) rfl rfl ?_
          refine x_iload (x := l5) rfl rfl ?_
          refine z_iadd rfl rfl rfl (by omega) (fun v11 ev11 => ?_)
          refine x_aloadn (x := 70) rfl rfl ?_
          refine z_getR (N := 9) (b := 32) 5 0 rfl f_5_35 rfl J rfl 8960 ⟨rfl, rfl⟩ rfl ?_
          refine z_getR (N := 20) (b := 35) 1 1 rfl f_5_118 rfl J rfl 4097 ⟨rfl, rfl⟩ rfl ?_
          refine x_iloadn (x := l1) rfl rfl ?_
          refine x_iconst (v := 2) rfl ki_2 ?_
          refine x_iload (x := l6) rfl rfl ?_
          refine z_iadd rfl jk_2 rfl (by omega) (fun v12 ev12 => ?_)
          try rw [show (2 + l6.toInt) = v12.toInt from by omega] at D
          refine x_inv (N := m_X8_at) (As := [.int l1, .int v12]) (b := 35) (st := [.int v11, .ref 75]) (dx9 := 1) (mc := 0) (ms := 0) (host := "") 8 rfl t_X8_at ⟨Or.inl q_5_108, i_X8_at.1, i_X8_at.2⟩ ⟨by decide, rfl⟩ (congrArg Prod.fst (J.1.1 35 (8, 4) rfl)) rfl (by decide) rfl rfl ⟨by decide, by decide⟩ (sf_X8_at_r35d (jr_of rfl (by omega)) (jr_of rfl (by omega)) hD J rfl  (fun v16 h J S13 X14 X15 => ?_))
          have ev16 := jfull v16
          have Sm := jSm_tr rfl Sm S13
          try rw [X14] at D
          try rw [← X15] at D
          show jX m_X5_fold 3 0 0 79 [(7, .int v6), (0, .ref 70), (1, .int l1), (2, .int l2), (3, .int l3), (4, .int l4), (5, .int l5), (6, .int l6)] [.int v16, .int v11, .ref 75] _ 0 0 _
          refine z_iast (N := 43200) (l := 0) (u := 43200) (w := v16.toInt) rfl hD J Sm rfl rfl rfl (by omega) rfl (wr_75) rfl (fun h w17 J Sm => ?_)
          rw [vww w17 (show (l4.toInt + l5.toInt) = v11.toInt from by omega) (show v16.toInt = v16.toInt from by omega)] at D
          refine z_iinc (x := l5) (lsx9 := fun v18 => [(5, .int v18), (7, .int v6), (0, .ref 70), (1, .int l1), (2, .int l2), (3, .int l3), (4, .int l4), (6, .int l6)]) rfl rfl rfl jko_1 (by omega) rfl (fun _ => rfl) (fun v18 ev18 => ?_)
          refine z_iinc (x := l6) (lsx9 := fun v19 => [(6, .int v19), (5, .int v18), (7, .int v6), (0, .ref 70), (1, .int l1), (2, .int l2), (3, .int l3), (4, .int l4)]) rfl rfl rfl jko_1 (by omega) rfl (fun _ => rfl) (fun v19 ev19 => ?_)
          refine x_goto (tgt := 163) rfl rfl ?_
          try rw [show (l5.toInt + 1) = v18.toInt from by omega] at D
          try rw [show (l6.toInt + 1) = v19.toInt from by omega] at D
          exact jX.sub (jsb_c rfl (jsb_c rfl (jsb_c rfl (jsb_c rfl (jsb_c rfl (jsb_c rfl (jsb_c rfl jsb_n))))))) (ct_X5_fold_r70d_163 hD hQ ih l1 l2 l3 l4 v18 v19 h (jr_of rfl (by omega)) (jr_of rfl (by omega)) (jr_of rfl (by omega)) (jr_of rfl (by omega)) (jr_mod rfl (by omega)) (jr_of rfl (by omega)) (jr_of rfl (by omega)) (by omega) J Sm D)
set_option maxRecDepth 100000 in
set_option maxHeartbeats 4000000 in
theorem sf_X5_fold_r70d {Dy : jH → Prop} {h : jH} {Q : Option Value → jH → Prop} {dr : jW} {a1 : Int32} {a2 : Int32} (y1 : 0 ≤ a1.toInt ∧ a1.toInt ≤ 1199) (y2 : 0 ≤ a2.toInt ∧ a2.toInt ≤ 15) (hD : jDk Dy) (J : jJ jSgX Dy h) (D : d_X5_fold_r70d a1.toInt a2.toInt (vw h) = dr) (hQ : ∀ hx9, jJ jSgX Dy hx9 → jSm fp_X5_fold_r70d h hx9 → dr = vw hx9 → Q none hx9) : jC m_X5_fold 3 0 0 [.ref 70, .int a1, .int a2] h Q := by
  refine jC.of rfl k_X5_fold rfl ?_
  have Sm := jSm_rf fp_X5_fold_r70d h
  show jX m_X5_fold 3 0 0 0 [(0, .ref 70), (1, .int a1), (2, .int a2)] [] _ 0 0 _
  unfold d_X5_fold_r70d at D
  refine x_aloadn (x := 70) rfl rfl ?_
  refine z_getR (N := 9) (b := 32) 5 0 rfl f_5_35 rfl J rfl 8960 ⟨rfl, rfl⟩ rfl ?_
  refine z_getR (N := 20) (b := 35) 1 1 rfl f_5_118 rfl J rfl 4097 ⟨rfl, rfl⟩ rfl ?_
  refine x_iloadn (x := a1) rfl rfl ?_
  refine x_iconst (v := 0) rfl ki_0 ?_
  refine x_inv (N := m_X8_at) (As := [.int a1, .int 0]) (b := 35) (st := []) (dx9 := 1) (mc := 0) (ms := 0) (host := "") 8 rfl t_X8_at ⟨Or.inl q_5_108, i_X8_at.1, i_X8_at.2⟩ ⟨by decide, rfl⟩ (congrArg Prod.fst (J.1.1 35 (8, 4) rfl)) rfl (by decide) rfl rfl ⟨by decide, by decide⟩ (sf_X8_at_r35_c0d (jr_of rfl (by omega)) hD J rfl  (fun v4 h ev4 J S1 X2 X3 => ?_))
  have Sm := jSm_tr rfl Sm S1
  try rw [X2] at D
  try rw [← X3] at D
  show jX m_X5_fold 3 0 0 12 [(0, .ref 70), (1, .int a1), (2, .int a2)] [.int v4] _ 0 0 _
  refine x_istoren (lsx9 := [(3, .int v4), (0, .ref 70), (1, .int a1), (2, .int a2)]) rfl rfl rfl ?_
  refine x_iloadn (x := a1) rfl rfl ?_
  refine x_bipush (v := 36) rfl kb_36 ?_
  refine z_imul rfl rfl jk_36 (by omega) (fun v5 ev5 => ?_)
  refine x_istore (lsx9 := [(4, .int v5), (3, .int v4), (0, .ref 70), (1, .int a1), (2, .int a2)]) rfl rfl rfl ?_
  refine x_iconst (v := 0) rfl ki_0 ?_
  refine x_istore (lsx9 := [(5, .int 0), (4, .int v5), (3, .int v4), (0, .ref 70), (1, .int a1), (2, .int a2)]) rfl rfl rfl ?_
  refine x_iconst (v := 0) rfl ki_0 ?_
  refine x_istore (lsx9 := [(6, .int 0), (5, .int 0), (4, .int v5), (3, .int v4), (0, .ref 70), (1, .int a1), (2, .int a2)]) rfl rfl rfl ?_
  try rw [show (a1.toInt * 36) = v5.toInt from by omega] at D
  exact jX.sub (jsb_c rfl (jsb_c rfl (jsb_c rfl (jsb_c rfl (jsb_c rfl (jsb_c rfl (jsb_c rfl jsb_n))))))) (ct_X5_fold_r70d_25 hD hQ  267 a1 a2 v4 v5 0 0 h (by have := jk_0; omega) (jr_of rfl (by omega)) (jr_of rfl (by omega)) (jr_of rfl (by omega)) (jr_of rfl (by omega)) (jr_mod rfl (by omega)) (jr_of jk_0 (by omega)) (jr_of jk_0 (by omega)) J Sm (by rw [jk_0]; exact D))
def fp_X8_at_r33_c3d : jFp := []
set_option maxRecDepth 100000 in
set_option maxHeartbeats 4000000 in
theorem ct_X8_at_r33_c3d_24 {Dy : jH → Prop} {h0 : jH} {Q : Option Value → jH → Prop} {dr : Int} (hD : jDk Dy) (hQ : ∀ (v : Int32) hx9, 0 ≤ v.toInt ∧ v.toInt ≤ 15 → jJ jSgX Dy hx9 → jSm fp_X8_at_r33_c3d h0 hx9 → dr = v.toInt → vw hx9 = vw h0 → Q (some (.int v)) hx9) : ∀ (h : jH), jJ jSgX Dy h → jSm fp_X8_at_r33_c3d h0 h → d_X8_at_r33_c3d_24  (vw h) = dr → vw h = vw h0 → jX m_X8_at 1 0 0 24 [] [] h 0 0 Q := by
  intro  h    J Sm D EV
  unfold d_X8_at_r33_c3d_24 at D
  refine x_iconst (v := 0) rfl ki_0 ?_
  refine x_iret rfl rfl ?_
  exact hQ _ _ (jr_of jk_0 (by omega)) J Sm (D.symm.trans (show 0 = (0 : Int32).toInt from by have := jk_0; omega)) EV
set_option maxRecDepth 100000 in
set_option maxHeartbeats 4000000 in
theorem sf_X8_at_r33_c3d {Dy : jH → Prop} {h : jH} {Q : Option Value → jH → Prop} {dr : Int} {a1 : Int32} (y1 : 0 ≤ a1.toInt ∧ a1.toInt ≤ 200) (hD : jDk Dy) (J : jJ jSgX Dy h) (D : d_X8_at_r33_c3d a1.toInt (vw h) = dr) (hQ : ∀ (v : Int32) hx9, 0 ≤ v.toInt ∧ v.toInt ≤ 15 → jJ jSgX Dy hx9 → jSm fp_X8_at_r33_c3d h hx9 → dr = v.toInt → vw hx9 = vw h → Q (some (.int v)) hx9) : jC m_X8_at 1 0 0 [.ref 33, .int a1, .int 3] h Q := by
  refine jC.of rfl k_X8_at rfl ?_
  have Sm := jSm_rf fp_X8_at_r33_c3d h
  show jX m_X8_at 1 0 0 0 [(0, .ref 33), (1, .int a1), (2, .int 3)] [] _ 0 0 _
  unfold d_X8_at_r33_c3d at D
  have EV : vw h = vw h := rfl
  refine x_iloadn (x := a1) rfl rfl ?_
  refine x_iflt (tgt := 24) rfl rfl (ti_lt rfl jk_0 (br_f (by omega) ?_))
  refine x_iloadn (x := a1) rfl rfl ?_
  refine x_aloadn (x := 33) rfl rfl ?_
  refine z_getI (N := 4) 8 3 rfl f_8_7 rfl J rfl sg_33_3_4_1_0_1 (fun v1 qv1 ev1 => ?_)
  try rw [vrf qv1] at D
  refine x_icge (tgt := 24) rfl rfl (ti_ge rfl rfl ⟨fun c2 => ?_, fun c2 => ?_⟩)
  ·
    rw [if_pos (by omega)] at D
    exact jX.sub jsb_n (ct_X8_at_r33_c3d_24 hD hQ  h J Sm D EV)
  ·
    rw [if_neg (by omega)] at D
    refine x_iloadn (x := 3) rfl rfl ?_
    refine x_iflt (tgt := 24) rfl rfl (ti_lt jk_3 jk_0 (br_f (by omega) ?_))
    refine x_iloadn (x := 3) rfl rfl ?_
    refine x_aloadn (x := 33) rfl rfl ?_
    refine z_getC (N := 4) (v := 6) 8 0 rfl f_8_19 rfl J rfl sg_33_0_1_1_0_1 jk_6 ?_
    refine x_iclt (tgt := 26) rfl rfl (ti_lt jk_3 jk_6 (br_t (by omega) ?_))
    refine x_aloadn (x := 33) rfl rfl ?_
    refine z_getR (N := 4) (b := 34) 8 2 rfl f_8_25 rfl J rfl 4226 ⟨rfl, rfl⟩ rfl ?_
    refine x_iloadn (x := a1) rfl rfl ?_
    refine x_aloadn (x := 33) rfl rfl ?_
    refine z_getC (N := 4) (v := 6) 8 0 rfl f_8_19 rfl J rfl sg_33_0_1_1_0_1 jk_6 ?_
    refine z_imul rfl rfl jk_6 (by omega) (fun v3 ev3 => ?_)
    refine x_iloadn (x := 3) rfl rfl ?_
    refine z_iadd rfl rfl jk_3 (by omega) (fun v4 ev4 => ?_)
    refine z_iald (N := 1200) rfl J rfl sg_34_0_1200_6_3_4 rfl (by omega) (fun v5 qv5 ev5 => ?_)
    try rw [vrd qv5 (show ((a1.toInt * 6) + 3) = v4.toInt from by omega)] at D
    refine x_iret rfl rfl ?_
    exact hQ _ _ (jr_of rfl (by omega)) J Sm (D.symm.trans (show v5.toInt = v5.toInt from by omega)) EV
def fp_X5_learn_r70d : jFp := [(75, 0, 43200), (76, 0, 1200), (77, 0, 1200)]
set_option maxRecDepth 100000 in
set_option maxHeartbeats 4000000 in
theorem ct_X5_learn_r70d_34 {Dy : jH → Prop} {h0 : jH} {Q : Option Value → jH → Prop} {dr : jW} (hD : jDk Dy) (hQ : ∀ hx9, jJ jSgX Dy hx9 → jSm fp_X5_learn_r70d h0 hx9 → dr = vw hx9 → Q none hx9) : ∀ (h : jH), jJ jSgX Dy h → jSm fp_X5_learn_r70d h0 h → d_X5_learn_r70d_34  (vw h) = dr → jX m_X5_learn 4 0 0 34 [] [] h 0 0 Q := by
  intro  h    J Sm D
  unfold d_X5_learn_r70d_34 at D
  refine x_vret rfl rfl ?_
  exact hQ _ J Sm D.symm
set_option maxRecDepth 100000 in
set_option maxHeartbeats 4000000 in
theorem ct_X5_learn_r70d_40 {Dy : jH → Prop} {h0 : jH} {Q : Option Value → jH → Prop} {dr : jW} (hD : jDk Dy) (hQ : ∀ hx9, jJ jSgX Dy hx9 → jSm fp_X5_learn_r70d h0 hx9 → dr = vw hx9 → Q none hx9) : ∀ r : Nat, ∀ (l1 : Int32) (l2 : Int32) (l3 : Int32) (h : jH), 1200 - l3.toInt < (r : Int) → 0 ≤ l1.toInt ∧ l1.toInt ≤ 199 → 0 ≤ l2.toInt ∧ l2.toInt ≤ 15 → 0 ≤ l3.toInt ∧ l3.toInt ≤ 1200 → jJ jSgX Dy h → jSm fp_X5_learn_r70d h0 h → d_X5_learn_r70d_40 r l1.toInt l2.toInt l3.toInt (vw h) = dr → jX m_X5_learn 4 0 0 40 [(0, .ref 70), (1, .int l1), (2, .int l2), (3, .int l3)] [] h 0 0 Q := by
  intro r
  induction r with
  | zero =>
    intro l1 l2 l3 h hm y0 y1 y2   J Sm D
    exfalso
    omega
  | succ r ih =>
    intro l1 l2 l3 h hm y0 y1 y2   J Sm D
    rw [d_X5_learn_r70d_40.eq_2] at D
    refine x_iloadn (x := l3) rfl rfl ?_
    refine x_iloadn (x := l1) rfl rfl ?_
    refine x_bipush (v := 6) rfl kb_6 ?_
    refine z_imul rfl rfl jk_6 (by omega) (fun v1 ev1 => ?_)
    refine x_bipush (v := 6) rfl kb_6 ?_
    refine z_iadd rfl rfl jk_6 (by omega) (fun v2 ev2 => ?_)
    refine x_icge (tgt := 63) rfl rfl (ti_ge rfl rfl ⟨fun c3 => ?_, fun c3 => ?_⟩)
    ·
      rw [if_pos (by omega)] at D
      refine x_vret rfl rfl ?_
      exact hQ _ J Sm D.symm
    ·
      rw [if_neg (by omega)] at D
      refine x_aloadn (x := 70) rfl rfl ?_
      refine x_iloadn (x := l3) rfl rfl ?_
      refine x_iloadn (x := l2) rfl rfl ?_
      refine x_inv (N := m_X5_fold) (As := [.int l3, .int l2]) (b := 70) (st := []) (dx9 := 3) (mc := 0) (ms := 0) (host := "") 5 rfl t_X5_fold ⟨Or.inl q_5_114, i_X5_fold.1, i_X5_fold.2⟩ ⟨by decide, rfl⟩ (congrArg Prod.fst (J.1.1 70 (5, 9) rfl)) rfl (by decide) rfl rfl ⟨by decide, by decide⟩ (sf_X5_fold_r70d (jr_of rfl (by omega)) (jr_of rfl (by omega)) hD J rfl  (fun h J S4 X5 => ?_))
      have Sm := jSm_tr rfl Sm S4
      rw [X5] at D
      show jX m_X5_learn 4 0 0 57 [(0, .ref 70), (1, .int l1), (2, .int l2), (3, .int l3)] [] _ 0 0 _
      refine z_iinc (x := l3) (lsx9 := fun v6 => [(3, .int v6), (0, .ref 70), (1, .int l1), (2, .int l2)]) rfl rfl rfl jko_1 (by omega) rfl (fun _ => rfl) (fun v6 ev6 => ?_)
      refine x_goto (tgt := 40) rfl rfl ?_
      try rw [show (l3.toInt + 1) = v6.toInt from by omega] at D
      exact jX.sub (jsb_c rfl (jsb_c rfl (jsb_c rfl (jsb_c rfl jsb_n)))) (ih l1 l2 v6 h (by omega) (jr_of rfl (by omega)) (jr_of rfl (by omega)) (jr_of rfl (by omega)) J Sm D)
set_option maxRecDepth 100000 in
set_option maxHeartbeats 4000000 in
theorem sf_X5_learn_r70d {Dy : jH → Prop} {h : jH} {Q : Option Value → jH → Prop} {dr : jW} {a1 : Int32} (y1 : 0 ≤ a1.toInt ∧ a1.toInt ≤ 200) (hD : jDk Dy) (J : jJ jSgX Dy h) (D : d_X5_learn_r70d a1.toInt (vw h) = dr) (hQ : ∀ hx9, jJ jSgX Dy hx9 → jSm fp_X5_learn_r70d h hx9 → dr = vw hx9 → Q none hx9) : jC m_X5_learn 4 0 0 [.ref 70, .int a1] h Q := by
  refine jC.of rfl k_X5_learn rfl ?_
  have Sm := jSm_rf fp_X5_learn_r70d h
  show jX m_X5_learn 4 0 0 0 [(0, .ref 70), (1, .int a1)] [] _ 0 0 _
  unfold d_X5_learn_r70d at D
  refine x_aloadn (x := 70) rfl rfl ?_
  refine z_getR (N := 9) (b := 32) 5 0 rfl f_5_35 rfl J rfl 8960 ⟨rfl, rfl⟩ rfl ?_
  refine z_getR (N := 20) (b := 33) 1 0 rfl f_5_102 rfl J rfl 4096 ⟨rfl, rfl⟩ rfl ?_
  refine x_iloadn (x := a1) rfl rfl ?_
  refine x_iconst (v := 3) rfl ki_3 ?_
  refine x_inv (N := m_X8_at) (As := [.int a1, .int 3]) (b := 33) (st := []) (dx9 := 1) (mc := 0) (ms := 0) (host := "") 8 rfl t_X8_at ⟨Or.inl q_5_108, i_X8_at.1, i_X8_at.2⟩ ⟨by decide, rfl⟩ (congrArg Prod.fst (J.1.1 33 (8, 4) rfl)) rfl (by decide) rfl rfl ⟨by decide, by decide⟩ (sf_X8_at_r33_c3d (jr_of rfl (by omega)) hD J rfl  (fun v4 h ev4 J S1 X2 X3 => ?_))
  have Sm := jSm_tr rfl Sm S1
  try rw [X2] at D
  try rw [← X3] at D
  show jX m_X5_learn 4 0 0 12 [(0, .ref 70), (1, .int a1)] [.int v4] _ 0 0 _
  refine x_istoren (lsx9 := [(2, .int v4), (0, .ref 70), (1, .int a1)]) rfl rfl rfl ?_
  refine x_iloadn (x := a1) rfl rfl ?_
  refine x_iflt (tgt := 34) rfl rfl (ti_lt rfl jk_0 (br_f (by omega) ?_))
  refine x_iloadn (x := a1) rfl rfl ?_
  refine x_sipush (v := 200) rfl ks_200 ?_
  refine x_icge (tgt := 34) rfl rfl (ti_ge rfl jk_200 ⟨fun c5 => ?_, fun c5 => ?_⟩)
  ·
    rw [if_pos (by omega)] at D
    exact jX.sub jsb_n (ct_X5_learn_r70d_34 hD hQ  h J Sm D)
  ·
    rw [if_neg (by omega)] at D
    refine x_iloadn (x := v4) rfl rfl ?_
    refine x_iflt (tgt := 34) rfl rfl (ti_lt rfl jk_0 (br_f (by omega) ?_))
    refine x_iloadn (x := v4) rfl rfl ?_
    refine x_bipush (v := 15) rfl kb_15 ?_
    refine x_icle (tgt := 35) rfl rfl (ti_le rfl jk_15 (br_t (by omega) ?_))
    refine x_iloadn (x := a1) rfl rfl ?_
    refine x_bipush (v := 6) rfl kb_6 ?_
    refine z_imul rfl rfl jk_6 (by omega) (fun v6 ev6 => ?_)
    refine x_istoren (lsx9 := [(3, .int v6), (2, .int v4), (0, .ref 70), (1, .int a1)]) rfl rfl rfl ?_
    try rw [show (a1.toInt * 6) = v6.toInt from by omega] at D
    exact jX.sub (jsb_c rfl (jsb_c rfl (jsb_c rfl (jsb_c rfl jsb_n)))) (ct_X5_learn_r70d_40 hD hQ  1201 a1 v4 v6 h (by omega) (jr_of rfl (by omega)) (jr_of rfl (by omega)) (jr_of rfl (by omega)) J Sm D)
def fp_X11_badge_r31d : jFp := [(78, 13, 14), (82, 0, 600), (83, 0, 600), (84, 0, 200), (85, 0, 4), (86, 0, 3), (98, 10, 11), (98, 11, 12), (98, 12, 13), (98, 13, 14), (98, 14, 15), (98, 15, 16), (99, 0, 30), (100, 0, 30), (101, 0, 3), (102, 0, 40), (103, 0, 40), (104, 0, 40), (105, 0, 3), (106, 0, 100)]
set_option maxRecDepth 100000 in
set_option maxHeartbeats 4000000 in
theorem ct_X11_badge_r31d_300069 {Dy : jH → Prop} {h0 : jH} {Q : Option Value → jH → Prop} {dr : (Int × jW)} (hD : jDk Dy) (hQ : ∀ (v : Int32) hx9, (-1) ≤ v.toInt ∧ v.toInt ≤ 1 → jJ jSgX Dy hx9 → jSm fp_X11_badge_r31d h0 hx9 → dr.1 = v.toInt → dr.2 = vw hx9 → Q (some (.int v)) hx9) : ∀ (h : jH), jJ jSgX Dy h → jSm fp_X11_badge_r31d h0 h → d_X11_badge_r31d_300069  (vw h) = dr → jX m_X11_badge 8 0 0 69 [] [.int 1] h 0 0 Q := by
  intro  h    J Sm D
  unfold d_X11_badge_r31d_300069 at D
  refine x_iret rfl rfl ?_
  exact hQ _ _ (jr_of jk_1 (by omega)) J Sm ((congrArg Prod.fst D).symm.trans (show 1 = (1 : Int32).toInt from by have := jk_1; omega)) (congrArg Prod.snd D).symm
set_option maxRecDepth 100000 in
set_option maxHeartbeats 4000000 in
theorem ct_X11_badge_r31d_200069 {Dy : jH → Prop} {h0 : jH} {Q : Option Value → jH → Prop} {dr : (Int × jW)} (hD : jDk Dy) (hQ : ∀ (v : Int32) hx9, (-1) ≤ v.toInt ∧ v.toInt ≤ 1 → jJ jSgX Dy hx9 → jSm fp_X11_badge_r31d h0 hx9 → dr.1 = v.toInt → dr.2 = vw hx9 → Q (some (.int v)) hx9) : ∀ (h : jH), jJ jSgX Dy h → jSm fp_X11_badge_r31d h0 h → d_X11_badge_r31d_200069  (vw h) = dr → jX m_X11_badge 8 0 0 69 [] [.int 0] h 0 0 Q := by
  intro  h    J Sm D
  unfold d_X11_badge_r31d_200069 at D
  refine x_iret rfl rfl ?_
  exact hQ _ _ (jr_of jk_0 (by omega)) J Sm ((congrArg Prod.fst D).symm.trans (show 0 = (0 : Int32).toInt from by have := jk_0; omega)) (congrArg Prod.snd D).symm
set_option maxRecDepth 100000 in
set_option maxHeartbeats 4000000 in
theorem ct_X11_badge_r31d_68 {Dy : jH → Prop} {h0 : jH} {Q : Option Value → jH → Prop} {dr : (Int × jW)} (hD : jDk Dy) (hQ : ∀ (v : Int32) hx9, (-1) ≤ v.toInt ∧ v.toInt ≤ 1 → jJ jSgX Dy hx9 → jSm fp_X11_badge_r31d h0 hx9 → dr.1 = v.toInt → dr.2 = vw hx9 → Q (some (.int v)) hx9) : ∀ (h : jH), jJ jSgX Dy h → jSm fp_X11_badge_r31d h0 h → d_X11_badge_r31d_68  (vw h) = dr → jX m_X11_badge 8 0 0 68 [] [] h 0 0 Q := by
  intro  h    J Sm D
  unfold d_X11_badge_r31d_68 at D
  refine x_iconst (v := 0) rfl ki_0 ?_
  exact jX.sub jsb_n (ct_X11_badge_r31d_200069 hD hQ  h J Sm D)
set_option maxRecDepth 100000 in
set_option maxHeartbeats 4000000 in
theorem sf_X11_badge_r31d {Dy : jH → Prop} {h : jH} {Q : Option Value → jH → Prop} {dr : (Int × jW)} {a1 : Int32} {a2 : Int32} {a3 : Int32} (hD : jDk Dy) (J : jJ jSgX Dy h) (D : d_X11_badge_r31d a1.toInt a2.toInt a3.toInt (vw h) = dr) (hQ : ∀ (v : Int32) hx9, (-1) ≤ v.toInt ∧ v.toInt ≤ 1 → jJ jSgX Dy hx9 → jSm fp_X11_badge_r31d h hx9 → dr.1 = v.toInt → dr.2 = vw hx9 → Q (some (.int v)) hx9) : jC m_X11_badge 8 0 0 [.ref 31, .int a1, .int a2, .int a3] h Q := by
  refine jC.of rfl k_X11_badge rfl ?_
  have Sm := jSm_rf fp_X11_badge_r31d h
  have ea1 := jfull a1
  have ea2 := jfull a2
  have ea3 := jfull a3
  show jX m_X11_badge 8 0 0 0 [(0, .ref 31), (1, .int a1), (2, .int a2), (3, .int a3)] [] _ 0 0 _
  unfold d_X11_badge_r31d at D
  refine x_iloadn (x := a2) rfl rfl ?_
  refine x_inst (N := m_X11_isDay) (As := [.int a2]) (st := []) (dx9 := 1) (mc := 0) (ms := 0) (host := "") rfl t_X11_isDay ⟨Or.inl q_11_115, s_X11_isDay⟩ rfl (by decide) rfl rfl ⟨by decide, by decide⟩ (zc_X11_isDay rfl (fun v1 ev1 => ?_))
  show jX m_X11_badge 8 0 0 4 [(0, .ref 31), (1, .int a1), (2, .int a2), (3, .int a3)] [.int v1] _ 0 0 _
  refine x_ifne (tgt := 9) rfl rfl (ti_ne rfl jk_0 ⟨fun c2 => ?_, fun c2 => ?_⟩)
  ·
    rw [if_pos (by omega)] at D
    refine x_aloadn (x := 31) rfl rfl ?_
    refine x_iloadn (x := a1) rfl rfl ?_
    refine x_iloadn (x := a3) rfl rfl ?_
    refine x_inv (N := m_X11_soulOn) (As := [.int a1, .int a3]) (b := 31) (st := []) (dx9 := 7) (mc := 0) (ms := 0) (host := "") 11 rfl t_X11_soulOn ⟨Or.inl q_11_234, i_X11_soulOn.1, i_X11_soulOn.2⟩ ⟨by decide, rfl⟩ (congrArg Prod.fst (J.1.1 31 (11, 13) rfl)) rfl (by decide) rfl rfl ⟨by decide, by decide⟩ (jC.of rfl k_X11_soulOn rfl ?_)
    show jX m_X11_soulOn 7 0 0 0 [(0, .ref 31), (1, .int a1), (2, .int a3)] [] _ 0 0 _
    refine x_iloadn (x := a3) rfl rfl ?_
    refine x_inst (N := m_X11_isDay) (As := [.int a3]) (st := []) (dx9 := 1) (mc := 0) (ms := 0) (host := "") rfl t_X11_isDay ⟨Or.inl q_11_115, s_X11_isDay⟩ rfl (by decide) rfl rfl ⟨by decide, by decide⟩ (zc_X11_isDay rfl (fun v3 ev3 => ?_))
    show jX m_X11_soulOn 7 0 0 4 [(0, .ref 31), (1, .int a1), (2, .int a3)] [.int v3] _ 0 0 _
    refine x_ifeq (tgt := 18) rfl rfl (ti_eq rfl jk_0 ⟨fun c4 => ?_, fun c4 => ?_⟩)
    ·
      rw [if_neg (by omega)] at D
      refine x_iconst (v := (-1)) rfl ki_m1 ?_
      refine x_iret rfl rfl ?_
      show jX m_X11_badge 8 0 0 15 [(0, .ref 31), (1, .int a1), (2, .int a2), (3, .int a3)] [.int (-1)] _ 0 0 _
      refine x_istore (lsx9 := [(4, .int (-1)), (0, .ref 31), (1, .int a1), (2, .int a2), (3, .int a3)]) rfl rfl rfl ?_
      refine x_iload (x := (-1)) rfl rfl ?_
      refine x_iconst (v := (-1)) rfl ki_m1 ?_
      refine x_icne (tgt := 25) rfl rfl (ti_ne jk_m1 jk_m1 (bn_f (by omega) ?_))
      refine x_iconst (v := (-1)) rfl ki_m1 ?_
      refine x_iret rfl rfl ?_
      exact hQ _ _ (jr_of jk_m1 (by omega)) J Sm ((congrArg Prod.fst D).symm.trans (show (-1) = ((-1) : Int32).toInt from by have := jk_m1; omega)) (congrArg Prod.snd D).symm
    ·
      rw [if_pos (by omega)] at D
      refine x_aloadn (x := 31) rfl rfl ?_
      refine z_getR (N := 13) (b := 78) 11 4 rfl f_11_41 rfl J rfl 3972 ⟨rfl, rfl⟩ rfl ?_
      refine x_iloadn (x := a1) rfl rfl ?_
      refine x_inv (N := m_X7_isMention) (As := [.int a1]) (b := 78) (st := []) (dx9 := 6) (mc := 0) (ms := 0) (host := "") 7 rfl t_X7_isMention ⟨Or.inl q_11_187, i_X7_isMention.1, i_X7_isMention.2⟩ ⟨by decide, rfl⟩ (congrArg Prod.fst (J.1.1 78 (7, 16) rfl)) rfl (by decide) rfl rfl ⟨by decide, by decide⟩ (jC.of rfl k_X7_isMention rfl ?_)
      show jX m_X7_isMention 6 0 0 0 [(0, .ref 78), (1, .int a1)] [] _ 0 0 _
      refine x_iloadn (x := a1) rfl rfl ?_
      refine x_iflt (tgt := 41) rfl rfl (ti_lt rfl jk_0 ⟨fun c5 => ?_, fun c5 => ?_⟩)
      ·
        rw [if_pos (by omega)] at D
        refine x_iconst (v := 0) rfl ki_0 ?_
        refine x_zret rfl rfl (by decide) ?_
        show jX m_X11_soulOn 7 0 0 15 [(0, .ref 31), (1, .int a1), (2, .int a3)] [.int 0] _ 0 0 _
        refine x_ifne (tgt := 20) rfl rfl (ti_ne jk_0 jk_0 (bn_f (by omega) ?_))
        refine x_iconst (v := (-1)) rfl ki_m1 ?_
        refine x_iret rfl rfl ?_
        show jX m_X11_badge 8 0 0 15 [(0, .ref 31), (1, .int a1), (2, .int a2), (3, .int a3)] [.int (-1)] _ 0 0 _
        refine x_istore (lsx9 := [(4, .int (-1)), (0, .ref 31), (1, .int a1), (2, .int a2), (3, .int a3)]) rfl rfl rfl ?_
        refine x_iload (x := (-1)) rfl rfl ?_
        refine x_iconst (v := (-1)) rfl ki_m1 ?_
        refine x_icne (tgt := 25) rfl rfl (ti_ne jk_m1 jk_m1 (bn_f (by omega) ?_))
        refine x_iconst (v := (-1)) rfl ki_m1 ?_
        refine x_iret rfl rfl ?_
        exact hQ _ _ (jr_of jk_m1 (by omega)) J Sm ((congrArg Prod.fst D).symm.trans (show (-1) = ((-1) : Int32).toInt from by have := jk_m1; omega)) (congrArg Prod.snd D).symm
      ·
        rw [if_neg (by omega)] at D
        refine x_iloadn (x := a1) rfl rfl ?_
        refine x_sipush (v := 600) rfl ks_600 ?_
        refine x_icge (tgt := 41) rfl rfl (ti_ge rfl jk_600 ⟨fun c6 => ?_, fun c6 => ?_⟩)
        ·
          rw [if_pos (by omega)] at D
          refine x_iconst (v := 0) rfl ki_0 ?_
          refine x_zret rfl rfl (by decide) ?_
          show jX m_X11_soulOn 7 0 0 15 [(0, .ref 31), (1, .int a1), (2, .int a3)] [.int 0] _ 0 0 _
          refine x_ifne (tgt := 20) rfl rfl (ti_ne jk_0 jk_0 (bn_f (by omega) ?_))
          refine x_iconst (v := (-1)) rfl ki_m1 ?_
          refine x_iret rfl rfl ?_
          show jX m_X11_badge 8 0 0 15 [(0, .ref 31), (1, .int a1), (2, .int a2), (3, .int a3)] [.int (-1)] _ 0 0 _
          refine x_istore (lsx9 := [(4, .int (-1)), (0, .ref 31), (1, .int a1), (2, .int a2), (3, .int a3)]) rfl rfl rfl ?_
          refine x_iload (x := (-1)) rfl rfl ?_
          refine x_iconst (v := (-1)) rfl ki_m1 ?_
          refine x_icne (tgt := 25) rfl rfl (ti_ne jk_m1 jk_m1 (bn_f (by omega) ?_))
          refine x_iconst (v := (-1)) rfl ki_m1 ?_
          refine x_iret rfl rfl ?_
          exact hQ _ _ (jr_of jk_m1 (by omega)) J Sm ((congrArg Prod.fst D).symm.trans (show (-1) = ((-1) : Int32).toInt from by have := jk_m1; omega)) (congrArg Prod.snd D).symm
        ·
          rw [if_neg (by omega)] at D
          refine x_iloadn (x := a1) rfl rfl ?_
          refine x_iconst (v := 3) rfl ki_3 ?_
          refine z_idiv rfl rfl jk_3 (by omega) (by omega) (fun v7 ev7 => ?_)
          refine x_aloadn (x := 78) rfl rfl ?_
          refine z_getR (N := 16) (b := 32) 7 0 rfl f_7_55 rfl J rfl 9984 ⟨rfl, rfl⟩ rfl ?_
          refine z_getR (N := 20) (b := 33) 1 0 rfl f_7_63 rfl J rfl 4096 ⟨rfl, rfl⟩ rfl ?_
          refine z_getI (N := 4) 8 3 rfl f_7_85 rfl J rfl sg_33_3_4_1_0_1 (fun v8 qv8 ev8 => ?_)
          try rw [vrf qv8] at D
          refine x_icge (tgt := 41) rfl rfl (ti_ge rfl rfl ⟨fun c9 => ?_, fun c9 => ?_⟩)
          ·
            rw [if_pos (by omega)] at D
            refine x_iconst (v := 0) rfl ki_0 ?_
            refine x_zret rfl rfl (by decide) ?_
            show jX m_X11_soulOn 7 0 0 15 [(0, .ref 31), (1, .int a1), (2, .int a3)] [.int 0] _ 0 0 _
            refine x_ifne (tgt := 20) rfl rfl (ti_ne jk_0 jk_0 (bn_f (by omega) ?_))
            refine x_iconst (v := (-1)) rfl ki_m1 ?_
            refine x_iret rfl rfl ?_
            show jX m_X11_badge 8 0 0 15 [(0, .ref 31), (1, .int a1), (2, .int a2), (3, .int a3)] [.int (-1)] _ 0 0 _
            refine x_istore (lsx9 := [(4, .int (-1)), (0, .ref 31), (1, .int a1), (2, .int a2), (3, .int a3)]) rfl rfl rfl ?_
            refine x_iload (x := (-1)) rfl rfl ?_
            refine x_iconst (v := (-1)) rfl ki_m1 ?_
            refine x_icne (tgt := 25) rfl rfl (ti_ne jk_m1 jk_m1 (bn_f (by omega) ?_))
            refine x_iconst (v := (-1)) rfl ki_m1 ?_
            refine x_iret rfl rfl ?_
            exact hQ _ _ (jr_of jk_m1 (by omega)) J Sm ((congrArg Prod.fst D).symm.trans (show (-1) = ((-1) : Int32).toInt from by have := jk_m1; omega)) (congrArg Prod.snd D).symm
          ·
            rw [if_neg (by omega)] at D
            refine x_aloadn (x := 78) rfl rfl ?_
            refine z_getR (N := 16) (b := 79) 7 7 rfl f_7_27 rfl J rfl 9991 ⟨rfl, rfl⟩ rfl ?_
            refine x_iloadn (x := a1) rfl rfl ?_
            refine z_iald (N := 600) rfl J rfl sg_79_0_600_1_0_1 rfl (by omega) (fun v10 qv10 ev10 => ?_)
            try rw [vrd qv10 (show a1.toInt = a1.toInt from by omega)] at D
            refine x_iconst (v := (-1)) rfl ki_m1 ?_
            refine x_iceq (tgt := 41) rfl rfl (ti_eq rfl jk_m1 ⟨fun c11 => ?_, fun c11 => ?_⟩)
            ·
              rw [if_pos (by omega)] at D
              refine x_iconst (v := 0) rfl ki_0 ?_
              refine x_zret rfl rfl (by decide) ?_
              show jX m_X11_soulOn 7 0 0 15 [(0, .ref 31), (1, .int a1), (2, .int a3)] [.int 0] _ 0 0 _
              refine x_ifne (tgt := 20) rfl rfl (ti_ne jk_0 jk_0 (bn_f (by omega) ?_))
              refine x_iconst (v := (-1)) rfl ki_m1 ?_
              refine x_iret rfl rfl ?_
              show jX m_X11_badge 8 0 0 15 [(0, .ref 31), (1, .int a1), (2, .int a2), (3, .int a3)] [.int (-1)] _ 0 0 _
              refine x_istore (lsx9 := [(4, .int (-1)), (0, .ref 31), (1, .int a1), (2, .int a2), (3, .int a3)]) rfl rfl rfl ?_
              refine x_iload (x := (-1)) rfl rfl ?_
              refine x_iconst (v := (-1)) rfl ki_m1 ?_
              refine x_icne (tgt := 25) rfl rfl (ti_ne jk_m1 jk_m1 (bn_f (by omega) ?_))
              refine x_iconst (v := (-1)) rfl ki_m1 ?_
              refine x_iret rfl rfl ?_
              exact hQ _ _ (jr_of jk_m1 (by omega)) J Sm ((congrArg Prod.fst D).symm.trans (show (-1) = ((-1) : Int32).toInt from by have := jk_m1; omega)) (congrArg Prod.snd D).symm
            ·
              rw [if_neg (by omega)] at D
              refine x_iconst (v := 1) rfl ki_1 ?_
              refine x_goto (tgt := 42) rfl rfl ?_
              refine x_zret rfl rfl (by decide) ?_
              show jX m_X11_soulOn 7 0 0 15 [(0, .ref 31), (1, .int a1), (2, .int a3)] [.int 1] _ 0 0 _
              refine x_ifne (tgt := 20) rfl rfl (ti_ne jk_1 jk_0 (bn_t (by omega) ?_))
              refine x_aloadn (x := 31) rfl rfl ?_
              refine z_getR (N := 13) (b := 78) 11 4 rfl f_11_41 rfl J rfl 3972 ⟨rfl, rfl⟩ rfl ?_
              refine x_iloadn (x := a3) rfl rfl ?_
              refine x_inv (N := m_X7_asKnown) (As := [.int a3]) (b := 78) (st := []) (dx9 := 6) (mc := 0) (ms := 0) (host := "") 7 rfl t_X7_asKnown ⟨Or.inl q_11_240, i_X7_asKnown.1, i_X7_asKnown.2⟩ ⟨by decide, rfl⟩ (congrArg Prod.fst (J.1.1 78 (7, 16) rfl)) rfl (by decide) rfl rfl ⟨by decide, by decide⟩ (sf_X7_asKnown_r78d (jr_of rfl (by omega)) hD J rfl  (fun h J S12 X13 => ?_))
              have Sm := jSm_tr rfl Sm S12
              rw [X13] at D
              show jX m_X11_soulOn 7 0 0 28 [(0, .ref 31), (1, .int a1), (2, .int a3)] [] _ 0 0 _
              refine x_aloadn (x := 31) rfl rfl ?_
              refine z_getR (N := 13) (b := 78) 11 4 rfl f_11_41 rfl J rfl 3972 ⟨rfl, rfl⟩ rfl ?_
              refine z_getR (N := 16) (b := 82) 7 10 rfl f_11_537 rfl J rfl 9994 ⟨rfl, rfl⟩ rfl ?_
              refine x_iloadn (x := a1) rfl rfl ?_
              refine z_iald (N := 600) rfl J rfl sg_82_0_600_1_0_1 rfl (by omega) (fun v14 qv14 ev14 => ?_)
              try rw [vrd qv14 (show a1.toInt = a1.toInt from by omega)] at D
              refine x_iret rfl rfl ?_
              show jX m_X11_badge 8 0 0 15 [(0, .ref 31), (1, .int a1), (2, .int a2), (3, .int a3)] [.int v14] _ 0 0 _
              refine x_istore (lsx9 := [(4, .int v14), (0, .ref 31), (1, .int a1), (2, .int a2), (3, .int a3)]) rfl rfl rfl ?_
              refine x_iload (x := v14) rfl rfl ?_
              refine x_iconst (v := (-1)) rfl ki_m1 ?_
              refine x_icne (tgt := 25) rfl rfl (ti_ne rfl jk_m1 ⟨fun c15 => ?_, fun c15 => ?_⟩)
              ·
                rw [if_neg (by omega)] at D
                refine x_aloadn (x := 31) rfl rfl ?_
                refine z_getR (N := 13) (b := 98) 11 7 rfl f_11_66 rfl J rfl 3975 ⟨rfl, rfl⟩ rfl ?_
                refine x_iloadn (x := a2) rfl rfl ?_
                refine x_iloadn (x := a3) rfl rfl ?_
                refine x_inv (N := m_X0_turnTo) (As := [.int a2, .int a3]) (b := 98) (st := []) (dx9 := 7) (mc := 0) (ms := 0) (host := "") 0 rfl t_X0_turnTo ⟨Or.inl q_11_345, i_X0_turnTo.1, i_X0_turnTo.2⟩ ⟨by decide, rfl⟩ (congrArg Prod.fst (J.1.1 98 (0, 16) rfl)) rfl (by decide) rfl rfl ⟨by decide, by decide⟩ (jC.of rfl k_X0_turnTo rfl ?_)
                show jX m_X0_turnTo 7 0 0 0 [(0, .ref 98), (1, .int a2), (2, .int a3)] [] _ 0 0 _
                refine x_aloadn (x := 98) rfl rfl ?_
                refine x_iloadn (x := a2) rfl rfl ?_
                refine x_iloadn (x := a3) rfl rfl ?_
                refine x_inv (N := m_X0_readLaws) (As := [.int a2, .int a3]) (b := 98) (st := []) (dx9 := 3) (mc := 0) (ms := 0) (host := "") 0 rfl t_X0_readLaws ⟨Or.inl q_0_65, i_X0_readLaws.1, i_X0_readLaws.2⟩ ⟨by decide, rfl⟩ (congrArg Prod.fst (J.1.1 98 (0, 16) rfl)) rfl (by decide) rfl rfl ⟨by decide, by decide⟩ (sf_X0_readLaws_r98d (jr_of rfl (by omega)) (jr_of rfl (by omega)) hD J rfl  (fun h J S16 X17 => ?_))
                have Sm := jSm_tr rfl Sm S16
                rw [X17] at D
                show jX m_X0_turnTo 7 0 0 6 [(0, .ref 98), (1, .int a2), (2, .int a3)] [] _ 0 0 _
                refine x_aloadn (x := 98) rfl rfl ?_
                refine x_iloadn (x := a2) rfl rfl ?_
                refine x_iloadn (x := a3) rfl rfl ?_
                refine x_inv (N := m_X0_readHouses) (As := [.int a2, .int a3]) (b := 98) (st := []) (dx9 := 3) (mc := 0) (ms := 0) (host := "") 0 rfl t_X0_readHouses ⟨Or.inl q_0_69, i_X0_readHouses.1, i_X0_readHouses.2⟩ ⟨by decide, rfl⟩ (congrArg Prod.fst (J.1.1 98 (0, 16) rfl)) rfl (by decide) rfl rfl ⟨by decide, by decide⟩ (sf_X0_readHouses_r98d (jr_of rfl (by omega)) (jr_of rfl (by omega)) hD J rfl  (fun h J S18 X19 => ?_))
                have Sm := jSm_tr rfl Sm S18
                rw [X19] at D
                show jX m_X0_turnTo 7 0 0 12 [(0, .ref 98), (1, .int a2), (2, .int a3)] [] _ 0 0 _
                refine x_vret rfl rfl ?_
                show jX m_X11_badge 8 0 0 34 [(4, .int v14), (0, .ref 31), (1, .int a1), (2, .int a2), (3, .int a3)] [] _ 0 0 _
                refine x_aloadn (x := 31) rfl rfl ?_
                refine z_getR (N := 13) (b := 98) 11 7 rfl f_11_66 rfl J rfl 3975 ⟨rfl, rfl⟩ rfl ?_
                refine x_bipush (v := 7) rfl kb_7 ?_
                refine x_iload (x := v14) rfl rfl ?_
                refine x_inv (N := m_X0_quantity) (As := [.int 7, .int v14]) (b := 98) (st := []) (dx9 := 3) (mc := 0) (ms := 0) (host := "") 0 rfl t_X0_quantity ⟨Or.inl q_11_374, i_X0_quantity.1, i_X0_quantity.2⟩ ⟨by decide, rfl⟩ (congrArg Prod.fst (J.1.1 98 (0, 16) rfl)) rfl (by decide) rfl rfl ⟨by decide, by decide⟩ (sf_X0_quantity_r98d (jr_of rfl (by omega)) hD J rfl  (fun v23 h J S20 X21 X22 => ?_))
                have ev23 := jfullL v23
                have Sm := jSm_tr rfl Sm S20
                try rw [jk_7] at X21
                try rw [jk_7] at X22
                try rw [X21] at D
                try rw [X22] at D
                show jX m_X11_badge 8 0 0 45 [(4, .int v14), (0, .ref 31), (1, .int a1), (2, .int a2), (3, .int a3)] [.long v23] _ 0 0 _
                refine x_lconst (v := 1) rfl kl_1 ?_
                refine z_lcmp rfl rfl jkl_1 (fun v24 ev24 => ?_)
                refine x_ifne (tgt := 68) rfl rfl (ti_ne rfl jk_0 ⟨fun c25 => ?_, fun c25 => ?_⟩)
                ·
                  rw [if_neg (by omega)] at D
                  exact jX.sub jsb_n (ct_X11_badge_r31d_68 hD hQ  h J Sm D)
                ·
                  rw [if_pos (by omega)] at D
                  refine x_aloadn (x := 31) rfl rfl ?_
                  refine z_getR (N := 13) (b := 98) 11 7 rfl f_11_66 rfl J rfl 3975 ⟨rfl, rfl⟩ rfl ?_
                  refine x_iconst (v := 4) rfl ki_4 ?_
                  refine x_iconst (v := 0) rfl ki_0 ?_
                  refine x_iload (x := v14) rfl rfl ?_
                  refine x_inv (N := m_X0_weigh) (As := [.int 4, .int 0, .int v14]) (b := 98) (st := []) (dx9 := 6) (mc := 0) (ms := 0) (host := "") 0 rfl t_X0_weigh ⟨Or.inl q_11_359, i_X0_weigh.1, i_X0_weigh.2⟩ ⟨by decide, rfl⟩ (congrArg Prod.fst (J.1.1 98 (0, 16) rfl)) rfl (by decide) rfl rfl ⟨by decide, by decide⟩ (sf_X0_weigh_r98d (jr_of jk_4 (by omega)) (jr_of jk_0 (by omega)) (jr_of rfl (by omega)) hD J rfl  (fun v29 h ev29 J S26 X27 X28 => ?_))
                  have Sm := jSm_tr rfl Sm S26
                  try rw [jk_4] at X27
                  try rw [jk_0] at X27
                  try rw [jk_4] at X28
                  try rw [jk_0] at X28
                  try rw [X27] at D
                  try rw [X28] at D
                  show jX m_X11_badge 8 0 0 61 [(4, .int v14), (0, .ref 31), (1, .int a1), (2, .int a2), (3, .int a3)] [.int v29] _ 0 0 _
                  refine x_ifeq (tgt := 68) rfl rfl (ti_eq rfl jk_0 ⟨fun c30 => ?_, fun c30 => ?_⟩)
                  ·
                    rw [if_pos (by omega)] at D
                    exact jX.sub jsb_n (ct_X11_badge_r31d_68 hD hQ  h J Sm D)
                  ·
                    rw [if_neg (by omega)] at D
                    refine x_iconst (v := 1) rfl ki_1 ?_
                    refine x_goto (tgt := 69) rfl rfl ?_
                    exact jX.sub jsb_n (ct_X11_badge_r31d_300069 hD hQ  h J Sm D)
              ·
                rw [if_pos (by omega)] at D
                refine x_iconst (v := (-1)) rfl ki_m1 ?_
                refine x_iret rfl rfl ?_
                exact hQ _ _ (jr_of jk_m1 (by omega)) J Sm ((congrArg Prod.fst D).symm.trans (show (-1) = ((-1) : Int32).toInt from by have := jk_m1; omega)) (congrArg Prod.snd D).symm
  ·
    rw [if_neg (by omega)] at D
    refine x_iconst (v := (-1)) rfl ki_m1 ?_
    refine x_iret rfl rfl ?_
    exact hQ _ _ (jr_of jk_m1 (by omega)) J Sm ((congrArg Prod.fst D).symm.trans (show (-1) = ((-1) : Int32).toInt from by have := jk_m1; omega)) (congrArg Prod.snd D).symm
def fp_X8_at_r59_c1d : jFp := []
set_option maxRecDepth 100000 in
set_option maxHeartbeats 4000000 in
theorem ct_X8_at_r59_c1d_24 {Dy : jH → Prop} {h0 : jH} {Q : Option Value → jH → Prop} {dr : Int} (hD : jDk Dy) (hQ : ∀ (v : Int32) hx9, 0 ≤ v.toInt ∧ v.toInt ≤ 399 → jJ jSgX Dy hx9 → jSm fp_X8_at_r59_c1d h0 hx9 → dr = v.toInt → vw hx9 = vw h0 → Q (some (.int v)) hx9) : ∀ (h : jH), jJ jSgX Dy h → jSm fp_X8_at_r59_c1d h0 h → d_X8_at_r59_c1d_24  (vw h) = dr → vw h = vw h0 → jX m_X8_at 1 0 0 24 [] [] h 0 0 Q := by
  intro  h    J Sm D EV
  unfold d_X8_at_r59_c1d_24 at D
  refine x_iconst (v := 0) rfl ki_0 ?_
  refine x_iret rfl rfl ?_
  exact hQ _ _ (jr_of jk_0 (by omega)) J Sm (D.symm.trans (show 0 = (0 : Int32).toInt from by have := jk_0; omega)) EV
set_option maxRecDepth 100000 in
set_option maxHeartbeats 4000000 in
theorem sf_X8_at_r59_c1d {Dy : jH → Prop} {h : jH} {Q : Option Value → jH → Prop} {dr : Int} {a1 : Int32} (y1 : 0 ≤ a1.toInt ∧ a1.toInt ≤ 39) (hD : jDk Dy) (J : jJ jSgX Dy h) (D : d_X8_at_r59_c1d a1.toInt (vw h) = dr) (hQ : ∀ (v : Int32) hx9, 0 ≤ v.toInt ∧ v.toInt ≤ 399 → jJ jSgX Dy hx9 → jSm fp_X8_at_r59_c1d h hx9 → dr = v.toInt → vw hx9 = vw h → Q (some (.int v)) hx9) : jC m_X8_at 1 0 0 [.ref 59, .int a1, .int 1] h Q := by
  refine jC.of rfl k_X8_at rfl ?_
  have Sm := jSm_rf fp_X8_at_r59_c1d h
  show jX m_X8_at 1 0 0 0 [(0, .ref 59), (1, .int a1), (2, .int 1)] [] _ 0 0 _
  unfold d_X8_at_r59_c1d at D
  have EV : vw h = vw h := rfl
  refine x_iloadn (x := a1) rfl rfl ?_
  refine x_iflt (tgt := 24) rfl rfl (ti_lt rfl jk_0 (br_f (by omega) ?_))
  refine x_iloadn (x := a1) rfl rfl ?_
  refine x_aloadn (x := 59) rfl rfl ?_
  refine z_getI (N := 4) 8 3 rfl f_8_7 rfl J rfl sg_59_3_4_1_0_1 (fun v1 qv1 ev1 => ?_)
  try rw [vrf qv1] at D
  refine x_icge (tgt := 24) rfl rfl (ti_ge rfl rfl ⟨fun c2 => ?_, fun c2 => ?_⟩)
  ·
    rw [if_pos (by omega)] at D
    exact jX.sub jsb_n (ct_X8_at_r59_c1d_24 hD hQ  h J Sm D EV)
  ·
    rw [if_neg (by omega)] at D
    refine x_iloadn (x := 1) rfl rfl ?_
    refine x_iflt (tgt := 24) rfl rfl (ti_lt jk_1 jk_0 (br_f (by omega) ?_))
    refine x_iloadn (x := 1) rfl rfl ?_
    refine x_aloadn (x := 59) rfl rfl ?_
    refine z_getC (N := 4) (v := 4) 8 0 rfl f_8_19 rfl J rfl sg_59_0_1_1_0_1 jk_4 ?_
    refine x_iclt (tgt := 26) rfl rfl (ti_lt jk_1 jk_4 (br_t (by omega) ?_))
    refine x_aloadn (x := 59) rfl rfl ?_
    refine z_getR (N := 4) (b := 60) 8 2 rfl f_8_25 rfl J rfl 7554 ⟨rfl, rfl⟩ rfl ?_
    refine x_iloadn (x := a1) rfl rfl ?_
    refine x_aloadn (x := 59) rfl rfl ?_
    refine z_getC (N := 4) (v := 4) 8 0 rfl f_8_19 rfl J rfl sg_59_0_1_1_0_1 jk_4 ?_
    refine z_imul rfl rfl jk_4 (by omega) (fun v3 ev3 => ?_)
    refine x_iloadn (x := 1) rfl rfl ?_
    refine z_iadd rfl rfl jk_1 (by omega) (fun v4 ev4 => ?_)
    refine z_iald (N := 160) rfl J rfl sg_60_0_160_4_1_2 rfl (by omega) (fun v5 qv5 ev5 => ?_)
    try rw [vrd qv5 (show ((a1.toInt * 4) + 1) = v4.toInt from by omega)] at D
    refine x_iret rfl rfl ?_
    exact hQ _ _ (jr_of rfl (by omega)) J Sm (D.symm.trans (show v5.toInt = v5.toInt from by omega)) EV
def fp_X8_at_r59_c2d : jFp := []
set_option maxRecDepth 100000 in
set_option maxHeartbeats 4000000 in
theorem ct_X8_at_r59_c2d_24 {Dy : jH → Prop} {h0 : jH} {Q : Option Value → jH → Prop} {dr : Int} (hD : jDk Dy) (hQ : ∀ (v : Int32) hx9, 0 ≤ v.toInt ∧ v.toInt ≤ 3 → jJ jSgX Dy hx9 → jSm fp_X8_at_r59_c2d h0 hx9 → dr = v.toInt → vw hx9 = vw h0 → Q (some (.int v)) hx9) : ∀ (h : jH), jJ jSgX Dy h → jSm fp_X8_at_r59_c2d h0 h → d_X8_at_r59_c2d_24  (vw h) = dr → vw h = vw h0 → jX m_X8_at 1 0 0 24 [] [] h 0 0 Q := by
  intro  h    J Sm D EV
  unfold d_X8_at_r59_c2d_24 at D
  refine x_iconst (v := 0) rfl ki_0 ?_
  refine x_iret rfl rfl ?_
  exact hQ _ _ (jr_of jk_0 (by omega)) J Sm (D.symm.trans (show 0 = (0 : Int32).toInt from by have := jk_0; omega)) EV
set_option maxRecDepth 100000 in
set_option maxHeartbeats 4000000 in
theorem sf_X8_at_r59_c2d {Dy : jH → Prop} {h : jH} {Q : Option Value → jH → Prop} {dr : Int} {a1 : Int32} (y1 : 0 ≤ a1.toInt ∧ a1.toInt ≤ 39) (hD : jDk Dy) (J : jJ jSgX Dy h) (D : d_X8_at_r59_c2d a1.toInt (vw h) = dr) (hQ : ∀ (v : Int32) hx9, 0 ≤ v.toInt ∧ v.toInt ≤ 3 → jJ jSgX Dy hx9 → jSm fp_X8_at_r59_c2d h hx9 → dr = v.toInt → vw hx9 = vw h → Q (some (.int v)) hx9) : jC m_X8_at 1 0 0 [.ref 59, .int a1, .int 2] h Q := by
  refine jC.of rfl k_X8_at rfl ?_
  have Sm := jSm_rf fp_X8_at_r59_c2d h
  show jX m_X8_at 1 0 0 0 [(0, .ref 59), (1, .int a1), (2, .int 2)] [] _ 0 0 _
  unfold d_X8_at_r59_c2d at D
  have EV : vw h = vw h := rfl
  refine x_iloadn (x := a1) rfl rfl ?_
  refine x_iflt (tgt := 24) rfl rfl (ti_lt rfl jk_0 (br_f (by omega) ?_))
  refine x_iloadn (x := a1) rfl rfl ?_
  refine x_aloadn (x := 59) rfl rfl ?_
  refine z_getI (N := 4) 8 3 rfl f_8_7 rfl J rfl sg_59_3_4_1_0_1 (fun v1 qv1 ev1 => ?_)
  try rw [vrf qv1] at D
  refine x_icge (tgt := 24) rfl rfl (ti_ge rfl rfl ⟨fun c2 => ?_, fun c2 => ?_⟩)
  ·
    rw [if_pos (by omega)] at D
    exact jX.sub jsb_n (ct_X8_at_r59_c2d_24 hD hQ  h J Sm D EV)
  ·
    rw [if_neg (by omega)] at D
    refine x_iloadn (x := 2) rfl rfl ?_
    refine x_iflt (tgt := 24) rfl rfl (ti_lt jk_2 jk_0 (br_f (by omega) ?_))
    refine x_iloadn (x := 2) rfl rfl ?_
    refine x_aloadn (x := 59) rfl rfl ?_
    refine z_getC (N := 4) (v := 4) 8 0 rfl f_8_19 rfl J rfl sg_59_0_1_1_0_1 jk_4 ?_
    refine x_iclt (tgt := 26) rfl rfl (ti_lt jk_2 jk_4 (br_t (by omega) ?_))
    refine x_aloadn (x := 59) rfl rfl ?_
    refine z_getR (N := 4) (b := 60) 8 2 rfl f_8_25 rfl J rfl 7554 ⟨rfl, rfl⟩ rfl ?_
    refine x_iloadn (x := a1) rfl rfl ?_
    refine x_aloadn (x := 59) rfl rfl ?_
    refine z_getC (N := 4) (v := 4) 8 0 rfl f_8_19 rfl J rfl sg_59_0_1_1_0_1 jk_4 ?_
    refine z_imul rfl rfl jk_4 (by omega) (fun v3 ev3 => ?_)
    refine x_iloadn (x := 2) rfl rfl ?_
    refine z_iadd rfl rfl jk_2 (by omega) (fun v4 ev4 => ?_)
    refine z_iald (N := 160) rfl J rfl sg_60_0_160_4_2_3 rfl (by omega) (fun v5 qv5 ev5 => ?_)
    try rw [vrd qv5 (show ((a1.toInt * 4) + 2) = v4.toInt from by omega)] at D
    refine x_iret rfl rfl ?_
    exact hQ _ _ (jr_of rfl (by omega)) J Sm (D.symm.trans (show v5.toInt = v5.toInt from by omega)) EV
def fp_X11_closing_r31d : jFp := []
set_option maxRecDepth 100000 in
set_option maxHeartbeats 4000000 in
theorem ct_X11_closing_r31d_50 {Dy : jH → Prop} {h0 : jH} {Q : Option Value → jH → Prop} {dr : Int} {K2 : Int → Int → Int → jW → Int} {R2 : Int} (hD : jDk Dy) (hQ : ∀ (v : Int32) hx9, (-1) ≤ v.toInt ∧ v.toInt ≤ 39 → jJ jSgX Dy hx9 → jSm fp_X11_closing_r31d h0 hx9 → dr = v.toInt → vw hx9 = vw h0 → Q (some (.int v)) hx9) (k2 : ∀ (l1 : Int32) (l2 : Int32) (l3 : Int32) (h : jH), 40 - l3.toInt < R2 → 0 ≤ l1.toInt ∧ l1.toInt ≤ 3 → 0 ≤ l3.toInt ∧ l3.toInt ≤ 40 → jJ jSgX Dy h → jSm fp_X11_closing_r31d h0 h → K2 l1.toInt l2.toInt l3.toInt (vw h) = dr → vw h = vw h0 → jX m_X11_closing 2 0 0 2 [(0, .ref 31), (1, .int l1), (2, .int l2), (3, .int l3)] [] h 0 0 Q) : ∀ (l1 : Int32) (l2 : Int32) (l3 : Int32) (h : jH), 0 ≤ l1.toInt ∧ l1.toInt ≤ 3 → 0 ≤ l3.toInt ∧ l3.toInt ≤ 39 → 40 - l3.toInt ≤ R2 → jJ jSgX Dy h → jSm fp_X11_closing_r31d h0 h → d_X11_closing_r31d_50 K2  l1.toInt l2.toInt l3.toInt (vw h) = dr → vw h = vw h0 → jX m_X11_closing 2 0 0 50 [(0, .ref 31), (1, .int l1), (2, .int l2), (3, .int l3)] [] h 0 0 Q := by
  intro l1 l2 l3 h y0 y1  m2 J Sm D EV
  have el2 := jfull l2
  unfold d_X11_closing_r31d_50 at D
  refine z_iinc (x := l3) (lsx9 := fun v1 => [(3, .int v1), (0, .ref 31), (1, .int l1), (2, .int l2)]) rfl rfl rfl jko_1 (by omega) rfl (fun _ => rfl) (fun v1 ev1 => ?_)
  refine x_goto (tgt := 2) rfl rfl ?_
  try rw [show (l3.toInt + 1) = v1.toInt from by omega] at D
  exact jX.sub (jsb_c rfl (jsb_c rfl (jsb_c rfl (jsb_c rfl jsb_n)))) (k2 l1 l2 v1 h (by omega) (jr_of rfl (by omega)) (jr_of rfl (by omega)) J Sm D EV)
set_option maxRecDepth 100000 in
set_option maxHeartbeats 4000000 in
theorem ct_X11_closing_r31d_2 {Dy : jH → Prop} {h0 : jH} {Q : Option Value → jH → Prop} {dr : Int} (hD : jDk Dy) (hQ : ∀ (v : Int32) hx9, (-1) ≤ v.toInt ∧ v.toInt ≤ 39 → jJ jSgX Dy hx9 → jSm fp_X11_closing_r31d h0 hx9 → dr = v.toInt → vw hx9 = vw h0 → Q (some (.int v)) hx9) : ∀ r : Nat, ∀ (l1 : Int32) (l2 : Int32) (l3 : Int32) (h : jH), 40 - l3.toInt < (r : Int) → 0 ≤ l1.toInt ∧ l1.toInt ≤ 3 → 0 ≤ l3.toInt ∧ l3.toInt ≤ 40 → jJ jSgX Dy h → jSm fp_X11_closing_r31d h0 h → d_X11_closing_r31d_2 r l1.toInt l2.toInt l3.toInt (vw h) = dr → vw h = vw h0 → jX m_X11_closing 2 0 0 2 [(0, .ref 31), (1, .int l1), (2, .int l2), (3, .int l3)] [] h 0 0 Q := by
  intro r
  induction r with
  | zero =>
    intro l1 l2 l3 h hm y0 y1   J Sm D EV
    exfalso
    have el2 := jfull l2
    omega
  | succ r ih =>
    intro l1 l2 l3 h hm y0 y1   J Sm D EV
    have el2 := jfull l2
    rw [d_X11_closing_r31d_2.eq_2] at D
    refine x_iloadn (x := l3) rfl rfl ?_
    refine x_aloadn (x := 31) rfl rfl ?_
    refine z_getR (N := 13) (b := 32) 11 0 rfl f_11_10 rfl J rfl 3968 ⟨rfl, rfl⟩ rfl ?_
    refine z_getR (N := 20) (b := 59) 1 13 rfl f_11_482 rfl J rfl 4109 ⟨rfl, rfl⟩ rfl ?_
    refine z_getI (N := 4) 8 3 rfl f_11_142 rfl J rfl sg_59_3_4_1_0_1 (fun v1 qv1 ev1 => ?_)
    try rw [vrf qv1] at D
    refine x_icge (tgt := 56) rfl rfl (ti_ge rfl rfl ⟨fun c2 => ?_, fun c2 => ?_⟩)
    ·
      rw [if_pos (by omega)] at D
      refine x_iconst (v := (-1)) rfl ki_m1 ?_
      refine x_iret rfl rfl ?_
      exact hQ _ _ (jr_of jk_m1 (by omega)) J Sm (D.symm.trans (show (-1) = ((-1) : Int32).toInt from by have := jk_m1; omega)) EV
    ·
      rw [if_neg (by omega)] at D
      refine x_aloadn (x := 31) rfl rfl ?_
      refine z_getR (N := 13) (b := 32) 11 0 rfl f_11_10 rfl J rfl 3968 ⟨rfl, rfl⟩ rfl ?_
      refine z_getR (N := 20) (b := 59) 1 13 rfl f_11_482 rfl J rfl 4109 ⟨rfl, rfl⟩ rfl ?_
      refine x_iloadn (x := l3) rfl rfl ?_
      refine x_iconst (v := 2) rfl ki_2 ?_
      refine x_inv (N := m_X8_at) (As := [.int l3, .int 2]) (b := 59) (st := []) (dx9 := 1) (mc := 0) (ms := 0) (host := "") 8 rfl t_X8_at ⟨Or.inl q_11_171, i_X8_at.1, i_X8_at.2⟩ ⟨by decide, rfl⟩ (congrArg Prod.fst (J.1.1 59 (8, 4) rfl)) rfl (by decide) rfl rfl ⟨by decide, by decide⟩ (sf_X8_at_r59_c2d (jr_of rfl (by omega)) hD J rfl  (fun v6 h ev6 J S3 X4 X5 => ?_))
      have Sm := jSm_tr rfl Sm S3
      try rw [X4] at D
      try rw [← X5] at D
      have EV := X5.trans EV
      show jX m_X11_closing 2 0 0 28 [(0, .ref 31), (1, .int l1), (2, .int l2), (3, .int l3)] [.int v6] _ 0 0 _
      refine x_iloadn (x := l1) rfl rfl ?_
      refine x_icne (tgt := 50) rfl rfl (ti_ne rfl rfl ⟨fun c7 => ?_, fun c7 => ?_⟩)
      ·
        rw [if_neg (by omega)] at D
        exact jX.sub (jsb_c rfl (jsb_c rfl (jsb_c rfl (jsb_c rfl jsb_n)))) (ct_X11_closing_r31d_50 hD hQ ih l1 l2 l3 h (jr_of rfl (by omega)) (jr_of rfl (by omega)) (by omega) J Sm D EV)
      ·
        rw [if_pos (by omega)] at D
        refine x_aloadn (x := 31) rfl rfl ?_
        refine z_getR (N := 13) (b := 32) 11 0 rfl f_11_10 rfl J rfl 3968 ⟨rfl, rfl⟩ rfl ?_
        refine z_getR (N := 20) (b := 59) 1 13 rfl f_11_482 rfl J rfl 4109 ⟨rfl, rfl⟩ rfl ?_
        refine x_iloadn (x := l3) rfl rfl ?_
        refine x_iconst (v := 1) rfl ki_1 ?_
        refine x_inv (N := m_X8_at) (As := [.int l3, .int 1]) (b := 59) (st := []) (dx9 := 1) (mc := 0) (ms := 0) (host := "") 8 rfl t_X8_at ⟨Or.inl q_11_171, i_X8_at.1, i_X8_at.2⟩ ⟨by decide, rfl⟩ (congrArg Prod.fst (J.1.1 59 (8, 4) rfl)) rfl (by decide) rfl rfl ⟨by decide, by decide⟩ (sf_X8_at_r59_c1d (jr_of rfl (by omega)) hD J rfl  (fun v11 h ev11 J S8 X9 X10 => ?_))
        have Sm := jSm_tr rfl Sm S8
        try rw [X9] at D
        try rw [← X10] at D
        have EV := X10.trans EV
        show jX m_X11_closing 2 0 0 44 [(0, .ref 31), (1, .int l1), (2, .int l2), (3, .int l3)] [.int v11] _ 0 0 _
        refine x_iloadn (x := l2) rfl rfl ?_
        refine x_icne (tgt := 50) rfl rfl (ti_ne rfl rfl ⟨fun c12 => ?_, fun c12 => ?_⟩)
        ·
          rw [if_neg (by omega)] at D
          exact jX.sub (jsb_c rfl (jsb_c rfl (jsb_c rfl (jsb_c rfl jsb_n)))) (ct_X11_closing_r31d_50 hD hQ ih l1 l2 l3 h (jr_of rfl (by omega)) (jr_of rfl (by omega)) (by omega) J Sm D EV)
        ·
          rw [if_pos (by omega)] at D
          refine x_iloadn (x := l3) rfl rfl ?_
          refine x_iret rfl rfl ?_
          exact hQ _ _ (jr_of rfl (by omega)) J Sm (D.symm.trans (show l3.toInt = l3.toInt from by omega)) EV
set_option maxRecDepth 100000 in
set_option maxHeartbeats 4000000 in
theorem sf_X11_closing_r31d {Dy : jH → Prop} {h : jH} {Q : Option Value → jH → Prop} {dr : Int} {a1 : Int32} {a2 : Int32} (y1 : 0 ≤ a1.toInt ∧ a1.toInt ≤ 3) (hD : jDk Dy) (J : jJ jSgX Dy h) (D : d_X11_closing_r31d a1.toInt a2.toInt (vw h) = dr) (hQ : ∀ (v : Int32) hx9, (-1) ≤ v.toInt ∧ v.toInt ≤ 39 → jJ jSgX Dy hx9 → jSm fp_X11_closing_r31d h hx9 → dr = v.toInt → vw hx9 = vw h → Q (some (.int v)) hx9) : jC m_X11_closing 2 0 0 [.ref 31, .int a1, .int a2] h Q := by
  refine jC.of rfl k_X11_closing rfl ?_
  have Sm := jSm_rf fp_X11_closing_r31d h
  have ea2 := jfull a2
  show jX m_X11_closing 2 0 0 0 [(0, .ref 31), (1, .int a1), (2, .int a2)] [] _ 0 0 _
  unfold d_X11_closing_r31d at D
  have EV : vw h = vw h := rfl
  refine x_iconst (v := 0) rfl ki_0 ?_
  refine x_istoren (lsx9 := [(3, .int 0), (0, .ref 31), (1, .int a1), (2, .int a2)]) rfl rfl rfl ?_
  exact jX.sub (jsb_c rfl (jsb_c rfl (jsb_c rfl (jsb_c rfl jsb_n)))) (ct_X11_closing_r31d_2 hD hQ  41 a1 a2 0 h (by have := jk_0; omega) (jr_of rfl (by omega)) (jr_of jk_0 (by omega)) J Sm (by rw [jk_0]; exact D) EV)
def fp_X8_at_r57_c0d : jFp := []
set_option maxRecDepth 100000 in
set_option maxHeartbeats 4000000 in
theorem ct_X8_at_r57_c0d_24 {Dy : jH → Prop} {h0 : jH} {Q : Option Value → jH → Prop} {dr : Int} (hD : jDk Dy) (hQ : ∀ (v : Int32) hx9, 0 ≤ v.toInt ∧ v.toInt ≤ 146399 → jJ jSgX Dy hx9 → jSm fp_X8_at_r57_c0d h0 hx9 → dr = v.toInt → vw hx9 = vw h0 → Q (some (.int v)) hx9) : ∀ (h : jH), jJ jSgX Dy h → jSm fp_X8_at_r57_c0d h0 h → d_X8_at_r57_c0d_24  (vw h) = dr → vw h = vw h0 → jX m_X8_at 1 0 0 24 [] [] h 0 0 Q := by
  intro  h    J Sm D EV
  unfold d_X8_at_r57_c0d_24 at D
  refine x_iconst (v := 0) rfl ki_0 ?_
  refine x_iret rfl rfl ?_
  exact hQ _ _ (jr_of jk_0 (by omega)) J Sm (D.symm.trans (show 0 = (0 : Int32).toInt from by have := jk_0; omega)) EV
set_option maxRecDepth 100000 in
set_option maxHeartbeats 4000000 in
theorem sf_X8_at_r57_c0d {Dy : jH → Prop} {h : jH} {Q : Option Value → jH → Prop} {dr : Int} {a1 : Int32} (y1 : 0 ≤ a1.toInt ∧ a1.toInt ≤ 99) (hD : jDk Dy) (J : jJ jSgX Dy h) (D : d_X8_at_r57_c0d a1.toInt (vw h) = dr) (hQ : ∀ (v : Int32) hx9, 0 ≤ v.toInt ∧ v.toInt ≤ 146399 → jJ jSgX Dy hx9 → jSm fp_X8_at_r57_c0d h hx9 → dr = v.toInt → vw hx9 = vw h → Q (some (.int v)) hx9) : jC m_X8_at 1 0 0 [.ref 57, .int a1, .int 0] h Q := by
  refine jC.of rfl k_X8_at rfl ?_
  have Sm := jSm_rf fp_X8_at_r57_c0d h
  show jX m_X8_at 1 0 0 0 [(0, .ref 57), (1, .int a1), (2, .int 0)] [] _ 0 0 _
  unfold d_X8_at_r57_c0d at D
  have EV : vw h = vw h := rfl
  refine x_iloadn (x := a1) rfl rfl ?_
  refine x_iflt (tgt := 24) rfl rfl (ti_lt rfl jk_0 (br_f (by omega) ?_))
  refine x_iloadn (x := a1) rfl rfl ?_
  refine x_aloadn (x := 57) rfl rfl ?_
  refine z_getI (N := 4) 8 3 rfl f_8_7 rfl J rfl sg_57_3_4_1_0_1 (fun v1 qv1 ev1 => ?_)
  try rw [vrf qv1] at D
  refine x_icge (tgt := 24) rfl rfl (ti_ge rfl rfl ⟨fun c2 => ?_, fun c2 => ?_⟩)
  ·
    rw [if_pos (by omega)] at D
    exact jX.sub jsb_n (ct_X8_at_r57_c0d_24 hD hQ  h J Sm D EV)
  ·
    rw [if_neg (by omega)] at D
    refine x_iloadn (x := 0) rfl rfl ?_
    refine x_iflt (tgt := 24) rfl rfl (ti_lt jk_0 jk_0 (br_f (by omega) ?_))
    refine x_iloadn (x := 0) rfl rfl ?_
    refine x_aloadn (x := 57) rfl rfl ?_
    refine z_getC (N := 4) (v := 4) 8 0 rfl f_8_19 rfl J rfl sg_57_0_1_1_0_1 jk_4 ?_
    refine x_iclt (tgt := 26) rfl rfl (ti_lt jk_0 jk_4 (br_t (by omega) ?_))
    refine x_aloadn (x := 57) rfl rfl ?_
    refine z_getR (N := 4) (b := 58) 8 2 rfl f_8_25 rfl J rfl 7298 ⟨rfl, rfl⟩ rfl ?_
    refine x_iloadn (x := a1) rfl rfl ?_
    refine x_aloadn (x := 57) rfl rfl ?_
    refine z_getC (N := 4) (v := 4) 8 0 rfl f_8_19 rfl J rfl sg_57_0_1_1_0_1 jk_4 ?_
    refine z_imul rfl rfl jk_4 (by omega) (fun v3 ev3 => ?_)
    refine x_iloadn (x := 0) rfl rfl ?_
    refine z_iadd rfl rfl jk_0 (by omega) (fun v4 ev4 => ?_)
    refine z_iald (N := 400) rfl J rfl sg_58_0_400_4_0_1 rfl (by omega) (fun v5 qv5 ev5 => ?_)
    try rw [vrd qv5 (show ((a1.toInt * 4) + 0) = v4.toInt from by omega)] at D
    refine x_iret rfl rfl ?_
    exact hQ _ _ (jr_of rfl (by omega)) J Sm (D.symm.trans (show v5.toInt = v5.toInt from by omega)) EV
def fp_X8_at_r57_c1d : jFp := []
set_option maxRecDepth 100000 in
set_option maxHeartbeats 4000000 in
theorem ct_X8_at_r57_c1d_24 {Dy : jH → Prop} {h0 : jH} {Q : Option Value → jH → Prop} {dr : Int} (hD : jDk Dy) (hQ : ∀ (v : Int32) hx9, 0 ≤ v.toInt ∧ v.toInt ≤ 399 → jJ jSgX Dy hx9 → jSm fp_X8_at_r57_c1d h0 hx9 → dr = v.toInt → vw hx9 = vw h0 → Q (some (.int v)) hx9) : ∀ (h : jH), jJ jSgX Dy h → jSm fp_X8_at_r57_c1d h0 h → d_X8_at_r57_c1d_24  (vw h) = dr → vw h = vw h0 → jX m_X8_at 1 0 0 24 [] [] h 0 0 Q := by
  intro  h    J Sm D EV
  unfold d_X8_at_r57_c1d_24 at D
  refine x_iconst (v := 0) rfl ki_0 ?_
  refine x_iret rfl rfl ?_
  exact hQ _ _ (jr_of jk_0 (by omega)) J Sm (D.symm.trans (show 0 = (0 : Int32).toInt from by have := jk_0; omega)) EV
set_option maxRecDepth 100000 in
set_option maxHeartbeats 4000000 in
theorem sf_X8_at_r57_c1d {Dy : jH → Prop} {h : jH} {Q : Option Value → jH → Prop} {dr : Int} {a1 : Int32} (y1 : 0 ≤ a1.toInt ∧ a1.toInt ≤ 99) (hD : jDk Dy) (J : jJ jSgX Dy h) (D : d_X8_at_r57_c1d a1.toInt (vw h) = dr) (hQ : ∀ (v : Int32) hx9, 0 ≤ v.toInt ∧ v.toInt ≤ 399 → jJ jSgX Dy hx9 → jSm fp_X8_at_r57_c1d h hx9 → dr = v.toInt → vw hx9 = vw h → Q (some (.int v)) hx9) : jC m_X8_at 1 0 0 [.ref 57, .int a1, .int 1] h Q := by
  refine jC.of rfl k_X8_at rfl ?_
  have Sm := jSm_rf fp_X8_at_r57_c1d h
  show jX m_X8_at 1 0 0 0 [(0, .ref 57), (1, .int a1), (2, .int 1)] [] _ 0 0 _
  unfold d_X8_at_r57_c1d at D
  have EV : vw h = vw h := rfl
  refine x_iloadn (x := a1) rfl rfl ?_
  refine x_iflt (tgt := 24) rfl rfl (ti_lt rfl jk_0 (br_f (by omega) ?_))
  refine x_iloadn (x := a1) rfl rfl ?_
  refine x_aloadn (x := 57) rfl rfl ?_
  refine z_getI (N := 4) 8 3 rfl f_8_7 rfl J rfl sg_57_3_4_1_0_1 (fun v1 qv1 ev1 => ?_)
  try rw [vrf qv1] at D
  refine x_icge (tgt := 24) rfl rfl (ti_ge rfl rfl ⟨fun c2 => ?_, fun c2 => ?_⟩)
  ·
    rw [if_pos (by omega)] at D
    exact jX.sub jsb_n (ct_X8_at_r57_c1d_24 hD hQ  h J Sm D EV)
  ·
    rw [if_neg (by omega)] at D
    refine x_iloadn (x := 1) rfl rfl ?_
    refine x_iflt (tgt := 24) rfl rfl (ti_lt jk_1 jk_0 (br_f (by omega) ?_))
    refine x_iloadn (x := 1) rfl rfl ?_
    refine x_aloadn (x := 57) rfl rfl ?_
    refine z_getC (N := 4) (v := 4) 8 0 rfl f_8_19 rfl J rfl sg_57_0_1_1_0_1 jk_4 ?_
    refine x_iclt (tgt := 26) rfl rfl (ti_lt jk_1 jk_4 (br_t (by omega) ?_))
    refine x_aloadn (x := 57) rfl rfl ?_
    refine z_getR (N := 4) (b := 58) 8 2 rfl f_8_25 rfl J rfl 7298 ⟨rfl, rfl⟩ rfl ?_
    refine x_iloadn (x := a1) rfl rfl ?_
    refine x_aloadn (x := 57) rfl rfl ?_
    refine z_getC (N := 4) (v := 4) 8 0 rfl f_8_19 rfl J rfl sg_57_0_1_1_0_1 jk_4 ?_
    refine z_imul rfl rfl jk_4 (by omega) (fun v3 ev3 => ?_)
    refine x_iloadn (x := 1) rfl rfl ?_
    refine z_iadd rfl rfl jk_1 (by omega) (fun v4 ev4 => ?_)
    refine z_iald (N := 400) rfl J rfl sg_58_0_400_4_1_2 rfl (by omega) (fun v5 qv5 ev5 => ?_)
    try rw [vrd qv5 (show ((a1.toInt * 4) + 1) = v4.toInt from by omega)] at D
    refine x_iret rfl rfl ?_
    exact hQ _ _ (jr_of rfl (by omega)) J Sm (D.symm.trans (show v5.toInt = v5.toInt from by omega)) EV
def fp_X8_at_r57_c2d : jFp := []
set_option maxRecDepth 100000 in
set_option maxHeartbeats 4000000 in
theorem ct_X8_at_r57_c2d_24 {Dy : jH → Prop} {h0 : jH} {Q : Option Value → jH → Prop} {dr : Int} (hD : jDk Dy) (hQ : ∀ (v : Int32) hx9, 0 ≤ v.toInt ∧ v.toInt ≤ 3 → jJ jSgX Dy hx9 → jSm fp_X8_at_r57_c2d h0 hx9 → dr = v.toInt → vw hx9 = vw h0 → Q (some (.int v)) hx9) : ∀ (h : jH), jJ jSgX Dy h → jSm fp_X8_at_r57_c2d h0 h → d_X8_at_r57_c2d_24  (vw h) = dr → vw h = vw h0 → jX m_X8_at 1 0 0 24 [] [] h 0 0 Q := by
  intro  h    J Sm D EV
  unfold d_X8_at_r57_c2d_24 at D
  refine x_iconst (v := 0) rfl ki_0 ?_
  refine x_iret rfl rfl ?_
  exact hQ _ _ (jr_of jk_0 (by omega)) J Sm (D.symm.trans (show 0 = (0 : Int32).toInt from by have := jk_0; omega)) EV
set_option maxRecDepth 100000 in
set_option maxHeartbeats 4000000 in
theorem sf_X8_at_r57_c2d {Dy : jH → Prop} {h : jH} {Q : Option Value → jH → Prop} {dr : Int} {a1 : Int32} (y1 : 0 ≤ a1.toInt ∧ a1.toInt ≤ 99) (hD : jDk Dy) (J : jJ jSgX Dy h) (D : d_X8_at_r57_c2d a1.toInt (vw h) = dr) (hQ : ∀ (v : Int32) hx9, 0 ≤ v.toInt ∧ v.toInt ≤ 3 → jJ jSgX Dy hx9 → jSm fp_X8_at_r57_c2d h hx9 → dr = v.toInt → vw hx9 = vw h → Q (some (.int v)) hx9) : jC m_X8_at 1 0 0 [.ref 57, .int a1, .int 2] h Q := by
  refine jC.of rfl k_X8_at rfl ?_
  have Sm := jSm_rf fp_X8_at_r57_c2d h
  show jX m_X8_at 1 0 0 0 [(0, .ref 57), (1, .int a1), (2, .int 2)] [] _ 0 0 _
  unfold d_X8_at_r57_c2d at D
  have EV : vw h = vw h := rfl
  refine x_iloadn (x := a1) rfl rfl ?_
  refine x_iflt (tgt := 24) rfl rfl (ti_lt rfl jk_0 (br_f (by omega) ?_))
  refine x_iloadn (x := a1) rfl rfl ?_
  refine x_aloadn (x := 57) rfl rfl ?_
  refine z_getI (N := 4) 8 3 rfl f_8_7 rfl J rfl sg_57_3_4_1_0_1 (fun v1 qv1 ev1 => ?_)
  try rw [vrf qv1] at D
  refine x_icge (tgt := 24) rfl rfl (ti_ge rfl rfl ⟨fun c2 => ?_, fun c2 => ?_⟩)
  ·
    rw [if_pos (by omega)] at D
    exact jX.sub jsb_n (ct_X8_at_r57_c2d_24 hD hQ  h J Sm D EV)
  ·
    rw [if_neg (by omega)] at D
    refine x_iloadn (x := 2) rfl rfl ?_
    refine x_iflt (tgt := 24) rfl rfl (ti_lt jk_2 jk_0 (br_f (by omega) ?_))
    refine x_iloadn (x := 2) rfl rfl ?_
    refine x_aloadn (x := 57) rfl rfl ?_
    refine z_getC (N := 4) (v := 4) 8 0 rfl f_8_19 rfl J rfl sg_57_0_1_1_0_1 jk_4 ?_
    refine x_iclt (tgt := 26) rfl rfl (ti_lt jk_2 jk_4 (br_t (by omega) ?_))
    refine x_aloadn (x := 57) rfl rfl ?_
    refine z_getR (N := 4) (b := 58) 8 2 rfl f_8_25 rfl J rfl 7298 ⟨rfl, rfl⟩ rfl ?_
    refine x_iloadn (x := a1) rfl rfl ?_
    refine x_aloadn (x := 57) rfl rfl ?_
    refine z_getC (N := 4) (v := 4) 8 0 rfl f_8_19 rfl J rfl sg_57_0_1_1_0_1 jk_4 ?_
    refine z_imul rfl rfl jk_4 (by omega) (fun v3 ev3 => ?_)
    refine x_iloadn (x := 2) rfl rfl ?_
    refine z_iadd rfl rfl jk_2 (by omega) (fun v4 ev4 => ?_)
    refine z_iald (N := 400) rfl J rfl sg_58_0_400_4_2_3 rfl (by omega) (fun v5 qv5 ev5 => ?_)
    try rw [vrd qv5 (show ((a1.toInt * 4) + 2) = v4.toInt from by omega)] at D
    refine x_iret rfl rfl ?_
    exact hQ _ _ (jr_of rfl (by omega)) J Sm (D.symm.trans (show v5.toInt = v5.toInt from by omega)) EV
def fp_X8_at_r59_c0d : jFp := []
set_option maxRecDepth 100000 in
set_option maxHeartbeats 4000000 in
theorem ct_X8_at_r59_c0d_24 {Dy : jH → Prop} {h0 : jH} {Q : Option Value → jH → Prop} {dr : Int} (hD : jDk Dy) (hQ : ∀ (v : Int32) hx9, 0 ≤ v.toInt ∧ v.toInt ≤ 146399 → jJ jSgX Dy hx9 → jSm fp_X8_at_r59_c0d h0 hx9 → dr = v.toInt → vw hx9 = vw h0 → Q (some (.int v)) hx9) : ∀ (h : jH), jJ jSgX Dy h → jSm fp_X8_at_r59_c0d h0 h → d_X8_at_r59_c0d_24  (vw h) = dr → vw h = vw h0 → jX m_X8_at 1 0 0 24 [] [] h 0 0 Q := by
  intro  h    J Sm D EV
  unfold d_X8_at_r59_c0d_24 at D
  refine x_iconst (v := 0) rfl ki_0 ?_
  refine x_iret rfl rfl ?_
  exact hQ _ _ (jr_of jk_0 (by omega)) J Sm (D.symm.trans (show 0 = (0 : Int32).toInt from by have := jk_0; omega)) EV
set_option maxRecDepth 100000 in
set_option maxHeartbeats 4000000 in
theorem sf_X8_at_r59_c0d {Dy : jH → Prop} {h : jH} {Q : Option Value → jH → Prop} {dr : Int} {a1 : Int32} (y1 : 0 ≤ a1.toInt ∧ a1.toInt ≤ 39) (hD : jDk Dy) (J : jJ jSgX Dy h) (D : d_X8_at_r59_c0d a1.toInt (vw h) = dr) (hQ : ∀ (v : Int32) hx9, 0 ≤ v.toInt ∧ v.toInt ≤ 146399 → jJ jSgX Dy hx9 → jSm fp_X8_at_r59_c0d h hx9 → dr = v.toInt → vw hx9 = vw h → Q (some (.int v)) hx9) : jC m_X8_at 1 0 0 [.ref 59, .int a1, .int 0] h Q := by
  refine jC.of rfl k_X8_at rfl ?_
  have Sm := jSm_rf fp_X8_at_r59_c0d h
  show jX m_X8_at 1 0 0 0 [(0, .ref 59), (1, .int a1), (2, .int 0)] [] _ 0 0 _
  unfold d_X8_at_r59_c0d at D
  have EV : vw h = vw h := rfl
  refine x_iloadn (x := a1) rfl rfl ?_
  refine x_iflt (tgt := 24) rfl rfl (ti_lt rfl jk_0 (br_f (by omega) ?_))
  refine x_iloadn (x := a1) rfl rfl ?_
  refine x_aloadn (x := 59) rfl rfl ?_
  refine z_getI (N := 4) 8 3 rfl f_8_7 rfl J rfl sg_59_3_4_1_0_1 (fun v1 qv1 ev1 => ?_)
  try rw [vrf qv1] at D
  refine x_icge (tgt := 24) rfl rfl (ti_ge rfl rfl ⟨fun c2 => ?_, fun c2 => ?_⟩)
  ·
    rw [if_pos (by omega)] at D
    exact jX.sub jsb_n (ct_X8_at_r59_c0d_24 hD hQ  h J Sm D EV)
  ·
    rw [if_neg (by omega)] at D
    refine x_iloadn (x := 0) rfl rfl ?_
    refine x_iflt (tgt := 24) rfl rfl (ti_lt jk_0 jk_0 (br_f (by omega) ?_))
    refine x_iloadn (x := 0) rfl rfl ?_
    refine x_aloadn (x := 59) rfl rfl ?_
    refine z_getC (N := 4) (v := 4) 8 0 rfl f_8_19 rfl J rfl sg_59_0_1_1_0_1 jk_4 ?_
    refine x_iclt (tgt := 26) rfl rfl (ti_lt jk_0 jk_4 (br_t (by omega) ?_))
    refine x_aloadn (x := 59) rfl rfl ?_
    refine z_getR (N := 4) (b := 60) 8 2 rfl f_8_25 rfl J rfl 7554 ⟨rfl, rfl⟩ rfl ?_
    refine x_iloadn (x := a1) rfl rfl ?_
    refine x_aloadn (x := 59) rfl rfl ?_
    refine z_getC (N := 4) (v := 4) 8 0 rfl f_8_19 rfl J rfl sg_59_0_1_1_0_1 jk_4 ?_
    refine z_imul rfl rfl jk_4 (by omega) (fun v3 ev3 => ?_)
    refine x_iloadn (x := 0) rfl rfl ?_
    refine z_iadd rfl rfl jk_0 (by omega) (fun v4 ev4 => ?_)
    refine z_iald (N := 160) rfl J rfl sg_60_0_160_4_0_1 rfl (by omega) (fun v5 qv5 ev5 => ?_)
    try rw [vrd qv5 (show ((a1.toInt * 4) + 0) = v4.toInt from by omega)] at D
    refine x_iret rfl rfl ?_
    exact hQ _ _ (jr_of rfl (by omega)) J Sm (D.symm.trans (show v5.toInt = v5.toInt from by omega)) EV
def fp_X11_ownYear_r31d : jFp := []
set_option maxRecDepth 100000 in
set_option maxHeartbeats 4000000 in
theorem ct_X11_ownYear_r31d_90 {Dy : jH → Prop} {h0 : jH} {Q : Option Value → jH → Prop} {dr : Int} (hD : jDk Dy) (hQ : ∀ (v : Int32) hx9, jJ jSgX Dy hx9 → jSm fp_X11_ownYear_r31d h0 hx9 → dr = v.toInt → vw hx9 = vw h0 → Q (some (.int v)) hx9) : ∀ (l4 : Int32) (h : jH), jJ jSgX Dy h → jSm fp_X11_ownYear_r31d h0 h → d_X11_ownYear_r31d_90  l4.toInt (vw h) = dr → vw h = vw h0 → jX m_X11_ownYear 3 0 0 90 [(4, .int l4)] [] h 0 0 Q := by
  intro l4 h    J Sm D EV
  have el4 := jfull l4
  unfold d_X11_ownYear_r31d_90 at D
  refine x_iload (x := l4) rfl rfl ?_
  refine x_iret rfl rfl ?_
  exact hQ _ _ J Sm (D.symm.trans (show l4.toInt = l4.toInt from by omega)) EV
set_option maxRecDepth 100000 in
set_option maxHeartbeats 4000000 in
theorem ct_X11_ownYear_r31d_43 {Dy : jH → Prop} {h0 : jH} {Q : Option Value → jH → Prop} {dr : Int} (hD : jDk Dy) (hQ : ∀ (v : Int32) hx9, jJ jSgX Dy hx9 → jSm fp_X11_ownYear_r31d h0 hx9 → dr = v.toInt → vw hx9 = vw h0 → Q (some (.int v)) hx9) : ∀ r : Nat, ∀ (l2 : Int32) (l3 : Int32) (l4 : Int32) (l5 : Int32) (h : jH), 41 - l5.toInt < (r : Int) → 0 ≤ l2.toInt ∧ l2.toInt ≤ 3 → 0 ≤ l3.toInt ∧ l3.toInt ≤ 146399 → 0 ≤ l5.toInt ∧ l5.toInt ≤ 41 → jJ jSgX Dy h → jSm fp_X11_ownYear_r31d h0 h → d_X11_ownYear_r31d_43 r l2.toInt l3.toInt l4.toInt l5.toInt (vw h) = dr → vw h = vw h0 → jX m_X11_ownYear 3 0 0 43 [(0, .ref 31), (2, .int l2), (3, .int l3), (4, .int l4), (5, .int l5)] [] h 0 0 Q := by
  intro r
  induction r with
  | zero =>
    intro l2 l3 l4 l5 h hm y0 y1 y2   J Sm D EV
    exfalso
    have el4 := jfull l4
    omega
  | succ r ih =>
    intro l2 l3 l4 l5 h hm y0 y1 y2   J Sm D EV
    have el4 := jfull l4
    rw [d_X11_ownYear_r31d_43.eq_2] at D
    refine x_iload (x := l5) rfl rfl ?_
    refine x_aloadn (x := 31) rfl rfl ?_
    refine z_getR (N := 13) (b := 32) 11 0 rfl f_11_10 rfl J rfl 3968 ⟨rfl, rfl⟩ rfl ?_
    refine z_getR (N := 20) (b := 59) 1 13 rfl f_11_482 rfl J rfl 4109 ⟨rfl, rfl⟩ rfl ?_
    refine z_getI (N := 4) 8 3 rfl f_11_142 rfl J rfl sg_59_3_4_1_0_1 (fun v1 qv1 ev1 => ?_)
    try rw [vrf qv1] at D
    refine x_icgt (tgt := 102) rfl rfl (ti_gt rfl rfl ⟨fun c2 => ?_, fun c2 => ?_⟩)
    ·
      rw [if_pos (by omega)] at D
      refine x_iload (x := l4) rfl rfl ?_
      refine x_iret rfl rfl ?_
      exact hQ _ _ J Sm (D.symm.trans (show l4.toInt = l4.toInt from by omega)) EV
    ·
      rw [if_neg (by omega)] at D
      refine x_aloadn (x := 31) rfl rfl ?_
      refine x_iloadn (x := l2) rfl rfl ?_
      refine x_iload (x := l4) rfl rfl ?_
      refine x_inv (N := m_X11_closing) (As := [.int l2, .int l4]) (b := 31) (st := []) (dx9 := 2) (mc := 0) (ms := 0) (host := "") 11 rfl t_X11_closing ⟨Or.inl q_11_567, i_X11_closing.1, i_X11_closing.2⟩ ⟨by decide, rfl⟩ (congrArg Prod.fst (J.1.1 31 (11, 13) rfl)) rfl (by decide) rfl rfl ⟨by decide, by decide⟩ (sf_X11_closing_r31d (jr_of rfl (by omega)) hD J rfl  (fun v6 h ev6 J S3 X4 X5 => ?_))
      have Sm := jSm_tr rfl Sm S3
      try rw [X4] at D
      try rw [← X5] at D
      have EV := X5.trans EV
      show jX m_X11_ownYear 3 0 0 65 [(0, .ref 31), (2, .int l2), (3, .int l3), (4, .int l4), (5, .int l5)] [.int v6] _ 0 0 _
      refine x_istore (lsx9 := [(6, .int v6), (0, .ref 31), (2, .int l2), (3, .int l3), (4, .int l4), (5, .int l5)]) rfl rfl rfl ?_
      refine x_iload (x := v6) rfl rfl ?_
      refine x_iconst (v := (-1)) rfl ki_m1 ?_
      refine x_iceq (tgt := 90) rfl rfl (ti_eq rfl jk_m1 ⟨fun c7 => ?_, fun c7 => ?_⟩)
      ·
        rw [if_pos (by omega)] at D
        exact jX.sub (jsb_c rfl jsb_n) (ct_X11_ownYear_r31d_90 hD hQ  l4 h J Sm D EV)
      ·
        rw [if_neg (by omega)] at D
        refine x_aloadn (x := 31) rfl rfl ?_
        refine z_getR (N := 13) (b := 32) 11 0 rfl f_11_10 rfl J rfl 3968 ⟨rfl, rfl⟩ rfl ?_
        refine z_getR (N := 20) (b := 59) 1 13 rfl f_11_482 rfl J rfl 4109 ⟨rfl, rfl⟩ rfl ?_
        refine x_iload (x := v6) rfl rfl ?_
        refine x_iconst (v := 0) rfl ki_0 ?_
        refine x_inv (N := m_X8_at) (As := [.int v6, .int 0]) (b := 59) (st := []) (dx9 := 1) (mc := 0) (ms := 0) (host := "") 8 rfl t_X8_at ⟨Or.inl q_11_171, i_X8_at.1, i_X8_at.2⟩ ⟨by decide, rfl⟩ (congrArg Prod.fst (J.1.1 59 (8, 4) rfl)) rfl (by decide) rfl rfl ⟨by decide, by decide⟩ (sf_X8_at_r59_c0d (jr_of rfl (by omega)) hD J rfl  (fun v11 h ev11 J S8 X9 X10 => ?_))
        have Sm := jSm_tr rfl Sm S8
        try rw [X9] at D
        try rw [← X10] at D
        have EV := X10.trans EV
        show jX m_X11_ownYear 3 0 0 86 [(6, .int v6), (0, .ref 31), (2, .int l2), (3, .int l3), (4, .int l4), (5, .int l5)] [.int v11] _ 0 0 _
        refine x_iloadn (x := l3) rfl rfl ?_
        refine x_iclt (tgt := 93) rfl rfl (ti_lt rfl rfl ⟨fun c12 => ?_, fun c12 => ?_⟩)
        ·
          rw [if_pos (by omega)] at D
          refine z_iincW (x := l4) (lsx9 := fun v13 => [(4, .int v13), (6, .int v6), (0, .ref 31), (2, .int l2), (3, .int l3), (5, .int l5)]) rfl rfl rfl jko_1 rfl (fun _ => rfl) (fun v13 ev13 => ?_)
          have fv13 := jfull v13
          try rw [← ev13] at D
          refine z_iinc (x := l5) (lsx9 := fun v14 => [(5, .int v14), (4, .int v13), (6, .int v6), (0, .ref 31), (2, .int l2), (3, .int l3)]) rfl rfl rfl jko_1 (by omega) rfl (fun _ => rfl) (fun v14 ev14 => ?_)
          refine x_goto (tgt := 43) rfl rfl ?_
          try rw [show (l5.toInt + 1) = v14.toInt from by omega] at D
          exact jX.sub (jsb_c rfl (jsb_c rfl (jsb_c rfl (jsb_c rfl (jsb_c rfl jsb_n))))) (ih l2 l3 v13 v14 h (by omega) (jr_of rfl (by omega)) (jr_of rfl (by omega)) (jr_of rfl (by omega)) J Sm D EV)
        ·
          rw [if_neg (by omega)] at D
          exact jX.sub (jsb_c rfl jsb_n) (ct_X11_ownYear_r31d_90 hD hQ  l4 h J Sm D EV)
set_option maxRecDepth 100000 in
set_option maxHeartbeats 4000000 in
theorem sf_X11_ownYear_r31d {Dy : jH → Prop} {h : jH} {Q : Option Value → jH → Prop} {dr : Int} {a1 : Int32} (y1 : 0 ≤ a1.toInt ∧ a1.toInt ≤ 99) (hD : jDk Dy) (J : jJ jSgX Dy h) (D : d_X11_ownYear_r31d a1.toInt (vw h) = dr) (hQ : ∀ (v : Int32) hx9, jJ jSgX Dy hx9 → jSm fp_X11_ownYear_r31d h hx9 → dr = v.toInt → vw hx9 = vw h → Q (some (.int v)) hx9) : jC m_X11_ownYear 3 0 0 [.ref 31, .int a1] h Q := by
  refine jC.of rfl k_X11_ownYear rfl ?_
  have Sm := jSm_rf fp_X11_ownYear_r31d h
  show jX m_X11_ownYear 3 0 0 0 [(0, .ref 31), (1, .int a1)] [] _ 0 0 _
  unfold d_X11_ownYear_r31d at D
  have EV : vw h = vw h := rfl
  refine x_aloadn (x := 31) rfl rfl ?_
  refine z_getR (N := 13) (b := 32) 11 0 rfl f_11_10 rfl J rfl 3968 ⟨rfl, rfl⟩ rfl ?_
  refine z_getR (N := 20) (b := 57) 1 12 rfl f_11_473 rfl J rfl 4108 ⟨rfl, rfl⟩ rfl ?_
  refine x_iloadn (x := a1) rfl rfl ?_
  refine x_iconst (v := 2) rfl ki_2 ?_
  refine x_inv (N := m_X8_at) (As := [.int a1, .int 2]) (b := 57) (st := []) (dx9 := 1) (mc := 0) (ms := 0) (host := "") 8 rfl t_X8_at ⟨Or.inl q_11_171, i_X8_at.1, i_X8_at.2⟩ ⟨by decide, rfl⟩ (congrArg Prod.fst (J.1.1 57 (8, 4) rfl)) rfl (by decide) rfl rfl ⟨by decide, by decide⟩ (sf_X8_at_r57_c2d (jr_of rfl (by omega)) hD J rfl  (fun v4 h ev4 J S1 X2 X3 => ?_))
  have Sm := jSm_tr rfl Sm S1
  try rw [X2] at D
  try rw [← X3] at D
  have EV := X3.trans EV
  show jX m_X11_ownYear 3 0 0 12 [(0, .ref 31), (1, .int a1)] [.int v4] _ 0 0 _
  refine x_istoren (lsx9 := [(2, .int v4), (0, .ref 31), (1, .int a1)]) rfl rfl rfl ?_
  refine x_aloadn (x := 31) rfl rfl ?_
  refine z_getR (N := 13) (b := 32) 11 0 rfl f_11_10 rfl J rfl 3968 ⟨rfl, rfl⟩ rfl ?_
  refine z_getR (N := 20) (b := 57) 1 12 rfl f_11_473 rfl J rfl 4108 ⟨rfl, rfl⟩ rfl ?_
  refine x_iloadn (x := a1) rfl rfl ?_
  refine x_iconst (v := 0) rfl ki_0 ?_
  refine x_inv (N := m_X8_at) (As := [.int a1, .int 0]) (b := 57) (st := []) (dx9 := 1) (mc := 0) (ms := 0) (host := "") 8 rfl t_X8_at ⟨Or.inl q_11_171, i_X8_at.1, i_X8_at.2⟩ ⟨by decide, rfl⟩ (congrArg Prod.fst (J.1.1 57 (8, 4) rfl)) rfl (by decide) rfl rfl ⟨by decide, by decide⟩ (sf_X8_at_r57_c0d (jr_of rfl (by omega)) hD J rfl  (fun v8 h ev8 J S5 X6 X7 => ?_))
  have Sm := jSm_tr rfl Sm S5
  try rw [X6] at D
  try rw [← X7] at D
  have EV := X7.trans EV
  show jX m_X11_ownYear 3 0 0 25 [(2, .int v4), (0, .ref 31), (1, .int a1)] [.int v8] _ 0 0 _
  refine x_istoren (lsx9 := [(3, .int v8), (2, .int v4), (0, .ref 31), (1, .int a1)]) rfl rfl rfl ?_
  refine x_aloadn (x := 31) rfl rfl ?_
  refine z_getR (N := 13) (b := 32) 11 0 rfl f_11_10 rfl J rfl 3968 ⟨rfl, rfl⟩ rfl ?_
  refine z_getR (N := 20) (b := 57) 1 12 rfl f_11_473 rfl J rfl 4108 ⟨rfl, rfl⟩ rfl ?_
  refine x_iloadn (x := a1) rfl rfl ?_
  refine x_iconst (v := 1) rfl ki_1 ?_
  refine x_inv (N := m_X8_at) (As := [.int a1, .int 1]) (b := 57) (st := []) (dx9 := 1) (mc := 0) (ms := 0) (host := "") 8 rfl t_X8_at ⟨Or.inl q_11_171, i_X8_at.1, i_X8_at.2⟩ ⟨by decide, rfl⟩ (congrArg Prod.fst (J.1.1 57 (8, 4) rfl)) rfl (by decide) rfl rfl ⟨by decide, by decide⟩ (sf_X8_at_r57_c1d (jr_of rfl (by omega)) hD J rfl  (fun v12 h ev12 J S9 X10 X11 => ?_))
  have Sm := jSm_tr rfl Sm S9
  try rw [X10] at D
  try rw [← X11] at D
  have EV := X11.trans EV
  show jX m_X11_ownYear 3 0 0 38 [(3, .int v8), (2, .int v4), (0, .ref 31), (1, .int a1)] [.int v12] _ 0 0 _
  refine x_istore (lsx9 := [(4, .int v12), (3, .int v8), (2, .int v4), (0, .ref 31), (1, .int a1)]) rfl rfl rfl ?_
  refine x_iconst (v := 0) rfl ki_0 ?_
  refine x_istore (lsx9 := [(5, .int 0), (4, .int v12), (3, .int v8), (2, .int v4), (0, .ref 31), (1, .int a1)]) rfl rfl rfl ?_
  exact jX.sub (jsb_c rfl (jsb_c rfl (jsb_c rfl (jsb_c rfl (jsb_c rfl jsb_n))))) (ct_X11_ownYear_r31d_43 hD hQ  42 v4 v8 v12 0 h (by have := jk_0; omega) (jr_of rfl (by omega)) (jr_of rfl (by omega)) (jr_of jk_0 (by omega)) J Sm (by rw [jk_0]; exact D) EV)
def fp_X8_at_r57_c3d : jFp := []
set_option maxRecDepth 100000 in
set_option maxHeartbeats 4000000 in
theorem ct_X8_at_r57_c3d_24 {Dy : jH → Prop} {h0 : jH} {Q : Option Value → jH → Prop} {dr : Int} (hD : jDk Dy) (hQ : ∀ (v : Int32) hx9, (-1000000) ≤ v.toInt ∧ v.toInt ≤ 1000000 → jJ jSgX Dy hx9 → jSm fp_X8_at_r57_c3d h0 hx9 → dr = v.toInt → vw hx9 = vw h0 → Q (some (.int v)) hx9) : ∀ (h : jH), jJ jSgX Dy h → jSm fp_X8_at_r57_c3d h0 h → d_X8_at_r57_c3d_24  (vw h) = dr → vw h = vw h0 → jX m_X8_at 1 0 0 24 [] [] h 0 0 Q := by
  intro  h    J Sm D EV
  unfold d_X8_at_r57_c3d_24 at D
  refine x_iconst (v := 0) rfl ki_0 ?_
  refine x_iret rfl rfl ?_
  exact hQ _ _ (jr_of jk_0 (by omega)) J Sm (D.symm.trans (show 0 = (0 : Int32).toInt from by have := jk_0; omega)) EV
set_option maxRecDepth 100000 in
set_option maxHeartbeats 4000000 in
theorem sf_X8_at_r57_c3d {Dy : jH → Prop} {h : jH} {Q : Option Value → jH → Prop} {dr : Int} {a1 : Int32} (y1 : 0 ≤ a1.toInt ∧ a1.toInt ≤ 99) (hD : jDk Dy) (J : jJ jSgX Dy h) (D : d_X8_at_r57_c3d a1.toInt (vw h) = dr) (hQ : ∀ (v : Int32) hx9, (-1000000) ≤ v.toInt ∧ v.toInt ≤ 1000000 → jJ jSgX Dy hx9 → jSm fp_X8_at_r57_c3d h hx9 → dr = v.toInt → vw hx9 = vw h → Q (some (.int v)) hx9) : jC m_X8_at 1 0 0 [.ref 57, .int a1, .int 3] h Q := by
  refine jC.of rfl k_X8_at rfl ?_
  have Sm := jSm_rf fp_X8_at_r57_c3d h
  show jX m_X8_at 1 0 0 0 [(0, .ref 57), (1, .int a1), (2, .int 3)] [] _ 0 0 _
  unfold d_X8_at_r57_c3d at D
  have EV : vw h = vw h := rfl
  refine x_iloadn (x := a1) rfl rfl ?_
  refine x_iflt (tgt := 24) rfl rfl (ti_lt rfl jk_0 (br_f (by omega) ?_))
  refine x_iloadn (x := a1) rfl rfl ?_
  refine x_aloadn (x := 57) rfl rfl ?_
  refine z_getI (N := 4) 8 3 rfl f_8_7 rfl J rfl sg_57_3_4_1_0_1 (fun v1 qv1 ev1 => ?_)
  try rw [vrf qv1] at D
  refine x_icge (tgt := 24) rfl rfl (ti_ge rfl rfl ⟨fun c2 => ?_, fun c2 => ?_⟩)
  ·
    rw [if_pos (by omega)] at D
    exact jX.sub jsb_n (ct_X8_at_r57_c3d_24 hD hQ  h J Sm D EV)
  ·
    rw [if_neg (by omega)] at D
    refine x_iloadn (x := 3) rfl rfl ?_
    refine x_iflt (tgt := 24) rfl rfl (ti_lt jk_3 jk_0 (br_f (by omega) ?_))
    refine x_iloadn (x := 3) rfl rfl ?_
    refine x_aloadn (x := 57) rfl rfl ?_
    refine z_getC (N := 4) (v := 4) 8 0 rfl f_8_19 rfl J rfl sg_57_0_1_1_0_1 jk_4 ?_
    refine x_iclt (tgt := 26) rfl rfl (ti_lt jk_3 jk_4 (br_t (by omega) ?_))
    refine x_aloadn (x := 57) rfl rfl ?_
    refine z_getR (N := 4) (b := 58) 8 2 rfl f_8_25 rfl J rfl 7298 ⟨rfl, rfl⟩ rfl ?_
    refine x_iloadn (x := a1) rfl rfl ?_
    refine x_aloadn (x := 57) rfl rfl ?_
    refine z_getC (N := 4) (v := 4) 8 0 rfl f_8_19 rfl J rfl sg_57_0_1_1_0_1 jk_4 ?_
    refine z_imul rfl rfl jk_4 (by omega) (fun v3 ev3 => ?_)
    refine x_iloadn (x := 3) rfl rfl ?_
    refine z_iadd rfl rfl jk_3 (by omega) (fun v4 ev4 => ?_)
    refine z_iald (N := 400) rfl J rfl sg_58_0_400_4_3_4 rfl (by omega) (fun v5 qv5 ev5 => ?_)
    try rw [vrd qv5 (show ((a1.toInt * 4) + 3) = v4.toInt from by omega)] at D
    refine x_iret rfl rfl ?_
    exact hQ _ _ (jr_of rfl (by omega)) J Sm (D.symm.trans (show v5.toInt = v5.toInt from by omega)) EV
def fp_X8_at_r59_c3d : jFp := []
set_option maxRecDepth 100000 in
set_option maxHeartbeats 4000000 in
theorem ct_X8_at_r59_c3d_24 {Dy : jH → Prop} {h0 : jH} {Q : Option Value → jH → Prop} {dr : Int} (hD : jDk Dy) (hQ : ∀ (v : Int32) hx9, jJ jSgX Dy hx9 → jSm fp_X8_at_r59_c3d h0 hx9 → dr = v.toInt → vw hx9 = vw h0 → Q (some (.int v)) hx9) : ∀ (h : jH), jJ jSgX Dy h → jSm fp_X8_at_r59_c3d h0 h → d_X8_at_r59_c3d_24  (vw h) = dr → vw h = vw h0 → jX m_X8_at 1 0 0 24 [] [] h 0 0 Q := by
  intro  h    J Sm D EV
  unfold d_X8_at_r59_c3d_24 at D
  refine x_iconst (v := 0) rfl ki_0 ?_
  refine x_iret rfl rfl ?_
  exact hQ _ _ J Sm (D.symm.trans (show 0 = (0 : Int32).toInt from by have := jk_0; omega)) EV
set_option maxRecDepth 100000 in
set_option maxHeartbeats 4000000 in
theorem sf_X8_at_r59_c3d {Dy : jH → Prop} {h : jH} {Q : Option Value → jH → Prop} {dr : Int} {a1 : Int32} (y1 : 0 ≤ a1.toInt ∧ a1.toInt ≤ 39) (hD : jDk Dy) (J : jJ jSgX Dy h) (D : d_X8_at_r59_c3d a1.toInt (vw h) = dr) (hQ : ∀ (v : Int32) hx9, jJ jSgX Dy hx9 → jSm fp_X8_at_r59_c3d h hx9 → dr = v.toInt → vw hx9 = vw h → Q (some (.int v)) hx9) : jC m_X8_at 1 0 0 [.ref 59, .int a1, .int 3] h Q := by
  refine jC.of rfl k_X8_at rfl ?_
  have Sm := jSm_rf fp_X8_at_r59_c3d h
  show jX m_X8_at 1 0 0 0 [(0, .ref 59), (1, .int a1), (2, .int 3)] [] _ 0 0 _
  unfold d_X8_at_r59_c3d at D
  have EV : vw h = vw h := rfl
  refine x_iloadn (x := a1) rfl rfl ?_
  refine x_iflt (tgt := 24) rfl rfl (ti_lt rfl jk_0 (br_f (by omega) ?_))
  refine x_iloadn (x := a1) rfl rfl ?_
  refine x_aloadn (x := 59) rfl rfl ?_
  refine z_getI (N := 4) 8 3 rfl f_8_7 rfl J rfl sg_59_3_4_1_0_1 (fun v1 qv1 ev1 => ?_)
  try rw [vrf qv1] at D
  refine x_icge (tgt := 24) rfl rfl (ti_ge rfl rfl ⟨fun c2 => ?_, fun c2 => ?_⟩)
  ·
    rw [if_pos (by omega)] at D
    exact jX.sub jsb_n (ct_X8_at_r59_c3d_24 hD hQ  h J Sm D EV)
  ·
    rw [if_neg (by omega)] at D
    refine x_iloadn (x := 3) rfl rfl ?_
    refine x_iflt (tgt := 24) rfl rfl (ti_lt jk_3 jk_0 (br_f (by omega) ?_))
    refine x_iloadn (x := 3) rfl rfl ?_
    refine x_aloadn (x := 59) rfl rfl ?_
    refine z_getC (N := 4) (v := 4) 8 0 rfl f_8_19 rfl J rfl sg_59_0_1_1_0_1 jk_4 ?_
    refine x_iclt (tgt := 26) rfl rfl (ti_lt jk_3 jk_4 (br_t (by omega) ?_))
    refine x_aloadn (x := 59) rfl rfl ?_
    refine z_getR (N := 4) (b := 60) 8 2 rfl f_8_25 rfl J rfl 7554 ⟨rfl, rfl⟩ rfl ?_
    refine x_iloadn (x := a1) rfl rfl ?_
    refine x_aloadn (x := 59) rfl rfl ?_
    refine z_getC (N := 4) (v := 4) 8 0 rfl f_8_19 rfl J rfl sg_59_0_1_1_0_1 jk_4 ?_
    refine z_imul rfl rfl jk_4 (by omega) (fun v3 ev3 => ?_)
    refine x_iloadn (x := 3) rfl rfl ?_
    refine z_iadd rfl rfl jk_3 (by omega) (fun v4 ev4 => ?_)
    refine z_iald0 (N := 160) rfl J rfl rfl (by omega) (fun v5 qv5 => ?_)
    have ev5 := jfull v5
    try rw [vrd qv5 (show ((a1.toInt * 4) + 3) = v4.toInt from by omega)] at D
    refine x_iret rfl rfl ?_
    exact hQ _ _ J Sm (D.symm.trans (show v5.toInt = v5.toInt from by omega)) EV
def fp_X8_isKnown_r57d : jFp := []
set_option maxRecDepth 100000 in
set_option maxHeartbeats 4000000 in
theorem ct_X8_isKnown_r57d_300032 {Dy : jH → Prop} {h0 : jH} {Q : Option Value → jH → Prop} {dr : Int} (hD : jDk Dy) (hQ : ∀ (v : Int32) hx9, 0 ≤ v.toInt ∧ v.toInt ≤ 1 → jJ jSgX Dy hx9 → jSm fp_X8_isKnown_r57d h0 hx9 → dr = v.toInt → vw hx9 = vw h0 → Q (some (.int v)) hx9) : ∀ (h : jH), jJ jSgX Dy h → jSm fp_X8_isKnown_r57d h0 h → d_X8_isKnown_r57d_300032  (vw h) = dr → vw h = vw h0 → jX m_X8_isKnown 1 0 0 32 [] [.int 1] h 0 0 Q := by
  intro  h    J Sm D EV
  unfold d_X8_isKnown_r57d_300032 at D
  refine x_zret rfl rfl (by decide) ?_
  exact hQ _ _ (jr_of jk_1 (by omega)) J Sm (D.symm.trans (show 1 = (1 : Int32).toInt from by have := jk_1; omega)) EV
set_option maxRecDepth 100000 in
set_option maxHeartbeats 4000000 in
theorem ct_X8_isKnown_r57d_200032 {Dy : jH → Prop} {h0 : jH} {Q : Option Value → jH → Prop} {dr : Int} (hD : jDk Dy) (hQ : ∀ (v : Int32) hx9, 0 ≤ v.toInt ∧ v.toInt ≤ 1 → jJ jSgX Dy hx9 → jSm fp_X8_isKnown_r57d h0 hx9 → dr = v.toInt → vw hx9 = vw h0 → Q (some (.int v)) hx9) : ∀ (h : jH), jJ jSgX Dy h → jSm fp_X8_isKnown_r57d h0 h → d_X8_isKnown_r57d_200032  (vw h) = dr → vw h = vw h0 → jX m_X8_isKnown 1 0 0 32 [] [.int 0] h 0 0 Q := by
  intro  h    J Sm D EV
  unfold d_X8_isKnown_r57d_200032 at D
  refine x_zret rfl rfl (by decide) ?_
  exact hQ _ _ (jr_of jk_0 (by omega)) J Sm (D.symm.trans (show 0 = (0 : Int32).toInt from by have := jk_0; omega)) EV
set_option maxRecDepth 100000 in
set_option maxHeartbeats 4000000 in
theorem ct_X8_isKnown_r57d_31 {Dy : jH → Prop} {h0 : jH} {Q : Option Value → jH → Prop} {dr : Int} (hD : jDk Dy) (hQ : ∀ (v : Int32) hx9, 0 ≤ v.toInt ∧ v.toInt ≤ 1 → jJ jSgX Dy hx9 → jSm fp_X8_isKnown_r57d h0 hx9 → dr = v.toInt → vw hx9 = vw h0 → Q (some (.int v)) hx9) : ∀ (h : jH), jJ jSgX Dy h → jSm fp_X8_isKnown_r57d h0 h → d_X8_isKnown_r57d_31  (vw h) = dr → vw h = vw h0 → jX m_X8_isKnown 1 0 0 31 [] [] h 0 0 Q := by
  intro  h    J Sm D EV
  unfold d_X8_isKnown_r57d_31 at D
  refine x_iconst (v := 0) rfl ki_0 ?_
  exact jX.sub jsb_n (ct_X8_isKnown_r57d_200032 hD hQ  h J Sm D EV)
set_option maxRecDepth 100000 in
set_option maxHeartbeats 4000000 in
theorem sf_X8_isKnown_r57d {Dy : jH → Prop} {h : jH} {Q : Option Value → jH → Prop} {dr : Int} {a1 : Int32} {a2 : Int32} (y1 : 0 ≤ a1.toInt ∧ a1.toInt ≤ 99) (y2 : 0 ≤ a2.toInt ∧ a2.toInt ≤ 146399) (hD : jDk Dy) (J : jJ jSgX Dy h) (D : d_X8_isKnown_r57d a1.toInt a2.toInt (vw h) = dr) (hQ : ∀ (v : Int32) hx9, 0 ≤ v.toInt ∧ v.toInt ≤ 1 → jJ jSgX Dy hx9 → jSm fp_X8_isKnown_r57d h hx9 → dr = v.toInt → vw hx9 = vw h → Q (some (.int v)) hx9) : jC m_X8_isKnown 1 0 0 [.ref 57, .int a1, .int a2] h Q := by
  refine jC.of rfl k_X8_isKnown rfl ?_
  have Sm := jSm_rf fp_X8_isKnown_r57d h
  show jX m_X8_isKnown 1 0 0 0 [(0, .ref 57), (1, .int a1), (2, .int a2)] [] _ 0 0 _
  unfold d_X8_isKnown_r57d at D
  have EV : vw h = vw h := rfl
  refine x_iloadn (x := a1) rfl rfl ?_
  refine x_iflt (tgt := 31) rfl rfl (ti_lt rfl jk_0 (br_f (by omega) ?_))
  refine x_iloadn (x := a1) rfl rfl ?_
  refine x_aloadn (x := 57) rfl rfl ?_
  refine z_getI (N := 4) 8 3 rfl f_8_7 rfl J rfl sg_57_3_4_1_0_1 (fun v1 qv1 ev1 => ?_)
  try rw [vrf qv1] at D
  refine x_icge (tgt := 31) rfl rfl (ti_ge rfl rfl ⟨fun c2 => ?_, fun c2 => ?_⟩)
  ·
    rw [if_pos (by omega)] at D
    exact jX.sub jsb_n (ct_X8_isKnown_r57d_31 hD hQ  h J Sm D EV)
  ·
    rw [if_neg (by omega)] at D
    refine x_aloadn (x := 57) rfl rfl ?_
    refine z_getR (N := 4) (b := 58) 8 2 rfl f_8_25 rfl J rfl 7298 ⟨rfl, rfl⟩ rfl ?_
    refine x_iloadn (x := a1) rfl rfl ?_
    refine x_aloadn (x := 57) rfl rfl ?_
    refine z_getC (N := 4) (v := 4) 8 0 rfl f_8_19 rfl J rfl sg_57_0_1_1_0_1 jk_4 ?_
    refine z_imul rfl rfl jk_4 (by omega) (fun v3 ev3 => ?_)
    refine z_iald (N := 400) rfl J rfl sg_58_0_400_4_0_1 rfl (by omega) (fun v4 qv4 ev4 => ?_)
    try rw [vrd qv4 (show (a1.toInt * 4) = v3.toInt from by omega)] at D
    refine x_iloadn (x := a2) rfl rfl ?_
    refine x_icgt (tgt := 31) rfl rfl (ti_gt rfl rfl ⟨fun c5 => ?_, fun c5 => ?_⟩)
    ·
      rw [if_pos (by omega)] at D
      exact jX.sub jsb_n (ct_X8_isKnown_r57d_31 hD hQ  h J Sm D EV)
    ·
      rw [if_neg (by omega)] at D
      refine x_iconst (v := 1) rfl ki_1 ?_
      refine x_goto (tgt := 32) rfl rfl ?_
      exact jX.sub jsb_n (ct_X8_isKnown_r57d_300032 hD hQ  h J Sm D EV)
def fp_X11_balanceOf_r31d : jFp := []
set_option maxRecDepth 100000 in
set_option maxHeartbeats 4000000 in
theorem ct_X11_balanceOf_r31d_130 {Dy : jH → Prop} {h0 : jH} {Q : Option Value → jH → Prop} {dr : Int} {K54 : Int → Int → Int → Int → Int → jW → Int} {R54 : Int} (hD : jDk Dy) (hQ : ∀ (v : Int32) hx9, jJ jSgX Dy hx9 → jSm fp_X11_balanceOf_r31d h0 hx9 → dr = v.toInt → vw hx9 = vw h0 → Q (some (.int v)) hx9) (k54 : ∀ (l1 : Int32) (l2 : Int32) (l3 : Int32) (l4 : Int32) (l6 : Int32) (h : jH), 100 - l6.toInt < R54 → 0 ≤ l1.toInt ∧ l1.toInt ≤ 3 → 0 ≤ l2.toInt ∧ l2.toInt ≤ 399 → 0 ≤ l3.toInt ∧ l3.toInt ≤ 146399 → 0 ≤ l6.toInt ∧ l6.toInt ≤ 100 → jJ jSgX Dy h → jSm fp_X11_balanceOf_r31d h0 h → K54 l1.toInt l2.toInt l3.toInt l4.toInt l6.toInt (vw h) = dr → vw h = vw h0 → jX m_X11_balanceOf 4 0 0 54 [(0, .ref 31), (1, .int l1), (2, .int l2), (3, .int l3), (4, .int l4), (6, .int l6)] [] h 0 0 Q) : ∀ (l1 : Int32) (l2 : Int32) (l3 : Int32) (l4 : Int32) (l6 : Int32) (h : jH), 0 ≤ l1.toInt ∧ l1.toInt ≤ 3 → 0 ≤ l2.toInt ∧ l2.toInt ≤ 399 → 0 ≤ l3.toInt ∧ l3.toInt ≤ 146399 → 0 ≤ l6.toInt ∧ l6.toInt ≤ 99 → 100 - l6.toInt ≤ R54 → jJ jSgX Dy h → jSm fp_X11_balanceOf_r31d h0 h → d_X11_balanceOf_r31d_130 K54  l1.toInt l2.toInt l3.toInt l4.toInt l6.toInt (vw h) = dr → vw h = vw h0 → jX m_X11_balanceOf 4 0 0 130 [(0, .ref 31), (1, .int l1), (2, .int l2), (3, .int l3), (4, .int l4), (6, .int l6)] [] h 0 0 Q := by
  intro l1 l2 l3 l4 l6 h y0 y1 y2 y3  m54 J Sm D EV
  have el4 := jfull l4
  unfold d_X11_balanceOf_r31d_130 at D
  refine z_iinc (x := l6) (lsx9 := fun v1 => [(6, .int v1), (0, .ref 31), (1, .int l1), (2, .int l2), (3, .int l3), (4, .int l4)]) rfl rfl rfl jko_1 (by omega) rfl (fun _ => rfl) (fun v1 ev1 => ?_)
  refine x_goto (tgt := 54) rfl rfl ?_
  try rw [show (l6.toInt + 1) = v1.toInt from by omega] at D
  exact jX.sub (jsb_c rfl (jsb_c rfl (jsb_c rfl (jsb_c rfl (jsb_c rfl (jsb_c rfl jsb_n)))))) (k54 l1 l2 l3 l4 v1 h (by omega) (jr_of rfl (by omega)) (jr_of rfl (by omega)) (jr_of rfl (by omega)) (jr_of rfl (by omega)) J Sm D EV)
set_option maxRecDepth 100000 in
set_option maxHeartbeats 4000000 in
theorem ct_X11_balanceOf_r31d_54 {Dy : jH → Prop} {h0 : jH} {Q : Option Value → jH → Prop} {dr : Int} (hD : jDk Dy) (hQ : ∀ (v : Int32) hx9, jJ jSgX Dy hx9 → jSm fp_X11_balanceOf_r31d h0 hx9 → dr = v.toInt → vw hx9 = vw h0 → Q (some (.int v)) hx9) : ∀ r : Nat, ∀ (l1 : Int32) (l2 : Int32) (l3 : Int32) (l4 : Int32) (l6 : Int32) (h : jH), 100 - l6.toInt < (r : Int) → 0 ≤ l1.toInt ∧ l1.toInt ≤ 3 → 0 ≤ l2.toInt ∧ l2.toInt ≤ 399 → 0 ≤ l3.toInt ∧ l3.toInt ≤ 146399 → 0 ≤ l6.toInt ∧ l6.toInt ≤ 100 → jJ jSgX Dy h → jSm fp_X11_balanceOf_r31d h0 h → d_X11_balanceOf_r31d_54 r l1.toInt l2.toInt l3.toInt l4.toInt l6.toInt (vw h) = dr → vw h = vw h0 → jX m_X11_balanceOf 4 0 0 54 [(0, .ref 31), (1, .int l1), (2, .int l2), (3, .int l3), (4, .int l4), (6, .int l6)] [] h 0 0 Q := by
  intro r
  induction r with
  | zero =>
    intro l1 l2 l3 l4 l6 h hm y0 y1 y2 y3   J Sm D EV
    exfalso
    have el4 := jfull l4
    omega
  | succ r ih =>
    intro l1 l2 l3 l4 l6 h hm y0 y1 y2 y3   J Sm D EV
    have el4 := jfull l4
    rw [d_X11_balanceOf_r31d_54.eq_2] at D
    refine x_iload (x := l6) rfl rfl ?_
    refine x_aloadn (x := 31) rfl rfl ?_
    refine z_getR (N := 13) (b := 32) 11 0 rfl f_11_10 rfl J rfl 3968 ⟨rfl, rfl⟩ rfl ?_
    refine z_getR (N := 20) (b := 57) 1 12 rfl f_11_473 rfl J rfl 4108 ⟨rfl, rfl⟩ rfl ?_
    refine z_getI (N := 4) 8 3 rfl f_11_142 rfl J rfl sg_57_3_4_1_0_1 (fun v1 qv1 ev1 => ?_)
    try rw [vrf qv1] at D
    refine x_icge (tgt := 136) rfl rfl (ti_ge rfl rfl ⟨fun c2 => ?_, fun c2 => ?_⟩)
    ·
      rw [if_pos (by omega)] at D
      refine x_iload (x := l4) rfl rfl ?_
      refine x_iret rfl rfl ?_
      exact hQ _ _ J Sm (D.symm.trans (show l4.toInt = l4.toInt from by omega)) EV
    ·
      rw [if_neg (by omega)] at D
      refine x_aloadn (x := 31) rfl rfl ?_
      refine z_getR (N := 13) (b := 32) 11 0 rfl f_11_10 rfl J rfl 3968 ⟨rfl, rfl⟩ rfl ?_
      refine z_getR (N := 20) (b := 57) 1 12 rfl f_11_473 rfl J rfl 4108 ⟨rfl, rfl⟩ rfl ?_
      refine x_iload (x := l6) rfl rfl ?_
      refine x_iconst (v := 2) rfl ki_2 ?_
      refine x_inv (N := m_X8_at) (As := [.int l6, .int 2]) (b := 57) (st := []) (dx9 := 1) (mc := 0) (ms := 0) (host := "") 8 rfl t_X8_at ⟨Or.inl q_11_171, i_X8_at.1, i_X8_at.2⟩ ⟨by decide, rfl⟩ (congrArg Prod.fst (J.1.1 57 (8, 4) rfl)) rfl (by decide) rfl rfl ⟨by decide, by decide⟩ (sf_X8_at_r57_c2d (jr_of rfl (by omega)) hD J rfl  (fun v6 h ev6 J S3 X4 X5 => ?_))
      have Sm := jSm_tr rfl Sm S3
      try rw [X4] at D
      try rw [← X5] at D
      have EV := X5.trans EV
      show jX m_X11_balanceOf 4 0 0 82 [(0, .ref 31), (1, .int l1), (2, .int l2), (3, .int l3), (4, .int l4), (6, .int l6)] [.int v6] _ 0 0 _
      refine x_iloadn (x := l1) rfl rfl ?_
      refine x_icne (tgt := 130) rfl rfl (ti_ne rfl rfl ⟨fun c7 => ?_, fun c7 => ?_⟩)
      ·
        rw [if_neg (by omega)] at D
        exact jX.sub (jsb_c rfl (jsb_c rfl (jsb_c rfl (jsb_c rfl (jsb_c rfl (jsb_c rfl jsb_n)))))) (ct_X11_balanceOf_r31d_130 hD hQ ih l1 l2 l3 l4 l6 h (jr_of rfl (by omega)) (jr_of rfl (by omega)) (jr_of rfl (by omega)) (jr_of rfl (by omega)) (by omega) J Sm D EV)
      ·
        rw [if_pos (by omega)] at D
        refine x_aloadn (x := 31) rfl rfl ?_
        refine z_getR (N := 13) (b := 32) 11 0 rfl f_11_10 rfl J rfl 3968 ⟨rfl, rfl⟩ rfl ?_
        refine z_getR (N := 20) (b := 57) 1 12 rfl f_11_473 rfl J rfl 4108 ⟨rfl, rfl⟩ rfl ?_
        refine x_iload (x := l6) rfl rfl ?_
        refine x_iloadn (x := l3) rfl rfl ?_
        refine x_inv (N := m_X8_isKnown) (As := [.int l6, .int l3]) (b := 57) (st := []) (dx9 := 1) (mc := 0) (ms := 0) (host := "") 8 rfl t_X8_isKnown ⟨Or.inl q_11_440, i_X8_isKnown.1, i_X8_isKnown.2⟩ ⟨by decide, rfl⟩ (congrArg Prod.fst (J.1.1 57 (8, 4) rfl)) rfl (by decide) rfl rfl ⟨by decide, by decide⟩ (sf_X8_isKnown_r57d (jr_of rfl (by omega)) (jr_of rfl (by omega)) hD J rfl  (fun v11 h ev11 J S8 X9 X10 => ?_))
        have Sm := jSm_tr rfl Sm S8
        try rw [X9] at D
        try rw [← X10] at D
        have EV := X10.trans EV
        show jX m_X11_balanceOf 4 0 0 99 [(0, .ref 31), (1, .int l1), (2, .int l2), (3, .int l3), (4, .int l4), (6, .int l6)] [.int v11] _ 0 0 _
        refine x_ifeq (tgt := 130) rfl rfl (ti_eq rfl jk_0 ⟨fun c12 => ?_, fun c12 => ?_⟩)
        ·
          rw [if_pos (by omega)] at D
          exact jX.sub (jsb_c rfl (jsb_c rfl (jsb_c rfl (jsb_c rfl (jsb_c rfl (jsb_c rfl jsb_n)))))) (ct_X11_balanceOf_r31d_130 hD hQ ih l1 l2 l3 l4 l6 h (jr_of rfl (by omega)) (jr_of rfl (by omega)) (jr_of rfl (by omega)) (jr_of rfl (by omega)) (by omega) J Sm D EV)
        ·
          rw [if_neg (by omega)] at D
          refine x_aloadn (x := 31) rfl rfl ?_
          refine x_iload (x := l6) rfl rfl ?_
          refine x_inv (N := m_X11_ownYear) (As := [.int l6]) (b := 31) (st := []) (dx9 := 3) (mc := 0) (ms := 0) (host := "") 11 rfl t_X11_ownYear ⟨Or.inl q_11_570, i_X11_ownYear.1, i_X11_ownYear.2⟩ ⟨by decide, rfl⟩ (congrArg Prod.fst (J.1.1 31 (11, 13) rfl)) rfl (by decide) rfl rfl ⟨by decide, by decide⟩ (sf_X11_ownYear_r31d (jr_of rfl (by omega)) hD J rfl  (fun v16 h J S13 X14 X15 => ?_))
          have ev16 := jfull v16
          have Sm := jSm_tr rfl Sm S13
          try rw [X14] at D
          try rw [← X15] at D
          have EV := X15.trans EV
          show jX m_X11_balanceOf 4 0 0 108 [(0, .ref 31), (1, .int l1), (2, .int l2), (3, .int l3), (4, .int l4), (6, .int l6)] [.int v16] _ 0 0 _
          refine x_iloadn (x := l2) rfl rfl ?_
          refine x_icne (tgt := 130) rfl rfl (ti_ne rfl rfl ⟨fun c17 => ?_, fun c17 => ?_⟩)
          ·
            rw [if_neg (by omega)] at D
            exact jX.sub (jsb_c rfl (jsb_c rfl (jsb_c rfl (jsb_c rfl (jsb_c rfl (jsb_c rfl jsb_n)))))) (ct_X11_balanceOf_r31d_130 hD hQ ih l1 l2 l3 l4 l6 h (jr_of rfl (by omega)) (jr_of rfl (by omega)) (jr_of rfl (by omega)) (jr_of rfl (by omega)) (by omega) J Sm D EV)
          ·
            rw [if_pos (by omega)] at D
            refine x_iload (x := l4) rfl rfl ?_
            refine x_aloadn (x := 31) rfl rfl ?_
            refine z_getR (N := 13) (b := 32) 11 0 rfl f_11_10 rfl J rfl 3968 ⟨rfl, rfl⟩ rfl ?_
            refine z_getR (N := 20) (b := 57) 1 12 rfl f_11_473 rfl J rfl 4108 ⟨rfl, rfl⟩ rfl ?_
            refine x_iload (x := l6) rfl rfl ?_
            refine x_iconst (v := 3) rfl ki_3 ?_
            refine x_inv (N := m_X8_at) (As := [.int l6, .int 3]) (b := 57) (st := [.int l4]) (dx9 := 1) (mc := 0) (ms := 0) (host := "") 8 rfl t_X8_at ⟨Or.inl q_11_171, i_X8_at.1, i_X8_at.2⟩ ⟨by decide, rfl⟩ (congrArg Prod.fst (J.1.1 57 (8, 4) rfl)) rfl (by decide) rfl rfl ⟨by decide, by decide⟩ (sf_X8_at_r57_c3d (jr_of rfl (by omega)) hD J rfl  (fun v21 h ev21 J S18 X19 X20 => ?_))
            have Sm := jSm_tr rfl Sm S18
            try rw [X19] at D
            try rw [← X20] at D
            have EV := X20.trans EV
            show jX m_X11_balanceOf 4 0 0 127 [(0, .ref 31), (1, .int l1), (2, .int l2), (3, .int l3), (4, .int l4), (6, .int l6)] [.int v21, .int l4] _ 0 0 _
            refine z_iaddW rfl rfl rfl (fun v22 ev22 => ?_)
            have fv22 := jfull v22
            try rw [← ev22] at D
            refine x_istore (lsx9 := [(4, .int v22), (0, .ref 31), (1, .int l1), (2, .int l2), (3, .int l3), (6, .int l6)]) rfl rfl rfl ?_
            exact jX.sub (jsb_c rfl (jsb_c rfl (jsb_c rfl (jsb_c rfl (jsb_c rfl (jsb_c rfl jsb_n)))))) (ct_X11_balanceOf_r31d_130 hD hQ ih l1 l2 l3 v22 l6 h (jr_of rfl (by omega)) (jr_of rfl (by omega)) (jr_of rfl (by omega)) (jr_of rfl (by omega)) (by omega) J Sm D EV)
set_option maxRecDepth 100000 in
set_option maxHeartbeats 4000000 in
theorem ct_X11_balanceOf_r31d_51 {Dy : jH → Prop} {h0 : jH} {Q : Option Value → jH → Prop} {dr : Int} (hD : jDk Dy) (hQ : ∀ (v : Int32) hx9, jJ jSgX Dy hx9 → jSm fp_X11_balanceOf_r31d h0 hx9 → dr = v.toInt → vw hx9 = vw h0 → Q (some (.int v)) hx9) : ∀ (l1 : Int32) (l2 : Int32) (l3 : Int32) (l4 : Int32) (h : jH), 0 ≤ l1.toInt ∧ l1.toInt ≤ 3 → 0 ≤ l2.toInt ∧ l2.toInt ≤ 399 → 0 ≤ l3.toInt ∧ l3.toInt ≤ 146399 → jJ jSgX Dy h → jSm fp_X11_balanceOf_r31d h0 h → d_X11_balanceOf_r31d_51  l1.toInt l2.toInt l3.toInt l4.toInt (vw h) = dr → vw h = vw h0 → jX m_X11_balanceOf 4 0 0 51 [(0, .ref 31), (1, .int l1), (2, .int l2), (3, .int l3), (4, .int l4)] [] h 0 0 Q := by
  intro l1 l2 l3 l4 h y0 y1 y2   J Sm D EV
  have el4 := jfull l4
  unfold d_X11_balanceOf_r31d_51 at D
  refine x_iconst (v := 0) rfl ki_0 ?_
  refine x_istore (lsx9 := [(6, .int 0), (0, .ref 31), (1, .int l1), (2, .int l2), (3, .int l3), (4, .int l4)]) rfl rfl rfl ?_
  exact jX.sub (jsb_c rfl (jsb_c rfl (jsb_c rfl (jsb_c rfl (jsb_c rfl (jsb_c rfl jsb_n)))))) (ct_X11_balanceOf_r31d_54 hD hQ  101 l1 l2 l3 l4 0 h (by have := jk_0; omega) (jr_of rfl (by omega)) (jr_of rfl (by omega)) (jr_of rfl (by omega)) (jr_of jk_0 (by omega)) J Sm (by rw [jk_0]; exact D) EV)
set_option maxRecDepth 100000 in
set_option maxHeartbeats 4000000 in
theorem sf_X11_balanceOf_r31d {Dy : jH → Prop} {h : jH} {Q : Option Value → jH → Prop} {dr : Int} {a1 : Int32} {a2 : Int32} {a3 : Int32} (y1 : 0 ≤ a1.toInt ∧ a1.toInt ≤ 3) (y2 : 0 ≤ a2.toInt ∧ a2.toInt ≤ 399) (y3 : 0 ≤ a3.toInt ∧ a3.toInt ≤ 146399) (hD : jDk Dy) (J : jJ jSgX Dy h) (D : d_X11_balanceOf_r31d a1.toInt a2.toInt a3.toInt (vw h) = dr) (hQ : ∀ (v : Int32) hx9, jJ jSgX Dy hx9 → jSm fp_X11_balanceOf_r31d h hx9 → dr = v.toInt → vw hx9 = vw h → Q (some (.int v)) hx9) : jC m_X11_balanceOf 4 0 0 [.ref 31, .int a1, .int a2, .int a3] h Q := by
  refine jC.of rfl k_X11_balanceOf rfl ?_
  have Sm := jSm_rf fp_X11_balanceOf_r31d h
  show jX m_X11_balanceOf 4 0 0 0 [(0, .ref 31), (1, .int a1), (2, .int a2), (3, .int a3)] [] _ 0 0 _
  unfold d_X11_balanceOf_r31d at D
  have EV : vw h = vw h := rfl
  refine x_iconst (v := 0) rfl ki_0 ?_
  refine x_istore (lsx9 := [(4, .int 0), (0, .ref 31), (1, .int a1), (2, .int a2), (3, .int a3)]) rfl rfl rfl ?_
  refine x_aloadn (x := 31) rfl rfl ?_
  refine x_iloadn (x := a1) rfl rfl ?_
  refine x_iloadn (x := a2) rfl rfl ?_
  refine x_iconst (v := 1) rfl ki_1 ?_
  refine z_isub rfl rfl jk_1 (by omega) (fun v1 ev1 => ?_)
  try rw [show (a2.toInt - 1) = v1.toInt from by omega] at D
  refine x_inv (N := m_X11_closing) (As := [.int a1, .int v1]) (b := 31) (st := []) (dx9 := 2) (mc := 0) (ms := 0) (host := "") 11 rfl t_X11_closing ⟨Or.inl q_11_567, i_X11_closing.1, i_X11_closing.2⟩ ⟨by decide, rfl⟩ (congrArg Prod.fst (J.1.1 31 (11, 13) rfl)) rfl (by decide) rfl rfl ⟨by decide, by decide⟩ (sf_X11_closing_r31d (jr_of rfl (by omega)) hD J rfl  (fun v5 h ev5 J S2 X3 X4 => ?_))
  have Sm := jSm_tr rfl Sm S2
  try rw [X3] at D
  try rw [← X4] at D
  have EV := X4.trans EV
  show jX m_X11_balanceOf 4 0 0 11 [(4, .int 0), (0, .ref 31), (1, .int a1), (2, .int a2), (3, .int a3)] [.int v5] _ 0 0 _
  refine x_istore (lsx9 := [(5, .int v5), (4, .int 0), (0, .ref 31), (1, .int a1), (2, .int a2), (3, .int a3)]) rfl rfl rfl ?_
  refine x_iload (x := v5) rfl rfl ?_
  refine x_iconst (v := (-1)) rfl ki_m1 ?_
  refine x_iceq (tgt := 51) rfl rfl (ti_eq rfl jk_m1 ⟨fun c6 => ?_, fun c6 => ?_⟩)
  ·
    rw [if_pos (by omega)] at D
    exact jX.sub (jsb_c rfl (jsb_c rfl (jsb_c rfl (jsb_c rfl (jsb_c rfl jsb_n))))) (ct_X11_balanceOf_r31d_51 hD hQ  a1 a2 a3 0 h (jr_of rfl (by omega)) (jr_of rfl (by omega)) (jr_of rfl (by omega)) J Sm (by rw [jk_0]; exact D) EV)
  ·
    rw [if_neg (by omega)] at D
    refine x_aloadn (x := 31) rfl rfl ?_
    refine z_getR (N := 13) (b := 32) 11 0 rfl f_11_10 rfl J rfl 3968 ⟨rfl, rfl⟩ rfl ?_
    refine z_getR (N := 20) (b := 59) 1 13 rfl f_11_482 rfl J rfl 4109 ⟨rfl, rfl⟩ rfl ?_
    refine x_iload (x := v5) rfl rfl ?_
    refine x_iconst (v := 0) rfl ki_0 ?_
    refine x_inv (N := m_X8_at) (As := [.int v5, .int 0]) (b := 59) (st := []) (dx9 := 1) (mc := 0) (ms := 0) (host := "") 8 rfl t_X8_at ⟨Or.inl q_11_171, i_X8_at.1, i_X8_at.2⟩ ⟨by decide, rfl⟩ (congrArg Prod.fst (J.1.1 59 (8, 4) rfl)) rfl (by decide) rfl rfl ⟨by decide, by decide⟩ (sf_X8_at_r59_c0d (jr_of rfl (by omega)) hD J rfl  (fun v10 h ev10 J S7 X8 X9 => ?_))
    have Sm := jSm_tr rfl Sm S7
    try rw [X8] at D
    try rw [← X9] at D
    have EV := X9.trans EV
    show jX m_X11_balanceOf 4 0 0 32 [(5, .int v5), (4, .int 0), (0, .ref 31), (1, .int a1), (2, .int a2), (3, .int a3)] [.int v10] _ 0 0 _
    refine x_iloadn (x := a3) rfl rfl ?_
    refine x_icgt (tgt := 51) rfl rfl (ti_gt rfl rfl ⟨fun c11 => ?_, fun c11 => ?_⟩)
    ·
      rw [if_pos (by omega)] at D
      exact jX.sub (jsb_c rfl (jsb_c rfl (jsb_c rfl (jsb_c rfl (jsb_c rfl jsb_n))))) (ct_X11_balanceOf_r31d_51 hD hQ  a1 a2 a3 0 h (jr_of rfl (by omega)) (jr_of rfl (by omega)) (jr_of rfl (by omega)) J Sm (by rw [jk_0]; exact D) EV)
    ·
      rw [if_neg (by omega)] at D
      refine x_aloadn (x := 31) rfl rfl ?_
      refine z_getR (N := 13) (b := 32) 11 0 rfl f_11_10 rfl J rfl 3968 ⟨rfl, rfl⟩ rfl ?_
      refine z_getR (N := 20) (b := 59) 1 13 rfl f_11_482 rfl J rfl 4109 ⟨rfl, rfl⟩ rfl ?_
      refine x_iload (x := v5) rfl rfl ?_
      refine x_iconst (v := 3) rfl ki_3 ?_
      refine x_inv (N := m_X8_at) (As := [.int v5, .int 3]) (b := 59) (st := []) (dx9 := 1) (mc := 0) (ms := 0) (host := "") 8 rfl t_X8_at ⟨Or.inl q_11_171, i_X8_at.1, i_X8_at.2⟩ ⟨by decide, rfl⟩ (congrArg Prod.fst (J.1.1 59 (8, 4) rfl)) rfl (by decide) rfl rfl ⟨by decide, by decide⟩ (sf_X8_at_r59_c3d (jr_of rfl (by omega)) hD J rfl  (fun v15 h J S12 X13 X14 => ?_))
      have ev15 := jfull v15
      have Sm := jSm_tr rfl Sm S12
      try rw [X13] at D
      try rw [← X14] at D
      have EV := X14.trans EV
      show jX m_X11_balanceOf 4 0 0 49 [(5, .int v5), (4, .int 0), (0, .ref 31), (1, .int a1), (2, .int a2), (3, .int a3)] [.int v15] _ 0 0 _
      refine x_istore (lsx9 := [(4, .int v15), (5, .int v5), (0, .ref 31), (1, .int a1), (2, .int a2), (3, .int a3)]) rfl rfl rfl ?_
      exact jX.sub (jsb_c rfl (jsb_c rfl (jsb_c rfl (jsb_c rfl (jsb_c rfl jsb_n))))) (ct_X11_balanceOf_r31d_51 hD hQ  a1 a2 a3 v15 h (jr_of rfl (by omega)) (jr_of rfl (by omega)) (jr_of rfl (by omega)) J Sm D EV)
def fp_X11_balance_r31d : jFp := []
set_option maxRecDepth 100000 in
set_option maxHeartbeats 4000000 in
theorem ct_X11_balance_r31d_21 {Dy : jH → Prop} {h0 : jH} {Q : Option Value → jH → Prop} {dr : Int} (hD : jDk Dy) (hQ : ∀ (v : Int32) hx9, jJ jSgX Dy hx9 → jSm fp_X11_balance_r31d h0 hx9 → dr = v.toInt → vw hx9 = vw h0 → Q (some (.int v)) hx9) : ∀ (h : jH), jJ jSgX Dy h → jSm fp_X11_balance_r31d h0 h → d_X11_balance_r31d_21  (vw h) = dr → vw h = vw h0 → jX m_X11_balance 5 0 0 21 [] [] h 0 0 Q := by
  intro  h    J Sm D EV
  unfold d_X11_balance_r31d_21 at D
  refine x_ldcw (v := (-2000000000)) rfl z_11_455 ?_
  refine x_iret rfl rfl ?_
  exact hQ _ _ J Sm (D.symm.trans (show (-2000000000) = ((-2000000000) : Int32).toInt from by have := jk_m2000000000; omega)) EV
set_option maxRecDepth 100000 in
set_option maxHeartbeats 4000000 in
theorem sf_X11_balance_r31d {Dy : jH → Prop} {h : jH} {Q : Option Value → jH → Prop} {dr : Int} {a1 : Int32} {a2 : Int32} {a3 : Int32} (hD : jDk Dy) (J : jJ jSgX Dy h) (D : d_X11_balance_r31d a1.toInt a2.toInt a3.toInt (vw h) = dr) (hQ : ∀ (v : Int32) hx9, jJ jSgX Dy hx9 → jSm fp_X11_balance_r31d h hx9 → dr = v.toInt → vw hx9 = vw h → Q (some (.int v)) hx9) : jC m_X11_balance 5 0 0 [.ref 31, .int a1, .int a2, .int a3] h Q := by
  refine jC.of rfl k_X11_balance rfl ?_
  have Sm := jSm_rf fp_X11_balance_r31d h
  have ea1 := jfull a1
  have ea2 := jfull a2
  have ea3 := jfull a3
  show jX m_X11_balance 5 0 0 0 [(0, .ref 31), (1, .int a1), (2, .int a2), (3, .int a3)] [] _ 0 0 _
  unfold d_X11_balance_r31d at D
  have EV : vw h = vw h := rfl
  refine x_iloadn (x := a1) rfl rfl ?_
  refine x_inst (N := m_X11_isOffice) (As := [.int a1]) (st := []) (dx9 := 1) (mc := 0) (ms := 0) (host := "") rfl t_X11_isOffice ⟨Or.inl q_11_456, s_X11_isOffice⟩ rfl (by decide) rfl rfl ⟨by decide, by decide⟩ (zc_X11_isOffice rfl (fun v1 ev1 => ?_))
  show jX m_X11_balance 5 0 0 4 [(0, .ref 31), (1, .int a1), (2, .int a2), (3, .int a3)] [.int v1] _ 0 0 _
  refine x_ifeq (tgt := 21) rfl rfl (ti_eq rfl jk_0 ⟨fun c2 => ?_, fun c2 => ?_⟩)
  ·
    rw [if_neg (by omega)] at D
    exact jX.sub jsb_n (ct_X11_balance_r31d_21 hD hQ  h J Sm D EV)
  ·
    rw [if_pos (by omega)] at D
    refine x_iloadn (x := a2) rfl rfl ?_
    refine x_inst (N := m_X11_isYear) (As := [.int a2]) (st := []) (dx9 := 1) (mc := 0) (ms := 0) (host := "") rfl t_X11_isYear ⟨Or.inl q_11_433, s_X11_isYear⟩ rfl (by decide) rfl rfl ⟨by decide, by decide⟩ (zc_X11_isYear rfl (fun v3 ev3 => ?_))
    show jX m_X11_balance 5 0 0 11 [(0, .ref 31), (1, .int a1), (2, .int a2), (3, .int a3)] [.int v3] _ 0 0 _
    refine x_ifeq (tgt := 21) rfl rfl (ti_eq rfl jk_0 ⟨fun c4 => ?_, fun c4 => ?_⟩)
    ·
      rw [if_neg (by omega)] at D
      exact jX.sub jsb_n (ct_X11_balance_r31d_21 hD hQ  h J Sm D EV)
    ·
      rw [if_pos (by omega)] at D
      refine x_iloadn (x := a3) rfl rfl ?_
      refine x_inst (N := m_X11_isDay) (As := [.int a3]) (st := []) (dx9 := 1) (mc := 0) (ms := 0) (host := "") rfl t_X11_isDay ⟨Or.inl q_11_115, s_X11_isDay⟩ rfl (by decide) rfl rfl ⟨by decide, by decide⟩ (zc_X11_isDay rfl (fun v5 ev5 => ?_))
      show jX m_X11_balance 5 0 0 18 [(0, .ref 31), (1, .int a1), (2, .int a2), (3, .int a3)] [.int v5] _ 0 0 _
      refine x_ifne (tgt := 25) rfl rfl (ti_ne rfl jk_0 ⟨fun c6 => ?_, fun c6 => ?_⟩)
      ·
        rw [if_pos (by omega)] at D
        refine x_aloadn (x := 31) rfl rfl ?_
        refine x_iloadn (x := a1) rfl rfl ?_
        refine x_iloadn (x := a2) rfl rfl ?_
        refine x_iloadn (x := a3) rfl rfl ?_
        refine x_inv (N := m_X11_balanceOf) (As := [.int a1, .int a2, .int a3]) (b := 31) (st := []) (dx9 := 4) (mc := 0) (ms := 0) (host := "") 11 rfl t_X11_balanceOf ⟨Or.inl q_11_479, i_X11_balanceOf.1, i_X11_balanceOf.2⟩ ⟨by decide, rfl⟩ (congrArg Prod.fst (J.1.1 31 (11, 13) rfl)) rfl (by decide) rfl rfl ⟨by decide, by decide⟩ (sf_X11_balanceOf_r31d (jr_of rfl (by omega)) (jr_of rfl (by omega)) (jr_of rfl (by omega)) hD J rfl  (fun v10 h J S7 X8 X9 => ?_))
        have ev10 := jfull v10
        have Sm := jSm_tr rfl Sm S7
        try rw [X8] at D
        try rw [← X9] at D
        have EV := X9.trans EV
        show jX m_X11_balance 5 0 0 32 [(0, .ref 31), (1, .int a1), (2, .int a2), (3, .int a3)] [.int v10] _ 0 0 _
        refine x_iret rfl rfl ?_
        exact hQ _ _ J Sm (D.symm.trans (show v10.toInt = v10.toInt from by omega)) EV
      ·
        rw [if_neg (by omega)] at D
        exact jX.sub jsb_n (ct_X11_balance_r31d_21 hD hQ  h J Sm D EV)
