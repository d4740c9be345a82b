def fp_X11_back_r31d : jFp := [(31, 12, 13), (32, 18, 19), (32, 19, 20), (33, 3, 4), (34, 0, 1200), (35, 3, 4), (36, 0, 16800), (37, 3, 4), (38, 0, 120), (39, 3, 4), (40, 0, 600), (41, 3, 4), (42, 0, 80), (43, 3, 4), (44, 0, 600), (45, 3, 4), (46, 0, 120), (47, 3, 4), (48, 0, 400), (49, 3, 4), (50, 0, 200), (51, 3, 4), (52, 0, 400), (53, 3, 4), (54, 0, 160), (55, 3, 4), (56, 0, 500), (57, 3, 4), (58, 0, 400), (59, 3, 4), (60, 0, 160), (61, 3, 4), (62, 0, 400), (63, 3, 4), (64, 0, 740), (65, 0, 1600), (66, 0, 30), (68, 1, 2), (75, 0, 43200), (76, 0, 1200), (77, 0, 1200), (79, 0, 600), (80, 0, 600), (81, 0, 600), (87, 3, 4), (87, 13, 14)]
set_option maxRecDepth 100000 in
set_option maxHeartbeats 4000000 in
theorem ct_X11_back_r31d_43 {Dy : jH → Prop} {h0 : jH} {Q : Option Value → jH → Prop} {dr : (Int × jW)} (eD : Dy = jDy) (hD : jDk Dy) (hQ : ∀ (v : Int32) hx9, (-2) ≤ v.toInt ∧ v.toInt ≤ 0 → jJ jSgX Dy hx9 → jSm fp_X11_back_r31d h0 hx9 → dr.1 = v.toInt → dr.2 = vw hx9 → Q (some (.int v)) hx9) : ∀ r : Nat, ∀ (l3 : Int32) (h : jH), 200 - l3.toInt < (r : Int) → 0 ≤ l3.toInt ∧ l3.toInt ≤ 200 → jJ jSgX Dy h → jSm fp_X11_back_r31d h0 h → d_X11_back_r31d_43 r l3.toInt (vw h) = dr → jX m_X11_back 6 0 0 43 [(0, .ref 31), (3, .int l3)] [] h 0 0 Q := by
  intro r
  induction r with
  | zero =>
    intro l3 h hm y0   J Sm D
    exfalso
    omega
  | succ r ih =>
    intro l3 h hm y0   J Sm D
    rw [d_X11_back_r31d_43.eq_2] at D
    refine x_iloadn (x := l3) rfl rfl ?_
    refine x_aloadn (x := 31) rfl rfl ?_
    refine z_getR (N := 13) (b := 32) 11 0 rfl f_11_10 rfl J rfl 3968 ⟨rfl, rfl⟩ rfl ?_
    refine z_getR (N := 20) (b := 33) 1 0 rfl f_11_126 rfl J rfl 4096 ⟨rfl, rfl⟩ rfl ?_
    refine z_getI (N := 4) 8 3 rfl f_11_142 rfl J rfl sg_33_3_4_1_0_1 (fun v1 qv1 ev1 => ?_)
    try rw [vrf qv1] at D
    refine x_icge (tgt := 68) rfl rfl (ti_ge rfl rfl ⟨fun c2 => ?_, fun c2 => ?_⟩)
    ·
      rw [if_pos (by omega)] at D
      refine x_aloadn (x := 31) rfl rfl ?_
      refine z_getR (N := 13) (b := 68) 11 2 rfl f_11_23 rfl J rfl 3970 ⟨rfl, rfl⟩ rfl ?_
      refine x_iconst (v := 0) rfl ki_0 ?_
      refine z_putI (N := 6) (w := 0) 9 1 rfl f_11_106 rfl (jfin_no TX9 RX9 6 rfl rfl) hD J Sm rfl rfl jk_0 (pw_68_1 (by omega)) rfl (fun h w3 J Sm => ?_)
      rw [vwf w3 (show 0 = (0 : Int32).toInt from by have := jk_0; omega)] at D
      refine x_aloadn (x := 31) rfl rfl ?_
      refine z_getR (N := 13) (b := 87) 11 5 rfl f_11_50 rfl J rfl 3973 ⟨rfl, rfl⟩ rfl ?_
      refine x_inv (N := m_X3_empty) (As := []) (b := 87) (st := []) (dx9 := 5) (mc := 0) (ms := 0) (host := "") 3 rfl t_X3_empty ⟨Or.inl q_11_279, i_X3_empty.1, i_X3_empty.2⟩ ⟨by decide, rfl⟩ (congrArg Prod.fst (J.1.1 87 (3, 14) rfl)) rfl (by decide) rfl rfl ⟨by decide, by decide⟩ (jC.of rfl k_X3_empty rfl ?_)
      show jX m_X3_empty 5 0 0 0 [(0, .ref 87)] [] _ 0 0 _
      refine x_aloadn (x := 87) rfl rfl ?_
      refine x_iconst (v := 0) rfl ki_0 ?_
      refine z_putI (N := 14) (w := 0) 3 3 rfl f_3_15 rfl (jfin_no TX3 RX3 14 rfl rfl) hD J Sm rfl rfl jk_0 (pw_87_3 (by omega)) rfl (fun h w4 J Sm => ?_)
      rw [vwf w4 (show 0 = (0 : Int32).toInt from by have := jk_0; omega)] at D
      refine x_aloadn (x := 87) rfl rfl ?_
      refine x_iconst (v := 0) rfl ki_0 ?_
      refine z_putI (N := 14) (w := 0) 3 13 rfl f_3_46 rfl (jfin_no TX3 RX3 14 rfl rfl) hD J Sm rfl rfl jk_0 (pw_87_13 trivial) rfl (fun h w5 J Sm => ?_)
      rw [vwf w5 (show 0 = (0 : Int32).toInt from by have := jk_0; omega)] at D
      refine x_vret rfl rfl ?_
      show jX m_X11_back 6 0 0 83 [(0, .ref 31), (3, .int l3)] [] _ 0 0 _
      refine x_aloadn (x := 31) rfl rfl ?_
      refine x_iconst (v := 0) rfl ki_0 ?_
      refine x_inv (N := m_X11_accept) (As := [.int 0]) (b := 31) (st := []) (dx9 := 5) (mc := 0) (ms := 0) (host := "") 11 rfl t_X11_accept ⟨Or.inl q_11_165, i_X11_accept.1, i_X11_accept.2⟩ ⟨by decide, rfl⟩ (congrArg Prod.fst (J.1.1 31 (11, 13) rfl)) rfl (by decide) rfl rfl ⟨by decide, by decide⟩ (jC.of rfl k_X11_accept rfl ?_)
      show jX m_X11_accept 5 0 0 0 [(0, .ref 31), (1, .int 0)] [] _ 0 0 _
      refine x_aloadn (x := 31) rfl rfl ?_
      refine x_iconst (v := 0) rfl ki_0 ?_
      refine z_putI (N := 13) (w := 0) 11 12 rfl f_11_94 rfl (jfin_no TX11 RX11 13 rfl rfl) hD J Sm rfl rfl jk_0 (pw_31_12 (by omega)) rfl (fun h w6 J Sm => ?_)
      rw [vwf w6 (show 0 = (0 : Int32).toInt from by have := jk_0; omega)] at D
      refine x_aloadn (x := 31) rfl rfl ?_
      refine z_getR (N := 13) (b := 32) 11 0 rfl f_11_10 rfl J rfl 3968 ⟨rfl, rfl⟩ rfl ?_
      refine x_dup rfl rfl ?_
      refine z_getI0 (N := 20) 1 19 rfl f_11_528 rfl J rfl (fun v7 qv7 => ?_)
      have ev7 := jfull v7
      try rw [vrf (jmb_w w3 (jmb_w w4 (jmb_w w5 (jmb_w w6 qv7 rfl) rfl) rfl) rfl)] at D
      refine x_iconst (v := 1) rfl ki_1 ?_
      refine z_iaddW rfl rfl jk_1 (fun v8 ev8 => ?_)
      have fv8 := jfull v8
      try rw [← ev8] at D
      refine z_putI (N := 20) (w := v8.toInt) 1 19 rfl f_11_528 rfl (jfin_no TX1 RX1 20 rfl rfl) hD J Sm rfl rfl rfl (pw_32_19 trivial) rfl (fun h w9 J Sm => ?_)
      rw [vwf w9 (show v8.toInt = v8.toInt from by omega)] at D
      refine x_iloadn (x := 0) rfl rfl ?_
      refine x_iret rfl rfl ?_
      show jX m_X11_back 6 0 0 88 [(0, .ref 31), (3, .int l3)] [.int 0] _ 0 0 _
      refine x_iret rfl rfl ?_
      exact hQ _ _ (jr_of jk_0 (by omega)) J Sm ((congrArg Prod.fst D).symm.trans (show 0 = (0 : Int32).toInt from by have := jk_0; omega)) (congrArg Prod.snd D).symm
    ·
      rw [if_neg (by omega)] at D
      refine x_aloadn (x := 31) rfl rfl ?_
      refine x_iloadn (x := l3) rfl rfl ?_
      refine x_inv (N := m_X11_learn) (As := [.int l3]) (b := 31) (st := []) (dx9 := 5) (mc := 0) (ms := 0) (host := "") 11 rfl t_X11_learn ⟨Or.inl q_11_162, i_X11_learn.1, i_X11_learn.2⟩ ⟨by decide, rfl⟩ (congrArg Prod.fst (J.1.1 31 (11, 13) rfl)) rfl (by decide) rfl rfl ⟨by decide, by decide⟩ (jC.of rfl k_X11_learn rfl ?_)
      show jX m_X11_learn 5 0 0 0 [(0, .ref 31), (1, .int l3)] [] _ 0 0 _
      refine x_aloadn (x := 31) rfl rfl ?_
      refine z_getR (N := 13) (b := 70) 11 3 rfl f_11_32 rfl J rfl 3971 ⟨rfl, rfl⟩ rfl ?_
      refine x_iloadn (x := l3) rfl rfl ?_
      refine x_inv (N := m_X5_learn) (As := [.int l3]) (b := 70) (st := []) (dx9 := 4) (mc := 0) (ms := 0) (host := "") 5 rfl t_X5_learn ⟨Or.inl q_11_186, i_X5_learn.1, i_X5_learn.2⟩ ⟨by decide, rfl⟩ (congrArg Prod.fst (J.1.1 70 (5, 9) rfl)) rfl (by decide) rfl rfl ⟨by decide, by decide⟩ (sf_X5_learn_r70d (jr_of rfl (by omega)) hD J rfl  (fun h J S10 X11 => ?_))
      have Sm := jSm_tr rfl Sm S10
      rw [X11] at D
      show jX m_X11_learn 5 0 0 8 [(0, .ref 31), (1, .int l3)] [] _ 0 0 _
      refine x_aloadn (x := 31) rfl rfl ?_
      refine z_getR (N := 13) (b := 78) 11 4 rfl f_11_41 rfl J rfl 3972 ⟨rfl, rfl⟩ rfl ?_
      refine x_iloadn (x := l3) rfl rfl ?_
      refine x_inv (N := m_X7_learn) (As := [.int l3]) (b := 78) (st := []) (dx9 := 2) (mc := 0) (ms := 0) (host := "") 7 rfl t_X7_learn ⟨Or.inl q_11_520, i_X7_learn.1, i_X7_learn.2⟩ ⟨by decide, rfl⟩ (congrArg Prod.fst (J.1.1 78 (7, 16) rfl)) rfl (by decide) rfl rfl ⟨by decide, by decide⟩ (sf_X7_learn_r78d (jr_of rfl (by omega)) hD J rfl  (fun h J S12 X13 => ?_))
      have Sm := jSm_tr rfl Sm S12
      rw [X13] at D
      show jX m_X11_learn 5 0 0 16 [(0, .ref 31), (1, .int l3)] [] _ 0 0 _
      refine x_vret rfl rfl ?_
      show jX m_X11_back 6 0 0 62 [(0, .ref 31), (3, .int l3)] [] _ 0 0 _
      refine z_iinc (x := l3) (lsx9 := fun v14 => [(3, .int v14), (0, .ref 31)]) rfl rfl rfl jko_1 (by omega) rfl (fun _ => rfl) (fun v14 ev14 => ?_)
      refine x_goto (tgt := 43) rfl rfl ?_
      try rw [show (l3.toInt + 1) = v14.toInt from by omega] at D
      exact jX.sub (jsb_c rfl (jsb_c rfl jsb_n)) (ih v14 h (by omega) (jr_of rfl (by omega)) J Sm D)
set_option maxRecDepth 100000 in
set_option maxHeartbeats 4000000 in
theorem sf_X11_back_r31d {Dy : jH → Prop} {h : jH} {Q : Option Value → jH → Prop} {dr : (Int × jW)} {a1 : Int32} (eD : Dy = jDy) (hD : jDk Dy) (J : jJ jSgX Dy h) (D : d_X11_back_r31d a1.toInt (vw h) = dr) (hQ : ∀ (v : Int32) hx9, (-2) ≤ v.toInt ∧ v.toInt ≤ 0 → jJ jSgX Dy hx9 → jSm fp_X11_back_r31d h hx9 → dr.1 = v.toInt → dr.2 = vw hx9 → Q (some (.int v)) hx9) : jC m_X11_back 6 0 0 [.ref 31, .int a1] h Q := by
  refine jC.of rfl k_X11_back rfl ?_
  have Sm := jSm_rf fp_X11_back_r31d h
  skip
  have ea1 := jfull a1
  show jX m_X11_back 6 0 0 0 [(0, .ref 31), (1, .int a1)] [] _ 0 0 _
  unfold d_X11_back_r31d at D
  refine x_iloadn (x := a1) rfl rfl ?_
  refine x_iconst (v := 0) rfl ki_0 ?_
  refine x_iconst (v := 3) rfl ki_3 ?_
  refine x_inst (N := m_X11_isWithin) (As := [.int a1, .int 0, .int 3]) (st := []) (dx9 := 1) (mc := 0) (ms := 0) (host := "") rfl t_X11_isWithin ⟨Or.inl q_11_202, s_X11_isWithin⟩ rfl (by decide) rfl rfl ⟨by decide, by decide⟩ (zc_X11_isWithin rfl jk_0 jk_3 (fun v1 ev1 => ?_))
  show jX m_X11_back 6 0 0 6 [(0, .ref 31), (1, .int a1)] [.int v1] _ 0 0 _
  refine x_ifne (tgt := 15) rfl rfl (ti_ne rfl jk_0 ⟨fun c2 => ?_, fun c2 => ?_⟩)
  ·
    rw [if_pos (by omega)] at D
    refine jX.sub (jsb_c rfl (jsb_c rfl jsb_n)) (bkx_15 (by decide) (eD ▸ J) Sm rfl (by omega) (fun n5 => ?_) (fun a5 h c5 d5 J Sm S3 => ?_))
    ·
      rw [if_pos (vnn n5 (show a1.toInt = a1.toInt from by omega))] at D
      refine x_aloadn (x := 31) rfl rfl ?_
      refine x_bipush (v := (-2)) rfl kb_m2 ?_
      refine x_inv (N := m_X11_refuse) (As := [.int (-2)]) (b := 31) (st := []) (dx9 := 5) (mc := 0) (ms := 0) (host := "") 11 rfl t_X11_refuse ⟨Or.inl q_11_206, i_X11_refuse.1, i_X11_refuse.2⟩ ⟨by decide, rfl⟩ (congrArg Prod.fst (J.1.1 31 (11, 13) rfl)) rfl (by decide) rfl rfl ⟨by decide, by decide⟩ (jC.of rfl k_X11_refuse rfl ?_)
      show jX m_X11_refuse 5 0 0 0 [(0, .ref 31), (1, .int (-2))] [] _ 0 0 _
      refine x_aloadn (x := 31) rfl rfl ?_
      refine x_iloadn (x := (-2)) rfl rfl ?_
      refine z_putI (N := 13) (w := (-2)) 11 12 rfl f_11_94 rfl (jfin_no TX11 RX11 13 rfl rfl) hD J Sm rfl rfl jk_m2 (pw_31_12 (by omega)) rfl (fun h w4 J Sm => ?_)
      rw [vwf w4 (show (-2) = ((-2) : Int32).toInt from by have := jk_m2; omega)] at D
      refine x_iloadn (x := (-2)) rfl rfl ?_
      refine x_iret rfl rfl ?_
      show jX m_X11_back 6 0 0 32 [(0, .ref 31), (1, .int a1)] [.int (-2)] _ 0 0 _
      refine x_iret rfl rfl ?_
      exact hQ _ _ (jr_of jk_m2 (by omega)) J Sm ((congrArg Prod.fst D).symm.trans (show (-2) = ((-2) : Int32).toInt from by have := jk_m2; omega)) (congrArg Prod.snd D).symm
    ·
      have J := (eD.symm ▸ J : jJ jSgX Dy h)
      rw [if_neg (vns c5 (show a1.toInt = a1.toInt from by omega)), vrs c5 (show a1.toInt = a1.toInt from by omega), cd_v d5] at D
      refine x_iconst (v := 0) rfl ki_0 ?_
      refine x_istoren (lsx9 := [(3, .int 0), (0, .ref 31), (1, .int a1)]) rfl rfl rfl ?_
      exact jX.sub (jsb_c rfl (jsb_c rfl jsb_n)) (ct_X11_back_r31d_43 eD hD hQ  201 0 h (by have := jk_0; omega) (jr_of jk_0 (by omega)) J Sm (by rw [jk_0]; exact D))
  ·
    rw [if_neg (by omega)] at D
    refine x_aloadn (x := 31) rfl rfl ?_
    refine x_iconst (v := (-1)) rfl ki_m1 ?_
    refine x_inv (N := m_X11_refuse) (As := [.int (-1)]) (b := 31) (st := []) (dx9 := 5) (mc := 0) (ms := 0) (host := "") 11 rfl t_X11_refuse ⟨Or.inl q_11_206, i_X11_refuse.1, i_X11_refuse.2⟩ ⟨by decide, rfl⟩ (congrArg Prod.fst (J.1.1 31 (11, 13) rfl)) rfl (by decide) rfl rfl ⟨by decide, by decide⟩ (jC.of rfl k_X11_refuse rfl ?_)
    show jX m_X11_refuse 5 0 0 0 [(0, .ref 31), (1, .int (-1))] [] _ 0 0 _
    refine x_aloadn (x := 31) rfl rfl ?_
    refine x_iloadn (x := (-1)) rfl rfl ?_
    refine z_putI (N := 13) (w := (-1)) 11 12 rfl f_11_94 rfl (jfin_no TX11 RX11 13 rfl rfl) hD J Sm rfl rfl jk_m1 (pw_31_12 (by omega)) rfl (fun h w5 J Sm => ?_)
    rw [vwf w5 (show (-1) = ((-1) : Int32).toInt from by have := jk_m1; omega)] at D
    refine x_iloadn (x := (-1)) rfl rfl ?_
    refine x_iret rfl rfl ?_
    show jX m_X11_back 6 0 0 14 [(0, .ref 31), (1, .int a1)] [.int (-1)] _ 0 0 _
    refine x_iret rfl rfl ?_
    exact hQ _ _ (jr_of jk_m1 (by omega)) J Sm ((congrArg Prod.fst D).symm.trans (show (-1) = ((-1) : Int32).toInt from by have := jk_m1; omega)) (congrArg Prod.snd D).symm
