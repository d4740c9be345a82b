def fp_X11_seat_r31d : jFp := [(78, 13, 14), (82, 0, 600), (83, 0, 600), (84, 0, 200), (85, 0, 4), (86, 0, 3), (98, 10, 11), (98, 11, 12), (98, 12, 13), (98, 13, 14), (98, 14, 15), (98, 15, 16), (99, 0, 30), (100, 0, 30), (101, 0, 3), (102, 0, 40), (103, 0, 40), (104, 0, 40), (105, 0, 3), (106, 0, 100), (107, 9, 10), (112, 0, 40), (113, 0, 40), (114, 0, 3)]
set_option maxRecDepth 100000 in
set_option maxHeartbeats 4000000 in
theorem ct_X11_seat_r31d_14 {Dy : jH → Prop} {h0 : jH} {Q : Option Value → jH → Prop} {dr : (Int × jW)} (hD : jDk Dy) (hQ : ∀ (v : Int32) hx9, (-1) ≤ v.toInt ∧ v.toInt ≤ 40 → jJ jSgX Dy hx9 → jSm fp_X11_seat_r31d h0 hx9 → dr.1 = v.toInt → dr.2 = vw hx9 → Q (some (.int v)) hx9) : ∀ (h : jH), jJ jSgX Dy h → jSm fp_X11_seat_r31d h0 h → d_X11_seat_r31d_14  (vw h) = dr → jX m_X11_seat 8 0 0 14 [] [] h 0 0 Q := by
  intro  h    J Sm D
  unfold d_X11_seat_r31d_14 at D
  refine x_iconst (v := (-1)) rfl ki_m1 ?_
  refine x_iret rfl rfl ?_
  exact hQ _ _ (jr_of jk_m1 (by omega)) J Sm ((congrArg Prod.fst D).symm.trans (show (-1) = ((-1) : Int32).toInt from by have := jk_m1; omega)) (congrArg Prod.snd D).symm
set_option maxRecDepth 100000 in
set_option maxHeartbeats 4000000 in
theorem ct_X11_seat_r31d_86 {Dy : jH → Prop} {h0 : jH} {Q : Option Value → jH → Prop} {dr : (Int × jW)} (hD : jDk Dy) (hQ : ∀ (v : Int32) hx9, (-1) ≤ v.toInt ∧ v.toInt ≤ 40 → jJ jSgX Dy hx9 → jSm fp_X11_seat_r31d h0 hx9 → dr.1 = v.toInt → dr.2 = vw hx9 → Q (some (.int v)) hx9) : ∀ (s0 : Int32) (h : jH), 0 ≤ s0.toInt ∧ s0.toInt ≤ 39 → jJ jSgX Dy h → jSm fp_X11_seat_r31d h0 h → d_X11_seat_r31d_86  s0.toInt (vw h) = dr → jX m_X11_seat 8 0 0 86 [] [.int s0] h 0 0 Q := by
  intro s0 h y0   J Sm D
  unfold d_X11_seat_r31d_86 at D
  refine x_iret rfl rfl ?_
  exact hQ _ _ (jr_of rfl (by omega)) J Sm ((congrArg Prod.fst D).symm.trans (show s0.toInt = s0.toInt from by omega)) (congrArg Prod.snd D).symm
set_option maxRecDepth 100000 in
set_option maxHeartbeats 4000000 in
theorem ct_X11_seat_r31d_100086 {Dy : jH → Prop} {h0 : jH} {Q : Option Value → jH → Prop} {dr : (Int × jW)} (hD : jDk Dy) (hQ : ∀ (v : Int32) hx9, (-1) ≤ v.toInt ∧ v.toInt ≤ 40 → jJ jSgX Dy hx9 → jSm fp_X11_seat_r31d h0 hx9 → dr.1 = v.toInt → dr.2 = vw hx9 → Q (some (.int v)) hx9) : ∀ (h : jH), jJ jSgX Dy h → jSm fp_X11_seat_r31d h0 h → d_X11_seat_r31d_100086  (vw h) = dr → jX m_X11_seat 8 0 0 86 [] [.int (-1)] h 0 0 Q := by
  intro  h    J Sm D
  unfold d_X11_seat_r31d_100086 at D
  refine x_iret rfl rfl ?_
  exact hQ _ _ (jr_of jk_m1 (by omega)) J Sm ((congrArg Prod.fst D).symm.trans (show (-1) = ((-1) : Int32).toInt from by have := jk_m1; omega)) (congrArg Prod.snd D).symm
set_option maxRecDepth 100000 in
set_option maxHeartbeats 4000000 in
theorem ct_X11_seat_r31d_85 {Dy : jH → Prop} {h0 : jH} {Q : Option Value → jH → Prop} {dr : (Int × jW)} (hD : jDk Dy) (hQ : ∀ (v : Int32) hx9, (-1) ≤ v.toInt ∧ v.toInt ≤ 40 → jJ jSgX Dy hx9 → jSm fp_X11_seat_r31d h0 hx9 → dr.1 = v.toInt → dr.2 = vw hx9 → Q (some (.int v)) hx9) : ∀ (h : jH), jJ jSgX Dy h → jSm fp_X11_seat_r31d h0 h → d_X11_seat_r31d_85  (vw h) = dr → jX m_X11_seat 8 0 0 85 [] [] h 0 0 Q := by
  intro  h    J Sm D
  unfold d_X11_seat_r31d_85 at D
  refine x_iconst (v := (-1)) rfl ki_m1 ?_
  exact jX.sub jsb_n (ct_X11_seat_r31d_100086 hD hQ  h J Sm D)
set_option maxRecDepth 100000 in
set_option maxHeartbeats 4000000 in
theorem sf_X11_seat_r31d {Dy : jH → Prop} {h : jH} {Q : Option Value → jH → Prop} {dr : (Int × jW)} {a1 : Int32} {a2 : Int32} {a3 : Int32} (hD : jDk Dy) (J : jJ jSgX Dy h) (D : d_X11_seat_r31d a1.toInt a2.toInt a3.toInt (vw h) = dr) (hQ : ∀ (v : Int32) hx9, (-1) ≤ v.toInt ∧ v.toInt ≤ 40 → jJ jSgX Dy hx9 → jSm fp_X11_seat_r31d h hx9 → dr.1 = v.toInt → dr.2 = vw hx9 → Q (some (.int v)) hx9) : jC m_X11_seat 8 0 0 [.ref 31, .int a1, .int a2, .int a3] h Q := by
  refine jC.of rfl k_X11_seat rfl ?_
  have Sm := jSm_rf fp_X11_seat_r31d h
  have ea1 := jfull a1
  have ea2 := jfull a2
  have ea3 := jfull a3
  show jX m_X11_seat 8 0 0 0 [(0, .ref 31), (1, .int a1), (2, .int a2), (3, .int a3)] [] _ 0 0 _
  unfold d_X11_seat_r31d at D
  refine x_iloadn (x := a1) rfl rfl ?_
  refine x_inst (N := m_X11_isDay) (As := [.int a1]) (st := []) (dx9 := 1) (mc := 0) (ms := 0) (host := "") rfl t_X11_isDay ⟨Or.inl q_11_115, s_X11_isDay⟩ rfl (by decide) rfl rfl ⟨by decide, by decide⟩ (zc_X11_isDay rfl (fun v1 ev1 => ?_))
  show jX m_X11_seat 8 0 0 4 [(0, .ref 31), (1, .int a1), (2, .int a2), (3, .int a3)] [.int v1] _ 0 0 _
  refine x_ifeq (tgt := 14) rfl rfl (ti_eq rfl jk_0 ⟨fun c2 => ?_, fun c2 => ?_⟩)
  ·
    rw [if_neg (by omega)] at D
    exact jX.sub jsb_n (ct_X11_seat_r31d_14 hD hQ  h J Sm D)
  ·
    rw [if_pos (by omega)] at D
    refine x_iloadn (x := a2) rfl rfl ?_
    refine x_inst (N := m_X11_isDay) (As := [.int a2]) (st := []) (dx9 := 1) (mc := 0) (ms := 0) (host := "") rfl t_X11_isDay ⟨Or.inl q_11_115, s_X11_isDay⟩ rfl (by decide) rfl rfl ⟨by decide, by decide⟩ (zc_X11_isDay rfl (fun v3 ev3 => ?_))
    show jX m_X11_seat 8 0 0 11 [(0, .ref 31), (1, .int a1), (2, .int a2), (3, .int a3)] [.int v3] _ 0 0 _
    refine x_ifne (tgt := 16) rfl rfl (ti_ne rfl jk_0 ⟨fun c4 => ?_, fun c4 => ?_⟩)
    ·
      rw [if_pos (by omega)] at D
      refine x_aloadn (x := 31) rfl rfl ?_
      refine z_getR (N := 13) (b := 78) 11 4 rfl f_11_41 rfl J rfl 3972 ⟨rfl, rfl⟩ rfl ?_
      refine x_iloadn (x := a2) rfl rfl ?_
      refine x_inv (N := m_X7_asKnown) (As := [.int a2]) (b := 78) (st := []) (dx9 := 6) (mc := 0) (ms := 0) (host := "") 7 rfl t_X7_asKnown ⟨Or.inl q_11_240, i_X7_asKnown.1, i_X7_asKnown.2⟩ ⟨by decide, rfl⟩ (congrArg Prod.fst (J.1.1 78 (7, 16) rfl)) rfl (by decide) rfl rfl ⟨by decide, by decide⟩ (sf_X7_asKnown_r78d (jr_of rfl (by omega)) hD J rfl  (fun h J S5 X6 => ?_))
      have Sm := jSm_tr rfl Sm S5
      rw [X6] at D
      show jX m_X11_seat 8 0 0 24 [(0, .ref 31), (1, .int a1), (2, .int a2), (3, .int a3)] [] _ 0 0 _
      refine x_aloadn (x := 31) rfl rfl ?_
      refine z_getR (N := 13) (b := 107) 11 8 rfl f_11_75 rfl J rfl 3976 ⟨rfl, rfl⟩ rfl ?_
      refine x_iloadn (x := a1) rfl rfl ?_
      refine x_iloadn (x := a2) rfl rfl ?_
      refine x_inv (N := m_X4_seatAll) (As := [.int a1, .int a2]) (b := 107) (st := []) (dx9 := 7) (mc := 0) (ms := 0) (host := "") 4 rfl t_X4_seatAll ⟨Or.inl q_11_488, i_X4_seatAll.1, i_X4_seatAll.2⟩ ⟨by decide, rfl⟩ (congrArg Prod.fst (J.1.1 107 (4, 18) rfl)) rfl (by decide) rfl rfl ⟨by decide, by decide⟩ (sf_X4_seatAll_r107d (jr_of rfl (by omega)) (jr_of rfl (by omega)) hD J rfl  (fun h J S7 X8 => ?_))
      have Sm := jSm_tr rfl Sm S7
      rw [X8] at D
      show jX m_X11_seat 8 0 0 33 [(0, .ref 31), (1, .int a1), (2, .int a2), (3, .int a3)] [] _ 0 0 _
      refine x_iloadn (x := a3) rfl rfl ?_
      refine x_iconst (v := (-1)) rfl ki_m1 ?_
      refine x_icne (tgt := 46) rfl rfl (ti_ne rfl jk_m1 ⟨fun c9 => ?_, fun c9 => ?_⟩)
      ·
        rw [if_neg (by omega)] at D
        refine x_iloadn (x := a3) rfl rfl ?_
        refine x_iflt (tgt := 85) rfl rfl (ti_lt rfl jk_0 ⟨fun c10 => ?_, fun c10 => ?_⟩)
        ·
          rw [if_pos (by omega)] at D
          exact jX.sub jsb_n (ct_X11_seat_r31d_85 hD hQ  h J Sm D)
        ·
          rw [if_neg (by omega)] at D
          refine x_iloadn (x := a3) rfl rfl ?_
          refine x_aloadn (x := 31) rfl rfl ?_
          refine z_getR (N := 13) (b := 107) 11 8 rfl f_11_75 rfl J rfl 3976 ⟨rfl, rfl⟩ rfl ?_
          refine z_getI (N := 18) 4 9 rfl f_11_491 rfl J rfl sg_107_9_10_1_0_1 (fun v11 qv11 ev11 => ?_)
          try rw [vrf qv11] at D
          refine x_icge (tgt := 85) rfl rfl (ti_ge rfl rfl ⟨fun c12 => ?_, fun c12 => ?_⟩)
          ·
            rw [if_pos (by omega)] at D
            exact jX.sub jsb_n (ct_X11_seat_r31d_85 hD hQ  h J Sm D)
          ·
            rw [if_neg (by omega)] at D
            refine x_iloadn (x := a3) rfl rfl ?_
            refine x_aloadn (x := 31) rfl rfl ?_
            refine z_getR (N := 13) (b := 107) 11 8 rfl f_11_75 rfl J rfl 3976 ⟨rfl, rfl⟩ rfl ?_
            refine z_getR (N := 18) (b := 112) 4 7 rfl f_11_494 rfl J rfl 13703 ⟨rfl, rfl⟩ rfl ?_
            refine z_alen (N := 40) (v := 40) rfl J rfl rfl (by decide) ?_
            refine x_icge (tgt := 85) rfl rfl (ti_ge rfl jk_40 (br_f (by omega) ?_))
            refine x_aloadn (x := 31) rfl rfl ?_
            refine z_getR (N := 13) (b := 107) 11 8 rfl f_11_75 rfl J rfl 3976 ⟨rfl, rfl⟩ rfl ?_
            refine z_getR (N := 18) (b := 112) 4 7 rfl f_11_494 rfl J rfl 13703 ⟨rfl, rfl⟩ rfl ?_
            refine x_iloadn (x := a3) rfl rfl ?_
            refine z_iald (N := 40) rfl J rfl sg_112_0_40_1_0_1 rfl (by omega) (fun v13 qv13 ev13 => ?_)
            try rw [vrd qv13 (show a3.toInt = a3.toInt from by omega)] at D
            refine x_goto (tgt := 86) rfl rfl ?_
            exact jX.sub jsb_n (ct_X11_seat_r31d_86 hD hQ  v13 h (jr_of rfl (by omega)) J Sm D)
      ·
        rw [if_pos (by omega)] at D
        refine x_aloadn (x := 31) rfl rfl ?_
        refine z_getR (N := 13) (b := 107) 11 8 rfl f_11_75 rfl J rfl 3976 ⟨rfl, rfl⟩ rfl ?_
        refine z_getI (N := 18) 4 9 rfl f_11_491 rfl J rfl sg_107_9_10_1_0_1 (fun v14 qv14 ev14 => ?_)
        try rw [vrf qv14] at D
        refine x_iret rfl rfl ?_
        exact hQ _ _ (jr_of rfl (by omega)) J Sm ((congrArg Prod.fst D).symm.trans (show v14.toInt = v14.toInt from by omega)) (congrArg Prod.snd D).symm
    ·
      rw [if_neg (by omega)] at D
      exact jX.sub jsb_n (ct_X11_seat_r31d_14 hD hQ  h J Sm D)
def fp_X11_soul_r31d : jFp := [(78, 13, 14), (82, 0, 600), (83, 0, 600), (84, 0, 200), (86, 0, 3)]
set_option maxRecDepth 100000 in
set_option maxHeartbeats 4000000 in
theorem sf_X11_soul_r31d {Dy : jH → Prop} {h : jH} {Q : Option Value → jH → Prop} {dr : (Int × jW)} {a1 : Int32} {a2 : Int32} (hD : jDk Dy) (J : jJ jSgX Dy h) (D : d_X11_soul_r31d a1.toInt a2.toInt (vw h) = dr) (hQ : ∀ (v : Int32) hx9, (-1) ≤ v.toInt ∧ v.toInt ≤ 599 → jJ jSgX Dy hx9 → jSm fp_X11_soul_r31d h hx9 → dr.1 = v.toInt → dr.2 = vw hx9 → Q (some (.int v)) hx9) : jC m_X11_soul 8 0 0 [.ref 31, .int a1, .int a2] h Q := by
  refine jC.of rfl k_X11_soul rfl ?_
  have Sm := jSm_rf fp_X11_soul_r31d h
  have ea1 := jfull a1
  have ea2 := jfull a2
  show jX m_X11_soul 8 0 0 0 [(0, .ref 31), (1, .int a1), (2, .int a2)] [] _ 0 0 _
  unfold d_X11_soul_r31d at D
  refine x_aloadn (x := 31) rfl rfl ?_
  refine x_iloadn (x := a1) rfl rfl ?_
  refine x_iloadn (x := a2) rfl rfl ?_
  refine x_inv (N := m_X11_soulOn) (As := [.int a1, .int a2]) (b := 31) (st := []) (dx9 := 7) (mc := 0) (ms := 0) (host := "") 11 rfl t_X11_soulOn ⟨Or.inl q_11_234, i_X11_soulOn.1, i_X11_soulOn.2⟩ ⟨by decide, rfl⟩ (congrArg Prod.fst (J.1.1 31 (11, 13) rfl)) rfl (by decide) rfl rfl ⟨by decide, by decide⟩ (jC.of rfl k_X11_soulOn rfl ?_)
  show jX m_X11_soulOn 7 0 0 0 [(0, .ref 31), (1, .int a1), (2, .int a2)] [] _ 0 0 _
  refine x_iloadn (x := a2) rfl rfl ?_
  refine x_inst (N := m_X11_isDay) (As := [.int a2]) (st := []) (dx9 := 1) (mc := 0) (ms := 0) (host := "") rfl t_X11_isDay ⟨Or.inl q_11_115, s_X11_isDay⟩ rfl (by decide) rfl rfl ⟨by decide, by decide⟩ (zc_X11_isDay rfl (fun v1 ev1 => ?_))
  show jX m_X11_soulOn 7 0 0 4 [(0, .ref 31), (1, .int a1), (2, .int a2)] [.int v1] _ 0 0 _
  refine x_ifeq (tgt := 18) rfl rfl (ti_eq rfl jk_0 ⟨fun c2 => ?_, fun c2 => ?_⟩)
  ·
    rw [if_neg (by omega)] at D
    refine x_iconst (v := (-1)) rfl ki_m1 ?_
    refine x_iret rfl rfl ?_
    show jX m_X11_soul 8 0 0 6 [(0, .ref 31), (1, .int a1), (2, .int a2)] [.int (-1)] _ 0 0 _
    refine x_iret rfl rfl ?_
    exact hQ _ _ (jr_of jk_m1 (by omega)) J Sm ((congrArg Prod.fst D).symm.trans (show (-1) = ((-1) : Int32).toInt from by have := jk_m1; omega)) (congrArg Prod.snd D).symm
  ·
    rw [if_pos (by omega)] at D
    refine x_aloadn (x := 31) rfl rfl ?_
    refine z_getR (N := 13) (b := 78) 11 4 rfl f_11_41 rfl J rfl 3972 ⟨rfl, rfl⟩ rfl ?_
    refine x_iloadn (x := a1) rfl rfl ?_
    refine x_inv (N := m_X7_isMention) (As := [.int a1]) (b := 78) (st := []) (dx9 := 6) (mc := 0) (ms := 0) (host := "") 7 rfl t_X7_isMention ⟨Or.inl q_11_187, i_X7_isMention.1, i_X7_isMention.2⟩ ⟨by decide, rfl⟩ (congrArg Prod.fst (J.1.1 78 (7, 16) rfl)) rfl (by decide) rfl rfl ⟨by decide, by decide⟩ (jC.of rfl k_X7_isMention rfl ?_)
    show jX m_X7_isMention 6 0 0 0 [(0, .ref 78), (1, .int a1)] [] _ 0 0 _
    refine x_iloadn (x := a1) rfl rfl ?_
    refine x_iflt (tgt := 41) rfl rfl (ti_lt rfl jk_0 ⟨fun c3 => ?_, fun c3 => ?_⟩)
    ·
      rw [if_pos (by omega)] at D
      refine x_iconst (v := 0) rfl ki_0 ?_
      refine x_zret rfl rfl (by decide) ?_
      show jX m_X11_soulOn 7 0 0 15 [(0, .ref 31), (1, .int a1), (2, .int a2)] [.int 0] _ 0 0 _
      refine x_ifne (tgt := 20) rfl rfl (ti_ne jk_0 jk_0 (bn_f (by omega) ?_))
      refine x_iconst (v := (-1)) rfl ki_m1 ?_
      refine x_iret rfl rfl ?_
      show jX m_X11_soul 8 0 0 6 [(0, .ref 31), (1, .int a1), (2, .int a2)] [.int (-1)] _ 0 0 _
      refine x_iret rfl rfl ?_
      exact hQ _ _ (jr_of jk_m1 (by omega)) J Sm ((congrArg Prod.fst D).symm.trans (show (-1) = ((-1) : Int32).toInt from by have := jk_m1; omega)) (congrArg Prod.snd D).symm
    ·
      rw [if_neg (by omega)] at D
      refine x_iloadn (x := a1) rfl rfl ?_
      refine x_sipush (v := 600) rfl ks_600 ?_
      refine x_icge (tgt := 41) rfl rfl (ti_ge rfl jk_600 ⟨fun c4 => ?_, fun c4 => ?_⟩)
      ·
        rw [if_pos (by omega)] at D
        refine x_iconst (v := 0) rfl ki_0 ?_
        refine x_zret rfl rfl (by decide) ?_
        show jX m_X11_soulOn 7 0 0 15 [(0, .ref 31), (1, .int a1), (2, .int a2)] [.int 0] _ 0 0 _
        refine x_ifne (tgt := 20) rfl rfl (ti_ne jk_0 jk_0 (bn_f (by omega) ?_))
        refine x_iconst (v := (-1)) rfl ki_m1 ?_
        refine x_iret rfl rfl ?_
        show jX m_X11_soul 8 0 0 6 [(0, .ref 31), (1, .int a1), (2, .int a2)] [.int (-1)] _ 0 0 _
        refine x_iret rfl rfl ?_
        exact hQ _ _ (jr_of jk_m1 (by omega)) J Sm ((congrArg Prod.fst D).symm.trans (show (-1) = ((-1) : Int32).toInt from by have := jk_m1; omega)) (congrArg Prod.snd D).symm
      ·
        rw [if_neg (by omega)] at D
        refine x_iloadn (x := a1) rfl rfl ?_
        refine x_iconst (v := 3) rfl ki_3 ?_
        refine z_idiv rfl rfl jk_3 (by omega) (by omega) (fun v5 ev5 => ?_)
        refine x_aloadn (x := 78) rfl rfl ?_
        refine z_getR (N := 16) (b := 32) 7 0 rfl f_7_55 rfl J rfl 9984 ⟨rfl, rfl⟩ rfl ?_
        refine z_getR (N := 20) (b := 33) 1 0 rfl f_7_63 rfl J rfl 4096 ⟨rfl, rfl⟩ rfl ?_
        refine z_getI (N := 4) 8 3 rfl f_7_85 rfl J rfl sg_33_3_4_1_0_1 (fun v6 qv6 ev6 => ?_)
        try rw [vrf qv6] at D
        refine x_icge (tgt := 41) rfl rfl (ti_ge rfl rfl ⟨fun c7 => ?_, fun c7 => ?_⟩)
        ·
          rw [if_pos (by omega)] at D
          refine x_iconst (v := 0) rfl ki_0 ?_
          refine x_zret rfl rfl (by decide) ?_
          show jX m_X11_soulOn 7 0 0 15 [(0, .ref 31), (1, .int a1), (2, .int a2)] [.int 0] _ 0 0 _
          refine x_ifne (tgt := 20) rfl rfl (ti_ne jk_0 jk_0 (bn_f (by omega) ?_))
          refine x_iconst (v := (-1)) rfl ki_m1 ?_
          refine x_iret rfl rfl ?_
          show jX m_X11_soul 8 0 0 6 [(0, .ref 31), (1, .int a1), (2, .int a2)] [.int (-1)] _ 0 0 _
          refine x_iret rfl rfl ?_
          exact hQ _ _ (jr_of jk_m1 (by omega)) J Sm ((congrArg Prod.fst D).symm.trans (show (-1) = ((-1) : Int32).toInt from by have := jk_m1; omega)) (congrArg Prod.snd D).symm
        ·
          rw [if_neg (by omega)] at D
          refine x_aloadn (x := 78) rfl rfl ?_
          refine z_getR (N := 16) (b := 79) 7 7 rfl f_7_27 rfl J rfl 9991 ⟨rfl, rfl⟩ rfl ?_
          refine x_iloadn (x := a1) rfl rfl ?_
          refine z_iald (N := 600) rfl J rfl sg_79_0_600_1_0_1 rfl (by omega) (fun v8 qv8 ev8 => ?_)
          try rw [vrd qv8 (show a1.toInt = a1.toInt from by omega)] at D
          refine x_iconst (v := (-1)) rfl ki_m1 ?_
          refine x_iceq (tgt := 41) rfl rfl (ti_eq rfl jk_m1 ⟨fun c9 => ?_, fun c9 => ?_⟩)
          ·
            rw [if_pos (by omega)] at D
            refine x_iconst (v := 0) rfl ki_0 ?_
            refine x_zret rfl rfl (by decide) ?_
            show jX m_X11_soulOn 7 0 0 15 [(0, .ref 31), (1, .int a1), (2, .int a2)] [.int 0] _ 0 0 _
            refine x_ifne (tgt := 20) rfl rfl (ti_ne jk_0 jk_0 (bn_f (by omega) ?_))
            refine x_iconst (v := (-1)) rfl ki_m1 ?_
            refine x_iret rfl rfl ?_
            show jX m_X11_soul 8 0 0 6 [(0, .ref 31), (1, .int a1), (2, .int a2)] [.int (-1)] _ 0 0 _
            refine x_iret rfl rfl ?_
            exact hQ _ _ (jr_of jk_m1 (by omega)) J Sm ((congrArg Prod.fst D).symm.trans (show (-1) = ((-1) : Int32).toInt from by have := jk_m1; omega)) (congrArg Prod.snd D).symm
          ·
            rw [if_neg (by omega)] at D
            refine x_iconst (v := 1) rfl ki_1 ?_
            refine x_goto (tgt := 42) rfl rfl ?_
            refine x_zret rfl rfl (by decide) ?_
            show jX m_X11_soulOn 7 0 0 15 [(0, .ref 31), (1, .int a1), (2, .int a2)] [.int 1] _ 0 0 _
            refine x_ifne (tgt := 20) rfl rfl (ti_ne jk_1 jk_0 (bn_t (by omega) ?_))
            refine x_aloadn (x := 31) rfl rfl ?_
            refine z_getR (N := 13) (b := 78) 11 4 rfl f_11_41 rfl J rfl 3972 ⟨rfl, rfl⟩ rfl ?_
            refine x_iloadn (x := a2) rfl rfl ?_
            refine x_inv (N := m_X7_asKnown) (As := [.int a2]) (b := 78) (st := []) (dx9 := 6) (mc := 0) (ms := 0) (host := "") 7 rfl t_X7_asKnown ⟨Or.inl q_11_240, i_X7_asKnown.1, i_X7_asKnown.2⟩ ⟨by decide, rfl⟩ (congrArg Prod.fst (J.1.1 78 (7, 16) rfl)) rfl (by decide) rfl rfl ⟨by decide, by decide⟩ (sf_X7_asKnown_r78d (jr_of rfl (by omega)) hD J rfl  (fun h J S10 X11 => ?_))
            have Sm := jSm_tr rfl Sm S10
            rw [X11] at D
            show jX m_X11_soulOn 7 0 0 28 [(0, .ref 31), (1, .int a1), (2, .int a2)] [] _ 0 0 _
            refine x_aloadn (x := 31) rfl rfl ?_
            refine z_getR (N := 13) (b := 78) 11 4 rfl f_11_41 rfl J rfl 3972 ⟨rfl, rfl⟩ rfl ?_
            refine z_getR (N := 16) (b := 82) 7 10 rfl f_11_537 rfl J rfl 9994 ⟨rfl, rfl⟩ rfl ?_
            refine x_iloadn (x := a1) rfl rfl ?_
            refine z_iald (N := 600) rfl J rfl sg_82_0_600_1_0_1 rfl (by omega) (fun v12 qv12 ev12 => ?_)
            try rw [vrd qv12 (show a1.toInt = a1.toInt from by omega)] at D
            refine x_iret rfl rfl ?_
            show jX m_X11_soul 8 0 0 6 [(0, .ref 31), (1, .int a1), (2, .int a2)] [.int v12] _ 0 0 _
            refine x_iret rfl rfl ?_
            exact hQ _ _ (jr_of rfl (by omega)) J Sm ((congrArg Prod.fst D).symm.trans (show v12.toInt = v12.toInt from by omega)) (congrArg Prod.snd D).symm
def fp_X11_span_r31d : jFp := [(78, 13, 14), (82, 0, 600), (83, 0, 600), (84, 0, 200), (85, 0, 4), (86, 0, 3)]
set_option maxRecDepth 100000 in
set_option maxHeartbeats 4000000 in
theorem ct_X11_span_r31d_23 {Dy : jH → Prop} {h0 : jH} {Q : Option Value → jH → Prop} {dr : (Int × jW)} (hD : jDk Dy) (hQ : ∀ (v : Int32) hx9, jJ jSgX Dy hx9 → jSm fp_X11_span_r31d h0 hx9 → dr.1 = v.toInt → dr.2 = vw hx9 → Q (some (.int v)) hx9) : ∀ (h : jH), jJ jSgX Dy h → jSm fp_X11_span_r31d h0 h → d_X11_span_r31d_23  (vw h) = dr → jX m_X11_span 8 0 0 23 [] [] h 0 0 Q := by
  intro  h    J Sm D
  unfold d_X11_span_r31d_23 at D
  refine x_iconst (v := (-1)) rfl ki_m1 ?_
  refine x_iret rfl rfl ?_
  exact hQ _ _ J Sm ((congrArg Prod.fst D).symm.trans (show (-1) = ((-1) : Int32).toInt from by have := jk_m1; omega)) (congrArg Prod.snd D).symm
set_option maxRecDepth 100000 in
set_option maxHeartbeats 4000000 in
theorem sf_X11_span_r31d {Dy : jH → Prop} {h : jH} {Q : Option Value → jH → Prop} {dr : (Int × jW)} {a1 : Int32} {a2 : Int32} {a3 : Int32} (hD : jDk Dy) (J : jJ jSgX Dy h) (D : d_X11_span_r31d a1.toInt a2.toInt a3.toInt (vw h) = dr) (hQ : ∀ (v : Int32) hx9, jJ jSgX Dy hx9 → jSm fp_X11_span_r31d h hx9 → dr.1 = v.toInt → dr.2 = vw hx9 → Q (some (.int v)) hx9) : jC m_X11_span 8 0 0 [.ref 31, .int a1, .int a2, .int a3] h Q := by
  refine jC.of rfl k_X11_span rfl ?_
  have Sm := jSm_rf fp_X11_span_r31d h
  have ea1 := jfull a1
  have ea2 := jfull a2
  have ea3 := jfull a3
  show jX m_X11_span 8 0 0 0 [(0, .ref 31), (1, .int a1), (2, .int a2), (3, .int a3)] [] _ 0 0 _
  unfold d_X11_span_r31d at D
  refine x_aloadn (x := 31) rfl rfl ?_
  refine x_iloadn (x := a1) rfl rfl ?_
  refine x_iloadn (x := a2) rfl rfl ?_
  refine x_inv (N := m_X11_soulOn) (As := [.int a1, .int a2]) (b := 31) (st := []) (dx9 := 7) (mc := 0) (ms := 0) (host := "") 11 rfl t_X11_soulOn ⟨Or.inl q_11_234, i_X11_soulOn.1, i_X11_soulOn.2⟩ ⟨by decide, rfl⟩ (congrArg Prod.fst (J.1.1 31 (11, 13) rfl)) rfl (by decide) rfl rfl ⟨by decide, by decide⟩ (jC.of rfl k_X11_soulOn rfl ?_)
  show jX m_X11_soulOn 7 0 0 0 [(0, .ref 31), (1, .int a1), (2, .int a2)] [] _ 0 0 _
  refine x_iloadn (x := a2) rfl rfl ?_
  refine x_inst (N := m_X11_isDay) (As := [.int a2]) (st := []) (dx9 := 1) (mc := 0) (ms := 0) (host := "") rfl t_X11_isDay ⟨Or.inl q_11_115, s_X11_isDay⟩ rfl (by decide) rfl rfl ⟨by decide, by decide⟩ (zc_X11_isDay rfl (fun v1 ev1 => ?_))
  show jX m_X11_soulOn 7 0 0 4 [(0, .ref 31), (1, .int a1), (2, .int a2)] [.int v1] _ 0 0 _
  refine x_ifeq (tgt := 18) rfl rfl (ti_eq rfl jk_0 ⟨fun c2 => ?_, fun c2 => ?_⟩)
  ·
    rw [if_neg (by omega)] at D
    refine x_iconst (v := (-1)) rfl ki_m1 ?_
    refine x_iret rfl rfl ?_
    show jX m_X11_span 8 0 0 6 [(0, .ref 31), (1, .int a1), (2, .int a2), (3, .int a3)] [.int (-1)] _ 0 0 _
    refine x_istore (lsx9 := [(4, .int (-1)), (0, .ref 31), (1, .int a1), (2, .int a2), (3, .int a3)]) rfl rfl rfl ?_
    refine x_iload (x := (-1)) rfl rfl ?_
    refine x_iconst (v := (-1)) rfl ki_m1 ?_
    refine x_iceq (tgt := 23) rfl rfl (ti_eq jk_m1 jk_m1 (br_t (by omega) ?_))
    exact jX.sub jsb_n (ct_X11_span_r31d_23 hD hQ  h J Sm D)
  ·
    rw [if_pos (by omega)] at D
    refine x_aloadn (x := 31) rfl rfl ?_
    refine z_getR (N := 13) (b := 78) 11 4 rfl f_11_41 rfl J rfl 3972 ⟨rfl, rfl⟩ rfl ?_
    refine x_iloadn (x := a1) rfl rfl ?_
    refine x_inv (N := m_X7_isMention) (As := [.int a1]) (b := 78) (st := []) (dx9 := 6) (mc := 0) (ms := 0) (host := "") 7 rfl t_X7_isMention ⟨Or.inl q_11_187, i_X7_isMention.1, i_X7_isMention.2⟩ ⟨by decide, rfl⟩ (congrArg Prod.fst (J.1.1 78 (7, 16) rfl)) rfl (by decide) rfl rfl ⟨by decide, by decide⟩ (jC.of rfl k_X7_isMention rfl ?_)
    show jX m_X7_isMention 6 0 0 0 [(0, .ref 78), (1, .int a1)] [] _ 0 0 _
    refine x_iloadn (x := a1) rfl rfl ?_
    refine x_iflt (tgt := 41) rfl rfl (ti_lt rfl jk_0 ⟨fun c3 => ?_, fun c3 => ?_⟩)
    ·
      rw [if_pos (by omega)] at D
      refine x_iconst (v := 0) rfl ki_0 ?_
      refine x_zret rfl rfl (by decide) ?_
      show jX m_X11_soulOn 7 0 0 15 [(0, .ref 31), (1, .int a1), (2, .int a2)] [.int 0] _ 0 0 _
      refine x_ifne (tgt := 20) rfl rfl (ti_ne jk_0 jk_0 (bn_f (by omega) ?_))
      refine x_iconst (v := (-1)) rfl ki_m1 ?_
      refine x_iret rfl rfl ?_
      show jX m_X11_span 8 0 0 6 [(0, .ref 31), (1, .int a1), (2, .int a2), (3, .int a3)] [.int (-1)] _ 0 0 _
      refine x_istore (lsx9 := [(4, .int (-1)), (0, .ref 31), (1, .int a1), (2, .int a2), (3, .int a3)]) rfl rfl rfl ?_
      refine x_iload (x := (-1)) rfl rfl ?_
      refine x_iconst (v := (-1)) rfl ki_m1 ?_
      refine x_iceq (tgt := 23) rfl rfl (ti_eq jk_m1 jk_m1 (br_t (by omega) ?_))
      exact jX.sub jsb_n (ct_X11_span_r31d_23 hD hQ  h J Sm D)
    ·
      rw [if_neg (by omega)] at D
      refine x_iloadn (x := a1) rfl rfl ?_
      refine x_sipush (v := 600) rfl ks_600 ?_
      refine x_icge (tgt := 41) rfl rfl (ti_ge rfl jk_600 ⟨fun c4 => ?_, fun c4 => ?_⟩)
      ·
        rw [if_pos (by omega)] at D
        refine x_iconst (v := 0) rfl ki_0 ?_
        refine x_zret rfl rfl (by decide) ?_
        show jX m_X11_soulOn 7 0 0 15 [(0, .ref 31), (1, .int a1), (2, .int a2)] [.int 0] _ 0 0 _
        refine x_ifne (tgt := 20) rfl rfl (ti_ne jk_0 jk_0 (bn_f (by omega) ?_))
        refine x_iconst (v := (-1)) rfl ki_m1 ?_
        refine x_iret rfl rfl ?_
        show jX m_X11_span 8 0 0 6 [(0, .ref 31), (1, .int a1), (2, .int a2), (3, .int a3)] [.int (-1)] _ 0 0 _
        refine x_istore (lsx9 := [(4, .int (-1)), (0, .ref 31), (1, .int a1), (2, .int a2), (3, .int a3)]) rfl rfl rfl ?_
        refine x_iload (x := (-1)) rfl rfl ?_
        refine x_iconst (v := (-1)) rfl ki_m1 ?_
        refine x_iceq (tgt := 23) rfl rfl (ti_eq jk_m1 jk_m1 (br_t (by omega) ?_))
        exact jX.sub jsb_n (ct_X11_span_r31d_23 hD hQ  h J Sm D)
      ·
        rw [if_neg (by omega)] at D
        refine x_iloadn (x := a1) rfl rfl ?_
        refine x_iconst (v := 3) rfl ki_3 ?_
        refine z_idiv rfl rfl jk_3 (by omega) (by omega) (fun v5 ev5 => ?_)
        refine x_aloadn (x := 78) rfl rfl ?_
        refine z_getR (N := 16) (b := 32) 7 0 rfl f_7_55 rfl J rfl 9984 ⟨rfl, rfl⟩ rfl ?_
        refine z_getR (N := 20) (b := 33) 1 0 rfl f_7_63 rfl J rfl 4096 ⟨rfl, rfl⟩ rfl ?_
        refine z_getI (N := 4) 8 3 rfl f_7_85 rfl J rfl sg_33_3_4_1_0_1 (fun v6 qv6 ev6 => ?_)
        try rw [vrf qv6] at D
        refine x_icge (tgt := 41) rfl rfl (ti_ge rfl rfl ⟨fun c7 => ?_, fun c7 => ?_⟩)
        ·
          rw [if_pos (by omega)] at D
          refine x_iconst (v := 0) rfl ki_0 ?_
          refine x_zret rfl rfl (by decide) ?_
          show jX m_X11_soulOn 7 0 0 15 [(0, .ref 31), (1, .int a1), (2, .int a2)] [.int 0] _ 0 0 _
          refine x_ifne (tgt := 20) rfl rfl (ti_ne jk_0 jk_0 (bn_f (by omega) ?_))
          refine x_iconst (v := (-1)) rfl ki_m1 ?_
          refine x_iret rfl rfl ?_
          show jX m_X11_span 8 0 0 6 [(0, .ref 31), (1, .int a1), (2, .int a2), (3, .int a3)] [.int (-1)] _ 0 0 _
          refine x_istore (lsx9 := [(4, .int (-1)), (0, .ref 31), (1, .int a1), (2, .int a2), (3, .int a3)]) rfl rfl rfl ?_
          refine x_iload (x := (-1)) rfl rfl ?_
          refine x_iconst (v := (-1)) rfl ki_m1 ?_
          refine x_iceq (tgt := 23) rfl rfl (ti_eq jk_m1 jk_m1 (br_t (by omega) ?_))
          exact jX.sub jsb_n (ct_X11_span_r31d_23 hD hQ  h J Sm D)
        ·
          rw [if_neg (by omega)] at D
          refine x_aloadn (x := 78) rfl rfl ?_
          refine z_getR (N := 16) (b := 79) 7 7 rfl f_7_27 rfl J rfl 9991 ⟨rfl, rfl⟩ rfl ?_
          refine x_iloadn (x := a1) rfl rfl ?_
          refine z_iald (N := 600) rfl J rfl sg_79_0_600_1_0_1 rfl (by omega) (fun v8 qv8 ev8 => ?_)
          try rw [vrd qv8 (show a1.toInt = a1.toInt from by omega)] at D
          refine x_iconst (v := (-1)) rfl ki_m1 ?_
          refine x_iceq (tgt := 41) rfl rfl (ti_eq rfl jk_m1 ⟨fun c9 => ?_, fun c9 => ?_⟩)
          ·
            rw [if_pos (by omega)] at D
            refine x_iconst (v := 0) rfl ki_0 ?_
            refine x_zret rfl rfl (by decide) ?_
            show jX m_X11_soulOn 7 0 0 15 [(0, .ref 31), (1, .int a1), (2, .int a2)] [.int 0] _ 0 0 _
            refine x_ifne (tgt := 20) rfl rfl (ti_ne jk_0 jk_0 (bn_f (by omega) ?_))
            refine x_iconst (v := (-1)) rfl ki_m1 ?_
            refine x_iret rfl rfl ?_
            show jX m_X11_span 8 0 0 6 [(0, .ref 31), (1, .int a1), (2, .int a2), (3, .int a3)] [.int (-1)] _ 0 0 _
            refine x_istore (lsx9 := [(4, .int (-1)), (0, .ref 31), (1, .int a1), (2, .int a2), (3, .int a3)]) rfl rfl rfl ?_
            refine x_iload (x := (-1)) rfl rfl ?_
            refine x_iconst (v := (-1)) rfl ki_m1 ?_
            refine x_iceq (tgt := 23) rfl rfl (ti_eq jk_m1 jk_m1 (br_t (by omega) ?_))
            exact jX.sub jsb_n (ct_X11_span_r31d_23 hD hQ  h J Sm D)
          ·
            rw [if_neg (by omega)] at D
            refine x_iconst (v := 1) rfl ki_1 ?_
            refine x_goto (tgt := 42) rfl rfl ?_
            refine x_zret rfl rfl (by decide) ?_
            show jX m_X11_soulOn 7 0 0 15 [(0, .ref 31), (1, .int a1), (2, .int a2)] [.int 1] _ 0 0 _
            refine x_ifne (tgt := 20) rfl rfl (ti_ne jk_1 jk_0 (bn_t (by omega) ?_))
            refine x_aloadn (x := 31) rfl rfl ?_
            refine z_getR (N := 13) (b := 78) 11 4 rfl f_11_41 rfl J rfl 3972 ⟨rfl, rfl⟩ rfl ?_
            refine x_iloadn (x := a2) rfl rfl ?_
            refine x_inv (N := m_X7_asKnown) (As := [.int a2]) (b := 78) (st := []) (dx9 := 6) (mc := 0) (ms := 0) (host := "") 7 rfl t_X7_asKnown ⟨Or.inl q_11_240, i_X7_asKnown.1, i_X7_asKnown.2⟩ ⟨by decide, rfl⟩ (congrArg Prod.fst (J.1.1 78 (7, 16) rfl)) rfl (by decide) rfl rfl ⟨by decide, by decide⟩ (sf_X7_asKnown_r78d (jr_of rfl (by omega)) hD J rfl  (fun h J S10 X11 => ?_))
            have Sm := jSm_tr rfl Sm S10
            rw [X11] at D
            show jX m_X11_soulOn 7 0 0 28 [(0, .ref 31), (1, .int a1), (2, .int a2)] [] _ 0 0 _
            refine x_aloadn (x := 31) rfl rfl ?_
            refine z_getR (N := 13) (b := 78) 11 4 rfl f_11_41 rfl J rfl 3972 ⟨rfl, rfl⟩ rfl ?_
            refine z_getR (N := 16) (b := 82) 7 10 rfl f_11_537 rfl J rfl 9994 ⟨rfl, rfl⟩ rfl ?_
            refine x_iloadn (x := a1) rfl rfl ?_
            refine z_iald (N := 600) rfl J rfl sg_82_0_600_1_0_1 rfl (by omega) (fun v12 qv12 ev12 => ?_)
            try rw [vrd qv12 (show a1.toInt = a1.toInt from by omega)] at D
            refine x_iret rfl rfl ?_
            show jX m_X11_span 8 0 0 6 [(0, .ref 31), (1, .int a1), (2, .int a2), (3, .int a3)] [.int v12] _ 0 0 _
            refine x_istore (lsx9 := [(4, .int v12), (0, .ref 31), (1, .int a1), (2, .int a2), (3, .int a3)]) rfl rfl rfl ?_
            refine x_iload (x := v12) rfl rfl ?_
            refine x_iconst (v := (-1)) rfl ki_m1 ?_
            refine x_iceq (tgt := 23) rfl rfl (ti_eq rfl jk_m1 ⟨fun c13 => ?_, fun c13 => ?_⟩)
            ·
              rw [if_pos (by omega)] at D
              exact jX.sub jsb_n (ct_X11_span_r31d_23 hD hQ  h J Sm D)
            ·
              rw [if_neg (by omega)] at D
              refine x_iloadn (x := a3) rfl rfl ?_
              refine x_iflt (tgt := 23) rfl rfl (ti_lt rfl jk_0 ⟨fun c14 => ?_, fun c14 => ?_⟩)
              ·
                rw [if_pos (by omega)] at D
                exact jX.sub jsb_n (ct_X11_span_r31d_23 hD hQ  h J Sm D)
              ·
                rw [if_neg (by omega)] at D
                refine x_iloadn (x := a3) rfl rfl ?_
                refine x_iconst (v := 3) rfl ki_3 ?_
                refine x_icle (tgt := 25) rfl rfl (ti_le rfl jk_3 ⟨fun c15 => ?_, fun c15 => ?_⟩)
                ·
                  rw [if_pos (by omega)] at D
                  refine x_aloadn (x := 31) rfl rfl ?_
                  refine z_getR (N := 13) (b := 78) 11 4 rfl f_11_41 rfl J rfl 3972 ⟨rfl, rfl⟩ rfl ?_
                  refine x_iload (x := v12) rfl rfl ?_
                  refine x_inv (N := m_X7_readSpan) (As := [.int v12]) (b := 78) (st := []) (dx9 := 1) (mc := 0) (ms := 0) (host := "") 7 rfl t_X7_readSpan ⟨Or.inl q_11_264, i_X7_readSpan.1, i_X7_readSpan.2⟩ ⟨by decide, rfl⟩ (congrArg Prod.fst (J.1.1 78 (7, 16) rfl)) rfl (by decide) rfl rfl ⟨by decide, by decide⟩ (sf_X7_readSpan_r78d (jr_of rfl (by omega)) hD J rfl  (fun h J S16 X17 => ?_))
                  have Sm := jSm_tr rfl Sm S16
                  rw [X17] at D
                  show jX m_X11_span 8 0 0 34 [(4, .int v12), (0, .ref 31), (1, .int a1), (2, .int a2), (3, .int a3)] [] _ 0 0 _
                  refine x_aloadn (x := 31) rfl rfl ?_
                  refine z_getR (N := 13) (b := 78) 11 4 rfl f_11_41 rfl J rfl 3972 ⟨rfl, rfl⟩ rfl ?_
                  refine z_getR (N := 16) (b := 85) 7 14 rfl f_11_267 rfl J rfl 9998 ⟨rfl, rfl⟩ rfl ?_
                  refine x_iloadn (x := a3) rfl rfl ?_
                  refine z_iald0 (N := 4) rfl J rfl rfl (by omega) (fun v18 qv18 => ?_)
                  have ev18 := jfull v18
                  try rw [vrd qv18 (show a3.toInt = a3.toInt from by omega)] at D
                  refine x_iret rfl rfl ?_
                  exact hQ _ _ J Sm ((congrArg Prod.fst D).symm.trans (show v18.toInt = v18.toInt from by omega)) (congrArg Prod.snd D).symm
                ·
                  rw [if_neg (by omega)] at D
                  exact jX.sub jsb_n (ct_X11_span_r31d_23 hD hQ  h J Sm D)
def fp_X5_readSide_r70d : jFp := [(68, 3, 4), (68, 4, 5), (68, 5, 6), (72, 0, 64)]
set_option maxRecDepth 100000 in
set_option maxHeartbeats 4000000 in
theorem ct_X5_readSide_r70d_28 {Dy : jH → Prop} {h0 : jH} {Q : Option Value → jH → Prop} {dr : (Int × jW)} (hD : jDk Dy) (hQ : ∀ (v : Int32) hx9, 0 ≤ v.toInt ∧ v.toInt ≤ 1 → jJ jSgX Dy hx9 → jSm fp_X5_readSide_r70d h0 hx9 → ∀ u0 u1 : Int32, jiv hx9 68 5 = u0 → jiv hx9 68 3 = u1 → (u0.toInt ≠ 3 ∨ u1.toInt ≤ 399) → dr.1 = v.toInt → dr.2 = vw hx9 → Q (some (.int v)) hx9) : ∀ (g0 : Int32) (g1 : Int32) (h : jH), 0 ≤ g0.toInt ∧ g0.toInt ≤ 400 → 0 ≤ g1.toInt ∧ g1.toInt ≤ 3 → (g1.toInt ≠ 3 ∨ g0.toInt ≤ 399) → jiv h 68 3 = g0 → jiv h 68 5 = g1 → jJ jSgX Dy h → jSm fp_X5_readSide_r70d h0 h → d_X5_readSide_r70d_28  (vw h) = dr → jX m_X5_readSide 3 0 0 28 [] [] h 0 0 Q := by
  intro g0 g1 h y0 y1 y2 z0 z1  J Sm D
  unfold d_X5_readSide_r70d_28 at D
  try rw [vrf z0] at D
  try rw [vrf z1] at D
  refine x_iconst (v := 0) rfl ki_0 ?_
  refine x_zret rfl rfl (by decide) ?_
  exact hQ _ _ (jr_of jk_0 (by omega)) J Sm _ _ z1 z0 (by omega) ((congrArg Prod.fst D).symm.trans (show 0 = (0 : Int32).toInt from by have := jk_0; omega)) (congrArg Prod.snd D).symm
set_option maxRecDepth 100000 in
set_option maxHeartbeats 4000000 in
theorem ct_X5_readSide_r70d_39 {Dy : jH → Prop} {h0 : jH} {Q : Option Value → jH → Prop} {dr : (Int × jW)} (hD : jDk Dy) (hQ : ∀ (v : Int32) hx9, 0 ≤ v.toInt ∧ v.toInt ≤ 1 → jJ jSgX Dy hx9 → jSm fp_X5_readSide_r70d h0 hx9 → ∀ u0 u1 : Int32, jiv hx9 68 5 = u0 → jiv hx9 68 3 = u1 → (u0.toInt ≠ 3 ∨ u1.toInt ≤ 399) → dr.1 = v.toInt → dr.2 = vw hx9 → Q (some (.int v)) hx9) : ∀ r : Nat, ∀ (l1 : Int32) (l2 : Int32) (l3 : Int32) (g0 : Int32) (g1 : Int32) (g2 : Int32) (h : jH), 3 - l3.toInt < (r : Int) → 0 ≤ l1.toInt ∧ l1.toInt ≤ 60 → l1.toInt % 4 = 0 → (-400) ≤ l2.toInt ∧ l2.toInt ≤ 3 → 0 ≤ l3.toInt ∧ l3.toInt ≤ 3 → 0 ≤ g0.toInt ∧ g0.toInt ≤ 400 → 0 ≤ g1.toInt ∧ g1.toInt ≤ 400 → 0 ≤ g2.toInt ∧ g2.toInt ≤ 3 → (g2.toInt ≠ 3 ∨ g0.toInt ≤ 399) → jiv h 68 3 = g0 → jiv h 68 4 = g1 → jiv h 68 5 = g2 → jJ jSgX Dy h → jSm fp_X5_readSide_r70d h0 h → d_X5_readSide_r70d_39 r l1.toInt l2.toInt l3.toInt (vw h) = dr → jX m_X5_readSide 3 0 0 39 [(0, .ref 70), (1, .int l1), (2, .int l2), (3, .int l3)] [] h 0 0 Q := by
  intro r
  induction r with
  | zero =>
    intro l1 l2 l3 g0 g1 g2 h hm y0 y1 y2 y3 y4 y5 y6 y7 z0 z1 z2  J Sm D
    exfalso
    omega
  | succ r ih =>
    intro l1 l2 l3 g0 g1 g2 h hm y0 y1 y2 y3 y4 y5 y6 y7 z0 z1 z2  J Sm D
    rw [d_X5_readSide_r70d_39.eq_2] at D
    try rw [vrf z0] at D
    try rw [vrf z1] at D
    try rw [vrf z2] at D
    refine x_iloadn (x := l3) rfl rfl ?_
    refine x_iloadn (x := l2) rfl rfl ?_
    refine x_icge (tgt := 68) rfl rfl (ti_ge rfl rfl ⟨fun c1 => ?_, fun c1 => ?_⟩)
    ·
      rw [if_pos (by omega)] at D
      refine x_aloadn (x := 70) rfl rfl ?_
      refine z_getR (N := 9) (b := 68) 5 1 rfl f_5_39 rfl J rfl 8961 ⟨rfl, rfl⟩ rfl ?_
      refine x_inv (N := m_X9_step) (As := []) (b := 68) (st := []) (dx9 := 2) (mc := 0) (ms := 0) (host := "") 9 rfl t_X9_step ⟨Or.inl q_5_67, i_X9_step.1, i_X9_step.2⟩ ⟨by decide, rfl⟩ (congrArg Prod.fst (J.1.1 68 (9, 6) rfl)) rfl (by decide) rfl rfl ⟨by decide, by decide⟩ (sf_X9_step_r68d  hD J z2 z0 (by omega) rfl  (fun h J S2 u3 u4 qu3 qu4 ru3 X5 => ?_))
      have Sm := jSm_tr rfl Sm S2
      rw [X5] at D
      have eu3 := (show 0 ≤ u3.toInt ∧ u3.toInt ≤ 3 from qu3 ▸ jrg_f J sg_68_5_6_1_0_1)
      try rw [vrf qu3] at D
      have eu4 := (show 0 ≤ u4.toInt ∧ u4.toInt ≤ 400 from qu4 ▸ jrg_f J sg_68_3_4_1_0_1)
      try rw [vrf qu4] at D
      show jX m_X5_readSide 3 0 0 75 [(0, .ref 70), (1, .int l1), (2, .int l2), (3, .int l3)] [] _ 0 0 _
      refine x_iconst (v := 1) rfl ki_1 ?_
      refine x_zret rfl rfl (by decide) ?_
      exact hQ _ _ (jr_of jk_1 (by omega)) J Sm _ _ qu3 qu4 (by omega) ((congrArg Prod.fst D).symm.trans (show 1 = (1 : Int32).toInt from by have := jk_1; omega)) (congrArg Prod.snd D).symm
    ·
      rw [if_neg (by omega)] at D
      refine x_aloadn (x := 70) rfl rfl ?_
      refine z_getR (N := 9) (b := 72) 5 3 rfl f_5_15 rfl J rfl 8963 ⟨rfl, rfl⟩ rfl ?_
      refine x_iloadn (x := l1) rfl rfl ?_
      refine x_iconst (v := 1) rfl ki_1 ?_
      refine z_iadd rfl rfl jk_1 (by omega) (fun v6 ev6 => ?_)
      refine x_iloadn (x := l3) rfl rfl ?_
      refine z_iadd rfl rfl rfl (by omega) (fun v7 ev7 => ?_)
      refine x_aloadn (x := 70) rfl rfl ?_
      refine z_getR (N := 9) (b := 68) 5 1 rfl f_5_39 rfl J rfl 8961 ⟨rfl, rfl⟩ rfl ?_
      refine x_iloadn (x := l3) rfl rfl ?_
      refine x_inv (N := m_X9_letter) (As := [.int l3]) (b := 68) (st := [.int v7, .ref 72]) (dx9 := 2) (mc := 0) (ms := 0) (host := "") 9 rfl t_X9_letter ⟨Or.inl q_5_79, i_X9_letter.1, i_X9_letter.2⟩ ⟨by decide, rfl⟩ (congrArg Prod.fst (J.1.1 68 (9, 6) rfl)) rfl (by decide) rfl rfl ⟨by decide, by decide⟩ (jC.of rfl k_X9_letter rfl ?_)
      show jX m_X9_letter 2 0 0 0 [(0, .ref 68), (1, .int l3)] [] _ 0 0 _
      refine x_iloadn (x := l3) rfl rfl ?_
      refine x_iflt (tgt := 31) rfl rfl (ti_lt rfl jk_0 (br_f (by omega) ?_))
      refine x_iloadn (x := l3) rfl rfl ?_
      refine x_aloadn (x := 68) rfl rfl ?_
      refine z_getM (N := 6) (v := g1) 9 4 rfl f_9_25 rfl J rfl z1 ?_
      refine x_aloadn (x := 68) rfl rfl ?_
      refine z_getM (N := 6) (v := g0) 9 3 rfl f_9_22 rfl J rfl z0 ?_
      refine z_isub rfl rfl rfl (by omega) (fun v8 ev8 => ?_)
      refine x_icge (tgt := 31) rfl rfl (ti_ge rfl rfl ⟨fun c9 => ?_, fun c9 => ?_⟩)
      ·
        rw [if_pos (by omega)] at D
        refine x_iconst (v := 0) rfl ki_0 ?_
        refine x_iret rfl rfl ?_
        show jX m_X5_readSide 3 0 0 61 [(0, .ref 70), (1, .int l1), (2, .int l2), (3, .int l3)] [.int 0, .int v7, .ref 72] _ 0 0 _
        refine z_iast (N := 64) (l := 0) (u := 64) (w := 0) rfl hD J Sm rfl rfl rfl (by omega) jk_0 (wr_72 (fun q1 q2 q3 q4 => by omega) (fun q1 q2 q3 q4 => by omega) (fun q1 q2 q3 q4 => by omega)) rfl (fun h w10 J Sm => ?_)
        rw [vww w10 (show ((l1.toInt + 1) + l3.toInt) = v7.toInt from by omega) (show 0 = (0 : Int32).toInt from by have := jk_0; omega)] at D
        refine z_iinc (x := l3) (lsx9 := fun v11 => [(3, .int v11), (0, .ref 70), (1, .int l1), (2, .int l2)]) rfl rfl rfl jko_1 (by omega) rfl (fun _ => rfl) (fun v11 ev11 => ?_)
        refine x_goto (tgt := 39) rfl rfl ?_
        try rw [show (l3.toInt + 1) = v11.toInt from by omega] at D
        exact jX.sub (jsb_c rfl (jsb_c rfl (jsb_c rfl (jsb_c rfl jsb_n)))) (ih l1 l2 v11 g0 g1 g2 h (by omega) (jr_of rfl (by omega)) (jr_mod rfl (by omega)) (jr_of rfl (by omega)) (jr_of rfl (by omega)) (jr_of rfl (by omega)) (jr_of rfl (by omega)) (jr_of rfl (by omega)) (by omega) (jmo w10 rfl z0) (jmo w10 rfl z1) (jmo w10 rfl z2) J Sm D)
      ·
        rw [if_neg (by omega)] at D
        refine x_aloadn (x := 68) rfl rfl ?_
        refine z_getR (N := 6) (b := 69) 9 0 rfl f_9_11 rfl J rfl 8704 ⟨rfl, rfl⟩ rfl ?_
        refine x_aloadn (x := 68) rfl rfl ?_
        refine z_getM (N := 6) (v := g0) 9 3 rfl f_9_22 rfl J rfl z0 ?_
        refine x_iloadn (x := l3) rfl rfl ?_
        refine z_iadd rfl rfl rfl (by omega) (fun v12 ev12 => ?_)
        refine z_iald (N := 400) rfl J rfl sg_69_0_400_1_0_1 rfl (by omega) (fun v13 qv13 ev13 => ?_)
        try rw [vrd qv13 (show (g0.toInt + l3.toInt) = v12.toInt from by omega)] at D
        refine x_goto (tgt := 32) rfl rfl ?_
        refine x_iret rfl rfl ?_
        show jX m_X5_readSide 3 0 0 61 [(0, .ref 70), (1, .int l1), (2, .int l2), (3, .int l3)] [.int v13, .int v7, .ref 72] _ 0 0 _
        refine z_iast (N := 64) (l := 0) (u := 64) (w := v13.toInt) rfl hD J Sm rfl rfl rfl (by omega) rfl (wr_72 (fun q1 q2 q3 q4 => by omega) (fun q1 q2 q3 q4 => by omega) (fun q1 q2 q3 q4 => by omega)) rfl (fun h w14 J Sm => ?_)
        rw [vww w14 (show ((l1.toInt + 1) + l3.toInt) = v7.toInt from by omega) (show v13.toInt = v13.toInt from by omega)] at D
        refine z_iinc (x := l3) (lsx9 := fun v15 => [(3, .int v15), (0, .ref 70), (1, .int l1), (2, .int l2)]) rfl rfl rfl jko_1 (by omega) rfl (fun _ => rfl) (fun v15 ev15 => ?_)
        refine x_goto (tgt := 39) rfl rfl ?_
        try rw [show (l3.toInt + 1) = v15.toInt from by omega] at D
        exact jX.sub (jsb_c rfl (jsb_c rfl (jsb_c rfl (jsb_c rfl jsb_n)))) (ih l1 l2 v15 g0 g1 g2 h (by omega) (jr_of rfl (by omega)) (jr_mod rfl (by omega)) (jr_of rfl (by omega)) (jr_of rfl (by omega)) (jr_of rfl (by omega)) (jr_of rfl (by omega)) (jr_of rfl (by omega)) (by omega) (jmo w14 rfl z0) (jmo w14 rfl z1) (jmo w14 rfl z2) J Sm D)
set_option maxRecDepth 100000 in
set_option maxHeartbeats 4000000 in
theorem sf_X5_readSide_r70d {Dy : jH → Prop} {h : jH} {Q : Option Value → jH → Prop} {dr : (Int × jW)} {a1 : Int32} (y1 : 0 ≤ a1.toInt ∧ a1.toInt ≤ 60) (ym1 : a1.toInt % 4 = 0) (hD : jDk Dy) (J : jJ jSgX Dy h) {p0 p1 : Int32} (zp0 : jiv h 68 5 = p0) (zp1 : jiv h 68 3 = p1) (rl_p0 : (p0.toInt ≠ 3 ∨ p1.toInt ≤ 399)) (D : d_X5_readSide_r70d a1.toInt (vw h) = dr) (hQ : ∀ (v : Int32) hx9, 0 ≤ v.toInt ∧ v.toInt ≤ 1 → jJ jSgX Dy hx9 → jSm fp_X5_readSide_r70d h hx9 → ∀ u0 u1 : Int32, jiv hx9 68 5 = u0 → jiv hx9 68 3 = u1 → (u0.toInt ≠ 3 ∨ u1.toInt ≤ 399) → dr.1 = v.toInt → dr.2 = vw hx9 → Q (some (.int v)) hx9) : jC m_X5_readSide 3 0 0 [.ref 70, .int a1] h Q := by
  refine jC.of rfl k_X5_readSide rfl ?_
  have Sm := jSm_rf fp_X5_readSide_r70d h
  have ep0 := (show 0 ≤ p0.toInt ∧ p0.toInt ≤ 3 from zp0 ▸ jrg_f J sg_68_5_6_1_0_1)
  have ep1 := (show 0 ≤ p1.toInt ∧ p1.toInt ≤ 400 from zp1 ▸ jrg_f J sg_68_3_4_1_0_1)
  show jX m_X5_readSide 3 0 0 0 [(0, .ref 70), (1, .int a1)] [] _ 0 0 _
  unfold d_X5_readSide_r70d at D
  try rw [vrf zp0] at D
  try rw [vrf zp1] at D
  refine x_aloadn (x := 70) rfl rfl ?_
  refine z_getR (N := 9) (b := 68) 5 1 rfl f_5_39 rfl J rfl 8961 ⟨rfl, rfl⟩ rfl ?_
  refine x_inv (N := m_X9_size) (As := []) (b := 68) (st := []) (dx9 := 2) (mc := 0) (ms := 0) (host := "") 9 rfl t_X9_size ⟨Or.inl q_5_73, i_X9_size.1, i_X9_size.2⟩ ⟨by decide, rfl⟩ (congrArg Prod.fst (J.1.1 68 (9, 6) rfl)) rfl (by decide) rfl rfl ⟨by decide, by decide⟩ (jC.of rfl k_X9_size rfl ?_)
  show jX m_X9_size 2 0 0 0 [(0, .ref 68)] [] _ 0 0 _
  refine x_aloadn (x := 68) rfl rfl ?_
  refine z_getI (N := 6) 9 4 rfl f_9_25 rfl J rfl sg_68_4_5_1_0_1 (fun v1 qv1 ev1 => ?_)
  try rw [vrf qv1] at D
  refine x_aloadn (x := 68) rfl rfl ?_
  refine z_getM (N := 6) (v := p1) 9 3 rfl f_9_22 rfl J rfl zp1 ?_
  refine z_isub rfl rfl rfl (by omega) (fun v2 ev2 => ?_)
  refine x_iret rfl rfl ?_
  show jX m_X5_readSide 3 0 0 7 [(0, .ref 70), (1, .int a1)] [.int v2] _ 0 0 _
  refine x_istoren (lsx9 := [(2, .int v2), (0, .ref 70), (1, .int a1)]) rfl rfl rfl ?_
  refine x_iloadn (x := v2) rfl rfl ?_
  refine x_iconst (v := 3) rfl ki_3 ?_
  refine x_icgt (tgt := 28) rfl rfl (ti_gt rfl jk_3 ⟨fun c3 => ?_, fun c3 => ?_⟩)
  ·
    rw [if_pos (by omega)] at D
    exact jX.sub jsb_n (ct_X5_readSide_r70d_28 hD hQ  p1 p0 h (jr_of rfl (by omega)) (jr_of rfl (by omega)) (by omega) zp1 zp0 J Sm D)
  ·
    rw [if_neg (by omega)] at D
    refine x_iloadn (x := a1) rfl rfl ?_
    refine x_iflt (tgt := 28) rfl rfl (ti_lt rfl jk_0 (br_f (by omega) ?_))
    refine x_iloadn (x := a1) rfl rfl ?_
    refine x_iconst (v := 3) rfl ki_3 ?_
    refine z_iadd rfl rfl jk_3 (by omega) (fun v4 ev4 => ?_)
    refine x_aloadn (x := 70) rfl rfl ?_
    refine z_getR (N := 9) (b := 72) 5 3 rfl f_5_15 rfl J rfl 8963 ⟨rfl, rfl⟩ rfl ?_
    refine z_alen (N := 64) (v := 64) rfl J rfl rfl (by decide) ?_
    refine x_iclt (tgt := 30) rfl rfl (ti_lt rfl jk_64 (br_t (by omega) ?_))
    refine x_aloadn (x := 70) rfl rfl ?_
    refine z_getR (N := 9) (b := 72) 5 3 rfl f_5_15 rfl J rfl 8963 ⟨rfl, rfl⟩ rfl ?_
    refine x_iloadn (x := a1) rfl rfl ?_
    refine x_iloadn (x := v2) rfl rfl ?_
    refine z_iast (N := 64) (l := 0) (u := 64) (w := v2.toInt) rfl hD J Sm rfl rfl rfl (by omega) rfl (wr_72 (fun q1 q2 q3 q4 => by omega) (fun q1 q2 q3 q4 => by omega) (fun q1 q2 q3 q4 => by omega)) rfl (fun h w5 J Sm => ?_)
    rw [vww w5 (show a1.toInt = a1.toInt from by omega) (show (v1.toInt - p1.toInt) = v2.toInt from by omega)] at D
    refine x_iconst (v := 0) rfl ki_0 ?_
    refine x_istoren (lsx9 := [(3, .int 0), (2, .int v2), (0, .ref 70), (1, .int a1)]) rfl rfl rfl ?_
    try rw [show (v1.toInt - p1.toInt) = v2.toInt from by omega] at D
    exact jX.sub (jsb_c rfl (jsb_c rfl (jsb_c rfl (jsb_c rfl jsb_n)))) (ct_X5_readSide_r70d_39 hD hQ  4 a1 v2 0 p1 v1 p0 h (by have := jk_0; omega) (jr_of rfl (by omega)) (jr_mod rfl (by omega)) (jr_of rfl (by omega)) (jr_of jk_0 (by omega)) (jr_of rfl (by omega)) (jr_of rfl (by omega)) (jr_of rfl (by omega)) (by omega) (jmo w5 rfl zp1) (jmo w5 rfl qv1) (jmo w5 rfl zp0) J Sm (by rw [jk_0]; exact D))
def fp_X5_readPair_r70d : jFp := [(68, 2, 3), (68, 3, 4), (68, 4, 5), (68, 5, 6), (72, 0, 64)]
set_option maxRecDepth 100000 in
set_option maxHeartbeats 4000000 in
theorem ct_X5_readPair_r70d_18 {Dy : jH → Prop} {h0 : jH} {Q : Option Value → jH → Prop} {dr : (Int × jW)} (hD : jDk Dy) (hQ : ∀ (v : Int32) hx9, 0 ≤ v.toInt ∧ v.toInt ≤ 1 → jJ jSgX Dy hx9 → jSm fp_X5_readPair_r70d h0 hx9 → ∀ u0 u1 : Int32, jiv hx9 68 5 = u0 → jiv hx9 68 3 = u1 → (u0.toInt ≠ 3 ∨ u1.toInt ≤ 399) → dr.1 = v.toInt → dr.2 = vw hx9 → Q (some (.int v)) hx9) : ∀ (g0 : Int32) (g1 : Int32) (h : jH), 0 ≤ g0.toInt ∧ g0.toInt ≤ 400 → 0 ≤ g1.toInt ∧ g1.toInt ≤ 3 → (g1.toInt ≠ 3 ∨ g0.toInt ≤ 399) → jiv h 68 3 = g0 → jiv h 68 5 = g1 → jJ jSgX Dy h → jSm fp_X5_readPair_r70d h0 h → d_X5_readPair_r70d_18  (vw h) = dr → jX m_X5_readPair 4 0 0 18 [(0, .ref 70)] [] h 0 0 Q := by
  intro g0 g1 h y0 y1 y2 z0 z1  J Sm D
  unfold d_X5_readPair_r70d_18 at D
  try rw [vrf z0] at D
  try rw [vrf z1] at D
  refine x_aloadn (x := 70) rfl rfl ?_
  refine z_getR (N := 9) (b := 68) 5 1 rfl f_5_39 rfl J rfl 8961 ⟨rfl, rfl⟩ rfl ?_
  refine x_inv (N := m_X9_blame) (As := []) (b := 68) (st := []) (dx9 := 3) (mc := 0) (ms := 0) (host := "") 9 rfl t_X9_blame ⟨Or.inl q_5_64, i_X9_blame.1, i_X9_blame.2⟩ ⟨by decide, rfl⟩ (congrArg Prod.fst (J.1.1 68 (9, 6) rfl)) rfl (by decide) rfl rfl ⟨by decide, by decide⟩ (jC.of rfl k_X9_blame rfl ?_)
  show jX m_X9_blame 3 0 0 0 [(0, .ref 68)] [] _ 0 0 _
  refine x_aloadn (x := 68) rfl rfl ?_
  refine x_aloadn (x := 68) rfl rfl ?_
  refine z_getM (N := 6) (v := g0) 9 3 rfl f_9_22 rfl J rfl z0 ?_
  refine z_putI (N := 6) (w := g0.toInt) 9 2 rfl f_9_19 rfl (jfin_no TX9 RX9 6 rfl rfl) hD J Sm rfl rfl rfl (pw_68_2 (by omega)) rfl (fun h w1 J Sm => ?_)
  rw [vwf w1 (show g0.toInt = g0.toInt from by omega)] at D
  refine x_iconst (v := 0) rfl ki_0 ?_
  refine x_zret rfl rfl (by decide) ?_
  show jX m_X5_readPair 4 0 0 25 [(0, .ref 70)] [.int 0] _ 0 0 _
  refine x_zret rfl rfl (by decide) ?_
  exact hQ _ _ (jr_of jk_0 (by omega)) J Sm _ _ (jmo w1 rfl z1) (jmo w1 rfl z0) (by omega) ((congrArg Prod.fst D).symm.trans (show 0 = (0 : Int32).toInt from by have := jk_0; omega)) (congrArg Prod.snd D).symm
set_option maxRecDepth 100000 in
set_option maxHeartbeats 4000000 in
theorem ct_X5_readPair_r70d_300099 {Dy : jH → Prop} {h0 : jH} {Q : Option Value → jH → Prop} {dr : (Int × jW)} (hD : jDk Dy) (hQ : ∀ (v : Int32) hx9, 0 ≤ v.toInt ∧ v.toInt ≤ 1 → jJ jSgX Dy hx9 → jSm fp_X5_readPair_r70d h0 hx9 → ∀ u0 u1 : Int32, jiv hx9 68 5 = u0 → jiv hx9 68 3 = u1 → (u0.toInt ≠ 3 ∨ u1.toInt ≤ 399) → dr.1 = v.toInt → dr.2 = vw hx9 → Q (some (.int v)) hx9) : ∀ (g0 : Int32) (g1 : Int32) (h : jH), 0 ≤ g0.toInt ∧ g0.toInt ≤ 400 → 0 ≤ g1.toInt ∧ g1.toInt ≤ 3 → (g1.toInt ≠ 3 ∨ g0.toInt ≤ 399) → jiv h 68 3 = g0 → jiv h 68 5 = g1 → jJ jSgX Dy h → jSm fp_X5_readPair_r70d h0 h → d_X5_readPair_r70d_300099  (vw h) = dr → jX m_X5_readPair 4 0 0 99 [] [.int 1] h 0 0 Q := by
  intro g0 g1 h y0 y1 y2 z0 z1  J Sm D
  unfold d_X5_readPair_r70d_300099 at D
  try rw [vrf z0] at D
  try rw [vrf z1] at D
  refine x_zret rfl rfl (by decide) ?_
  exact hQ _ _ (jr_of jk_1 (by omega)) J Sm _ _ z1 z0 (by omega) ((congrArg Prod.fst D).symm.trans (show 1 = (1 : Int32).toInt from by have := jk_1; omega)) (congrArg Prod.snd D).symm
set_option maxRecDepth 100000 in
set_option maxHeartbeats 4000000 in
theorem ct_X5_readPair_r70d_200099 {Dy : jH → Prop} {h0 : jH} {Q : Option Value → jH → Prop} {dr : (Int × jW)} (hD : jDk Dy) (hQ : ∀ (v : Int32) hx9, 0 ≤ v.toInt ∧ v.toInt ≤ 1 → jJ jSgX Dy hx9 → jSm fp_X5_readPair_r70d h0 hx9 → ∀ u0 u1 : Int32, jiv hx9 68 5 = u0 → jiv hx9 68 3 = u1 → (u0.toInt ≠ 3 ∨ u1.toInt ≤ 399) → dr.1 = v.toInt → dr.2 = vw hx9 → Q (some (.int v)) hx9) : ∀ (g0 : Int32) (g1 : Int32) (h : jH), 0 ≤ g0.toInt ∧ g0.toInt ≤ 400 → 0 ≤ g1.toInt ∧ g1.toInt ≤ 3 → (g1.toInt ≠ 3 ∨ g0.toInt ≤ 399) → jiv h 68 3 = g0 → jiv h 68 5 = g1 → jJ jSgX Dy h → jSm fp_X5_readPair_r70d h0 h → d_X5_readPair_r70d_200099  (vw h) = dr → jX m_X5_readPair 4 0 0 99 [] [.int 0] h 0 0 Q := by
  intro g0 g1 h y0 y1 y2 z0 z1  J Sm D
  unfold d_X5_readPair_r70d_200099 at D
  try rw [vrf z0] at D
  try rw [vrf z1] at D
  refine x_zret rfl rfl (by decide) ?_
  exact hQ _ _ (jr_of jk_0 (by omega)) J Sm _ _ z1 z0 (by omega) ((congrArg Prod.fst D).symm.trans (show 0 = (0 : Int32).toInt from by have := jk_0; omega)) (congrArg Prod.snd D).symm
set_option maxRecDepth 100000 in
set_option maxHeartbeats 4000000 in
theorem ct_X5_readPair_r70d_94 {Dy : jH → Prop} {h0 : jH} {Q : Option Value → jH → Prop} {dr : (Int × jW)} (hD : jDk Dy) (hQ : ∀ (v : Int32) hx9, 0 ≤ v.toInt ∧ v.toInt ≤ 1 → jJ jSgX Dy hx9 → jSm fp_X5_readPair_r70d h0 hx9 → ∀ u0 u1 : Int32, jiv hx9 68 5 = u0 → jiv hx9 68 3 = u1 → (u0.toInt ≠ 3 ∨ u1.toInt ≤ 399) → dr.1 = v.toInt → dr.2 = vw hx9 → Q (some (.int v)) hx9) : ∀ (g0 : Int32) (g1 : Int32) (h : jH), 0 ≤ g0.toInt ∧ g0.toInt ≤ 400 → 0 ≤ g1.toInt ∧ g1.toInt ≤ 3 → (g1.toInt ≠ 3 ∨ g0.toInt ≤ 399) → jiv h 68 3 = g0 → jiv h 68 5 = g1 → jJ jSgX Dy h → jSm fp_X5_readPair_r70d h0 h → d_X5_readPair_r70d_94  (vw h) = dr → jX m_X5_readPair 4 0 0 94 [] [] h 0 0 Q := by
  intro g0 g1 h y0 y1 y2 z0 z1  J Sm D
  unfold d_X5_readPair_r70d_94 at D
  try rw [vrf z0] at D
  try rw [vrf z1] at D
  refine x_iconst (v := 1) rfl ki_1 ?_
  refine x_goto (tgt := 99) rfl rfl ?_
  exact jX.sub jsb_n (ct_X5_readPair_r70d_300099 hD hQ  g0 g1 h (jr_of rfl (by omega)) (jr_of rfl (by omega)) (by omega) z0 z1 J Sm D)
set_option maxRecDepth 100000 in
set_option maxHeartbeats 4000000 in
theorem sf_X5_readPair_r70d {Dy : jH → Prop} {h : jH} {Q : Option Value → jH → Prop} {dr : (Int × jW)} {a1 : Int32} (y1 : 0 ≤ a1.toInt ∧ a1.toInt ≤ 56) (ym1 : a1.toInt % 8 = 0) (hD : jDk Dy) (J : jJ jSgX Dy h) {p0 p1 : Int32} (zp0 : jiv h 68 5 = p0) (zp1 : jiv h 68 3 = p1) (rl_p0 : (p0.toInt ≠ 3 ∨ p1.toInt ≤ 399)) (D : d_X5_readPair_r70d a1.toInt (vw h) = dr) (hQ : ∀ (v : Int32) hx9, 0 ≤ v.toInt ∧ v.toInt ≤ 1 → jJ jSgX Dy hx9 → jSm fp_X5_readPair_r70d h hx9 → ∀ u0 u1 : Int32, jiv hx9 68 5 = u0 → jiv hx9 68 3 = u1 → (u0.toInt ≠ 3 ∨ u1.toInt ≤ 399) → dr.1 = v.toInt → dr.2 = vw hx9 → Q (some (.int v)) hx9) : jC m_X5_readPair 4 0 0 [.ref 70, .int a1] h Q := by
  refine jC.of rfl k_X5_readPair rfl ?_
  have Sm := jSm_rf fp_X5_readPair_r70d h
  have ep0 := (show 0 ≤ p0.toInt ∧ p0.toInt ≤ 3 from zp0 ▸ jrg_f J sg_68_5_6_1_0_1)
  have ep1 := (show 0 ≤ p1.toInt ∧ p1.toInt ≤ 400 from zp1 ▸ jrg_f J sg_68_3_4_1_0_1)
  show jX m_X5_readPair 4 0 0 0 [(0, .ref 70), (1, .int a1)] [] _ 0 0 _
  unfold d_X5_readPair_r70d at D
  try rw [vrf zp0] at D
  try rw [vrf zp1] at D
  refine x_aloadn (x := 70) rfl rfl ?_
  refine z_getR (N := 9) (b := 68) 5 1 rfl f_5_39 rfl J rfl 8961 ⟨rfl, rfl⟩ rfl ?_
  refine x_inv (N := m_X9_isLetters) (As := []) (b := 68) (st := []) (dx9 := 3) (mc := 0) (ms := 0) (host := "") 9 rfl t_X9_isLetters ⟨Or.inl q_5_76, i_X9_isLetters.1, i_X9_isLetters.2⟩ ⟨by decide, rfl⟩ (congrArg Prod.fst (J.1.1 68 (9, 6) rfl)) rfl (by decide) rfl rfl ⟨by decide, by decide⟩ (jC.of rfl k_X9_isLetters rfl ?_)
  show jX m_X9_isLetters 3 0 0 0 [(0, .ref 68)] [] _ 0 0 _
  refine x_aloadn (x := 68) rfl rfl ?_
  refine z_getM (N := 6) (v := p0) 9 5 rfl f_9_28 rfl J rfl zp0 ?_
  refine x_iconst (v := 1) rfl ki_1 ?_
  refine x_icne (tgt := 12) rfl rfl (ti_ne rfl jk_1 ⟨fun c1 => ?_, fun c1 => ?_⟩)
  ·
    rw [if_neg (by omega)] at D
    refine x_iconst (v := 0) rfl ki_0 ?_
    refine x_zret rfl rfl (by decide) ?_
    show jX m_X5_readPair 4 0 0 7 [(0, .ref 70), (1, .int a1)] [.int 0] _ 0 0 _
    refine x_ifeq (tgt := 18) rfl rfl (ti_eq jk_0 jk_0 (br_t (by omega) ?_))
    exact jX.sub (jsb_c rfl jsb_n) (ct_X5_readPair_r70d_18 hD hQ  p1 p0 h (jr_of rfl (by omega)) (jr_of rfl (by omega)) (by omega) zp1 zp0 J Sm D)
  ·
    rw [if_pos (by omega)] at D
    refine x_iconst (v := 1) rfl ki_1 ?_
    refine x_goto (tgt := 13) rfl rfl ?_
    refine x_zret rfl rfl (by decide) ?_
    show jX m_X5_readPair 4 0 0 7 [(0, .ref 70), (1, .int a1)] [.int 1] _ 0 0 _
    refine x_ifeq (tgt := 18) rfl rfl (ti_eq jk_1 jk_0 (br_f (by omega) ?_))
    refine x_aloadn (x := 70) rfl rfl ?_
    refine x_iloadn (x := a1) rfl rfl ?_
    refine x_inv (N := m_X5_readSide) (As := [.int a1]) (b := 70) (st := []) (dx9 := 3) (mc := 0) (ms := 0) (host := "") 5 rfl t_X5_readSide ⟨Or.inl q_5_93, i_X5_readSide.1, i_X5_readSide.2⟩ ⟨by decide, rfl⟩ (congrArg Prod.fst (J.1.1 70 (5, 9) rfl)) rfl (by decide) rfl rfl ⟨by decide, by decide⟩ (sf_X5_readSide_r70d (jr_of rfl (by omega)) (jr_mod rfl (by omega)) hD J zp0 zp1 (by omega) rfl  (fun v7 h ev7 J S2 u3 u4 qu3 qu4 ru3 X5 X6 => ?_))
    have Sm := jSm_tr rfl Sm S2
    try rw [X5] at D
    try rw [X6] at D
    have eu3 := (show 0 ≤ u3.toInt ∧ u3.toInt ≤ 3 from qu3 ▸ jrg_f J sg_68_5_6_1_0_1)
    try rw [vrf qu3] at D
    have eu4 := (show 0 ≤ u4.toInt ∧ u4.toInt ≤ 400 from qu4 ▸ jrg_f J sg_68_3_4_1_0_1)
    try rw [vrf qu4] at D
    show jX m_X5_readPair 4 0 0 15 [(0, .ref 70), (1, .int a1)] [.int v7] _ 0 0 _
    refine x_ifne (tgt := 26) rfl rfl (ti_ne rfl jk_0 ⟨fun c8 => ?_, fun c8 => ?_⟩)
    ·
      rw [if_neg (by omega)] at D
      refine x_aloadn (x := 70) rfl rfl ?_
      refine z_getR (N := 9) (b := 68) 5 1 rfl f_5_39 rfl J rfl 8961 ⟨rfl, rfl⟩ rfl ?_
      refine x_bipush (v := 62) rfl kb_62 ?_
      refine x_inv (N := m_X9_isSign) (As := [.int 62]) (b := 68) (st := []) (dx9 := 1) (mc := 0) (ms := 0) (host := "") 9 rfl t_X9_isSign ⟨Or.inl q_5_48, i_X9_isSign.1, i_X9_isSign.2⟩ ⟨by decide, rfl⟩ (congrArg Prod.fst (J.1.1 68 (9, 6) rfl)) rfl (by decide) rfl rfl ⟨by decide, by decide⟩ (sf_X9_isSign_r68d (jr_of jk_62 (by omega)) hD J qu3 qu4 (by omega) rfl  (fun v14 h ev14 J S9 u10 u11 qu10 qu11 ru10 X12 X13 => ?_))
      have Sm := jSm_tr rfl Sm S9
      try rw [jk_62] at X12
      try rw [X12] at D
      try rw [← X13] at D
      have eu10 := (show 0 ≤ u10.toInt ∧ u10.toInt ≤ 3 from qu10 ▸ jrg_f J sg_68_5_6_1_0_1)
      have Luu10 := congrArg Int32.toInt (((jmc S9 rfl qu3)).symm.trans qu10)
      try rw [Luu10] at D
      try rw [vrf qu10] at D
      have eu11 := (show 0 ≤ u11.toInt ∧ u11.toInt ≤ 400 from qu11 ▸ jrg_f J sg_68_3_4_1_0_1)
      have Luu11 := congrArg Int32.toInt (((jmc S9 rfl qu4)).symm.trans qu11)
      try rw [Luu11] at D
      try rw [vrf qu11] at D
      show jX m_X5_readPair 4 0 0 35 [(0, .ref 70), (1, .int a1)] [.int v14] _ 0 0 _
      refine x_ifne (tgt := 46) rfl rfl (ti_ne rfl jk_0 ⟨fun c15 => ?_, fun c15 => ?_⟩)
      ·
        rw [if_neg (by omega)] at D
        refine x_aloadn (x := 70) rfl rfl ?_
        refine z_getR (N := 9) (b := 68) 5 1 rfl f_5_39 rfl J rfl 8961 ⟨rfl, rfl⟩ rfl ?_
        refine x_inv (N := m_X9_step) (As := []) (b := 68) (st := []) (dx9 := 2) (mc := 0) (ms := 0) (host := "") 9 rfl t_X9_step ⟨Or.inl q_5_67, i_X9_step.1, i_X9_step.2⟩ ⟨by decide, rfl⟩ (congrArg Prod.fst (J.1.1 68 (9, 6) rfl)) rfl (by decide) rfl rfl ⟨by decide, by decide⟩ (sf_X9_step_r68d  hD J qu10 qu11 (by omega) rfl  (fun h J S16 u17 u18 qu17 qu18 ru17 X19 => ?_))
        have Sm := jSm_tr rfl Sm S16
        rw [X19] at D
        have eu17 := (show 0 ≤ u17.toInt ∧ u17.toInt ≤ 3 from qu17 ▸ jrg_f J sg_68_5_6_1_0_1)
        try rw [vrf qu17] at D
        have eu18 := (show 0 ≤ u18.toInt ∧ u18.toInt ≤ 400 from qu18 ▸ jrg_f J sg_68_3_4_1_0_1)
        try rw [vrf qu18] at D
        show jX m_X5_readPair 4 0 0 53 [(0, .ref 70), (1, .int a1)] [] _ 0 0 _
        refine x_aloadn (x := 70) rfl rfl ?_
        refine z_getR (N := 9) (b := 68) 5 1 rfl f_5_39 rfl J rfl 8961 ⟨rfl, rfl⟩ rfl ?_
        refine x_inv (N := m_X9_isLetters) (As := []) (b := 68) (st := []) (dx9 := 3) (mc := 0) (ms := 0) (host := "") 9 rfl t_X9_isLetters ⟨Or.inl q_5_76, i_X9_isLetters.1, i_X9_isLetters.2⟩ ⟨by decide, rfl⟩ (congrArg Prod.fst (J.1.1 68 (9, 6) rfl)) rfl (by decide) rfl rfl ⟨by decide, by decide⟩ (jC.of rfl k_X9_isLetters rfl ?_)
        show jX m_X9_isLetters 3 0 0 0 [(0, .ref 68)] [] _ 0 0 _
        refine x_aloadn (x := 68) rfl rfl ?_
        refine z_getM (N := 6) (v := u17) 9 5 rfl f_9_28 rfl J rfl qu17 ?_
        refine x_iconst (v := 1) rfl ki_1 ?_
        refine x_icne (tgt := 12) rfl rfl (ti_ne rfl jk_1 ⟨fun c20 => ?_, fun c20 => ?_⟩)
        ·
          rw [if_neg (by omega)] at D
          refine x_iconst (v := 0) rfl ki_0 ?_
          refine x_zret rfl rfl (by decide) ?_
          show jX m_X5_readPair 4 0 0 60 [(0, .ref 70), (1, .int a1)] [.int 0] _ 0 0 _
          refine x_ifne (tgt := 74) rfl rfl (ti_ne jk_0 jk_0 (bn_f (by omega) ?_))
          refine x_aloadn (x := 70) rfl rfl ?_
          refine z_getR (N := 9) (b := 72) 5 3 rfl f_5_15 rfl J rfl 8963 ⟨rfl, rfl⟩ rfl ?_
          refine x_iloadn (x := a1) rfl rfl ?_
          refine x_iconst (v := 4) rfl ki_4 ?_
          refine z_iadd rfl rfl jk_4 (by omega) (fun v21 ev21 => ?_)
          refine x_iconst (v := 0) rfl ki_0 ?_
          refine z_iast (N := 64) (l := 0) (u := 64) (w := 0) rfl hD J Sm rfl rfl rfl (by omega) jk_0 (wr_72 (fun q1 q2 q3 q4 => by omega) (fun q1 q2 q3 q4 => by omega) (fun q1 q2 q3 q4 => by omega)) rfl (fun h w22 J Sm => ?_)
          rw [vww w22 (show (a1.toInt + 4) = v21.toInt from by omega) (show 0 = (0 : Int32).toInt from by have := jk_0; omega)] at D
          refine x_iconst (v := 1) rfl ki_1 ?_
          refine x_zret rfl rfl (by decide) ?_
          exact hQ _ _ (jr_of jk_1 (by omega)) J Sm _ _ (jmo w22 rfl qu17) (jmo w22 rfl qu18) (by omega) ((congrArg Prod.fst D).symm.trans (show 1 = (1 : Int32).toInt from by have := jk_1; omega)) (congrArg Prod.snd D).symm
        ·
          rw [if_pos (by omega)] at D
          refine x_iconst (v := 1) rfl ki_1 ?_
          refine x_goto (tgt := 13) rfl rfl ?_
          refine x_zret rfl rfl (by decide) ?_
          show jX m_X5_readPair 4 0 0 60 [(0, .ref 70), (1, .int a1)] [.int 1] _ 0 0 _
          refine x_ifne (tgt := 74) rfl rfl (ti_ne jk_1 jk_0 (bn_t (by omega) ?_))
          refine x_aloadn (x := 70) rfl rfl ?_
          refine x_iloadn (x := a1) rfl rfl ?_
          refine x_iconst (v := 4) rfl ki_4 ?_
          refine z_iadd rfl rfl jk_4 (by omega) (fun v23 ev23 => ?_)
          try rw [show (a1.toInt + 4) = v23.toInt from by omega] at D
          refine x_inv (N := m_X5_readSide) (As := [.int v23]) (b := 70) (st := []) (dx9 := 3) (mc := 0) (ms := 0) (host := "") 5 rfl t_X5_readSide ⟨Or.inl q_5_93, i_X5_readSide.1, i_X5_readSide.2⟩ ⟨by decide, rfl⟩ (congrArg Prod.fst (J.1.1 70 (5, 9) rfl)) rfl (by decide) rfl rfl ⟨by decide, by decide⟩ (sf_X5_readSide_r70d (jr_of rfl (by omega)) (jr_mod rfl (by omega)) hD J qu17 qu18 (by omega) rfl  (fun v29 h ev29 J S24 u25 u26 qu25 qu26 ru25 X27 X28 => ?_))
          have Sm := jSm_tr rfl Sm S24
          try rw [X27] at D
          try rw [X28] at D
          have eu25 := (show 0 ≤ u25.toInt ∧ u25.toInt ≤ 3 from qu25 ▸ jrg_f J sg_68_5_6_1_0_1)
          try rw [vrf qu25] at D
          have eu26 := (show 0 ≤ u26.toInt ∧ u26.toInt ≤ 400 from qu26 ▸ jrg_f J sg_68_3_4_1_0_1)
          try rw [vrf qu26] at D
          show jX m_X5_readPair 4 0 0 81 [(0, .ref 70), (1, .int a1)] [.int v29] _ 0 0 _
          refine x_ifne (tgt := 94) rfl rfl (ti_ne rfl jk_0 ⟨fun c30 => ?_, fun c30 => ?_⟩)
          ·
            rw [if_neg (by omega)] at D
            exact jX.sub jsb_n (ct_X5_readPair_r70d_94 hD hQ  u26 u25 h (jr_of rfl (by omega)) (jr_of rfl (by omega)) (by omega) qu26 qu25 J Sm D)
          ·
            rw [if_pos (by omega)] at D
            refine x_aloadn (x := 70) rfl rfl ?_
            refine z_getR (N := 9) (b := 68) 5 1 rfl f_5_39 rfl J rfl 8961 ⟨rfl, rfl⟩ rfl ?_
            refine x_inv (N := m_X9_blame) (As := []) (b := 68) (st := []) (dx9 := 3) (mc := 0) (ms := 0) (host := "") 9 rfl t_X9_blame ⟨Or.inl q_5_64, i_X9_blame.1, i_X9_blame.2⟩ ⟨by decide, rfl⟩ (congrArg Prod.fst (J.1.1 68 (9, 6) rfl)) rfl (by decide) rfl rfl ⟨by decide, by decide⟩ (jC.of rfl k_X9_blame rfl ?_)
            show jX m_X9_blame 3 0 0 0 [(0, .ref 68)] [] _ 0 0 _
            refine x_aloadn (x := 68) rfl rfl ?_
            refine x_aloadn (x := 68) rfl rfl ?_
            refine z_getM (N := 6) (v := u26) 9 3 rfl f_9_22 rfl J rfl qu26 ?_
            refine z_putI (N := 6) (w := u26.toInt) 9 2 rfl f_9_19 rfl (jfin_no TX9 RX9 6 rfl rfl) hD J Sm rfl rfl rfl (pw_68_2 (by omega)) rfl (fun h w31 J Sm => ?_)
            rw [vwf w31 (show u26.toInt = u26.toInt from by omega)] at D
            refine x_iconst (v := 0) rfl ki_0 ?_
            refine x_zret rfl rfl (by decide) ?_
            show jX m_X5_readPair 4 0 0 91 [(0, .ref 70), (1, .int a1)] [.int 0] _ 0 0 _
            refine x_ifeq (tgt := 98) rfl rfl (ti_eq jk_0 jk_0 (br_t (by omega) ?_))
            refine x_iconst (v := 0) rfl ki_0 ?_
            exact jX.sub jsb_n (ct_X5_readPair_r70d_200099 hD hQ  u26 u25 h (jr_of rfl (by omega)) (jr_of rfl (by omega)) (by omega) (jmo w31 rfl qu26) (jmo w31 rfl qu25) J Sm D)
      ·
        rw [if_pos (by omega)] at D
        refine x_aloadn (x := 70) rfl rfl ?_
        refine z_getR (N := 9) (b := 68) 5 1 rfl f_5_39 rfl J rfl 8961 ⟨rfl, rfl⟩ rfl ?_
        refine x_inv (N := m_X9_blame) (As := []) (b := 68) (st := []) (dx9 := 3) (mc := 0) (ms := 0) (host := "") 9 rfl t_X9_blame ⟨Or.inl q_5_64, i_X9_blame.1, i_X9_blame.2⟩ ⟨by decide, rfl⟩ (congrArg Prod.fst (J.1.1 68 (9, 6) rfl)) rfl (by decide) rfl rfl ⟨by decide, by decide⟩ (jC.of rfl k_X9_blame rfl ?_)
        show jX m_X9_blame 3 0 0 0 [(0, .ref 68)] [] _ 0 0 _
        refine x_aloadn (x := 68) rfl rfl ?_
        refine x_aloadn (x := 68) rfl rfl ?_
        refine z_getM (N := 6) (v := u11) 9 3 rfl f_9_22 rfl J rfl qu11 ?_
        refine z_putI (N := 6) (w := u11.toInt) 9 2 rfl f_9_19 rfl (jfin_no TX9 RX9 6 rfl rfl) hD J Sm rfl rfl rfl (pw_68_2 (by omega)) rfl (fun h w32 J Sm => ?_)
        rw [vwf w32 (show u11.toInt = u11.toInt from by omega)] at D
        refine x_iconst (v := 0) rfl ki_0 ?_
        refine x_zret rfl rfl (by decide) ?_
        show jX m_X5_readPair 4 0 0 45 [(0, .ref 70), (1, .int a1)] [.int 0] _ 0 0 _
        refine x_zret rfl rfl (by decide) ?_
        exact hQ _ _ (jr_of jk_0 (by omega)) J Sm _ _ (jmo w32 rfl qu10) (jmo w32 rfl qu11) (by omega) ((congrArg Prod.fst D).symm.trans (show 0 = (0 : Int32).toInt from by have := jk_0; omega)) (congrArg Prod.snd D).symm
    ·
      rw [if_pos (by omega)] at D
      exact jX.sub (jsb_c rfl jsb_n) (ct_X5_readPair_r70d_18 hD hQ  u4 u3 h (jr_of rfl (by omega)) (jr_of rfl (by omega)) (by omega) qu4 qu3 J Sm D)
def fp_X5_readPairs_r70d : jFp := [(68, 2, 3), (68, 3, 4), (68, 4, 5), (68, 5, 6), (72, 0, 64)]
set_option maxRecDepth 100000 in
set_option maxHeartbeats 4000000 in
theorem ct_X5_readPairs_r70d_21 {Dy : jH → Prop} {h0 : jH} {Q : Option Value → jH → Prop} {dr : (Int × jW)} (hD : jDk Dy) (hQ : ∀ (v : Int32) hx9, (-1) ≤ v.toInt ∧ v.toInt ≤ 8 → jJ jSgX Dy hx9 → jSm fp_X5_readPairs_r70d h0 hx9 → ∀ u0 u1 : Int32, jiv hx9 68 5 = u0 → jiv hx9 68 3 = u1 → (u0.toInt ≠ 3 ∨ u1.toInt ≤ 399) → dr.1 = v.toInt → dr.2 = vw hx9 → Q (some (.int v)) hx9) : ∀ r : Nat, ∀ (l1 : Int32) (g0 : Int32) (g1 : Int32) (h : jH), 8 - l1.toInt < (r : Int) → 0 ≤ l1.toInt ∧ l1.toInt ≤ 8 → 0 ≤ g0.toInt ∧ g0.toInt ≤ 400 → 0 ≤ g1.toInt ∧ g1.toInt ≤ 3 → (g1.toInt ≠ 3 ∨ g0.toInt ≤ 399) → jiv h 68 3 = g0 → jiv h 68 5 = g1 → jJ jSgX Dy h → jSm fp_X5_readPairs_r70d h0 h → d_X5_readPairs_r70d_21 r l1.toInt (vw h) = dr → jX m_X5_readPairs 5 0 0 21 [(0, .ref 70), (1, .int l1)] [] h 0 0 Q := by
  intro r
  induction r with
  | zero =>
    intro l1 g0 g1 h hm y0 y1 y2 y3 z0 z1  J Sm D
    exfalso
    omega
  | succ r ih =>
    intro l1 g0 g1 h hm y0 y1 y2 y3 z0 z1  J Sm D
    rw [d_X5_readPairs_r70d_21.eq_2] at D
    try rw [vrf z0] at D
    try rw [vrf z1] at D
    refine x_iloadn (x := l1) rfl rfl ?_
    refine x_bipush (v := 8) rfl kb_8 ?_
    refine x_icge (tgt := 89) rfl rfl (ti_ge rfl jk_8 ⟨fun c1 => ?_, fun c1 => ?_⟩)
    ·
      rw [if_pos (by omega)] at D
      refine x_aloadn (x := 70) rfl rfl ?_
      refine z_getR (N := 9) (b := 68) 5 1 rfl f_5_39 rfl J rfl 8961 ⟨rfl, rfl⟩ rfl ?_
      refine x_inv (N := m_X9_blame) (As := []) (b := 68) (st := []) (dx9 := 4) (mc := 0) (ms := 0) (host := "") 9 rfl t_X9_blame ⟨Or.inl q_5_64, i_X9_blame.1, i_X9_blame.2⟩ ⟨by decide, rfl⟩ (congrArg Prod.fst (J.1.1 68 (9, 6) rfl)) rfl (by decide) rfl rfl ⟨by decide, by decide⟩ (jC.of rfl k_X9_blame rfl ?_)
      show jX m_X9_blame 4 0 0 0 [(0, .ref 68)] [] _ 0 0 _
      refine x_aloadn (x := 68) rfl rfl ?_
      refine x_aloadn (x := 68) rfl rfl ?_
      refine z_getM (N := 6) (v := g0) 9 3 rfl f_9_22 rfl J rfl z0 ?_
      refine z_putI (N := 6) (w := g0.toInt) 9 2 rfl f_9_19 rfl (jfin_no TX9 RX9 6 rfl rfl) hD J Sm rfl rfl rfl (pw_68_2 (by omega)) rfl (fun h w2 J Sm => ?_)
      rw [vwf w2 (show g0.toInt = g0.toInt from by omega)] at D
      refine x_iconst (v := 0) rfl ki_0 ?_
      refine x_zret rfl rfl (by decide) ?_
      show jX m_X5_readPairs 5 0 0 96 [(0, .ref 70), (1, .int l1)] [.int 0] _ 0 0 _
      refine x_pop rfl rfl ?_
      refine x_iconst (v := (-1)) rfl ki_m1 ?_
      refine x_iret rfl rfl ?_
      exact hQ _ _ (jr_of jk_m1 (by omega)) J Sm _ _ (jmo w2 rfl z1) (jmo w2 rfl z0) (by omega) ((congrArg Prod.fst D).symm.trans (show (-1) = ((-1) : Int32).toInt from by have := jk_m1; omega)) (congrArg Prod.snd D).symm
    ·
      rw [if_neg (by omega)] at D
      refine x_aloadn (x := 70) rfl rfl ?_
      refine x_iloadn (x := l1) rfl rfl ?_
      refine x_bipush (v := 8) rfl kb_8 ?_
      refine z_imul rfl rfl jk_8 (by omega) (fun v3 ev3 => ?_)
      try rw [show (l1.toInt * 8) = v3.toInt from by omega] at D
      refine x_inv (N := m_X5_readPair) (As := [.int v3]) (b := 70) (st := []) (dx9 := 4) (mc := 0) (ms := 0) (host := "") 5 rfl t_X5_readPair ⟨Or.inl q_5_90, i_X5_readPair.1, i_X5_readPair.2⟩ ⟨by decide, rfl⟩ (congrArg Prod.fst (J.1.1 70 (5, 9) rfl)) rfl (by decide) rfl rfl ⟨by decide, by decide⟩ (sf_X5_readPair_r70d (jr_of rfl (by omega)) (jr_mod rfl (by omega)) hD J z1 z0 (by omega) rfl  (fun v9 h ev9 J S4 u5 u6 qu5 qu6 ru5 X7 X8 => ?_))
      have Sm := jSm_tr rfl Sm S4
      try rw [X7] at D
      try rw [X8] at D
      have eu5 := (show 0 ≤ u5.toInt ∧ u5.toInt ≤ 3 from qu5 ▸ jrg_f J sg_68_5_6_1_0_1)
      try rw [vrf qu5] at D
      have eu6 := (show 0 ≤ u6.toInt ∧ u6.toInt ≤ 400 from qu6 ▸ jrg_f J sg_68_3_4_1_0_1)
      try rw [vrf qu6] at D
      show jX m_X5_readPairs 5 0 0 35 [(0, .ref 70), (1, .int l1)] [.int v9] _ 0 0 _
      refine x_ifne (tgt := 40) rfl rfl (ti_ne rfl jk_0 ⟨fun c10 => ?_, fun c10 => ?_⟩)
      ·
        rw [if_neg (by omega)] at D
        refine x_aloadn (x := 70) rfl rfl ?_
        refine z_getR (N := 9) (b := 68) 5 1 rfl f_5_39 rfl J rfl 8961 ⟨rfl, rfl⟩ rfl ?_
        refine x_inv (N := m_X9_isEnd) (As := []) (b := 68) (st := []) (dx9 := 4) (mc := 0) (ms := 0) (host := "") 9 rfl t_X9_isEnd ⟨Or.inl q_5_60, i_X9_isEnd.1, i_X9_isEnd.2⟩ ⟨by decide, rfl⟩ (congrArg Prod.fst (J.1.1 68 (9, 6) rfl)) rfl (by decide) rfl rfl ⟨by decide, by decide⟩ (jC.of rfl k_X9_isEnd rfl ?_)
        show jX m_X9_isEnd 4 0 0 0 [(0, .ref 68)] [] _ 0 0 _
        refine x_aloadn (x := 68) rfl rfl ?_
        refine z_getM (N := 6) (v := u5) 9 5 rfl f_9_28 rfl J rfl qu5 ?_
        refine x_ifne (tgt := 11) rfl rfl (ti_ne rfl jk_0 ⟨fun c11 => ?_, fun c11 => ?_⟩)
        ·
          rw [if_neg (by omega)] at D
          refine x_iconst (v := 0) rfl ki_0 ?_
          refine x_zret rfl rfl (by decide) ?_
          show jX m_X5_readPairs 5 0 0 47 [(0, .ref 70), (1, .int l1)] [.int 0] _ 0 0 _
          refine x_ifeq (tgt := 54) rfl rfl (ti_eq jk_0 jk_0 (br_t (by omega) ?_))
          refine x_aloadn (x := 70) rfl rfl ?_
          refine z_getR (N := 9) (b := 68) 5 1 rfl f_5_39 rfl J rfl 8961 ⟨rfl, rfl⟩ rfl ?_
          refine x_bipush (v := 44) rfl kb_44 ?_
          refine x_inv (N := m_X9_isSign) (As := [.int 44]) (b := 68) (st := []) (dx9 := 1) (mc := 0) (ms := 0) (host := "") 9 rfl t_X9_isSign ⟨Or.inl q_5_48, i_X9_isSign.1, i_X9_isSign.2⟩ ⟨by decide, rfl⟩ (congrArg Prod.fst (J.1.1 68 (9, 6) rfl)) rfl (by decide) rfl rfl ⟨by decide, by decide⟩ (sf_X9_isSign_r68d (jr_of jk_44 (by omega)) hD J qu5 qu6 (by omega) rfl  (fun v17 h ev17 J S12 u13 u14 qu13 qu14 ru13 X15 X16 => ?_))
          have Sm := jSm_tr rfl Sm S12
          try rw [jk_44] at X15
          try rw [X15] at D
          try rw [← X16] at D
          have eu13 := (show 0 ≤ u13.toInt ∧ u13.toInt ≤ 3 from qu13 ▸ jrg_f J sg_68_5_6_1_0_1)
          have Luu13 := congrArg Int32.toInt (((jmc S12 rfl qu5)).symm.trans qu13)
          try rw [Luu13] at D
          try rw [vrf qu13] at D
          have eu14 := (show 0 ≤ u14.toInt ∧ u14.toInt ≤ 400 from qu14 ▸ jrg_f J sg_68_3_4_1_0_1)
          have Luu14 := congrArg Int32.toInt (((jmc S12 rfl qu6)).symm.trans qu14)
          try rw [Luu14] at D
          try rw [vrf qu14] at D
          show jX m_X5_readPairs 5 0 0 63 [(0, .ref 70), (1, .int l1)] [.int v17] _ 0 0 _
          refine x_ifne (tgt := 76) rfl rfl (ti_ne rfl jk_0 ⟨fun c18 => ?_, fun c18 => ?_⟩)
          ·
            rw [if_neg (by omega)] at D
            refine x_aloadn (x := 70) rfl rfl ?_
            refine z_getR (N := 9) (b := 68) 5 1 rfl f_5_39 rfl J rfl 8961 ⟨rfl, rfl⟩ rfl ?_
            refine x_inv (N := m_X9_step) (As := []) (b := 68) (st := []) (dx9 := 2) (mc := 0) (ms := 0) (host := "") 9 rfl t_X9_step ⟨Or.inl q_5_67, i_X9_step.1, i_X9_step.2⟩ ⟨by decide, rfl⟩ (congrArg Prod.fst (J.1.1 68 (9, 6) rfl)) rfl (by decide) rfl rfl ⟨by decide, by decide⟩ (sf_X9_step_r68d  hD J qu13 qu14 (by omega) rfl  (fun h J S19 u20 u21 qu20 qu21 ru20 X22 => ?_))
            have Sm := jSm_tr rfl Sm S19
            rw [X22] at D
            have eu20 := (show 0 ≤ u20.toInt ∧ u20.toInt ≤ 3 from qu20 ▸ jrg_f J sg_68_5_6_1_0_1)
            try rw [vrf qu20] at D
            have eu21 := (show 0 ≤ u21.toInt ∧ u21.toInt ≤ 400 from qu21 ▸ jrg_f J sg_68_3_4_1_0_1)
            try rw [vrf qu21] at D
            show jX m_X5_readPairs 5 0 0 83 [(0, .ref 70), (1, .int l1)] [] _ 0 0 _
            refine z_iinc (x := l1) (lsx9 := fun v23 => [(1, .int v23), (0, .ref 70)]) rfl rfl rfl jko_1 (by omega) rfl (fun _ => rfl) (fun v23 ev23 => ?_)
            refine x_goto (tgt := 21) rfl rfl ?_
            try rw [show (l1.toInt + 1) = v23.toInt from by omega] at D
            exact jX.sub (jsb_c rfl (jsb_c rfl jsb_n)) (ih v23 u21 u20 h (by omega) (jr_of rfl (by omega)) (jr_of rfl (by omega)) (jr_of rfl (by omega)) (by omega) qu21 qu20 J Sm D)
          ·
            rw [if_pos (by omega)] at D
            refine x_aloadn (x := 70) rfl rfl ?_
            refine z_getR (N := 9) (b := 68) 5 1 rfl f_5_39 rfl J rfl 8961 ⟨rfl, rfl⟩ rfl ?_
            refine x_inv (N := m_X9_blame) (As := []) (b := 68) (st := []) (dx9 := 4) (mc := 0) (ms := 0) (host := "") 9 rfl t_X9_blame ⟨Or.inl q_5_64, i_X9_blame.1, i_X9_blame.2⟩ ⟨by decide, rfl⟩ (congrArg Prod.fst (J.1.1 68 (9, 6) rfl)) rfl (by decide) rfl rfl ⟨by decide, by decide⟩ (jC.of rfl k_X9_blame rfl ?_)
            show jX m_X9_blame 4 0 0 0 [(0, .ref 68)] [] _ 0 0 _
            refine x_aloadn (x := 68) rfl rfl ?_
            refine x_aloadn (x := 68) rfl rfl ?_
            refine z_getM (N := 6) (v := u14) 9 3 rfl f_9_22 rfl J rfl qu14 ?_
            refine z_putI (N := 6) (w := u14.toInt) 9 2 rfl f_9_19 rfl (jfin_no TX9 RX9 6 rfl rfl) hD J Sm rfl rfl rfl (pw_68_2 (by omega)) rfl (fun h w24 J Sm => ?_)
            rw [vwf w24 (show u14.toInt = u14.toInt from by omega)] at D
            refine x_iconst (v := 0) rfl ki_0 ?_
            refine x_zret rfl rfl (by decide) ?_
            show jX m_X5_readPairs 5 0 0 73 [(0, .ref 70), (1, .int l1)] [.int 0] _ 0 0 _
            refine x_pop rfl rfl ?_
            refine x_iconst (v := (-1)) rfl ki_m1 ?_
            refine x_iret rfl rfl ?_
            exact hQ _ _ (jr_of jk_m1 (by omega)) J Sm _ _ (jmo w24 rfl qu13) (jmo w24 rfl qu14) (by omega) ((congrArg Prod.fst D).symm.trans (show (-1) = ((-1) : Int32).toInt from by have := jk_m1; omega)) (congrArg Prod.snd D).symm
        ·
          rw [if_pos (by omega)] at D
          refine x_iconst (v := 1) rfl ki_1 ?_
          refine x_goto (tgt := 12) rfl rfl ?_
          refine x_zret rfl rfl (by decide) ?_
          show jX m_X5_readPairs 5 0 0 47 [(0, .ref 70), (1, .int l1)] [.int 1] _ 0 0 _
          refine x_ifeq (tgt := 54) rfl rfl (ti_eq jk_1 jk_0 (br_f (by omega) ?_))
          refine x_iloadn (x := l1) rfl rfl ?_
          refine x_iconst (v := 1) rfl ki_1 ?_
          refine z_iadd rfl rfl jk_1 (by omega) (fun v25 ev25 => ?_)
          refine x_iret rfl rfl ?_
          exact hQ _ _ (jr_of rfl (by omega)) J Sm _ _ qu5 qu6 (by omega) ((congrArg Prod.fst D).symm.trans (show (l1.toInt + 1) = v25.toInt from by omega)) (congrArg Prod.snd D).symm
      ·
        rw [if_pos (by omega)] at D
        refine x_iconst (v := (-1)) rfl ki_m1 ?_
        refine x_iret rfl rfl ?_
        exact hQ _ _ (jr_of jk_m1 (by omega)) J Sm _ _ qu5 qu6 (by omega) ((congrArg Prod.fst D).symm.trans (show (-1) = ((-1) : Int32).toInt from by have := jk_m1; omega)) (congrArg Prod.snd D).symm
set_option maxRecDepth 100000 in
set_option maxHeartbeats 4000000 in
theorem sf_X5_readPairs_r70d {Dy : jH → Prop} {h : jH} {Q : Option Value → jH → Prop} {dr : (Int × jW)} (hD : jDk Dy) (J : jJ jSgX Dy h) {p0 p1 : Int32} (zp0 : jiv h 68 5 = p0) (zp1 : jiv h 68 3 = p1) (rl_p0 : (p0.toInt ≠ 3 ∨ p1.toInt ≤ 399)) (D : d_X5_readPairs_r70d (vw h) = dr) (hQ : ∀ (v : Int32) hx9, (-1) ≤ v.toInt ∧ v.toInt ≤ 8 → jJ jSgX Dy hx9 → jSm fp_X5_readPairs_r70d h hx9 → ∀ u0 u1 : Int32, jiv hx9 68 5 = u0 → jiv hx9 68 3 = u1 → (u0.toInt ≠ 3 ∨ u1.toInt ≤ 399) → dr.1 = v.toInt → dr.2 = vw hx9 → Q (some (.int v)) hx9) : jC m_X5_readPairs 5 0 0 [.ref 70] h Q := by
  refine jC.of rfl k_X5_readPairs rfl ?_
  have Sm := jSm_rf fp_X5_readPairs_r70d h
  have ep0 := (show 0 ≤ p0.toInt ∧ p0.toInt ≤ 3 from zp0 ▸ jrg_f J sg_68_5_6_1_0_1)
  have ep1 := (show 0 ≤ p1.toInt ∧ p1.toInt ≤ 400 from zp1 ▸ jrg_f J sg_68_3_4_1_0_1)
  show jX m_X5_readPairs 5 0 0 0 [(0, .ref 70)] [] _ 0 0 _
  unfold d_X5_readPairs_r70d at D
  try rw [vrf zp0] at D
  try rw [vrf zp1] at D
  refine x_aloadn (x := 70) rfl rfl ?_
  refine z_getR (N := 9) (b := 68) 5 1 rfl f_5_39 rfl J rfl 8961 ⟨rfl, rfl⟩ rfl ?_
  refine x_inv (N := m_X9_begin) (As := []) (b := 68) (st := []) (dx9 := 4) (mc := 0) (ms := 0) (host := "") 9 rfl t_X9_begin ⟨Or.inl q_5_43, i_X9_begin.1, i_X9_begin.2⟩ ⟨by decide, rfl⟩ (congrArg Prod.fst (J.1.1 68 (9, 6) rfl)) rfl (by decide) rfl rfl ⟨by decide, by decide⟩ (jC.of rfl k_X9_begin rfl ?_)
  show jX m_X9_begin 4 0 0 0 [(0, .ref 68)] [] _ 0 0 _
  refine x_aloadn (x := 68) rfl rfl ?_
  refine x_iconst (v := (-1)) rfl ki_m1 ?_
  refine z_putI (N := 6) (w := (-1)) 9 2 rfl f_9_19 rfl (jfin_no TX9 RX9 6 rfl rfl) hD J Sm rfl rfl jk_m1 (pw_68_2 (by omega)) rfl (fun h w1 J Sm => ?_)
  rw [vwf w1 (show (-1) = ((-1) : Int32).toInt from by have := jk_m1; omega)] at D
  refine x_aloadn (x := 68) rfl rfl ?_
  refine x_iconst (v := 0) rfl ki_0 ?_
  refine z_putI (N := 6) (w := 0) 9 4 rfl f_9_25 rfl (jfin_no TX9 RX9 6 rfl rfl) hD J Sm rfl rfl jk_0 (pw_68_4 (by omega)) rfl (fun h w2 J Sm => ?_)
  rw [vwf w2 (show 0 = (0 : Int32).toInt from by have := jk_0; omega)] at D
  refine x_aloadn (x := 68) rfl rfl ?_
  refine x_inv (N := m_X9_step) (As := []) (b := 68) (st := []) (dx9 := 2) (mc := 0) (ms := 0) (host := "") 9 rfl t_X9_step ⟨Or.inl q_9_31, i_X9_step.1, i_X9_step.2⟩ ⟨by decide, rfl⟩ (congrArg Prod.fst (J.1.1 68 (9, 6) rfl)) rfl (by decide) rfl rfl ⟨by decide, by decide⟩ (sf_X9_step_r68d  hD J (jmo w2 rfl (jmo w1 rfl zp0)) (jmo w2 rfl (jmo w1 rfl zp1)) (by omega) rfl  (fun h J S3 u4 u5 qu4 qu5 ru4 X6 => ?_))
  have Sm := jSm_tr rfl Sm S3
  rw [X6] at D
  have eu4 := (show 0 ≤ u4.toInt ∧ u4.toInt ≤ 3 from qu4 ▸ jrg_f J sg_68_5_6_1_0_1)
  try rw [vrf qu4] at D
  have eu5 := (show 0 ≤ u5.toInt ∧ u5.toInt ≤ 400 from qu5 ▸ jrg_f J sg_68_3_4_1_0_1)
  try rw [vrf qu5] at D
  show jX m_X9_begin 4 0 0 14 [(0, .ref 68)] [] _ 0 0 _
  refine x_vret rfl rfl ?_
  show jX m_X5_readPairs 5 0 0 7 [(0, .ref 70)] [] _ 0 0 _
  refine x_aloadn (x := 70) rfl rfl ?_
  refine z_getR (N := 9) (b := 68) 5 1 rfl f_5_39 rfl J rfl 8961 ⟨rfl, rfl⟩ rfl ?_
  refine x_inv (N := m_X9_isEnd) (As := []) (b := 68) (st := []) (dx9 := 4) (mc := 0) (ms := 0) (host := "") 9 rfl t_X9_isEnd ⟨Or.inl q_5_60, i_X9_isEnd.1, i_X9_isEnd.2⟩ ⟨by decide, rfl⟩ (congrArg Prod.fst (J.1.1 68 (9, 6) rfl)) rfl (by decide) rfl rfl ⟨by decide, by decide⟩ (jC.of rfl k_X9_isEnd rfl ?_)
  show jX m_X9_isEnd 4 0 0 0 [(0, .ref 68)] [] _ 0 0 _
  refine x_aloadn (x := 68) rfl rfl ?_
  refine z_getM (N := 6) (v := u4) 9 5 rfl f_9_28 rfl J rfl qu4 ?_
  refine x_ifne (tgt := 11) rfl rfl (ti_ne rfl jk_0 ⟨fun c7 => ?_, fun c7 => ?_⟩)
  ·
    rw [if_neg (by omega)] at D
    refine x_iconst (v := 0) rfl ki_0 ?_
    refine x_zret rfl rfl (by decide) ?_
    show jX m_X5_readPairs 5 0 0 14 [(0, .ref 70)] [.int 0] _ 0 0 _
    refine x_ifeq (tgt := 19) rfl rfl (ti_eq jk_0 jk_0 (br_t (by omega) ?_))
    refine x_iconst (v := 0) rfl ki_0 ?_
    refine x_istoren (lsx9 := [(1, .int 0), (0, .ref 70)]) rfl rfl rfl ?_
    exact jX.sub (jsb_c rfl (jsb_c rfl jsb_n)) (ct_X5_readPairs_r70d_21 hD hQ  9 0 u5 u4 h (by have := jk_0; omega) (jr_of jk_0 (by omega)) (jr_of rfl (by omega)) (jr_of rfl (by omega)) (by omega) qu5 qu4 J Sm (by rw [jk_0]; exact D))
  ·
    rw [if_pos (by omega)] at D
    refine x_iconst (v := 1) rfl ki_1 ?_
    refine x_goto (tgt := 12) rfl rfl ?_
    refine x_zret rfl rfl (by decide) ?_
    show jX m_X5_readPairs 5 0 0 14 [(0, .ref 70)] [.int 1] _ 0 0 _
    refine x_ifeq (tgt := 19) rfl rfl (ti_eq jk_1 jk_0 (br_f (by omega) ?_))
    refine x_iconst (v := 0) rfl ki_0 ?_
    refine x_iret rfl rfl ?_
    exact hQ _ _ (jr_of jk_0 (by omega)) J Sm _ _ qu4 qu5 (by omega) ((congrArg Prod.fst D).symm.trans (show 0 = (0 : Int32).toInt from by have := jk_0; omega)) (congrArg Prod.snd D).symm
def fp_X11_spell_r31d : jFp := [(31, 12, 13), (32, 19, 20), (68, 1, 2), (68, 2, 3), (68, 3, 4), (68, 4, 5), (68, 5, 6), (72, 0, 64), (73, 0, 1024), (74, 0, 16), (75, 0, 43200), (76, 0, 1200), (77, 0, 1200)]
set_option maxRecDepth 100000 in
set_option maxHeartbeats 4000000 in
theorem ct_X11_spell_r31d_10 {Dy : jH → Prop} {h0 : jH} {Q : Option Value → jH → Prop} {dr : (Int × jW)} (hD : jDk Dy) (hQ : ∀ (v : Int32) hx9, (-6) ≤ v.toInt ∧ v.toInt ≤ 8 → jJ jSgX Dy hx9 → jSm fp_X11_spell_r31d h0 hx9 → ∀ u0 u1 : Int32, jiv hx9 68 5 = u0 → jiv hx9 68 3 = u1 → (u0.toInt ≠ 3 ∨ u1.toInt ≤ 399) → dr.1 = v.toInt → dr.2 = vw hx9 → Q (some (.int v)) hx9) : ∀ (g0 : Int32) (g1 : Int32) (h : jH), 0 ≤ g0.toInt ∧ g0.toInt ≤ 400 → 0 ≤ g1.toInt ∧ g1.toInt ≤ 3 → (g1.toInt ≠ 3 ∨ g0.toInt ≤ 399) → jiv h 68 3 = g0 → jiv h 68 5 = g1 → jJ jSgX Dy h → jSm fp_X11_spell_r31d h0 h → d_X11_spell_r31d_10  (vw h) = dr → jX m_X11_spell 6 0 0 10 [(0, .ref 31)] [] h 0 0 Q := by
  intro g0 g1 h y0 y1 y2 z0 z1  J Sm D
  unfold d_X11_spell_r31d_10 at D
  try rw [vrf z0] at D
  try rw [vrf z1] at D
  refine x_aloadn (x := 31) rfl rfl ?_
  refine x_iconst (v := (-1)) rfl ki_m1 ?_
  refine x_inv (N := m_X11_refuseTape) (As := [.int (-1)]) (b := 31) (st := []) (dx9 := 5) (mc := 0) (ms := 0) (host := "") 11 rfl t_X11_refuseTape ⟨Or.inl q_11_122, i_X11_refuseTape.1, i_X11_refuseTape.2⟩ ⟨by decide, rfl⟩ (congrArg Prod.fst (J.1.1 31 (11, 13) rfl)) rfl (by decide) rfl rfl ⟨by decide, by decide⟩ (jC.of rfl k_X11_refuseTape rfl ?_)
  show jX m_X11_refuseTape 5 0 0 0 [(0, .ref 31), (1, .int (-1))] [] _ 0 0 _
  refine x_aloadn (x := 31) rfl rfl ?_
  refine z_getR (N := 13) (b := 68) 11 2 rfl f_11_23 rfl J rfl 3970 ⟨rfl, rfl⟩ rfl ?_
  refine x_iconst (v := 0) rfl ki_0 ?_
  refine z_putI (N := 6) (w := 0) 9 1 rfl f_11_106 rfl (jfin_no TX9 RX9 6 rfl rfl) hD J Sm rfl rfl jk_0 (pw_68_1 (by omega)) rfl (fun h w1 J Sm => ?_)
  rw [vwf w1 (show 0 = (0 : Int32).toInt from by have := jk_0; omega)] at D
  refine x_aloadn (x := 31) rfl rfl ?_
  refine x_iloadn (x := (-1)) rfl rfl ?_
  refine x_inv (N := m_X11_refuse) (As := [.int (-1)]) (b := 31) (st := []) (dx9 := 4) (mc := 0) (ms := 0) (host := "") 11 rfl t_X11_refuse ⟨Or.inl q_11_206, i_X11_refuse.1, i_X11_refuse.2⟩ ⟨by decide, rfl⟩ (congrArg Prod.fst (J.1.1 31 (11, 13) rfl)) rfl (by decide) rfl rfl ⟨by decide, by decide⟩ (jC.of rfl k_X11_refuse rfl ?_)
  show jX m_X11_refuse 4 0 0 0 [(0, .ref 31), (1, .int (-1))] [] _ 0 0 _
  refine x_aloadn (x := 31) rfl rfl ?_
  refine x_iloadn (x := (-1)) rfl rfl ?_
  refine z_putI (N := 13) (w := (-1)) 11 12 rfl f_11_94 rfl (jfin_no TX11 RX11 13 rfl rfl) hD J Sm rfl rfl jk_m1 (pw_31_12 (by omega)) rfl (fun h w2 J Sm => ?_)
  rw [vwf w2 (show (-1) = ((-1) : Int32).toInt from by have := jk_m1; omega)] at D
  refine x_iloadn (x := (-1)) rfl rfl ?_
  refine x_iret rfl rfl ?_
  show jX m_X11_refuseTape 5 0 0 13 [(0, .ref 31), (1, .int (-1))] [.int (-1)] _ 0 0 _
  refine x_iret rfl rfl ?_
  show jX m_X11_spell 6 0 0 15 [(0, .ref 31)] [.int (-1)] _ 0 0 _
  refine x_iret rfl rfl ?_
  exact hQ _ _ (jr_of jk_m1 (by omega)) J Sm _ _ (jmo w2 rfl (jmo w1 rfl z1)) (jmo w2 rfl (jmo w1 rfl z0)) (by omega) ((congrArg Prod.fst D).symm.trans (show (-1) = ((-1) : Int32).toInt from by have := jk_m1; omega)) (congrArg Prod.snd D).symm
set_option maxRecDepth 100000 in
set_option maxHeartbeats 4000000 in
theorem ct_X11_spell_r31d_93 {Dy : jH → Prop} {h0 : jH} {Q : Option Value → jH → Prop} {dr : (Int × jW)} {K55 : Int → Int → Int → jW → (Int × jW)} {R55 : Int} (hD : jDk Dy) (hQ : ∀ (v : Int32) hx9, (-6) ≤ v.toInt ∧ v.toInt ≤ 8 → jJ jSgX Dy hx9 → jSm fp_X11_spell_r31d h0 hx9 → ∀ u0 u1 : Int32, jiv hx9 68 5 = u0 → jiv hx9 68 3 = u1 → (u0.toInt ≠ 3 ∨ u1.toInt ≤ 399) → dr.1 = v.toInt → dr.2 = vw hx9 → Q (some (.int v)) hx9) (k55 : ∀ (l1 : Int32) (l2 : Int32) (l3 : Int32) (g0 : Int32) (g1 : Int32) (h : jH), 200 - l3.toInt < R55 → 0 ≤ l1.toInt ∧ l1.toInt ≤ 15 → 0 ≤ l2.toInt ∧ l2.toInt ≤ 8 → 0 ≤ l3.toInt ∧ l3.toInt ≤ 200 → 0 ≤ g0.toInt ∧ g0.toInt ≤ 400 → 0 ≤ g1.toInt ∧ g1.toInt ≤ 3 → (g1.toInt ≠ 3 ∨ g0.toInt ≤ 399) → jiv h 68 3 = g0 → jiv h 68 5 = g1 → jJ jSgX Dy h → jSm fp_X11_spell_r31d h0 h → K55 l1.toInt l2.toInt l3.toInt (vw h) = dr → jX m_X11_spell 6 0 0 55 [(0, .ref 31), (1, .int l1), (2, .int l2), (3, .int l3)] [] h 0 0 Q) : ∀ (l1 : Int32) (l2 : Int32) (l3 : Int32) (g0 : Int32) (g1 : Int32) (h : jH), 0 ≤ l1.toInt ∧ l1.toInt ≤ 15 → 0 ≤ l2.toInt ∧ l2.toInt ≤ 8 → 0 ≤ l3.toInt ∧ l3.toInt ≤ 199 → 0 ≤ g0.toInt ∧ g0.toInt ≤ 400 → 0 ≤ g1.toInt ∧ g1.toInt ≤ 3 → (g1.toInt ≠ 3 ∨ g0.toInt ≤ 399) → jiv h 68 3 = g0 → jiv h 68 5 = g1 → 200 - l3.toInt ≤ R55 → jJ jSgX Dy h → jSm fp_X11_spell_r31d h0 h → d_X11_spell_r31d_93 K55  l1.toInt l2.toInt l3.toInt (vw h) = dr → jX m_X11_spell 6 0 0 93 [(0, .ref 31), (1, .int l1), (2, .int l2), (3, .int l3)] [] h 0 0 Q := by
  intro l1 l2 l3 g0 g1 h y0 y1 y2 y3 y4 y5 z0 z1 m55 J Sm D
  unfold d_X11_spell_r31d_93 at D
  try rw [vrf z0] at D
  try rw [vrf z1] at D
  refine z_iinc (x := l3) (lsx9 := fun v1 => [(3, .int v1), (0, .ref 31), (1, .int l1), (2, .int l2)]) rfl rfl rfl jko_1 (by omega) rfl (fun _ => rfl) (fun v1 ev1 => ?_)
  refine x_goto (tgt := 55) rfl rfl ?_
  try rw [show (l3.toInt + 1) = v1.toInt from by omega] at D
  exact jX.sub (jsb_c rfl (jsb_c rfl (jsb_c rfl (jsb_c rfl jsb_n)))) (k55 l1 l2 v1 g0 g1 h (by omega) (jr_of rfl (by omega)) (jr_of rfl (by omega)) (jr_of rfl (by omega)) (jr_of rfl (by omega)) (jr_of rfl (by omega)) (by omega) z0 z1 J Sm D)
set_option maxRecDepth 100000 in
set_option maxHeartbeats 4000000 in
theorem ct_X11_spell_r31d_55 {Dy : jH → Prop} {h0 : jH} {Q : Option Value → jH → Prop} {dr : (Int × jW)} (hD : jDk Dy) (hQ : ∀ (v : Int32) hx9, (-6) ≤ v.toInt ∧ v.toInt ≤ 8 → jJ jSgX Dy hx9 → jSm fp_X11_spell_r31d h0 hx9 → ∀ u0 u1 : Int32, jiv hx9 68 5 = u0 → jiv hx9 68 3 = u1 → (u0.toInt ≠ 3 ∨ u1.toInt ≤ 399) → dr.1 = v.toInt → dr.2 = vw hx9 → Q (some (.int v)) hx9) : ∀ r : Nat, ∀ (l1 : Int32) (l2 : Int32) (l3 : Int32) (g0 : Int32) (g1 : Int32) (h : jH), 200 - l3.toInt < (r : Int) → 0 ≤ l1.toInt ∧ l1.toInt ≤ 15 → 0 ≤ l2.toInt ∧ l2.toInt ≤ 8 → 0 ≤ l3.toInt ∧ l3.toInt ≤ 200 → 0 ≤ g0.toInt ∧ g0.toInt ≤ 400 → 0 ≤ g1.toInt ∧ g1.toInt ≤ 3 → (g1.toInt ≠ 3 ∨ g0.toInt ≤ 399) → jiv h 68 3 = g0 → jiv h 68 5 = g1 → jJ jSgX Dy h → jSm fp_X11_spell_r31d h0 h → d_X11_spell_r31d_55 r l1.toInt l2.toInt l3.toInt (vw h) = dr → jX m_X11_spell 6 0 0 55 [(0, .ref 31), (1, .int l1), (2, .int l2), (3, .int l3)] [] h 0 0 Q := by
  intro r
  induction r with
  | zero =>
    intro l1 l2 l3 g0 g1 h hm y0 y1 y2 y3 y4 y5 z0 z1  J Sm D
    exfalso
    omega
  | succ r ih =>
    intro l1 l2 l3 g0 g1 h hm y0 y1 y2 y3 y4 y5 z0 z1  J Sm D
    rw [d_X11_spell_r31d_55.eq_2] at D
    try rw [vrf z0] at D
    try rw [vrf z1] at D
    refine x_iloadn (x := l3) rfl rfl ?_
    refine x_aloadn (x := 31) rfl rfl ?_
    refine z_getR (N := 13) (b := 32) 11 0 rfl f_11_10 rfl J rfl 3968 ⟨rfl, rfl⟩ rfl ?_
    refine z_getR (N := 20) (b := 33) 1 0 rfl f_11_126 rfl J rfl 4096 ⟨rfl, rfl⟩ rfl ?_
    refine z_getI (N := 4) 8 3 rfl f_11_142 rfl J rfl sg_33_3_4_1_0_1 (fun v1 qv1 ev1 => ?_)
    try rw [vrf qv1] at D
    refine x_icge (tgt := 99) rfl rfl (ti_ge rfl rfl ⟨fun c2 => ?_, fun c2 => ?_⟩)
    ·
      rw [if_pos (by omega)] at D
      refine x_aloadn (x := 31) rfl rfl ?_
      refine x_iloadn (x := l2) rfl rfl ?_
      refine x_inv (N := m_X11_accept) (As := [.int l2]) (b := 31) (st := []) (dx9 := 5) (mc := 0) (ms := 0) (host := "") 11 rfl t_X11_accept ⟨Or.inl q_11_165, i_X11_accept.1, i_X11_accept.2⟩ ⟨by decide, rfl⟩ (congrArg Prod.fst (J.1.1 31 (11, 13) rfl)) rfl (by decide) rfl rfl ⟨by decide, by decide⟩ (jC.of rfl k_X11_accept rfl ?_)
      show jX m_X11_accept 5 0 0 0 [(0, .ref 31), (1, .int l2)] [] _ 0 0 _
      refine x_aloadn (x := 31) rfl rfl ?_
      refine x_iconst (v := 0) rfl ki_0 ?_
      refine z_putI (N := 13) (w := 0) 11 12 rfl f_11_94 rfl (jfin_no TX11 RX11 13 rfl rfl) hD J Sm rfl rfl jk_0 (pw_31_12 (by omega)) rfl (fun h w3 J Sm => ?_)
      rw [vwf w3 (show 0 = (0 : Int32).toInt from by have := jk_0; omega)] at D
      refine x_aloadn (x := 31) rfl rfl ?_
      refine z_getR (N := 13) (b := 32) 11 0 rfl f_11_10 rfl J rfl 3968 ⟨rfl, rfl⟩ rfl ?_
      refine x_dup rfl rfl ?_
      refine z_getI0 (N := 20) 1 19 rfl f_11_528 rfl J rfl (fun v4 qv4 => ?_)
      have ev4 := jfull v4
      try rw [vrf (jmb_w w3 qv4 rfl)] at D
      refine x_iconst (v := 1) rfl ki_1 ?_
      refine z_iaddW rfl rfl jk_1 (fun v5 ev5 => ?_)
      have fv5 := jfull v5
      try rw [← ev5] at D
      refine z_putI (N := 20) (w := v5.toInt) 1 19 rfl f_11_528 rfl (jfin_no TX1 RX1 20 rfl rfl) hD J Sm rfl rfl rfl (pw_32_19 trivial) rfl (fun h w6 J Sm => ?_)
      rw [vwf w6 (show v5.toInt = v5.toInt from by omega)] at D
      refine x_iloadn (x := l2) rfl rfl ?_
      refine x_iret rfl rfl ?_
      show jX m_X11_spell 6 0 0 104 [(0, .ref 31), (1, .int l1), (2, .int l2), (3, .int l3)] [.int l2] _ 0 0 _
      refine x_iret rfl rfl ?_
      exact hQ _ _ (jr_of rfl (by omega)) J Sm _ _ (jmo w6 rfl (jmo w3 rfl z1)) (jmo w6 rfl (jmo w3 rfl z0)) (by omega) ((congrArg Prod.fst D).symm.trans (show l2.toInt = l2.toInt from by omega)) (congrArg Prod.snd D).symm
    ·
      rw [if_neg (by omega)] at D
      refine x_aloadn (x := 31) rfl rfl ?_
      refine z_getR (N := 13) (b := 32) 11 0 rfl f_11_10 rfl J rfl 3968 ⟨rfl, rfl⟩ rfl ?_
      refine z_getR (N := 20) (b := 33) 1 0 rfl f_11_126 rfl J rfl 4096 ⟨rfl, rfl⟩ rfl ?_
      refine x_iloadn (x := l3) rfl rfl ?_
      refine x_iconst (v := 3) rfl ki_3 ?_
      refine x_inv (N := m_X8_at) (As := [.int l3, .int 3]) (b := 33) (st := []) (dx9 := 1) (mc := 0) (ms := 0) (host := "") 8 rfl t_X8_at ⟨Or.inl q_11_171, i_X8_at.1, i_X8_at.2⟩ ⟨by decide, rfl⟩ (congrArg Prod.fst (J.1.1 33 (8, 4) rfl)) rfl (by decide) rfl rfl ⟨by decide, by decide⟩ (sf_X8_at_r33_c3d (jr_of rfl (by omega)) hD J rfl  (fun v10 h ev10 J S7 X8 X9 => ?_))
      have Sm := jSm_tr rfl Sm S7
      try rw [X8] at D
      try rw [← X9] at D
      show jX m_X11_spell 6 0 0 81 [(0, .ref 31), (1, .int l1), (2, .int l2), (3, .int l3)] [.int v10] _ 0 0 _
      refine x_iloadn (x := l1) rfl rfl ?_
      refine x_icne (tgt := 93) rfl rfl (ti_ne rfl rfl ⟨fun c11 => ?_, fun c11 => ?_⟩)
      ·
        rw [if_neg (by omega)] at D
        exact jX.sub (jsb_c rfl (jsb_c rfl (jsb_c rfl (jsb_c rfl jsb_n)))) (ct_X11_spell_r31d_93 hD hQ ih l1 l2 l3 g0 g1 h (jr_of rfl (by omega)) (jr_of rfl (by omega)) (jr_of rfl (by omega)) (jr_of rfl (by omega)) (jr_of rfl (by omega)) (by omega) (jmc S7 rfl z0) (jmc S7 rfl z1) (by omega) J Sm D)
      ·
        rw [if_pos (by omega)] at D
        refine x_aloadn (x := 31) rfl rfl ?_
        refine z_getR (N := 13) (b := 70) 11 3 rfl f_11_32 rfl J rfl 3971 ⟨rfl, rfl⟩ rfl ?_
        refine x_iloadn (x := l3) rfl rfl ?_
        refine x_inv (N := m_X5_learn) (As := [.int l3]) (b := 70) (st := []) (dx9 := 4) (mc := 0) (ms := 0) (host := "") 5 rfl t_X5_learn ⟨Or.inl q_11_186, i_X5_learn.1, i_X5_learn.2⟩ ⟨by decide, rfl⟩ (congrArg Prod.fst (J.1.1 70 (5, 9) rfl)) rfl (by decide) rfl rfl ⟨by decide, by decide⟩ (sf_X5_learn_r70d (jr_of rfl (by omega)) hD J rfl  (fun h J S12 X13 => ?_))
        have Sm := jSm_tr rfl Sm S12
        rw [X13] at D
        show jX m_X11_spell 6 0 0 93 [(0, .ref 31), (1, .int l1), (2, .int l2), (3, .int l3)] [] _ 0 0 _
        exact jX.sub (jsb_c rfl (jsb_c rfl (jsb_c rfl (jsb_c rfl jsb_n)))) (ct_X11_spell_r31d_93 hD hQ ih l1 l2 l3 g0 g1 h (jr_of rfl (by omega)) (jr_of rfl (by omega)) (jr_of rfl (by omega)) (jr_of rfl (by omega)) (jr_of rfl (by omega)) (by omega) (jmc S12 rfl (jmc S7 rfl z0)) (jmc S12 rfl (jmc S7 rfl z1)) (by omega) J Sm D)
set_option maxRecDepth 100000 in
set_option maxHeartbeats 4000000 in
theorem sf_X11_spell_r31d {Dy : jH → Prop} {h : jH} {Q : Option Value → jH → Prop} {dr : (Int × jW)} {a1 : Int32} (hD : jDk Dy) (J : jJ jSgX Dy h) {p0 p1 : Int32} (zp0 : jiv h 68 5 = p0) (zp1 : jiv h 68 3 = p1) (rl_p0 : (p0.toInt ≠ 3 ∨ p1.toInt ≤ 399)) (D : d_X11_spell_r31d a1.toInt (vw h) = dr) (hQ : ∀ (v : Int32) hx9, (-6) ≤ v.toInt ∧ v.toInt ≤ 8 → jJ jSgX Dy hx9 → jSm fp_X11_spell_r31d h hx9 → ∀ u0 u1 : Int32, jiv hx9 68 5 = u0 → jiv hx9 68 3 = u1 → (u0.toInt ≠ 3 ∨ u1.toInt ≤ 399) → dr.1 = v.toInt → dr.2 = vw hx9 → Q (some (.int v)) hx9) : jC m_X11_spell 6 0 0 [.ref 31, .int a1] h Q := by
  refine jC.of rfl k_X11_spell rfl ?_
  have Sm := jSm_rf fp_X11_spell_r31d h
  have ep0 := (show 0 ≤ p0.toInt ∧ p0.toInt ≤ 3 from zp0 ▸ jrg_f J sg_68_5_6_1_0_1)
  have ep1 := (show 0 ≤ p1.toInt ∧ p1.toInt ≤ 400 from zp1 ▸ jrg_f J sg_68_3_4_1_0_1)
  have ea1 := jfull a1
  show jX m_X11_spell 6 0 0 0 [(0, .ref 31), (1, .int a1)] [] _ 0 0 _
  unfold d_X11_spell_r31d at D
  try rw [vrf zp0] at D
  try rw [vrf zp1] at D
  refine x_iloadn (x := a1) rfl rfl ?_
  refine x_iflt (tgt := 10) rfl rfl (ti_lt rfl jk_0 ⟨fun c1 => ?_, fun c1 => ?_⟩)
  ·
    rw [if_pos (by omega)] at D
    exact jX.sub (jsb_c rfl jsb_n) (ct_X11_spell_r31d_10 hD hQ  p1 p0 h (jr_of rfl (by omega)) (jr_of rfl (by omega)) (by omega) zp1 zp0 J Sm D)
  ·
    rw [if_neg (by omega)] at D
    refine x_iloadn (x := a1) rfl rfl ?_
    refine x_bipush (v := 15) rfl kb_15 ?_
    refine x_icle (tgt := 16) rfl rfl (ti_le rfl jk_15 ⟨fun c2 => ?_, fun c2 => ?_⟩)
    ·
      rw [if_pos (by omega)] at D
      refine x_aloadn (x := 31) rfl rfl ?_
      refine z_getR (N := 13) (b := 70) 11 3 rfl f_11_32 rfl J rfl 3971 ⟨rfl, rfl⟩ rfl ?_
      refine x_inv (N := m_X5_readPairs) (As := []) (b := 70) (st := []) (dx9 := 5) (mc := 0) (ms := 0) (host := "") 5 rfl t_X5_readPairs ⟨Or.inl q_11_178, i_X5_readPairs.1, i_X5_readPairs.2⟩ ⟨by decide, rfl⟩ (congrArg Prod.fst (J.1.1 70 (5, 9) rfl)) rfl (by decide) rfl rfl ⟨by decide, by decide⟩ (sf_X5_readPairs_r70d  hD J zp0 zp1 (by omega) rfl  (fun v8 h ev8 J S3 u4 u5 qu4 qu5 ru4 X6 X7 => ?_))
      have Sm := jSm_tr rfl Sm S3
      try rw [X6] at D
      try rw [X7] at D
      have eu4 := (show 0 ≤ u4.toInt ∧ u4.toInt ≤ 3 from qu4 ▸ jrg_f J sg_68_5_6_1_0_1)
      try rw [vrf qu4] at D
      have eu5 := (show 0 ≤ u5.toInt ∧ u5.toInt ≤ 400 from qu5 ▸ jrg_f J sg_68_3_4_1_0_1)
      try rw [vrf qu5] at D
      show jX m_X11_spell 6 0 0 23 [(0, .ref 31), (1, .int a1)] [.int v8] _ 0 0 _
      refine x_istoren (lsx9 := [(2, .int v8), (0, .ref 31), (1, .int a1)]) rfl rfl rfl ?_
      refine x_iloadn (x := v8) rfl rfl ?_
      refine x_iconst (v := (-1)) rfl ki_m1 ?_
      refine x_icne (tgt := 36) rfl rfl (ti_ne rfl jk_m1 ⟨fun c9 => ?_, fun c9 => ?_⟩)
      ·
        rw [if_neg (by omega)] at D
        refine x_aloadn (x := 31) rfl rfl ?_
        refine z_getR (N := 13) (b := 68) 11 2 rfl f_11_23 rfl J rfl 3970 ⟨rfl, rfl⟩ rfl ?_
        refine x_iconst (v := 0) rfl ki_0 ?_
        refine z_putI (N := 6) (w := 0) 9 1 rfl f_11_106 rfl (jfin_no TX9 RX9 6 rfl rfl) hD J Sm rfl rfl jk_0 (pw_68_1 (by omega)) rfl (fun h w10 J Sm => ?_)
        rw [vwf w10 (show 0 = (0 : Int32).toInt from by have := jk_0; omega)] at D
        refine x_aloadn (x := 31) rfl rfl ?_
        refine z_getR (N := 13) (b := 70) 11 3 rfl f_11_32 rfl J rfl 3971 ⟨rfl, rfl⟩ rfl ?_
        refine x_iloadn (x := a1) rfl rfl ?_
        refine x_iloadn (x := v8) rfl rfl ?_
        refine x_inv (N := m_X5_keepPairs) (As := [.int a1, .int v8]) (b := 70) (st := []) (dx9 := 5) (mc := 0) (ms := 0) (host := "") 5 rfl t_X5_keepPairs ⟨Or.inl q_11_182, i_X5_keepPairs.1, i_X5_keepPairs.2⟩ ⟨by decide, rfl⟩ (congrArg Prod.fst (J.1.1 70 (5, 9) rfl)) rfl (by decide) rfl rfl ⟨by decide, by decide⟩ (jC.of rfl k_X5_keepPairs rfl ?_)
        show jX m_X5_keepPairs 5 0 0 0 [(0, .ref 70), (1, .int a1), (2, .int v8)] [] _ 0 0 _
        refine x_iloadn (x := a1) rfl rfl ?_
        refine x_iflt (tgt := 50) rfl rfl (ti_lt rfl jk_0 (br_f (by omega) ?_))
        refine x_iloadn (x := a1) rfl rfl ?_
        refine x_bipush (v := 15) rfl kb_15 ?_
        refine x_icgt (tgt := 50) rfl rfl (ti_gt rfl jk_15 (br_f (by omega) ?_))
        refine x_iloadn (x := v8) rfl rfl ?_
        refine x_iflt (tgt := 50) rfl rfl (ti_lt rfl jk_0 (br_f (by omega) ?_))
        refine x_iloadn (x := v8) rfl rfl ?_
        refine x_bipush (v := 8) rfl kb_8 ?_
        refine x_icgt (tgt := 50) rfl rfl (ti_gt rfl jk_8 (br_f (by omega) ?_))
        refine x_aloadn (x := 70) rfl rfl ?_
        refine z_getR (N := 9) (b := 72) 5 3 rfl f_5_15 rfl J rfl 8963 ⟨rfl, rfl⟩ rfl ?_
        refine x_iconst (v := 0) rfl ki_0 ?_
        refine x_aloadn (x := 70) rfl rfl ?_
        refine z_getR (N := 9) (b := 73) 5 4 rfl f_5_18 rfl J rfl 8964 ⟨rfl, rfl⟩ rfl ?_
        refine x_iloadn (x := a1) rfl rfl ?_
        refine x_aloadn (x := 70) rfl rfl ?_
        refine z_getR (N := 9) (b := 72) 5 3 rfl f_5_15 rfl J rfl 8963 ⟨rfl, rfl⟩ rfl ?_
        refine z_alen (N := 64) (v := 64) rfl J rfl rfl (by decide) ?_
        refine z_imul rfl rfl jk_64 (by omega) (fun v11 ev11 => ?_)
        refine x_iloadn (x := v8) rfl rfl ?_
        refine x_bipush (v := 8) rfl kb_8 ?_
        refine z_imul rfl rfl jk_8 (by omega) (fun v12 ev12 => ?_)
        refine z_cpi (N1 := 64) (N2 := 1024) rfl ⟨q_5_96, jcp_w⟩ (by decide) rfl hD J Sm rfl rfl rfl rfl jk_0 rfl rfl (by omega) (cp_73 (fun k k1 k2 k3 => by have k4 := k3.1; have k5 := k3.2.1; have k6 := k3.2.2; simp only at k4 k5 k6; exact jcp_in J sg_72_0_64_4_0_1 rfl (by omega) (by decide)) (fun k k1 k2 k3 => by have k4 := k3.1; have k5 := k3.2.1; have k6 := k3.2.2; simp only at k4 k5 k6; exact jcp_in J sg_72_0_64_4_1_4 rfl (by omega) (by decide)) (fun k k1 k2 k3 => by have k4 := k3.1; have k5 := k3.2.1; have k6 := k3.2.2; simp only at k4 k5 k6; exact jcp_in J sg_72_0_64_1_0_1 rfl (by omega) (by decide))) rfl (fun h w13 J Sm => ?_)
        try rw [show (a1.toInt * 64) = v11.toInt from by omega] at D
        try rw [show (v8.toInt * 8) = v12.toInt from by omega] at D
        rw [vwk w13 (show (0 : Int) = (0 : Int32).toInt from by decide) (show (v11.toInt : Int) = (v11 : Int32).toInt from by omega) (show (v12.toInt : Int) = (v12 : Int32).toInt from by omega)] at D
        refine x_aloadn (x := 70) rfl rfl ?_
        refine z_getR (N := 9) (b := 74) 5 5 rfl f_5_21 rfl J rfl 8965 ⟨rfl, rfl⟩ rfl ?_
        refine x_iloadn (x := a1) rfl rfl ?_
        refine x_iloadn (x := v8) rfl rfl ?_
        refine z_iast (N := 16) (l := 0) (u := 16) (w := v8.toInt) rfl hD J Sm rfl rfl rfl (by omega) rfl (wr_74 (fun q1 q2 q3 q4 => by omega)) rfl (fun h w14 J Sm => ?_)
        rw [vww w14 (show a1.toInt = a1.toInt from by omega) (show v8.toInt = v8.toInt from by omega)] at D
        refine x_vret rfl rfl ?_
        show jX m_X11_spell 6 0 0 53 [(2, .int v8), (0, .ref 31), (1, .int a1)] [] _ 0 0 _
        refine x_iconst (v := 0) rfl ki_0 ?_
        refine x_istoren (lsx9 := [(3, .int 0), (2, .int v8), (0, .ref 31), (1, .int a1)]) rfl rfl rfl ?_
        exact jX.sub (jsb_c rfl (jsb_c rfl (jsb_c rfl (jsb_c rfl jsb_n)))) (ct_X11_spell_r31d_55 hD hQ  201 a1 v8 0 u5 u4 h (by have := jk_0; omega) (jr_of rfl (by omega)) (jr_of rfl (by omega)) (jr_of jk_0 (by omega)) (jr_of rfl (by omega)) (jr_of rfl (by omega)) (by omega) (jmo w14 rfl (jmk w13 rfl (jmo w10 rfl qu5))) (jmo w14 rfl (jmk w13 rfl (jmo w10 rfl qu4))) J Sm (by rw [jk_0]; exact D))
      ·
        rw [if_pos (by omega)] at D
        refine x_aloadn (x := 31) rfl rfl ?_
        refine x_bipush (v := (-6)) rfl kb_m6 ?_
        refine x_inv (N := m_X11_refuseTape) (As := [.int (-6)]) (b := 31) (st := []) (dx9 := 5) (mc := 0) (ms := 0) (host := "") 11 rfl t_X11_refuseTape ⟨Or.inl q_11_122, i_X11_refuseTape.1, i_X11_refuseTape.2⟩ ⟨by decide, rfl⟩ (congrArg Prod.fst (J.1.1 31 (11, 13) rfl)) rfl (by decide) rfl rfl ⟨by decide, by decide⟩ (jC.of rfl k_X11_refuseTape rfl ?_)
        show jX m_X11_refuseTape 5 0 0 0 [(0, .ref 31), (1, .int (-6))] [] _ 0 0 _
        refine x_aloadn (x := 31) rfl rfl ?_
        refine z_getR (N := 13) (b := 68) 11 2 rfl f_11_23 rfl J rfl 3970 ⟨rfl, rfl⟩ rfl ?_
        refine x_iconst (v := 0) rfl ki_0 ?_
        refine z_putI (N := 6) (w := 0) 9 1 rfl f_11_106 rfl (jfin_no TX9 RX9 6 rfl rfl) hD J Sm rfl rfl jk_0 (pw_68_1 (by omega)) rfl (fun h w15 J Sm => ?_)
        rw [vwf w15 (show 0 = (0 : Int32).toInt from by have := jk_0; omega)] at D
        refine x_aloadn (x := 31) rfl rfl ?_
        refine x_iloadn (x := (-6)) rfl rfl ?_
        refine x_inv (N := m_X11_refuse) (As := [.int (-6)]) (b := 31) (st := []) (dx9 := 4) (mc := 0) (ms := 0) (host := "") 11 rfl t_X11_refuse ⟨Or.inl q_11_206, i_X11_refuse.1, i_X11_refuse.2⟩ ⟨by decide, rfl⟩ (congrArg Prod.fst (J.1.1 31 (11, 13) rfl)) rfl (by decide) rfl rfl ⟨by decide, by decide⟩ (jC.of rfl k_X11_refuse rfl ?_)
        show jX m_X11_refuse 4 0 0 0 [(0, .ref 31), (1, .int (-6))] [] _ 0 0 _
        refine x_aloadn (x := 31) rfl rfl ?_
        refine x_iloadn (x := (-6)) rfl rfl ?_
        refine z_putI (N := 13) (w := (-6)) 11 12 rfl f_11_94 rfl (jfin_no TX11 RX11 13 rfl rfl) hD J Sm rfl rfl jk_m6 (pw_31_12 (by omega)) rfl (fun h w16 J Sm => ?_)
        rw [vwf w16 (show (-6) = ((-6) : Int32).toInt from by have := jk_m6; omega)] at D
        refine x_iloadn (x := (-6)) rfl rfl ?_
        refine x_iret rfl rfl ?_
        show jX m_X11_refuseTape 5 0 0 13 [(0, .ref 31), (1, .int (-6))] [.int (-6)] _ 0 0 _
        refine x_iret rfl rfl ?_
        show jX m_X11_spell 6 0 0 35 [(2, .int v8), (0, .ref 31), (1, .int a1)] [.int (-6)] _ 0 0 _
        refine x_iret rfl rfl ?_
        exact hQ _ _ (jr_of jk_m6 (by omega)) J Sm _ _ (jmo w16 rfl (jmo w15 rfl qu4)) (jmo w16 rfl (jmo w15 rfl qu5)) (by omega) ((congrArg Prod.fst D).symm.trans (show (-6) = ((-6) : Int32).toInt from by have := jk_m6; omega)) (congrArg Prod.snd D).symm
    ·
      rw [if_neg (by omega)] at D
      exact jX.sub (jsb_c rfl jsb_n) (ct_X11_spell_r31d_10 hD hQ  p1 p0 h (jr_of rfl (by omega)) (jr_of rfl (by omega)) (by omega) zp1 zp0 J Sm D)
def fp_X11_split_r31d : jFp := [(31, 12, 13), (32, 19, 20), (49, 3, 4), (50, 0, 200), (63, 3, 4), (64, 0, 740)]
set_option maxRecDepth 100000 in
set_option maxHeartbeats 4000000 in
theorem ct_X11_split_r31d_41 {Dy : jH → Prop} {h0 : jH} {Q : Option Value → jH → Prop} {dr : (Int × jW)} (hD : jDk Dy) (hQ : ∀ (v : Int32) hx9, (-366) ≤ v.toInt ∧ v.toInt ≤ 40 → jJ jSgX Dy hx9 → jSm fp_X11_split_r31d h0 hx9 → dr.1 = v.toInt → dr.2 = vw hx9 → Q (some (.int v)) hx9) : ∀ (h : jH), jJ jSgX Dy h → jSm fp_X11_split_r31d h0 h → d_X11_split_r31d_41  (vw h) = dr → jX m_X11_split 4 0 0 41 [(0, .ref 31)] [] h 0 0 Q := by
  intro  h    J Sm D
  unfold d_X11_split_r31d_41 at D
  refine x_aloadn (x := 31) rfl rfl ?_
  refine x_iconst (v := (-1)) rfl ki_m1 ?_
  refine x_inv (N := m_X11_refuse) (As := [.int (-1)]) (b := 31) (st := []) (dx9 := 3) (mc := 0) (ms := 0) (host := "") 11 rfl t_X11_refuse ⟨Or.inl q_11_206, i_X11_refuse.1, i_X11_refuse.2⟩ ⟨by decide, rfl⟩ (congrArg Prod.fst (J.1.1 31 (11, 13) rfl)) rfl (by decide) rfl rfl ⟨by decide, by decide⟩ (jC.of rfl k_X11_refuse rfl ?_)
  show jX m_X11_refuse 3 0 0 0 [(0, .ref 31), (1, .int (-1))] [] _ 0 0 _
  refine x_aloadn (x := 31) rfl rfl ?_
  refine x_iloadn (x := (-1)) rfl rfl ?_
  refine z_putI (N := 13) (w := (-1)) 11 12 rfl f_11_94 rfl (jfin_no TX11 RX11 13 rfl rfl) hD J Sm rfl rfl jk_m1 (pw_31_12 (by omega)) rfl (fun h w1 J Sm => ?_)
  rw [vwf w1 (show (-1) = ((-1) : Int32).toInt from by have := jk_m1; omega)] at D
  refine x_iloadn (x := (-1)) rfl rfl ?_
  refine x_iret rfl rfl ?_
  show jX m_X11_split 4 0 0 46 [(0, .ref 31)] [.int (-1)] _ 0 0 _
  refine x_iret rfl rfl ?_
  exact hQ _ _ (jr_of jk_m1 (by omega)) J Sm ((congrArg Prod.fst D).symm.trans (show (-1) = ((-1) : Int32).toInt from by have := jk_m1; omega)) (congrArg Prod.snd D).symm
set_option maxRecDepth 100000 in
set_option maxHeartbeats 4000000 in
theorem sf_X11_split_r31d {Dy : jH → Prop} {h : jH} {Q : Option Value → jH → Prop} {dr : (Int × jW)} {a1 : Int32} {a2 : Int32} {a3 : Int32} {a4 : Int32} {a5 : Int32} (hD : jDk Dy) (J : jJ jSgX Dy h) (D : d_X11_split_r31d a1.toInt a2.toInt a3.toInt a4.toInt a5.toInt (vw h) = dr) (hQ : ∀ (v : Int32) hx9, (-366) ≤ v.toInt ∧ v.toInt ≤ 40 → jJ jSgX Dy hx9 → jSm fp_X11_split_r31d h hx9 → dr.1 = v.toInt → dr.2 = vw hx9 → Q (some (.int v)) hx9) : jC m_X11_split 4 0 0 [.ref 31, .int a1, .int a2, .int a3, .int a4, .int a5] h Q := by
  refine jC.of rfl k_X11_split rfl ?_
  have Sm := jSm_rf fp_X11_split_r31d h
  have ea1 := jfull a1
  have ea2 := jfull a2
  have ea3 := jfull a3
  have ea4 := jfull a4
  have ea5 := jfull a5
  show jX m_X11_split 4 0 0 0 [(0, .ref 31), (1, .int a1), (2, .int a2), (3, .int a3), (4, .int a4), (5, .int a5)] [] _ 0 0 _
  unfold d_X11_split_r31d at D
  refine x_iloadn (x := a2) rfl rfl ?_
  refine x_iconst (v := 1) rfl ki_1 ?_
  refine x_bipush (v := 100) rfl kb_100 ?_
  refine x_inst (N := m_X11_isWithin) (As := [.int a2, .int 1, .int 100]) (st := []) (dx9 := 1) (mc := 0) (ms := 0) (host := "") rfl t_X11_isWithin ⟨Or.inl q_11_202, s_X11_isWithin⟩ rfl (by decide) rfl rfl ⟨by decide, by decide⟩ (zc_X11_isWithin rfl jk_1 jk_100 (fun v1 ev1 => ?_))
  show jX m_X11_split 4 0 0 7 [(0, .ref 31), (1, .int a1), (2, .int a2), (3, .int a3), (4, .int a4), (5, .int a5)] [.int v1] _ 0 0 _
  refine x_ifeq (tgt := 41) rfl rfl (ti_eq rfl jk_0 ⟨fun c2 => ?_, fun c2 => ?_⟩)
  ·
    rw [if_neg (by omega)] at D
    exact jX.sub (jsb_c rfl jsb_n) (ct_X11_split_r31d_41 hD hQ  h J Sm D)
  ·
    rw [if_pos (by omega)] at D
    refine x_iloadn (x := a3) rfl rfl ?_
    refine x_iconst (v := 1) rfl ki_1 ?_
    refine x_bipush (v := 100) rfl kb_100 ?_
    refine x_inst (N := m_X11_isWithin) (As := [.int a3, .int 1, .int 100]) (st := []) (dx9 := 1) (mc := 0) (ms := 0) (host := "") rfl t_X11_isWithin ⟨Or.inl q_11_202, s_X11_isWithin⟩ rfl (by decide) rfl rfl ⟨by decide, by decide⟩ (zc_X11_isWithin rfl jk_1 jk_100 (fun v3 ev3 => ?_))
    show jX m_X11_split 4 0 0 17 [(0, .ref 31), (1, .int a1), (2, .int a2), (3, .int a3), (4, .int a4), (5, .int a5)] [.int v3] _ 0 0 _
    refine x_ifeq (tgt := 41) rfl rfl (ti_eq rfl jk_0 ⟨fun c4 => ?_, fun c4 => ?_⟩)
    ·
      rw [if_neg (by omega)] at D
      exact jX.sub (jsb_c rfl jsb_n) (ct_X11_split_r31d_41 hD hQ  h J Sm D)
    ·
      rw [if_pos (by omega)] at D
      refine x_iloadn (x := a2) rfl rfl ?_
      refine x_iloadn (x := a3) rfl rfl ?_
      refine x_icge (tgt := 41) rfl rfl (ti_ge rfl rfl ⟨fun c5 => ?_, fun c5 => ?_⟩)
      ·
        rw [if_pos (by omega)] at D
        exact jX.sub (jsb_c rfl jsb_n) (ct_X11_split_r31d_41 hD hQ  h J Sm D)
      ·
        rw [if_neg (by omega)] at D
        refine x_iload (x := a4) rfl rfl ?_
        refine x_inst (N := m_X11_isDay) (As := [.int a4]) (st := []) (dx9 := 1) (mc := 0) (ms := 0) (host := "") rfl t_X11_isDay ⟨Or.inl q_11_115, s_X11_isDay⟩ rfl (by decide) rfl rfl ⟨by decide, by decide⟩ (zc_X11_isDay rfl (fun v6 ev6 => ?_))
        show jX m_X11_split 4 0 0 30 [(0, .ref 31), (1, .int a1), (2, .int a2), (3, .int a3), (4, .int a4), (5, .int a5)] [.int v6] _ 0 0 _
        refine x_ifeq (tgt := 41) rfl rfl (ti_eq rfl jk_0 ⟨fun c7 => ?_, fun c7 => ?_⟩)
        ·
          rw [if_neg (by omega)] at D
          exact jX.sub (jsb_c rfl jsb_n) (ct_X11_split_r31d_41 hD hQ  h J Sm D)
        ·
          rw [if_pos (by omega)] at D
          refine x_iload (x := a5) rfl rfl ?_
          refine x_inst (N := m_X11_isDay) (As := [.int a5]) (st := []) (dx9 := 1) (mc := 0) (ms := 0) (host := "") rfl t_X11_isDay ⟨Or.inl q_11_115, s_X11_isDay⟩ rfl (by decide) rfl rfl ⟨by decide, by decide⟩ (zc_X11_isDay rfl (fun v8 ev8 => ?_))
          show jX m_X11_split 4 0 0 38 [(0, .ref 31), (1, .int a1), (2, .int a2), (3, .int a3), (4, .int a4), (5, .int a5)] [.int v8] _ 0 0 _
          refine x_ifne (tgt := 47) rfl rfl (ti_ne rfl jk_0 ⟨fun c9 => ?_, fun c9 => ?_⟩)
          ·
            rw [if_pos (by omega)] at D
            refine x_aloadn (x := 31) rfl rfl ?_
            refine x_iloadn (x := a1) rfl rfl ?_
            refine x_inv (N := m_X11_isHolding) (As := [.int a1]) (b := 31) (st := []) (dx9 := 3) (mc := 0) (ms := 0) (host := "") 11 rfl t_X11_isHolding ⟨Or.inl q_11_415, i_X11_isHolding.1, i_X11_isHolding.2⟩ ⟨by decide, rfl⟩ (congrArg Prod.fst (J.1.1 31 (11, 13) rfl)) rfl (by decide) rfl rfl ⟨by decide, by decide⟩ (jC.of rfl k_X11_isHolding rfl ?_)
            show jX m_X11_isHolding 3 0 0 0 [(0, .ref 31), (1, .int a1)] [] _ 0 0 _
            refine x_iloadn (x := a1) rfl rfl ?_
            refine x_iflt (tgt := 28) rfl rfl (ti_lt rfl jk_0 ⟨fun c10 => ?_, fun c10 => ?_⟩)
            ·
              rw [if_pos (by omega)] at D
              refine x_iconst (v := 0) rfl ki_0 ?_
              refine x_zret rfl rfl (by decide) ?_
              show jX m_X11_split 4 0 0 52 [(0, .ref 31), (1, .int a1), (2, .int a2), (3, .int a3), (4, .int a4), (5, .int a5)] [.int 0] _ 0 0 _
              refine x_ifne (tgt := 62) rfl rfl (ti_ne jk_0 jk_0 (bn_f (by omega) ?_))
              refine x_aloadn (x := 31) rfl rfl ?_
              refine x_bipush (v := (-2)) rfl kb_m2 ?_
              refine x_inv (N := m_X11_refuse) (As := [.int (-2)]) (b := 31) (st := []) (dx9 := 3) (mc := 0) (ms := 0) (host := "") 11 rfl t_X11_refuse ⟨Or.inl q_11_206, i_X11_refuse.1, i_X11_refuse.2⟩ ⟨by decide, rfl⟩ (congrArg Prod.fst (J.1.1 31 (11, 13) rfl)) rfl (by decide) rfl rfl ⟨by decide, by decide⟩ (jC.of rfl k_X11_refuse rfl ?_)
              show jX m_X11_refuse 3 0 0 0 [(0, .ref 31), (1, .int (-2))] [] _ 0 0 _
              refine x_aloadn (x := 31) rfl rfl ?_
              refine x_iloadn (x := (-2)) rfl rfl ?_
              refine z_putI (N := 13) (w := (-2)) 11 12 rfl f_11_94 rfl (jfin_no TX11 RX11 13 rfl rfl) hD J Sm rfl rfl jk_m2 (pw_31_12 (by omega)) rfl (fun h w11 J Sm => ?_)
              rw [vwf w11 (show (-2) = ((-2) : Int32).toInt from by have := jk_m2; omega)] at D
              refine x_iloadn (x := (-2)) rfl rfl ?_
              refine x_iret rfl rfl ?_
              show jX m_X11_split 4 0 0 61 [(0, .ref 31), (1, .int a1), (2, .int a2), (3, .int a3), (4, .int a4), (5, .int a5)] [.int (-2)] _ 0 0 _
              refine x_iret rfl rfl ?_
              exact hQ _ _ (jr_of jk_m2 (by omega)) J Sm ((congrArg Prod.fst D).symm.trans (show (-2) = ((-2) : Int32).toInt from by have := jk_m2; omega)) (congrArg Prod.snd D).symm
            ·
              rw [if_neg (by omega)] at D
              refine x_iloadn (x := a1) rfl rfl ?_
              refine x_aloadn (x := 31) rfl rfl ?_
              refine z_getR (N := 13) (b := 32) 11 0 rfl f_11_10 rfl J rfl 3968 ⟨rfl, rfl⟩ rfl ?_
              refine z_getR (N := 20) (b := 49) 1 8 rfl f_11_408 rfl J rfl 4104 ⟨rfl, rfl⟩ rfl ?_
              refine z_getI (N := 4) 8 3 rfl f_11_142 rfl J rfl sg_49_3_4_1_0_1 (fun v12 qv12 ev12 => ?_)
              try rw [vrf qv12] at D
              refine x_icge (tgt := 28) rfl rfl (ti_ge rfl rfl ⟨fun c13 => ?_, fun c13 => ?_⟩)
              ·
                rw [if_pos (by omega)] at D
                refine x_iconst (v := 0) rfl ki_0 ?_
                refine x_zret rfl rfl (by decide) ?_
                show jX m_X11_split 4 0 0 52 [(0, .ref 31), (1, .int a1), (2, .int a2), (3, .int a3), (4, .int a4), (5, .int a5)] [.int 0] _ 0 0 _
                refine x_ifne (tgt := 62) rfl rfl (ti_ne jk_0 jk_0 (bn_f (by omega) ?_))
                refine x_aloadn (x := 31) rfl rfl ?_
                refine x_bipush (v := (-2)) rfl kb_m2 ?_
                refine x_inv (N := m_X11_refuse) (As := [.int (-2)]) (b := 31) (st := []) (dx9 := 3) (mc := 0) (ms := 0) (host := "") 11 rfl t_X11_refuse ⟨Or.inl q_11_206, i_X11_refuse.1, i_X11_refuse.2⟩ ⟨by decide, rfl⟩ (congrArg Prod.fst (J.1.1 31 (11, 13) rfl)) rfl (by decide) rfl rfl ⟨by decide, by decide⟩ (jC.of rfl k_X11_refuse rfl ?_)
                show jX m_X11_refuse 3 0 0 0 [(0, .ref 31), (1, .int (-2))] [] _ 0 0 _
                refine x_aloadn (x := 31) rfl rfl ?_
                refine x_iloadn (x := (-2)) rfl rfl ?_
                refine z_putI (N := 13) (w := (-2)) 11 12 rfl f_11_94 rfl (jfin_no TX11 RX11 13 rfl rfl) hD J Sm rfl rfl jk_m2 (pw_31_12 (by omega)) rfl (fun h w14 J Sm => ?_)
                rw [vwf w14 (show (-2) = ((-2) : Int32).toInt from by have := jk_m2; omega)] at D
                refine x_iloadn (x := (-2)) rfl rfl ?_
                refine x_iret rfl rfl ?_
                show jX m_X11_split 4 0 0 61 [(0, .ref 31), (1, .int a1), (2, .int a2), (3, .int a3), (4, .int a4), (5, .int a5)] [.int (-2)] _ 0 0 _
                refine x_iret rfl rfl ?_
                exact hQ _ _ (jr_of jk_m2 (by omega)) J Sm ((congrArg Prod.fst D).symm.trans (show (-2) = ((-2) : Int32).toInt from by have := jk_m2; omega)) (congrArg Prod.snd D).symm
              ·
                rw [if_neg (by omega)] at D
                refine x_iloadn (x := a1) rfl rfl ?_
                refine x_bipush (v := 40) rfl kb_40 ?_
                refine x_icge (tgt := 28) rfl rfl (ti_ge rfl jk_40 (br_f (by omega) ?_))
                refine x_iconst (v := 1) rfl ki_1 ?_
                refine x_goto (tgt := 29) rfl rfl ?_
                refine x_zret rfl rfl (by decide) ?_
                show jX m_X11_split 4 0 0 52 [(0, .ref 31), (1, .int a1), (2, .int a2), (3, .int a3), (4, .int a4), (5, .int a5)] [.int 1] _ 0 0 _
                refine x_ifne (tgt := 62) rfl rfl (ti_ne jk_1 jk_0 (bn_t (by omega) ?_))
                refine x_aloadn (x := 31) rfl rfl ?_
                refine z_getR (N := 13) (b := 32) 11 0 rfl f_11_10 rfl J rfl 3968 ⟨rfl, rfl⟩ rfl ?_
                refine z_getR (N := 20) (b := 49) 1 8 rfl f_11_408 rfl J rfl 4104 ⟨rfl, rfl⟩ rfl ?_
                refine x_inv (N := m_X8_isFull) (As := []) (b := 49) (st := []) (dx9 := 1) (mc := 0) (ms := 0) (host := "") 8 rfl t_X8_isFull ⟨Or.inl q_11_130, i_X8_isFull.1, i_X8_isFull.2⟩ ⟨by decide, rfl⟩ (congrArg Prod.fst (J.1.1 49 (8, 4) rfl)) rfl (by decide) rfl rfl ⟨by decide, by decide⟩ (sf_X8_isFull_r49d  hD J rfl  (fun v18 h ev18 J S15 X16 X17 => ?_))
                have Sm := jSm_tr rfl Sm S15
                try rw [X16] at D
                try rw [← X17] at D
                show jX m_X11_split 4 0 0 72 [(0, .ref 31), (1, .int a1), (2, .int a2), (3, .int a3), (4, .int a4), (5, .int a5)] [.int v18] _ 0 0 _
                refine x_ifeq (tgt := 82) rfl rfl (ti_eq rfl jk_0 ⟨fun c19 => ?_, fun c19 => ?_⟩)
                ·
                  rw [if_pos (by omega)] at D
                  refine x_aloadn (x := 31) rfl rfl ?_
                  refine x_aloadn (x := 31) rfl rfl ?_
                  refine x_iloadn (x := a1) rfl rfl ?_
                  refine x_iloadn (x := a2) rfl rfl ?_
                  refine x_iloadn (x := a3) rfl rfl ?_
                  refine x_iload (x := a4) rfl rfl ?_
                  refine x_iload (x := a5) rfl rfl ?_
                  refine x_inv (N := m_X11_addHolding) (As := [.int a1, .int a2, .int a3, .int a4, .int a5]) (b := 31) (st := [.ref 31]) (dx9 := 3) (mc := 0) (ms := 0) (host := "") 11 rfl t_X11_addHolding ⟨Or.inl q_11_411, i_X11_addHolding.1, i_X11_addHolding.2⟩ ⟨by decide, rfl⟩ (congrArg Prod.fst (J.1.1 31 (11, 13) rfl)) rfl (by decide) rfl rfl ⟨by decide, by decide⟩ (jC.of rfl k_X11_addHolding rfl ?_)
                  show jX m_X11_addHolding 3 0 0 0 [(0, .ref 31), (1, .int a1), (2, .int a2), (3, .int a3), (4, .int a4), (5, .int a5)] [] _ 0 0 _
                  refine x_aloadn (x := 31) rfl rfl ?_
                  refine z_getR (N := 13) (b := 32) 11 0 rfl f_11_10 rfl J rfl 3968 ⟨rfl, rfl⟩ rfl ?_
                  refine z_getR (N := 20) (b := 49) 1 8 rfl f_11_408 rfl J rfl 4104 ⟨rfl, rfl⟩ rfl ?_
                  refine z_getM (N := 4) (v := v12) 8 3 rfl f_11_142 rfl J rfl (jmc S15 rfl qv12) ?_
                  refine x_istore (lsx9 := [(6, .int v12), (0, .ref 31), (1, .int a1), (2, .int a2), (3, .int a3), (4, .int a4), (5, .int a5)]) rfl rfl rfl ?_
                  refine x_aloadn (x := 31) rfl rfl ?_
                  refine z_getR (N := 13) (b := 32) 11 0 rfl f_11_10 rfl J rfl 3968 ⟨rfl, rfl⟩ rfl ?_
                  refine z_getR (N := 20) (b := 49) 1 8 rfl f_11_408 rfl J rfl 4104 ⟨rfl, rfl⟩ rfl ?_
                  refine x_iload (x := a5) rfl rfl ?_
                  refine x_iload (x := a4) rfl rfl ?_
                  refine x_iloadn (x := a1) rfl rfl ?_
                  refine x_iloadn (x := a2) rfl rfl ?_
                  refine x_iloadn (x := a3) rfl rfl ?_
                  refine x_iconst (v := 0) rfl ki_0 ?_
                  refine x_inv (N := m_X8_add) (As := [.int a5, .int a4, .int a1, .int a2, .int a3, .int 0]) (b := 49) (st := []) (dx9 := 2) (mc := 0) (ms := 0) (host := "") 8 rfl t_X8_add ⟨Or.inl q_11_145, i_X8_add.1, i_X8_add.2⟩ ⟨by decide, rfl⟩ (congrArg Prod.fst (J.1.1 49 (8, 4) rfl)) rfl (by decide) rfl rfl ⟨by decide, by decide⟩ (sf_X8_add_r49d (jr_of rfl (by omega)) (jr_of rfl (by omega)) (jr_of rfl (by omega)) (jr_of rfl (by omega)) (jr_of rfl (by omega)) (jr_of jk_0 (by omega)) hD J rfl  (fun h J S20 X21 => ?_))
                  have Sm := jSm_tr rfl Sm S20
                  try rw [jk_0] at X21
                  rw [X21] at D
                  show jX m_X11_addHolding 3 0 0 30 [(6, .int v12), (0, .ref 31), (1, .int a1), (2, .int a2), (3, .int a3), (4, .int a4), (5, .int a5)] [] _ 0 0 _
                  refine x_aloadn (x := 31) rfl rfl ?_
                  refine z_getR (N := 13) (b := 32) 11 0 rfl f_11_10 rfl J rfl 3968 ⟨rfl, rfl⟩ rfl ?_
                  refine z_getR (N := 20) (b := 63) 1 15 rfl f_11_159 rfl J rfl 4111 ⟨rfl, rfl⟩ rfl ?_
                  refine x_iconst (v := 3) rfl ki_3 ?_
                  refine x_iload (x := v12) rfl rfl ?_
                  refine x_iconst (v := 0) rfl ki_0 ?_
                  refine x_iconst (v := 0) rfl ki_0 ?_
                  refine x_iconst (v := 0) rfl ki_0 ?_
                  refine x_iconst (v := 0) rfl ki_0 ?_
                  refine x_inv (N := m_X8_add) (As := [.int 3, .int v12, .int 0, .int 0, .int 0, .int 0]) (b := 63) (st := []) (dx9 := 2) (mc := 0) (ms := 0) (host := "") 8 rfl t_X8_add ⟨Or.inl q_11_145, i_X8_add.1, i_X8_add.2⟩ ⟨by decide, rfl⟩ (congrArg Prod.fst (J.1.1 63 (8, 4) rfl)) rfl (by decide) rfl rfl ⟨by decide, by decide⟩ (sf_X8_add_r63d (jr_of jk_3 (by omega)) (jr_of rfl (by omega)) (jr_of jk_0 (by omega)) (jr_of jk_0 (by omega)) (jr_of jk_0 (by omega)) (jr_of jk_0 (by omega)) hD J rfl  (fun h J S22 X23 => ?_))
                  have Sm := jSm_tr rfl Sm S22
                  try rw [jk_3] at X23
                  try rw [jk_0] at X23
                  rw [X23] at D
                  show jX m_X11_addHolding 3 0 0 47 [(6, .int v12), (0, .ref 31), (1, .int a1), (2, .int a2), (3, .int a3), (4, .int a4), (5, .int a5)] [] _ 0 0 _
                  refine x_iload (x := v12) rfl rfl ?_
                  refine x_iret rfl rfl ?_
                  show jX m_X11_split 4 0 0 94 [(0, .ref 31), (1, .int a1), (2, .int a2), (3, .int a3), (4, .int a4), (5, .int a5)] [.int v12, .ref 31] _ 0 0 _
                  refine x_inv (N := m_X11_accept) (As := [.int v12]) (b := 31) (st := []) (dx9 := 3) (mc := 0) (ms := 0) (host := "") 11 rfl t_X11_accept ⟨Or.inl q_11_165, i_X11_accept.1, i_X11_accept.2⟩ ⟨by decide, rfl⟩ (congrArg Prod.fst (J.1.1 31 (11, 13) rfl)) rfl (by decide) rfl rfl ⟨by decide, by decide⟩ (jC.of rfl k_X11_accept rfl ?_)
                  show jX m_X11_accept 3 0 0 0 [(0, .ref 31), (1, .int v12)] [] _ 0 0 _
                  refine x_aloadn (x := 31) rfl rfl ?_
                  refine x_iconst (v := 0) rfl ki_0 ?_
                  refine z_putI (N := 13) (w := 0) 11 12 rfl f_11_94 rfl (jfin_no TX11 RX11 13 rfl rfl) hD J Sm rfl rfl jk_0 (pw_31_12 (by omega)) rfl (fun h w24 J Sm => ?_)
                  rw [vwf w24 (show 0 = (0 : Int32).toInt from by have := jk_0; omega)] at D
                  refine x_aloadn (x := 31) rfl rfl ?_
                  refine z_getR (N := 13) (b := 32) 11 0 rfl f_11_10 rfl J rfl 3968 ⟨rfl, rfl⟩ rfl ?_
                  refine x_dup rfl rfl ?_
                  refine z_getI0 (N := 20) 1 19 rfl f_11_528 rfl J rfl (fun v25 qv25 => ?_)
                  have ev25 := jfull v25
                  try rw [vrf (jmb_c S20 (jmb_c S22 (jmb_w w24 qv25 rfl) rfl) rfl)] at D
                  refine x_iconst (v := 1) rfl ki_1 ?_
                  refine z_iaddW rfl rfl jk_1 (fun v26 ev26 => ?_)
                  have fv26 := jfull v26
                  try rw [← ev26] at D
                  refine z_putI (N := 20) (w := v26.toInt) 1 19 rfl f_11_528 rfl (jfin_no TX1 RX1 20 rfl rfl) hD J Sm rfl rfl rfl (pw_32_19 trivial) rfl (fun h w27 J Sm => ?_)
                  rw [vwf w27 (show v26.toInt = v26.toInt from by omega)] at D
                  refine x_iloadn (x := v12) rfl rfl ?_
                  refine x_iret rfl rfl ?_
                  show jX m_X11_split 4 0 0 97 [(0, .ref 31), (1, .int a1), (2, .int a2), (3, .int a3), (4, .int a4), (5, .int a5)] [.int v12] _ 0 0 _
                  refine x_iret rfl rfl ?_
                  exact hQ _ _ (jr_of rfl (by omega)) J Sm ((congrArg Prod.fst D).symm.trans (show v12.toInt = v12.toInt from by omega)) (congrArg Prod.snd D).symm
                ·
                  rw [if_neg (by omega)] at D
                  refine x_aloadn (x := 31) rfl rfl ?_
                  refine x_bipush (v := (-5)) rfl kb_m5 ?_
                  refine x_inv (N := m_X11_refuse) (As := [.int (-5)]) (b := 31) (st := []) (dx9 := 3) (mc := 0) (ms := 0) (host := "") 11 rfl t_X11_refuse ⟨Or.inl q_11_206, i_X11_refuse.1, i_X11_refuse.2⟩ ⟨by decide, rfl⟩ (congrArg Prod.fst (J.1.1 31 (11, 13) rfl)) rfl (by decide) rfl rfl ⟨by decide, by decide⟩ (jC.of rfl k_X11_refuse rfl ?_)
                  show jX m_X11_refuse 3 0 0 0 [(0, .ref 31), (1, .int (-5))] [] _ 0 0 _
                  refine x_aloadn (x := 31) rfl rfl ?_
                  refine x_iloadn (x := (-5)) rfl rfl ?_
                  refine z_putI (N := 13) (w := (-5)) 11 12 rfl f_11_94 rfl (jfin_no TX11 RX11 13 rfl rfl) hD J Sm rfl rfl jk_m5 (pw_31_12 (by omega)) rfl (fun h w28 J Sm => ?_)
                  rw [vwf w28 (show (-5) = ((-5) : Int32).toInt from by have := jk_m5; omega)] at D
                  refine x_iloadn (x := (-5)) rfl rfl ?_
                  refine x_iret rfl rfl ?_
                  show jX m_X11_split 4 0 0 81 [(0, .ref 31), (1, .int a1), (2, .int a2), (3, .int a3), (4, .int a4), (5, .int a5)] [.int (-5)] _ 0 0 _
                  refine x_iret rfl rfl ?_
                  exact hQ _ _ (jr_of jk_m5 (by omega)) J Sm ((congrArg Prod.fst D).symm.trans (show (-5) = ((-5) : Int32).toInt from by have := jk_m5; omega)) (congrArg Prod.snd D).symm
          ·
            rw [if_neg (by omega)] at D
            exact jX.sub (jsb_c rfl jsb_n) (ct_X11_split_r31d_41 hD hQ  h J Sm D)
def fp_X11_status_r31d : jFp := []
set_option maxRecDepth 100000 in
set_option maxHeartbeats 4000000 in
theorem sf_X11_status_r31d {Dy : jH → Prop} {h : jH} {Q : Option Value → jH → Prop} {dr : Int} (hD : jDk Dy) (J : jJ jSgX Dy h) (D : d_X11_status_r31d (vw h) = dr) (hQ : ∀ (v : Int32) hx9, (-366) ≤ v.toInt ∧ v.toInt ≤ 0 → jJ jSgX Dy hx9 → jSm fp_X11_status_r31d h hx9 → dr = v.toInt → vw hx9 = vw h → Q (some (.int v)) hx9) : jC m_X11_status 1 0 0 [.ref 31] h Q := by
  refine jC.of rfl k_X11_status rfl ?_
  have Sm := jSm_rf fp_X11_status_r31d h
  show jX m_X11_status 1 0 0 0 [(0, .ref 31)] [] _ 0 0 _
  unfold d_X11_status_r31d at D
  have EV : vw h = vw h := rfl
  refine x_aloadn (x := 31) rfl rfl ?_
  refine z_getI (N := 13) 11 12 rfl f_11_94 rfl J rfl sg_31_12_13_1_0_1 (fun v1 qv1 ev1 => ?_)
  try rw [vrf qv1] at D
  refine x_iret rfl rfl ?_
  exact hQ _ _ (jr_of rfl (by omega)) J Sm (D.symm.trans (show v1.toInt = v1.toInt from by omega)) EV
def fp_X11_terms_r31d : jFp := [(31, 12, 13), (32, 19, 20), (78, 2, 3), (78, 3, 4), (78, 4, 5), (78, 5, 6), (78, 6, 7)]
set_option maxRecDepth 100000 in
set_option maxHeartbeats 4000000 in
theorem ct_X11_terms_r31d_52 {Dy : jH → Prop} {h0 : jH} {Q : Option Value → jH → Prop} {dr : (Int × jW)} (hD : jDk Dy) (hQ : ∀ (v : Int32) hx9, (-1) ≤ v.toInt ∧ v.toInt ≤ 0 → jJ jSgX Dy hx9 → jSm fp_X11_terms_r31d h0 hx9 → dr.1 = v.toInt → dr.2 = vw hx9 → Q (some (.int v)) hx9) : ∀ (h : jH), jJ jSgX Dy h → jSm fp_X11_terms_r31d h0 h → d_X11_terms_r31d_52  (vw h) = dr → jX m_X11_terms 2 0 0 52 [(0, .ref 31)] [] h 0 0 Q := by
  intro  h    J Sm D
  unfold d_X11_terms_r31d_52 at D
  refine x_aloadn (x := 31) rfl rfl ?_
  refine x_iconst (v := (-1)) rfl ki_m1 ?_
  refine x_inv (N := m_X11_refuse) (As := [.int (-1)]) (b := 31) (st := []) (dx9 := 1) (mc := 0) (ms := 0) (host := "") 11 rfl t_X11_refuse ⟨Or.inl q_11_206, i_X11_refuse.1, i_X11_refuse.2⟩ ⟨by decide, rfl⟩ (congrArg Prod.fst (J.1.1 31 (11, 13) rfl)) rfl (by decide) rfl rfl ⟨by decide, by decide⟩ (jC.of rfl k_X11_refuse rfl ?_)
  show jX m_X11_refuse 1 0 0 0 [(0, .ref 31), (1, .int (-1))] [] _ 0 0 _
  refine x_aloadn (x := 31) rfl rfl ?_
  refine x_iloadn (x := (-1)) rfl rfl ?_
  refine z_putI (N := 13) (w := (-1)) 11 12 rfl f_11_94 rfl (jfin_no TX11 RX11 13 rfl rfl) hD J Sm rfl rfl jk_m1 (pw_31_12 (by omega)) rfl (fun h w1 J Sm => ?_)
  rw [vwf w1 (show (-1) = ((-1) : Int32).toInt from by have := jk_m1; omega)] at D
  refine x_iloadn (x := (-1)) rfl rfl ?_
  refine x_iret rfl rfl ?_
  show jX m_X11_terms 2 0 0 57 [(0, .ref 31)] [.int (-1)] _ 0 0 _
  refine x_iret rfl rfl ?_
  exact hQ _ _ (jr_of jk_m1 (by omega)) J Sm ((congrArg Prod.fst D).symm.trans (show (-1) = ((-1) : Int32).toInt from by have := jk_m1; omega)) (congrArg Prod.snd D).symm
set_option maxRecDepth 100000 in
set_option maxHeartbeats 4000000 in
theorem sf_X11_terms_r31d {Dy : jH → Prop} {h : jH} {Q : Option Value → jH → Prop} {dr : (Int × jW)} {a1 : Int32} {a2 : Int32} {a3 : Int32} {a4 : Int32} {a5 : Int32} (hD : jDk Dy) (J : jJ jSgX Dy h) (D : d_X11_terms_r31d a1.toInt a2.toInt a3.toInt a4.toInt a5.toInt (vw h) = dr) (hQ : ∀ (v : Int32) hx9, (-1) ≤ v.toInt ∧ v.toInt ≤ 0 → jJ jSgX Dy hx9 → jSm fp_X11_terms_r31d h hx9 → dr.1 = v.toInt → dr.2 = vw hx9 → Q (some (.int v)) hx9) : jC m_X11_terms 2 0 0 [.ref 31, .int a1, .int a2, .int a3, .int a4, .int a5] h Q := by
  refine jC.of rfl k_X11_terms rfl ?_
  have Sm := jSm_rf fp_X11_terms_r31d h
  have ea1 := jfull a1
  have ea2 := jfull a2
  have ea3 := jfull a3
  have ea4 := jfull a4
  have ea5 := jfull a5
  show jX m_X11_terms 2 0 0 0 [(0, .ref 31), (1, .int a1), (2, .int a2), (3, .int a3), (4, .int a4), (5, .int a5)] [] _ 0 0 _
  unfold d_X11_terms_r31d at D
  refine x_iloadn (x := a1) rfl rfl ?_
  refine x_iconst (v := 0) rfl ki_0 ?_
  refine x_bipush (v := 100) rfl kb_100 ?_
  refine x_inst (N := m_X11_isWithin) (As := [.int a1, .int 0, .int 100]) (st := []) (dx9 := 1) (mc := 0) (ms := 0) (host := "") rfl t_X11_isWithin ⟨Or.inl q_11_202, s_X11_isWithin⟩ rfl (by decide) rfl rfl ⟨by decide, by decide⟩ (zc_X11_isWithin rfl jk_0 jk_100 (fun v1 ev1 => ?_))
  show jX m_X11_terms 2 0 0 7 [(0, .ref 31), (1, .int a1), (2, .int a2), (3, .int a3), (4, .int a4), (5, .int a5)] [.int v1] _ 0 0 _
  refine x_ifeq (tgt := 52) rfl rfl (ti_eq rfl jk_0 ⟨fun c2 => ?_, fun c2 => ?_⟩)
  ·
    rw [if_neg (by omega)] at D
    exact jX.sub (jsb_c rfl jsb_n) (ct_X11_terms_r31d_52 hD hQ  h J Sm D)
  ·
    rw [if_pos (by omega)] at D
    refine x_iloadn (x := a2) rfl rfl ?_
    refine x_iconst (v := 0) rfl ki_0 ?_
    refine x_bipush (v := 100) rfl kb_100 ?_
    refine x_inst (N := m_X11_isWithin) (As := [.int a2, .int 0, .int 100]) (st := []) (dx9 := 1) (mc := 0) (ms := 0) (host := "") rfl t_X11_isWithin ⟨Or.inl q_11_202, s_X11_isWithin⟩ rfl (by decide) rfl rfl ⟨by decide, by decide⟩ (zc_X11_isWithin rfl jk_0 jk_100 (fun v3 ev3 => ?_))
    show jX m_X11_terms 2 0 0 17 [(0, .ref 31), (1, .int a1), (2, .int a2), (3, .int a3), (4, .int a4), (5, .int a5)] [.int v3] _ 0 0 _
    refine x_ifeq (tgt := 52) rfl rfl (ti_eq rfl jk_0 ⟨fun c4 => ?_, fun c4 => ?_⟩)
    ·
      rw [if_neg (by omega)] at D
      exact jX.sub (jsb_c rfl jsb_n) (ct_X11_terms_r31d_52 hD hQ  h J Sm D)
    ·
      rw [if_pos (by omega)] at D
      refine x_iloadn (x := a3) rfl rfl ?_
      refine x_iconst (v := 0) rfl ki_0 ?_
      refine x_bipush (v := 100) rfl kb_100 ?_
      refine x_inst (N := m_X11_isWithin) (As := [.int a3, .int 0, .int 100]) (st := []) (dx9 := 1) (mc := 0) (ms := 0) (host := "") rfl t_X11_isWithin ⟨Or.inl q_11_202, s_X11_isWithin⟩ rfl (by decide) rfl rfl ⟨by decide, by decide⟩ (zc_X11_isWithin rfl jk_0 jk_100 (fun v5 ev5 => ?_))
      show jX m_X11_terms 2 0 0 27 [(0, .ref 31), (1, .int a1), (2, .int a2), (3, .int a3), (4, .int a4), (5, .int a5)] [.int v5] _ 0 0 _
      refine x_ifeq (tgt := 52) rfl rfl (ti_eq rfl jk_0 ⟨fun c6 => ?_, fun c6 => ?_⟩)
      ·
        rw [if_neg (by omega)] at D
        exact jX.sub (jsb_c rfl jsb_n) (ct_X11_terms_r31d_52 hD hQ  h J Sm D)
      ·
        rw [if_pos (by omega)] at D
        refine x_iload (x := a4) rfl rfl ?_
        refine x_iconst (v := 0) rfl ki_0 ?_
        refine x_bipush (v := 100) rfl kb_100 ?_
        refine x_inst (N := m_X11_isWithin) (As := [.int a4, .int 0, .int 100]) (st := []) (dx9 := 1) (mc := 0) (ms := 0) (host := "") rfl t_X11_isWithin ⟨Or.inl q_11_202, s_X11_isWithin⟩ rfl (by decide) rfl rfl ⟨by decide, by decide⟩ (zc_X11_isWithin rfl jk_0 jk_100 (fun v7 ev7 => ?_))
        show jX m_X11_terms 2 0 0 38 [(0, .ref 31), (1, .int a1), (2, .int a2), (3, .int a3), (4, .int a4), (5, .int a5)] [.int v7] _ 0 0 _
        refine x_ifeq (tgt := 52) rfl rfl (ti_eq rfl jk_0 ⟨fun c8 => ?_, fun c8 => ?_⟩)
        ·
          rw [if_neg (by omega)] at D
          exact jX.sub (jsb_c rfl jsb_n) (ct_X11_terms_r31d_52 hD hQ  h J Sm D)
        ·
          rw [if_pos (by omega)] at D
          refine x_iload (x := a5) rfl rfl ?_
          refine x_iconst (v := 0) rfl ki_0 ?_
          refine x_bipush (v := 20) rfl kb_20 ?_
          refine x_inst (N := m_X11_isWithin) (As := [.int a5, .int 0, .int 20]) (st := []) (dx9 := 1) (mc := 0) (ms := 0) (host := "") rfl t_X11_isWithin ⟨Or.inl q_11_202, s_X11_isWithin⟩ rfl (by decide) rfl rfl ⟨by decide, by decide⟩ (zc_X11_isWithin rfl jk_0 jk_20 (fun v9 ev9 => ?_))
          show jX m_X11_terms 2 0 0 49 [(0, .ref 31), (1, .int a1), (2, .int a2), (3, .int a3), (4, .int a4), (5, .int a5)] [.int v9] _ 0 0 _
          refine x_ifne (tgt := 58) rfl rfl (ti_ne rfl jk_0 ⟨fun c10 => ?_, fun c10 => ?_⟩)
          ·
            rw [if_pos (by omega)] at D
            refine x_aloadn (x := 31) rfl rfl ?_
            refine z_getR (N := 13) (b := 78) 11 4 rfl f_11_41 rfl J rfl 3972 ⟨rfl, rfl⟩ rfl ?_
            refine x_iloadn (x := a1) rfl rfl ?_
            refine z_putI (N := 16) (w := a1.toInt) 7 2 rfl f_11_209 rfl (jfin_no TX7 RX7 16 rfl rfl) hD J Sm rfl rfl rfl (pw_78_2 (by omega)) rfl (fun h w11 J Sm => ?_)
            rw [vwf w11 (show a1.toInt = a1.toInt from by omega)] at D
            refine x_aloadn (x := 31) rfl rfl ?_
            refine z_getR (N := 13) (b := 78) 11 4 rfl f_11_41 rfl J rfl 3972 ⟨rfl, rfl⟩ rfl ?_
            refine x_iloadn (x := a2) rfl rfl ?_
            refine z_putI (N := 16) (w := a2.toInt) 7 3 rfl f_11_212 rfl (jfin_no TX7 RX7 16 rfl rfl) hD J Sm rfl rfl rfl (pw_78_3 (by omega)) rfl (fun h w12 J Sm => ?_)
            rw [vwf w12 (show a2.toInt = a2.toInt from by omega)] at D
            refine x_aloadn (x := 31) rfl rfl ?_
            refine z_getR (N := 13) (b := 78) 11 4 rfl f_11_41 rfl J rfl 3972 ⟨rfl, rfl⟩ rfl ?_
            refine x_iloadn (x := a3) rfl rfl ?_
            refine z_putI (N := 16) (w := a3.toInt) 7 4 rfl f_11_215 rfl (jfin_no TX7 RX7 16 rfl rfl) hD J Sm rfl rfl rfl (pw_78_4 (by omega)) rfl (fun h w13 J Sm => ?_)
            rw [vwf w13 (show a3.toInt = a3.toInt from by omega)] at D
            refine x_aloadn (x := 31) rfl rfl ?_
            refine z_getR (N := 13) (b := 78) 11 4 rfl f_11_41 rfl J rfl 3972 ⟨rfl, rfl⟩ rfl ?_
            refine x_iload (x := a4) rfl rfl ?_
            refine z_putI (N := 16) (w := a4.toInt) 7 5 rfl f_11_218 rfl (jfin_no TX7 RX7 16 rfl rfl) hD J Sm rfl rfl rfl (pw_78_5 (by omega)) rfl (fun h w14 J Sm => ?_)
            rw [vwf w14 (show a4.toInt = a4.toInt from by omega)] at D
            refine x_aloadn (x := 31) rfl rfl ?_
            refine z_getR (N := 13) (b := 78) 11 4 rfl f_11_41 rfl J rfl 3972 ⟨rfl, rfl⟩ rfl ?_
            refine x_iload (x := a5) rfl rfl ?_
            refine z_putI (N := 16) (w := a5.toInt) 7 6 rfl f_11_221 rfl (jfin_no TX7 RX7 16 rfl rfl) hD J Sm rfl rfl rfl (pw_78_6 (by omega)) rfl (fun h w15 J Sm => ?_)
            rw [vwf w15 (show a5.toInt = a5.toInt from by omega)] at D
            refine x_aloadn (x := 31) rfl rfl ?_
            refine x_iconst (v := 0) rfl ki_0 ?_
            refine x_inv (N := m_X11_accept) (As := [.int 0]) (b := 31) (st := []) (dx9 := 1) (mc := 0) (ms := 0) (host := "") 11 rfl t_X11_accept ⟨Or.inl q_11_165, i_X11_accept.1, i_X11_accept.2⟩ ⟨by decide, rfl⟩ (congrArg Prod.fst (J.1.1 31 (11, 13) rfl)) rfl (by decide) rfl rfl ⟨by decide, by decide⟩ (jC.of rfl k_X11_accept rfl ?_)
            show jX m_X11_accept 1 0 0 0 [(0, .ref 31), (1, .int 0)] [] _ 0 0 _
            refine x_aloadn (x := 31) rfl rfl ?_
            refine x_iconst (v := 0) rfl ki_0 ?_
            refine z_putI (N := 13) (w := 0) 11 12 rfl f_11_94 rfl (jfin_no TX11 RX11 13 rfl rfl) hD J Sm rfl rfl jk_0 (pw_31_12 (by omega)) rfl (fun h w16 J Sm => ?_)
            rw [vwf w16 (show 0 = (0 : Int32).toInt from by have := jk_0; omega)] at D
            refine x_aloadn (x := 31) rfl rfl ?_
            refine z_getR (N := 13) (b := 32) 11 0 rfl f_11_10 rfl J rfl 3968 ⟨rfl, rfl⟩ rfl ?_
            refine x_dup rfl rfl ?_
            refine z_getI0 (N := 20) 1 19 rfl f_11_528 rfl J rfl (fun v17 qv17 => ?_)
            have ev17 := jfull v17
            try rw [vrf (jmb_w w11 (jmb_w w12 (jmb_w w13 (jmb_w w14 (jmb_w w15 (jmb_w w16 qv17 rfl) rfl) rfl) rfl) rfl) rfl)] at D
            refine x_iconst (v := 1) rfl ki_1 ?_
            refine z_iaddW rfl rfl jk_1 (fun v18 ev18 => ?_)
            have fv18 := jfull v18
            try rw [← ev18] at D
            refine z_putI (N := 20) (w := v18.toInt) 1 19 rfl f_11_528 rfl (jfin_no TX1 RX1 20 rfl rfl) hD J Sm rfl rfl rfl (pw_32_19 trivial) rfl (fun h w19 J Sm => ?_)
            rw [vwf w19 (show v18.toInt = v18.toInt from by omega)] at D
            refine x_iloadn (x := 0) rfl rfl ?_
            refine x_iret rfl rfl ?_
            show jX m_X11_terms 2 0 0 105 [(0, .ref 31), (1, .int a1), (2, .int a2), (3, .int a3), (4, .int a4), (5, .int a5)] [.int 0] _ 0 0 _
            refine x_iret rfl rfl ?_
            exact hQ _ _ (jr_of jk_0 (by omega)) J Sm ((congrArg Prod.fst D).symm.trans (show 0 = (0 : Int32).toInt from by have := jk_0; omega)) (congrArg Prod.snd D).symm
          ·
            rw [if_neg (by omega)] at D
            exact jX.sub (jsb_c rfl jsb_n) (ct_X11_terms_r31d_52 hD hQ  h J Sm D)
def fp_X2_emit_r95d : jFp := [(95, 4, 5), (97, 0, 1200)]
set_option maxRecDepth 100000 in
set_option maxHeartbeats 4000000 in
theorem ct_X2_emit_r95d_32 {Dy : jH → Prop} {h0 : jH} {Q : Option Value → jH → Prop} {dr : jW} (hD : jDk Dy) (hQ : ∀ hx9, jJ jSgX Dy hx9 → jSm fp_X2_emit_r95d h0 hx9 → dr = vw hx9 → Q none hx9) : ∀ (h : jH), jJ jSgX Dy h → jSm fp_X2_emit_r95d h0 h → d_X2_emit_r95d_32  (vw h) = dr → jX m_X2_emit 1 0 0 32 [] [] h 0 0 Q := by
  intro  h    J Sm D
  unfold d_X2_emit_r95d_32 at D
  refine x_vret rfl rfl ?_
  exact hQ _ J Sm D.symm
set_option maxRecDepth 100000 in
set_option maxHeartbeats 4000000 in
theorem sf_X2_emit_r95d {Dy : jH → Prop} {h : jH} {Q : Option Value → jH → Prop} {dr : jW} {a1 : Int32} (hD : jDk Dy) (J : jJ jSgX Dy h) (D : d_X2_emit_r95d a1.toInt (vw h) = dr) (hQ : ∀ hx9, jJ jSgX Dy hx9 → jSm fp_X2_emit_r95d h hx9 → dr = vw hx9 → Q none hx9) : jC m_X2_emit 1 0 0 [.ref 95, .int a1] h Q := by
  refine jC.of rfl k_X2_emit rfl ?_
  have Sm := jSm_rf fp_X2_emit_r95d h
  have ea1 := jfull a1
  show jX m_X2_emit 1 0 0 0 [(0, .ref 95), (1, .int a1)] [] _ 0 0 _
  unfold d_X2_emit_r95d at D
  refine x_aloadn (x := 95) rfl rfl ?_
  refine z_getI (N := 6) 2 4 rfl f_2_24 rfl J rfl sg_95_4_5_1_0_1 (fun v1 qv1 ev1 => ?_)
  try rw [vrf qv1] at D
  refine x_aloadn (x := 95) rfl rfl ?_
  refine z_getR (N := 6) (b := 97) 2 2 rfl f_2_17 rfl J rfl 12162 ⟨rfl, rfl⟩ rfl ?_
  refine z_alen (N := 1200) (v := 1200) rfl J rfl rfl (by decide) ?_
  refine x_icge (tgt := 32) rfl rfl (ti_ge rfl jk_1200 ⟨fun c2 => ?_, fun c2 => ?_⟩)
  ·
    rw [if_pos (by omega)] at D
    exact jX.sub jsb_n (ct_X2_emit_r95d_32 hD hQ  h J Sm D)
  ·
    rw [if_neg (by omega)] at D
    refine x_aloadn (x := 95) rfl rfl ?_
    refine z_getR (N := 6) (b := 97) 2 2 rfl f_2_17 rfl J rfl 12162 ⟨rfl, rfl⟩ rfl ?_
    refine x_aloadn (x := 95) rfl rfl ?_
    refine z_getM (N := 6) (v := v1) 2 4 rfl f_2_24 rfl J rfl qv1 ?_
    refine x_iloadn (x := a1) rfl rfl ?_
    refine z_iast (N := 1200) (l := 0) (u := 1200) (w := a1.toInt) rfl hD J Sm rfl rfl rfl (by omega) rfl (wr_97) rfl (fun h w3 J Sm => ?_)
    rw [vww w3 (show v1.toInt = v1.toInt from by omega) (show a1.toInt = a1.toInt from by omega)] at D
    refine x_aloadn (x := 95) rfl rfl ?_
    refine x_dup rfl rfl ?_
    refine z_getM (N := 6) (v := v1) 2 4 rfl f_2_24 rfl J rfl (jmo w3 rfl qv1) ?_
    refine x_iconst (v := 1) rfl ki_1 ?_
    refine z_iadd rfl rfl jk_1 (by omega) (fun v4 ev4 => ?_)
    refine z_putI (N := 6) (w := v4.toInt) 2 4 rfl f_2_24 rfl (jfin_no TX2 RX2 6 rfl rfl) hD J Sm rfl rfl rfl (pw_95_4 (by omega)) rfl (fun h w5 J Sm => ?_)
    rw [vwf w5 (show (v1.toInt + 1) = v4.toInt from by omega)] at D
    exact jX.sub jsb_n (ct_X2_emit_r95d_32 hD hQ  h J Sm D)
def fp_X2_note_r95d : jFp := [(96, 0, 72)]
set_option maxRecDepth 100000 in
set_option maxHeartbeats 4000000 in
theorem ct_X2_note_r95d_32 {Dy : jH → Prop} {h0 : jH} {Q : Option Value → jH → Prop} {dr : jW} (hD : jDk Dy) (hQ : ∀ hx9, jJ jSgX Dy hx9 → jSm fp_X2_note_r95d h0 hx9 → dr = vw hx9 → Q none hx9) : ∀ (h : jH), jJ jSgX Dy h → jSm fp_X2_note_r95d h0 h → d_X2_note_r95d_32  (vw h) = dr → jX m_X2_note 1 0 0 32 [] [] h 0 0 Q := by
  intro  h    J Sm D
  unfold d_X2_note_r95d_32 at D
  refine x_vret rfl rfl ?_
  exact hQ _ J Sm D.symm
set_option maxRecDepth 100000 in
set_option maxHeartbeats 4000000 in
theorem sf_X2_note_r95d {Dy : jH → Prop} {h : jH} {Q : Option Value → jH → Prop} {dr : jW} {a1 : Int32} {a2 : Int32} (y1 : 0 ≤ a1.toInt ∧ a1.toInt ≤ 5) (hD : jDk Dy) (J : jJ jSgX Dy h) (D : d_X2_note_r95d a1.toInt a2.toInt (vw h) = dr) (hQ : ∀ hx9, jJ jSgX Dy hx9 → jSm fp_X2_note_r95d h hx9 → dr = vw hx9 → Q none hx9) : jC m_X2_note 1 0 0 [.ref 95, .int a1, .int a2] h Q := by
  refine jC.of rfl k_X2_note rfl ?_
  have Sm := jSm_rf fp_X2_note_r95d h
  have ea2 := jfull a2
  show jX m_X2_note 1 0 0 0 [(0, .ref 95), (1, .int a1), (2, .int a2)] [] _ 0 0 _
  unfold d_X2_note_r95d at D
  refine x_aloadn (x := 95) rfl rfl ?_
  refine z_getI (N := 6) 2 3 rfl f_2_20 rfl J rfl sg_95_3_4_1_0_1 (fun v1 qv1 ev1 => ?_)
  try rw [vrf qv1] at D
  refine x_iconst (v := 1) rfl ki_1 ?_
  refine z_isub rfl rfl jk_1 (by omega) (fun v2 ev2 => ?_)
  refine x_bipush (v := 6) rfl kb_6 ?_
  refine z_imul rfl rfl jk_6 (by omega) (fun v3 ev3 => ?_)
  refine x_iloadn (x := a1) rfl rfl ?_
  refine z_iadd rfl rfl rfl (by omega) (fun v4 ev4 => ?_)
  refine x_istoren (lsx9 := [(3, .int v4), (0, .ref 95), (1, .int a1), (2, .int a2)]) rfl rfl rfl ?_
  refine x_iloadn (x := v4) rfl rfl ?_
  refine x_iflt (tgt := 32) rfl rfl (ti_lt rfl jk_0 ⟨fun c5 => ?_, fun c5 => ?_⟩)
  ·
    rw [if_pos (by omega)] at D
    exact jX.sub jsb_n (ct_X2_note_r95d_32 hD hQ  h J Sm D)
  ·
    rw [if_neg (by omega)] at D
    refine x_iloadn (x := v4) rfl rfl ?_
    refine x_aloadn (x := 95) rfl rfl ?_
    refine z_getR (N := 6) (b := 96) 2 1 rfl f_2_11 rfl J rfl 12161 ⟨rfl, rfl⟩ rfl ?_
    refine z_alen (N := 72) (v := 72) rfl J rfl rfl (by decide) ?_
    refine x_icge (tgt := 32) rfl rfl (ti_ge rfl jk_72 (br_f (by omega) ?_))
    refine x_aloadn (x := 95) rfl rfl ?_
    refine z_getR (N := 6) (b := 96) 2 1 rfl f_2_11 rfl J rfl 12161 ⟨rfl, rfl⟩ rfl ?_
    refine x_iloadn (x := v4) rfl rfl ?_
    refine x_iloadn (x := a2) rfl rfl ?_
    refine z_iast (N := 72) (l := 0) (u := 72) (w := a2.toInt) rfl hD J Sm rfl rfl rfl (by omega) rfl (wr_96) rfl (fun h w6 J Sm => ?_)
    rw [vww w6 (show (((v1.toInt - 1) * 6) + a1.toInt) = v4.toInt from by omega) (show a2.toInt = a2.toInt from by omega)] at D
    exact jX.sub jsb_n (ct_X2_note_r95d_32 hD hQ  h J Sm D)
def fp_X2_openHead_r95d : jFp := [(96, 0, 72)]
set_option maxRecDepth 100000 in
set_option maxHeartbeats 4000000 in
theorem sf_X2_openHead_r95d {Dy : jH → Prop} {h : jH} {Q : Option Value → jH → Prop} {dr : jW} {a1 : Int32} (hD : jDk Dy) (J : jJ jSgX Dy h) (D : d_X2_openHead_r95d a1.toInt (vw h) = dr) (hQ : ∀ hx9, jJ jSgX Dy hx9 → jSm fp_X2_openHead_r95d h hx9 → dr = vw hx9 → Q none hx9) : jC m_X2_openHead 2 0 0 [.ref 95, .int a1] h Q := by
  refine jC.of rfl k_X2_openHead rfl ?_
  have Sm := jSm_rf fp_X2_openHead_r95d h
  have ea1 := jfull a1
  show jX m_X2_openHead 2 0 0 0 [(0, .ref 95), (1, .int a1)] [] _ 0 0 _
  unfold d_X2_openHead_r95d at D
  refine x_aloadn (x := 95) rfl rfl ?_
  refine x_iconst (v := 0) rfl ki_0 ?_
  refine x_iloadn (x := a1) rfl rfl ?_
  refine x_inv (N := m_X2_note) (As := [.int 0, .int a1]) (b := 95) (st := []) (dx9 := 1) (mc := 0) (ms := 0) (host := "") 2 rfl t_X2_note ⟨Or.inl q_2_82, i_X2_note.1, i_X2_note.2⟩ ⟨by decide, rfl⟩ (congrArg Prod.fst (J.1.1 95 (2, 6) rfl)) rfl (by decide) rfl rfl ⟨by decide, by decide⟩ (sf_X2_note_r95d (jr_of jk_0 (by omega)) hD J rfl  (fun h J S1 X2 => ?_))
  have Sm := jSm_tr rfl Sm S1
  try rw [jk_0] at X2
  rw [X2] at D
  show jX m_X2_openHead 2 0 0 6 [(0, .ref 95), (1, .int a1)] [] _ 0 0 _
  refine x_aloadn (x := 95) rfl rfl ?_
  refine x_iconst (v := 1) rfl ki_1 ?_
  refine x_iconst (v := 0) rfl ki_0 ?_
  refine x_inv (N := m_X2_note) (As := [.int 1, .int 0]) (b := 95) (st := []) (dx9 := 1) (mc := 0) (ms := 0) (host := "") 2 rfl t_X2_note ⟨Or.inl q_2_82, i_X2_note.1, i_X2_note.2⟩ ⟨by decide, rfl⟩ (congrArg Prod.fst (J.1.1 95 (2, 6) rfl)) rfl (by decide) rfl rfl ⟨by decide, by decide⟩ (sf_X2_note_r95d (jr_of jk_1 (by omega)) hD J rfl  (fun h J S3 X4 => ?_))
  have Sm := jSm_tr rfl Sm S3
  try rw [jk_1] at X4
  try rw [jk_0] at X4
  rw [X4] at D
  show jX m_X2_openHead 2 0 0 12 [(0, .ref 95), (1, .int a1)] [] _ 0 0 _
  refine x_aloadn (x := 95) rfl rfl ?_
  refine x_iconst (v := 2) rfl ki_2 ?_
  refine x_iconst (v := 0) rfl ki_0 ?_
  refine x_inv (N := m_X2_note) (As := [.int 2, .int 0]) (b := 95) (st := []) (dx9 := 1) (mc := 0) (ms := 0) (host := "") 2 rfl t_X2_note ⟨Or.inl q_2_82, i_X2_note.1, i_X2_note.2⟩ ⟨by decide, rfl⟩ (congrArg Prod.fst (J.1.1 95 (2, 6) rfl)) rfl (by decide) rfl rfl ⟨by decide, by decide⟩ (sf_X2_note_r95d (jr_of jk_2 (by omega)) hD J rfl  (fun h J S5 X6 => ?_))
  have Sm := jSm_tr rfl Sm S5
  try rw [jk_2] at X6
  try rw [jk_0] at X6
  rw [X6] at D
  show jX m_X2_openHead 2 0 0 18 [(0, .ref 95), (1, .int a1)] [] _ 0 0 _
  refine x_aloadn (x := 95) rfl rfl ?_
  refine x_iconst (v := 3) rfl ki_3 ?_
  refine x_iconst (v := (-1)) rfl ki_m1 ?_
  refine x_inv (N := m_X2_note) (As := [.int 3, .int (-1)]) (b := 95) (st := []) (dx9 := 1) (mc := 0) (ms := 0) (host := "") 2 rfl t_X2_note ⟨Or.inl q_2_82, i_X2_note.1, i_X2_note.2⟩ ⟨by decide, rfl⟩ (congrArg Prod.fst (J.1.1 95 (2, 6) rfl)) rfl (by decide) rfl rfl ⟨by decide, by decide⟩ (sf_X2_note_r95d (jr_of jk_3 (by omega)) hD J rfl  (fun h J S7 X8 => ?_))
  have Sm := jSm_tr rfl Sm S7
  try rw [jk_3] at X8
  try rw [jk_m1] at X8
  rw [X8] at D
  show jX m_X2_openHead 2 0 0 24 [(0, .ref 95), (1, .int a1)] [] _ 0 0 _
  refine x_aloadn (x := 95) rfl rfl ?_
  refine x_iconst (v := 4) rfl ki_4 ?_
  refine x_iconst (v := (-1)) rfl ki_m1 ?_
  refine x_inv (N := m_X2_note) (As := [.int 4, .int (-1)]) (b := 95) (st := []) (dx9 := 1) (mc := 0) (ms := 0) (host := "") 2 rfl t_X2_note ⟨Or.inl q_2_82, i_X2_note.1, i_X2_note.2⟩ ⟨by decide, rfl⟩ (congrArg Prod.fst (J.1.1 95 (2, 6) rfl)) rfl (by decide) rfl rfl ⟨by decide, by decide⟩ (sf_X2_note_r95d (jr_of jk_4 (by omega)) hD J rfl  (fun h J S9 X10 => ?_))
  have Sm := jSm_tr rfl Sm S9
  try rw [jk_4] at X10
  try rw [jk_m1] at X10
  rw [X10] at D
  show jX m_X2_openHead 2 0 0 30 [(0, .ref 95), (1, .int a1)] [] _ 0 0 _
  refine x_aloadn (x := 95) rfl rfl ?_
  refine x_iconst (v := 5) rfl ki_5 ?_
  refine x_iconst (v := (-1)) rfl ki_m1 ?_
  refine x_inv (N := m_X2_note) (As := [.int 5, .int (-1)]) (b := 95) (st := []) (dx9 := 1) (mc := 0) (ms := 0) (host := "") 2 rfl t_X2_note ⟨Or.inl q_2_82, i_X2_note.1, i_X2_note.2⟩ ⟨by decide, rfl⟩ (congrArg Prod.fst (J.1.1 95 (2, 6) rfl)) rfl (by decide) rfl rfl ⟨by decide, by decide⟩ (sf_X2_note_r95d (jr_of jk_5 (by omega)) hD J rfl  (fun h J S11 X12 => ?_))
  have Sm := jSm_tr rfl Sm S11
  try rw [jk_5] at X12
  try rw [jk_m1] at X12
  rw [X12] at D
  show jX m_X2_openHead 2 0 0 36 [(0, .ref 95), (1, .int a1)] [] _ 0 0 _
  refine x_vret rfl rfl ?_
  exact hQ _ J Sm D.symm
def fp_X9_numberTo_r68d : jFp := []
set_option maxRecDepth 100000 in
set_option maxHeartbeats 4000000 in
theorem ct_X9_numberTo_r68d_61 {Dy : jH → Prop} {h0 : jH} {Q : Option Value → jH → Prop} {dr : Int} (hD : jDk Dy) (hQ : ∀ (v : Int32) hx9, (-2147483648) ≤ v.toInt ∧ v.toInt ≤ 100000 → jJ jSgX Dy hx9 → jSm fp_X9_numberTo_r68d h0 hx9 → dr = v.toInt → vw hx9 = vw h0 → Q (some (.int v)) hx9) : ∀ (s0 : Int32) (h : jH), (-2147483648) ≤ s0.toInt ∧ s0.toInt ≤ 100000 → jJ jSgX Dy h → jSm fp_X9_numberTo_r68d h0 h → d_X9_numberTo_r68d_61  s0.toInt (vw h) = dr → vw h = vw h0 → jX m_X9_numberTo 1 0 0 61 [] [.int s0] h 0 0 Q := by
  intro s0 h y0   J Sm D EV
  unfold d_X9_numberTo_r68d_61 at D
  refine x_iret rfl rfl ?_
  exact hQ _ _ (jr_of rfl (by omega)) J Sm (D.symm.trans (show s0.toInt = s0.toInt from by omega)) EV
set_option maxRecDepth 100000 in
set_option maxHeartbeats 4000000 in
theorem ct_X9_numberTo_r68d_100061 {Dy : jH → Prop} {h0 : jH} {Q : Option Value → jH → Prop} {dr : Int} (hD : jDk Dy) (hQ : ∀ (v : Int32) hx9, (-2147483648) ≤ v.toInt ∧ v.toInt ≤ 100000 → jJ jSgX Dy hx9 → jSm fp_X9_numberTo_r68d h0 hx9 → dr = v.toInt → vw hx9 = vw h0 → Q (some (.int v)) hx9) : ∀ (h : jH), jJ jSgX Dy h → jSm fp_X9_numberTo_r68d h0 h → d_X9_numberTo_r68d_100061  (vw h) = dr → vw h = vw h0 → jX m_X9_numberTo 1 0 0 61 [] [.int (-1)] h 0 0 Q := by
  intro  h    J Sm D EV
  unfold d_X9_numberTo_r68d_100061 at D
  refine x_iret rfl rfl ?_
  exact hQ _ _ (jr_of jk_m1 (by omega)) J Sm (D.symm.trans (show (-1) = ((-1) : Int32).toInt from by have := jk_m1; omega)) EV
set_option maxRecDepth 100000 in
set_option maxHeartbeats 4000000 in
theorem ct_X9_numberTo_r68d_17 {Dy : jH → Prop} {h0 : jH} {Q : Option Value → jH → Prop} {dr : Int} (hD : jDk Dy) (hQ : ∀ (v : Int32) hx9, (-2147483648) ≤ v.toInt ∧ v.toInt ≤ 100000 → jJ jSgX Dy hx9 → jSm fp_X9_numberTo_r68d h0 hx9 → dr = v.toInt → vw hx9 = vw h0 → Q (some (.int v)) hx9) : ∀ r : Nat, ∀ (l1 : Int32) (l2 : Int32) (l3 : Int32) (h : jH), 400 - l3.toInt < (r : Int) → 11 ≤ l1.toInt ∧ l1.toInt ≤ 100000 → (-2147483648) ≤ l2.toInt ∧ l2.toInt ≤ 1000000 → 0 ≤ l3.toInt ∧ l3.toInt ≤ 400 → jJ jSgX Dy h → jSm fp_X9_numberTo_r68d h0 h → d_X9_numberTo_r68d_17 r l1.toInt l2.toInt l3.toInt (vw h) = dr → vw h = vw h0 → jX m_X9_numberTo 1 0 0 17 [(0, .ref 68), (1, .int l1), (2, .int l2), (3, .int l3)] [] h 0 0 Q := by
  intro r
  induction r with
  | zero =>
    intro l1 l2 l3 h hm y0 y1 y2   J Sm D EV
    exfalso
    omega
  | succ r ih =>
    intro l1 l2 l3 h hm y0 y1 y2   J Sm D EV
    rw [d_X9_numberTo_r68d_17.eq_2] at D
    refine x_iloadn (x := l3) rfl rfl ?_
    refine x_aloadn (x := 68) rfl rfl ?_
    refine z_getI (N := 6) 9 4 rfl f_9_25 rfl J rfl sg_68_4_5_1_0_1 (fun v1 qv1 ev1 => ?_)
    try rw [vrf qv1] at D
    refine x_icge (tgt := 51) rfl rfl (ti_ge rfl rfl ⟨fun c2 => ?_, fun c2 => ?_⟩)
    ·
      rw [if_pos (by omega)] at D
      refine x_iloadn (x := l2) rfl rfl ?_
      refine x_iloadn (x := l1) rfl rfl ?_
      refine x_icgt (tgt := 60) rfl rfl (ti_gt rfl rfl ⟨fun c3 => ?_, fun c3 => ?_⟩)
      ·
        rw [if_pos (by omega)] at D
        refine x_iconst (v := (-1)) rfl ki_m1 ?_
        exact jX.sub jsb_n (ct_X9_numberTo_r68d_100061 hD hQ  h J Sm D EV)
      ·
        rw [if_neg (by omega)] at D
        refine x_iloadn (x := l2) rfl rfl ?_
        refine x_goto (tgt := 61) rfl rfl ?_
        exact jX.sub jsb_n (ct_X9_numberTo_r68d_61 hD hQ  l2 h (jr_of rfl (by omega)) J Sm D EV)
    ·
      rw [if_neg (by omega)] at D
      refine x_ldc (v := 1000000) rfl z_9_47 ?_
      refine x_iloadn (x := l2) rfl rfl ?_
      refine x_bipush (v := 10) rfl kb_10 ?_
      refine z_imulW rfl rfl jk_10 (fun v4 ev4 => ?_)
      have fv4 := jfull v4
      try rw [← ev4] at D
      refine x_aloadn (x := 68) rfl rfl ?_
      refine z_getR (N := 6) (b := 69) 9 0 rfl f_9_11 rfl J rfl 8704 ⟨rfl, rfl⟩ rfl ?_
      refine x_iloadn (x := l3) rfl rfl ?_
      refine z_iald (N := 400) rfl J rfl sg_69_0_400_1_0_1 rfl (by omega) (fun v5 qv5 ev5 => ?_)
      try rw [vrd qv5 (show l3.toInt = l3.toInt from by omega)] at D
      refine z_iaddW rfl rfl rfl (fun v6 ev6 => ?_)
      have fv6 := jfull v6
      try rw [← ev6] at D
      refine x_bipush (v := 48) rfl kb_48 ?_
      refine z_isubW rfl rfl jk_48 (fun v7 ev7 => ?_)
      have fv7 := jfull v7
      try rw [← ev7] at D
      refine z_mmin rfl q_9_48 (by decide) rfl jk_1000000 rfl (fun v8 ev8 => ?_)
      refine x_istoren (lsx9 := [(2, .int v8), (0, .ref 68), (1, .int l1), (3, .int l3)]) rfl rfl rfl ?_
      refine z_iinc (x := l3) (lsx9 := fun v9 => [(3, .int v9), (2, .int v8), (0, .ref 68), (1, .int l1)]) rfl rfl rfl jko_1 (by omega) rfl (fun _ => rfl) (fun v9 ev9 => ?_)
      refine x_goto (tgt := 17) rfl rfl ?_
      try rw [show (min 1000000 v7.toInt) = v8.toInt from by omega] at D
      try rw [show (l3.toInt + 1) = v9.toInt from by omega] at D
      exact jX.sub (jsb_c rfl (jsb_c rfl (jsb_c rfl (jsb_c rfl jsb_n)))) (ih l1 v8 v9 h (by omega) (jr_of rfl (by omega)) (jr_of rfl (by omega)) (jr_of rfl (by omega)) J Sm D EV)
set_option maxRecDepth 100000 in
set_option maxHeartbeats 4000000 in
theorem sf_X9_numberTo_r68d {Dy : jH → Prop} {h : jH} {Q : Option Value → jH → Prop} {dr : Int} {a1 : Int32} (y1 : 11 ≤ a1.toInt ∧ a1.toInt ≤ 100000) (hD : jDk Dy) (J : jJ jSgX Dy h) (D : d_X9_numberTo_r68d a1.toInt (vw h) = dr) (hQ : ∀ (v : Int32) hx9, (-2147483648) ≤ v.toInt ∧ v.toInt ≤ 100000 → jJ jSgX Dy hx9 → jSm fp_X9_numberTo_r68d h hx9 → dr = v.toInt → vw hx9 = vw h → Q (some (.int v)) hx9) : jC m_X9_numberTo 1 0 0 [.ref 68, .int a1] h Q := by
  refine jC.of rfl k_X9_numberTo rfl ?_
  have Sm := jSm_rf fp_X9_numberTo_r68d h
  show jX m_X9_numberTo 1 0 0 0 [(0, .ref 68), (1, .int a1)] [] _ 0 0 _
  unfold d_X9_numberTo_r68d at D
  have EV : vw h = vw h := rfl
  refine x_aloadn (x := 68) rfl rfl ?_
  refine z_getI (N := 6) 9 5 rfl f_9_28 rfl J rfl sg_68_5_6_1_0_1 (fun v1 qv1 ev1 => ?_)
  try rw [vrf qv1] at D
  refine x_iconst (v := 2) rfl ki_2 ?_
  refine x_iceq (tgt := 10) rfl rfl (ti_eq rfl jk_2 ⟨fun c2 => ?_, fun c2 => ?_⟩)
  ·
    rw [if_pos (by omega)] at D
    refine x_iconst (v := 0) rfl ki_0 ?_
    refine x_istoren (lsx9 := [(2, .int 0), (0, .ref 68), (1, .int a1)]) rfl rfl rfl ?_
    refine x_aloadn (x := 68) rfl rfl ?_
    refine z_getI (N := 6) 9 3 rfl f_9_22 rfl J rfl sg_68_3_4_1_0_1 (fun v3 qv3 ev3 => ?_)
    try rw [vrf qv3] at D
    refine x_istoren (lsx9 := [(3, .int v3), (2, .int 0), (0, .ref 68), (1, .int a1)]) rfl rfl rfl ?_
    exact jX.sub (jsb_c rfl (jsb_c rfl (jsb_c rfl (jsb_c rfl jsb_n)))) (ct_X9_numberTo_r68d_17 hD hQ  401 a1 0 v3 h (by omega) (jr_of rfl (by omega)) (jr_of jk_0 (by omega)) (jr_of rfl (by omega)) J Sm (by rw [jk_0]; exact D) EV)
  ·
    rw [if_neg (by omega)] at D
    refine x_iconst (v := (-1)) rfl ki_m1 ?_
    refine x_iret rfl rfl ?_
    exact hQ _ _ (jr_of jk_m1 (by omega)) J Sm (D.symm.trans (show (-1) = ((-1) : Int32).toInt from by have := jk_m1; omega)) EV
def fp_X2_readNumber_r95d : jFp := [(68, 2, 3), (68, 3, 4), (68, 4, 5), (68, 5, 6), (96, 0, 72)]
set_option maxRecDepth 100000 in
set_option maxHeartbeats 4000000 in
theorem sf_X2_readNumber_r95d {Dy : jH → Prop} {h : jH} {Q : Option Value → jH → Prop} {dr : (Int × jW)} {a1 : Int32} {a2 : Int32} (y1 : 1 ≤ a1.toInt ∧ a1.toInt ≤ 2) (y2 : 11 ≤ a2.toInt ∧ a2.toInt ≤ 399) (ym2 : a2.toInt % 2 = 1) (hD : jDk Dy) (J : jJ jSgX Dy h) {p0 p1 : Int32} (zp0 : jiv h 68 5 = p0) (zp1 : jiv h 68 3 = p1) (rl_p0 : (p0.toInt ≠ 3 ∨ p1.toInt ≤ 399)) (D : d_X2_readNumber_r95d a1.toInt a2.toInt (vw h) = dr) (hQ : ∀ (v : Int32) hx9, 0 ≤ v.toInt ∧ v.toInt ≤ 1 → jJ jSgX Dy hx9 → jSm fp_X2_readNumber_r95d h hx9 → ∀ u0 u1 : Int32, jiv hx9 68 5 = u0 → jiv hx9 68 3 = u1 → (u0.toInt ≠ 3 ∨ u1.toInt ≤ 399) → dr.1 = v.toInt → dr.2 = vw hx9 → Q (some (.int v)) hx9) : jC m_X2_readNumber 3 0 0 [.ref 95, .int a1, .int a2] h Q := by
  refine jC.of rfl k_X2_readNumber rfl ?_
  have Sm := jSm_rf fp_X2_readNumber_r95d h
  have ep0 := (show 0 ≤ p0.toInt ∧ p0.toInt ≤ 3 from zp0 ▸ jrg_f J sg_68_5_6_1_0_1)
  have ep1 := (show 0 ≤ p1.toInt ∧ p1.toInt ≤ 400 from zp1 ▸ jrg_f J sg_68_3_4_1_0_1)
  show jX m_X2_readNumber 3 0 0 0 [(0, .ref 95), (1, .int a1), (2, .int a2)] [] _ 0 0 _
  unfold d_X2_readNumber_r95d at D
  try rw [vrf zp0] at D
  try rw [vrf zp1] at D
  refine x_aloadn (x := 95) rfl rfl ?_
  refine z_getR (N := 6) (b := 68) 2 0 rfl f_2_30 rfl J rfl 12160 ⟨rfl, rfl⟩ rfl ?_
  refine x_iloadn (x := a2) rfl rfl ?_
  refine x_inv (N := m_X9_numberTo) (As := [.int a2]) (b := 68) (st := []) (dx9 := 1) (mc := 0) (ms := 0) (host := "") 9 rfl t_X9_numberTo ⟨Or.inl q_2_117, i_X9_numberTo.1, i_X9_numberTo.2⟩ ⟨by decide, rfl⟩ (congrArg Prod.fst (J.1.1 68 (9, 6) rfl)) rfl (by decide) rfl rfl ⟨by decide, by decide⟩ (sf_X9_numberTo_r68d (jr_of rfl (by omega)) hD J rfl  (fun v4 h ev4 J S1 X2 X3 => ?_))
  have Sm := jSm_tr rfl Sm S1
  try rw [X2] at D
  try rw [← X3] at D
  show jX m_X2_readNumber 3 0 0 8 [(0, .ref 95), (1, .int a1), (2, .int a2)] [.int v4] _ 0 0 _
  refine x_istoren (lsx9 := [(3, .int v4), (0, .ref 95), (1, .int a1), (2, .int a2)]) rfl rfl rfl ?_
  refine x_iloadn (x := v4) rfl rfl ?_
  refine x_iconst (v := (-1)) rfl ki_m1 ?_
  refine x_icne (tgt := 22) rfl rfl (ti_ne rfl jk_m1 ⟨fun c5 => ?_, fun c5 => ?_⟩)
  ·
    rw [if_neg (by omega)] at D
    refine x_aloadn (x := 95) rfl rfl ?_
    refine x_iloadn (x := a1) rfl rfl ?_
    refine x_iloadn (x := v4) rfl rfl ?_
    refine x_inv (N := m_X2_note) (As := [.int a1, .int v4]) (b := 95) (st := []) (dx9 := 1) (mc := 0) (ms := 0) (host := "") 2 rfl t_X2_note ⟨Or.inl q_2_82, i_X2_note.1, i_X2_note.2⟩ ⟨by decide, rfl⟩ (congrArg Prod.fst (J.1.1 95 (2, 6) rfl)) rfl (by decide) rfl rfl ⟨by decide, by decide⟩ (sf_X2_note_r95d (jr_of rfl (by omega)) hD J rfl  (fun h J S6 X7 => ?_))
    have Sm := jSm_tr rfl Sm S6
    rw [X7] at D
    show jX m_X2_readNumber 3 0 0 28 [(3, .int v4), (0, .ref 95), (1, .int a1), (2, .int a2)] [] _ 0 0 _
    refine x_aloadn (x := 95) rfl rfl ?_
    refine z_getR (N := 6) (b := 68) 2 0 rfl f_2_30 rfl J rfl 12160 ⟨rfl, rfl⟩ rfl ?_
    refine x_inv (N := m_X9_step) (As := []) (b := 68) (st := []) (dx9 := 2) (mc := 0) (ms := 0) (host := "") 9 rfl t_X9_step ⟨Or.inl q_2_62, i_X9_step.1, i_X9_step.2⟩ ⟨by decide, rfl⟩ (congrArg Prod.fst (J.1.1 68 (9, 6) rfl)) rfl (by decide) rfl rfl ⟨by decide, by decide⟩ (sf_X9_step_r68d  hD J (jmc S6 rfl (jmc S1 rfl zp0)) (jmc S6 rfl (jmc S1 rfl zp1)) (by omega) rfl  (fun h J S8 u9 u10 qu9 qu10 ru9 X11 => ?_))
    have Sm := jSm_tr rfl Sm S8
    rw [X11] at D
    have eu9 := (show 0 ≤ u9.toInt ∧ u9.toInt ≤ 3 from qu9 ▸ jrg_f J sg_68_5_6_1_0_1)
    try rw [vrf qu9] at D
    have eu10 := (show 0 ≤ u10.toInt ∧ u10.toInt ≤ 400 from qu10 ▸ jrg_f J sg_68_3_4_1_0_1)
    try rw [vrf qu10] at D
    show jX m_X2_readNumber 3 0 0 35 [(3, .int v4), (0, .ref 95), (1, .int a1), (2, .int a2)] [] _ 0 0 _
    refine x_iconst (v := 1) rfl ki_1 ?_
    refine x_zret rfl rfl (by decide) ?_
    exact hQ _ _ (jr_of jk_1 (by omega)) J Sm _ _ qu9 qu10 (by omega) ((congrArg Prod.fst D).symm.trans (show 1 = (1 : Int32).toInt from by have := jk_1; omega)) (congrArg Prod.snd D).symm
  ·
    rw [if_pos (by omega)] at D
    refine x_aloadn (x := 95) rfl rfl ?_
    refine z_getR (N := 6) (b := 68) 2 0 rfl f_2_30 rfl J rfl 12160 ⟨rfl, rfl⟩ rfl ?_
    refine x_inv (N := m_X9_blame) (As := []) (b := 68) (st := []) (dx9 := 2) (mc := 0) (ms := 0) (host := "") 9 rfl t_X9_blame ⟨Or.inl q_2_59, i_X9_blame.1, i_X9_blame.2⟩ ⟨by decide, rfl⟩ (congrArg Prod.fst (J.1.1 68 (9, 6) rfl)) rfl (by decide) rfl rfl ⟨by decide, by decide⟩ (jC.of rfl k_X9_blame rfl ?_)
    show jX m_X9_blame 2 0 0 0 [(0, .ref 68)] [] _ 0 0 _
    refine x_aloadn (x := 68) rfl rfl ?_
    refine x_aloadn (x := 68) rfl rfl ?_
    refine z_getM (N := 6) (v := p1) 9 3 rfl f_9_22 rfl J rfl (jmc S1 rfl zp1) ?_
    refine z_putI (N := 6) (w := p1.toInt) 9 2 rfl f_9_19 rfl (jfin_no TX9 RX9 6 rfl rfl) hD J Sm rfl rfl rfl (pw_68_2 (by omega)) rfl (fun h w12 J Sm => ?_)
    rw [vwf w12 (show p1.toInt = p1.toInt from by omega)] at D
    refine x_iconst (v := 0) rfl ki_0 ?_
    refine x_zret rfl rfl (by decide) ?_
    show jX m_X2_readNumber 3 0 0 21 [(3, .int v4), (0, .ref 95), (1, .int a1), (2, .int a2)] [.int 0] _ 0 0 _
    refine x_zret rfl rfl (by decide) ?_
    exact hQ _ _ (jr_of jk_0 (by omega)) J Sm _ _ (jmo w12 rfl (jmc S1 rfl zp0)) (jmo w12 rfl (jmc S1 rfl zp1)) (by omega) ((congrArg Prod.fst D).symm.trans (show 0 = (0 : Int32).toInt from by have := jk_0; omega)) (congrArg Prod.snd D).symm
def fp_X2_readPart_r95d : jFp := [(68, 2, 3), (68, 3, 4), (68, 4, 5), (68, 5, 6), (95, 4, 5), (95, 5, 6), (97, 0, 1200)]
set_option maxRecDepth 100000 in
set_option maxHeartbeats 4000000 in
theorem sf_X2_readPart_r95d {Dy : jH → Prop} {h : jH} {Q : Option Value → jH → Prop} {dr : (Int × jW)} {a1 : Int32} {a2 : Int32} (y1 : 1 ≤ a1.toInt ∧ a1.toInt ≤ 2) (hD : jDk Dy) (J : jJ jSgX Dy h) {p0 p1 : Int32} (zp0 : jiv h 68 5 = p0) (zp1 : jiv h 68 3 = p1) (rl_p0 : (p0.toInt ≠ 3 ∨ p1.toInt ≤ 399)) (D : d_X2_readPart_r95d a1.toInt a2.toInt (vw h) = dr) (hQ : ∀ (v : Int32) hx9, 0 ≤ v.toInt ∧ v.toInt ≤ 1 → jJ jSgX Dy hx9 → jSm fp_X2_readPart_r95d h hx9 → ∀ u0 u1 : Int32, jiv hx9 68 5 = u0 → jiv hx9 68 3 = u1 → (u0.toInt ≠ 3 ∨ u1.toInt ≤ 399) → dr.1 = v.toInt → dr.2 = vw hx9 → Q (some (.int v)) hx9) : jC m_X2_readPart 3 0 0 [.ref 95, .int a1, .int a2] h Q := by
  refine jC.of rfl k_X2_readPart rfl ?_
  have Sm := jSm_rf fp_X2_readPart_r95d h
  have ep0 := (show 0 ≤ p0.toInt ∧ p0.toInt ≤ 3 from zp0 ▸ jrg_f J sg_68_5_6_1_0_1)
  have ep1 := (show 0 ≤ p1.toInt ∧ p1.toInt ≤ 400 from zp1 ▸ jrg_f J sg_68_3_4_1_0_1)
  have ea2 := jfull a2
  show jX m_X2_readPart 3 0 0 0 [(0, .ref 95), (1, .int a1), (2, .int a2)] [] _ 0 0 _
  unfold d_X2_readPart_r95d at D
  try rw [vrf zp0] at D
  try rw [vrf zp1] at D
  refine x_aloadn (x := 95) rfl rfl ?_
  refine z_getI (N := 6) 2 5 rfl f_2_27 rfl J rfl sg_95_5_6_1_0_1 (fun v1 qv1 ev1 => ?_)
  try rw [vrf qv1] at D
  refine x_bipush (v := 60) rfl kb_60 ?_
  refine x_iclt (tgt := 17) rfl rfl (ti_lt rfl jk_60 ⟨fun c2 => ?_, fun c2 => ?_⟩)
  ·
    rw [if_pos (by omega)] at D
    refine x_aloadn (x := 95) rfl rfl ?_
    refine x_dup rfl rfl ?_
    refine z_getM (N := 6) (v := v1) 2 5 rfl f_2_27 rfl J rfl qv1 ?_
    refine x_iconst (v := 1) rfl ki_1 ?_
    refine z_iadd rfl rfl jk_1 (by omega) (fun v3 ev3 => ?_)
    refine z_putI (N := 6) (w := v3.toInt) 2 5 rfl f_2_27 rfl (jfin_no TX2 RX2 6 rfl rfl) hD J Sm rfl rfl rfl (pw_95_5 (by omega)) rfl (fun h w4 J Sm => ?_)
    rw [vwf w4 (show (v1.toInt + 1) = v3.toInt from by omega)] at D
    refine x_aloadn (x := 95) rfl rfl ?_
    refine x_iloadn (x := a1) rfl rfl ?_
    refine x_inv (N := m_X2_emit) (As := [.int a1]) (b := 95) (st := []) (dx9 := 1) (mc := 0) (ms := 0) (host := "") 2 rfl t_X2_emit ⟨Or.inl q_2_89, i_X2_emit.1, i_X2_emit.2⟩ ⟨by decide, rfl⟩ (congrArg Prod.fst (J.1.1 95 (2, 6) rfl)) rfl (by decide) rfl rfl ⟨by decide, by decide⟩ (sf_X2_emit_r95d  hD J rfl  (fun h J S5 X6 => ?_))
    have Sm := jSm_tr rfl Sm S5
    rw [X6] at D
    show jX m_X2_readPart 3 0 0 32 [(0, .ref 95), (1, .int a1), (2, .int a2)] [] _ 0 0 _
    refine x_aloadn (x := 95) rfl rfl ?_
    refine x_iloadn (x := a2) rfl rfl ?_
    refine x_inv (N := m_X2_emit) (As := [.int a2]) (b := 95) (st := []) (dx9 := 1) (mc := 0) (ms := 0) (host := "") 2 rfl t_X2_emit ⟨Or.inl q_2_89, i_X2_emit.1, i_X2_emit.2⟩ ⟨by decide, rfl⟩ (congrArg Prod.fst (J.1.1 95 (2, 6) rfl)) rfl (by decide) rfl rfl ⟨by decide, by decide⟩ (sf_X2_emit_r95d  hD J rfl  (fun h J S7 X8 => ?_))
    have Sm := jSm_tr rfl Sm S7
    rw [X8] at D
    show jX m_X2_readPart 3 0 0 37 [(0, .ref 95), (1, .int a1), (2, .int a2)] [] _ 0 0 _
    refine x_aloadn (x := 95) rfl rfl ?_
    refine z_getR (N := 6) (b := 68) 2 0 rfl f_2_30 rfl J rfl 12160 ⟨rfl, rfl⟩ rfl ?_
    refine x_inv (N := m_X9_step) (As := []) (b := 68) (st := []) (dx9 := 2) (mc := 0) (ms := 0) (host := "") 9 rfl t_X9_step ⟨Or.inl q_2_62, i_X9_step.1, i_X9_step.2⟩ ⟨by decide, rfl⟩ (congrArg Prod.fst (J.1.1 68 (9, 6) rfl)) rfl (by decide) rfl rfl ⟨by decide, by decide⟩ (sf_X9_step_r68d  hD J (jmc S7 rfl (jmc S5 rfl (jmo w4 rfl zp0))) (jmc S7 rfl (jmc S5 rfl (jmo w4 rfl zp1))) (by omega) rfl  (fun h J S9 u10 u11 qu10 qu11 ru10 X12 => ?_))
    have Sm := jSm_tr rfl Sm S9
    rw [X12] at D
    have eu10 := (show 0 ≤ u10.toInt ∧ u10.toInt ≤ 3 from qu10 ▸ jrg_f J sg_68_5_6_1_0_1)
    try rw [vrf qu10] at D
    have eu11 := (show 0 ≤ u11.toInt ∧ u11.toInt ≤ 400 from qu11 ▸ jrg_f J sg_68_3_4_1_0_1)
    try rw [vrf qu11] at D
    show jX m_X2_readPart 3 0 0 44 [(0, .ref 95), (1, .int a1), (2, .int a2)] [] _ 0 0 _
    refine x_iconst (v := 1) rfl ki_1 ?_
    refine x_zret rfl rfl (by decide) ?_
    exact hQ _ _ (jr_of jk_1 (by omega)) J Sm _ _ qu10 qu11 (by omega) ((congrArg Prod.fst D).symm.trans (show 1 = (1 : Int32).toInt from by have := jk_1; omega)) (congrArg Prod.snd D).symm
  ·
    rw [if_neg (by omega)] at D
    refine x_aloadn (x := 95) rfl rfl ?_
    refine z_getR (N := 6) (b := 68) 2 0 rfl f_2_30 rfl J rfl 12160 ⟨rfl, rfl⟩ rfl ?_
    refine x_inv (N := m_X9_blame) (As := []) (b := 68) (st := []) (dx9 := 2) (mc := 0) (ms := 0) (host := "") 9 rfl t_X9_blame ⟨Or.inl q_2_59, i_X9_blame.1, i_X9_blame.2⟩ ⟨by decide, rfl⟩ (congrArg Prod.fst (J.1.1 68 (9, 6) rfl)) rfl (by decide) rfl rfl ⟨by decide, by decide⟩ (jC.of rfl k_X9_blame rfl ?_)
    show jX m_X9_blame 2 0 0 0 [(0, .ref 68)] [] _ 0 0 _
    refine x_aloadn (x := 68) rfl rfl ?_
    refine x_aloadn (x := 68) rfl rfl ?_
    refine z_getM (N := 6) (v := p1) 9 3 rfl f_9_22 rfl J rfl zp1 ?_
    refine z_putI (N := 6) (w := p1.toInt) 9 2 rfl f_9_19 rfl (jfin_no TX9 RX9 6 rfl rfl) hD J Sm rfl rfl rfl (pw_68_2 (by omega)) rfl (fun h w13 J Sm => ?_)
    rw [vwf w13 (show p1.toInt = p1.toInt from by omega)] at D
    refine x_iconst (v := 0) rfl ki_0 ?_
    refine x_zret rfl rfl (by decide) ?_
    show jX m_X2_readPart 3 0 0 16 [(0, .ref 95), (1, .int a1), (2, .int a2)] [.int 0] _ 0 0 _
    refine x_zret rfl rfl (by decide) ?_
    exact hQ _ _ (jr_of jk_0 (by omega)) J Sm _ _ (jmo w13 rfl zp0) (jmo w13 rfl zp1) (by omega) ((congrArg Prod.fst D).symm.trans (show 0 = (0 : Int32).toInt from by have := jk_0; omega)) (congrArg Prod.snd D).symm
def fp_X9_wordOf_r68_r11d : jFp := []
set_option maxRecDepth 100000 in
set_option maxHeartbeats 4000000 in
theorem ct_X9_wordOf_r68_r11d_110 {Dy : jH → Prop} {h0 : jH} {Q : Option Value → jH → Prop} {dr : Int} {K23 : Int → Int → Int → Int → jW → Int} {R23 : Int} (hD : jDk Dy) (hQ : ∀ (v : Int32) hx9, jJ jSgX Dy hx9 → jSm fp_X9_wordOf_r68_r11d h0 hx9 → dr = v.toInt → vw hx9 = vw h0 → Q (some (.int v)) hx9) (k23 : ∀ (l2 : Int32) (l3 : Int32) (l4 : Int32) (l5 : Int32) (g0 : Int32) (h : jH), 34 - l5.toInt < R23 → 0 ≤ l3.toInt ∧ l3.toInt ≤ 434 → 0 ≤ l4.toInt ∧ l4.toInt ≤ 1 → 0 ≤ l5.toInt ∧ l5.toInt ≤ 34 → 0 ≤ g0.toInt ∧ g0.toInt ≤ 400 → l3.toInt - l5.toInt ≤ 400 → jiv h 68 3 = g0 → jJ jSgX Dy h → jSm fp_X9_wordOf_r68_r11d h0 h → K23 l2.toInt l3.toInt l4.toInt l5.toInt (vw h) = dr → vw h = vw h0 → jX m_X9_wordOf 4 0 0 23 [(0, .ref 68), (1, .ref 11), (2, .int l2), (3, .int l3), (4, .int l4), (5, .int l5)] [] h 0 0 Q) : ∀ (l2 : Int32) (l3 : Int32) (l4 : Int32) (l5 : Int32) (g0 : Int32) (h : jH), 0 ≤ l3.toInt ∧ l3.toInt ≤ 434 → 0 ≤ l4.toInt ∧ l4.toInt ≤ 1 → 0 ≤ l5.toInt ∧ l5.toInt ≤ 33 → 0 ≤ g0.toInt ∧ g0.toInt ≤ 400 → l3.toInt - l5.toInt ≤ 401 → jiv h 68 3 = g0 → 34 - l5.toInt ≤ R23 → jJ jSgX Dy h → jSm fp_X9_wordOf_r68_r11d h0 h → d_X9_wordOf_r68_r11d_110 K23  l2.toInt l3.toInt l4.toInt l5.toInt (vw h) = dr → vw h = vw h0 → jX m_X9_wordOf 4 0 0 110 [(0, .ref 68), (1, .ref 11), (2, .int l2), (3, .int l3), (4, .int l4), (5, .int l5)] [] h 0 0 Q := by
  intro l2 l3 l4 l5 g0 h y0 y1 y2 y3 y4 z0 m23 J Sm D EV
  have el2 := jfull l2
  unfold d_X9_wordOf_r68_r11d_110 at D
  try rw [vrf z0] at D
  refine z_iinc (x := l5) (lsx9 := fun v1 => [(5, .int v1), (0, .ref 68), (1, .ref 11), (2, .int l2), (3, .int l3), (4, .int l4)]) rfl rfl rfl jko_1 (by omega) rfl (fun _ => rfl) (fun v1 ev1 => ?_)
  refine x_goto (tgt := 23) rfl rfl ?_
  try rw [show (l5.toInt + 1) = v1.toInt from by omega] at D
  exact jX.sub (jsb_c rfl (jsb_c rfl (jsb_c rfl (jsb_c rfl (jsb_c rfl (jsb_c rfl jsb_n)))))) (k23 l2 l3 l4 v1 g0 h (by omega) (jr_of rfl (by omega)) (jr_of rfl (by omega)) (jr_of rfl (by omega)) (jr_of rfl (by omega)) (by omega) z0 J Sm D EV)
set_option maxRecDepth 100000 in
set_option maxHeartbeats 4000000 in
theorem ct_X9_wordOf_r68_r11d_300105 {Dy : jH → Prop} {h0 : jH} {Q : Option Value → jH → Prop} {dr : Int} {K23 : Int → Int → Int → Int → jW → Int} {R23 : Int} (hD : jDk Dy) (hQ : ∀ (v : Int32) hx9, jJ jSgX Dy hx9 → jSm fp_X9_wordOf_r68_r11d h0 hx9 → dr = v.toInt → vw hx9 = vw h0 → Q (some (.int v)) hx9) (k23 : ∀ (l2 : Int32) (l3 : Int32) (l4 : Int32) (l5 : Int32) (g0 : Int32) (h : jH), 34 - l5.toInt < R23 → 0 ≤ l3.toInt ∧ l3.toInt ≤ 434 → 0 ≤ l4.toInt ∧ l4.toInt ≤ 1 → 0 ≤ l5.toInt ∧ l5.toInt ≤ 34 → 0 ≤ g0.toInt ∧ g0.toInt ≤ 400 → l3.toInt - l5.toInt ≤ 400 → jiv h 68 3 = g0 → jJ jSgX Dy h → jSm fp_X9_wordOf_r68_r11d h0 h → K23 l2.toInt l3.toInt l4.toInt l5.toInt (vw h) = dr → vw h = vw h0 → jX m_X9_wordOf 4 0 0 23 [(0, .ref 68), (1, .ref 11), (2, .int l2), (3, .int l3), (4, .int l4), (5, .int l5)] [] h 0 0 Q) : ∀ (l2 : Int32) (l3 : Int32) (l5 : Int32) (g0 : Int32) (h : jH), 0 ≤ l3.toInt ∧ l3.toInt ≤ 399 → 0 ≤ l5.toInt ∧ l5.toInt ≤ 33 → 0 ≤ g0.toInt ∧ g0.toInt ≤ 400 → l3.toInt - l5.toInt ≤ 400 → jiv h 68 3 = g0 → 34 - l5.toInt ≤ R23 → jJ jSgX Dy h → jSm fp_X9_wordOf_r68_r11d h0 h → d_X9_wordOf_r68_r11d_300105 K23  l2.toInt l3.toInt l5.toInt (vw h) = dr → vw h = vw h0 → jX m_X9_wordOf 4 0 0 105 [(0, .ref 68), (1, .ref 11), (2, .int l2), (3, .int l3), (5, .int l5)] [.int 1] h 0 0 Q := by
  intro l2 l3 l5 g0 h y0 y1 y2 y3 z0 m23 J Sm D EV
  have el2 := jfull l2
  unfold d_X9_wordOf_r68_r11d_300105 at D
  try rw [vrf z0] at D
  refine x_istore (lsx9 := [(4, .int 1), (0, .ref 68), (1, .ref 11), (2, .int l2), (3, .int l3), (5, .int l5)]) rfl rfl rfl ?_
  refine z_iinc (x := l3) (lsx9 := fun v1 => [(3, .int v1), (4, .int 1), (0, .ref 68), (1, .ref 11), (2, .int l2), (5, .int l5)]) rfl rfl rfl jko_1 (by omega) rfl (fun _ => rfl) (fun v1 ev1 => ?_)
  try rw [show (l3.toInt + 1) = v1.toInt from by omega] at D
  exact jX.sub (jsb_c rfl (jsb_c rfl (jsb_c rfl (jsb_c rfl (jsb_c rfl (jsb_c rfl jsb_n)))))) (ct_X9_wordOf_r68_r11d_110 hD hQ k23 l2 v1 1 l5 g0 h (jr_of rfl (by omega)) (jr_of jk_1 (by omega)) (jr_of rfl (by omega)) (jr_of rfl (by omega)) (by omega) z0 (by omega) J Sm (by rw [jk_1]; exact D) EV)
set_option maxRecDepth 100000 in
set_option maxHeartbeats 4000000 in
theorem ct_X9_wordOf_r68_r11d_200105 {Dy : jH → Prop} {h0 : jH} {Q : Option Value → jH → Prop} {dr : Int} {K23 : Int → Int → Int → Int → jW → Int} {R23 : Int} (hD : jDk Dy) (hQ : ∀ (v : Int32) hx9, jJ jSgX Dy hx9 → jSm fp_X9_wordOf_r68_r11d h0 hx9 → dr = v.toInt → vw hx9 = vw h0 → Q (some (.int v)) hx9) (k23 : ∀ (l2 : Int32) (l3 : Int32) (l4 : Int32) (l5 : Int32) (g0 : Int32) (h : jH), 34 - l5.toInt < R23 → 0 ≤ l3.toInt ∧ l3.toInt ≤ 434 → 0 ≤ l4.toInt ∧ l4.toInt ≤ 1 → 0 ≤ l5.toInt ∧ l5.toInt ≤ 34 → 0 ≤ g0.toInt ∧ g0.toInt ≤ 400 → l3.toInt - l5.toInt ≤ 400 → jiv h 68 3 = g0 → jJ jSgX Dy h → jSm fp_X9_wordOf_r68_r11d h0 h → K23 l2.toInt l3.toInt l4.toInt l5.toInt (vw h) = dr → vw h = vw h0 → jX m_X9_wordOf 4 0 0 23 [(0, .ref 68), (1, .ref 11), (2, .int l2), (3, .int l3), (4, .int l4), (5, .int l5)] [] h 0 0 Q) : ∀ (l2 : Int32) (l3 : Int32) (l5 : Int32) (g0 : Int32) (h : jH), 0 ≤ l3.toInt ∧ l3.toInt ≤ 433 → 0 ≤ l5.toInt ∧ l5.toInt ≤ 33 → 0 ≤ g0.toInt ∧ g0.toInt ≤ 400 → l3.toInt - l5.toInt ≤ 400 → jiv h 68 3 = g0 → 34 - l5.toInt ≤ R23 → jJ jSgX Dy h → jSm fp_X9_wordOf_r68_r11d h0 h → d_X9_wordOf_r68_r11d_200105 K23  l2.toInt l3.toInt l5.toInt (vw h) = dr → vw h = vw h0 → jX m_X9_wordOf 4 0 0 105 [(0, .ref 68), (1, .ref 11), (2, .int l2), (3, .int l3), (5, .int l5)] [.int 0] h 0 0 Q := by
  intro l2 l3 l5 g0 h y0 y1 y2 y3 z0 m23 J Sm D EV
  have el2 := jfull l2
  unfold d_X9_wordOf_r68_r11d_200105 at D
  try rw [vrf z0] at D
  refine x_istore (lsx9 := [(4, .int 0), (0, .ref 68), (1, .ref 11), (2, .int l2), (3, .int l3), (5, .int l5)]) rfl rfl rfl ?_
  refine z_iinc (x := l3) (lsx9 := fun v1 => [(3, .int v1), (4, .int 0), (0, .ref 68), (1, .ref 11), (2, .int l2), (5, .int l5)]) rfl rfl rfl jko_1 (by omega) rfl (fun _ => rfl) (fun v1 ev1 => ?_)
  try rw [show (l3.toInt + 1) = v1.toInt from by omega] at D
  exact jX.sub (jsb_c rfl (jsb_c rfl (jsb_c rfl (jsb_c rfl (jsb_c rfl (jsb_c rfl jsb_n)))))) (ct_X9_wordOf_r68_r11d_110 hD hQ k23 l2 v1 0 l5 g0 h (jr_of rfl (by omega)) (jr_of jk_0 (by omega)) (jr_of rfl (by omega)) (jr_of rfl (by omega)) (by omega) z0 (by omega) J Sm (by rw [jk_0]; exact D) EV)
set_option maxRecDepth 100000 in
set_option maxHeartbeats 4000000 in
theorem ct_X9_wordOf_r68_r11d_104 {Dy : jH → Prop} {h0 : jH} {Q : Option Value → jH → Prop} {dr : Int} {K23 : Int → Int → Int → Int → jW → Int} {R23 : Int} (hD : jDk Dy) (hQ : ∀ (v : Int32) hx9, jJ jSgX Dy hx9 → jSm fp_X9_wordOf_r68_r11d h0 hx9 → dr = v.toInt → vw hx9 = vw h0 → Q (some (.int v)) hx9) (k23 : ∀ (l2 : Int32) (l3 : Int32) (l4 : Int32) (l5 : Int32) (g0 : Int32) (h : jH), 34 - l5.toInt < R23 → 0 ≤ l3.toInt ∧ l3.toInt ≤ 434 → 0 ≤ l4.toInt ∧ l4.toInt ≤ 1 → 0 ≤ l5.toInt ∧ l5.toInt ≤ 34 → 0 ≤ g0.toInt ∧ g0.toInt ≤ 400 → l3.toInt - l5.toInt ≤ 400 → jiv h 68 3 = g0 → jJ jSgX Dy h → jSm fp_X9_wordOf_r68_r11d h0 h → K23 l2.toInt l3.toInt l4.toInt l5.toInt (vw h) = dr → vw h = vw h0 → jX m_X9_wordOf 4 0 0 23 [(0, .ref 68), (1, .ref 11), (2, .int l2), (3, .int l3), (4, .int l4), (5, .int l5)] [] h 0 0 Q) : ∀ (l2 : Int32) (l3 : Int32) (l5 : Int32) (g0 : Int32) (h : jH), 0 ≤ l3.toInt ∧ l3.toInt ≤ 433 → 0 ≤ l5.toInt ∧ l5.toInt ≤ 33 → 0 ≤ g0.toInt ∧ g0.toInt ≤ 400 → l3.toInt - l5.toInt ≤ 400 → jiv h 68 3 = g0 → 34 - l5.toInt ≤ R23 → jJ jSgX Dy h → jSm fp_X9_wordOf_r68_r11d h0 h → d_X9_wordOf_r68_r11d_104 K23  l2.toInt l3.toInt l5.toInt (vw h) = dr → vw h = vw h0 → jX m_X9_wordOf 4 0 0 104 [(0, .ref 68), (1, .ref 11), (2, .int l2), (3, .int l3), (5, .int l5)] [] h 0 0 Q := by
  intro l2 l3 l5 g0 h y0 y1 y2 y3 z0 m23 J Sm D EV
  have el2 := jfull l2
  unfold d_X9_wordOf_r68_r11d_104 at D
  try rw [vrf z0] at D
  refine x_iconst (v := 0) rfl ki_0 ?_
  exact jX.sub (jsb_c rfl (jsb_c rfl (jsb_c rfl (jsb_c rfl (jsb_c rfl jsb_n))))) (ct_X9_wordOf_r68_r11d_200105 hD hQ k23 l2 l3 l5 g0 h (jr_of rfl (by omega)) (jr_of rfl (by omega)) (jr_of rfl (by omega)) (by omega) z0 (by omega) J Sm D EV)
set_option maxRecDepth 100000 in
set_option maxHeartbeats 4000000 in
theorem ct_X9_wordOf_r68_r11d_62 {Dy : jH → Prop} {h0 : jH} {Q : Option Value → jH → Prop} {dr : Int} {K23 : Int → Int → Int → Int → jW → Int} {R23 : Int} (hD : jDk Dy) (hQ : ∀ (v : Int32) hx9, jJ jSgX Dy hx9 → jSm fp_X9_wordOf_r68_r11d h0 hx9 → dr = v.toInt → vw hx9 = vw h0 → Q (some (.int v)) hx9) (k23 : ∀ (l2 : Int32) (l3 : Int32) (l4 : Int32) (l5 : Int32) (g0 : Int32) (h : jH), 34 - l5.toInt < R23 → 0 ≤ l3.toInt ∧ l3.toInt ≤ 434 → 0 ≤ l4.toInt ∧ l4.toInt ≤ 1 → 0 ≤ l5.toInt ∧ l5.toInt ≤ 34 → 0 ≤ g0.toInt ∧ g0.toInt ≤ 400 → l3.toInt - l5.toInt ≤ 400 → jiv h 68 3 = g0 → jJ jSgX Dy h → jSm fp_X9_wordOf_r68_r11d h0 h → K23 l2.toInt l3.toInt l4.toInt l5.toInt (vw h) = dr → vw h = vw h0 → jX m_X9_wordOf 4 0 0 23 [(0, .ref 68), (1, .ref 11), (2, .int l2), (3, .int l3), (4, .int l4), (5, .int l5)] [] h 0 0 Q) : ∀ (l2 : Int32) (l5 : Int32) (g0 : Int32) (h : jH), 0 ≤ l5.toInt ∧ l5.toInt ≤ 33 → 0 ≤ g0.toInt ∧ g0.toInt ≤ 400 → jiv h 68 3 = g0 → 34 - l5.toInt ≤ R23 → jJ jSgX Dy h → jSm fp_X9_wordOf_r68_r11d h0 h → d_X9_wordOf_r68_r11d_62 K23  l2.toInt l5.toInt (vw h) = dr → vw h = vw h0 → jX m_X9_wordOf 4 0 0 62 [(0, .ref 68), (1, .ref 11), (2, .int l2), (5, .int l5)] [] h 0 0 Q := by
  intro l2 l5 g0 h y0 y1 z0 m23 J Sm D EV
  have el2 := jfull l2
  unfold d_X9_wordOf_r68_r11d_62 at D
  try rw [vrf z0] at D
  refine z_iincW (x := l2) (lsx9 := fun v1 => [(2, .int v1), (0, .ref 68), (1, .ref 11), (5, .int l5)]) rfl rfl rfl jko_1 rfl (fun _ => rfl) (fun v1 ev1 => ?_)
  have fv1 := jfull v1
  try rw [← ev1] at D
  refine x_aloadn (x := 68) rfl rfl ?_
  refine z_getM (N := 6) (v := g0) 9 3 rfl f_9_22 rfl J rfl z0 ?_
  refine x_istoren (lsx9 := [(3, .int g0), (2, .int v1), (0, .ref 68), (1, .ref 11), (5, .int l5)]) rfl rfl rfl ?_
  refine x_iconst (v := 1) rfl ki_1 ?_
  refine x_istore (lsx9 := [(4, .int 1), (3, .int g0), (2, .int v1), (0, .ref 68), (1, .ref 11), (5, .int l5)]) rfl rfl rfl ?_
  refine x_goto (tgt := 110) rfl rfl ?_
  exact jX.sub (jsb_c rfl (jsb_c rfl (jsb_c rfl (jsb_c rfl (jsb_c rfl (jsb_c rfl jsb_n)))))) (ct_X9_wordOf_r68_r11d_110 hD hQ k23 v1 g0 1 l5 g0 h (jr_of rfl (by omega)) (jr_of jk_1 (by omega)) (jr_of rfl (by omega)) (jr_of rfl (by omega)) (by omega) z0 (by omega) J Sm (by rw [jk_1]; exact D) EV)
set_option maxRecDepth 100000 in
set_option maxHeartbeats 4000000 in
theorem ct_X9_wordOf_r68_r11d_23 {Dy : jH → Prop} {h0 : jH} {Q : Option Value → jH → Prop} {dr : Int} (hD : jDk Dy) (hQ : ∀ (v : Int32) hx9, jJ jSgX Dy hx9 → jSm fp_X9_wordOf_r68_r11d h0 hx9 → dr = v.toInt → vw hx9 = vw h0 → Q (some (.int v)) hx9) : ∀ r : Nat, ∀ (l2 : Int32) (l3 : Int32) (l4 : Int32) (l5 : Int32) (g0 : Int32) (h : jH), 34 - l5.toInt < (r : Int) → 0 ≤ l3.toInt ∧ l3.toInt ≤ 434 → 0 ≤ l4.toInt ∧ l4.toInt ≤ 1 → 0 ≤ l5.toInt ∧ l5.toInt ≤ 34 → 0 ≤ g0.toInt ∧ g0.toInt ≤ 400 → l3.toInt - l5.toInt ≤ 400 → jiv h 68 3 = g0 → jJ jSgX Dy h → jSm fp_X9_wordOf_r68_r11d h0 h → d_X9_wordOf_r68_r11d_23 r l2.toInt l3.toInt l4.toInt l5.toInt (vw h) = dr → vw h = vw h0 → jX m_X9_wordOf 4 0 0 23 [(0, .ref 68), (1, .ref 11), (2, .int l2), (3, .int l3), (4, .int l4), (5, .int l5)] [] h 0 0 Q := by
  intro r
  induction r with
  | zero =>
    intro l2 l3 l4 l5 g0 h hm y0 y1 y2 y3 y4 z0  J Sm D EV
    exfalso
    have el2 := jfull l2
    omega
  | succ r ih =>
    intro l2 l3 l4 l5 g0 h hm y0 y1 y2 y3 y4 z0  J Sm D EV
    have el2 := jfull l2
    rw [d_X9_wordOf_r68_r11d_23.eq_2] at D
    try rw [vrf z0] at D
    refine x_iload (x := l5) rfl rfl ?_
    refine x_aloadn (x := 11) rfl rfl ?_
    refine x_invS (N := m_J0_length_8abf5) (i := 6) (As := []) (st := [.int l5]) (dx9 := 1) (by decide) rfl t_J0_length_8abf5 ⟨q_9_38, i_J0_length_8abf5.1, i_J0_length_8abf5.2⟩ rfl rfl (by decide) rfl rfl (zc_slen (N := 34) (v := 34) rfl J rfl rfl (by decide) ?_)
    show jX m_X9_wordOf 4 0 0 29 [(0, .ref 68), (1, .ref 11), (2, .int l2), (3, .int l3), (4, .int l4), (5, .int l5)] [.int 34, .int l5] _ 0 0 _
    refine x_icge (tgt := 116) rfl rfl (ti_ge rfl jk_34 ⟨fun c1 => ?_, fun c1 => ?_⟩)
    ·
      rw [if_pos (by omega)] at D
      refine x_iconst (v := (-1)) rfl ki_m1 ?_
      refine x_iret rfl rfl ?_
      exact hQ _ _ J Sm (D.symm.trans (show (-1) = ((-1) : Int32).toInt from by have := jk_m1; omega)) EV
    ·
      rw [if_neg (by omega)] at D
      refine x_aloadn (x := 11) rfl rfl ?_
      refine x_iload (x := l5) rfl rfl ?_
      refine x_invS (N := m_J0_charAt_5068e) (i := 6) (As := [.int l5]) (st := []) (dx9 := 3) (by decide) rfl t_J0_charAt_5068e ⟨q_9_43, i_J0_charAt_5068e.1, i_J0_charAt_5068e.2⟩ rfl rfl (by decide) rfl rfl (zc_scharD (N := 34) rfl J rfl rfl rfl (by omega) (fun v2 ev2 => ?_))
      try rw [← ev2.1] at D
      show jX m_X9_wordOf 4 0 0 38 [(0, .ref 68), (1, .ref 11), (2, .int l2), (3, .int l3), (4, .int l4), (5, .int l5)] [.int v2] _ 0 0 _
      refine x_istore (lsx9 := [(6, .int v2), (0, .ref 68), (1, .ref 11), (2, .int l2), (3, .int l3), (4, .int l4), (5, .int l5)]) rfl rfl rfl ?_
      refine x_iload (x := v2) rfl rfl ?_
      refine x_bipush (v := 32) rfl kb_32 ?_
      refine x_icne (tgt := 76) rfl rfl (ti_ne rfl jk_32 ⟨fun c3 => ?_, fun c3 => ?_⟩)
      ·
        rw [if_neg (by omega)] at D
        refine x_iload (x := l4) rfl rfl ?_
        refine x_ifeq (tgt := 104) rfl rfl (ti_eq rfl jk_0 ⟨fun c4 => ?_, fun c4 => ?_⟩)
        ·
          rw [if_pos (by omega)] at D
          exact jX.sub (jsb_c rfl (jsb_c rfl (jsb_c rfl (jsb_c rfl (jsb_c rfl jsb_n))))) (ct_X9_wordOf_r68_r11d_104 hD hQ ih l2 l3 l5 g0 h (jr_of rfl (by omega)) (jr_of rfl (by omega)) (jr_of rfl (by omega)) (by omega) z0 (by omega) J Sm D EV)
        ·
          rw [if_neg (by omega)] at D
          refine x_iloadn (x := l3) rfl rfl ?_
          refine x_aloadn (x := 68) rfl rfl ?_
          refine z_getI (N := 6) 9 4 rfl f_9_25 rfl J rfl sg_68_4_5_1_0_1 (fun v5 qv5 ev5 => ?_)
          try rw [vrf qv5] at D
          refine x_icge (tgt := 104) rfl rfl (ti_ge rfl rfl ⟨fun c6 => ?_, fun c6 => ?_⟩)
          ·
            rw [if_pos (by omega)] at D
            exact jX.sub (jsb_c rfl (jsb_c rfl (jsb_c rfl (jsb_c rfl (jsb_c rfl jsb_n))))) (ct_X9_wordOf_r68_r11d_104 hD hQ ih l2 l3 l5 g0 h (jr_of rfl (by omega)) (jr_of rfl (by omega)) (jr_of rfl (by omega)) (by omega) z0 (by omega) J Sm D EV)
          ·
            rw [if_neg (by omega)] at D
            refine x_aloadn (x := 68) rfl rfl ?_
            refine z_getR (N := 6) (b := 69) 9 0 rfl f_9_11 rfl J rfl 8704 ⟨rfl, rfl⟩ rfl ?_
            refine x_iloadn (x := l3) rfl rfl ?_
            refine z_iald (N := 400) rfl J rfl sg_69_0_400_1_0_1 rfl (by omega) (fun v7 qv7 ev7 => ?_)
            try rw [vrd qv7 (show l3.toInt = l3.toInt from by omega)] at D
            refine x_iload (x := v2) rfl rfl ?_
            refine x_icne (tgt := 104) rfl rfl (ti_ne rfl rfl ⟨fun c8 => ?_, fun c8 => ?_⟩)
            ·
              rw [if_neg (by omega)] at D
              exact jX.sub (jsb_c rfl (jsb_c rfl (jsb_c rfl (jsb_c rfl (jsb_c rfl jsb_n))))) (ct_X9_wordOf_r68_r11d_104 hD hQ ih l2 l3 l5 g0 h (jr_of rfl (by omega)) (jr_of rfl (by omega)) (jr_of rfl (by omega)) (by omega) z0 (by omega) J Sm D EV)
            ·
              rw [if_pos (by omega)] at D
              refine x_iconst (v := 1) rfl ki_1 ?_
              refine x_goto (tgt := 105) rfl rfl ?_
              exact jX.sub (jsb_c rfl (jsb_c rfl (jsb_c rfl (jsb_c rfl (jsb_c rfl jsb_n))))) (ct_X9_wordOf_r68_r11d_300105 hD hQ ih l2 l3 l5 g0 h (jr_of rfl (by omega)) (jr_of rfl (by omega)) (jr_of rfl (by omega)) (by omega) z0 (by omega) J Sm D EV)
      ·
        rw [if_pos (by omega)] at D
        refine x_iload (x := l4) rfl rfl ?_
        refine x_ifeq (tgt := 62) rfl rfl (ti_eq rfl jk_0 ⟨fun c9 => ?_, fun c9 => ?_⟩)
        ·
          rw [if_pos (by omega)] at D
          exact jX.sub (jsb_c rfl (jsb_c rfl (jsb_c rfl (jsb_c rfl jsb_n)))) (ct_X9_wordOf_r68_r11d_62 hD hQ ih l2 l5 g0 h (jr_of rfl (by omega)) (jr_of rfl (by omega)) z0 (by omega) J Sm D EV)
        ·
          rw [if_neg (by omega)] at D
          refine x_iloadn (x := l3) rfl rfl ?_
          refine x_aloadn (x := 68) rfl rfl ?_
          refine z_getI (N := 6) 9 4 rfl f_9_25 rfl J rfl sg_68_4_5_1_0_1 (fun v10 qv10 ev10 => ?_)
          try rw [vrf qv10] at D
          refine x_icne (tgt := 62) rfl rfl (ti_ne rfl rfl ⟨fun c11 => ?_, fun c11 => ?_⟩)
          ·
            rw [if_neg (by omega)] at D
            exact jX.sub (jsb_c rfl (jsb_c rfl (jsb_c rfl (jsb_c rfl jsb_n)))) (ct_X9_wordOf_r68_r11d_62 hD hQ ih l2 l5 g0 h (jr_of rfl (by omega)) (jr_of rfl (by omega)) z0 (by omega) J Sm D EV)
          ·
            rw [if_pos (by omega)] at D
            refine x_iloadn (x := l2) rfl rfl ?_
            refine x_iret rfl rfl ?_
            exact hQ _ _ J Sm (D.symm.trans (show l2.toInt = l2.toInt from by omega)) EV
set_option maxRecDepth 100000 in
set_option maxHeartbeats 4000000 in
theorem sf_X9_wordOf_r68_r11d {Dy : jH → Prop} {h : jH} {Q : Option Value → jH → Prop} {dr : Int} (hD : jDk Dy) (J : jJ jSgX Dy h) (D : d_X9_wordOf_r68_r11d (vw h) = dr) (hQ : ∀ (v : Int32) hx9, jJ jSgX Dy hx9 → jSm fp_X9_wordOf_r68_r11d h hx9 → dr = v.toInt → vw hx9 = vw h → Q (some (.int v)) hx9) : jC m_X9_wordOf 4 0 0 [.ref 68, .ref 11] h Q := by
  refine jC.of rfl k_X9_wordOf rfl ?_
  have Sm := jSm_rf fp_X9_wordOf_r68_r11d h
  show jX m_X9_wordOf 4 0 0 0 [(0, .ref 68), (1, .ref 11)] [] _ 0 0 _
  unfold d_X9_wordOf_r68_r11d at D
  have EV : vw h = vw h := rfl
  refine x_aloadn (x := 68) rfl rfl ?_
  refine z_getI (N := 6) 9 5 rfl f_9_28 rfl J rfl sg_68_5_6_1_0_1 (fun v1 qv1 ev1 => ?_)
  try rw [vrf qv1] at D
  refine x_iconst (v := 1) rfl ki_1 ?_
  refine x_iceq (tgt := 10) rfl rfl (ti_eq rfl jk_1 ⟨fun c2 => ?_, fun c2 => ?_⟩)
  ·
    rw [if_pos (by omega)] at D
    refine x_iconst (v := 0) rfl ki_0 ?_
    refine x_istoren (lsx9 := [(2, .int 0), (0, .ref 68), (1, .ref 11)]) rfl rfl rfl ?_
    refine x_aloadn (x := 68) rfl rfl ?_
    refine z_getI (N := 6) 9 3 rfl f_9_22 rfl J rfl sg_68_3_4_1_0_1 (fun v3 qv3 ev3 => ?_)
    try rw [vrf qv3] at D
    refine x_istoren (lsx9 := [(3, .int v3), (2, .int 0), (0, .ref 68), (1, .ref 11)]) rfl rfl rfl ?_
    refine x_iconst (v := 1) rfl ki_1 ?_
    refine x_istore (lsx9 := [(4, .int 1), (3, .int v3), (2, .int 0), (0, .ref 68), (1, .ref 11)]) rfl rfl rfl ?_
    refine x_iconst (v := 0) rfl ki_0 ?_
    refine x_istore (lsx9 := [(5, .int 0), (4, .int 1), (3, .int v3), (2, .int 0), (0, .ref 68), (1, .ref 11)]) rfl rfl rfl ?_
    exact jX.sub (jsb_c rfl (jsb_c rfl (jsb_c rfl (jsb_c rfl (jsb_c rfl (jsb_c rfl jsb_n)))))) (ct_X9_wordOf_r68_r11d_23 hD hQ  35 0 v3 1 0 v3 h (by have := jk_0; omega) (jr_of rfl (by omega)) (jr_of jk_1 (by omega)) (jr_of jk_0 (by omega)) (jr_of rfl (by omega)) (by have := jk_0; omega) qv3 J Sm (by rw [jk_0, jk_1]; exact D) EV)
  ·
    rw [if_neg (by omega)] at D
    refine x_iconst (v := (-1)) rfl ki_m1 ?_
    refine x_iret rfl rfl ?_
    exact hQ _ _ J Sm (D.symm.trans (show (-1) = ((-1) : Int32).toInt from by have := jk_m1; omega)) EV
def fp_X2_readFactor_r95_c8d : jFp := [(68, 2, 3), (68, 3, 4), (68, 4, 5), (68, 5, 6), (95, 4, 5), (95, 5, 6), (97, 0, 1200)]
set_option maxRecDepth 100000 in
set_option maxHeartbeats 4000000 in
theorem ct_X2_readFactor_r95_c8d_111 {Dy : jH → Prop} {h0 : jH} {Q : Option Value → jH → Prop} {dr : (Int × jW)} (hD : jDk Dy) (hQ : ∀ (v : Int32) hx9, 0 ≤ v.toInt ∧ v.toInt ≤ 1 → jJ jSgX Dy hx9 → jSm fp_X2_readFactor_r95_c8d h0 hx9 → ∀ u0 u1 : Int32, jiv hx9 68 5 = u0 → jiv hx9 68 3 = u1 → (u0.toInt ≠ 3 ∨ u1.toInt ≤ 399) → dr.1 = v.toInt → dr.2 = vw hx9 → Q (some (.int v)) hx9) : ∀ (s0 : Int32) (g0 : Int32) (g1 : Int32) (h : jH), 0 ≤ s0.toInt ∧ s0.toInt ≤ 1 → 0 ≤ g0.toInt ∧ g0.toInt ≤ 400 → 0 ≤ g1.toInt ∧ g1.toInt ≤ 3 → (g1.toInt ≠ 3 ∨ g0.toInt ≤ 399) → jiv h 68 3 = g0 → jiv h 68 5 = g1 → jJ jSgX Dy h → jSm fp_X2_readFactor_r95_c8d h0 h → d_X2_readFactor_r95_c8d_111  s0.toInt (vw h) = dr → jX m_X2_readFactor 5 0 0 111 [] [.int s0] h 0 0 Q := by
  intro s0 g0 g1 h y0 y1 y2 y3 z0 z1  J Sm D
  unfold d_X2_readFactor_r95_c8d_111 at D
  try rw [vrf z0] at D
  try rw [vrf z1] at D
  refine x_zret rfl rfl (jz01 (by omega)) ?_
  exact hQ _ _ (jr_of rfl (by omega)) J Sm _ _ z1 z0 (by omega) ((congrArg Prod.fst D).symm.trans (show s0.toInt = s0.toInt from by omega)) (congrArg Prod.snd D).symm
set_option maxRecDepth 100000 in
set_option maxHeartbeats 4000000 in
theorem ct_X2_readFactor_r95_c8d_200111 {Dy : jH → Prop} {h0 : jH} {Q : Option Value → jH → Prop} {dr : (Int × jW)} (hD : jDk Dy) (hQ : ∀ (v : Int32) hx9, 0 ≤ v.toInt ∧ v.toInt ≤ 1 → jJ jSgX Dy hx9 → jSm fp_X2_readFactor_r95_c8d h0 hx9 → ∀ u0 u1 : Int32, jiv hx9 68 5 = u0 → jiv hx9 68 3 = u1 → (u0.toInt ≠ 3 ∨ u1.toInt ≤ 399) → dr.1 = v.toInt → dr.2 = vw hx9 → Q (some (.int v)) hx9) : ∀ (g0 : Int32) (g1 : Int32) (h : jH), 0 ≤ g0.toInt ∧ g0.toInt ≤ 400 → 0 ≤ g1.toInt ∧ g1.toInt ≤ 3 → (g1.toInt ≠ 3 ∨ g0.toInt ≤ 399) → jiv h 68 3 = g0 → jiv h 68 5 = g1 → jJ jSgX Dy h → jSm fp_X2_readFactor_r95_c8d h0 h → d_X2_readFactor_r95_c8d_200111  (vw h) = dr → jX m_X2_readFactor 5 0 0 111 [] [.int 0] h 0 0 Q := by
  intro g0 g1 h y0 y1 y2 z0 z1  J Sm D
  unfold d_X2_readFactor_r95_c8d_200111 at D
  try rw [vrf z0] at D
  try rw [vrf z1] at D
  refine x_zret rfl rfl (by decide) ?_
  exact hQ _ _ (jr_of jk_0 (by omega)) J Sm _ _ z1 z0 (by omega) ((congrArg Prod.fst D).symm.trans (show 0 = (0 : Int32).toInt from by have := jk_0; omega)) (congrArg Prod.snd D).symm
set_option maxRecDepth 100000 in
set_option maxHeartbeats 4000000 in
theorem sf_X2_readFactor_r95_c8d {Dy : jH → Prop} {h : jH} {Q : Option Value → jH → Prop} {dr : (Int × jW)} (hD : jDk Dy) (J : jJ jSgX Dy h) {p0 p1 : Int32} (zp0 : jiv h 68 5 = p0) (zp1 : jiv h 68 3 = p1) (rl_p0 : (p0.toInt ≠ 3 ∨ p1.toInt ≤ 399)) (D : d_X2_readFactor_r95_c8d (vw h) = dr) (hQ : ∀ (v : Int32) hx9, 0 ≤ v.toInt ∧ v.toInt ≤ 1 → jJ jSgX Dy hx9 → jSm fp_X2_readFactor_r95_c8d h hx9 → ∀ u0 u1 : Int32, jiv hx9 68 5 = u0 → jiv hx9 68 3 = u1 → (u0.toInt ≠ 3 ∨ u1.toInt ≤ 399) → dr.1 = v.toInt → dr.2 = vw hx9 → Q (some (.int v)) hx9) : jC m_X2_readFactor 5 0 0 [.ref 95, .int 8] h Q := by
  refine jC.of rfl k_X2_readFactor rfl ?_
  have Sm := jSm_rf fp_X2_readFactor_r95_c8d h
  have ep0 := (show 0 ≤ p0.toInt ∧ p0.toInt ≤ 3 from zp0 ▸ jrg_f J sg_68_5_6_1_0_1)
  have ep1 := (show 0 ≤ p1.toInt ∧ p1.toInt ≤ 400 from zp1 ▸ jrg_f J sg_68_3_4_1_0_1)
  show jX m_X2_readFactor 5 0 0 0 [(0, .ref 95), (1, .int 8)] [] _ 0 0 _
  unfold d_X2_readFactor_r95_c8d at D
  try rw [vrf zp0] at D
  try rw [vrf zp1] at D
  refine x_aloadn (x := 95) rfl rfl ?_
  refine z_getR (N := 6) (b := 68) 2 0 rfl f_2_30 rfl J rfl 12160 ⟨rfl, rfl⟩ rfl ?_
  refine x_bipush (v := 91) rfl kb_91 ?_
  refine x_inv (N := m_X9_isSign) (As := [.int 91]) (b := 68) (st := []) (dx9 := 1) (mc := 0) (ms := 0) (host := "") 9 rfl t_X9_isSign ⟨Or.inl q_2_55, i_X9_isSign.1, i_X9_isSign.2⟩ ⟨by decide, rfl⟩ (congrArg Prod.fst (J.1.1 68 (9, 6) rfl)) rfl (by decide) rfl rfl ⟨by decide, by decide⟩ (sf_X9_isSign_r68d (jr_of jk_91 (by omega)) hD J zp0 zp1 (by omega) rfl  (fun v6 h ev6 J S1 u2 u3 qu2 qu3 ru2 X4 X5 => ?_))
  have Sm := jSm_tr rfl Sm S1
  try rw [jk_91] at X4
  try rw [X4] at D
  try rw [← X5] at D
  have eu2 := (show 0 ≤ u2.toInt ∧ u2.toInt ≤ 3 from qu2 ▸ jrg_f J sg_68_5_6_1_0_1)
  have Luu2 := congrArg Int32.toInt (((jmc S1 rfl zp0)).symm.trans qu2)
  try rw [Luu2] at D
  try rw [vrf qu2] at D
  have eu3 := (show 0 ≤ u3.toInt ∧ u3.toInt ≤ 400 from qu3 ▸ jrg_f J sg_68_3_4_1_0_1)
  have Luu3 := congrArg Int32.toInt (((jmc S1 rfl zp1)).symm.trans qu3)
  try rw [Luu3] at D
  try rw [vrf qu3] at D
  show jX m_X2_readFactor 5 0 0 9 [(0, .ref 95), (1, .int 8)] [.int v6] _ 0 0 _
  refine x_ifeq (tgt := 58) rfl rfl (ti_eq rfl jk_0 ⟨fun c7 => ?_, fun c7 => ?_⟩)
  ·
    rw [if_pos (by omega)] at D
    refine x_aloadn (x := 95) rfl rfl ?_
    refine z_getR (N := 6) (b := 68) 2 0 rfl f_2_30 rfl J rfl 12160 ⟨rfl, rfl⟩ rfl ?_
    refine x_ldc (v := 100000) rfl z_2_147 ?_
    refine x_inv (N := m_X9_numberTo) (As := [.int 100000]) (b := 68) (st := []) (dx9 := 1) (mc := 0) (ms := 0) (host := "") 9 rfl t_X9_numberTo ⟨Or.inl q_2_117, i_X9_numberTo.1, i_X9_numberTo.2⟩ ⟨by decide, rfl⟩ (congrArg Prod.fst (J.1.1 68 (9, 6) rfl)) rfl (by decide) rfl rfl ⟨by decide, by decide⟩ (sf_X9_numberTo_r68d (jr_of jk_100000 (by omega)) hD J rfl  (fun v11 h ev11 J S8 X9 X10 => ?_))
    have Sm := jSm_tr rfl Sm S8
    try rw [jk_100000] at X9
    try rw [X9] at D
    try rw [← X10] at D
    show jX m_X2_readFactor 5 0 0 67 [(0, .ref 95), (1, .int 8)] [.int v11] _ 0 0 _
    refine x_istoren (lsx9 := [(2, .int v11), (0, .ref 95), (1, .int 8)]) rfl rfl rfl ?_
    refine x_iloadn (x := v11) rfl rfl ?_
    refine x_iconst (v := (-1)) rfl ki_m1 ?_
    refine x_iceq (tgt := 80) rfl rfl (ti_eq rfl jk_m1 ⟨fun c12 => ?_, fun c12 => ?_⟩)
    ·
      rw [if_pos (by omega)] at D
      refine x_aloadn (x := 95) rfl rfl ?_
      refine z_getR (N := 6) (b := 68) 2 0 rfl f_2_30 rfl J rfl 12160 ⟨rfl, rfl⟩ rfl ?_
      refine x_ldcS (jstr.getD 6 jstr_0) rfl (List.mem_of_getElem? (i := 6) rfl) rfl rfl ?_
      show jX m_X2_readFactor 5 0 0 86 [(2, .int v11), (0, .ref 95), (1, .int 8)] [.ref 11, .ref 68] _ 0 0 _
      refine x_inv (N := m_X9_wordOf) (As := [.ref 11]) (b := 68) (st := []) (dx9 := 4) (mc := 0) (ms := 0) (host := "") 9 rfl t_X9_wordOf ⟨Or.inl q_2_67, i_X9_wordOf.1, i_X9_wordOf.2⟩ ⟨by decide, rfl⟩ (congrArg Prod.fst (J.1.1 68 (9, 6) rfl)) rfl (by decide) rfl rfl ⟨by decide, by decide⟩ (sf_X9_wordOf_r68_r11d  hD J rfl  (fun v16 h J S13 X14 X15 => ?_))
      have ev16 := jfull v16
      have Sm := jSm_tr rfl Sm S13
      try rw [X14] at D
      try rw [← X15] at D
      show jX m_X2_readFactor 5 0 0 89 [(2, .int v11), (0, .ref 95), (1, .int 8)] [.int v16] _ 0 0 _
      refine x_istoren (lsx9 := [(3, .int v16), (2, .int v11), (0, .ref 95), (1, .int 8)]) rfl rfl rfl ?_
      refine x_iloadn (x := v16) rfl rfl ?_
      refine x_iconst (v := (-1)) rfl ki_m1 ?_
      refine x_icne (tgt := 105) rfl rfl (ti_ne rfl jk_m1 ⟨fun c17 => ?_, fun c17 => ?_⟩)
      ·
        rw [if_neg (by omega)] at D
        refine x_aloadn (x := 95) rfl rfl ?_
        refine x_iconst (v := 2) rfl ki_2 ?_
        refine x_iloadn (x := v16) rfl rfl ?_
        refine x_inv (N := m_X2_readPart) (As := [.int 2, .int v16]) (b := 95) (st := []) (dx9 := 3) (mc := 0) (ms := 0) (host := "") 2 rfl t_X2_readPart ⟨Or.inl q_2_141, i_X2_readPart.1, i_X2_readPart.2⟩ ⟨by decide, rfl⟩ (congrArg Prod.fst (J.1.1 95 (2, 6) rfl)) rfl (by decide) rfl rfl ⟨by decide, by decide⟩ (sf_X2_readPart_r95d (jr_of jk_2 (by omega)) hD J (jmc S13 rfl (jmc S8 rfl qu2)) (jmc S13 rfl (jmc S8 rfl qu3)) (by omega) rfl  (fun v23 h ev23 J S18 u19 u20 qu19 qu20 ru19 X21 X22 => ?_))
        have Sm := jSm_tr rfl Sm S18
        try rw [jk_2] at X21
        try rw [jk_2] at X22
        try rw [X21] at D
        try rw [X22] at D
        have eu19 := (show 0 ≤ u19.toInt ∧ u19.toInt ≤ 3 from qu19 ▸ jrg_f J sg_68_5_6_1_0_1)
        try rw [vrf qu19] at D
        have eu20 := (show 0 ≤ u20.toInt ∧ u20.toInt ≤ 400 from qu20 ▸ jrg_f J sg_68_3_4_1_0_1)
        try rw [vrf qu20] at D
        show jX m_X2_readFactor 5 0 0 111 [(3, .int v16), (2, .int v11), (0, .ref 95), (1, .int 8)] [.int v23] _ 0 0 _
        exact jX.sub jsb_n (ct_X2_readFactor_r95_c8d_111 hD hQ  v23 u20 u19 h (jr_of rfl (by omega)) (jr_of rfl (by omega)) (jr_of rfl (by omega)) (by omega) qu20 qu19 J Sm D)
      ·
        rw [if_pos (by omega)] at D
        refine x_aloadn (x := 95) rfl rfl ?_
        refine z_getR (N := 6) (b := 68) 2 0 rfl f_2_30 rfl J rfl 12160 ⟨rfl, rfl⟩ rfl ?_
        refine x_inv (N := m_X9_blame) (As := []) (b := 68) (st := []) (dx9 := 4) (mc := 0) (ms := 0) (host := "") 9 rfl t_X9_blame ⟨Or.inl q_2_59, i_X9_blame.1, i_X9_blame.2⟩ ⟨by decide, rfl⟩ (congrArg Prod.fst (J.1.1 68 (9, 6) rfl)) rfl (by decide) rfl rfl ⟨by decide, by decide⟩ (jC.of rfl k_X9_blame rfl ?_)
        show jX m_X9_blame 4 0 0 0 [(0, .ref 68)] [] _ 0 0 _
        refine x_aloadn (x := 68) rfl rfl ?_
        refine x_aloadn (x := 68) rfl rfl ?_
        refine z_getM (N := 6) (v := u3) 9 3 rfl f_9_22 rfl J rfl (jmc S13 rfl (jmc S8 rfl qu3)) ?_
        refine z_putI (N := 6) (w := u3.toInt) 9 2 rfl f_9_19 rfl (jfin_no TX9 RX9 6 rfl rfl) hD J Sm rfl rfl rfl (pw_68_2 (by omega)) rfl (fun h w24 J Sm => ?_)
        rw [vwf w24 (show u3.toInt = u3.toInt from by omega)] at D
        refine x_iconst (v := 0) rfl ki_0 ?_
        refine x_zret rfl rfl (by decide) ?_
        show jX m_X2_readFactor 5 0 0 102 [(3, .int v16), (2, .int v11), (0, .ref 95), (1, .int 8)] [.int 0] _ 0 0 _
        refine x_goto (tgt := 111) rfl rfl ?_
        exact jX.sub jsb_n (ct_X2_readFactor_r95_c8d_200111 hD hQ  u3 u2 h (jr_of rfl (by omega)) (jr_of rfl (by omega)) (by omega) (jmo w24 rfl (jmc S13 rfl (jmc S8 rfl qu3))) (jmo w24 rfl (jmc S13 rfl (jmc S8 rfl qu2))) J Sm D)
    ·
      rw [if_neg (by omega)] at D
      refine x_aloadn (x := 95) rfl rfl ?_
      refine x_iconst (v := 1) rfl ki_1 ?_
      refine x_iloadn (x := v11) rfl rfl ?_
      refine x_inv (N := m_X2_readPart) (As := [.int 1, .int v11]) (b := 95) (st := []) (dx9 := 3) (mc := 0) (ms := 0) (host := "") 2 rfl t_X2_readPart ⟨Or.inl q_2_141, i_X2_readPart.1, i_X2_readPart.2⟩ ⟨by decide, rfl⟩ (congrArg Prod.fst (J.1.1 95 (2, 6) rfl)) rfl (by decide) rfl rfl ⟨by decide, by decide⟩ (sf_X2_readPart_r95d (jr_of jk_1 (by omega)) hD J (jmc S8 rfl qu2) (jmc S8 rfl qu3) (by omega) rfl  (fun v30 h ev30 J S25 u26 u27 qu26 qu27 ru26 X28 X29 => ?_))
      have Sm := jSm_tr rfl Sm S25
      try rw [jk_1] at X28
      try rw [jk_1] at X29
      try rw [X28] at D
      try rw [X29] at D
      have eu26 := (show 0 ≤ u26.toInt ∧ u26.toInt ≤ 3 from qu26 ▸ jrg_f J sg_68_5_6_1_0_1)
      try rw [vrf qu26] at D
      have eu27 := (show 0 ≤ u27.toInt ∧ u27.toInt ≤ 400 from qu27 ▸ jrg_f J sg_68_3_4_1_0_1)
      try rw [vrf qu27] at D
      show jX m_X2_readFactor 5 0 0 79 [(2, .int v11), (0, .ref 95), (1, .int 8)] [.int v30] _ 0 0 _
      refine x_zret rfl rfl (jz01 (by omega)) ?_
      exact hQ _ _ (jr_of rfl (by omega)) J Sm _ _ qu26 qu27 (by omega) ((congrArg Prod.fst D).symm.trans X28) ((congrArg Prod.snd D).symm.trans X29)
  ·
    rw [if_neg (by omega)] at D
    refine x_iloadn (x := 8) rfl rfl ?_
    refine x_bipush (v := 8) rfl kb_8 ?_
    refine x_iclt (tgt := 26) rfl rfl (ti_lt jk_8 jk_8 (br_f (by omega) ?_))
    refine x_aloadn (x := 95) rfl rfl ?_
    refine z_getR (N := 6) (b := 68) 2 0 rfl f_2_30 rfl J rfl 12160 ⟨rfl, rfl⟩ rfl ?_
    refine x_inv (N := m_X9_blame) (As := []) (b := 68) (st := []) (dx9 := 4) (mc := 0) (ms := 0) (host := "") 9 rfl t_X9_blame ⟨Or.inl q_2_59, i_X9_blame.1, i_X9_blame.2⟩ ⟨by decide, rfl⟩ (congrArg Prod.fst (J.1.1 68 (9, 6) rfl)) rfl (by decide) rfl rfl ⟨by decide, by decide⟩ (jC.of rfl k_X9_blame rfl ?_)
    show jX m_X9_blame 4 0 0 0 [(0, .ref 68)] [] _ 0 0 _
    refine x_aloadn (x := 68) rfl rfl ?_
    refine x_aloadn (x := 68) rfl rfl ?_
    refine z_getM (N := 6) (v := u3) 9 3 rfl f_9_22 rfl J rfl qu3 ?_
    refine z_putI (N := 6) (w := u3.toInt) 9 2 rfl f_9_19 rfl (jfin_no TX9 RX9 6 rfl rfl) hD J Sm rfl rfl rfl (pw_68_2 (by omega)) rfl (fun h w31 J Sm => ?_)
    rw [vwf w31 (show u3.toInt = u3.toInt from by omega)] at D
    refine x_iconst (v := 0) rfl ki_0 ?_
    refine x_zret rfl rfl (by decide) ?_
    show jX m_X2_readFactor 5 0 0 25 [(0, .ref 95), (1, .int 8)] [.int 0] _ 0 0 _
    refine x_zret rfl rfl (by decide) ?_
    exact hQ _ _ (jr_of jk_0 (by omega)) J Sm _ _ (jmo w31 rfl qu2) (jmo w31 rfl qu3) (by omega) ((congrArg Prod.fst D).symm.trans (show 0 = (0 : Int32).toInt from by have := jk_0; omega)) (congrArg Prod.snd D).symm
def fp_X2_readSum_r95_c8d : jFp := [(68, 2, 3), (68, 3, 4), (68, 4, 5), (68, 5, 6), (95, 4, 5), (95, 5, 6), (97, 0, 1200)]
set_option maxRecDepth 100000 in
set_option maxHeartbeats 4000000 in
theorem ct_X2_readSum_r95_c8d_100148 {Dy : jH → Prop} {h0 : jH} {Q : Option Value → jH → Prop} {dr : (Int × jW)} {K4 : Int → Int → jW → (Int × jW)} {R4 : Int} (hD : jDk Dy) (hQ : ∀ (v : Int32) hx9, 0 ≤ v.toInt ∧ v.toInt ≤ 1 → jJ jSgX Dy hx9 → jSm fp_X2_readSum_r95_c8d h0 hx9 → ∀ u0 u1 : Int32, jiv hx9 68 5 = u0 → jiv hx9 68 3 = u1 → (u0.toInt ≠ 3 ∨ u1.toInt ≤ 399) → dr.1 = v.toInt → dr.2 = vw hx9 → Q (some (.int v)) hx9) (k4 : ∀ (l2 : Int32) (l3 : Int32) (g0 : Int32) (g1 : Int32) (h : jH), 400 - l3.toInt < R4 → (-1) ≤ l2.toInt ∧ l2.toInt ≤ 4 → 0 ≤ l3.toInt ∧ l3.toInt ≤ 400 → 0 ≤ g0.toInt ∧ g0.toInt ≤ 400 → 0 ≤ g1.toInt ∧ g1.toInt ≤ 3 → (g1.toInt ≠ 3 ∨ g0.toInt ≤ 399) → jiv h 68 3 = g0 → jiv h 68 5 = g1 → jJ jSgX Dy h → jSm fp_X2_readSum_r95_c8d h0 h → K4 l2.toInt l3.toInt (vw h) = dr → jX m_X2_readSum 6 0 0 4 [(0, .ref 95), (1, .int 8), (2, .int l2), (3, .int l3)] [] h 0 0 Q) : ∀ (l3 : Int32) (g0 : Int32) (g1 : Int32) (h : jH), 0 ≤ l3.toInt ∧ l3.toInt ≤ 399 → 0 ≤ g0.toInt ∧ g0.toInt ≤ 400 → 0 ≤ g1.toInt ∧ g1.toInt ≤ 3 → (g1.toInt ≠ 3 ∨ g0.toInt ≤ 399) → jiv h 68 3 = g0 → jiv h 68 5 = g1 → 400 - l3.toInt ≤ R4 → jJ jSgX Dy h → jSm fp_X2_readSum_r95_c8d h0 h → d_X2_readSum_r95_c8d_100148 K4  l3.toInt (vw h) = dr → jX m_X2_readSum 6 0 0 148 [(0, .ref 95), (1, .int 8), (3, .int l3)] [.int (-1)] h 0 0 Q := by
  intro l3 g0 g1 h y0 y1 y2 y3 z0 z1 m4 J Sm D
  unfold d_X2_readSum_r95_c8d_100148 at D
  try rw [vrf z0] at D
  try rw [vrf z1] at D
  refine x_istoren (lsx9 := [(2, .int (-1)), (0, .ref 95), (1, .int 8), (3, .int l3)]) rfl rfl rfl ?_
  refine x_iloadn (x := (-1)) rfl rfl ?_
  refine x_iconst (v := (-1)) rfl ki_m1 ?_
  refine x_icne (tgt := 156) rfl rfl (ti_ne jk_m1 jk_m1 (bn_f (by omega) ?_))
  refine x_iconst (v := 1) rfl ki_1 ?_
  refine x_zret rfl rfl (by decide) ?_
  exact hQ _ _ (jr_of jk_1 (by omega)) J Sm _ _ z1 z0 (by omega) ((congrArg Prod.fst D).symm.trans (show 1 = (1 : Int32).toInt from by have := jk_1; omega)) (congrArg Prod.snd D).symm
set_option maxRecDepth 100000 in
set_option maxHeartbeats 4000000 in
theorem ct_X2_readSum_r95_c8d_600148 {Dy : jH → Prop} {h0 : jH} {Q : Option Value → jH → Prop} {dr : (Int × jW)} {K4 : Int → Int → jW → (Int × jW)} {R4 : Int} (hD : jDk Dy) (hQ : ∀ (v : Int32) hx9, 0 ≤ v.toInt ∧ v.toInt ≤ 1 → jJ jSgX Dy hx9 → jSm fp_X2_readSum_r95_c8d h0 hx9 → ∀ u0 u1 : Int32, jiv hx9 68 5 = u0 → jiv hx9 68 3 = u1 → (u0.toInt ≠ 3 ∨ u1.toInt ≤ 399) → dr.1 = v.toInt → dr.2 = vw hx9 → Q (some (.int v)) hx9) (k4 : ∀ (l2 : Int32) (l3 : Int32) (g0 : Int32) (g1 : Int32) (h : jH), 400 - l3.toInt < R4 → (-1) ≤ l2.toInt ∧ l2.toInt ≤ 4 → 0 ≤ l3.toInt ∧ l3.toInt ≤ 400 → 0 ≤ g0.toInt ∧ g0.toInt ≤ 400 → 0 ≤ g1.toInt ∧ g1.toInt ≤ 3 → (g1.toInt ≠ 3 ∨ g0.toInt ≤ 399) → jiv h 68 3 = g0 → jiv h 68 5 = g1 → jJ jSgX Dy h → jSm fp_X2_readSum_r95_c8d h0 h → K4 l2.toInt l3.toInt (vw h) = dr → jX m_X2_readSum 6 0 0 4 [(0, .ref 95), (1, .int 8), (2, .int l2), (3, .int l3)] [] h 0 0 Q) : ∀ (l3 : Int32) (g0 : Int32) (g1 : Int32) (h : jH), 0 ≤ l3.toInt ∧ l3.toInt ≤ 399 → 0 ≤ g0.toInt ∧ g0.toInt ≤ 400 → 0 ≤ g1.toInt ∧ g1.toInt ≤ 3 → (g1.toInt ≠ 3 ∨ g0.toInt ≤ 399) → jiv h 68 3 = g0 → jiv h 68 5 = g1 → 400 - l3.toInt ≤ R4 → jJ jSgX Dy h → jSm fp_X2_readSum_r95_c8d h0 h → d_X2_readSum_r95_c8d_600148 K4  l3.toInt (vw h) = dr → jX m_X2_readSum 6 0 0 148 [(0, .ref 95), (1, .int 8), (3, .int l3)] [.int 4] h 0 0 Q := by
  intro l3 g0 g1 h y0 y1 y2 y3 z0 z1 m4 J Sm D
  unfold d_X2_readSum_r95_c8d_600148 at D
  try rw [vrf z0] at D
  try rw [vrf z1] at D
  refine x_istoren (lsx9 := [(2, .int 4), (0, .ref 95), (1, .int 8), (3, .int l3)]) rfl rfl rfl ?_
  refine x_iloadn (x := 4) rfl rfl ?_
  refine x_iconst (v := (-1)) rfl ki_m1 ?_
  refine x_icne (tgt := 156) rfl rfl (ti_ne jk_4 jk_m1 (bn_t (by omega) ?_))
  refine x_aloadn (x := 95) rfl rfl ?_
  refine z_getR (N := 6) (b := 68) 2 0 rfl f_2_30 rfl J rfl 12160 ⟨rfl, rfl⟩ rfl ?_
  refine x_inv (N := m_X9_step) (As := []) (b := 68) (st := []) (dx9 := 2) (mc := 0) (ms := 0) (host := "") 9 rfl t_X9_step ⟨Or.inl q_2_62, i_X9_step.1, i_X9_step.2⟩ ⟨by decide, rfl⟩ (congrArg Prod.fst (J.1.1 68 (9, 6) rfl)) rfl (by decide) rfl rfl ⟨by decide, by decide⟩ (sf_X9_step_r68d  hD J z1 z0 (by omega) rfl  (fun h J S1 u2 u3 qu2 qu3 ru2 X4 => ?_))
  have Sm := jSm_tr rfl Sm S1
  rw [X4] at D
  have eu2 := (show 0 ≤ u2.toInt ∧ u2.toInt ≤ 3 from qu2 ▸ jrg_f J sg_68_5_6_1_0_1)
  try rw [vrf qu2] at D
  have eu3 := (show 0 ≤ u3.toInt ∧ u3.toInt ≤ 400 from qu3 ▸ jrg_f J sg_68_3_4_1_0_1)
  try rw [vrf qu3] at D
  show jX m_X2_readSum 6 0 0 163 [(2, .int 4), (0, .ref 95), (1, .int 8), (3, .int l3)] [] _ 0 0 _
  refine z_iinc (x := l3) (lsx9 := fun v5 => [(3, .int v5), (2, .int 4), (0, .ref 95), (1, .int 8)]) rfl rfl rfl jko_1 (by omega) rfl (fun _ => rfl) (fun v5 ev5 => ?_)
  refine x_goto (tgt := 4) rfl rfl ?_
  try rw [show (l3.toInt + 1) = v5.toInt from by omega] at D
  exact jX.sub (jsb_c rfl (jsb_c rfl (jsb_c rfl (jsb_c rfl jsb_n)))) (k4 4 v5 u3 u2 h (by omega) (jr_of jk_4 (by omega)) (jr_of rfl (by omega)) (jr_of rfl (by omega)) (jr_of rfl (by omega)) (by omega) qu3 qu2 J Sm (by rw [jk_4]; exact D))
set_option maxRecDepth 100000 in
set_option maxHeartbeats 4000000 in
theorem ct_X2_readSum_r95_c8d_500148 {Dy : jH → Prop} {h0 : jH} {Q : Option Value → jH → Prop} {dr : (Int × jW)} {K4 : Int → Int → jW → (Int × jW)} {R4 : Int} (hD : jDk Dy) (hQ : ∀ (v : Int32) hx9, 0 ≤ v.toInt ∧ v.toInt ≤ 1 → jJ jSgX Dy hx9 → jSm fp_X2_readSum_r95_c8d h0 hx9 → ∀ u0 u1 : Int32, jiv hx9 68 5 = u0 → jiv hx9 68 3 = u1 → (u0.toInt ≠ 3 ∨ u1.toInt ≤ 399) → dr.1 = v.toInt → dr.2 = vw hx9 → Q (some (.int v)) hx9) (k4 : ∀ (l2 : Int32) (l3 : Int32) (g0 : Int32) (g1 : Int32) (h : jH), 400 - l3.toInt < R4 → (-1) ≤ l2.toInt ∧ l2.toInt ≤ 4 → 0 ≤ l3.toInt ∧ l3.toInt ≤ 400 → 0 ≤ g0.toInt ∧ g0.toInt ≤ 400 → 0 ≤ g1.toInt ∧ g1.toInt ≤ 3 → (g1.toInt ≠ 3 ∨ g0.toInt ≤ 399) → jiv h 68 3 = g0 → jiv h 68 5 = g1 → jJ jSgX Dy h → jSm fp_X2_readSum_r95_c8d h0 h → K4 l2.toInt l3.toInt (vw h) = dr → jX m_X2_readSum 6 0 0 4 [(0, .ref 95), (1, .int 8), (2, .int l2), (3, .int l3)] [] h 0 0 Q) : ∀ (l3 : Int32) (g0 : Int32) (g1 : Int32) (h : jH), 0 ≤ l3.toInt ∧ l3.toInt ≤ 399 → 0 ≤ g0.toInt ∧ g0.toInt ≤ 400 → 0 ≤ g1.toInt ∧ g1.toInt ≤ 3 → (g1.toInt ≠ 3 ∨ g0.toInt ≤ 399) → jiv h 68 3 = g0 → jiv h 68 5 = g1 → 400 - l3.toInt ≤ R4 → jJ jSgX Dy h → jSm fp_X2_readSum_r95_c8d h0 h → d_X2_readSum_r95_c8d_500148 K4  l3.toInt (vw h) = dr → jX m_X2_readSum 6 0 0 148 [(0, .ref 95), (1, .int 8), (3, .int l3)] [.int 3] h 0 0 Q := by
  intro l3 g0 g1 h y0 y1 y2 y3 z0 z1 m4 J Sm D
  unfold d_X2_readSum_r95_c8d_500148 at D
  try rw [vrf z0] at D
  try rw [vrf z1] at D
  refine x_istoren (lsx9 := [(2, .int 3), (0, .ref 95), (1, .int 8), (3, .int l3)]) rfl rfl rfl ?_
  refine x_iloadn (x := 3) rfl rfl ?_
  refine x_iconst (v := (-1)) rfl ki_m1 ?_
  refine x_icne (tgt := 156) rfl rfl (ti_ne jk_3 jk_m1 (bn_t (by omega) ?_))
  refine x_aloadn (x := 95) rfl rfl ?_
  refine z_getR (N := 6) (b := 68) 2 0 rfl f_2_30 rfl J rfl 12160 ⟨rfl, rfl⟩ rfl ?_
  refine x_inv (N := m_X9_step) (As := []) (b := 68) (st := []) (dx9 := 2) (mc := 0) (ms := 0) (host := "") 9 rfl t_X9_step ⟨Or.inl q_2_62, i_X9_step.1, i_X9_step.2⟩ ⟨by decide, rfl⟩ (congrArg Prod.fst (J.1.1 68 (9, 6) rfl)) rfl (by decide) rfl rfl ⟨by decide, by decide⟩ (sf_X9_step_r68d  hD J z1 z0 (by omega) rfl  (fun h J S1 u2 u3 qu2 qu3 ru2 X4 => ?_))
  have Sm := jSm_tr rfl Sm S1
  rw [X4] at D
  have eu2 := (show 0 ≤ u2.toInt ∧ u2.toInt ≤ 3 from qu2 ▸ jrg_f J sg_68_5_6_1_0_1)
  try rw [vrf qu2] at D
  have eu3 := (show 0 ≤ u3.toInt ∧ u3.toInt ≤ 400 from qu3 ▸ jrg_f J sg_68_3_4_1_0_1)
  try rw [vrf qu3] at D
  show jX m_X2_readSum 6 0 0 163 [(2, .int 3), (0, .ref 95), (1, .int 8), (3, .int l3)] [] _ 0 0 _
  refine z_iinc (x := l3) (lsx9 := fun v5 => [(3, .int v5), (2, .int 3), (0, .ref 95), (1, .int 8)]) rfl rfl rfl jko_1 (by omega) rfl (fun _ => rfl) (fun v5 ev5 => ?_)
  refine x_goto (tgt := 4) rfl rfl ?_
  try rw [show (l3.toInt + 1) = v5.toInt from by omega] at D
  exact jX.sub (jsb_c rfl (jsb_c rfl (jsb_c rfl (jsb_c rfl jsb_n)))) (k4 3 v5 u3 u2 h (by omega) (jr_of jk_3 (by omega)) (jr_of rfl (by omega)) (jr_of rfl (by omega)) (jr_of rfl (by omega)) (by omega) qu3 qu2 J Sm (by rw [jk_3]; exact D))
set_option maxRecDepth 100000 in
set_option maxHeartbeats 4000000 in
theorem ct_X2_readSum_r95_c8d_115 {Dy : jH → Prop} {h0 : jH} {Q : Option Value → jH → Prop} {dr : (Int × jW)} {K4 : Int → Int → jW → (Int × jW)} {R4 : Int} (hD : jDk Dy) (hQ : ∀ (v : Int32) hx9, 0 ≤ v.toInt ∧ v.toInt ≤ 1 → jJ jSgX Dy hx9 → jSm fp_X2_readSum_r95_c8d h0 hx9 → ∀ u0 u1 : Int32, jiv hx9 68 5 = u0 → jiv hx9 68 3 = u1 → (u0.toInt ≠ 3 ∨ u1.toInt ≤ 399) → dr.1 = v.toInt → dr.2 = vw hx9 → Q (some (.int v)) hx9) (k4 : ∀ (l2 : Int32) (l3 : Int32) (g0 : Int32) (g1 : Int32) (h : jH), 400 - l3.toInt < R4 → (-1) ≤ l2.toInt ∧ l2.toInt ≤ 4 → 0 ≤ l3.toInt ∧ l3.toInt ≤ 400 → 0 ≤ g0.toInt ∧ g0.toInt ≤ 400 → 0 ≤ g1.toInt ∧ g1.toInt ≤ 3 → (g1.toInt ≠ 3 ∨ g0.toInt ≤ 399) → jiv h 68 3 = g0 → jiv h 68 5 = g1 → jJ jSgX Dy h → jSm fp_X2_readSum_r95_c8d h0 h → K4 l2.toInt l3.toInt (vw h) = dr → jX m_X2_readSum 6 0 0 4 [(0, .ref 95), (1, .int 8), (2, .int l2), (3, .int l3)] [] h 0 0 Q) : ∀ (l3 : Int32) (g0 : Int32) (g1 : Int32) (h : jH), 0 ≤ l3.toInt ∧ l3.toInt ≤ 399 → 0 ≤ g0.toInt ∧ g0.toInt ≤ 400 → 0 ≤ g1.toInt ∧ g1.toInt ≤ 3 → (g1.toInt ≠ 3 ∨ g0.toInt ≤ 399) → jiv h 68 3 = g0 → jiv h 68 5 = g1 → 400 - l3.toInt ≤ R4 → jJ jSgX Dy h → jSm fp_X2_readSum_r95_c8d h0 h → d_X2_readSum_r95_c8d_115 K4  l3.toInt (vw h) = dr → jX m_X2_readSum 6 0 0 115 [(0, .ref 95), (1, .int 8), (3, .int l3)] [] h 0 0 Q := by
  intro l3 g0 g1 h y0 y1 y2 y3 z0 z1 m4 J Sm D
  unfold d_X2_readSum_r95_c8d_115 at D
  try rw [vrf z0] at D
  try rw [vrf z1] at D
  refine x_aloadn (x := 95) rfl rfl ?_
  refine z_getR (N := 6) (b := 68) 2 0 rfl f_2_30 rfl J rfl 12160 ⟨rfl, rfl⟩ rfl ?_
  refine x_bipush (v := 43) rfl kb_43 ?_
  refine x_inv (N := m_X9_isSign) (As := [.int 43]) (b := 68) (st := []) (dx9 := 1) (mc := 0) (ms := 0) (host := "") 9 rfl t_X9_isSign ⟨Or.inl q_2_55, i_X9_isSign.1, i_X9_isSign.2⟩ ⟨by decide, rfl⟩ (congrArg Prod.fst (J.1.1 68 (9, 6) rfl)) rfl (by decide) rfl rfl ⟨by decide, by decide⟩ (sf_X9_isSign_r68d (jr_of jk_43 (by omega)) hD J z1 z0 (by omega) rfl  (fun v6 h ev6 J S1 u2 u3 qu2 qu3 ru2 X4 X5 => ?_))
  have Sm := jSm_tr rfl Sm S1
  try rw [jk_43] at X4
  try rw [X4] at D
  try rw [← X5] at D
  have eu2 := (show 0 ≤ u2.toInt ∧ u2.toInt ≤ 3 from qu2 ▸ jrg_f J sg_68_5_6_1_0_1)
  have Luu2 := congrArg Int32.toInt (((jmc S1 rfl z1)).symm.trans qu2)
  try rw [Luu2] at D
  try rw [vrf qu2] at D
  have eu3 := (show 0 ≤ u3.toInt ∧ u3.toInt ≤ 400 from qu3 ▸ jrg_f J sg_68_3_4_1_0_1)
  have Luu3 := congrArg Int32.toInt (((jmc S1 rfl z0)).symm.trans qu3)
  try rw [Luu3] at D
  try rw [vrf qu3] at D
  show jX m_X2_readSum 6 0 0 124 [(0, .ref 95), (1, .int 8), (3, .int l3)] [.int v6] _ 0 0 _
  refine x_ifeq (tgt := 131) rfl rfl (ti_eq rfl jk_0 ⟨fun c7 => ?_, fun c7 => ?_⟩)
  ·
    rw [if_pos (by omega)] at D
    refine x_aloadn (x := 95) rfl rfl ?_
    refine z_getR (N := 6) (b := 68) 2 0 rfl f_2_30 rfl J rfl 12160 ⟨rfl, rfl⟩ rfl ?_
    refine x_bipush (v := 45) rfl kb_45 ?_
    refine x_inv (N := m_X9_isSign) (As := [.int 45]) (b := 68) (st := []) (dx9 := 1) (mc := 0) (ms := 0) (host := "") 9 rfl t_X9_isSign ⟨Or.inl q_2_55, i_X9_isSign.1, i_X9_isSign.2⟩ ⟨by decide, rfl⟩ (congrArg Prod.fst (J.1.1 68 (9, 6) rfl)) rfl (by decide) rfl rfl ⟨by decide, by decide⟩ (sf_X9_isSign_r68d (jr_of jk_45 (by omega)) hD J qu2 qu3 (by omega) rfl  (fun v13 h ev13 J S8 u9 u10 qu9 qu10 ru9 X11 X12 => ?_))
    have Sm := jSm_tr rfl Sm S8
    try rw [jk_45] at X11
    try rw [X11] at D
    try rw [← X12] at D
    have eu9 := (show 0 ≤ u9.toInt ∧ u9.toInt ≤ 3 from qu9 ▸ jrg_f J sg_68_5_6_1_0_1)
    have Luu9 := congrArg Int32.toInt (((jmc S8 rfl qu2)).symm.trans qu9)
    try rw [Luu9] at D
    try rw [vrf qu9] at D
    have eu10 := (show 0 ≤ u10.toInt ∧ u10.toInt ≤ 400 from qu10 ▸ jrg_f J sg_68_3_4_1_0_1)
    have Luu10 := congrArg Int32.toInt (((jmc S8 rfl qu3)).symm.trans qu10)
    try rw [Luu10] at D
    try rw [vrf qu10] at D
    show jX m_X2_readSum 6 0 0 140 [(0, .ref 95), (1, .int 8), (3, .int l3)] [.int v13] _ 0 0 _
    refine x_ifeq (tgt := 147) rfl rfl (ti_eq rfl jk_0 ⟨fun c14 => ?_, fun c14 => ?_⟩)
    ·
      rw [if_pos (by omega)] at D
      refine x_iconst (v := (-1)) rfl ki_m1 ?_
      exact jX.sub (jsb_c rfl (jsb_c rfl (jsb_c rfl jsb_n))) (ct_X2_readSum_r95_c8d_100148 hD hQ k4 l3 u10 u9 h (jr_of rfl (by omega)) (jr_of rfl (by omega)) (jr_of rfl (by omega)) (by omega) qu10 qu9 (by omega) J Sm D)
    ·
      rw [if_neg (by omega)] at D
      refine x_iconst (v := 4) rfl ki_4 ?_
      refine x_goto (tgt := 148) rfl rfl ?_
      exact jX.sub (jsb_c rfl (jsb_c rfl (jsb_c rfl jsb_n))) (ct_X2_readSum_r95_c8d_600148 hD hQ k4 l3 u10 u9 h (jr_of rfl (by omega)) (jr_of rfl (by omega)) (jr_of rfl (by omega)) (by omega) qu10 qu9 (by omega) J Sm D)
  ·
    rw [if_neg (by omega)] at D
    refine x_iconst (v := 3) rfl ki_3 ?_
    refine x_goto (tgt := 148) rfl rfl ?_
    exact jX.sub (jsb_c rfl (jsb_c rfl (jsb_c rfl jsb_n))) (ct_X2_readSum_r95_c8d_500148 hD hQ k4 l3 u3 u2 h (jr_of rfl (by omega)) (jr_of rfl (by omega)) (jr_of rfl (by omega)) (by omega) qu3 qu2 (by omega) J Sm D)
set_option maxRecDepth 100000 in
set_option maxHeartbeats 4000000 in
theorem ct_X2_readSum_r95_c8d_105 {Dy : jH → Prop} {h0 : jH} {Q : Option Value → jH → Prop} {dr : (Int × jW)} {K4 : Int → Int → jW → (Int × jW)} {R4 : Int} (hD : jDk Dy) (hQ : ∀ (v : Int32) hx9, 0 ≤ v.toInt ∧ v.toInt ≤ 1 → jJ jSgX Dy hx9 → jSm fp_X2_readSum_r95_c8d h0 hx9 → ∀ u0 u1 : Int32, jiv hx9 68 5 = u0 → jiv hx9 68 3 = u1 → (u0.toInt ≠ 3 ∨ u1.toInt ≤ 399) → dr.1 = v.toInt → dr.2 = vw hx9 → Q (some (.int v)) hx9) (k4 : ∀ (l2 : Int32) (l3 : Int32) (g0 : Int32) (g1 : Int32) (h : jH), 400 - l3.toInt < R4 → (-1) ≤ l2.toInt ∧ l2.toInt ≤ 4 → 0 ≤ l3.toInt ∧ l3.toInt ≤ 400 → 0 ≤ g0.toInt ∧ g0.toInt ≤ 400 → 0 ≤ g1.toInt ∧ g1.toInt ≤ 3 → (g1.toInt ≠ 3 ∨ g0.toInt ≤ 399) → jiv h 68 3 = g0 → jiv h 68 5 = g1 → jJ jSgX Dy h → jSm fp_X2_readSum_r95_c8d h0 h → K4 l2.toInt l3.toInt (vw h) = dr → jX m_X2_readSum 6 0 0 4 [(0, .ref 95), (1, .int 8), (2, .int l2), (3, .int l3)] [] h 0 0 Q) : ∀ (l2 : Int32) (l3 : Int32) (g0 : Int32) (g1 : Int32) (h : jH), (-1) ≤ l2.toInt ∧ l2.toInt ≤ 4 → 0 ≤ l3.toInt ∧ l3.toInt ≤ 399 → 0 ≤ g0.toInt ∧ g0.toInt ≤ 400 → 0 ≤ g1.toInt ∧ g1.toInt ≤ 3 → (g1.toInt ≠ 3 ∨ g0.toInt ≤ 399) → jiv h 68 3 = g0 → jiv h 68 5 = g1 → 400 - l3.toInt ≤ R4 → jJ jSgX Dy h → jSm fp_X2_readSum_r95_c8d h0 h → d_X2_readSum_r95_c8d_105 K4  l2.toInt l3.toInt (vw h) = dr → jX m_X2_readSum 6 0 0 105 [(0, .ref 95), (1, .int 8), (2, .int l2), (3, .int l3)] [] h 0 0 Q := by
  intro l2 l3 g0 g1 h y0 y1 y2 y3 y4 z0 z1 m4 J Sm D
  unfold d_X2_readSum_r95_c8d_105 at D
  try rw [vrf z0] at D
  try rw [vrf z1] at D
  refine x_iloadn (x := l2) rfl rfl ?_
  refine x_iconst (v := (-1)) rfl ki_m1 ?_
  refine x_iceq (tgt := 115) rfl rfl (ti_eq rfl jk_m1 ⟨fun c1 => ?_, fun c1 => ?_⟩)
  ·
    rw [if_pos (by omega)] at D
    exact jX.sub (jsb_c rfl (jsb_c rfl (jsb_c rfl jsb_n))) (ct_X2_readSum_r95_c8d_115 hD hQ k4 l3 g0 g1 h (jr_of rfl (by omega)) (jr_of rfl (by omega)) (jr_of rfl (by omega)) (by omega) z0 z1 (by omega) J Sm D)
  ·
    rw [if_neg (by omega)] at D
    refine x_aloadn (x := 95) rfl rfl ?_
    refine x_iloadn (x := l2) rfl rfl ?_
    refine x_inv (N := m_X2_emit) (As := [.int l2]) (b := 95) (st := []) (dx9 := 1) (mc := 0) (ms := 0) (host := "") 2 rfl t_X2_emit ⟨Or.inl q_2_89, i_X2_emit.1, i_X2_emit.2⟩ ⟨by decide, rfl⟩ (congrArg Prod.fst (J.1.1 95 (2, 6) rfl)) rfl (by decide) rfl rfl ⟨by decide, by decide⟩ (sf_X2_emit_r95d  hD J rfl  (fun h J S2 X3 => ?_))
    have Sm := jSm_tr rfl Sm S2
    rw [X3] at D
    show jX m_X2_readSum 6 0 0 115 [(0, .ref 95), (1, .int 8), (2, .int l2), (3, .int l3)] [] _ 0 0 _
    exact jX.sub (jsb_c rfl (jsb_c rfl (jsb_c rfl jsb_n))) (ct_X2_readSum_r95_c8d_115 hD hQ k4 l3 g0 g1 h (jr_of rfl (by omega)) (jr_of rfl (by omega)) (jr_of rfl (by omega)) (by omega) (jmc S2 rfl z0) (jmc S2 rfl z1) (by omega) J Sm D)
set_option maxRecDepth 100000 in
set_option maxHeartbeats 4000000 in
theorem ct_X2_readSum_r95_c8d_100081 {Dy : jH → Prop} {h0 : jH} {Q : Option Value → jH → Prop} {dr : (Int × jW)} {K4 : Int → Int → jW → (Int × jW)} {K17 : Int → Int → Int → Int → jW → (Int × jW)} {R4 : Int} {R17 : Int} (hD : jDk Dy) (hQ : ∀ (v : Int32) hx9, 0 ≤ v.toInt ∧ v.toInt ≤ 1 → jJ jSgX Dy hx9 → jSm fp_X2_readSum_r95_c8d h0 hx9 → ∀ u0 u1 : Int32, jiv hx9 68 5 = u0 → jiv hx9 68 3 = u1 → (u0.toInt ≠ 3 ∨ u1.toInt ≤ 399) → dr.1 = v.toInt → dr.2 = vw hx9 → Q (some (.int v)) hx9) (k4 : ∀ (l2 : Int32) (l3 : Int32) (g0 : Int32) (g1 : Int32) (h : jH), 400 - l3.toInt < R4 → (-1) ≤ l2.toInt ∧ l2.toInt ≤ 4 → 0 ≤ l3.toInt ∧ l3.toInt ≤ 400 → 0 ≤ g0.toInt ∧ g0.toInt ≤ 400 → 0 ≤ g1.toInt ∧ g1.toInt ≤ 3 → (g1.toInt ≠ 3 ∨ g0.toInt ≤ 399) → jiv h 68 3 = g0 → jiv h 68 5 = g1 → jJ jSgX Dy h → jSm fp_X2_readSum_r95_c8d h0 h → K4 l2.toInt l3.toInt (vw h) = dr → jX m_X2_readSum 6 0 0 4 [(0, .ref 95), (1, .int 8), (2, .int l2), (3, .int l3)] [] h 0 0 Q) (k17 : ∀ (l2 : Int32) (l3 : Int32) (l4 : Int32) (l5 : Int32) (g0 : Int32) (g1 : Int32) (h : jH), 400 - l5.toInt < R17 → (-1) ≤ l2.toInt ∧ l2.toInt ≤ 4 → 0 ≤ l3.toInt ∧ l3.toInt ≤ 399 → (-1) ≤ l4.toInt ∧ l4.toInt ≤ 6 → 0 ≤ l5.toInt ∧ l5.toInt ≤ 400 → 0 ≤ g0.toInt ∧ g0.toInt ≤ 400 → 0 ≤ g1.toInt ∧ g1.toInt ≤ 3 → (g1.toInt ≠ 3 ∨ g0.toInt ≤ 399) → jiv h 68 3 = g0 → jiv h 68 5 = g1 → 400 - l3.toInt ≤ R4 → jJ jSgX Dy h → jSm fp_X2_readSum_r95_c8d h0 h → K17 l2.toInt l3.toInt l4.toInt l5.toInt (vw h) = dr → jX m_X2_readSum 6 0 0 17 [(0, .ref 95), (1, .int 8), (2, .int l2), (3, .int l3), (4, .int l4), (5, .int l5)] [] h 0 0 Q) : ∀ (l2 : Int32) (l3 : Int32) (l5 : Int32) (g0 : Int32) (g1 : Int32) (h : jH), (-1) ≤ l2.toInt ∧ l2.toInt ≤ 4 → 0 ≤ l3.toInt ∧ l3.toInt ≤ 399 → 0 ≤ l5.toInt ∧ l5.toInt ≤ 399 → 0 ≤ g0.toInt ∧ g0.toInt ≤ 400 → 0 ≤ g1.toInt ∧ g1.toInt ≤ 3 → (g1.toInt ≠ 3 ∨ g0.toInt ≤ 399) → jiv h 68 3 = g0 → jiv h 68 5 = g1 → 400 - l3.toInt ≤ R4 → 400 - l5.toInt ≤ R17 → jJ jSgX Dy h → jSm fp_X2_readSum_r95_c8d h0 h → d_X2_readSum_r95_c8d_100081 K4 K17  l2.toInt l3.toInt l5.toInt (vw h) = dr → jX m_X2_readSum 6 0 0 81 [(0, .ref 95), (1, .int 8), (2, .int l2), (3, .int l3), (5, .int l5)] [.int (-1)] h 0 0 Q := by
  intro l2 l3 l5 g0 g1 h y0 y1 y2 y3 y4 y5 z0 z1 m4 m17 J Sm D
  unfold d_X2_readSum_r95_c8d_100081 at D
  try rw [vrf z0] at D
  try rw [vrf z1] at D
  refine x_istore (lsx9 := [(4, .int (-1)), (0, .ref 95), (1, .int 8), (2, .int l2), (3, .int l3), (5, .int l5)]) rfl rfl rfl ?_
  refine x_iload (x := (-1)) rfl rfl ?_
  refine x_iconst (v := (-1)) rfl ki_m1 ?_
  refine x_icne (tgt := 92) rfl rfl (ti_ne jk_m1 jk_m1 (bn_f (by omega) ?_))
  refine x_goto (tgt := 105) rfl rfl ?_
  exact jX.sub (jsb_c rfl (jsb_c rfl (jsb_c rfl (jsb_c rfl jsb_n)))) (ct_X2_readSum_r95_c8d_105 hD hQ k4 l2 l3 g0 g1 h (jr_of rfl (by omega)) (jr_of rfl (by omega)) (jr_of rfl (by omega)) (jr_of rfl (by omega)) (by omega) z0 z1 (by omega) J Sm D)
set_option maxRecDepth 100000 in
set_option maxHeartbeats 4000000 in
theorem ct_X2_readSum_r95_c8d_800081 {Dy : jH → Prop} {h0 : jH} {Q : Option Value → jH → Prop} {dr : (Int × jW)} {K4 : Int → Int → jW → (Int × jW)} {K17 : Int → Int → Int → Int → jW → (Int × jW)} {R4 : Int} {R17 : Int} (hD : jDk Dy) (hQ : ∀ (v : Int32) hx9, 0 ≤ v.toInt ∧ v.toInt ≤ 1 → jJ jSgX Dy hx9 → jSm fp_X2_readSum_r95_c8d h0 hx9 → ∀ u0 u1 : Int32, jiv hx9 68 5 = u0 → jiv hx9 68 3 = u1 → (u0.toInt ≠ 3 ∨ u1.toInt ≤ 399) → dr.1 = v.toInt → dr.2 = vw hx9 → Q (some (.int v)) hx9) (k4 : ∀ (l2 : Int32) (l3 : Int32) (g0 : Int32) (g1 : Int32) (h : jH), 400 - l3.toInt < R4 → (-1) ≤ l2.toInt ∧ l2.toInt ≤ 4 → 0 ≤ l3.toInt ∧ l3.toInt ≤ 400 → 0 ≤ g0.toInt ∧ g0.toInt ≤ 400 → 0 ≤ g1.toInt ∧ g1.toInt ≤ 3 → (g1.toInt ≠ 3 ∨ g0.toInt ≤ 399) → jiv h 68 3 = g0 → jiv h 68 5 = g1 → jJ jSgX Dy h → jSm fp_X2_readSum_r95_c8d h0 h → K4 l2.toInt l3.toInt (vw h) = dr → jX m_X2_readSum 6 0 0 4 [(0, .ref 95), (1, .int 8), (2, .int l2), (3, .int l3)] [] h 0 0 Q) (k17 : ∀ (l2 : Int32) (l3 : Int32) (l4 : Int32) (l5 : Int32) (g0 : Int32) (g1 : Int32) (h : jH), 400 - l5.toInt < R17 → (-1) ≤ l2.toInt ∧ l2.toInt ≤ 4 → 0 ≤ l3.toInt ∧ l3.toInt ≤ 399 → (-1) ≤ l4.toInt ∧ l4.toInt ≤ 6 → 0 ≤ l5.toInt ∧ l5.toInt ≤ 400 → 0 ≤ g0.toInt ∧ g0.toInt ≤ 400 → 0 ≤ g1.toInt ∧ g1.toInt ≤ 3 → (g1.toInt ≠ 3 ∨ g0.toInt ≤ 399) → jiv h 68 3 = g0 → jiv h 68 5 = g1 → 400 - l3.toInt ≤ R4 → jJ jSgX Dy h → jSm fp_X2_readSum_r95_c8d h0 h → K17 l2.toInt l3.toInt l4.toInt l5.toInt (vw h) = dr → jX m_X2_readSum 6 0 0 17 [(0, .ref 95), (1, .int 8), (2, .int l2), (3, .int l3), (4, .int l4), (5, .int l5)] [] h 0 0 Q) : ∀ (l2 : Int32) (l3 : Int32) (l5 : Int32) (g0 : Int32) (g1 : Int32) (h : jH), (-1) ≤ l2.toInt ∧ l2.toInt ≤ 4 → 0 ≤ l3.toInt ∧ l3.toInt ≤ 399 → 0 ≤ l5.toInt ∧ l5.toInt ≤ 399 → 0 ≤ g0.toInt ∧ g0.toInt ≤ 400 → 0 ≤ g1.toInt ∧ g1.toInt ≤ 3 → (g1.toInt ≠ 3 ∨ g0.toInt ≤ 399) → jiv h 68 3 = g0 → jiv h 68 5 = g1 → 400 - l3.toInt ≤ R4 → 400 - l5.toInt ≤ R17 → jJ jSgX Dy h → jSm fp_X2_readSum_r95_c8d h0 h → d_X2_readSum_r95_c8d_800081 K4 K17  l2.toInt l3.toInt l5.toInt (vw h) = dr → jX m_X2_readSum 6 0 0 81 [(0, .ref 95), (1, .int 8), (2, .int l2), (3, .int l3), (5, .int l5)] [.int 6] h 0 0 Q := by
  intro l2 l3 l5 g0 g1 h y0 y1 y2 y3 y4 y5 z0 z1 m4 m17 J Sm D
  unfold d_X2_readSum_r95_c8d_800081 at D
  try rw [vrf z0] at D
  try rw [vrf z1] at D
  refine x_istore (lsx9 := [(4, .int 6), (0, .ref 95), (1, .int 8), (2, .int l2), (3, .int l3), (5, .int l5)]) rfl rfl rfl ?_
  refine x_iload (x := 6) rfl rfl ?_
  refine x_iconst (v := (-1)) rfl ki_m1 ?_
  refine x_icne (tgt := 92) rfl rfl (ti_ne jk_6 jk_m1 (bn_t (by omega) ?_))
  refine x_aloadn (x := 95) rfl rfl ?_
  refine z_getR (N := 6) (b := 68) 2 0 rfl f_2_30 rfl J rfl 12160 ⟨rfl, rfl⟩ rfl ?_
  refine x_inv (N := m_X9_step) (As := []) (b := 68) (st := []) (dx9 := 2) (mc := 0) (ms := 0) (host := "") 9 rfl t_X9_step ⟨Or.inl q_2_62, i_X9_step.1, i_X9_step.2⟩ ⟨by decide, rfl⟩ (congrArg Prod.fst (J.1.1 68 (9, 6) rfl)) rfl (by decide) rfl rfl ⟨by decide, by decide⟩ (sf_X9_step_r68d  hD J z1 z0 (by omega) rfl  (fun h J S1 u2 u3 qu2 qu3 ru2 X4 => ?_))
  have Sm := jSm_tr rfl Sm S1
  rw [X4] at D
  have eu2 := (show 0 ≤ u2.toInt ∧ u2.toInt ≤ 3 from qu2 ▸ jrg_f J sg_68_5_6_1_0_1)
  try rw [vrf qu2] at D
  have eu3 := (show 0 ≤ u3.toInt ∧ u3.toInt ≤ 400 from qu3 ▸ jrg_f J sg_68_3_4_1_0_1)
  try rw [vrf qu3] at D
  show jX m_X2_readSum 6 0 0 99 [(4, .int 6), (0, .ref 95), (1, .int 8), (2, .int l2), (3, .int l3), (5, .int l5)] [] _ 0 0 _
  refine z_iinc (x := l5) (lsx9 := fun v5 => [(5, .int v5), (4, .int 6), (0, .ref 95), (1, .int 8), (2, .int l2), (3, .int l3)]) rfl rfl rfl jko_1 (by omega) rfl (fun _ => rfl) (fun v5 ev5 => ?_)
  refine x_goto (tgt := 17) rfl rfl ?_
  try rw [show (l5.toInt + 1) = v5.toInt from by omega] at D
  exact jX.sub (jsb_c rfl (jsb_c rfl (jsb_c rfl (jsb_c rfl (jsb_c rfl (jsb_c rfl jsb_n)))))) (k17 l2 l3 6 v5 u3 u2 h (by omega) (jr_of rfl (by omega)) (jr_of rfl (by omega)) (jr_of jk_6 (by omega)) (jr_of rfl (by omega)) (jr_of rfl (by omega)) (jr_of rfl (by omega)) (by omega) qu3 qu2 (by omega) J Sm (by rw [jk_6]; exact D))
set_option maxRecDepth 100000 in
set_option maxHeartbeats 4000000 in
theorem ct_X2_readSum_r95_c8d_700081 {Dy : jH → Prop} {h0 : jH} {Q : Option Value → jH → Prop} {dr : (Int × jW)} {K4 : Int → Int → jW → (Int × jW)} {K17 : Int → Int → Int → Int → jW → (Int × jW)} {R4 : Int} {R17 : Int} (hD : jDk Dy) (hQ : ∀ (v : Int32) hx9, 0 ≤ v.toInt ∧ v.toInt ≤ 1 → jJ jSgX Dy hx9 → jSm fp_X2_readSum_r95_c8d h0 hx9 → ∀ u0 u1 : Int32, jiv hx9 68 5 = u0 → jiv hx9 68 3 = u1 → (u0.toInt ≠ 3 ∨ u1.toInt ≤ 399) → dr.1 = v.toInt → dr.2 = vw hx9 → Q (some (.int v)) hx9) (k4 : ∀ (l2 : Int32) (l3 : Int32) (g0 : Int32) (g1 : Int32) (h : jH), 400 - l3.toInt < R4 → (-1) ≤ l2.toInt ∧ l2.toInt ≤ 4 → 0 ≤ l3.toInt ∧ l3.toInt ≤ 400 → 0 ≤ g0.toInt ∧ g0.toInt ≤ 400 → 0 ≤ g1.toInt ∧ g1.toInt ≤ 3 → (g1.toInt ≠ 3 ∨ g0.toInt ≤ 399) → jiv h 68 3 = g0 → jiv h 68 5 = g1 → jJ jSgX Dy h → jSm fp_X2_readSum_r95_c8d h0 h → K4 l2.toInt l3.toInt (vw h) = dr → jX m_X2_readSum 6 0 0 4 [(0, .ref 95), (1, .int 8), (2, .int l2), (3, .int l3)] [] h 0 0 Q) (k17 : ∀ (l2 : Int32) (l3 : Int32) (l4 : Int32) (l5 : Int32) (g0 : Int32) (g1 : Int32) (h : jH), 400 - l5.toInt < R17 → (-1) ≤ l2.toInt ∧ l2.toInt ≤ 4 → 0 ≤ l3.toInt ∧ l3.toInt ≤ 399 → (-1) ≤ l4.toInt ∧ l4.toInt ≤ 6 → 0 ≤ l5.toInt ∧ l5.toInt ≤ 400 → 0 ≤ g0.toInt ∧ g0.toInt ≤ 400 → 0 ≤ g1.toInt ∧ g1.toInt ≤ 3 → (g1.toInt ≠ 3 ∨ g0.toInt ≤ 399) → jiv h 68 3 = g0 → jiv h 68 5 = g1 → 400 - l3.toInt ≤ R4 → jJ jSgX Dy h → jSm fp_X2_readSum_r95_c8d h0 h → K17 l2.toInt l3.toInt l4.toInt l5.toInt (vw h) = dr → jX m_X2_readSum 6 0 0 17 [(0, .ref 95), (1, .int 8), (2, .int l2), (3, .int l3), (4, .int l4), (5, .int l5)] [] h 0 0 Q) : ∀ (l2 : Int32) (l3 : Int32) (l5 : Int32) (g0 : Int32) (g1 : Int32) (h : jH), (-1) ≤ l2.toInt ∧ l2.toInt ≤ 4 → 0 ≤ l3.toInt ∧ l3.toInt ≤ 399 → 0 ≤ l5.toInt ∧ l5.toInt ≤ 399 → 0 ≤ g0.toInt ∧ g0.toInt ≤ 400 → 0 ≤ g1.toInt ∧ g1.toInt ≤ 3 → (g1.toInt ≠ 3 ∨ g0.toInt ≤ 399) → jiv h 68 3 = g0 → jiv h 68 5 = g1 → 400 - l3.toInt ≤ R4 → 400 - l5.toInt ≤ R17 → jJ jSgX Dy h → jSm fp_X2_readSum_r95_c8d h0 h → d_X2_readSum_r95_c8d_700081 K4 K17  l2.toInt l3.toInt l5.toInt (vw h) = dr → jX m_X2_readSum 6 0 0 81 [(0, .ref 95), (1, .int 8), (2, .int l2), (3, .int l3), (5, .int l5)] [.int 5] h 0 0 Q := by
  intro l2 l3 l5 g0 g1 h y0 y1 y2 y3 y4 y5 z0 z1 m4 m17 J Sm D
  unfold d_X2_readSum_r95_c8d_700081 at D
  try rw [vrf z0] at D
  try rw [vrf z1] at D
  refine x_istore (lsx9 := [(4, .int 5), (0, .ref 95), (1, .int 8), (2, .int l2), (3, .int l3), (5, .int l5)]) rfl rfl rfl ?_
  refine x_iload (x := 5) rfl rfl ?_
  refine x_iconst (v := (-1)) rfl ki_m1 ?_
  refine x_icne (tgt := 92) rfl rfl (ti_ne jk_5 jk_m1 (bn_t (by omega) ?_))
  refine x_aloadn (x := 95) rfl rfl ?_
  refine z_getR (N := 6) (b := 68) 2 0 rfl f_2_30 rfl J rfl 12160 ⟨rfl, rfl⟩ rfl ?_
  refine x_inv (N := m_X9_step) (As := []) (b := 68) (st := []) (dx9 := 2) (mc := 0) (ms := 0) (host := "") 9 rfl t_X9_step ⟨Or.inl q_2_62, i_X9_step.1, i_X9_step.2⟩ ⟨by decide, rfl⟩ (congrArg Prod.fst (J.1.1 68 (9, 6) rfl)) rfl (by decide) rfl rfl ⟨by decide, by decide⟩ (sf_X9_step_r68d  hD J z1 z0 (by omega) rfl  (fun h J S1 u2 u3 qu2 qu3 ru2 X4 => ?_))
  have Sm := jSm_tr rfl Sm S1
  rw [X4] at D
  have eu2 := (show 0 ≤ u2.toInt ∧ u2.toInt ≤ 3 from qu2 ▸ jrg_f J sg_68_5_6_1_0_1)
  try rw [vrf qu2] at D
  have eu3 := (show 0 ≤ u3.toInt ∧ u3.toInt ≤ 400 from qu3 ▸ jrg_f J sg_68_3_4_1_0_1)
  try rw [vrf qu3] at D
  show jX m_X2_readSum 6 0 0 99 [(4, .int 5), (0, .ref 95), (1, .int 8), (2, .int l2), (3, .int l3), (5, .int l5)] [] _ 0 0 _
  refine z_iinc (x := l5) (lsx9 := fun v5 => [(5, .int v5), (4, .int 5), (0, .ref 95), (1, .int 8), (2, .int l2), (3, .int l3)]) rfl rfl rfl jko_1 (by omega) rfl (fun _ => rfl) (fun v5 ev5 => ?_)
  refine x_goto (tgt := 17) rfl rfl ?_
  try rw [show (l5.toInt + 1) = v5.toInt from by omega] at D
  exact jX.sub (jsb_c rfl (jsb_c rfl (jsb_c rfl (jsb_c rfl (jsb_c rfl (jsb_c rfl jsb_n)))))) (k17 l2 l3 5 v5 u3 u2 h (by omega) (jr_of rfl (by omega)) (jr_of rfl (by omega)) (jr_of jk_5 (by omega)) (jr_of rfl (by omega)) (jr_of rfl (by omega)) (jr_of rfl (by omega)) (by omega) qu3 qu2 (by omega) J Sm (by rw [jk_5]; exact D))
set_option maxRecDepth 100000 in
set_option maxHeartbeats 4000000 in
theorem ct_X2_readSum_r95_c8d_47 {Dy : jH → Prop} {h0 : jH} {Q : Option Value → jH → Prop} {dr : (Int × jW)} {K4 : Int → Int → jW → (Int × jW)} {K17 : Int → Int → Int → Int → jW → (Int × jW)} {R4 : Int} {R17 : Int} (hD : jDk Dy) (hQ : ∀ (v : Int32) hx9, 0 ≤ v.toInt ∧ v.toInt ≤ 1 → jJ jSgX Dy hx9 → jSm fp_X2_readSum_r95_c8d h0 hx9 → ∀ u0 u1 : Int32, jiv hx9 68 5 = u0 → jiv hx9 68 3 = u1 → (u0.toInt ≠ 3 ∨ u1.toInt ≤ 399) → dr.1 = v.toInt → dr.2 = vw hx9 → Q (some (.int v)) hx9) (k4 : ∀ (l2 : Int32) (l3 : Int32) (g0 : Int32) (g1 : Int32) (h : jH), 400 - l3.toInt < R4 → (-1) ≤ l2.toInt ∧ l2.toInt ≤ 4 → 0 ≤ l3.toInt ∧ l3.toInt ≤ 400 → 0 ≤ g0.toInt ∧ g0.toInt ≤ 400 → 0 ≤ g1.toInt ∧ g1.toInt ≤ 3 → (g1.toInt ≠ 3 ∨ g0.toInt ≤ 399) → jiv h 68 3 = g0 → jiv h 68 5 = g1 → jJ jSgX Dy h → jSm fp_X2_readSum_r95_c8d h0 h → K4 l2.toInt l3.toInt (vw h) = dr → jX m_X2_readSum 6 0 0 4 [(0, .ref 95), (1, .int 8), (2, .int l2), (3, .int l3)] [] h 0 0 Q) (k17 : ∀ (l2 : Int32) (l3 : Int32) (l4 : Int32) (l5 : Int32) (g0 : Int32) (g1 : Int32) (h : jH), 400 - l5.toInt < R17 → (-1) ≤ l2.toInt ∧ l2.toInt ≤ 4 → 0 ≤ l3.toInt ∧ l3.toInt ≤ 399 → (-1) ≤ l4.toInt ∧ l4.toInt ≤ 6 → 0 ≤ l5.toInt ∧ l5.toInt ≤ 400 → 0 ≤ g0.toInt ∧ g0.toInt ≤ 400 → 0 ≤ g1.toInt ∧ g1.toInt ≤ 3 → (g1.toInt ≠ 3 ∨ g0.toInt ≤ 399) → jiv h 68 3 = g0 → jiv h 68 5 = g1 → 400 - l3.toInt ≤ R4 → jJ jSgX Dy h → jSm fp_X2_readSum_r95_c8d h0 h → K17 l2.toInt l3.toInt l4.toInt l5.toInt (vw h) = dr → jX m_X2_readSum 6 0 0 17 [(0, .ref 95), (1, .int 8), (2, .int l2), (3, .int l3), (4, .int l4), (5, .int l5)] [] h 0 0 Q) : ∀ (l2 : Int32) (l3 : Int32) (l5 : Int32) (g0 : Int32) (g1 : Int32) (h : jH), (-1) ≤ l2.toInt ∧ l2.toInt ≤ 4 → 0 ≤ l3.toInt ∧ l3.toInt ≤ 399 → 0 ≤ l5.toInt ∧ l5.toInt ≤ 399 → 0 ≤ g0.toInt ∧ g0.toInt ≤ 400 → 0 ≤ g1.toInt ∧ g1.toInt ≤ 3 → (g1.toInt ≠ 3 ∨ g0.toInt ≤ 399) → jiv h 68 3 = g0 → jiv h 68 5 = g1 → 400 - l3.toInt ≤ R4 → 400 - l5.toInt ≤ R17 → jJ jSgX Dy h → jSm fp_X2_readSum_r95_c8d h0 h → d_X2_readSum_r95_c8d_47 K4 K17  l2.toInt l3.toInt l5.toInt (vw h) = dr → jX m_X2_readSum 6 0 0 47 [(0, .ref 95), (1, .int 8), (2, .int l2), (3, .int l3), (5, .int l5)] [] h 0 0 Q := by
  intro l2 l3 l5 g0 g1 h y0 y1 y2 y3 y4 y5 z0 z1 m4 m17 J Sm D
  unfold d_X2_readSum_r95_c8d_47 at D
  try rw [vrf z0] at D
  try rw [vrf z1] at D
  refine x_aloadn (x := 95) rfl rfl ?_
  refine z_getR (N := 6) (b := 68) 2 0 rfl f_2_30 rfl J rfl 12160 ⟨rfl, rfl⟩ rfl ?_
  refine x_bipush (v := 42) rfl kb_42 ?_
  refine x_inv (N := m_X9_isSign) (As := [.int 42]) (b := 68) (st := []) (dx9 := 1) (mc := 0) (ms := 0) (host := "") 9 rfl t_X9_isSign ⟨Or.inl q_2_55, i_X9_isSign.1, i_X9_isSign.2⟩ ⟨by decide, rfl⟩ (congrArg Prod.fst (J.1.1 68 (9, 6) rfl)) rfl (by decide) rfl rfl ⟨by decide, by decide⟩ (sf_X9_isSign_r68d (jr_of jk_42 (by omega)) hD J z1 z0 (by omega) rfl  (fun v6 h ev6 J S1 u2 u3 qu2 qu3 ru2 X4 X5 => ?_))
  have Sm := jSm_tr rfl Sm S1
  try rw [jk_42] at X4
  try rw [X4] at D
  try rw [← X5] at D
  have eu2 := (show 0 ≤ u2.toInt ∧ u2.toInt ≤ 3 from qu2 ▸ jrg_f J sg_68_5_6_1_0_1)
  have Luu2 := congrArg Int32.toInt (((jmc S1 rfl z1)).symm.trans qu2)
  try rw [Luu2] at D
  try rw [vrf qu2] at D
  have eu3 := (show 0 ≤ u3.toInt ∧ u3.toInt ≤ 400 from qu3 ▸ jrg_f J sg_68_3_4_1_0_1)
  have Luu3 := congrArg Int32.toInt (((jmc S1 rfl z0)).symm.trans qu3)
  try rw [Luu3] at D
  try rw [vrf qu3] at D
  show jX m_X2_readSum 6 0 0 56 [(0, .ref 95), (1, .int 8), (2, .int l2), (3, .int l3), (5, .int l5)] [.int v6] _ 0 0 _
  refine x_ifeq (tgt := 63) rfl rfl (ti_eq rfl jk_0 ⟨fun c7 => ?_, fun c7 => ?_⟩)
  ·
    rw [if_pos (by omega)] at D
    refine x_aloadn (x := 95) rfl rfl ?_
    refine z_getR (N := 6) (b := 68) 2 0 rfl f_2_30 rfl J rfl 12160 ⟨rfl, rfl⟩ rfl ?_
    refine x_bipush (v := 47) rfl kb_47 ?_
    refine x_inv (N := m_X9_isSign) (As := [.int 47]) (b := 68) (st := []) (dx9 := 1) (mc := 0) (ms := 0) (host := "") 9 rfl t_X9_isSign ⟨Or.inl q_2_55, i_X9_isSign.1, i_X9_isSign.2⟩ ⟨by decide, rfl⟩ (congrArg Prod.fst (J.1.1 68 (9, 6) rfl)) rfl (by decide) rfl rfl ⟨by decide, by decide⟩ (sf_X9_isSign_r68d (jr_of jk_47 (by omega)) hD J qu2 qu3 (by omega) rfl  (fun v13 h ev13 J S8 u9 u10 qu9 qu10 ru9 X11 X12 => ?_))
    have Sm := jSm_tr rfl Sm S8
    try rw [jk_47] at X11
    try rw [X11] at D
    try rw [← X12] at D
    have eu9 := (show 0 ≤ u9.toInt ∧ u9.toInt ≤ 3 from qu9 ▸ jrg_f J sg_68_5_6_1_0_1)
    have Luu9 := congrArg Int32.toInt (((jmc S8 rfl qu2)).symm.trans qu9)
    try rw [Luu9] at D
    try rw [vrf qu9] at D
    have eu10 := (show 0 ≤ u10.toInt ∧ u10.toInt ≤ 400 from qu10 ▸ jrg_f J sg_68_3_4_1_0_1)
    have Luu10 := congrArg Int32.toInt (((jmc S8 rfl qu3)).symm.trans qu10)
    try rw [Luu10] at D
    try rw [vrf qu10] at D
    show jX m_X2_readSum 6 0 0 72 [(0, .ref 95), (1, .int 8), (2, .int l2), (3, .int l3), (5, .int l5)] [.int v13] _ 0 0 _
    refine x_ifeq (tgt := 80) rfl rfl (ti_eq rfl jk_0 ⟨fun c14 => ?_, fun c14 => ?_⟩)
    ·
      rw [if_pos (by omega)] at D
      refine x_iconst (v := (-1)) rfl ki_m1 ?_
      exact jX.sub (jsb_c rfl (jsb_c rfl (jsb_c rfl (jsb_c rfl (jsb_c rfl jsb_n))))) (ct_X2_readSum_r95_c8d_100081 hD hQ k4 k17 l2 l3 l5 u10 u9 h (jr_of rfl (by omega)) (jr_of rfl (by omega)) (jr_of rfl (by omega)) (jr_of rfl (by omega)) (jr_of rfl (by omega)) (by omega) qu10 qu9 (by omega) (by omega) J Sm D)
    ·
      rw [if_neg (by omega)] at D
      refine x_bipush (v := 6) rfl kb_6 ?_
      refine x_goto (tgt := 81) rfl rfl ?_
      exact jX.sub (jsb_c rfl (jsb_c rfl (jsb_c rfl (jsb_c rfl (jsb_c rfl jsb_n))))) (ct_X2_readSum_r95_c8d_800081 hD hQ k4 k17 l2 l3 l5 u10 u9 h (jr_of rfl (by omega)) (jr_of rfl (by omega)) (jr_of rfl (by omega)) (jr_of rfl (by omega)) (jr_of rfl (by omega)) (by omega) qu10 qu9 (by omega) (by omega) J Sm D)
  ·
    rw [if_neg (by omega)] at D
    refine x_iconst (v := 5) rfl ki_5 ?_
    refine x_goto (tgt := 81) rfl rfl ?_
    exact jX.sub (jsb_c rfl (jsb_c rfl (jsb_c rfl (jsb_c rfl (jsb_c rfl jsb_n))))) (ct_X2_readSum_r95_c8d_700081 hD hQ k4 k17 l2 l3 l5 u3 u2 h (jr_of rfl (by omega)) (jr_of rfl (by omega)) (jr_of rfl (by omega)) (jr_of rfl (by omega)) (jr_of rfl (by omega)) (by omega) qu3 qu2 (by omega) (by omega) J Sm D)
set_option maxRecDepth 100000 in
set_option maxHeartbeats 4000000 in
theorem ct_X2_readSum_r95_c8d_17 {Dy : jH → Prop} {h0 : jH} {Q : Option Value → jH → Prop} {dr : (Int × jW)} {K4 : Int → Int → jW → (Int × jW)} {R4 : Int} (hD : jDk Dy) (hQ : ∀ (v : Int32) hx9, 0 ≤ v.toInt ∧ v.toInt ≤ 1 → jJ jSgX Dy hx9 → jSm fp_X2_readSum_r95_c8d h0 hx9 → ∀ u0 u1 : Int32, jiv hx9 68 5 = u0 → jiv hx9 68 3 = u1 → (u0.toInt ≠ 3 ∨ u1.toInt ≤ 399) → dr.1 = v.toInt → dr.2 = vw hx9 → Q (some (.int v)) hx9) (k4 : ∀ (l2 : Int32) (l3 : Int32) (g0 : Int32) (g1 : Int32) (h : jH), 400 - l3.toInt < R4 → (-1) ≤ l2.toInt ∧ l2.toInt ≤ 4 → 0 ≤ l3.toInt ∧ l3.toInt ≤ 400 → 0 ≤ g0.toInt ∧ g0.toInt ≤ 400 → 0 ≤ g1.toInt ∧ g1.toInt ≤ 3 → (g1.toInt ≠ 3 ∨ g0.toInt ≤ 399) → jiv h 68 3 = g0 → jiv h 68 5 = g1 → jJ jSgX Dy h → jSm fp_X2_readSum_r95_c8d h0 h → K4 l2.toInt l3.toInt (vw h) = dr → jX m_X2_readSum 6 0 0 4 [(0, .ref 95), (1, .int 8), (2, .int l2), (3, .int l3)] [] h 0 0 Q) : ∀ r : Nat, ∀ (l2 : Int32) (l3 : Int32) (l4 : Int32) (l5 : Int32) (g0 : Int32) (g1 : Int32) (h : jH), 400 - l5.toInt < (r : Int) → (-1) ≤ l2.toInt ∧ l2.toInt ≤ 4 → 0 ≤ l3.toInt ∧ l3.toInt ≤ 399 → (-1) ≤ l4.toInt ∧ l4.toInt ≤ 6 → 0 ≤ l5.toInt ∧ l5.toInt ≤ 400 → 0 ≤ g0.toInt ∧ g0.toInt ≤ 400 → 0 ≤ g1.toInt ∧ g1.toInt ≤ 3 → (g1.toInt ≠ 3 ∨ g0.toInt ≤ 399) → jiv h 68 3 = g0 → jiv h 68 5 = g1 → 400 - l3.toInt ≤ R4 → jJ jSgX Dy h → jSm fp_X2_readSum_r95_c8d h0 h → d_X2_readSum_r95_c8d_17 K4 r l2.toInt l3.toInt l4.toInt l5.toInt (vw h) = dr → jX m_X2_readSum 6 0 0 17 [(0, .ref 95), (1, .int 8), (2, .int l2), (3, .int l3), (4, .int l4), (5, .int l5)] [] h 0 0 Q := by
  intro r
  induction r with
  | zero =>
    intro l2 l3 l4 l5 g0 g1 h hm y0 y1 y2 y3 y4 y5 y6 z0 z1 m4 J Sm D
    exfalso
    omega
  | succ r ih =>
    intro l2 l3 l4 l5 g0 g1 h hm y0 y1 y2 y3 y4 y5 y6 z0 z1 m4 J Sm D
    rw [d_X2_readSum_r95_c8d_17.eq_2] at D
    try rw [vrf z0] at D
    try rw [vrf z1] at D
    refine x_iload (x := l5) rfl rfl ?_
    refine x_sipush (v := 400) rfl ks_400 ?_
    refine x_icge (tgt := 105) rfl rfl (ti_ge rfl jk_400 ⟨fun c1 => ?_, fun c1 => ?_⟩)
    ·
      rw [if_pos (by omega)] at D
      exact jX.sub (jsb_c rfl (jsb_c rfl (jsb_c rfl (jsb_c rfl jsb_n)))) (ct_X2_readSum_r95_c8d_105 hD hQ k4 l2 l3 g0 g1 h (jr_of rfl (by omega)) (jr_of rfl (by omega)) (jr_of rfl (by omega)) (jr_of rfl (by omega)) (by omega) z0 z1 (by omega) J Sm D)
    ·
      rw [if_neg (by omega)] at D
      refine x_aloadn (x := 95) rfl rfl ?_
      refine x_iloadn (x := 8) rfl rfl ?_
      refine x_inv (N := m_X2_readFactor) (As := [.int 8]) (b := 95) (st := []) (dx9 := 5) (mc := 0) (ms := 0) (host := "") 2 rfl t_X2_readFactor ⟨Or.inl q_2_144, i_X2_readFactor.1, i_X2_readFactor.2⟩ ⟨by decide, rfl⟩ (congrArg Prod.fst (J.1.1 95 (2, 6) rfl)) rfl (by decide) rfl rfl ⟨by decide, by decide⟩ (sf_X2_readFactor_r95_c8d  hD J z1 z0 (by omega) rfl  (fun v7 h ev7 J S2 u3 u4 qu3 qu4 ru3 X5 X6 => ?_))
      have Sm := jSm_tr rfl Sm S2
      try rw [X5] at D
      try rw [X6] at D
      have eu3 := (show 0 ≤ u3.toInt ∧ u3.toInt ≤ 3 from qu3 ▸ jrg_f J sg_68_5_6_1_0_1)
      try rw [vrf qu3] at D
      have eu4 := (show 0 ≤ u4.toInt ∧ u4.toInt ≤ 400 from qu4 ▸ jrg_f J sg_68_3_4_1_0_1)
      try rw [vrf qu4] at D
      show jX m_X2_readSum 6 0 0 30 [(0, .ref 95), (1, .int 8), (2, .int l2), (3, .int l3), (4, .int l4), (5, .int l5)] [.int v7] _ 0 0 _
      refine x_ifne (tgt := 35) rfl rfl (ti_ne rfl jk_0 ⟨fun c8 => ?_, fun c8 => ?_⟩)
      ·
        rw [if_neg (by omega)] at D
        refine x_iload (x := l4) rfl rfl ?_
        refine x_iconst (v := (-1)) rfl ki_m1 ?_
        refine x_iceq (tgt := 47) rfl rfl (ti_eq rfl jk_m1 ⟨fun c9 => ?_, fun c9 => ?_⟩)
        ·
          rw [if_pos (by omega)] at D
          exact jX.sub (jsb_c rfl (jsb_c rfl (jsb_c rfl (jsb_c rfl (jsb_c rfl jsb_n))))) (ct_X2_readSum_r95_c8d_47 hD hQ k4 ih l2 l3 l5 u4 u3 h (jr_of rfl (by omega)) (jr_of rfl (by omega)) (jr_of rfl (by omega)) (jr_of rfl (by omega)) (jr_of rfl (by omega)) (by omega) qu4 qu3 (by omega) (by omega) J Sm D)
        ·
          rw [if_neg (by omega)] at D
          refine x_aloadn (x := 95) rfl rfl ?_
          refine x_iload (x := l4) rfl rfl ?_
          refine x_inv (N := m_X2_emit) (As := [.int l4]) (b := 95) (st := []) (dx9 := 1) (mc := 0) (ms := 0) (host := "") 2 rfl t_X2_emit ⟨Or.inl q_2_89, i_X2_emit.1, i_X2_emit.2⟩ ⟨by decide, rfl⟩ (congrArg Prod.fst (J.1.1 95 (2, 6) rfl)) rfl (by decide) rfl rfl ⟨by decide, by decide⟩ (sf_X2_emit_r95d  hD J rfl  (fun h J S10 X11 => ?_))
          have Sm := jSm_tr rfl Sm S10
          rw [X11] at D
          show jX m_X2_readSum 6 0 0 47 [(0, .ref 95), (1, .int 8), (2, .int l2), (3, .int l3), (4, .int l4), (5, .int l5)] [] _ 0 0 _
          exact jX.sub (jsb_c rfl (jsb_c rfl (jsb_c rfl (jsb_c rfl (jsb_c rfl jsb_n))))) (ct_X2_readSum_r95_c8d_47 hD hQ k4 ih l2 l3 l5 u4 u3 h (jr_of rfl (by omega)) (jr_of rfl (by omega)) (jr_of rfl (by omega)) (jr_of rfl (by omega)) (jr_of rfl (by omega)) (by omega) (jmc S10 rfl qu4) (jmc S10 rfl qu3) (by omega) (by omega) J Sm D)
      ·
        rw [if_pos (by omega)] at D
        refine x_iconst (v := 0) rfl ki_0 ?_
        refine x_zret rfl rfl (by decide) ?_
        exact hQ _ _ (jr_of jk_0 (by omega)) J Sm _ _ qu3 qu4 (by omega) ((congrArg Prod.fst D).symm.trans (show 0 = (0 : Int32).toInt from by have := jk_0; omega)) (congrArg Prod.snd D).symm
set_option maxRecDepth 100000 in
set_option maxHeartbeats 4000000 in
theorem ct_X2_readSum_r95_c8d_4 {Dy : jH → Prop} {h0 : jH} {Q : Option Value → jH → Prop} {dr : (Int × jW)} (hD : jDk Dy) (hQ : ∀ (v : Int32) hx9, 0 ≤ v.toInt ∧ v.toInt ≤ 1 → jJ jSgX Dy hx9 → jSm fp_X2_readSum_r95_c8d h0 hx9 → ∀ u0 u1 : Int32, jiv hx9 68 5 = u0 → jiv hx9 68 3 = u1 → (u0.toInt ≠ 3 ∨ u1.toInt ≤ 399) → dr.1 = v.toInt → dr.2 = vw hx9 → Q (some (.int v)) hx9) : ∀ r : Nat, ∀ (l2 : Int32) (l3 : Int32) (g0 : Int32) (g1 : Int32) (h : jH), 400 - l3.toInt < (r : Int) → (-1) ≤ l2.toInt ∧ l2.toInt ≤ 4 → 0 ≤ l3.toInt ∧ l3.toInt ≤ 400 → 0 ≤ g0.toInt ∧ g0.toInt ≤ 400 → 0 ≤ g1.toInt ∧ g1.toInt ≤ 3 → (g1.toInt ≠ 3 ∨ g0.toInt ≤ 399) → jiv h 68 3 = g0 → jiv h 68 5 = g1 → jJ jSgX Dy h → jSm fp_X2_readSum_r95_c8d h0 h → d_X2_readSum_r95_c8d_4 r l2.toInt l3.toInt (vw h) = dr → jX m_X2_readSum 6 0 0 4 [(0, .ref 95), (1, .int 8), (2, .int l2), (3, .int l3)] [] h 0 0 Q := by
  intro r
  induction r with
  | zero =>
    intro l2 l3 g0 g1 h hm y0 y1 y2 y3 y4 z0 z1  J Sm D
    exfalso
    omega
  | succ r ih =>
    intro l2 l3 g0 g1 h hm y0 y1 y2 y3 y4 z0 z1  J Sm D
    rw [d_X2_readSum_r95_c8d_4.eq_2] at D
    try rw [vrf z0] at D
    try rw [vrf z1] at D
    refine x_iloadn (x := l3) rfl rfl ?_
    refine x_sipush (v := 400) rfl ks_400 ?_
    refine x_icge (tgt := 169) rfl rfl (ti_ge rfl jk_400 ⟨fun c1 => ?_, fun c1 => ?_⟩)
    ·
      rw [if_pos (by omega)] at D
      refine x_aloadn (x := 95) rfl rfl ?_
      refine z_getR (N := 6) (b := 68) 2 0 rfl f_2_30 rfl J rfl 12160 ⟨rfl, rfl⟩ rfl ?_
      refine x_inv (N := m_X9_blame) (As := []) (b := 68) (st := []) (dx9 := 5) (mc := 0) (ms := 0) (host := "") 9 rfl t_X9_blame ⟨Or.inl q_2_59, i_X9_blame.1, i_X9_blame.2⟩ ⟨by decide, rfl⟩ (congrArg Prod.fst (J.1.1 68 (9, 6) rfl)) rfl (by decide) rfl rfl ⟨by decide, by decide⟩ (jC.of rfl k_X9_blame rfl ?_)
      show jX m_X9_blame 5 0 0 0 [(0, .ref 68)] [] _ 0 0 _
      refine x_aloadn (x := 68) rfl rfl ?_
      refine x_aloadn (x := 68) rfl rfl ?_
      refine z_getM (N := 6) (v := g0) 9 3 rfl f_9_22 rfl J rfl z0 ?_
      refine z_putI (N := 6) (w := g0.toInt) 9 2 rfl f_9_19 rfl (jfin_no TX9 RX9 6 rfl rfl) hD J Sm rfl rfl rfl (pw_68_2 (by omega)) rfl (fun h w2 J Sm => ?_)
      rw [vwf w2 (show g0.toInt = g0.toInt from by omega)] at D
      refine x_iconst (v := 0) rfl ki_0 ?_
      refine x_zret rfl rfl (by decide) ?_
      show jX m_X2_readSum 6 0 0 176 [(0, .ref 95), (1, .int 8), (2, .int l2), (3, .int l3)] [.int 0] _ 0 0 _
      refine x_zret rfl rfl (by decide) ?_
      exact hQ _ _ (jr_of jk_0 (by omega)) J Sm _ _ (jmo w2 rfl z1) (jmo w2 rfl z0) (by omega) ((congrArg Prod.fst D).symm.trans (show 0 = (0 : Int32).toInt from by have := jk_0; omega)) (congrArg Prod.snd D).symm
    ·
      rw [if_neg (by omega)] at D
      refine x_iconst (v := (-1)) rfl ki_m1 ?_
      refine x_istore (lsx9 := [(4, .int (-1)), (0, .ref 95), (1, .int 8), (2, .int l2), (3, .int l3)]) rfl rfl rfl ?_
      refine x_iconst (v := 0) rfl ki_0 ?_
      refine x_istore (lsx9 := [(5, .int 0), (4, .int (-1)), (0, .ref 95), (1, .int 8), (2, .int l2), (3, .int l3)]) rfl rfl rfl ?_
      exact jX.sub (jsb_c rfl (jsb_c rfl (jsb_c rfl (jsb_c rfl (jsb_c rfl (jsb_c rfl jsb_n)))))) (ct_X2_readSum_r95_c8d_17 hD hQ ih 401 l2 l3 (-1) 0 g0 g1 h (by have := jk_0; omega) (jr_of rfl (by omega)) (jr_of rfl (by omega)) (jr_of jk_m1 (by omega)) (jr_of jk_0 (by omega)) (jr_of rfl (by omega)) (jr_of rfl (by omega)) (by omega) z0 z1 (by omega) J Sm (by rw [jk_m1, jk_0]; exact D))
set_option maxRecDepth 100000 in
set_option maxHeartbeats 4000000 in
theorem sf_X2_readSum_r95_c8d {Dy : jH → Prop} {h : jH} {Q : Option Value → jH → Prop} {dr : (Int × jW)} (hD : jDk Dy) (J : jJ jSgX Dy h) {p0 p1 : Int32} (zp0 : jiv h 68 5 = p0) (zp1 : jiv h 68 3 = p1) (rl_p0 : (p0.toInt ≠ 3 ∨ p1.toInt ≤ 399)) (D : d_X2_readSum_r95_c8d (vw h) = dr) (hQ : ∀ (v : Int32) hx9, 0 ≤ v.toInt ∧ v.toInt ≤ 1 → jJ jSgX Dy hx9 → jSm fp_X2_readSum_r95_c8d h hx9 → ∀ u0 u1 : Int32, jiv hx9 68 5 = u0 → jiv hx9 68 3 = u1 → (u0.toInt ≠ 3 ∨ u1.toInt ≤ 399) → dr.1 = v.toInt → dr.2 = vw hx9 → Q (some (.int v)) hx9) : jC m_X2_readSum 6 0 0 [.ref 95, .int 8] h Q := by
  refine jC.of rfl k_X2_readSum rfl ?_
  have Sm := jSm_rf fp_X2_readSum_r95_c8d h
  have ep0 := (show 0 ≤ p0.toInt ∧ p0.toInt ≤ 3 from zp0 ▸ jrg_f J sg_68_5_6_1_0_1)
  have ep1 := (show 0 ≤ p1.toInt ∧ p1.toInt ≤ 400 from zp1 ▸ jrg_f J sg_68_3_4_1_0_1)
  show jX m_X2_readSum 6 0 0 0 [(0, .ref 95), (1, .int 8)] [] _ 0 0 _
  unfold d_X2_readSum_r95_c8d at D
  try rw [vrf zp0] at D
  try rw [vrf zp1] at D
  refine x_iconst (v := (-1)) rfl ki_m1 ?_
  refine x_istoren (lsx9 := [(2, .int (-1)), (0, .ref 95), (1, .int 8)]) rfl rfl rfl ?_
  refine x_iconst (v := 0) rfl ki_0 ?_
  refine x_istoren (lsx9 := [(3, .int 0), (2, .int (-1)), (0, .ref 95), (1, .int 8)]) rfl rfl rfl ?_
  exact jX.sub (jsb_c rfl (jsb_c rfl (jsb_c rfl (jsb_c rfl jsb_n)))) (ct_X2_readSum_r95_c8d_4 hD hQ  401 (-1) 0 p1 p0 h (by have := jk_0; omega) (jr_of jk_m1 (by omega)) (jr_of jk_0 (by omega)) (jr_of rfl (by omega)) (jr_of rfl (by omega)) (by omega) zp1 zp0 J Sm (by rw [jk_m1, jk_0]; exact D))
def fp_X2_readFactor_r95_c7d : jFp := [(68, 2, 3), (68, 3, 4), (68, 4, 5), (68, 5, 6), (95, 4, 5), (95, 5, 6), (97, 0, 1200)]
set_option maxRecDepth 100000 in
set_option maxHeartbeats 4000000 in
theorem ct_X2_readFactor_r95_c7d_111 {Dy : jH → Prop} {h0 : jH} {Q : Option Value → jH → Prop} {dr : (Int × jW)} (hD : jDk Dy) (hQ : ∀ (v : Int32) hx9, 0 ≤ v.toInt ∧ v.toInt ≤ 1 → jJ jSgX Dy hx9 → jSm fp_X2_readFactor_r95_c7d h0 hx9 → ∀ u0 u1 : Int32, jiv hx9 68 5 = u0 → jiv hx9 68 3 = u1 → (u0.toInt ≠ 3 ∨ u1.toInt ≤ 399) → dr.1 = v.toInt → dr.2 = vw hx9 → Q (some (.int v)) hx9) : ∀ (s0 : Int32) (g0 : Int32) (g1 : Int32) (h : jH), 0 ≤ s0.toInt ∧ s0.toInt ≤ 1 → 0 ≤ g0.toInt ∧ g0.toInt ≤ 400 → 0 ≤ g1.toInt ∧ g1.toInt ≤ 3 → (g1.toInt ≠ 3 ∨ g0.toInt ≤ 399) → jiv h 68 3 = g0 → jiv h 68 5 = g1 → jJ jSgX Dy h → jSm fp_X2_readFactor_r95_c7d h0 h → d_X2_readFactor_r95_c7d_111  s0.toInt (vw h) = dr → jX m_X2_readFactor 7 0 0 111 [] [.int s0] h 0 0 Q := by
  intro s0 g0 g1 h y0 y1 y2 y3 z0 z1  J Sm D
  unfold d_X2_readFactor_r95_c7d_111 at D
  try rw [vrf z0] at D
  try rw [vrf z1] at D
  refine x_zret rfl rfl (jz01 (by omega)) ?_
  exact hQ _ _ (jr_of rfl (by omega)) J Sm _ _ z1 z0 (by omega) ((congrArg Prod.fst D).symm.trans (show s0.toInt = s0.toInt from by omega)) (congrArg Prod.snd D).symm
set_option maxRecDepth 100000 in
set_option maxHeartbeats 4000000 in
theorem ct_X2_readFactor_r95_c7d_200111 {Dy : jH → Prop} {h0 : jH} {Q : Option Value → jH → Prop} {dr : (Int × jW)} (hD : jDk Dy) (hQ : ∀ (v : Int32) hx9, 0 ≤ v.toInt ∧ v.toInt ≤ 1 → jJ jSgX Dy hx9 → jSm fp_X2_readFactor_r95_c7d h0 hx9 → ∀ u0 u1 : Int32, jiv hx9 68 5 = u0 → jiv hx9 68 3 = u1 → (u0.toInt ≠ 3 ∨ u1.toInt ≤ 399) → dr.1 = v.toInt → dr.2 = vw hx9 → Q (some (.int v)) hx9) : ∀ (g0 : Int32) (g1 : Int32) (h : jH), 0 ≤ g0.toInt ∧ g0.toInt ≤ 400 → 0 ≤ g1.toInt ∧ g1.toInt ≤ 3 → (g1.toInt ≠ 3 ∨ g0.toInt ≤ 399) → jiv h 68 3 = g0 → jiv h 68 5 = g1 → jJ jSgX Dy h → jSm fp_X2_readFactor_r95_c7d h0 h → d_X2_readFactor_r95_c7d_200111  (vw h) = dr → jX m_X2_readFactor 7 0 0 111 [] [.int 0] h 0 0 Q := by
  intro g0 g1 h y0 y1 y2 z0 z1  J Sm D
  unfold d_X2_readFactor_r95_c7d_200111 at D
  try rw [vrf z0] at D
  try rw [vrf z1] at D
  refine x_zret rfl rfl (by decide) ?_
  exact hQ _ _ (jr_of jk_0 (by omega)) J Sm _ _ z1 z0 (by omega) ((congrArg Prod.fst D).symm.trans (show 0 = (0 : Int32).toInt from by have := jk_0; omega)) (congrArg Prod.snd D).symm
set_option maxRecDepth 100000 in
set_option maxHeartbeats 4000000 in
theorem ct_X2_readFactor_r95_c7d_300057 {Dy : jH → Prop} {h0 : jH} {Q : Option Value → jH → Prop} {dr : (Int × jW)} (hD : jDk Dy) (hQ : ∀ (v : Int32) hx9, 0 ≤ v.toInt ∧ v.toInt ≤ 1 → jJ jSgX Dy hx9 → jSm fp_X2_readFactor_r95_c7d h0 hx9 → ∀ u0 u1 : Int32, jiv hx9 68 5 = u0 → jiv hx9 68 3 = u1 → (u0.toInt ≠ 3 ∨ u1.toInt ≤ 399) → dr.1 = v.toInt → dr.2 = vw hx9 → Q (some (.int v)) hx9) : ∀ (g0 : Int32) (g1 : Int32) (h : jH), 0 ≤ g0.toInt ∧ g0.toInt ≤ 400 → 0 ≤ g1.toInt ∧ g1.toInt ≤ 3 → (g1.toInt ≠ 3 ∨ g0.toInt ≤ 399) → jiv h 68 3 = g0 → jiv h 68 5 = g1 → jJ jSgX Dy h → jSm fp_X2_readFactor_r95_c7d h0 h → d_X2_readFactor_r95_c7d_300057  (vw h) = dr → jX m_X2_readFactor 7 0 0 57 [] [.int 1] h 0 0 Q := by
  intro g0 g1 h y0 y1 y2 z0 z1  J Sm D
  unfold d_X2_readFactor_r95_c7d_300057 at D
  try rw [vrf z0] at D
  try rw [vrf z1] at D
  refine x_zret rfl rfl (by decide) ?_
  exact hQ _ _ (jr_of jk_1 (by omega)) J Sm _ _ z1 z0 (by omega) ((congrArg Prod.fst D).symm.trans (show 1 = (1 : Int32).toInt from by have := jk_1; omega)) (congrArg Prod.snd D).symm
set_option maxRecDepth 100000 in
set_option maxHeartbeats 4000000 in
theorem ct_X2_readFactor_r95_c7d_200057 {Dy : jH → Prop} {h0 : jH} {Q : Option Value → jH → Prop} {dr : (Int × jW)} (hD : jDk Dy) (hQ : ∀ (v : Int32) hx9, 0 ≤ v.toInt ∧ v.toInt ≤ 1 → jJ jSgX Dy hx9 → jSm fp_X2_readFactor_r95_c7d h0 hx9 → ∀ u0 u1 : Int32, jiv hx9 68 5 = u0 → jiv hx9 68 3 = u1 → (u0.toInt ≠ 3 ∨ u1.toInt ≤ 399) → dr.1 = v.toInt → dr.2 = vw hx9 → Q (some (.int v)) hx9) : ∀ (g0 : Int32) (g1 : Int32) (h : jH), 0 ≤ g0.toInt ∧ g0.toInt ≤ 400 → 0 ≤ g1.toInt ∧ g1.toInt ≤ 3 → (g1.toInt ≠ 3 ∨ g0.toInt ≤ 399) → jiv h 68 3 = g0 → jiv h 68 5 = g1 → jJ jSgX Dy h → jSm fp_X2_readFactor_r95_c7d h0 h → d_X2_readFactor_r95_c7d_200057  (vw h) = dr → jX m_X2_readFactor 7 0 0 57 [] [.int 0] h 0 0 Q := by
  intro g0 g1 h y0 y1 y2 z0 z1  J Sm D
  unfold d_X2_readFactor_r95_c7d_200057 at D
  try rw [vrf z0] at D
  try rw [vrf z1] at D
  refine x_zret rfl rfl (by decide) ?_
  exact hQ _ _ (jr_of jk_0 (by omega)) J Sm _ _ z1 z0 (by omega) ((congrArg Prod.fst D).symm.trans (show 0 = (0 : Int32).toInt from by have := jk_0; omega)) (congrArg Prod.snd D).symm
set_option maxRecDepth 100000 in
set_option maxHeartbeats 4000000 in
theorem ct_X2_readFactor_r95_c7d_56 {Dy : jH → Prop} {h0 : jH} {Q : Option Value → jH → Prop} {dr : (Int × jW)} (hD : jDk Dy) (hQ : ∀ (v : Int32) hx9, 0 ≤ v.toInt ∧ v.toInt ≤ 1 → jJ jSgX Dy hx9 → jSm fp_X2_readFactor_r95_c7d h0 hx9 → ∀ u0 u1 : Int32, jiv hx9 68 5 = u0 → jiv hx9 68 3 = u1 → (u0.toInt ≠ 3 ∨ u1.toInt ≤ 399) → dr.1 = v.toInt → dr.2 = vw hx9 → Q (some (.int v)) hx9) : ∀ (g0 : Int32) (g1 : Int32) (h : jH), 0 ≤ g0.toInt ∧ g0.toInt ≤ 400 → 0 ≤ g1.toInt ∧ g1.toInt ≤ 3 → (g1.toInt ≠ 3 ∨ g0.toInt ≤ 399) → jiv h 68 3 = g0 → jiv h 68 5 = g1 → jJ jSgX Dy h → jSm fp_X2_readFactor_r95_c7d h0 h → d_X2_readFactor_r95_c7d_56  (vw h) = dr → jX m_X2_readFactor 7 0 0 56 [] [] h 0 0 Q := by
  intro g0 g1 h y0 y1 y2 z0 z1  J Sm D
  unfold d_X2_readFactor_r95_c7d_56 at D
  try rw [vrf z0] at D
  try rw [vrf z1] at D
  refine x_iconst (v := 0) rfl ki_0 ?_
  exact jX.sub jsb_n (ct_X2_readFactor_r95_c7d_200057 hD hQ  g0 g1 h (jr_of rfl (by omega)) (jr_of rfl (by omega)) (by omega) z0 z1 J Sm D)
set_option maxRecDepth 100000 in
set_option maxHeartbeats 4000000 in
theorem sf_X2_readFactor_r95_c7d {Dy : jH → Prop} {h : jH} {Q : Option Value → jH → Prop} {dr : (Int × jW)} (hD : jDk Dy) (J : jJ jSgX Dy h) {p0 p1 : Int32} (zp0 : jiv h 68 5 = p0) (zp1 : jiv h 68 3 = p1) (rl_p0 : (p0.toInt ≠ 3 ∨ p1.toInt ≤ 399)) (D : d_X2_readFactor_r95_c7d (vw h) = dr) (hQ : ∀ (v : Int32) hx9, 0 ≤ v.toInt ∧ v.toInt ≤ 1 → jJ jSgX Dy hx9 → jSm fp_X2_readFactor_r95_c7d h hx9 → ∀ u0 u1 : Int32, jiv hx9 68 5 = u0 → jiv hx9 68 3 = u1 → (u0.toInt ≠ 3 ∨ u1.toInt ≤ 399) → dr.1 = v.toInt → dr.2 = vw hx9 → Q (some (.int v)) hx9) : jC m_X2_readFactor 7 0 0 [.ref 95, .int 7] h Q := by
  refine jC.of rfl k_X2_readFactor rfl ?_
  have Sm := jSm_rf fp_X2_readFactor_r95_c7d h
  have ep0 := (show 0 ≤ p0.toInt ∧ p0.toInt ≤ 3 from zp0 ▸ jrg_f J sg_68_5_6_1_0_1)
  have ep1 := (show 0 ≤ p1.toInt ∧ p1.toInt ≤ 400 from zp1 ▸ jrg_f J sg_68_3_4_1_0_1)
  show jX m_X2_readFactor 7 0 0 0 [(0, .ref 95), (1, .int 7)] [] _ 0 0 _
  unfold d_X2_readFactor_r95_c7d at D
  try rw [vrf zp0] at D
  try rw [vrf zp1] at D
  refine x_aloadn (x := 95) rfl rfl ?_
  refine z_getR (N := 6) (b := 68) 2 0 rfl f_2_30 rfl J rfl 12160 ⟨rfl, rfl⟩ rfl ?_
  refine x_bipush (v := 91) rfl kb_91 ?_
  refine x_inv (N := m_X9_isSign) (As := [.int 91]) (b := 68) (st := []) (dx9 := 1) (mc := 0) (ms := 0) (host := "") 9 rfl t_X9_isSign ⟨Or.inl q_2_55, i_X9_isSign.1, i_X9_isSign.2⟩ ⟨by decide, rfl⟩ (congrArg Prod.fst (J.1.1 68 (9, 6) rfl)) rfl (by decide) rfl rfl ⟨by decide, by decide⟩ (sf_X9_isSign_r68d (jr_of jk_91 (by omega)) hD J zp0 zp1 (by omega) rfl  (fun v6 h ev6 J S1 u2 u3 qu2 qu3 ru2 X4 X5 => ?_))
  have Sm := jSm_tr rfl Sm S1
  try rw [jk_91] at X4
  try rw [X4] at D
  try rw [← X5] at D
  have eu2 := (show 0 ≤ u2.toInt ∧ u2.toInt ≤ 3 from qu2 ▸ jrg_f J sg_68_5_6_1_0_1)
  have Luu2 := congrArg Int32.toInt (((jmc S1 rfl zp0)).symm.trans qu2)
  try rw [Luu2] at D
  try rw [vrf qu2] at D
  have eu3 := (show 0 ≤ u3.toInt ∧ u3.toInt ≤ 400 from qu3 ▸ jrg_f J sg_68_3_4_1_0_1)
  have Luu3 := congrArg Int32.toInt (((jmc S1 rfl zp1)).symm.trans qu3)
  try rw [Luu3] at D
  try rw [vrf qu3] at D
  show jX m_X2_readFactor 7 0 0 9 [(0, .ref 95), (1, .int 7)] [.int v6] _ 0 0 _
  refine x_ifeq (tgt := 58) rfl rfl (ti_eq rfl jk_0 ⟨fun c7 => ?_, fun c7 => ?_⟩)
  ·
    rw [if_pos (by omega)] at D
    refine x_aloadn (x := 95) rfl rfl ?_
    refine z_getR (N := 6) (b := 68) 2 0 rfl f_2_30 rfl J rfl 12160 ⟨rfl, rfl⟩ rfl ?_
    refine x_ldc (v := 100000) rfl z_2_147 ?_
    refine x_inv (N := m_X9_numberTo) (As := [.int 100000]) (b := 68) (st := []) (dx9 := 1) (mc := 0) (ms := 0) (host := "") 9 rfl t_X9_numberTo ⟨Or.inl q_2_117, i_X9_numberTo.1, i_X9_numberTo.2⟩ ⟨by decide, rfl⟩ (congrArg Prod.fst (J.1.1 68 (9, 6) rfl)) rfl (by decide) rfl rfl ⟨by decide, by decide⟩ (sf_X9_numberTo_r68d (jr_of jk_100000 (by omega)) hD J rfl  (fun v11 h ev11 J S8 X9 X10 => ?_))
    have Sm := jSm_tr rfl Sm S8
    try rw [jk_100000] at X9
    try rw [X9] at D
    try rw [← X10] at D
    show jX m_X2_readFactor 7 0 0 67 [(0, .ref 95), (1, .int 7)] [.int v11] _ 0 0 _
    refine x_istoren (lsx9 := [(2, .int v11), (0, .ref 95), (1, .int 7)]) rfl rfl rfl ?_
    refine x_iloadn (x := v11) rfl rfl ?_
    refine x_iconst (v := (-1)) rfl ki_m1 ?_
    refine x_iceq (tgt := 80) rfl rfl (ti_eq rfl jk_m1 ⟨fun c12 => ?_, fun c12 => ?_⟩)
    ·
      rw [if_pos (by omega)] at D
      refine x_aloadn (x := 95) rfl rfl ?_
      refine z_getR (N := 6) (b := 68) 2 0 rfl f_2_30 rfl J rfl 12160 ⟨rfl, rfl⟩ rfl ?_
      refine x_ldcS (jstr.getD 6 jstr_0) rfl (List.mem_of_getElem? (i := 6) rfl) rfl rfl ?_
      show jX m_X2_readFactor 7 0 0 86 [(2, .int v11), (0, .ref 95), (1, .int 7)] [.ref 11, .ref 68] _ 0 0 _
      refine x_inv (N := m_X9_wordOf) (As := [.ref 11]) (b := 68) (st := []) (dx9 := 4) (mc := 0) (ms := 0) (host := "") 9 rfl t_X9_wordOf ⟨Or.inl q_2_67, i_X9_wordOf.1, i_X9_wordOf.2⟩ ⟨by decide, rfl⟩ (congrArg Prod.fst (J.1.1 68 (9, 6) rfl)) rfl (by decide) rfl rfl ⟨by decide, by decide⟩ (sf_X9_wordOf_r68_r11d  hD J rfl  (fun v16 h J S13 X14 X15 => ?_))
      have ev16 := jfull v16
      have Sm := jSm_tr rfl Sm S13
      try rw [X14] at D
      try rw [← X15] at D
      show jX m_X2_readFactor 7 0 0 89 [(2, .int v11), (0, .ref 95), (1, .int 7)] [.int v16] _ 0 0 _
      refine x_istoren (lsx9 := [(3, .int v16), (2, .int v11), (0, .ref 95), (1, .int 7)]) rfl rfl rfl ?_
      refine x_iloadn (x := v16) rfl rfl ?_
      refine x_iconst (v := (-1)) rfl ki_m1 ?_
      refine x_icne (tgt := 105) rfl rfl (ti_ne rfl jk_m1 ⟨fun c17 => ?_, fun c17 => ?_⟩)
      ·
        rw [if_neg (by omega)] at D
        refine x_aloadn (x := 95) rfl rfl ?_
        refine x_iconst (v := 2) rfl ki_2 ?_
        refine x_iloadn (x := v16) rfl rfl ?_
        refine x_inv (N := m_X2_readPart) (As := [.int 2, .int v16]) (b := 95) (st := []) (dx9 := 3) (mc := 0) (ms := 0) (host := "") 2 rfl t_X2_readPart ⟨Or.inl q_2_141, i_X2_readPart.1, i_X2_readPart.2⟩ ⟨by decide, rfl⟩ (congrArg Prod.fst (J.1.1 95 (2, 6) rfl)) rfl (by decide) rfl rfl ⟨by decide, by decide⟩ (sf_X2_readPart_r95d (jr_of jk_2 (by omega)) hD J (jmc S13 rfl (jmc S8 rfl qu2)) (jmc S13 rfl (jmc S8 rfl qu3)) (by omega) rfl  (fun v23 h ev23 J S18 u19 u20 qu19 qu20 ru19 X21 X22 => ?_))
        have Sm := jSm_tr rfl Sm S18
        try rw [jk_2] at X21
        try rw [jk_2] at X22
        try rw [X21] at D
        try rw [X22] at D
        have eu19 := (show 0 ≤ u19.toInt ∧ u19.toInt ≤ 3 from qu19 ▸ jrg_f J sg_68_5_6_1_0_1)
        try rw [vrf qu19] at D
        have eu20 := (show 0 ≤ u20.toInt ∧ u20.toInt ≤ 400 from qu20 ▸ jrg_f J sg_68_3_4_1_0_1)
        try rw [vrf qu20] at D
        show jX m_X2_readFactor 7 0 0 111 [(3, .int v16), (2, .int v11), (0, .ref 95), (1, .int 7)] [.int v23] _ 0 0 _
        exact jX.sub jsb_n (ct_X2_readFactor_r95_c7d_111 hD hQ  v23 u20 u19 h (jr_of rfl (by omega)) (jr_of rfl (by omega)) (jr_of rfl (by omega)) (by omega) qu20 qu19 J Sm D)
      ·
        rw [if_pos (by omega)] at D
        refine x_aloadn (x := 95) rfl rfl ?_
        refine z_getR (N := 6) (b := 68) 2 0 rfl f_2_30 rfl J rfl 12160 ⟨rfl, rfl⟩ rfl ?_
        refine x_inv (N := m_X9_blame) (As := []) (b := 68) (st := []) (dx9 := 6) (mc := 0) (ms := 0) (host := "") 9 rfl t_X9_blame ⟨Or.inl q_2_59, i_X9_blame.1, i_X9_blame.2⟩ ⟨by decide, rfl⟩ (congrArg Prod.fst (J.1.1 68 (9, 6) rfl)) rfl (by decide) rfl rfl ⟨by decide, by decide⟩ (jC.of rfl k_X9_blame rfl ?_)
        show jX m_X9_blame 6 0 0 0 [(0, .ref 68)] [] _ 0 0 _
        refine x_aloadn (x := 68) rfl rfl ?_
        refine x_aloadn (x := 68) rfl rfl ?_
        refine z_getM (N := 6) (v := u3) 9 3 rfl f_9_22 rfl J rfl (jmc S13 rfl (jmc S8 rfl qu3)) ?_
        refine z_putI (N := 6) (w := u3.toInt) 9 2 rfl f_9_19 rfl (jfin_no TX9 RX9 6 rfl rfl) hD J Sm rfl rfl rfl (pw_68_2 (by omega)) rfl (fun h w24 J Sm => ?_)
        rw [vwf w24 (show u3.toInt = u3.toInt from by omega)] at D
        refine x_iconst (v := 0) rfl ki_0 ?_
        refine x_zret rfl rfl (by decide) ?_
        show jX m_X2_readFactor 7 0 0 102 [(3, .int v16), (2, .int v11), (0, .ref 95), (1, .int 7)] [.int 0] _ 0 0 _
        refine x_goto (tgt := 111) rfl rfl ?_
        exact jX.sub jsb_n (ct_X2_readFactor_r95_c7d_200111 hD hQ  u3 u2 h (jr_of rfl (by omega)) (jr_of rfl (by omega)) (by omega) (jmo w24 rfl (jmc S13 rfl (jmc S8 rfl qu3))) (jmo w24 rfl (jmc S13 rfl (jmc S8 rfl qu2))) J Sm D)
    ·
      rw [if_neg (by omega)] at D
      refine x_aloadn (x := 95) rfl rfl ?_
      refine x_iconst (v := 1) rfl ki_1 ?_
      refine x_iloadn (x := v11) rfl rfl ?_
      refine x_inv (N := m_X2_readPart) (As := [.int 1, .int v11]) (b := 95) (st := []) (dx9 := 3) (mc := 0) (ms := 0) (host := "") 2 rfl t_X2_readPart ⟨Or.inl q_2_141, i_X2_readPart.1, i_X2_readPart.2⟩ ⟨by decide, rfl⟩ (congrArg Prod.fst (J.1.1 95 (2, 6) rfl)) rfl (by decide) rfl rfl ⟨by decide, by decide⟩ (sf_X2_readPart_r95d (jr_of jk_1 (by omega)) hD J (jmc S8 rfl qu2) (jmc S8 rfl qu3) (by omega) rfl  (fun v30 h ev30 J S25 u26 u27 qu26 qu27 ru26 X28 X29 => ?_))
      have Sm := jSm_tr rfl Sm S25
      try rw [jk_1] at X28
      try rw [jk_1] at X29
      try rw [X28] at D
      try rw [X29] at D
      have eu26 := (show 0 ≤ u26.toInt ∧ u26.toInt ≤ 3 from qu26 ▸ jrg_f J sg_68_5_6_1_0_1)
      try rw [vrf qu26] at D
      have eu27 := (show 0 ≤ u27.toInt ∧ u27.toInt ≤ 400 from qu27 ▸ jrg_f J sg_68_3_4_1_0_1)
      try rw [vrf qu27] at D
      show jX m_X2_readFactor 7 0 0 79 [(2, .int v11), (0, .ref 95), (1, .int 7)] [.int v30] _ 0 0 _
      refine x_zret rfl rfl (jz01 (by omega)) ?_
      exact hQ _ _ (jr_of rfl (by omega)) J Sm _ _ qu26 qu27 (by omega) ((congrArg Prod.fst D).symm.trans X28) ((congrArg Prod.snd D).symm.trans X29)
  ·
    rw [if_neg (by omega)] at D
    refine x_iloadn (x := 7) rfl rfl ?_
    refine x_bipush (v := 8) rfl kb_8 ?_
    refine x_iclt (tgt := 26) rfl rfl (ti_lt jk_7 jk_8 (br_t (by omega) ?_))
    refine x_aloadn (x := 95) rfl rfl ?_
    refine z_getR (N := 6) (b := 68) 2 0 rfl f_2_30 rfl J rfl 12160 ⟨rfl, rfl⟩ rfl ?_
    refine x_inv (N := m_X9_step) (As := []) (b := 68) (st := []) (dx9 := 2) (mc := 0) (ms := 0) (host := "") 9 rfl t_X9_step ⟨Or.inl q_2_62, i_X9_step.1, i_X9_step.2⟩ ⟨by decide, rfl⟩ (congrArg Prod.fst (J.1.1 68 (9, 6) rfl)) rfl (by decide) rfl rfl ⟨by decide, by decide⟩ (sf_X9_step_r68d  hD J qu2 qu3 (by omega) rfl  (fun h J S31 u32 u33 qu32 qu33 ru32 X34 => ?_))
    have Sm := jSm_tr rfl Sm S31
    rw [X34] at D
    have eu32 := (show 0 ≤ u32.toInt ∧ u32.toInt ≤ 3 from qu32 ▸ jrg_f J sg_68_5_6_1_0_1)
    try rw [vrf qu32] at D
    have eu33 := (show 0 ≤ u33.toInt ∧ u33.toInt ≤ 400 from qu33 ▸ jrg_f J sg_68_3_4_1_0_1)
    try rw [vrf qu33] at D
    show jX m_X2_readFactor 7 0 0 33 [(0, .ref 95), (1, .int 7)] [] _ 0 0 _
    refine x_aloadn (x := 95) rfl rfl ?_
    refine x_iloadn (x := 7) rfl rfl ?_
    refine x_iconst (v := 1) rfl ki_1 ?_
    refine y_iadd (v := 8) rfl (by decide) ?_
    refine x_inv (N := m_X2_readSum) (As := [.int 8]) (b := 95) (st := []) (dx9 := 6) (mc := 0) (ms := 0) (host := "") 2 rfl t_X2_readSum ⟨Or.inl q_2_86, i_X2_readSum.1, i_X2_readSum.2⟩ ⟨by decide, rfl⟩ (congrArg Prod.fst (J.1.1 95 (2, 6) rfl)) rfl (by decide) rfl rfl ⟨by decide, by decide⟩ (sf_X2_readSum_r95_c8d  hD J qu32 qu33 (by omega) rfl  (fun v40 h ev40 J S35 u36 u37 qu36 qu37 ru36 X38 X39 => ?_))
    have Sm := jSm_tr rfl Sm S35
    try rw [X38] at D
    try rw [X39] at D
    have eu36 := (show 0 ≤ u36.toInt ∧ u36.toInt ≤ 3 from qu36 ▸ jrg_f J sg_68_5_6_1_0_1)
    try rw [vrf qu36] at D
    have eu37 := (show 0 ≤ u37.toInt ∧ u37.toInt ≤ 400 from qu37 ▸ jrg_f J sg_68_3_4_1_0_1)
    try rw [vrf qu37] at D
    show jX m_X2_readFactor 7 0 0 40 [(0, .ref 95), (1, .int 7)] [.int v40] _ 0 0 _
    refine x_ifeq (tgt := 56) rfl rfl (ti_eq rfl jk_0 ⟨fun c41 => ?_, fun c41 => ?_⟩)
    ·
      rw [if_pos (by omega)] at D
      exact jX.sub jsb_n (ct_X2_readFactor_r95_c7d_56 hD hQ  u37 u36 h (jr_of rfl (by omega)) (jr_of rfl (by omega)) (by omega) qu37 qu36 J Sm D)
    ·
      rw [if_neg (by omega)] at D
      refine x_aloadn (x := 95) rfl rfl ?_
      refine x_bipush (v := 93) rfl kb_93 ?_
      refine x_inv (N := m_X2_readSign) (As := [.int 93]) (b := 95) (st := []) (dx9 := 6) (mc := 0) (ms := 0) (host := "") 2 rfl t_X2_readSign ⟨Or.inl q_2_138, i_X2_readSign.1, i_X2_readSign.2⟩ ⟨by decide, rfl⟩ (congrArg Prod.fst (J.1.1 95 (2, 6) rfl)) rfl (by decide) rfl rfl ⟨by decide, by decide⟩ (jC.of rfl k_X2_readSign rfl ?_)
      show jX m_X2_readSign 6 0 0 0 [(0, .ref 95), (1, .int 93)] [] _ 0 0 _
      refine x_aloadn (x := 95) rfl rfl ?_
      refine z_getR (N := 6) (b := 68) 2 0 rfl f_2_30 rfl J rfl 12160 ⟨rfl, rfl⟩ rfl ?_
      refine x_iloadn (x := 93) rfl rfl ?_
      refine x_inv (N := m_X9_isSign) (As := [.int 93]) (b := 68) (st := []) (dx9 := 1) (mc := 0) (ms := 0) (host := "") 9 rfl t_X9_isSign ⟨Or.inl q_2_55, i_X9_isSign.1, i_X9_isSign.2⟩ ⟨by decide, rfl⟩ (congrArg Prod.fst (J.1.1 68 (9, 6) rfl)) rfl (by decide) rfl rfl ⟨by decide, by decide⟩ (sf_X9_isSign_r68d (jr_of jk_93 (by omega)) hD J qu36 qu37 (by omega) rfl  (fun v47 h ev47 J S42 u43 u44 qu43 qu44 ru43 X45 X46 => ?_))
      have Sm := jSm_tr rfl Sm S42
      try rw [jk_93] at X45
      try rw [X45] at D
      try rw [← X46] at D
      have eu43 := (show 0 ≤ u43.toInt ∧ u43.toInt ≤ 3 from qu43 ▸ jrg_f J sg_68_5_6_1_0_1)
      have Luu43 := congrArg Int32.toInt (((jmc S42 rfl qu36)).symm.trans qu43)
      try rw [Luu43] at D
      try rw [vrf qu43] at D
      have eu44 := (show 0 ≤ u44.toInt ∧ u44.toInt ≤ 400 from qu44 ▸ jrg_f J sg_68_3_4_1_0_1)
      have Luu44 := congrArg Int32.toInt (((jmc S42 rfl qu37)).symm.trans qu44)
      try rw [Luu44] at D
      try rw [vrf qu44] at D
      show jX m_X2_readSign 6 0 0 8 [(0, .ref 95), (1, .int 93)] [.int v47] _ 0 0 _
      refine x_ifne (tgt := 19) rfl rfl (ti_ne rfl jk_0 ⟨fun c48 => ?_, fun c48 => ?_⟩)
      ·
        rw [if_neg (by omega)] at D
        refine x_aloadn (x := 95) rfl rfl ?_
        refine z_getR (N := 6) (b := 68) 2 0 rfl f_2_30 rfl J rfl 12160 ⟨rfl, rfl⟩ rfl ?_
        refine x_inv (N := m_X9_step) (As := []) (b := 68) (st := []) (dx9 := 2) (mc := 0) (ms := 0) (host := "") 9 rfl t_X9_step ⟨Or.inl q_2_62, i_X9_step.1, i_X9_step.2⟩ ⟨by decide, rfl⟩ (congrArg Prod.fst (J.1.1 68 (9, 6) rfl)) rfl (by decide) rfl rfl ⟨by decide, by decide⟩ (sf_X9_step_r68d  hD J qu43 qu44 (by omega) rfl  (fun h J S49 u50 u51 qu50 qu51 ru50 X52 => ?_))
        have Sm := jSm_tr rfl Sm S49
        rw [X52] at D
        have eu50 := (show 0 ≤ u50.toInt ∧ u50.toInt ≤ 3 from qu50 ▸ jrg_f J sg_68_5_6_1_0_1)
        try rw [vrf qu50] at D
        have eu51 := (show 0 ≤ u51.toInt ∧ u51.toInt ≤ 400 from qu51 ▸ jrg_f J sg_68_3_4_1_0_1)
        try rw [vrf qu51] at D
        show jX m_X2_readSign 6 0 0 26 [(0, .ref 95), (1, .int 93)] [] _ 0 0 _
        refine x_iconst (v := 1) rfl ki_1 ?_
        refine x_zret rfl rfl (by decide) ?_
        show jX m_X2_readFactor 7 0 0 49 [(0, .ref 95), (1, .int 7)] [.int 1] _ 0 0 _
        refine x_ifeq (tgt := 56) rfl rfl (ti_eq jk_1 jk_0 (br_f (by omega) ?_))
        refine x_iconst (v := 1) rfl ki_1 ?_
        refine x_goto (tgt := 57) rfl rfl ?_
        exact jX.sub jsb_n (ct_X2_readFactor_r95_c7d_300057 hD hQ  u51 u50 h (jr_of rfl (by omega)) (jr_of rfl (by omega)) (by omega) qu51 qu50 J Sm D)
      ·
        rw [if_pos (by omega)] at D
        refine x_aloadn (x := 95) rfl rfl ?_
        refine z_getR (N := 6) (b := 68) 2 0 rfl f_2_30 rfl J rfl 12160 ⟨rfl, rfl⟩ rfl ?_
        refine x_inv (N := m_X9_blame) (As := []) (b := 68) (st := []) (dx9 := 5) (mc := 0) (ms := 0) (host := "") 9 rfl t_X9_blame ⟨Or.inl q_2_59, i_X9_blame.1, i_X9_blame.2⟩ ⟨by decide, rfl⟩ (congrArg Prod.fst (J.1.1 68 (9, 6) rfl)) rfl (by decide) rfl rfl ⟨by decide, by decide⟩ (jC.of rfl k_X9_blame rfl ?_)
        show jX m_X9_blame 5 0 0 0 [(0, .ref 68)] [] _ 0 0 _
        refine x_aloadn (x := 68) rfl rfl ?_
        refine x_aloadn (x := 68) rfl rfl ?_
        refine z_getM (N := 6) (v := u44) 9 3 rfl f_9_22 rfl J rfl qu44 ?_
        refine z_putI (N := 6) (w := u44.toInt) 9 2 rfl f_9_19 rfl (jfin_no TX9 RX9 6 rfl rfl) hD J Sm rfl rfl rfl (pw_68_2 (by omega)) rfl (fun h w53 J Sm => ?_)
        rw [vwf w53 (show u44.toInt = u44.toInt from by omega)] at D
        refine x_iconst (v := 0) rfl ki_0 ?_
        refine x_zret rfl rfl (by decide) ?_
        show jX m_X2_readSign 6 0 0 18 [(0, .ref 95), (1, .int 93)] [.int 0] _ 0 0 _
        refine x_zret rfl rfl (by decide) ?_
        show jX m_X2_readFactor 7 0 0 49 [(0, .ref 95), (1, .int 7)] [.int 0] _ 0 0 _
        refine x_ifeq (tgt := 56) rfl rfl (ti_eq jk_0 jk_0 (br_t (by omega) ?_))
        exact jX.sub jsb_n (ct_X2_readFactor_r95_c7d_56 hD hQ  u44 u43 h (jr_of rfl (by omega)) (jr_of rfl (by omega)) (by omega) (jmo w53 rfl qu44) (jmo w53 rfl qu43) J Sm D)
def fp_X2_readSum_r95_c7d : jFp := [(68, 2, 3), (68, 3, 4), (68, 4, 5), (68, 5, 6), (95, 4, 5), (95, 5, 6), (97, 0, 1200)]
set_option maxRecDepth 100000 in
set_option maxHeartbeats 4000000 in
theorem ct_X2_readSum_r95_c7d_100148 {Dy : jH → Prop} {h0 : jH} {Q : Option Value → jH → Prop} {dr : (Int × jW)} {K4 : Int → Int → jW → (Int × jW)} {R4 : Int} (hD : jDk Dy) (hQ : ∀ (v : Int32) hx9, 0 ≤ v.toInt ∧ v.toInt ≤ 1 → jJ jSgX Dy hx9 → jSm fp_X2_readSum_r95_c7d h0 hx9 → ∀ u0 u1 : Int32, jiv hx9 68 5 = u0 → jiv hx9 68 3 = u1 → (u0.toInt ≠ 3 ∨ u1.toInt ≤ 399) → dr.1 = v.toInt → dr.2 = vw hx9 → Q (some (.int v)) hx9) (k4 : ∀ (l2 : Int32) (l3 : Int32) (g0 : Int32) (g1 : Int32) (h : jH), 400 - l3.toInt < R4 → (-1) ≤ l2.toInt ∧ l2.toInt ≤ 4 → 0 ≤ l3.toInt ∧ l3.toInt ≤ 400 → 0 ≤ g0.toInt ∧ g0.toInt ≤ 400 → 0 ≤ g1.toInt ∧ g1.toInt ≤ 3 → (g1.toInt ≠ 3 ∨ g0.toInt ≤ 399) → jiv h 68 3 = g0 → jiv h 68 5 = g1 → jJ jSgX Dy h → jSm fp_X2_readSum_r95_c7d h0 h → K4 l2.toInt l3.toInt (vw h) = dr → jX m_X2_readSum 8 0 0 4 [(0, .ref 95), (1, .int 7), (2, .int l2), (3, .int l3)] [] h 0 0 Q) : ∀ (l3 : Int32) (g0 : Int32) (g1 : Int32) (h : jH), 0 ≤ l3.toInt ∧ l3.toInt ≤ 399 → 0 ≤ g0.toInt ∧ g0.toInt ≤ 400 → 0 ≤ g1.toInt ∧ g1.toInt ≤ 3 → (g1.toInt ≠ 3 ∨ g0.toInt ≤ 399) → jiv h 68 3 = g0 → jiv h 68 5 = g1 → 400 - l3.toInt ≤ R4 → jJ jSgX Dy h → jSm fp_X2_readSum_r95_c7d h0 h → d_X2_readSum_r95_c7d_100148 K4  l3.toInt (vw h) = dr → jX m_X2_readSum 8 0 0 148 [(0, .ref 95), (1, .int 7), (3, .int l3)] [.int (-1)] h 0 0 Q := by
  intro l3 g0 g1 h y0 y1 y2 y3 z0 z1 m4 J Sm D
  unfold d_X2_readSum_r95_c7d_100148 at D
  try rw [vrf z0] at D
  try rw [vrf z1] at D
  refine x_istoren (lsx9 := [(2, .int (-1)), (0, .ref 95), (1, .int 7), (3, .int l3)]) rfl rfl rfl ?_
  refine x_iloadn (x := (-1)) rfl rfl ?_
  refine x_iconst (v := (-1)) rfl ki_m1 ?_
  refine x_icne (tgt := 156) rfl rfl (ti_ne jk_m1 jk_m1 (bn_f (by omega) ?_))
  refine x_iconst (v := 1) rfl ki_1 ?_
  refine x_zret rfl rfl (by decide) ?_
  exact hQ _ _ (jr_of jk_1 (by omega)) J Sm _ _ z1 z0 (by omega) ((congrArg Prod.fst D).symm.trans (show 1 = (1 : Int32).toInt from by have := jk_1; omega)) (congrArg Prod.snd D).symm
set_option maxRecDepth 100000 in
set_option maxHeartbeats 4000000 in
theorem ct_X2_readSum_r95_c7d_600148 {Dy : jH → Prop} {h0 : jH} {Q : Option Value → jH → Prop} {dr : (Int × jW)} {K4 : Int → Int → jW → (Int × jW)} {R4 : Int} (hD : jDk Dy) (hQ : ∀ (v : Int32) hx9, 0 ≤ v.toInt ∧ v.toInt ≤ 1 → jJ jSgX Dy hx9 → jSm fp_X2_readSum_r95_c7d h0 hx9 → ∀ u0 u1 : Int32, jiv hx9 68 5 = u0 → jiv hx9 68 3 = u1 → (u0.toInt ≠ 3 ∨ u1.toInt ≤ 399) → dr.1 = v.toInt → dr.2 = vw hx9 → Q (some (.int v)) hx9) (k4 : ∀ (l2 : Int32) (l3 : Int32) (g0 : Int32) (g1 : Int32) (h : jH), 400 - l3.toInt < R4 → (-1) ≤ l2.toInt ∧ l2.toInt ≤ 4 → 0 ≤ l3.toInt ∧ l3.toInt ≤ 400 → 0 ≤ g0.toInt ∧ g0.toInt ≤ 400 → 0 ≤ g1.toInt ∧ g1.toInt ≤ 3 → (g1.toInt ≠ 3 ∨ g0.toInt ≤ 399) → jiv h 68 3 = g0 → jiv h 68 5 = g1 → jJ jSgX Dy h → jSm fp_X2_readSum_r95_c7d h0 h → K4 l2.toInt l3.toInt (vw h) = dr → jX m_X2_readSum 8 0 0 4 [(0, .ref 95), (1, .int 7), (2, .int l2), (3, .int l3)] [] h 0 0 Q) : ∀ (l3 : Int32) (g0 : Int32) (g1 : Int32) (h : jH), 0 ≤ l3.toInt ∧ l3.toInt ≤ 399 → 0 ≤ g0.toInt ∧ g0.toInt ≤ 400 → 0 ≤ g1.toInt ∧ g1.toInt ≤ 3 → (g1.toInt ≠ 3 ∨ g0.toInt ≤ 399) → jiv h 68 3 = g0 → jiv h 68 5 = g1 → 400 - l3.toInt ≤ R4 → jJ jSgX Dy h → jSm fp_X2_readSum_r95_c7d h0 h → d_X2_readSum_r95_c7d_600148 K4  l3.toInt (vw h) = dr → jX m_X2_readSum 8 0 0 148 [(0, .ref 95), (1, .int 7), (3, .int l3)] [.int 4] h 0 0 Q := by
  intro l3 g0 g1 h y0 y1 y2 y3 z0 z1 m4 J Sm D
  unfold d_X2_readSum_r95_c7d_600148 at D
  try rw [vrf z0] at D
  try rw [vrf z1] at D
  refine x_istoren (lsx9 := [(2, .int 4), (0, .ref 95), (1, .int 7), (3, .int l3)]) rfl rfl rfl ?_
  refine x_iloadn (x := 4) rfl rfl ?_
  refine x_iconst (v := (-1)) rfl ki_m1 ?_
  refine x_icne (tgt := 156) rfl rfl (ti_ne jk_4 jk_m1 (bn_t (by omega) ?_))
  refine x_aloadn (x := 95) rfl rfl ?_
  refine z_getR (N := 6) (b := 68) 2 0 rfl f_2_30 rfl J rfl 12160 ⟨rfl, rfl⟩ rfl ?_
  refine x_inv (N := m_X9_step) (As := []) (b := 68) (st := []) (dx9 := 2) (mc := 0) (ms := 0) (host := "") 9 rfl t_X9_step ⟨Or.inl q_2_62, i_X9_step.1, i_X9_step.2⟩ ⟨by decide, rfl⟩ (congrArg Prod.fst (J.1.1 68 (9, 6) rfl)) rfl (by decide) rfl rfl ⟨by decide, by decide⟩ (sf_X9_step_r68d  hD J z1 z0 (by omega) rfl  (fun h J S1 u2 u3 qu2 qu3 ru2 X4 => ?_))
  have Sm := jSm_tr rfl Sm S1
  rw [X4] at D
  have eu2 := (show 0 ≤ u2.toInt ∧ u2.toInt ≤ 3 from qu2 ▸ jrg_f J sg_68_5_6_1_0_1)
  try rw [vrf qu2] at D
  have eu3 := (show 0 ≤ u3.toInt ∧ u3.toInt ≤ 400 from qu3 ▸ jrg_f J sg_68_3_4_1_0_1)
  try rw [vrf qu3] at D
  show jX m_X2_readSum 8 0 0 163 [(2, .int 4), (0, .ref 95), (1, .int 7), (3, .int l3)] [] _ 0 0 _
  refine z_iinc (x := l3) (lsx9 := fun v5 => [(3, .int v5), (2, .int 4), (0, .ref 95), (1, .int 7)]) rfl rfl rfl jko_1 (by omega) rfl (fun _ => rfl) (fun v5 ev5 => ?_)
  refine x_goto (tgt := 4) rfl rfl ?_
  try rw [show (l3.toInt + 1) = v5.toInt from by omega] at D
  exact jX.sub (jsb_c rfl (jsb_c rfl (jsb_c rfl (jsb_c rfl jsb_n)))) (k4 4 v5 u3 u2 h (by omega) (jr_of jk_4 (by omega)) (jr_of rfl (by omega)) (jr_of rfl (by omega)) (jr_of rfl (by omega)) (by omega) qu3 qu2 J Sm (by rw [jk_4]; exact D))
set_option maxRecDepth 100000 in
set_option maxHeartbeats 4000000 in
theorem ct_X2_readSum_r95_c7d_500148 {Dy : jH → Prop} {h0 : jH} {Q : Option Value → jH → Prop} {dr : (Int × jW)} {K4 : Int → Int → jW → (Int × jW)} {R4 : Int} (hD : jDk Dy) (hQ : ∀ (v : Int32) hx9, 0 ≤ v.toInt ∧ v.toInt ≤ 1 → jJ jSgX Dy hx9 → jSm fp_X2_readSum_r95_c7d h0 hx9 → ∀ u0 u1 : Int32, jiv hx9 68 5 = u0 → jiv hx9 68 3 = u1 → (u0.toInt ≠ 3 ∨ u1.toInt ≤ 399) → dr.1 = v.toInt → dr.2 = vw hx9 → Q (some (.int v)) hx9) (k4 : ∀ (l2 : Int32) (l3 : Int32) (g0 : Int32) (g1 : Int32) (h : jH), 400 - l3.toInt < R4 → (-1) ≤ l2.toInt ∧ l2.toInt ≤ 4 → 0 ≤ l3.toInt ∧ l3.toInt ≤ 400 → 0 ≤ g0.toInt ∧ g0.toInt ≤ 400 → 0 ≤ g1.toInt ∧ g1.toInt ≤ 3 → (g1.toInt ≠ 3 ∨ g0.toInt ≤ 399) → jiv h 68 3 = g0 → jiv h 68 5 = g1 → jJ jSgX Dy h → jSm fp_X2_readSum_r95_c7d h0 h → K4 l2.toInt l3.toInt (vw h) = dr → jX m_X2_readSum 8 0 0 4 [(0, .ref 95), (1, .int 7), (2, .int l2), (3, .int l3)] [] h 0 0 Q) : ∀ (l3 : Int32) (g0 : Int32) (g1 : Int32) (h : jH), 0 ≤ l3.toInt ∧ l3.toInt ≤ 399 → 0 ≤ g0.toInt ∧ g0.toInt ≤ 400 → 0 ≤ g1.toInt ∧ g1.toInt ≤ 3 → (g1.toInt ≠ 3 ∨ g0.toInt ≤ 399) → jiv h 68 3 = g0 → jiv h 68 5 = g1 → 400 - l3.toInt ≤ R4 → jJ jSgX Dy h → jSm fp_X2_readSum_r95_c7d h0 h → d_X2_readSum_r95_c7d_500148 K4  l3.toInt (vw h) = dr → jX m_X2_readSum 8 0 0 148 [(0, .ref 95), (1, .int 7), (3, .int l3)] [.int 3] h 0 0 Q := by
  intro l3 g0 g1 h y0 y1 y2 y3 z0 z1 m4 J Sm D
  unfold d_X2_readSum_r95_c7d_500148 at D
  try rw [vrf z0] at D
  try rw [vrf z1] at D
  refine x_istoren (lsx9 := [(2, .int 3), (0, .ref 95), (1, .int 7), (3, .int l3)]) rfl rfl rfl ?_
  refine x_iloadn (x := 3) rfl rfl ?_
  refine x_iconst (v := (-1)) rfl ki_m1 ?_
  refine x_icne (tgt := 156) rfl rfl (ti_ne jk_3 jk_m1 (bn_t (by omega) ?_))
  refine x_aloadn (x := 95) rfl rfl ?_
  refine z_getR (N := 6) (b := 68) 2 0 rfl f_2_30 rfl J rfl 12160 ⟨rfl, rfl⟩ rfl ?_
  refine x_inv (N := m_X9_step) (As := []) (b := 68) (st := []) (dx9 := 2) (mc := 0) (ms := 0) (host := "") 9 rfl t_X9_step ⟨Or.inl q_2_62, i_X9_step.1, i_X9_step.2⟩ ⟨by decide, rfl⟩ (congrArg Prod.fst (J.1.1 68 (9, 6) rfl)) rfl (by decide) rfl rfl ⟨by decide, by decide⟩ (sf_X9_step_r68d  hD J z1 z0 (by omega) rfl  (fun h J S1 u2 u3 qu2 qu3 ru2 X4 => ?_))
  have Sm := jSm_tr rfl Sm S1
  rw [X4] at D
  have eu2 := (show 0 ≤ u2.toInt ∧ u2.toInt ≤ 3 from qu2 ▸ jrg_f J sg_68_5_6_1_0_1)
  try rw [vrf qu2] at D
  have eu3 := (show 0 ≤ u3.toInt ∧ u3.toInt ≤ 400 from qu3 ▸ jrg_f J sg_68_3_4_1_0_1)
  try rw [vrf qu3] at D
  show jX m_X2_readSum 8 0 0 163 [(2, .int 3), (0, .ref 95), (1, .int 7), (3, .int l3)] [] _ 0 0 _
  refine z_iinc (x := l3) (lsx9 := fun v5 => [(3, .int v5), (2, .int 3), (0, .ref 95), (1, .int 7)]) rfl rfl rfl jko_1 (by omega) rfl (fun _ => rfl) (fun v5 ev5 => ?_)
  refine x_goto (tgt := 4) rfl rfl ?_
  try rw [show (l3.toInt + 1) = v5.toInt from by omega] at D
  exact jX.sub (jsb_c rfl (jsb_c rfl (jsb_c rfl (jsb_c rfl jsb_n)))) (k4 3 v5 u3 u2 h (by omega) (jr_of jk_3 (by omega)) (jr_of rfl (by omega)) (jr_of rfl (by omega)) (jr_of rfl (by omega)) (by omega) qu3 qu2 J Sm (by rw [jk_3]; exact D))
set_option maxRecDepth 100000 in
set_option maxHeartbeats 4000000 in
theorem ct_X2_readSum_r95_c7d_115 {Dy : jH → Prop} {h0 : jH} {Q : Option Value → jH → Prop} {dr : (Int × jW)} {K4 : Int → Int → jW → (Int × jW)} {R4 : Int} (hD : jDk Dy) (hQ : ∀ (v : Int32) hx9, 0 ≤ v.toInt ∧ v.toInt ≤ 1 → jJ jSgX Dy hx9 → jSm fp_X2_readSum_r95_c7d h0 hx9 → ∀ u0 u1 : Int32, jiv hx9 68 5 = u0 → jiv hx9 68 3 = u1 → (u0.toInt ≠ 3 ∨ u1.toInt ≤ 399) → dr.1 = v.toInt → dr.2 = vw hx9 → Q (some (.int v)) hx9) (k4 : ∀ (l2 : Int32) (l3 : Int32) (g0 : Int32) (g1 : Int32) (h : jH), 400 - l3.toInt < R4 → (-1) ≤ l2.toInt ∧ l2.toInt ≤ 4 → 0 ≤ l3.toInt ∧ l3.toInt ≤ 400 → 0 ≤ g0.toInt ∧ g0.toInt ≤ 400 → 0 ≤ g1.toInt ∧ g1.toInt ≤ 3 → (g1.toInt ≠ 3 ∨ g0.toInt ≤ 399) → jiv h 68 3 = g0 → jiv h 68 5 = g1 → jJ jSgX Dy h → jSm fp_X2_readSum_r95_c7d h0 h → K4 l2.toInt l3.toInt (vw h) = dr → jX m_X2_readSum 8 0 0 4 [(0, .ref 95), (1, .int 7), (2, .int l2), (3, .int l3)] [] h 0 0 Q) : ∀ (l3 : Int32) (g0 : Int32) (g1 : Int32) (h : jH), 0 ≤ l3.toInt ∧ l3.toInt ≤ 399 → 0 ≤ g0.toInt ∧ g0.toInt ≤ 400 → 0 ≤ g1.toInt ∧ g1.toInt ≤ 3 → (g1.toInt ≠ 3 ∨ g0.toInt ≤ 399) → jiv h 68 3 = g0 → jiv h 68 5 = g1 → 400 - l3.toInt ≤ R4 → jJ jSgX Dy h → jSm fp_X2_readSum_r95_c7d h0 h → d_X2_readSum_r95_c7d_115 K4  l3.toInt (vw h) = dr → jX m_X2_readSum 8 0 0 115 [(0, .ref 95), (1, .int 7), (3, .int l3)] [] h 0 0 Q := by
  intro l3 g0 g1 h y0 y1 y2 y3 z0 z1 m4 J Sm D
  unfold d_X2_readSum_r95_c7d_115 at D
  try rw [vrf z0] at D
  try rw [vrf z1] at D
  refine x_aloadn (x := 95) rfl rfl ?_
  refine z_getR (N := 6) (b := 68) 2 0 rfl f_2_30 rfl J rfl 12160 ⟨rfl, rfl⟩ rfl ?_
  refine x_bipush (v := 43) rfl kb_43 ?_
  refine x_inv (N := m_X9_isSign) (As := [.int 43]) (b := 68) (st := []) (dx9 := 1) (mc := 0) (ms := 0) (host := "") 9 rfl t_X9_isSign ⟨Or.inl q_2_55, i_X9_isSign.1, i_X9_isSign.2⟩ ⟨by decide, rfl⟩ (congrArg Prod.fst (J.1.1 68 (9, 6) rfl)) rfl (by decide) rfl rfl ⟨by decide, by decide⟩ (sf_X9_isSign_r68d (jr_of jk_43 (by omega)) hD J z1 z0 (by omega) rfl  (fun v6 h ev6 J S1 u2 u3 qu2 qu3 ru2 X4 X5 => ?_))
  have Sm := jSm_tr rfl Sm S1
  try rw [jk_43] at X4
  try rw [X4] at D
  try rw [← X5] at D
  have eu2 := (show 0 ≤ u2.toInt ∧ u2.toInt ≤ 3 from qu2 ▸ jrg_f J sg_68_5_6_1_0_1)
  have Luu2 := congrArg Int32.toInt (((jmc S1 rfl z1)).symm.trans qu2)
  try rw [Luu2] at D
  try rw [vrf qu2] at D
  have eu3 := (show 0 ≤ u3.toInt ∧ u3.toInt ≤ 400 from qu3 ▸ jrg_f J sg_68_3_4_1_0_1)
  have Luu3 := congrArg Int32.toInt (((jmc S1 rfl z0)).symm.trans qu3)
  try rw [Luu3] at D
  try rw [vrf qu3] at D
  show jX m_X2_readSum 8 0 0 124 [(0, .ref 95), (1, .int 7), (3, .int l3)] [.int v6] _ 0 0 _
  refine x_ifeq (tgt := 131) rfl rfl (ti_eq rfl jk_0 ⟨fun c7 => ?_, fun c7 => ?_⟩)
  ·
    rw [if_pos (by omega)] at D
    refine x_aloadn (x := 95) rfl rfl ?_
    refine z_getR (N := 6) (b := 68) 2 0 rfl f_2_30 rfl J rfl 12160 ⟨rfl, rfl⟩ rfl ?_
    refine x_bipush (v := 45) rfl kb_45 ?_
    refine x_inv (N := m_X9_isSign) (As := [.int 45]) (b := 68) (st := []) (dx9 := 1) (mc := 0) (ms := 0) (host := "") 9 rfl t_X9_isSign ⟨Or.inl q_2_55, i_X9_isSign.1, i_X9_isSign.2⟩ ⟨by decide, rfl⟩ (congrArg Prod.fst (J.1.1 68 (9, 6) rfl)) rfl (by decide) rfl rfl ⟨by decide, by decide⟩ (sf_X9_isSign_r68d (jr_of jk_45 (by omega)) hD J qu2 qu3 (by omega) rfl  (fun v13 h ev13 J S8 u9 u10 qu9 qu10 ru9 X11 X12 => ?_))
    have Sm := jSm_tr rfl Sm S8
    try rw [jk_45] at X11
    try rw [X11] at D
    try rw [← X12] at D
    have eu9 := (show 0 ≤ u9.toInt ∧ u9.toInt ≤ 3 from qu9 ▸ jrg_f J sg_68_5_6_1_0_1)
    have Luu9 := congrArg Int32.toInt (((jmc S8 rfl qu2)).symm.trans qu9)
    try rw [Luu9] at D
    try rw [vrf qu9] at D
    have eu10 := (show 0 ≤ u10.toInt ∧ u10.toInt ≤ 400 from qu10 ▸ jrg_f J sg_68_3_4_1_0_1)
    have Luu10 := congrArg Int32.toInt (((jmc S8 rfl qu3)).symm.trans qu10)
    try rw [Luu10] at D
    try rw [vrf qu10] at D
    show jX m_X2_readSum 8 0 0 140 [(0, .ref 95), (1, .int 7), (3, .int l3)] [.int v13] _ 0 0 _
    refine x_ifeq (tgt := 147) rfl rfl (ti_eq rfl jk_0 ⟨fun c14 => ?_, fun c14 => ?_⟩)
    ·
      rw [if_pos (by omega)] at D
      refine x_iconst (v := (-1)) rfl ki_m1 ?_
      exact jX.sub (jsb_c rfl (jsb_c rfl (jsb_c rfl jsb_n))) (ct_X2_readSum_r95_c7d_100148 hD hQ k4 l3 u10 u9 h (jr_of rfl (by omega)) (jr_of rfl (by omega)) (jr_of rfl (by omega)) (by omega) qu10 qu9 (by omega) J Sm D)
    ·
      rw [if_neg (by omega)] at D
      refine x_iconst (v := 4) rfl ki_4 ?_
      refine x_goto (tgt := 148) rfl rfl ?_
      exact jX.sub (jsb_c rfl (jsb_c rfl (jsb_c rfl jsb_n))) (ct_X2_readSum_r95_c7d_600148 hD hQ k4 l3 u10 u9 h (jr_of rfl (by omega)) (jr_of rfl (by omega)) (jr_of rfl (by omega)) (by omega) qu10 qu9 (by omega) J Sm D)
  ·
    rw [if_neg (by omega)] at D
    refine x_iconst (v := 3) rfl ki_3 ?_
    refine x_goto (tgt := 148) rfl rfl ?_
    exact jX.sub (jsb_c rfl (jsb_c rfl (jsb_c rfl jsb_n))) (ct_X2_readSum_r95_c7d_500148 hD hQ k4 l3 u3 u2 h (jr_of rfl (by omega)) (jr_of rfl (by omega)) (jr_of rfl (by omega)) (by omega) qu3 qu2 (by omega) J Sm D)
set_option maxRecDepth 100000 in
set_option maxHeartbeats 4000000 in
theorem ct_X2_readSum_r95_c7d_105 {Dy : jH → Prop} {h0 : jH} {Q : Option Value → jH → Prop} {dr : (Int × jW)} {K4 : Int → Int → jW → (Int × jW)} {R4 : Int} (hD : jDk Dy) (hQ : ∀ (v : Int32) hx9, 0 ≤ v.toInt ∧ v.toInt ≤ 1 → jJ jSgX Dy hx9 → jSm fp_X2_readSum_r95_c7d h0 hx9 → ∀ u0 u1 : Int32, jiv hx9 68 5 = u0 → jiv hx9 68 3 = u1 → (u0.toInt ≠ 3 ∨ u1.toInt ≤ 399) → dr.1 = v.toInt → dr.2 = vw hx9 → Q (some (.int v)) hx9) (k4 : ∀ (l2 : Int32) (l3 : Int32) (g0 : Int32) (g1 : Int32) (h : jH), 400 - l3.toInt < R4 → (-1) ≤ l2.toInt ∧ l2.toInt ≤ 4 → 0 ≤ l3.toInt ∧ l3.toInt ≤ 400 → 0 ≤ g0.toInt ∧ g0.toInt ≤ 400 → 0 ≤ g1.toInt ∧ g1.toInt ≤ 3 → (g1.toInt ≠ 3 ∨ g0.toInt ≤ 399) → jiv h 68 3 = g0 → jiv h 68 5 = g1 → jJ jSgX Dy h → jSm fp_X2_readSum_r95_c7d h0 h → K4 l2.toInt l3.toInt (vw h) = dr → jX m_X2_readSum 8 0 0 4 [(0, .ref 95), (1, .int 7), (2, .int l2), (3, .int l3)] [] h 0 0 Q) : ∀ (l2 : Int32) (l3 : Int32) (g0 : Int32) (g1 : Int32) (h : jH), (-1) ≤ l2.toInt ∧ l2.toInt ≤ 4 → 0 ≤ l3.toInt ∧ l3.toInt ≤ 399 → 0 ≤ g0.toInt ∧ g0.toInt ≤ 400 → 0 ≤ g1.toInt ∧ g1.toInt ≤ 3 → (g1.toInt ≠ 3 ∨ g0.toInt ≤ 399) → jiv h 68 3 = g0 → jiv h 68 5 = g1 → 400 - l3.toInt ≤ R4 → jJ jSgX Dy h → jSm fp_X2_readSum_r95_c7d h0 h → d_X2_readSum_r95_c7d_105 K4  l2.toInt l3.toInt (vw h) = dr → jX m_X2_readSum 8 0 0 105 [(0, .ref 95), (1, .int 7), (2, .int l2), (3, .int l3)] [] h 0 0 Q := by
  intro l2 l3 g0 g1 h y0 y1 y2 y3 y4 z0 z1 m4 J Sm D
  unfold d_X2_readSum_r95_c7d_105 at D
  try rw [vrf z0] at D
  try rw [vrf z1] at D
  refine x_iloadn (x := l2) rfl rfl ?_
  refine x_iconst (v := (-1)) rfl ki_m1 ?_
  refine x_iceq (tgt := 115) rfl rfl (ti_eq rfl jk_m1 ⟨fun c1 => ?_, fun c1 => ?_⟩)
  ·
    rw [if_pos (by omega)] at D
    exact jX.sub (jsb_c rfl (jsb_c rfl (jsb_c rfl jsb_n))) (ct_X2_readSum_r95_c7d_115 hD hQ k4 l3 g0 g1 h (jr_of rfl (by omega)) (jr_of rfl (by omega)) (jr_of rfl (by omega)) (by omega) z0 z1 (by omega) J Sm D)
  ·
    rw [if_neg (by omega)] at D
    refine x_aloadn (x := 95) rfl rfl ?_
    refine x_iloadn (x := l2) rfl rfl ?_
    refine x_inv (N := m_X2_emit) (As := [.int l2]) (b := 95) (st := []) (dx9 := 1) (mc := 0) (ms := 0) (host := "") 2 rfl t_X2_emit ⟨Or.inl q_2_89, i_X2_emit.1, i_X2_emit.2⟩ ⟨by decide, rfl⟩ (congrArg Prod.fst (J.1.1 95 (2, 6) rfl)) rfl (by decide) rfl rfl ⟨by decide, by decide⟩ (sf_X2_emit_r95d  hD J rfl  (fun h J S2 X3 => ?_))
    have Sm := jSm_tr rfl Sm S2
    rw [X3] at D
    show jX m_X2_readSum 8 0 0 115 [(0, .ref 95), (1, .int 7), (2, .int l2), (3, .int l3)] [] _ 0 0 _
    exact jX.sub (jsb_c rfl (jsb_c rfl (jsb_c rfl jsb_n))) (ct_X2_readSum_r95_c7d_115 hD hQ k4 l3 g0 g1 h (jr_of rfl (by omega)) (jr_of rfl (by omega)) (jr_of rfl (by omega)) (by omega) (jmc S2 rfl z0) (jmc S2 rfl z1) (by omega) J Sm D)
set_option maxRecDepth 100000 in
set_option maxHeartbeats 4000000 in
theorem ct_X2_readSum_r95_c7d_100081 {Dy : jH → Prop} {h0 : jH} {Q : Option Value → jH → Prop} {dr : (Int × jW)} {K4 : Int → Int → jW → (Int × jW)} {K17 : Int → Int → Int → Int → jW → (Int × jW)} {R4 : Int} {R17 : Int} (hD : jDk Dy) (hQ : ∀ (v : Int32) hx9, 0 ≤ v.toInt ∧ v.toInt ≤ 1 → jJ jSgX Dy hx9 → jSm fp_X2_readSum_r95_c7d h0 hx9 → ∀ u0 u1 : Int32, jiv hx9 68 5 = u0 → jiv hx9 68 3 = u1 → (u0.toInt ≠ 3 ∨ u1.toInt ≤ 399) → dr.1 = v.toInt → dr.2 = vw hx9 → Q (some (.int v)) hx9) (k4 : ∀ (l2 : Int32) (l3 : Int32) (g0 : Int32) (g1 : Int32) (h : jH), 400 - l3.toInt < R4 → (-1) ≤ l2.toInt ∧ l2.toInt ≤ 4 → 0 ≤ l3.toInt ∧ l3.toInt ≤ 400 → 0 ≤ g0.toInt ∧ g0.toInt ≤ 400 → 0 ≤ g1.toInt ∧ g1.toInt ≤ 3 → (g1.toInt ≠ 3 ∨ g0.toInt ≤ 399) → jiv h 68 3 = g0 → jiv h 68 5 = g1 → jJ jSgX Dy h → jSm fp_X2_readSum_r95_c7d h0 h → K4 l2.toInt l3.toInt (vw h) = dr → jX m_X2_readSum 8 0 0 4 [(0, .ref 95), (1, .int 7), (2, .int l2), (3, .int l3)] [] h 0 0 Q) (k17 : ∀ (l2 : Int32) (l3 : Int32) (l4 : Int32) (l5 : Int32) (g0 : Int32) (g1 : Int32) (h : jH), 400 - l5.toInt < R17 → (-1) ≤ l2.toInt ∧ l2.toInt ≤ 4 → 0 ≤ l3.toInt ∧ l3.toInt ≤ 399 → (-1) ≤ l4.toInt ∧ l4.toInt ≤ 6 → 0 ≤ l5.toInt ∧ l5.toInt ≤ 400 → 0 ≤ g0.toInt ∧ g0.toInt ≤ 400 → 0 ≤ g1.toInt ∧ g1.toInt ≤ 3 → (g1.toInt ≠ 3 ∨ g0.toInt ≤ 399) → jiv h 68 3 = g0 → jiv h 68 5 = g1 → 400 - l3.toInt ≤ R4 → jJ jSgX Dy h → jSm fp_X2_readSum_r95_c7d h0 h → K17 l2.toInt l3.toInt l4.toInt l5.toInt (vw h) = dr → jX m_X2_readSum 8 0 0 17 [(0, .ref 95), (1, .int 7), (2, .int l2), (3, .int l3), (4, .int l4), (5, .int l5)] [] h 0 0 Q) : ∀ (l2 : Int32) (l3 : Int32) (l5 : Int32) (g0 : Int32) (g1 : Int32) (h : jH), (-1) ≤ l2.toInt ∧ l2.toInt ≤ 4 → 0 ≤ l3.toInt ∧ l3.toInt ≤ 399 → 0 ≤ l5.toInt ∧ l5.toInt ≤ 399 → 0 ≤ g0.toInt ∧ g0.toInt ≤ 400 → 0 ≤ g1.toInt ∧ g1.toInt ≤ 3 → (g1.toInt ≠ 3 ∨ g0.toInt ≤ 399) → jiv h 68 3 = g0 → jiv h 68 5 = g1 → 400 - l3.toInt ≤ R4 → 400 - l5.toInt ≤ R17 → jJ jSgX Dy h → jSm fp_X2_readSum_r95_c7d h0 h → d_X2_readSum_r95_c7d_100081 K4 K17  l2.toInt l3.toInt l5.toInt (vw h) = dr → jX m_X2_readSum 8 0 0 81 [(0, .ref 95), (1, .int 7), (2, .int l2), (3, .int l3), (5, .int l5)] [.int (-1)] h 0 0 Q := by
  intro l2 l3 l5 g0 g1 h y0 y1 y2 y3 y4 y5 z0 z1 m4 m17 J Sm D
  unfold d_X2_readSum_r95_c7d_100081 at D
  try rw [vrf z0] at D
  try rw [vrf z1] at D
  refine x_istore (lsx9 := [(4, .int (-1)), (0, .ref 95), (1, .int 7), (2, .int l2), (3, .int l3), (5, .int l5)]) rfl rfl rfl ?_
  refine x_iload (x := (-1)) rfl rfl ?_
  refine x_iconst (v := (-1)) rfl ki_m1 ?_
  refine x_icne (tgt := 92) rfl rfl (ti_ne jk_m1 jk_m1 (bn_f (by omega) ?_))
  refine x_goto (tgt := 105) rfl rfl ?_
  exact jX.sub (jsb_c rfl (jsb_c rfl (jsb_c rfl (jsb_c rfl jsb_n)))) (ct_X2_readSum_r95_c7d_105 hD hQ k4 l2 l3 g0 g1 h (jr_of rfl (by omega)) (jr_of rfl (by omega)) (jr_of rfl (by omega)) (jr_of rfl (by omega)) (by omega) z0 z1 (by omega) J Sm D)
set_option maxRecDepth 100000 in
set_option maxHeartbeats 4000000 in
theorem ct_X2_readSum_r95_c7d_800081 {Dy : jH → Prop} {h0 : jH} {Q : Option Value → jH → Prop} {dr : (Int × jW)} {K4 : Int → Int → jW → (Int × jW)} {K17 : Int → Int → Int → Int → jW → (Int × jW)} {R4 : Int} {R17 : Int} (hD : jDk Dy) (hQ : ∀ (v : Int32) hx9, 0 ≤ v.toInt ∧ v.toInt ≤ 1 → jJ jSgX Dy hx9 → jSm fp_X2_readSum_r95_c7d h0 hx9 → ∀ u0 u1 : Int32, jiv hx9 68 5 = u0 → jiv hx9 68 3 = u1 → (u0.toInt ≠ 3 ∨ u1.toInt ≤ 399) → dr.1 = v.toInt → dr.2 = vw hx9 → Q (some (.int v)) hx9) (k4 : ∀ (l2 : Int32) (l3 : Int32) (g0 : Int32) (g1 : Int32) (h : jH), 400 - l3.toInt < R4 → (-1) ≤ l2.toInt ∧ l2.toInt ≤ 4 → 0 ≤ l3.toInt ∧ l3.toInt ≤ 400 → 0 ≤ g0.toInt ∧ g0.toInt ≤ 400 → 0 ≤ g1.toInt ∧ g1.toInt ≤ 3 → (g1.toInt ≠ 3 ∨ g0.toInt ≤ 399) → jiv h 68 3 = g0 → jiv h 68 5 = g1 → jJ jSgX Dy h → jSm fp_X2_readSum_r95_c7d h0 h → K4 l2.toInt l3.toInt (vw h) = dr → jX m_X2_readSum 8 0 0 4 [(0, .ref 95), (1, .int 7), (2, .int l2), (3, .int l3)] [] h 0 0 Q) (k17 : ∀ (l2 : Int32) (l3 : Int32) (l4 : Int32) (l5 : Int32) (g0 : Int32) (g1 : Int32) (h : jH), 400 - l5.toInt < R17 → (-1) ≤ l2.toInt ∧ l2.toInt ≤ 4 → 0 ≤ l3.toInt ∧ l3.toInt ≤ 399 → (-1) ≤ l4.toInt ∧ l4.toInt ≤ 6 → 0 ≤ l5.toInt ∧ l5.toInt ≤ 400 → 0 ≤ g0.toInt ∧ g0.toInt ≤ 400 → 0 ≤ g1.toInt ∧ g1.toInt ≤ 3 → (g1.toInt ≠ 3 ∨ g0.toInt ≤ 399) → jiv h 68 3 = g0 → jiv h 68 5 = g1 → 400 - l3.toInt ≤ R4 → jJ jSgX Dy h → jSm fp_X2_readSum_r95_c7d h0 h → K17 l2.toInt l3.toInt l4.toInt l5.toInt (vw h) = dr → jX m_X2_readSum 8 0 0 17 [(0, .ref 95), (1, .int 7), (2, .int l2), (3, .int l3), (4, .int l4), (5, .int l5)] [] h 0 0 Q) : ∀ (l2 : Int32) (l3 : Int32) (l5 : Int32) (g0 : Int32) (g1 : Int32) (h : jH), (-1) ≤ l2.toInt ∧ l2.toInt ≤ 4 → 0 ≤ l3.toInt ∧ l3.toInt ≤ 399 → 0 ≤ l5.toInt ∧ l5.toInt ≤ 399 → 0 ≤ g0.toInt ∧ g0.toInt ≤ 400 → 0 ≤ g1.toInt ∧ g1.toInt ≤ 3 → (g1.toInt ≠ 3 ∨ g0.toInt ≤ 399) → jiv h 68 3 = g0 → jiv h 68 5 = g1 → 400 - l3.toInt ≤ R4 → 400 - l5.toInt ≤ R17 → jJ jSgX Dy h → jSm fp_X2_readSum_r95_c7d h0 h → d_X2_readSum_r95_c7d_800081 K4 K17  l2.toInt l3.toInt l5.toInt (vw h) = dr → jX m_X2_readSum 8 0 0 81 [(0, .ref 95), (1, .int 7), (2, .int l2), (3, .int l3), (5, .int l5)] [.int 6] h 0 0 Q := by
  intro l2 l3 l5 g0 g1 h y0 y1 y2 y3 y4 y5 z0 z1 m4 m17 J Sm D
  unfold d_X2_readSum_r95_c7d_800081 at D
  try rw [vrf z0] at D
  try rw [vrf z1] at D
  refine x_istore (lsx9 := [(4, .int 6), (0, .ref 95), (1, .int 7), (2, .int l2), (3, .int l3), (5, .int l5)]) rfl rfl rfl ?_
  refine x_iload (x := 6) rfl rfl ?_
  refine x_iconst (v := (-1)) rfl ki_m1 ?_
  refine x_icne (tgt := 92) rfl rfl (ti_ne jk_6 jk_m1 (bn_t (by omega) ?_))
  refine x_aloadn (x := 95) rfl rfl ?_
  refine z_getR (N := 6) (b := 68) 2 0 rfl f_2_30 rfl J rfl 12160 ⟨rfl, rfl⟩ rfl ?_
  refine x_inv (N := m_X9_step) (As := []) (b := 68) (st := []) (dx9 := 2) (mc := 0) (ms := 0) (host := "") 9 rfl t_X9_step ⟨Or.inl q_2_62, i_X9_step.1, i_X9_step.2⟩ ⟨by decide, rfl⟩ (congrArg Prod.fst (J.1.1 68 (9, 6) rfl)) rfl (by decide) rfl rfl ⟨by decide, by decide⟩ (sf_X9_step_r68d  hD J z1 z0 (by omega) rfl  (fun h J S1 u2 u3 qu2 qu3 ru2 X4 => ?_))
  have Sm := jSm_tr rfl Sm S1
  rw [X4] at D
  have eu2 := (show 0 ≤ u2.toInt ∧ u2.toInt ≤ 3 from qu2 ▸ jrg_f J sg_68_5_6_1_0_1)
  try rw [vrf qu2] at D
  have eu3 := (show 0 ≤ u3.toInt ∧ u3.toInt ≤ 400 from qu3 ▸ jrg_f J sg_68_3_4_1_0_1)
  try rw [vrf qu3] at D
  show jX m_X2_readSum 8 0 0 99 [(4, .int 6), (0, .ref 95), (1, .int 7), (2, .int l2), (3, .int l3), (5, .int l5)] [] _ 0 0 _
  refine z_iinc (x := l5) (lsx9 := fun v5 => [(5, .int v5), (4, .int 6), (0, .ref 95), (1, .int 7), (2, .int l2), (3, .int l3)]) rfl rfl rfl jko_1 (by omega) rfl (fun _ => rfl) (fun v5 ev5 => ?_)
  refine x_goto (tgt := 17) rfl rfl ?_
  try rw [show (l5.toInt + 1) = v5.toInt from by omega] at D
  exact jX.sub (jsb_c rfl (jsb_c rfl (jsb_c rfl (jsb_c rfl (jsb_c rfl (jsb_c rfl jsb_n)))))) (k17 l2 l3 6 v5 u3 u2 h (by omega) (jr_of rfl (by omega)) (jr_of rfl (by omega)) (jr_of jk_6 (by omega)) (jr_of rfl (by omega)) (jr_of rfl (by omega)) (jr_of rfl (by omega)) (by omega) qu3 qu2 (by omega) J Sm (by rw [jk_6]; exact D))
set_option maxRecDepth 100000 in
set_option maxHeartbeats 4000000 in
theorem ct_X2_readSum_r95_c7d_700081 {Dy : jH → Prop} {h0 : jH} {Q : Option Value → jH → Prop} {dr : (Int × jW)} {K4 : Int → Int → jW → (Int × jW)} {K17 : Int → Int → Int → Int → jW → (Int × jW)} {R4 : Int} {R17 : Int} (hD : jDk Dy) (hQ : ∀ (v : Int32) hx9, 0 ≤ v.toInt ∧ v.toInt ≤ 1 → jJ jSgX Dy hx9 → jSm fp_X2_readSum_r95_c7d h0 hx9 → ∀ u0 u1 : Int32, jiv hx9 68 5 = u0 → jiv hx9 68 3 = u1 → (u0.toInt ≠ 3 ∨ u1.toInt ≤ 399) → dr.1 = v.toInt → dr.2 = vw hx9 → Q (some (.int v)) hx9) (k4 : ∀ (l2 : Int32) (l3 : Int32) (g0 : Int32) (g1 : Int32) (h : jH), 400 - l3.toInt < R4 → (-1) ≤ l2.toInt ∧ l2.toInt ≤ 4 → 0 ≤ l3.toInt ∧ l3.toInt ≤ 400 → 0 ≤ g0.toInt ∧ g0.toInt ≤ 400 → 0 ≤ g1.toInt ∧ g1.toInt ≤ 3 → (g1.toInt ≠ 3 ∨ g0.toInt ≤ 399) → jiv h 68 3 = g0 → jiv h 68 5 = g1 → jJ jSgX Dy h → jSm fp_X2_readSum_r95_c7d h0 h → K4 l2.toInt l3.toInt (vw h) = dr → jX m_X2_readSum 8 0 0 4 [(0, .ref 95), (1, .int 7), (2, .int l2), (3, .int l3)] [] h 0 0 Q) (k17 : ∀ (l2 : Int32) (l3 : Int32) (l4 : Int32) (l5 : Int32) (g0 : Int32) (g1 : Int32) (h : jH), 400 - l5.toInt < R17 → (-1) ≤ l2.toInt ∧ l2.toInt ≤ 4 → 0 ≤ l3.toInt ∧ l3.toInt ≤ 399 → (-1) ≤ l4.toInt ∧ l4.toInt ≤ 6 → 0 ≤ l5.toInt ∧ l5.toInt ≤ 400 → 0 ≤ g0.toInt ∧ g0.toInt ≤ 400 → 0 ≤ g1.toInt ∧ g1.toInt ≤ 3 → (g1.toInt ≠ 3 ∨ g0.toInt ≤ 399) → jiv h 68 3 = g0 → jiv h 68 5 = g1 → 400 - l3.toInt ≤ R4 → jJ jSgX Dy h → jSm fp_X2_readSum_r95_c7d h0 h → K17 l2.toInt l3.toInt l4.toInt l5.toInt (vw h) = dr → jX m_X2_readSum 8 0 0 17 [(0, .ref 95), (1, .int 7), (2, .int l2), (3, .int l3), (4, .int l4), (5, .int l5)] [] h 0 0 Q) : ∀ (l2 : Int32) (l3 : Int32) (l5 : Int32) (g0 : Int32) (g1 : Int32) (h : jH), (-1) ≤ l2.toInt ∧ l2.toInt ≤ 4 → 0 ≤ l3.toInt ∧ l3.toInt ≤ 399 → 0 ≤ l5.toInt ∧ l5.toInt ≤ 399 → 0 ≤ g0.toInt ∧ g0.toInt ≤ 400 → 0 ≤ g1.toInt ∧ g1.toInt ≤ 3 → (g1.toInt ≠ 3 ∨ g0.toInt ≤ 399) → jiv h 68 3 = g0 → jiv h 68 5 = g1 → 400 - l3.toInt ≤ R4 → 400 - l5.toInt ≤ R17 → jJ jSgX Dy h → jSm fp_X2_readSum_r95_c7d h0 h → d_X2_readSum_r95_c7d_700081 K4 K17  l2.toInt l3.toInt l5.toInt (vw h) = dr → jX m_X2_readSum 8 0 0 81 [(0, .ref 95), (1, .int 7), (2, .int l2), (3, .int l3), (5, .int l5)] [.int 5] h 0 0 Q := by
  intro l2 l3 l5 g0 g1 h y0 y1 y2 y3 y4 y5 z0 z1 m4 m17 J Sm D
  unfold d_X2_readSum_r95_c7d_700081 at D
  try rw [vrf z0] at D
  try rw [vrf z1] at D
  refine x_istore (lsx9 := [(4, .int 5), (0, .ref 95), (1, .int 7), (2, .int l2), (3, .int l3), (5, .int l5)]) rfl rfl rfl ?_
  refine x_iload (x := 5) rfl rfl ?_
  refine x_iconst (v := (-1)) rfl ki_m1 ?_
  refine x_icne (tgt := 92) rfl rfl (ti_ne jk_5 jk_m1 (bn_t (by omega) ?_))
  refine x_aloadn (x := 95) rfl rfl ?_
  refine z_getR (N := 6) (b := 68) 2 0 rfl f_2_30 rfl J rfl 12160 ⟨rfl, rfl⟩ rfl ?_
  refine x_inv (N := m_X9_step) (As := []) (b := 68) (st := []) (dx9 := 2) (mc := 0) (ms := 0) (host := "") 9 rfl t_X9_step ⟨Or.inl q_2_62, i_X9_step.1, i_X9_step.2⟩ ⟨by decide, rfl⟩ (congrArg Prod.fst (J.1.1 68 (9, 6) rfl)) rfl (by decide) rfl rfl ⟨by decide, by decide⟩ (sf_X9_step_r68d  hD J z1 z0 (by omega) rfl  (fun h J S1 u2 u3 qu2 qu3 ru2 X4 => ?_))
  have Sm := jSm_tr rfl Sm S1
  rw [X4] at D
  have eu2 := (show 0 ≤ u2.toInt ∧ u2.toInt ≤ 3 from qu2 ▸ jrg_f J sg_68_5_6_1_0_1)
  try rw [vrf qu2] at D
  have eu3 := (show 0 ≤ u3.toInt ∧ u3.toInt ≤ 400 from qu3 ▸ jrg_f J sg_68_3_4_1_0_1)
  try rw [vrf qu3] at D
  show jX m_X2_readSum 8 0 0 99 [(4, .int 5), (0, .ref 95), (1, .int 7), (2, .int l2), (3, .int l3), (5, .int l5)] [] _ 0 0 _
  refine z_iinc (x := l5) (lsx9 := fun v5 => [(5, .int v5), (4, .int 5), (0, .ref 95), (1, .int 7), (2, .int l2), (3, .int l3)]) rfl rfl rfl jko_1 (by omega) rfl (fun _ => rfl) (fun v5 ev5 => ?_)
  refine x_goto (tgt := 17) rfl rfl ?_
  try rw [show (l5.toInt + 1) = v5.toInt from by omega] at D
  exact jX.sub (jsb_c rfl (jsb_c rfl (jsb_c rfl (jsb_c rfl (jsb_c rfl (jsb_c rfl jsb_n)))))) (k17 l2 l3 5 v5 u3 u2 h (by omega) (jr_of rfl (by omega)) (jr_of rfl (by omega)) (jr_of jk_5 (by omega)) (jr_of rfl (by omega)) (jr_of rfl (by omega)) (jr_of rfl (by omega)) (by omega) qu3 qu2 (by omega) J Sm (by rw [jk_5]; exact D))
set_option maxRecDepth 100000 in
set_option maxHeartbeats 4000000 in
theorem ct_X2_readSum_r95_c7d_47 {Dy : jH → Prop} {h0 : jH} {Q : Option Value → jH → Prop} {dr : (Int × jW)} {K4 : Int → Int → jW → (Int × jW)} {K17 : Int → Int → Int → Int → jW → (Int × jW)} {R4 : Int} {R17 : Int} (hD : jDk Dy) (hQ : ∀ (v : Int32) hx9, 0 ≤ v.toInt ∧ v.toInt ≤ 1 → jJ jSgX Dy hx9 → jSm fp_X2_readSum_r95_c7d h0 hx9 → ∀ u0 u1 : Int32, jiv hx9 68 5 = u0 → jiv hx9 68 3 = u1 → (u0.toInt ≠ 3 ∨ u1.toInt ≤ 399) → dr.1 = v.toInt → dr.2 = vw hx9 → Q (some (.int v)) hx9) (k4 : ∀ (l2 : Int32) (l3 : Int32) (g0 : Int32) (g1 : Int32) (h : jH), 400 - l3.toInt < R4 → (-1) ≤ l2.toInt ∧ l2.toInt ≤ 4 → 0 ≤ l3.toInt ∧ l3.toInt ≤ 400 → 0 ≤ g0.toInt ∧ g0.toInt ≤ 400 → 0 ≤ g1.toInt ∧ g1.toInt ≤ 3 → (g1.toInt ≠ 3 ∨ g0.toInt ≤ 399) → jiv h 68 3 = g0 → jiv h 68 5 = g1 → jJ jSgX Dy h → jSm fp_X2_readSum_r95_c7d h0 h → K4 l2.toInt l3.toInt (vw h) = dr → jX m_X2_readSum 8 0 0 4 [(0, .ref 95), (1, .int 7), (2, .int l2), (3, .int l3)] [] h 0 0 Q) (k17 : ∀ (l2 : Int32) (l3 : Int32) (l4 : Int32) (l5 : Int32) (g0 : Int32) (g1 : Int32) (h : jH), 400 - l5.toInt < R17 → (-1) ≤ l2.toInt ∧ l2.toInt ≤ 4 → 0 ≤ l3.toInt ∧ l3.toInt ≤ 399 → (-1) ≤ l4.toInt ∧ l4.toInt ≤ 6 → 0 ≤ l5.toInt ∧ l5.toInt ≤ 400 → 0 ≤ g0.toInt ∧ g0.toInt ≤ 400 → 0 ≤ g1.toInt ∧ g1.toInt ≤ 3 → (g1.toInt ≠ 3 ∨ g0.toInt ≤ 399) → jiv h 68 3 = g0 → jiv h 68 5 = g1 → 400 - l3.toInt ≤ R4 → jJ jSgX Dy h → jSm fp_X2_readSum_r95_c7d h0 h → K17 l2.toInt l3.toInt l4.toInt l5.toInt (vw h) = dr → jX m_X2_readSum 8 0 0 17 [(0, .ref 95), (1, .int 7), (2, .int l2), (3, .int l3), (4, .int l4), (5, .int l5)] [] h 0 0 Q) : ∀ (l2 : Int32) (l3 : Int32) (l5 : Int32) (g0 : Int32) (g1 : Int32) (h : jH), (-1) ≤ l2.toInt ∧ l2.toInt ≤ 4 → 0 ≤ l3.toInt ∧ l3.toInt ≤ 399 → 0 ≤ l5.toInt ∧ l5.toInt ≤ 399 → 0 ≤ g0.toInt ∧ g0.toInt ≤ 400 → 0 ≤ g1.toInt ∧ g1.toInt ≤ 3 → (g1.toInt ≠ 3 ∨ g0.toInt ≤ 399) → jiv h 68 3 = g0 → jiv h 68 5 = g1 → 400 - l3.toInt ≤ R4 → 400 - l5.toInt ≤ R17 → jJ jSgX Dy h → jSm fp_X2_readSum_r95_c7d h0 h → d_X2_readSum_r95_c7d_47 K4 K17  l2.toInt l3.toInt l5.toInt (vw h) = dr → jX m_X2_readSum 8 0 0 47 [(0, .ref 95), (1, .int 7), (2, .int l2), (3, .int l3), (5, .int l5)] [] h 0 0 Q := by
  intro l2 l3 l5 g0 g1 h y0 y1 y2 y3 y4 y5 z0 z1 m4 m17 J Sm D
  unfold d_X2_readSum_r95_c7d_47 at D
  try rw [vrf z0] at D
  try rw [vrf z1] at D
  refine x_aloadn (x := 95) rfl rfl ?_
  refine z_getR (N := 6) (b := 68) 2 0 rfl f_2_30 rfl J rfl 12160 ⟨rfl, rfl⟩ rfl ?_
  refine x_bipush (v := 42) rfl kb_42 ?_
  refine x_inv (N := m_X9_isSign) (As := [.int 42]) (b := 68) (st := []) (dx9 := 1) (mc := 0) (ms := 0) (host := "") 9 rfl t_X9_isSign ⟨Or.inl q_2_55, i_X9_isSign.1, i_X9_isSign.2⟩ ⟨by decide, rfl⟩ (congrArg Prod.fst (J.1.1 68 (9, 6) rfl)) rfl (by decide) rfl rfl ⟨by decide, by decide⟩ (sf_X9_isSign_r68d (jr_of jk_42 (by omega)) hD J z1 z0 (by omega) rfl  (fun v6 h ev6 J S1 u2 u3 qu2 qu3 ru2 X4 X5 => ?_))
  have Sm := jSm_tr rfl Sm S1
  try rw [jk_42] at X4
  try rw [X4] at D
  try rw [← X5] at D
  have eu2 := (show 0 ≤ u2.toInt ∧ u2.toInt ≤ 3 from qu2 ▸ jrg_f J sg_68_5_6_1_0_1)
  have Luu2 := congrArg Int32.toInt (((jmc S1 rfl z1)).symm.trans qu2)
  try rw [Luu2] at D
  try rw [vrf qu2] at D
  have eu3 := (show 0 ≤ u3.toInt ∧ u3.toInt ≤ 400 from qu3 ▸ jrg_f J sg_68_3_4_1_0_1)
  have Luu3 := congrArg Int32.toInt (((jmc S1 rfl z0)).symm.trans qu3)
  try rw [Luu3] at D
  try rw [vrf qu3] at D
  show jX m_X2_readSum 8 0 0 56 [(0, .ref 95), (1, .int 7), (2, .int l2), (3, .int l3), (5, .int l5)] [.int v6] _ 0 0 _
  refine x_ifeq (tgt := 63) rfl rfl (ti_eq rfl jk_0 ⟨fun c7 => ?_, fun c7 => ?_⟩)
  ·
    rw [if_pos (by omega)] at D
    refine x_aloadn (x := 95) rfl rfl ?_
    refine z_getR (N := 6) (b := 68) 2 0 rfl f_2_30 rfl J rfl 12160 ⟨rfl, rfl⟩ rfl ?_
    refine x_bipush (v := 47) rfl kb_47 ?_
    refine x_inv (N := m_X9_isSign) (As := [.int 47]) (b := 68) (st := []) (dx9 := 1) (mc := 0) (ms := 0) (host := "") 9 rfl t_X9_isSign ⟨Or.inl q_2_55, i_X9_isSign.1, i_X9_isSign.2⟩ ⟨by decide, rfl⟩ (congrArg Prod.fst (J.1.1 68 (9, 6) rfl)) rfl (by decide) rfl rfl ⟨by decide, by decide⟩ (sf_X9_isSign_r68d (jr_of jk_47 (by omega)) hD J qu2 qu3 (by omega) rfl  (fun v13 h ev13 J S8 u9 u10 qu9 qu10 ru9 X11 X12 => ?_))
    have Sm := jSm_tr rfl Sm S8
    try rw [jk_47] at X11
    try rw [X11] at D
    try rw [← X12] at D
    have eu9 := (show 0 ≤ u9.toInt ∧ u9.toInt ≤ 3 from qu9 ▸ jrg_f J sg_68_5_6_1_0_1)
    have Luu9 := congrArg Int32.toInt (((jmc S8 rfl qu2)).symm.trans qu9)
    try rw [Luu9] at D
    try rw [vrf qu9] at D
    have eu10 := (show 0 ≤ u10.toInt ∧ u10.toInt ≤ 400 from qu10 ▸ jrg_f J sg_68_3_4_1_0_1)
    have Luu10 := congrArg Int32.toInt (((jmc S8 rfl qu3)).symm.trans qu10)
    try rw [Luu10] at D
    try rw [vrf qu10] at D
    show jX m_X2_readSum 8 0 0 72 [(0, .ref 95), (1, .int 7), (2, .int l2), (3, .int l3), (5, .int l5)] [.int v13] _ 0 0 _
    refine x_ifeq (tgt := 80) rfl rfl (ti_eq rfl jk_0 ⟨fun c14 => ?_, fun c14 => ?_⟩)
    ·
      rw [if_pos (by omega)] at D
      refine x_iconst (v := (-1)) rfl ki_m1 ?_
      exact jX.sub (jsb_c rfl (jsb_c rfl (jsb_c rfl (jsb_c rfl (jsb_c rfl jsb_n))))) (ct_X2_readSum_r95_c7d_100081 hD hQ k4 k17 l2 l3 l5 u10 u9 h (jr_of rfl (by omega)) (jr_of rfl (by omega)) (jr_of rfl (by omega)) (jr_of rfl (by omega)) (jr_of rfl (by omega)) (by omega) qu10 qu9 (by omega) (by omega) J Sm D)
    ·
      rw [if_neg (by omega)] at D
      refine x_bipush (v := 6) rfl kb_6 ?_
      refine x_goto (tgt := 81) rfl rfl ?_
      exact jX.sub (jsb_c rfl (jsb_c rfl (jsb_c rfl (jsb_c rfl (jsb_c rfl jsb_n))))) (ct_X2_readSum_r95_c7d_800081 hD hQ k4 k17 l2 l3 l5 u10 u9 h (jr_of rfl (by omega)) (jr_of rfl (by omega)) (jr_of rfl (by omega)) (jr_of rfl (by omega)) (jr_of rfl (by omega)) (by omega) qu10 qu9 (by omega) (by omega) J Sm D)
  ·
    rw [if_neg (by omega)] at D
    refine x_iconst (v := 5) rfl ki_5 ?_
    refine x_goto (tgt := 81) rfl rfl ?_
    exact jX.sub (jsb_c rfl (jsb_c rfl (jsb_c rfl (jsb_c rfl (jsb_c rfl jsb_n))))) (ct_X2_readSum_r95_c7d_700081 hD hQ k4 k17 l2 l3 l5 u3 u2 h (jr_of rfl (by omega)) (jr_of rfl (by omega)) (jr_of rfl (by omega)) (jr_of rfl (by omega)) (jr_of rfl (by omega)) (by omega) qu3 qu2 (by omega) (by omega) J Sm D)
set_option maxRecDepth 100000 in
set_option maxHeartbeats 4000000 in
theorem ct_X2_readSum_r95_c7d_17 {Dy : jH → Prop} {h0 : jH} {Q : Option Value → jH → Prop} {dr : (Int × jW)} {K4 : Int → Int → jW → (Int × jW)} {R4 : Int} (hD : jDk Dy) (hQ : ∀ (v : Int32) hx9, 0 ≤ v.toInt ∧ v.toInt ≤ 1 → jJ jSgX Dy hx9 → jSm fp_X2_readSum_r95_c7d h0 hx9 → ∀ u0 u1 : Int32, jiv hx9 68 5 = u0 → jiv hx9 68 3 = u1 → (u0.toInt ≠ 3 ∨ u1.toInt ≤ 399) → dr.1 = v.toInt → dr.2 = vw hx9 → Q (some (.int v)) hx9) (k4 : ∀ (l2 : Int32) (l3 : Int32) (g0 : Int32) (g1 : Int32) (h : jH), 400 - l3.toInt < R4 → (-1) ≤ l2.toInt ∧ l2.toInt ≤ 4 → 0 ≤ l3.toInt ∧ l3.toInt ≤ 400 → 0 ≤ g0.toInt ∧ g0.toInt ≤ 400 → 0 ≤ g1.toInt ∧ g1.toInt ≤ 3 → (g1.toInt ≠ 3 ∨ g0.toInt ≤ 399) → jiv h 68 3 = g0 → jiv h 68 5 = g1 → jJ jSgX Dy h → jSm fp_X2_readSum_r95_c7d h0 h → K4 l2.toInt l3.toInt (vw h) = dr → jX m_X2_readSum 8 0 0 4 [(0, .ref 95), (1, .int 7), (2, .int l2), (3, .int l3)] [] h 0 0 Q) : ∀ r : Nat, ∀ (l2 : Int32) (l3 : Int32) (l4 : Int32) (l5 : Int32) (g0 : Int32) (g1 : Int32) (h : jH), 400 - l5.toInt < (r : Int) → (-1) ≤ l2.toInt ∧ l2.toInt ≤ 4 → 0 ≤ l3.toInt ∧ l3.toInt ≤ 399 → (-1) ≤ l4.toInt ∧ l4.toInt ≤ 6 → 0 ≤ l5.toInt ∧ l5.toInt ≤ 400 → 0 ≤ g0.toInt ∧ g0.toInt ≤ 400 → 0 ≤ g1.toInt ∧ g1.toInt ≤ 3 → (g1.toInt ≠ 3 ∨ g0.toInt ≤ 399) → jiv h 68 3 = g0 → jiv h 68 5 = g1 → 400 - l3.toInt ≤ R4 → jJ jSgX Dy h → jSm fp_X2_readSum_r95_c7d h0 h → d_X2_readSum_r95_c7d_17 K4 r l2.toInt l3.toInt l4.toInt l5.toInt (vw h) = dr → jX m_X2_readSum 8 0 0 17 [(0, .ref 95), (1, .int 7), (2, .int l2), (3, .int l3), (4, .int l4), (5, .int l5)] [] h 0 0 Q := by
  intro r
  induction r with
  | zero =>
    intro l2 l3 l4 l5 g0 g1 h hm y0 y1 y2 y3 y4 y5 y6 z0 z1 m4 J Sm D
    exfalso
    omega
  | succ r ih =>
    intro l2 l3 l4 l5 g0 g1 h hm y0 y1 y2 y3 y4 y5 y6 z0 z1 m4 J Sm D
    rw [d_X2_readSum_r95_c7d_17.eq_2] at D
    try rw [vrf z0] at D
    try rw [vrf z1] at D
    refine x_iload (x := l5) rfl rfl ?_
    refine x_sipush (v := 400) rfl ks_400 ?_
    refine x_icge (tgt := 105) rfl rfl (ti_ge rfl jk_400 ⟨fun c1 => ?_, fun c1 => ?_⟩)
    ·
      rw [if_pos (by omega)] at D
      exact jX.sub (jsb_c rfl (jsb_c rfl (jsb_c rfl (jsb_c rfl jsb_n)))) (ct_X2_readSum_r95_c7d_105 hD hQ k4 l2 l3 g0 g1 h (jr_of rfl (by omega)) (jr_of rfl (by omega)) (jr_of rfl (by omega)) (jr_of rfl (by omega)) (by omega) z0 z1 (by omega) J Sm D)
    ·
      rw [if_neg (by omega)] at D
      refine x_aloadn (x := 95) rfl rfl ?_
      refine x_iloadn (x := 7) rfl rfl ?_
      refine x_inv (N := m_X2_readFactor) (As := [.int 7]) (b := 95) (st := []) (dx9 := 7) (mc := 0) (ms := 0) (host := "") 2 rfl t_X2_readFactor ⟨Or.inl q_2_144, i_X2_readFactor.1, i_X2_readFactor.2⟩ ⟨by decide, rfl⟩ (congrArg Prod.fst (J.1.1 95 (2, 6) rfl)) rfl (by decide) rfl rfl ⟨by decide, by decide⟩ (sf_X2_readFactor_r95_c7d  hD J z1 z0 (by omega) rfl  (fun v7 h ev7 J S2 u3 u4 qu3 qu4 ru3 X5 X6 => ?_))
      have Sm := jSm_tr rfl Sm S2
      try rw [X5] at D
      try rw [X6] at D
      have eu3 := (show 0 ≤ u3.toInt ∧ u3.toInt ≤ 3 from qu3 ▸ jrg_f J sg_68_5_6_1_0_1)
      try rw [vrf qu3] at D
      have eu4 := (show 0 ≤ u4.toInt ∧ u4.toInt ≤ 400 from qu4 ▸ jrg_f J sg_68_3_4_1_0_1)
      try rw [vrf qu4] at D
      show jX m_X2_readSum 8 0 0 30 [(0, .ref 95), (1, .int 7), (2, .int l2), (3, .int l3), (4, .int l4), (5, .int l5)] [.int v7] _ 0 0 _
      refine x_ifne (tgt := 35) rfl rfl (ti_ne rfl jk_0 ⟨fun c8 => ?_, fun c8 => ?_⟩)
      ·
        rw [if_neg (by omega)] at D
        refine x_iload (x := l4) rfl rfl ?_
        refine x_iconst (v := (-1)) rfl ki_m1 ?_
        refine x_iceq (tgt := 47) rfl rfl (ti_eq rfl jk_m1 ⟨fun c9 => ?_, fun c9 => ?_⟩)
        ·
          rw [if_pos (by omega)] at D
          exact jX.sub (jsb_c rfl (jsb_c rfl (jsb_c rfl (jsb_c rfl (jsb_c rfl jsb_n))))) (ct_X2_readSum_r95_c7d_47 hD hQ k4 ih l2 l3 l5 u4 u3 h (jr_of rfl (by omega)) (jr_of rfl (by omega)) (jr_of rfl (by omega)) (jr_of rfl (by omega)) (jr_of rfl (by omega)) (by omega) qu4 qu3 (by omega) (by omega) J Sm D)
        ·
          rw [if_neg (by omega)] at D
          refine x_aloadn (x := 95) rfl rfl ?_
          refine x_iload (x := l4) rfl rfl ?_
          refine x_inv (N := m_X2_emit) (As := [.int l4]) (b := 95) (st := []) (dx9 := 1) (mc := 0) (ms := 0) (host := "") 2 rfl t_X2_emit ⟨Or.inl q_2_89, i_X2_emit.1, i_X2_emit.2⟩ ⟨by decide, rfl⟩ (congrArg Prod.fst (J.1.1 95 (2, 6) rfl)) rfl (by decide) rfl rfl ⟨by decide, by decide⟩ (sf_X2_emit_r95d  hD J rfl  (fun h J S10 X11 => ?_))
          have Sm := jSm_tr rfl Sm S10
          rw [X11] at D
          show jX m_X2_readSum 8 0 0 47 [(0, .ref 95), (1, .int 7), (2, .int l2), (3, .int l3), (4, .int l4), (5, .int l5)] [] _ 0 0 _
          exact jX.sub (jsb_c rfl (jsb_c rfl (jsb_c rfl (jsb_c rfl (jsb_c rfl jsb_n))))) (ct_X2_readSum_r95_c7d_47 hD hQ k4 ih l2 l3 l5 u4 u3 h (jr_of rfl (by omega)) (jr_of rfl (by omega)) (jr_of rfl (by omega)) (jr_of rfl (by omega)) (jr_of rfl (by omega)) (by omega) (jmc S10 rfl qu4) (jmc S10 rfl qu3) (by omega) (by omega) J Sm D)
      ·
        rw [if_pos (by omega)] at D
        refine x_iconst (v := 0) rfl ki_0 ?_
        refine x_zret rfl rfl (by decide) ?_
        exact hQ _ _ (jr_of jk_0 (by omega)) J Sm _ _ qu3 qu4 (by omega) ((congrArg Prod.fst D).symm.trans (show 0 = (0 : Int32).toInt from by have := jk_0; omega)) (congrArg Prod.snd D).symm
set_option maxRecDepth 100000 in
set_option maxHeartbeats 4000000 in
theorem ct_X2_readSum_r95_c7d_4 {Dy : jH → Prop} {h0 : jH} {Q : Option Value → jH → Prop} {dr : (Int × jW)} (hD : jDk Dy) (hQ : ∀ (v : Int32) hx9, 0 ≤ v.toInt ∧ v.toInt ≤ 1 → jJ jSgX Dy hx9 → jSm fp_X2_readSum_r95_c7d h0 hx9 → ∀ u0 u1 : Int32, jiv hx9 68 5 = u0 → jiv hx9 68 3 = u1 → (u0.toInt ≠ 3 ∨ u1.toInt ≤ 399) → dr.1 = v.toInt → dr.2 = vw hx9 → Q (some (.int v)) hx9) : ∀ r : Nat, ∀ (l2 : Int32) (l3 : Int32) (g0 : Int32) (g1 : Int32) (h : jH), 400 - l3.toInt < (r : Int) → (-1) ≤ l2.toInt ∧ l2.toInt ≤ 4 → 0 ≤ l3.toInt ∧ l3.toInt ≤ 400 → 0 ≤ g0.toInt ∧ g0.toInt ≤ 400 → 0 ≤ g1.toInt ∧ g1.toInt ≤ 3 → (g1.toInt ≠ 3 ∨ g0.toInt ≤ 399) → jiv h 68 3 = g0 → jiv h 68 5 = g1 → jJ jSgX Dy h → jSm fp_X2_readSum_r95_c7d h0 h → d_X2_readSum_r95_c7d_4 r l2.toInt l3.toInt (vw h) = dr → jX m_X2_readSum 8 0 0 4 [(0, .ref 95), (1, .int 7), (2, .int l2), (3, .int l3)] [] h 0 0 Q := by
  intro r
  induction r with
  | zero =>
    intro l2 l3 g0 g1 h hm y0 y1 y2 y3 y4 z0 z1  J Sm D
    exfalso
    omega
  | succ r ih =>
    intro l2 l3 g0 g1 h hm y0 y1 y2 y3 y4 z0 z1  J Sm D
    rw [d_X2_readSum_r95_c7d_4.eq_2] at D
    try rw [vrf z0] at D
    try rw [vrf z1] at D
    refine x_iloadn (x := l3) rfl rfl ?_
    refine x_sipush (v := 400) rfl ks_400 ?_
    refine x_icge (tgt := 169) rfl rfl (ti_ge rfl jk_400 ⟨fun c1 => ?_, fun c1 => ?_⟩)
    ·
      rw [if_pos (by omega)] at D
      refine x_aloadn (x := 95) rfl rfl ?_
      refine z_getR (N := 6) (b := 68) 2 0 rfl f_2_30 rfl J rfl 12160 ⟨rfl, rfl⟩ rfl ?_
      refine x_inv (N := m_X9_blame) (As := []) (b := 68) (st := []) (dx9 := 7) (mc := 0) (ms := 0) (host := "") 9 rfl t_X9_blame ⟨Or.inl q_2_59, i_X9_blame.1, i_X9_blame.2⟩ ⟨by decide, rfl⟩ (congrArg Prod.fst (J.1.1 68 (9, 6) rfl)) rfl (by decide) rfl rfl ⟨by decide, by decide⟩ (jC.of rfl k_X9_blame rfl ?_)
      show jX m_X9_blame 7 0 0 0 [(0, .ref 68)] [] _ 0 0 _
      refine x_aloadn (x := 68) rfl rfl ?_
      refine x_aloadn (x := 68) rfl rfl ?_
      refine z_getM (N := 6) (v := g0) 9 3 rfl f_9_22 rfl J rfl z0 ?_
      refine z_putI (N := 6) (w := g0.toInt) 9 2 rfl f_9_19 rfl (jfin_no TX9 RX9 6 rfl rfl) hD J Sm rfl rfl rfl (pw_68_2 (by omega)) rfl (fun h w2 J Sm => ?_)
      rw [vwf w2 (show g0.toInt = g0.toInt from by omega)] at D
      refine x_iconst (v := 0) rfl ki_0 ?_
      refine x_zret rfl rfl (by decide) ?_
      show jX m_X2_readSum 8 0 0 176 [(0, .ref 95), (1, .int 7), (2, .int l2), (3, .int l3)] [.int 0] _ 0 0 _
      refine x_zret rfl rfl (by decide) ?_
      exact hQ _ _ (jr_of jk_0 (by omega)) J Sm _ _ (jmo w2 rfl z1) (jmo w2 rfl z0) (by omega) ((congrArg Prod.fst D).symm.trans (show 0 = (0 : Int32).toInt from by have := jk_0; omega)) (congrArg Prod.snd D).symm
    ·
      rw [if_neg (by omega)] at D
      refine x_iconst (v := (-1)) rfl ki_m1 ?_
      refine x_istore (lsx9 := [(4, .int (-1)), (0, .ref 95), (1, .int 7), (2, .int l2), (3, .int l3)]) rfl rfl rfl ?_
      refine x_iconst (v := 0) rfl ki_0 ?_
      refine x_istore (lsx9 := [(5, .int 0), (4, .int (-1)), (0, .ref 95), (1, .int 7), (2, .int l2), (3, .int l3)]) rfl rfl rfl ?_
      exact jX.sub (jsb_c rfl (jsb_c rfl (jsb_c rfl (jsb_c rfl (jsb_c rfl (jsb_c rfl jsb_n)))))) (ct_X2_readSum_r95_c7d_17 hD hQ ih 401 l2 l3 (-1) 0 g0 g1 h (by have := jk_0; omega) (jr_of rfl (by omega)) (jr_of rfl (by omega)) (jr_of jk_m1 (by omega)) (jr_of jk_0 (by omega)) (jr_of rfl (by omega)) (jr_of rfl (by omega)) (by omega) z0 z1 (by omega) J Sm (by rw [jk_m1, jk_0]; exact D))
set_option maxRecDepth 100000 in
set_option maxHeartbeats 4000000 in
theorem sf_X2_readSum_r95_c7d {Dy : jH → Prop} {h : jH} {Q : Option Value → jH → Prop} {dr : (Int × jW)} (hD : jDk Dy) (J : jJ jSgX Dy h) {p0 p1 : Int32} (zp0 : jiv h 68 5 = p0) (zp1 : jiv h 68 3 = p1) (rl_p0 : (p0.toInt ≠ 3 ∨ p1.toInt ≤ 399)) (D : d_X2_readSum_r95_c7d (vw h) = dr) (hQ : ∀ (v : Int32) hx9, 0 ≤ v.toInt ∧ v.toInt ≤ 1 → jJ jSgX Dy hx9 → jSm fp_X2_readSum_r95_c7d h hx9 → ∀ u0 u1 : Int32, jiv hx9 68 5 = u0 → jiv hx9 68 3 = u1 → (u0.toInt ≠ 3 ∨ u1.toInt ≤ 399) → dr.1 = v.toInt → dr.2 = vw hx9 → Q (some (.int v)) hx9) : jC m_X2_readSum 8 0 0 [.ref 95, .int 7] h Q := by
  refine jC.of rfl k_X2_readSum rfl ?_
  have Sm := jSm_rf fp_X2_readSum_r95_c7d h
  have ep0 := (show 0 ≤ p0.toInt ∧ p0.toInt ≤ 3 from zp0 ▸ jrg_f J sg_68_5_6_1_0_1)
  have ep1 := (show 0 ≤ p1.toInt ∧ p1.toInt ≤ 400 from zp1 ▸ jrg_f J sg_68_3_4_1_0_1)
  show jX m_X2_readSum 8 0 0 0 [(0, .ref 95), (1, .int 7)] [] _ 0 0 _
  unfold d_X2_readSum_r95_c7d at D
  try rw [vrf zp0] at D
  try rw [vrf zp1] at D
  refine x_iconst (v := (-1)) rfl ki_m1 ?_
  refine x_istoren (lsx9 := [(2, .int (-1)), (0, .ref 95), (1, .int 7)]) rfl rfl rfl ?_
  refine x_iconst (v := 0) rfl ki_0 ?_
  refine x_istoren (lsx9 := [(3, .int 0), (2, .int (-1)), (0, .ref 95), (1, .int 7)]) rfl rfl rfl ?_
  exact jX.sub (jsb_c rfl (jsb_c rfl (jsb_c rfl (jsb_c rfl jsb_n)))) (ct_X2_readSum_r95_c7d_4 hD hQ  401 (-1) 0 p1 p0 h (by have := jk_0; omega) (jr_of jk_m1 (by omega)) (jr_of jk_0 (by omega)) (jr_of rfl (by omega)) (jr_of rfl (by omega)) (by omega) zp1 zp0 J Sm (by rw [jk_m1, jk_0]; exact D))
def fp_X2_readFactor_r95_c6d : jFp := [(68, 2, 3), (68, 3, 4), (68, 4, 5), (68, 5, 6), (95, 4, 5), (95, 5, 6), (97, 0, 1200)]
set_option maxRecDepth 100000 in
set_option maxHeartbeats 4000000 in
theorem ct_X2_readFactor_r95_c6d_111 {Dy : jH → Prop} {h0 : jH} {Q : Option Value → jH → Prop} {dr : (Int × jW)} (hD : jDk Dy) (hQ : ∀ (v : Int32) hx9, 0 ≤ v.toInt ∧ v.toInt ≤ 1 → jJ jSgX Dy hx9 → jSm fp_X2_readFactor_r95_c6d h0 hx9 → ∀ u0 u1 : Int32, jiv hx9 68 5 = u0 → jiv hx9 68 3 = u1 → (u0.toInt ≠ 3 ∨ u1.toInt ≤ 399) → dr.1 = v.toInt → dr.2 = vw hx9 → Q (some (.int v)) hx9) : ∀ (s0 : Int32) (g0 : Int32) (g1 : Int32) (h : jH), 0 ≤ s0.toInt ∧ s0.toInt ≤ 1 → 0 ≤ g0.toInt ∧ g0.toInt ≤ 400 → 0 ≤ g1.toInt ∧ g1.toInt ≤ 3 → (g1.toInt ≠ 3 ∨ g0.toInt ≤ 399) → jiv h 68 3 = g0 → jiv h 68 5 = g1 → jJ jSgX Dy h → jSm fp_X2_readFactor_r95_c6d h0 h → d_X2_readFactor_r95_c6d_111  s0.toInt (vw h) = dr → jX m_X2_readFactor 9 0 0 111 [] [.int s0] h 0 0 Q := by
  intro s0 g0 g1 h y0 y1 y2 y3 z0 z1  J Sm D
  unfold d_X2_readFactor_r95_c6d_111 at D
  try rw [vrf z0] at D
  try rw [vrf z1] at D
  refine x_zret rfl rfl (jz01 (by omega)) ?_
  exact hQ _ _ (jr_of rfl (by omega)) J Sm _ _ z1 z0 (by omega) ((congrArg Prod.fst D).symm.trans (show s0.toInt = s0.toInt from by omega)) (congrArg Prod.snd D).symm
set_option maxRecDepth 100000 in
set_option maxHeartbeats 4000000 in
theorem ct_X2_readFactor_r95_c6d_200111 {Dy : jH → Prop} {h0 : jH} {Q : Option Value → jH → Prop} {dr : (Int × jW)} (hD : jDk Dy) (hQ : ∀ (v : Int32) hx9, 0 ≤ v.toInt ∧ v.toInt ≤ 1 → jJ jSgX Dy hx9 → jSm fp_X2_readFactor_r95_c6d h0 hx9 → ∀ u0 u1 : Int32, jiv hx9 68 5 = u0 → jiv hx9 68 3 = u1 → (u0.toInt ≠ 3 ∨ u1.toInt ≤ 399) → dr.1 = v.toInt → dr.2 = vw hx9 → Q (some (.int v)) hx9) : ∀ (g0 : Int32) (g1 : Int32) (h : jH), 0 ≤ g0.toInt ∧ g0.toInt ≤ 400 → 0 ≤ g1.toInt ∧ g1.toInt ≤ 3 → (g1.toInt ≠ 3 ∨ g0.toInt ≤ 399) → jiv h 68 3 = g0 → jiv h 68 5 = g1 → jJ jSgX Dy h → jSm fp_X2_readFactor_r95_c6d h0 h → d_X2_readFactor_r95_c6d_200111  (vw h) = dr → jX m_X2_readFactor 9 0 0 111 [] [.int 0] h 0 0 Q := by
  intro g0 g1 h y0 y1 y2 z0 z1  J Sm D
  unfold d_X2_readFactor_r95_c6d_200111 at D
  try rw [vrf z0] at D
  try rw [vrf z1] at D
  refine x_zret rfl rfl (by decide) ?_
  exact hQ _ _ (jr_of jk_0 (by omega)) J Sm _ _ z1 z0 (by omega) ((congrArg Prod.fst D).symm.trans (show 0 = (0 : Int32).toInt from by have := jk_0; omega)) (congrArg Prod.snd D).symm
set_option maxRecDepth 100000 in
set_option maxHeartbeats 4000000 in
theorem ct_X2_readFactor_r95_c6d_300057 {Dy : jH → Prop} {h0 : jH} {Q : Option Value → jH → Prop} {dr : (Int × jW)} (hD : jDk Dy) (hQ : ∀ (v : Int32) hx9, 0 ≤ v.toInt ∧ v.toInt ≤ 1 → jJ jSgX Dy hx9 → jSm fp_X2_readFactor_r95_c6d h0 hx9 → ∀ u0 u1 : Int32, jiv hx9 68 5 = u0 → jiv hx9 68 3 = u1 → (u0.toInt ≠ 3 ∨ u1.toInt ≤ 399) → dr.1 = v.toInt → dr.2 = vw hx9 → Q (some (.int v)) hx9) : ∀ (g0 : Int32) (g1 : Int32) (h : jH), 0 ≤ g0.toInt ∧ g0.toInt ≤ 400 → 0 ≤ g1.toInt ∧ g1.toInt ≤ 3 → (g1.toInt ≠ 3 ∨ g0.toInt ≤ 399) → jiv h 68 3 = g0 → jiv h 68 5 = g1 → jJ jSgX Dy h → jSm fp_X2_readFactor_r95_c6d h0 h → d_X2_readFactor_r95_c6d_300057  (vw h) = dr → jX m_X2_readFactor 9 0 0 57 [] [.int 1] h 0 0 Q := by
  intro g0 g1 h y0 y1 y2 z0 z1  J Sm D
  unfold d_X2_readFactor_r95_c6d_300057 at D
  try rw [vrf z0] at D
  try rw [vrf z1] at D
  refine x_zret rfl rfl (by decide) ?_
  exact hQ _ _ (jr_of jk_1 (by omega)) J Sm _ _ z1 z0 (by omega) ((congrArg Prod.fst D).symm.trans (show 1 = (1 : Int32).toInt from by have := jk_1; omega)) (congrArg Prod.snd D).symm
set_option maxRecDepth 100000 in
set_option maxHeartbeats 4000000 in
theorem ct_X2_readFactor_r95_c6d_200057 {Dy : jH → Prop} {h0 : jH} {Q : Option Value → jH → Prop} {dr : (Int × jW)} (hD : jDk Dy) (hQ : ∀ (v : Int32) hx9, 0 ≤ v.toInt ∧ v.toInt ≤ 1 → jJ jSgX Dy hx9 → jSm fp_X2_readFactor_r95_c6d h0 hx9 → ∀ u0 u1 : Int32, jiv hx9 68 5 = u0 → jiv hx9 68 3 = u1 → (u0.toInt ≠ 3 ∨ u1.toInt ≤ 399) → dr.1 = v.toInt → dr.2 = vw hx9 → Q (some (.int v)) hx9) : ∀ (g0 : Int32) (g1 : Int32) (h : jH), 0 ≤ g0.toInt ∧ g0.toInt ≤ 400 → 0 ≤ g1.toInt ∧ g1.toInt ≤ 3 → (g1.toInt ≠ 3 ∨ g0.toInt ≤ 399) → jiv h 68 3 = g0 → jiv h 68 5 = g1 → jJ jSgX Dy h → jSm fp_X2_readFactor_r95_c6d h0 h → d_X2_readFactor_r95_c6d_200057  (vw h) = dr → jX m_X2_readFactor 9 0 0 57 [] [.int 0] h 0 0 Q := by
  intro g0 g1 h y0 y1 y2 z0 z1  J Sm D
  unfold d_X2_readFactor_r95_c6d_200057 at D
  try rw [vrf z0] at D
  try rw [vrf z1] at D
  refine x_zret rfl rfl (by decide) ?_
  exact hQ _ _ (jr_of jk_0 (by omega)) J Sm _ _ z1 z0 (by omega) ((congrArg Prod.fst D).symm.trans (show 0 = (0 : Int32).toInt from by have := jk_0; omega)) (congrArg Prod.snd D).symm
set_option maxRecDepth 100000 in
set_option maxHeartbeats 4000000 in
theorem ct_X2_readFactor_r95_c6d_56 {Dy : jH → Prop} {h0 : jH} {Q : Option Value → jH → Prop} {dr : (Int × jW)} (hD : jDk Dy) (hQ : ∀ (v : Int32) hx9, 0 ≤ v.toInt ∧ v.toInt ≤ 1 → jJ jSgX Dy hx9 → jSm fp_X2_readFactor_r95_c6d h0 hx9 → ∀ u0 u1 : Int32, jiv hx9 68 5 = u0 → jiv hx9 68 3 = u1 → (u0.toInt ≠ 3 ∨ u1.toInt ≤ 399) → dr.1 = v.toInt → dr.2 = vw hx9 → Q (some (.int v)) hx9) : ∀ (g0 : Int32) (g1 : Int32) (h : jH), 0 ≤ g0.toInt ∧ g0.toInt ≤ 400 → 0 ≤ g1.toInt ∧ g1.toInt ≤ 3 → (g1.toInt ≠ 3 ∨ g0.toInt ≤ 399) → jiv h 68 3 = g0 → jiv h 68 5 = g1 → jJ jSgX Dy h → jSm fp_X2_readFactor_r95_c6d h0 h → d_X2_readFactor_r95_c6d_56  (vw h) = dr → jX m_X2_readFactor 9 0 0 56 [] [] h 0 0 Q := by
  intro g0 g1 h y0 y1 y2 z0 z1  J Sm D
  unfold d_X2_readFactor_r95_c6d_56 at D
  try rw [vrf z0] at D
  try rw [vrf z1] at D
  refine x_iconst (v := 0) rfl ki_0 ?_
  exact jX.sub jsb_n (ct_X2_readFactor_r95_c6d_200057 hD hQ  g0 g1 h (jr_of rfl (by omega)) (jr_of rfl (by omega)) (by omega) z0 z1 J Sm D)
set_option maxRecDepth 100000 in
set_option maxHeartbeats 4000000 in
theorem sf_X2_readFactor_r95_c6d {Dy : jH → Prop} {h : jH} {Q : Option Value → jH → Prop} {dr : (Int × jW)} (hD : jDk Dy) (J : jJ jSgX Dy h) {p0 p1 : Int32} (zp0 : jiv h 68 5 = p0) (zp1 : jiv h 68 3 = p1) (rl_p0 : (p0.toInt ≠ 3 ∨ p1.toInt ≤ 399)) (D : d_X2_readFactor_r95_c6d (vw h) = dr) (hQ : ∀ (v : Int32) hx9, 0 ≤ v.toInt ∧ v.toInt ≤ 1 → jJ jSgX Dy hx9 → jSm fp_X2_readFactor_r95_c6d h hx9 → ∀ u0 u1 : Int32, jiv hx9 68 5 = u0 → jiv hx9 68 3 = u1 → (u0.toInt ≠ 3 ∨ u1.toInt ≤ 399) → dr.1 = v.toInt → dr.2 = vw hx9 → Q (some (.int v)) hx9) : jC m_X2_readFactor 9 0 0 [.ref 95, .int 6] h Q := by
  refine jC.of rfl k_X2_readFactor rfl ?_
  have Sm := jSm_rf fp_X2_readFactor_r95_c6d h
  have ep0 := (show 0 ≤ p0.toInt ∧ p0.toInt ≤ 3 from zp0 ▸ jrg_f J sg_68_5_6_1_0_1)
  have ep1 := (show 0 ≤ p1.toInt ∧ p1.toInt ≤ 400 from zp1 ▸ jrg_f J sg_68_3_4_1_0_1)
  show jX m_X2_readFactor 9 0 0 0 [(0, .ref 95), (1, .int 6)] [] _ 0 0 _
  unfold d_X2_readFactor_r95_c6d at D
  try rw [vrf zp0] at D
  try rw [vrf zp1] at D
  refine x_aloadn (x := 95) rfl rfl ?_
  refine z_getR (N := 6) (b := 68) 2 0 rfl f_2_30 rfl J rfl 12160 ⟨rfl, rfl⟩ rfl ?_
  refine x_bipush (v := 91) rfl kb_91 ?_
  refine x_inv (N := m_X9_isSign) (As := [.int 91]) (b := 68) (st := []) (dx9 := 1) (mc := 0) (ms := 0) (host := "") 9 rfl t_X9_isSign ⟨Or.inl q_2_55, i_X9_isSign.1, i_X9_isSign.2⟩ ⟨by decide, rfl⟩ (congrArg Prod.fst (J.1.1 68 (9, 6) rfl)) rfl (by decide) rfl rfl ⟨by decide, by decide⟩ (sf_X9_isSign_r68d (jr_of jk_91 (by omega)) hD J zp0 zp1 (by omega) rfl  (fun v6 h ev6 J S1 u2 u3 qu2 qu3 ru2 X4 X5 => ?_))
  have Sm := jSm_tr rfl Sm S1
  try rw [jk_91] at X4
  try rw [X4] at D
  try rw [← X5] at D
  have eu2 := (show 0 ≤ u2.toInt ∧ u2.toInt ≤ 3 from qu2 ▸ jrg_f J sg_68_5_6_1_0_1)
  have Luu2 := congrArg Int32.toInt (((jmc S1 rfl zp0)).symm.trans qu2)
  try rw [Luu2] at D
  try rw [vrf qu2] at D
  have eu3 := (show 0 ≤ u3.toInt ∧ u3.toInt ≤ 400 from qu3 ▸ jrg_f J sg_68_3_4_1_0_1)
  have Luu3 := congrArg Int32.toInt (((jmc S1 rfl zp1)).symm.trans qu3)
  try rw [Luu3] at D
  try rw [vrf qu3] at D
  show jX m_X2_readFactor 9 0 0 9 [(0, .ref 95), (1, .int 6)] [.int v6] _ 0 0 _
  refine x_ifeq (tgt := 58) rfl rfl (ti_eq rfl jk_0 ⟨fun c7 => ?_, fun c7 => ?_⟩)
  ·
    rw [if_pos (by omega)] at D
    refine x_aloadn (x := 95) rfl rfl ?_
    refine z_getR (N := 6) (b := 68) 2 0 rfl f_2_30 rfl J rfl 12160 ⟨rfl, rfl⟩ rfl ?_
    refine x_ldc (v := 100000) rfl z_2_147 ?_
    refine x_inv (N := m_X9_numberTo) (As := [.int 100000]) (b := 68) (st := []) (dx9 := 1) (mc := 0) (ms := 0) (host := "") 9 rfl t_X9_numberTo ⟨Or.inl q_2_117, i_X9_numberTo.1, i_X9_numberTo.2⟩ ⟨by decide, rfl⟩ (congrArg Prod.fst (J.1.1 68 (9, 6) rfl)) rfl (by decide) rfl rfl ⟨by decide, by decide⟩ (sf_X9_numberTo_r68d (jr_of jk_100000 (by omega)) hD J rfl  (fun v11 h ev11 J S8 X9 X10 => ?_))
    have Sm := jSm_tr rfl Sm S8
    try rw [jk_100000] at X9
    try rw [X9] at D
    try rw [← X10] at D
    show jX m_X2_readFactor 9 0 0 67 [(0, .ref 95), (1, .int 6)] [.int v11] _ 0 0 _
    refine x_istoren (lsx9 := [(2, .int v11), (0, .ref 95), (1, .int 6)]) rfl rfl rfl ?_
    refine x_iloadn (x := v11) rfl rfl ?_
    refine x_iconst (v := (-1)) rfl ki_m1 ?_
    refine x_iceq (tgt := 80) rfl rfl (ti_eq rfl jk_m1 ⟨fun c12 => ?_, fun c12 => ?_⟩)
    ·
      rw [if_pos (by omega)] at D
      refine x_aloadn (x := 95) rfl rfl ?_
      refine z_getR (N := 6) (b := 68) 2 0 rfl f_2_30 rfl J rfl 12160 ⟨rfl, rfl⟩ rfl ?_
      refine x_ldcS (jstr.getD 6 jstr_0) rfl (List.mem_of_getElem? (i := 6) rfl) rfl rfl ?_
      show jX m_X2_readFactor 9 0 0 86 [(2, .int v11), (0, .ref 95), (1, .int 6)] [.ref 11, .ref 68] _ 0 0 _
      refine x_inv (N := m_X9_wordOf) (As := [.ref 11]) (b := 68) (st := []) (dx9 := 4) (mc := 0) (ms := 0) (host := "") 9 rfl t_X9_wordOf ⟨Or.inl q_2_67, i_X9_wordOf.1, i_X9_wordOf.2⟩ ⟨by decide, rfl⟩ (congrArg Prod.fst (J.1.1 68 (9, 6) rfl)) rfl (by decide) rfl rfl ⟨by decide, by decide⟩ (sf_X9_wordOf_r68_r11d  hD J rfl  (fun v16 h J S13 X14 X15 => ?_))
      have ev16 := jfull v16
      have Sm := jSm_tr rfl Sm S13
      try rw [X14] at D
      try rw [← X15] at D
      show jX m_X2_readFactor 9 0 0 89 [(2, .int v11), (0, .ref 95), (1, .int 6)] [.int v16] _ 0 0 _
      refine x_istoren (lsx9 := [(3, .int v16), (2, .int v11), (0, .ref 95), (1, .int 6)]) rfl rfl rfl ?_
      refine x_iloadn (x := v16) rfl rfl ?_
      refine x_iconst (v := (-1)) rfl ki_m1 ?_
      refine x_icne (tgt := 105) rfl rfl (ti_ne rfl jk_m1 ⟨fun c17 => ?_, fun c17 => ?_⟩)
      ·
        rw [if_neg (by omega)] at D
        refine x_aloadn (x := 95) rfl rfl ?_
        refine x_iconst (v := 2) rfl ki_2 ?_
        refine x_iloadn (x := v16) rfl rfl ?_
        refine x_inv (N := m_X2_readPart) (As := [.int 2, .int v16]) (b := 95) (st := []) (dx9 := 3) (mc := 0) (ms := 0) (host := "") 2 rfl t_X2_readPart ⟨Or.inl q_2_141, i_X2_readPart.1, i_X2_readPart.2⟩ ⟨by decide, rfl⟩ (congrArg Prod.fst (J.1.1 95 (2, 6) rfl)) rfl (by decide) rfl rfl ⟨by decide, by decide⟩ (sf_X2_readPart_r95d (jr_of jk_2 (by omega)) hD J (jmc S13 rfl (jmc S8 rfl qu2)) (jmc S13 rfl (jmc S8 rfl qu3)) (by omega) rfl  (fun v23 h ev23 J S18 u19 u20 qu19 qu20 ru19 X21 X22 => ?_))
        have Sm := jSm_tr rfl Sm S18
        try rw [jk_2] at X21
        try rw [jk_2] at X22
        try rw [X21] at D
        try rw [X22] at D
        have eu19 := (show 0 ≤ u19.toInt ∧ u19.toInt ≤ 3 from qu19 ▸ jrg_f J sg_68_5_6_1_0_1)
        try rw [vrf qu19] at D
        have eu20 := (show 0 ≤ u20.toInt ∧ u20.toInt ≤ 400 from qu20 ▸ jrg_f J sg_68_3_4_1_0_1)
        try rw [vrf qu20] at D
        show jX m_X2_readFactor 9 0 0 111 [(3, .int v16), (2, .int v11), (0, .ref 95), (1, .int 6)] [.int v23] _ 0 0 _
        exact jX.sub jsb_n (ct_X2_readFactor_r95_c6d_111 hD hQ  v23 u20 u19 h (jr_of rfl (by omega)) (jr_of rfl (by omega)) (jr_of rfl (by omega)) (by omega) qu20 qu19 J Sm D)
      ·
        rw [if_pos (by omega)] at D
        refine x_aloadn (x := 95) rfl rfl ?_
        refine z_getR (N := 6) (b := 68) 2 0 rfl f_2_30 rfl J rfl 12160 ⟨rfl, rfl⟩ rfl ?_
        refine x_inv (N := m_X9_blame) (As := []) (b := 68) (st := []) (dx9 := 8) (mc := 0) (ms := 0) (host := "") 9 rfl t_X9_blame ⟨Or.inl q_2_59, i_X9_blame.1, i_X9_blame.2⟩ ⟨by decide, rfl⟩ (congrArg Prod.fst (J.1.1 68 (9, 6) rfl)) rfl (by decide) rfl rfl ⟨by decide, by decide⟩ (jC.of rfl k_X9_blame rfl ?_)
        show jX m_X9_blame 8 0 0 0 [(0, .ref 68)] [] _ 0 0 _
        refine x_aloadn (x := 68) rfl rfl ?_
        refine x_aloadn (x := 68) rfl rfl ?_
        refine z_getM (N := 6) (v := u3) 9 3 rfl f_9_22 rfl J rfl (jmc S13 rfl (jmc S8 rfl qu3)) ?_
        refine z_putI (N := 6) (w := u3.toInt) 9 2 rfl f_9_19 rfl (jfin_no TX9 RX9 6 rfl rfl) hD J Sm rfl rfl rfl (pw_68_2 (by omega)) rfl (fun h w24 J Sm => ?_)
        rw [vwf w24 (show u3.toInt = u3.toInt from by omega)] at D
        refine x_iconst (v := 0) rfl ki_0 ?_
        refine x_zret rfl rfl (by decide) ?_
        show jX m_X2_readFactor 9 0 0 102 [(3, .int v16), (2, .int v11), (0, .ref 95), (1, .int 6)] [.int 0] _ 0 0 _
        refine x_goto (tgt := 111) rfl rfl ?_
        exact jX.sub jsb_n (ct_X2_readFactor_r95_c6d_200111 hD hQ  u3 u2 h (jr_of rfl (by omega)) (jr_of rfl (by omega)) (by omega) (jmo w24 rfl (jmc S13 rfl (jmc S8 rfl qu3))) (jmo w24 rfl (jmc S13 rfl (jmc S8 rfl qu2))) J Sm D)
    ·
      rw [if_neg (by omega)] at D
      refine x_aloadn (x := 95) rfl rfl ?_
      refine x_iconst (v := 1) rfl ki_1 ?_
      refine x_iloadn (x := v11) rfl rfl ?_
      refine x_inv (N := m_X2_readPart) (As := [.int 1, .int v11]) (b := 95) (st := []) (dx9 := 3) (mc := 0) (ms := 0) (host := "") 2 rfl t_X2_readPart ⟨Or.inl q_2_141, i_X2_readPart.1, i_X2_readPart.2⟩ ⟨by decide, rfl⟩ (congrArg Prod.fst (J.1.1 95 (2, 6) rfl)) rfl (by decide) rfl rfl ⟨by decide, by decide⟩ (sf_X2_readPart_r95d (jr_of jk_1 (by omega)) hD J (jmc S8 rfl qu2) (jmc S8 rfl qu3) (by omega) rfl  (fun v30 h ev30 J S25 u26 u27 qu26 qu27 ru26 X28 X29 => ?_))
      have Sm := jSm_tr rfl Sm S25
      try rw [jk_1] at X28
      try rw [jk_1] at X29
      try rw [X28] at D
      try rw [X29] at D
      have eu26 := (show 0 ≤ u26.toInt ∧ u26.toInt ≤ 3 from qu26 ▸ jrg_f J sg_68_5_6_1_0_1)
      try rw [vrf qu26] at D
      have eu27 := (show 0 ≤ u27.toInt ∧ u27.toInt ≤ 400 from qu27 ▸ jrg_f J sg_68_3_4_1_0_1)
      try rw [vrf qu27] at D
      show jX m_X2_readFactor 9 0 0 79 [(2, .int v11), (0, .ref 95), (1, .int 6)] [.int v30] _ 0 0 _
      refine x_zret rfl rfl (jz01 (by omega)) ?_
      exact hQ _ _ (jr_of rfl (by omega)) J Sm _ _ qu26 qu27 (by omega) ((congrArg Prod.fst D).symm.trans X28) ((congrArg Prod.snd D).symm.trans X29)
  ·
    rw [if_neg (by omega)] at D
    refine x_iloadn (x := 6) rfl rfl ?_
    refine x_bipush (v := 8) rfl kb_8 ?_
    refine x_iclt (tgt := 26) rfl rfl (ti_lt jk_6 jk_8 (br_t (by omega) ?_))
    refine x_aloadn (x := 95) rfl rfl ?_
    refine z_getR (N := 6) (b := 68) 2 0 rfl f_2_30 rfl J rfl 12160 ⟨rfl, rfl⟩ rfl ?_
    refine x_inv (N := m_X9_step) (As := []) (b := 68) (st := []) (dx9 := 2) (mc := 0) (ms := 0) (host := "") 9 rfl t_X9_step ⟨Or.inl q_2_62, i_X9_step.1, i_X9_step.2⟩ ⟨by decide, rfl⟩ (congrArg Prod.fst (J.1.1 68 (9, 6) rfl)) rfl (by decide) rfl rfl ⟨by decide, by decide⟩ (sf_X9_step_r68d  hD J qu2 qu3 (by omega) rfl  (fun h J S31 u32 u33 qu32 qu33 ru32 X34 => ?_))
    have Sm := jSm_tr rfl Sm S31
    rw [X34] at D
    have eu32 := (show 0 ≤ u32.toInt ∧ u32.toInt ≤ 3 from qu32 ▸ jrg_f J sg_68_5_6_1_0_1)
    try rw [vrf qu32] at D
    have eu33 := (show 0 ≤ u33.toInt ∧ u33.toInt ≤ 400 from qu33 ▸ jrg_f J sg_68_3_4_1_0_1)
    try rw [vrf qu33] at D
    show jX m_X2_readFactor 9 0 0 33 [(0, .ref 95), (1, .int 6)] [] _ 0 0 _
    refine x_aloadn (x := 95) rfl rfl ?_
    refine x_iloadn (x := 6) rfl rfl ?_
    refine x_iconst (v := 1) rfl ki_1 ?_
    refine y_iadd (v := 7) rfl (by decide) ?_
    refine x_inv (N := m_X2_readSum) (As := [.int 7]) (b := 95) (st := []) (dx9 := 8) (mc := 0) (ms := 0) (host := "") 2 rfl t_X2_readSum ⟨Or.inl q_2_86, i_X2_readSum.1, i_X2_readSum.2⟩ ⟨by decide, rfl⟩ (congrArg Prod.fst (J.1.1 95 (2, 6) rfl)) rfl (by decide) rfl rfl ⟨by decide, by decide⟩ (sf_X2_readSum_r95_c7d  hD J qu32 qu33 (by omega) rfl  (fun v40 h ev40 J S35 u36 u37 qu36 qu37 ru36 X38 X39 => ?_))
    have Sm := jSm_tr rfl Sm S35
    try rw [X38] at D
    try rw [X39] at D
    have eu36 := (show 0 ≤ u36.toInt ∧ u36.toInt ≤ 3 from qu36 ▸ jrg_f J sg_68_5_6_1_0_1)
    try rw [vrf qu36] at D
    have eu37 := (show 0 ≤ u37.toInt ∧ u37.toInt ≤ 400 from qu37 ▸ jrg_f J sg_68_3_4_1_0_1)
    try rw [vrf qu37] at D
    show jX m_X2_readFactor 9 0 0 40 [(0, .ref 95), (1, .int 6)] [.int v40] _ 0 0 _
    refine x_ifeq (tgt := 56) rfl rfl (ti_eq rfl jk_0 ⟨fun c41 => ?_, fun c41 => ?_⟩)
    ·
      rw [if_pos (by omega)] at D
      exact jX.sub jsb_n (ct_X2_readFactor_r95_c6d_56 hD hQ  u37 u36 h (jr_of rfl (by omega)) (jr_of rfl (by omega)) (by omega) qu37 qu36 J Sm D)
    ·
      rw [if_neg (by omega)] at D
      refine x_aloadn (x := 95) rfl rfl ?_
      refine x_bipush (v := 93) rfl kb_93 ?_
      refine x_inv (N := m_X2_readSign) (As := [.int 93]) (b := 95) (st := []) (dx9 := 8) (mc := 0) (ms := 0) (host := "") 2 rfl t_X2_readSign ⟨Or.inl q_2_138, i_X2_readSign.1, i_X2_readSign.2⟩ ⟨by decide, rfl⟩ (congrArg Prod.fst (J.1.1 95 (2, 6) rfl)) rfl (by decide) rfl rfl ⟨by decide, by decide⟩ (jC.of rfl k_X2_readSign rfl ?_)
      show jX m_X2_readSign 8 0 0 0 [(0, .ref 95), (1, .int 93)] [] _ 0 0 _
      refine x_aloadn (x := 95) rfl rfl ?_
      refine z_getR (N := 6) (b := 68) 2 0 rfl f_2_30 rfl J rfl 12160 ⟨rfl, rfl⟩ rfl ?_
      refine x_iloadn (x := 93) rfl rfl ?_
      refine x_inv (N := m_X9_isSign) (As := [.int 93]) (b := 68) (st := []) (dx9 := 1) (mc := 0) (ms := 0) (host := "") 9 rfl t_X9_isSign ⟨Or.inl q_2_55, i_X9_isSign.1, i_X9_isSign.2⟩ ⟨by decide, rfl⟩ (congrArg Prod.fst (J.1.1 68 (9, 6) rfl)) rfl (by decide) rfl rfl ⟨by decide, by decide⟩ (sf_X9_isSign_r68d (jr_of jk_93 (by omega)) hD J qu36 qu37 (by omega) rfl  (fun v47 h ev47 J S42 u43 u44 qu43 qu44 ru43 X45 X46 => ?_))
      have Sm := jSm_tr rfl Sm S42
      try rw [jk_93] at X45
      try rw [X45] at D
      try rw [← X46] at D
      have eu43 := (show 0 ≤ u43.toInt ∧ u43.toInt ≤ 3 from qu43 ▸ jrg_f J sg_68_5_6_1_0_1)
      have Luu43 := congrArg Int32.toInt (((jmc S42 rfl qu36)).symm.trans qu43)
      try rw [Luu43] at D
      try rw [vrf qu43] at D
      have eu44 := (show 0 ≤ u44.toInt ∧ u44.toInt ≤ 400 from qu44 ▸ jrg_f J sg_68_3_4_1_0_1)
      have Luu44 := congrArg Int32.toInt (((jmc S42 rfl qu37)).symm.trans qu44)
      try rw [Luu44] at D
      try rw [vrf qu44] at D
      show jX m_X2_readSign 8 0 0 8 [(0, .ref 95), (1, .int 93)] [.int v47] _ 0 0 _
      refine x_ifne (tgt := 19) rfl rfl (ti_ne rfl jk_0 ⟨fun c48 => ?_, fun c48 => ?_⟩)
      ·
        rw [if_neg (by omega)] at D
        refine x_aloadn (x := 95) rfl rfl ?_
        refine z_getR (N := 6) (b := 68) 2 0 rfl f_2_30 rfl J rfl 12160 ⟨rfl, rfl⟩ rfl ?_
        refine x_inv (N := m_X9_step) (As := []) (b := 68) (st := []) (dx9 := 2) (mc := 0) (ms := 0) (host := "") 9 rfl t_X9_step ⟨Or.inl q_2_62, i_X9_step.1, i_X9_step.2⟩ ⟨by decide, rfl⟩ (congrArg Prod.fst (J.1.1 68 (9, 6) rfl)) rfl (by decide) rfl rfl ⟨by decide, by decide⟩ (sf_X9_step_r68d  hD J qu43 qu44 (by omega) rfl  (fun h J S49 u50 u51 qu50 qu51 ru50 X52 => ?_))
        have Sm := jSm_tr rfl Sm S49
        rw [X52] at D
        have eu50 := (show 0 ≤ u50.toInt ∧ u50.toInt ≤ 3 from qu50 ▸ jrg_f J sg_68_5_6_1_0_1)
        try rw [vrf qu50] at D
        have eu51 := (show 0 ≤ u51.toInt ∧ u51.toInt ≤ 400 from qu51 ▸ jrg_f J sg_68_3_4_1_0_1)
        try rw [vrf qu51] at D
        show jX m_X2_readSign 8 0 0 26 [(0, .ref 95), (1, .int 93)] [] _ 0 0 _
        refine x_iconst (v := 1) rfl ki_1 ?_
        refine x_zret rfl rfl (by decide) ?_
        show jX m_X2_readFactor 9 0 0 49 [(0, .ref 95), (1, .int 6)] [.int 1] _ 0 0 _
        refine x_ifeq (tgt := 56) rfl rfl (ti_eq jk_1 jk_0 (br_f (by omega) ?_))
        refine x_iconst (v := 1) rfl ki_1 ?_
        refine x_goto (tgt := 57) rfl rfl ?_
        exact jX.sub jsb_n (ct_X2_readFactor_r95_c6d_300057 hD hQ  u51 u50 h (jr_of rfl (by omega)) (jr_of rfl (by omega)) (by omega) qu51 qu50 J Sm D)
      ·
        rw [if_pos (by omega)] at D
        refine x_aloadn (x := 95) rfl rfl ?_
        refine z_getR (N := 6) (b := 68) 2 0 rfl f_2_30 rfl J rfl 12160 ⟨rfl, rfl⟩ rfl ?_
        refine x_inv (N := m_X9_blame) (As := []) (b := 68) (st := []) (dx9 := 7) (mc := 0) (ms := 0) (host := "") 9 rfl t_X9_blame ⟨Or.inl q_2_59, i_X9_blame.1, i_X9_blame.2⟩ ⟨by decide, rfl⟩ (congrArg Prod.fst (J.1.1 68 (9, 6) rfl)) rfl (by decide) rfl rfl ⟨by decide, by decide⟩ (jC.of rfl k_X9_blame rfl ?_)
        show jX m_X9_blame 7 0 0 0 [(0, .ref 68)] [] _ 0 0 _
        refine x_aloadn (x := 68) rfl rfl ?_
        refine x_aloadn (x := 68) rfl rfl ?_
        refine z_getM (N := 6) (v := u44) 9 3 rfl f_9_22 rfl J rfl qu44 ?_
        refine z_putI (N := 6) (w := u44.toInt) 9 2 rfl f_9_19 rfl (jfin_no TX9 RX9 6 rfl rfl) hD J Sm rfl rfl rfl (pw_68_2 (by omega)) rfl (fun h w53 J Sm => ?_)
        rw [vwf w53 (show u44.toInt = u44.toInt from by omega)] at D
        refine x_iconst (v := 0) rfl ki_0 ?_
        refine x_zret rfl rfl (by decide) ?_
        show jX m_X2_readSign 8 0 0 18 [(0, .ref 95), (1, .int 93)] [.int 0] _ 0 0 _
        refine x_zret rfl rfl (by decide) ?_
        show jX m_X2_readFactor 9 0 0 49 [(0, .ref 95), (1, .int 6)] [.int 0] _ 0 0 _
        refine x_ifeq (tgt := 56) rfl rfl (ti_eq jk_0 jk_0 (br_t (by omega) ?_))
        exact jX.sub jsb_n (ct_X2_readFactor_r95_c6d_56 hD hQ  u44 u43 h (jr_of rfl (by omega)) (jr_of rfl (by omega)) (by omega) (jmo w53 rfl qu44) (jmo w53 rfl qu43) J Sm D)
def fp_X2_readSum_r95_c6d : jFp := [(68, 2, 3), (68, 3, 4), (68, 4, 5), (68, 5, 6), (95, 4, 5), (95, 5, 6), (97, 0, 1200)]
set_option maxRecDepth 100000 in
set_option maxHeartbeats 4000000 in
theorem ct_X2_readSum_r95_c6d_100148 {Dy : jH → Prop} {h0 : jH} {Q : Option Value → jH → Prop} {dr : (Int × jW)} {K4 : Int → Int → jW → (Int × jW)} {R4 : Int} (hD : jDk Dy) (hQ : ∀ (v : Int32) hx9, 0 ≤ v.toInt ∧ v.toInt ≤ 1 → jJ jSgX Dy hx9 → jSm fp_X2_readSum_r95_c6d h0 hx9 → ∀ u0 u1 : Int32, jiv hx9 68 5 = u0 → jiv hx9 68 3 = u1 → (u0.toInt ≠ 3 ∨ u1.toInt ≤ 399) → dr.1 = v.toInt → dr.2 = vw hx9 → Q (some (.int v)) hx9) (k4 : ∀ (l2 : Int32) (l3 : Int32) (g0 : Int32) (g1 : Int32) (h : jH), 400 - l3.toInt < R4 → (-1) ≤ l2.toInt ∧ l2.toInt ≤ 4 → 0 ≤ l3.toInt ∧ l3.toInt ≤ 400 → 0 ≤ g0.toInt ∧ g0.toInt ≤ 400 → 0 ≤ g1.toInt ∧ g1.toInt ≤ 3 → (g1.toInt ≠ 3 ∨ g0.toInt ≤ 399) → jiv h 68 3 = g0 → jiv h 68 5 = g1 → jJ jSgX Dy h → jSm fp_X2_readSum_r95_c6d h0 h → K4 l2.toInt l3.toInt (vw h) = dr → jX m_X2_readSum 10 0 0 4 [(0, .ref 95), (1, .int 6), (2, .int l2), (3, .int l3)] [] h 0 0 Q) : ∀ (l3 : Int32) (g0 : Int32) (g1 : Int32) (h : jH), 0 ≤ l3.toInt ∧ l3.toInt ≤ 399 → 0 ≤ g0.toInt ∧ g0.toInt ≤ 400 → 0 ≤ g1.toInt ∧ g1.toInt ≤ 3 → (g1.toInt ≠ 3 ∨ g0.toInt ≤ 399) → jiv h 68 3 = g0 → jiv h 68 5 = g1 → 400 - l3.toInt ≤ R4 → jJ jSgX Dy h → jSm fp_X2_readSum_r95_c6d h0 h → d_X2_readSum_r95_c6d_100148 K4  l3.toInt (vw h) = dr → jX m_X2_readSum 10 0 0 148 [(0, .ref 95), (1, .int 6), (3, .int l3)] [.int (-1)] h 0 0 Q := by
  intro l3 g0 g1 h y0 y1 y2 y3 z0 z1 m4 J Sm D
  unfold d_X2_readSum_r95_c6d_100148 at D
  try rw [vrf z0] at D
  try rw [vrf z1] at D
  refine x_istoren (lsx9 := [(2, .int (-1)), (0, .ref 95), (1, .int 6), (3, .int l3)]) rfl rfl rfl ?_
  refine x_iloadn (x := (-1)) rfl rfl ?_
  refine x_iconst (v := (-1)) rfl ki_m1 ?_
  refine x_icne (tgt := 156) rfl rfl (ti_ne jk_m1 jk_m1 (bn_f (by omega) ?_))
  refine x_iconst (v := 1) rfl ki_1 ?_
  refine x_zret rfl rfl (by decide) ?_
  exact hQ _ _ (jr_of jk_1 (by omega)) J Sm _ _ z1 z0 (by omega) ((congrArg Prod.fst D).symm.trans (show 1 = (1 : Int32).toInt from by have := jk_1; omega)) (congrArg Prod.snd D).symm
set_option maxRecDepth 100000 in
set_option maxHeartbeats 4000000 in
theorem ct_X2_readSum_r95_c6d_600148 {Dy : jH → Prop} {h0 : jH} {Q : Option Value → jH → Prop} {dr : (Int × jW)} {K4 : Int → Int → jW → (Int × jW)} {R4 : Int} (hD : jDk Dy) (hQ : ∀ (v : Int32) hx9, 0 ≤ v.toInt ∧ v.toInt ≤ 1 → jJ jSgX Dy hx9 → jSm fp_X2_readSum_r95_c6d h0 hx9 → ∀ u0 u1 : Int32, jiv hx9 68 5 = u0 → jiv hx9 68 3 = u1 → (u0.toInt ≠ 3 ∨ u1.toInt ≤ 399) → dr.1 = v.toInt → dr.2 = vw hx9 → Q (some (.int v)) hx9) (k4 : ∀ (l2 : Int32) (l3 : Int32) (g0 : Int32) (g1 : Int32) (h : jH), 400 - l3.toInt < R4 → (-1) ≤ l2.toInt ∧ l2.toInt ≤ 4 → 0 ≤ l3.toInt ∧ l3.toInt ≤ 400 → 0 ≤ g0.toInt ∧ g0.toInt ≤ 400 → 0 ≤ g1.toInt ∧ g1.toInt ≤ 3 → (g1.toInt ≠ 3 ∨ g0.toInt ≤ 399) → jiv h 68 3 = g0 → jiv h 68 5 = g1 → jJ jSgX Dy h → jSm fp_X2_readSum_r95_c6d h0 h → K4 l2.toInt l3.toInt (vw h) = dr → jX m_X2_readSum 10 0 0 4 [(0, .ref 95), (1, .int 6), (2, .int l2), (3, .int l3)] [] h 0 0 Q) : ∀ (l3 : Int32) (g0 : Int32) (g1 : Int32) (h : jH), 0 ≤ l3.toInt ∧ l3.toInt ≤ 399 → 0 ≤ g0.toInt ∧ g0.toInt ≤ 400 → 0 ≤ g1.toInt ∧ g1.toInt ≤ 3 → (g1.toInt ≠ 3 ∨ g0.toInt ≤ 399) → jiv h 68 3 = g0 → jiv h 68 5 = g1 → 400 - l3.toInt ≤ R4 → jJ jSgX Dy h → jSm fp_X2_readSum_r95_c6d h0 h → d_X2_readSum_r95_c6d_600148 K4  l3.toInt (vw h) = dr → jX m_X2_readSum 10 0 0 148 [(0, .ref 95), (1, .int 6), (3, .int l3)] [.int 4] h 0 0 Q := by
  intro l3 g0 g1 h y0 y1 y2 y3 z0 z1 m4 J Sm D
  unfold d_X2_readSum_r95_c6d_600148 at D
  try rw [vrf z0] at D
  try rw [vrf z1] at D
  refine x_istoren (lsx9 := [(2, .int 4), (0, .ref 95), (1, .int 6), (3, .int l3)]) rfl rfl rfl ?_
  refine x_iloadn (x := 4) rfl rfl ?_
  refine x_iconst (v := (-1)) rfl ki_m1 ?_
  refine x_icne (tgt := 156) rfl rfl (ti_ne jk_4 jk_m1 (bn_t (by omega) ?_))
  refine x_aloadn (x := 95) rfl rfl ?_
  refine z_getR (N := 6) (b := 68) 2 0 rfl f_2_30 rfl J rfl 12160 ⟨rfl, rfl⟩ rfl ?_
  refine x_inv (N := m_X9_step) (As := []) (b := 68) (st := []) (dx9 := 2) (mc := 0) (ms := 0) (host := "") 9 rfl t_X9_step ⟨Or.inl q_2_62, i_X9_step.1, i_X9_step.2⟩ ⟨by decide, rfl⟩ (congrArg Prod.fst (J.1.1 68 (9, 6) rfl)) rfl (by decide) rfl rfl ⟨by decide, by decide⟩ (sf_X9_step_r68d  hD J z1 z0 (by omega) rfl  (fun h J S1 u2 u3 qu2 qu3 ru2 X4 => ?_))
  have Sm := jSm_tr rfl Sm S1
  rw [X4] at D
  have eu2 := (show 0 ≤ u2.toInt ∧ u2.toInt ≤ 3 from qu2 ▸ jrg_f J sg_68_5_6_1_0_1)
  try rw [vrf qu2] at D
  have eu3 := (show 0 ≤ u3.toInt ∧ u3.toInt ≤ 400 from qu3 ▸ jrg_f J sg_68_3_4_1_0_1)
  try rw [vrf qu3] at D
  show jX m_X2_readSum 10 0 0 163 [(2, .int 4), (0, .ref 95), (1, .int 6), (3, .int l3)] [] _ 0 0 _
  refine z_iinc (x := l3) (lsx9 := fun v5 => [(3, .int v5), (2, .int 4), (0, .ref 95), (1, .int 6)]) rfl rfl rfl jko_1 (by omega) rfl (fun _ => rfl) (fun v5 ev5 => ?_)
  refine x_goto (tgt := 4) rfl rfl ?_
  try rw [show (l3.toInt + 1) = v5.toInt from by omega] at D
  exact jX.sub (jsb_c rfl (jsb_c rfl (jsb_c rfl (jsb_c rfl jsb_n)))) (k4 4 v5 u3 u2 h (by omega) (jr_of jk_4 (by omega)) (jr_of rfl (by omega)) (jr_of rfl (by omega)) (jr_of rfl (by omega)) (by omega) qu3 qu2 J Sm (by rw [jk_4]; exact D))
set_option maxRecDepth 100000 in
set_option maxHeartbeats 4000000 in
theorem ct_X2_readSum_r95_c6d_500148 {Dy : jH → Prop} {h0 : jH} {Q : Option Value → jH → Prop} {dr : (Int × jW)} {K4 : Int → Int → jW → (Int × jW)} {R4 : Int} (hD : jDk Dy) (hQ : ∀ (v : Int32) hx9, 0 ≤ v.toInt ∧ v.toInt ≤ 1 → jJ jSgX Dy hx9 → jSm fp_X2_readSum_r95_c6d h0 hx9 → ∀ u0 u1 : Int32, jiv hx9 68 5 = u0 → jiv hx9 68 3 = u1 → (u0.toInt ≠ 3 ∨ u1.toInt ≤ 399) → dr.1 = v.toInt → dr.2 = vw hx9 → Q (some (.int v)) hx9) (k4 : ∀ (l2 : Int32) (l3 : Int32) (g0 : Int32) (g1 : Int32) (h : jH), 400 - l3.toInt < R4 → (-1) ≤ l2.toInt ∧ l2.toInt ≤ 4 → 0 ≤ l3.toInt ∧ l3.toInt ≤ 400 → 0 ≤ g0.toInt ∧ g0.toInt ≤ 400 → 0 ≤ g1.toInt ∧ g1.toInt ≤ 3 → (g1.toInt ≠ 3 ∨ g0.toInt ≤ 399) → jiv h 68 3 = g0 → jiv h 68 5 = g1 → jJ jSgX Dy h → jSm fp_X2_readSum_r95_c6d h0 h → K4 l2.toInt l3.toInt (vw h) = dr → jX m_X2_readSum 10 0 0 4 [(0, .ref 95), (1, .int 6), (2, .int l2), (3, .int l3)] [] h 0 0 Q) : ∀ (l3 : Int32) (g0 : Int32) (g1 : Int32) (h : jH), 0 ≤ l3.toInt ∧ l3.toInt ≤ 399 → 0 ≤ g0.toInt ∧ g0.toInt ≤ 400 → 0 ≤ g1.toInt ∧ g1.toInt ≤ 3 → (g1.toInt ≠ 3 ∨ g0.toInt ≤ 399) → jiv h 68 3 = g0 → jiv h 68 5 = g1 → 400 - l3.toInt ≤ R4 → jJ jSgX Dy h → jSm fp_X2_readSum_r95_c6d h0 h → d_X2_readSum_r95_c6d_500148 K4  l3.toInt (vw h) = dr → jX m_X2_readSum 10 0 0 148 [(0, .ref 95), (1, .int 6), (3, .int l3)] [.int 3] h 0 0 Q := by
  intro l3 g0 g1 h y0 y1 y2 y3 z0 z1 m4 J Sm D
  unfold d_X2_readSum_r95_c6d_500148 at D
  try rw [vrf z0] at D
  try rw [vrf z1] at D
  refine x_istoren (lsx9 := [(2, .int 3), (0, .ref 95), (1, .int 6), (3, .int l3)]) rfl rfl rfl ?_
  refine x_iloadn (x := 3) rfl rfl ?_
  refine x_iconst (v := (-1)) rfl ki_m1 ?_
  refine x_icne (tgt := 156) rfl rfl (ti_ne jk_3 jk_m1 (bn_t (by omega) ?_))
  refine x_aloadn (x := 95) rfl rfl ?_
  refine z_getR (N := 6) (b := 68) 2 0 rfl f_2_30 rfl J rfl 12160 ⟨rfl, rfl⟩ rfl ?_
  refine x_inv (N := m_X9_step) (As := []) (b := 68) (st := []) (dx9 := 2) (mc := 0) (ms := 0) (host := "") 9 rfl t_X9_step ⟨Or.inl q_2_62, i_X9_step.1, i_X9_step.2⟩ ⟨by decide, rfl⟩ (congrArg Prod.fst (J.1.1 68 (9, 6) rfl)) rfl (by decide) rfl rfl ⟨by decide, by decide⟩ (sf_X9_step_r68d  hD J z1 z0 (by omega) rfl  (fun h J S1 u2 u3 qu2 qu3 ru2 X4 => ?_))
  have Sm := jSm_tr rfl Sm S1
  rw [X4] at D
  have eu2 := (show 0 ≤ u2.toInt ∧ u2.toInt ≤ 3 from qu2 ▸ jrg_f J sg_68_5_6_1_0_1)
  try rw [vrf qu2] at D
  have eu3 := (show 0 ≤ u3.toInt ∧ u3.toInt ≤ 400 from qu3 ▸ jrg_f J sg_68_3_4_1_0_1)
  try rw [vrf qu3] at D
  show jX m_X2_readSum 10 0 0 163 [(2, .int 3), (0, .ref 95), (1, .int 6), (3, .int l3)] [] _ 0 0 _
  refine z_iinc (x := l3) (lsx9 := fun v5 => [(3, .int v5), (2, .int 3), (0, .ref 95), (1, .int 6)]) rfl rfl rfl jko_1 (by omega) rfl (fun _ => rfl) (fun v5 ev5 => ?_)
  refine x_goto (tgt := 4) rfl rfl ?_
  try rw [show (l3.toInt + 1) = v5.toInt from by omega] at D
  exact jX.sub (jsb_c rfl (jsb_c rfl (jsb_c rfl (jsb_c rfl jsb_n)))) (k4 3 v5 u3 u2 h (by omega) (jr_of jk_3 (by omega)) (jr_of rfl (by omega)) (jr_of rfl (by omega)) (jr_of rfl (by omega)) (by omega) qu3 qu2 J Sm (by rw [jk_3]; exact D))
set_option maxRecDepth 100000 in
set_option maxHeartbeats 4000000 in
theorem ct_X2_readSum_r95_c6d_115 {Dy : jH → Prop} {h0 : jH} {Q : Option Value → jH → Prop} {dr : (Int × jW)} {K4 : Int → Int → jW → (Int × jW)} {R4 : Int} (hD : jDk Dy) (hQ : ∀ (v : Int32) hx9, 0 ≤ v.toInt ∧ v.toInt ≤ 1 → jJ jSgX Dy hx9 → jSm fp_X2_readSum_r95_c6d h0 hx9 → ∀ u0 u1 : Int32, jiv hx9 68 5 = u0 → jiv hx9 68 3 = u1 → (u0.toInt ≠ 3 ∨ u1.toInt ≤ 399) → dr.1 = v.toInt → dr.2 = vw hx9 → Q (some (.int v)) hx9) (k4 : ∀ (l2 : Int32) (l3 : Int32) (g0 : Int32) (g1 : Int32) (h : jH), 400 - l3.toInt < R4 → (-1) ≤ l2.toInt ∧ l2.toInt ≤ 4 → 0 ≤ l3.toInt ∧ l3.toInt ≤ 400 → 0 ≤ g0.toInt ∧ g0.toInt ≤ 400 → 0 ≤ g1.toInt ∧ g1.toInt ≤ 3 → (g1.toInt ≠ 3 ∨ g0.toInt ≤ 399) → jiv h 68 3 = g0 → jiv h 68 5 = g1 → jJ jSgX Dy h → jSm fp_X2_readSum_r95_c6d h0 h → K4 l2.toInt l3.toInt (vw h) = dr → jX m_X2_readSum 10 0 0 4 [(0, .ref 95), (1, .int 6), (2, .int l2), (3, .int l3)] [] h 0 0 Q) : ∀ (l3 : Int32) (g0 : Int32) (g1 : Int32) (h : jH), 0 ≤ l3.toInt ∧ l3.toInt ≤ 399 → 0 ≤ g0.toInt ∧ g0.toInt ≤ 400 → 0 ≤ g1.toInt ∧ g1.toInt ≤ 3 → (g1.toInt ≠ 3 ∨ g0.toInt ≤ 399) → jiv h 68 3 = g0 → jiv h 68 5 = g1 → 400 - l3.toInt ≤ R4 → jJ jSgX Dy h → jSm fp_X2_readSum_r95_c6d h0 h → d_X2_readSum_r95_c6d_115 K4  l3.toInt (vw h) = dr → jX m_X2_readSum 10 0 0 115 [(0, .ref 95), (1, .int 6), (3, .int l3)] [] h 0 0 Q := by
  intro l3 g0 g1 h y0 y1 y2 y3 z0 z1 m4 J Sm D
  unfold d_X2_readSum_r95_c6d_115 at D
  try rw [vrf z0] at D
  try rw [vrf z1] at D
  refine x_aloadn (x := 95) rfl rfl ?_
  refine z_getR (N := 6) (b := 68) 2 0 rfl f_2_30 rfl J rfl 12160 ⟨rfl, rfl⟩ rfl ?_
  refine x_bipush (v := 43) rfl kb_43 ?_
  refine x_inv (N := m_X9_isSign) (As := [.int 43]) (b := 68) (st := []) (dx9 := 1) (mc := 0) (ms := 0) (host := "") 9 rfl t_X9_isSign ⟨Or.inl q_2_55, i_X9_isSign.1, i_X9_isSign.2⟩ ⟨by decide, rfl⟩ (congrArg Prod.fst (J.1.1 68 (9, 6) rfl)) rfl (by decide) rfl rfl ⟨by decide, by decide⟩ (sf_X9_isSign_r68d (jr_of jk_43 (by omega)) hD J z1 z0 (by omega) rfl  (fun v6 h ev6 J S1 u2 u3 qu2 qu3 ru2 X4 X5 => ?_))
  have Sm := jSm_tr rfl Sm S1
  try rw [jk_43] at X4
  try rw [X4] at D
  try rw [← X5] at D
  have eu2 := (show 0 ≤ u2.toInt ∧ u2.toInt ≤ 3 from qu2 ▸ jrg_f J sg_68_5_6_1_0_1)
  have Luu2 := congrArg Int32.toInt (((jmc S1 rfl z1)).symm.trans qu2)
  try rw [Luu2] at D
  try rw [vrf qu2] at D
  have eu3 := (show 0 ≤ u3.toInt ∧ u3.toInt ≤ 400 from qu3 ▸ jrg_f J sg_68_3_4_1_0_1)
  have Luu3 := congrArg Int32.toInt (((jmc S1 rfl z0)).symm.trans qu3)
  try rw [Luu3] at D
  try rw [vrf qu3] at D
  show jX m_X2_readSum 10 0 0 124 [(0, .ref 95), (1, .int 6), (3, .int l3)] [.int v6] _ 0 0 _
  refine x_ifeq (tgt := 131) rfl rfl (ti_eq rfl jk_0 ⟨fun c7 => ?_, fun c7 => ?_⟩)
  ·
    rw [if_pos (by omega)] at D
    refine x_aloadn (x := 95) rfl rfl ?_
    refine z_getR (N := 6) (b := 68) 2 0 rfl f_2_30 rfl J rfl 12160 ⟨rfl, rfl⟩ rfl ?_
    refine x_bipush (v := 45) rfl kb_45 ?_
    refine x_inv (N := m_X9_isSign) (As := [.int 45]) (b := 68) (st := []) (dx9 := 1) (mc := 0) (ms := 0) (host := "") 9 rfl t_X9_isSign ⟨Or.inl q_2_55, i_X9_isSign.1, i_X9_isSign.2⟩ ⟨by decide, rfl⟩ (congrArg Prod.fst (J.1.1 68 (9, 6) rfl)) rfl (by decide) rfl rfl ⟨by decide, by decide⟩ (sf_X9_isSign_r68d (jr_of jk_45 (by omega)) hD J qu2 qu3 (by omega) rfl  (fun v13 h ev13 J S8 u9 u10 qu9 qu10 ru9 X11 X12 => ?_))
    have Sm := jSm_tr rfl Sm S8
    try rw [jk_45] at X11
    try rw [X11] at D
    try rw [← X12] at D
    have eu9 := (show 0 ≤ u9.toInt ∧ u9.toInt ≤ 3 from qu9 ▸ jrg_f J sg_68_5_6_1_0_1)
    have Luu9 := congrArg Int32.toInt (((jmc S8 rfl qu2)).symm.trans qu9)
    try rw [Luu9] at D
    try rw [vrf qu9] at D
    have eu10 := (show 0 ≤ u10.toInt ∧ u10.toInt ≤ 400 from qu10 ▸ jrg_f J sg_68_3_4_1_0_1)
    have Luu10 := congrArg Int32.toInt (((jmc S8 rfl qu3)).symm.trans qu10)
    try rw [Luu10] at D
    try rw [vrf qu10] at D
    show jX m_X2_readSum 10 0 0 140 [(0, .ref 95), (1, .int 6), (3, .int l3)] [.int v13] _ 0 0 _
    refine x_ifeq (tgt := 147) rfl rfl (ti_eq rfl jk_0 ⟨fun c14 => ?_, fun c14 => ?_⟩)
    ·
      rw [if_pos (by omega)] at D
      refine x_iconst (v := (-1)) rfl ki_m1 ?_
      exact jX.sub (jsb_c rfl (jsb_c rfl (jsb_c rfl jsb_n))) (ct_X2_readSum_r95_c6d_100148 hD hQ k4 l3 u10 u9 h (jr_of rfl (by omega)) (jr_of rfl (by omega)) (jr_of rfl (by omega)) (by omega) qu10 qu9 (by omega) J Sm D)
    ·
      rw [if_neg (by omega)] at D
      refine x_iconst (v := 4) rfl ki_4 ?_
      refine x_goto (tgt := 148) rfl rfl ?_
      exact jX.sub (jsb_c rfl (jsb_c rfl (jsb_c rfl jsb_n))) (ct_X2_readSum_r95_c6d_600148 hD hQ k4 l3 u10 u9 h (jr_of rfl (by omega)) (jr_of rfl (by omega)) (jr_of rfl (by omega)) (by omega) qu10 qu9 (by omega) J Sm D)
  ·
    rw [if_neg (by omega)] at D
    refine x_iconst (v := 3) rfl ki_3 ?_
    refine x_goto (tgt := 148) rfl rfl ?_
    exact jX.sub (jsb_c rfl (jsb_c rfl (jsb_c rfl jsb_n))) (ct_X2_readSum_r95_c6d_500148 hD hQ k4 l3 u3 u2 h (jr_of rfl (by omega)) (jr_of rfl (by omega)) (jr_of rfl (by omega)) (by omega) qu3 qu2 (by omega) J Sm D)
set_option maxRecDepth 100000 in
set_option maxHeartbeats 4000000 in
theorem ct_X2_readSum_r95_c6d_105 {Dy : jH → Prop} {h0 : jH} {Q : Option Value → jH → Prop} {dr : (Int × jW)} {K4 : Int → Int → jW → (Int × jW)} {R4 : Int} (hD : jDk Dy) (hQ : ∀ (v : Int32) hx9, 0 ≤ v.toInt ∧ v.toInt ≤ 1 → jJ jSgX Dy hx9 → jSm fp_X2_readSum_r95_c6d h0 hx9 → ∀ u0 u1 : Int32, jiv hx9 68 5 = u0 → jiv hx9 68 3 = u1 → (u0.toInt ≠ 3 ∨ u1.toInt ≤ 399) → dr.1 = v.toInt → dr.2 = vw hx9 → Q (some (.int v)) hx9) (k4 : ∀ (l2 : Int32) (l3 : Int32) (g0 : Int32) (g1 : Int32) (h : jH), 400 - l3.toInt < R4 → (-1) ≤ l2.toInt ∧ l2.toInt ≤ 4 → 0 ≤ l3.toInt ∧ l3.toInt ≤ 400 → 0 ≤ g0.toInt ∧ g0.toInt ≤ 400 → 0 ≤ g1.toInt ∧ g1.toInt ≤ 3 → (g1.toInt ≠ 3 ∨ g0.toInt ≤ 399) → jiv h 68 3 = g0 → jiv h 68 5 = g1 → jJ jSgX Dy h → jSm fp_X2_readSum_r95_c6d h0 h → K4 l2.toInt l3.toInt (vw h) = dr → jX m_X2_readSum 10 0 0 4 [(0, .ref 95), (1, .int 6), (2, .int l2), (3, .int l3)] [] h 0 0 Q) : ∀ (l2 : Int32) (l3 : Int32) (g0 : Int32) (g1 : Int32) (h : jH), (-1) ≤ l2.toInt ∧ l2.toInt ≤ 4 → 0 ≤ l3.toInt ∧ l3.toInt ≤ 399 → 0 ≤ g0.toInt ∧ g0.toInt ≤ 400 → 0 ≤ g1.toInt ∧ g1.toInt ≤ 3 → (g1.toInt ≠ 3 ∨ g0.toInt ≤ 399) → jiv h 68 3 = g0 → jiv h 68 5 = g1 → 400 - l3.toInt ≤ R4 → jJ jSgX Dy h → jSm fp_X2_readSum_r95_c6d h0 h → d_X2_readSum_r95_c6d_105 K4  l2.toInt l3.toInt (vw h) = dr → jX m_X2_readSum 10 0 0 105 [(0, .ref 95), (1, .int 6), (2, .int l2), (3, .int l3)] [] h 0 0 Q := by
  intro l2 l3 g0 g1 h y0 y1 y2 y3 y4 z0 z1 m4 J Sm D
  unfold d_X2_readSum_r95_c6d_105 at D
  try rw [vrf z0] at D
  try rw [vrf z1] at D
  refine x_iloadn (x := l2) rfl rfl ?_
  refine x_iconst (v := (-1)) rfl ki_m1 ?_
  refine x_iceq (tgt := 115) rfl rfl (ti_eq rfl jk_m1 ⟨fun c1 => ?_, fun c1 => ?_⟩)
  ·
    rw [if_pos (by omega)] at D
    exact jX.sub (jsb_c rfl (jsb_c rfl (jsb_c rfl jsb_n))) (ct_X2_readSum_r95_c6d_115 hD hQ k4 l3 g0 g1 h (jr_of rfl (by omega)) (jr_of rfl (by omega)) (jr_of rfl (by omega)) (by omega) z0 z1 (by omega) J Sm D)
  ·
    rw [if_neg (by omega)] at D
    refine x_aloadn (x := 95) rfl rfl ?_
    refine x_iloadn (x := l2) rfl rfl ?_
    refine x_inv (N := m_X2_emit) (As := [.int l2]) (b := 95) (st := []) (dx9 := 1) (mc := 0) (ms := 0) (host := "") 2 rfl t_X2_emit ⟨Or.inl q_2_89, i_X2_emit.1, i_X2_emit.2⟩ ⟨by decide, rfl⟩ (congrArg Prod.fst (J.1.1 95 (2, 6) rfl)) rfl (by decide) rfl rfl ⟨by decide, by decide⟩ (sf_X2_emit_r95d  hD J rfl  (fun h J S2 X3 => ?_))
    have Sm := jSm_tr rfl Sm S2
    rw [X3] at D
    show jX m_X2_readSum 10 0 0 115 [(0, .ref 95), (1, .int 6), (2, .int l2), (3, .int l3)] [] _ 0 0 _
    exact jX.sub (jsb_c rfl (jsb_c rfl (jsb_c rfl jsb_n))) (ct_X2_readSum_r95_c6d_115 hD hQ k4 l3 g0 g1 h (jr_of rfl (by omega)) (jr_of rfl (by omega)) (jr_of rfl (by omega)) (by omega) (jmc S2 rfl z0) (jmc S2 rfl z1) (by omega) J Sm D)
set_option maxRecDepth 100000 in
set_option maxHeartbeats 4000000 in
theorem ct_X2_readSum_r95_c6d_100081 {Dy : jH → Prop} {h0 : jH} {Q : Option Value → jH → Prop} {dr : (Int × jW)} {K4 : Int → Int → jW → (Int × jW)} {K17 : Int → Int → Int → Int → jW → (Int × jW)} {R4 : Int} {R17 : Int} (hD : jDk Dy) (hQ : ∀ (v : Int32) hx9, 0 ≤ v.toInt ∧ v.toInt ≤ 1 → jJ jSgX Dy hx9 → jSm fp_X2_readSum_r95_c6d h0 hx9 → ∀ u0 u1 : Int32, jiv hx9 68 5 = u0 → jiv hx9 68 3 = u1 → (u0.toInt ≠ 3 ∨ u1.toInt ≤ 399) → dr.1 = v.toInt → dr.2 = vw hx9 → Q (some (.int v)) hx9) (k4 : ∀ (l2 : Int32) (l3 : Int32) (g0 : Int32) (g1 : Int32) (h : jH), 400 - l3.toInt < R4 → (-1) ≤ l2.toInt ∧ l2.toInt ≤ 4 → 0 ≤ l3.toInt ∧ l3.toInt ≤ 400 → 0 ≤ g0.toInt ∧ g0.toInt ≤ 400 → 0 ≤ g1.toInt ∧ g1.toInt ≤ 3 → (g1.toInt ≠ 3 ∨ g0.toInt ≤ 399) → jiv h 68 3 = g0 → jiv h 68 5 = g1 → jJ jSgX Dy h → jSm fp_X2_readSum_r95_c6d h0 h → K4 l2.toInt l3.toInt (vw h) = dr → jX m_X2_readSum 10 0 0 4 [(0, .ref 95), (1, .int 6), (2, .int l2), (3, .int l3)] [] h 0 0 Q) (k17 : ∀ (l2 : Int32) (l3 : Int32) (l4 : Int32) (l5 : Int32) (g0 : Int32) (g1 : Int32) (h : jH), 400 - l5.toInt < R17 → (-1) ≤ l2.toInt ∧ l2.toInt ≤ 4 → 0 ≤ l3.toInt ∧ l3.toInt ≤ 399 → (-1) ≤ l4.toInt ∧ l4.toInt ≤ 6 → 0 ≤ l5.toInt ∧ l5.toInt ≤ 400 → 0 ≤ g0.toInt ∧ g0.toInt ≤ 400 → 0 ≤ g1.toInt ∧ g1.toInt ≤ 3 → (g1.toInt ≠ 3 ∨ g0.toInt ≤ 399) → jiv h 68 3 = g0 → jiv h 68 5 = g1 → 400 - l3.toInt ≤ R4 → jJ jSgX Dy h → jSm fp_X2_readSum_r95_c6d h0 h → K17 l2.toInt l3.toInt l4.toInt l5.toInt (vw h) = dr → jX m_X2_readSum 10 0 0 17 [(0, .ref 95), (1, .int 6), (2, .int l2), (3, .int l3), (4, .int l4), (5, .int l5)] [] h 0 0 Q) : ∀ (l2 : Int32) (l3 : Int32) (l5 : Int32) (g0 : Int32) (g1 : Int32) (h : jH), (-1) ≤ l2.toInt ∧ l2.toInt ≤ 4 → 0 ≤ l3.toInt ∧ l3.toInt ≤ 399 → 0 ≤ l5.toInt ∧ l5.toInt ≤ 399 → 0 ≤ g0.toInt ∧ g0.toInt ≤ 400 → 0 ≤ g1.toInt ∧ g1.toInt ≤ 3 → (g1.toInt ≠ 3 ∨ g0.toInt ≤ 399) → jiv h 68 3 = g0 → jiv h 68 5 = g1 → 400 - l3.toInt ≤ R4 → 400 - l5.toInt ≤ R17 → jJ jSgX Dy h → jSm fp_X2_readSum_r95_c6d h0 h → d_X2_readSum_r95_c6d_100081 K4 K17  l2.toInt l3.toInt l5.toInt (vw h) = dr → jX m_X2_readSum 10 0 0 81 [(0, .ref 95), (1, .int 6), (2, .int l2), (3, .int l3), (5, .int l5)] [.int (-1)] h 0 0 Q := by
  intro l2 l3 l5 g0 g1 h y0 y1 y2 y3 y4 y5 z0 z1 m4 m17 J Sm D
  unfold d_X2_readSum_r95_c6d_100081 at D
  try rw [vrf z0] at D
  try rw [vrf z1] at D
  refine x_istore (lsx9 := [(4, .int (-1)), (0, .ref 95), (1, .int 6), (2, .int l2), (3, .int l3), (5, .int l5)]) rfl rfl rfl ?_
  refine x_iload (x := (-1)) rfl rfl ?_
  refine x_iconst (v := (-1)) rfl ki_m1 ?_
  refine x_icne (tgt := 92) rfl rfl (ti_ne jk_m1 jk_m1 (bn_f (by omega) ?_))
  refine x_goto (tgt := 105) rfl rfl ?_
  exact jX.sub (jsb_c rfl (jsb_c rfl (jsb_c rfl (jsb_c rfl jsb_n)))) (ct_X2_readSum_r95_c6d_105 hD hQ k4 l2 l3 g0 g1 h (jr_of rfl (by omega)) (jr_of rfl (by omega)) (jr_of rfl (by omega)) (jr_of rfl (by omega)) (by omega) z0 z1 (by omega) J Sm D)
set_option maxRecDepth 100000 in
set_option maxHeartbeats 4000000 in
theorem ct_X2_readSum_r95_c6d_800081 {Dy : jH → Prop} {h0 : jH} {Q : Option Value → jH → Prop} {dr : (Int × jW)} {K4 : Int → Int → jW → (Int × jW)} {K17 : Int → Int → Int → Int → jW → (Int × jW)} {R4 : Int} {R17 : Int} (hD : jDk Dy) (hQ : ∀ (v : Int32) hx9, 0 ≤ v.toInt ∧ v.toInt ≤ 1 → jJ jSgX Dy hx9 → jSm fp_X2_readSum_r95_c6d h0 hx9 → ∀ u0 u1 : Int32, jiv hx9 68 5 = u0 → jiv hx9 68 3 = u1 → (u0.toInt ≠ 3 ∨ u1.toInt ≤ 399) → dr.1 = v.toInt → dr.2 = vw hx9 → Q (some (.int v)) hx9) (k4 : ∀ (l2 : Int32) (l3 : Int32) (g0 : Int32) (g1 : Int32) (h : jH), 400 - l3.toInt < R4 → (-1) ≤ l2.toInt ∧ l2.toInt ≤ 4 → 0 ≤ l3.toInt ∧ l3.toInt ≤ 400 → 0 ≤ g0.toInt ∧ g0.toInt ≤ 400 → 0 ≤ g1.toInt ∧ g1.toInt ≤ 3 → (g1.toInt ≠ 3 ∨ g0.toInt ≤ 399) → jiv h 68 3 = g0 → jiv h 68 5 = g1 → jJ jSgX Dy h → jSm fp_X2_readSum_r95_c6d h0 h → K4 l2.toInt l3.toInt (vw h) = dr → jX m_X2_readSum 10 0 0 4 [(0, .ref 95), (1, .int 6), (2, .int l2), (3, .int l3)] [] h 0 0 Q) (k17 : ∀ (l2 : Int32) (l3 : Int32) (l4 : Int32) (l5 : Int32) (g0 : Int32) (g1 : Int32) (h : jH), 400 - l5.toInt < R17 → (-1) ≤ l2.toInt ∧ l2.toInt ≤ 4 → 0 ≤ l3.toInt ∧ l3.toInt ≤ 399 → (-1) ≤ l4.toInt ∧ l4.toInt ≤ 6 → 0 ≤ l5.toInt ∧ l5.toInt ≤ 400 → 0 ≤ g0.toInt ∧ g0.toInt ≤ 400 → 0 ≤ g1.toInt ∧ g1.toInt ≤ 3 → (g1.toInt ≠ 3 ∨ g0.toInt ≤ 399) → jiv h 68 3 = g0 → jiv h 68 5 = g1 → 400 - l3.toInt ≤ R4 → jJ jSgX Dy h → jSm fp_X2_readSum_r95_c6d h0 h → K17 l2.toInt l3.toInt l4.toInt l5.toInt (vw h) = dr → jX m_X2_readSum 10 0 0 17 [(0, .ref 95), (1, .int 6), (2, .int l2), (3, .int l3), (4, .int l4), (5, .int l5)] [] h 0 0 Q) : ∀ (l2 : Int32) (l3 : Int32) (l5 : Int32) (g0 : Int32) (g1 : Int32) (h : jH), (-1) ≤ l2.toInt ∧ l2.toInt ≤ 4 → 0 ≤ l3.toInt ∧ l3.toInt ≤ 399 → 0 ≤ l5.toInt ∧ l5.toInt ≤ 399 → 0 ≤ g0.toInt ∧ g0.toInt ≤ 400 → 0 ≤ g1.toInt ∧ g1.toInt ≤ 3 → (g1.toInt ≠ 3 ∨ g0.toInt ≤ 399) → jiv h 68 3 = g0 → jiv h 68 5 = g1 → 400 - l3.toInt ≤ R4 → 400 - l5.toInt ≤ R17 → jJ jSgX Dy h → jSm fp_X2_readSum_r95_c6d h0 h → d_X2_readSum_r95_c6d_800081 K4 K17  l2.toInt l3.toInt l5.toInt (vw h) = dr → jX m_X2_readSum 10 0 0 81 [(0, .ref 95), (1, .int 6), (2, .int l2), (3, .int l3), (5, .int l5)] [.int 6] h 0 0 Q := by
  intro l2 l3 l5 g0 g1 h y0 y1 y2 y3 y4 y5 z0 z1 m4 m17 J Sm D
  unfold d_X2_readSum_r95_c6d_800081 at D
  try rw [vrf z0] at D
  try rw [vrf z1] at D
  refine x_istore (lsx9 := [(4, .int 6), (0, .ref 95), (1, .int 6), (2, .int l2), (3, .int l3), (5, .int l5)]) rfl rfl rfl ?_
  refine x_iload (x := 6) rfl rfl ?_
  refine x_iconst (v := (-1)) rfl ki_m1 ?_
  refine x_icne (tgt := 92) rfl rfl (ti_ne jk_6 jk_m1 (bn_t (by omega) ?_))
  refine x_aloadn (x := 95) rfl rfl ?_
  refine z_getR (N := 6) (b := 68) 2 0 rfl f_2_30 rfl J rfl 12160 ⟨rfl, rfl⟩ rfl ?_
  refine x_inv (N := m_X9_step) (As := []) (b := 68) (st := []) (dx9 := 2) (mc := 0) (ms := 0) (host := "") 9 rfl t_X9_step ⟨Or.inl q_2_62, i_X9_step.1, i_X9_step.2⟩ ⟨by decide, rfl⟩ (congrArg Prod.fst (J.1.1 68 (9, 6) rfl)) rfl (by decide) rfl rfl ⟨by decide, by decide⟩ (sf_X9_step_r68d  hD J z1 z0 (by omega) rfl  (fun h J S1 u2 u3 qu2 qu3 ru2 X4 => ?_))
  have Sm := jSm_tr rfl Sm S1
  rw [X4] at D
  have eu2 := (show 0 ≤ u2.toInt ∧ u2.toInt ≤ 3 from qu2 ▸ jrg_f J sg_68_5_6_1_0_1)
  try rw [vrf qu2] at D
  have eu3 := (show 0 ≤ u3.toInt ∧ u3.toInt ≤ 400 from qu3 ▸ jrg_f J sg_68_3_4_1_0_1)
  try rw [vrf qu3] at D
  show jX m_X2_readSum 10 0 0 99 [(4, .int 6), (0, .ref 95), (1, .int 6), (2, .int l2), (3, .int l3), (5, .int l5)] [] _ 0 0 _
  refine z_iinc (x := l5) (lsx9 := fun v5 => [(5, .int v5), (4, .int 6), (0, .ref 95), (1, .int 6), (2, .int l2), (3, .int l3)]) rfl rfl rfl jko_1 (by omega) rfl (fun _ => rfl) (fun v5 ev5 => ?_)
  refine x_goto (tgt := 17) rfl rfl ?_
  try rw [show (l5.toInt + 1) = v5.toInt from by omega] at D
  exact jX.sub (jsb_c rfl (jsb_c rfl (jsb_c rfl (jsb_c rfl (jsb_c rfl (jsb_c rfl jsb_n)))))) (k17 l2 l3 6 v5 u3 u2 h (by omega) (jr_of rfl (by omega)) (jr_of rfl (by omega)) (jr_of jk_6 (by omega)) (jr_of rfl (by omega)) (jr_of rfl (by omega)) (jr_of rfl (by omega)) (by omega) qu3 qu2 (by omega) J Sm (by rw [jk_6]; exact D))
set_option maxRecDepth 100000 in
set_option maxHeartbeats 4000000 in
theorem ct_X2_readSum_r95_c6d_700081 {Dy : jH → Prop} {h0 : jH} {Q : Option Value → jH → Prop} {dr : (Int × jW)} {K4 : Int → Int → jW → (Int × jW)} {K17 : Int → Int → Int → Int → jW → (Int × jW)} {R4 : Int} {R17 : Int} (hD : jDk Dy) (hQ : ∀ (v : Int32) hx9, 0 ≤ v.toInt ∧ v.toInt ≤ 1 → jJ jSgX Dy hx9 → jSm fp_X2_readSum_r95_c6d h0 hx9 → ∀ u0 u1 : Int32, jiv hx9 68 5 = u0 → jiv hx9 68 3 = u1 → (u0.toInt ≠ 3 ∨ u1.toInt ≤ 399) → dr.1 = v.toInt → dr.2 = vw hx9 → Q (some (.int v)) hx9) (k4 : ∀ (l2 : Int32) (l3 : Int32) (g0 : Int32) (g1 : Int32) (h : jH), 400 - l3.toInt < R4 → (-1) ≤ l2.toInt ∧ l2.toInt ≤ 4 → 0 ≤ l3.toInt ∧ l3.toInt ≤ 400 → 0 ≤ g0.toInt ∧ g0.toInt ≤ 400 → 0 ≤ g1.toInt ∧ g1.toInt ≤ 3 → (g1.toInt ≠ 3 ∨ g0.toInt ≤ 399) → jiv h 68 3 = g0 → jiv h 68 5 = g1 → jJ jSgX Dy h → jSm fp_X2_readSum_r95_c6d h0 h → K4 l2.toInt l3.toInt (vw h) = dr → jX m_X2_readSum 10 0 0 4 [(0, .ref 95), (1, .int 6), (2, .int l2), (3, .int l3)] [] h 0 0 Q) (k17 : ∀ (l2 : Int32) (l3 : Int32) (l4 : Int32) (l5 : Int32) (g0 : Int32) (g1 : Int32) (h : jH), 400 - l5.toInt < R17 → (-1) ≤ l2.toInt ∧ l2.toInt ≤ 4 → 0 ≤ l3.toInt ∧ l3.toInt ≤ 399 → (-1) ≤ l4.toInt ∧ l4.toInt ≤ 6 → 0 ≤ l5.toInt ∧ l5.toInt ≤ 400 → 0 ≤ g0.toInt ∧ g0.toInt ≤ 400 → 0 ≤ g1.toInt ∧ g1.toInt ≤ 3 → (g1.toInt ≠ 3 ∨ g0.toInt ≤ 399) → jiv h 68 3 = g0 → jiv h 68 5 = g1 → 400 - l3.toInt ≤ R4 → jJ jSgX Dy h → jSm fp_X2_readSum_r95_c6d h0 h → K17 l2.toInt l3.toInt l4.toInt l5.toInt (vw h) = dr → jX m_X2_readSum 10 0 0 17 [(0, .ref 95), (1, .int 6), (2, .int l2), (3, .int l3), (4, .int l4), (5, .int l5)] [] h 0 0 Q) : ∀ (l2 : Int32) (l3 : Int32) (l5 : Int32) (g0 : Int32) (g1 : Int32) (h : jH), (-1) ≤ l2.toInt ∧ l2.toInt ≤ 4 → 0 ≤ l3.toInt ∧ l3.toInt ≤ 399 → 0 ≤ l5.toInt ∧ l5.toInt ≤ 399 → 0 ≤ g0.toInt ∧ g0.toInt ≤ 400 → 0 ≤ g1.toInt ∧ g1.toInt ≤ 3 → (g1.toInt ≠ 3 ∨ g0.toInt ≤ 399) → jiv h 68 3 = g0 → jiv h 68 5 = g1 → 400 - l3.toInt ≤ R4 → 400 - l5.toInt ≤ R17 → jJ jSgX Dy h → jSm fp_X2_readSum_r95_c6d h0 h → d_X2_readSum_r95_c6d_700081 K4 K17  l2.toInt l3.toInt l5.toInt (vw h) = dr → jX m_X2_readSum 10 0 0 81 [(0, .ref 95), (1, .int 6), (2, .int l2), (3, .int l3), (5, .int l5)] [.int 5] h 0 0 Q := by
  intro l2 l3 l5 g0 g1 h y0 y1 y2 y3 y4 y5 z0 z1 m4 m17 J Sm D
  unfold d_X2_readSum_r95_c6d_700081 at D
  try rw [vrf z0] at D
  try rw [vrf z1] at D
  refine x_istore (lsx9 := [(4, .int 5), (0, .ref 95), (1, .int 6), (2, .int l2), (3, .int l3), (5, .int l5)]) rfl rfl rfl ?_
  refine x_iload (x := 5) rfl rfl ?_
  refine x_iconst (v := (-1)) rfl ki_m1 ?_
  refine x_icne (tgt := 92) rfl rfl (ti_ne jk_5 jk_m1 (bn_t (by omega) ?_))
  refine x_aloadn (x := 95) rfl rfl ?_
  refine z_getR (N := 6) (b := 68) 2 0 rfl f_2_30 rfl J rfl 12160 ⟨rfl, rfl⟩ rfl ?_
  refine x_inv (N := m_X9_step) (As := []) (b := 68) (st := []) (dx9 := 2) (mc := 0) (ms := 0) (host := "") 9 rfl t_X9_step ⟨Or.inl q_2_62, i_X9_step.1, i_X9_step.2⟩ ⟨by decide, rfl⟩ (congrArg Prod.fst (J.1.1 68 (9, 6) rfl)) rfl (by decide) rfl rfl ⟨by decide, by decide⟩ (sf_X9_step_r68d  hD J z1 z0 (by omega) rfl  (fun h J S1 u2 u3 qu2 qu3 ru2 X4 => ?_))
  have Sm := jSm_tr rfl Sm S1
  rw [X4] at D
  have eu2 := (show 0 ≤ u2.toInt ∧ u2.toInt ≤ 3 from qu2 ▸ jrg_f J sg_68_5_6_1_0_1)
  try rw [vrf qu2] at D
  have eu3 := (show 0 ≤ u3.toInt ∧ u3.toInt ≤ 400 from qu3 ▸ jrg_f J sg_68_3_4_1_0_1)
  try rw [vrf qu3] at D
  show jX m_X2_readSum 10 0 0 99 [(4, .int 5), (0, .ref 95), (1, .int 6), (2, .int l2), (3, .int l3), (5, .int l5)] [] _ 0 0 _
  refine z_iinc (x := l5) (lsx9 := fun v5 => [(5, .int v5), (4, .int 5), (0, .ref 95), (1, .int 6), (2, .int l2), (3, .int l3)]) rfl rfl rfl jko_1 (by omega) rfl (fun _ => rfl) (fun v5 ev5 => ?_)
  refine x_goto (tgt := 17) rfl rfl ?_
  try rw [show (l5.toInt + 1) = v5.toInt from by omega] at D
  exact jX.sub (jsb_c rfl (jsb_c rfl (jsb_c rfl (jsb_c rfl (jsb_c rfl (jsb_c rfl jsb_n)))))) (k17 l2 l3 5 v5 u3 u2 h (by omega) (jr_of rfl (by omega)) (jr_of rfl (by omega)) (jr_of jk_5 (by omega)) (jr_of rfl (by omega)) (jr_of rfl (by omega)) (jr_of rfl (by omega)) (by omega) qu3 qu2 (by omega) J Sm (by rw [jk_5]; exact D))
set_option maxRecDepth 100000 in
set_option maxHeartbeats 4000000 in
theorem ct_X2_readSum_r95_c6d_47 {Dy : jH → Prop} {h0 : jH} {Q : Option Value → jH → Prop} {dr : (Int × jW)} {K4 : Int → Int → jW → (Int × jW)} {K17 : Int → Int → Int → Int → jW → (Int × jW)} {R4 : Int} {R17 : Int} (hD : jDk Dy) (hQ : ∀ (v : Int32) hx9, 0 ≤ v.toInt ∧ v.toInt ≤ 1 → jJ jSgX Dy hx9 → jSm fp_X2_readSum_r95_c6d h0 hx9 → ∀ u0 u1 : Int32, jiv hx9 68 5 = u0 → jiv hx9 68 3 = u1 → (u0.toInt ≠ 3 ∨ u1.toInt ≤ 399) → dr.1 = v.toInt → dr.2 = vw hx9 → Q (some (.int v)) hx9) (k4 : ∀ (l2 : Int32) (l3 : Int32) (g0 : Int32) (g1 : Int32) (h : jH), 400 - l3.toInt < R4 → (-1) ≤ l2.toInt ∧ l2.toInt ≤ 4 → 0 ≤ l3.toInt ∧ l3.toInt ≤ 400 → 0 ≤ g0.toInt ∧ g0.toInt ≤ 400 → 0 ≤ g1.toInt ∧ g1.toInt ≤ 3 → (g1.toInt ≠ 3 ∨ g0.toInt ≤ 399) → jiv h 68 3 = g0 → jiv h 68 5 = g1 → jJ jSgX Dy h → jSm fp_X2_readSum_r95_c6d h0 h → K4 l2.toInt l3.toInt (vw h) = dr → jX m_X2_readSum 10 0 0 4 [(0, .ref 95), (1, .int 6), (2, .int l2), (3, .int l3)] [] h 0 0 Q) (k17 : ∀ (l2 : Int32) (l3 : Int32) (l4 : Int32) (l5 : Int32) (g0 : Int32) (g1 : Int32) (h : jH), 400 - l5.toInt < R17 → (-1) ≤ l2.toInt ∧ l2.toInt ≤ 4 → 0 ≤ l3.toInt ∧ l3.toInt ≤ 399 → (-1) ≤ l4.toInt ∧ l4.toInt ≤ 6 → 0 ≤ l5.toInt ∧ l5.toInt ≤ 400 → 0 ≤ g0.toInt ∧ g0.toInt ≤ 400 → 0 ≤ g1.toInt ∧ g1.toInt ≤ 3 → (g1.toInt ≠ 3 ∨ g0.toInt ≤ 399) → jiv h 68 3 = g0 → jiv h 68 5 = g1 → 400 - l3.toInt ≤ R4 → jJ jSgX Dy h → jSm fp_X2_readSum_r95_c6d h0 h → K17 l2.toInt l3.toInt l4.toInt l5.toInt (vw h) = dr → jX m_X2_readSum 10 0 0 17 [(0, .ref 95), (1, .int 6), (2, .int l2), (3, .int l3), (4, .int l4), (5, .int l5)] [] h 0 0 Q) : ∀ (l2 : Int32) (l3 : Int32) (l5 : Int32) (g0 : Int32) (g1 : Int32) (h : jH), (-1) ≤ l2.toInt ∧ l2.toInt ≤ 4 → 0 ≤ l3.toInt ∧ l3.toInt ≤ 399 → 0 ≤ l5.toInt ∧ l5.toInt ≤ 399 → 0 ≤ g0.toInt ∧ g0.toInt ≤ 400 → 0 ≤ g1.toInt ∧ g1.toInt ≤ 3 → (g1.toInt ≠ 3 ∨ g0.toInt ≤ 399) → jiv h 68 3 = g0 → jiv h 68 5 = g1 → 400 - l3.toInt ≤ R4 → 400 - l5.toInt ≤ R17 → jJ jSgX Dy h → jSm fp_X2_readSum_r95_c6d h0 h → d_X2_readSum_r95_c6d_47 K4 K17  l2.toInt l3.toInt l5.toInt (vw h) = dr → jX m_X2_readSum 10 0 0 47 [(0, .ref 95), (1, .int 6), (2, .int l2), (3, .int l3), (5, .int l5)] [] h 0 0 Q := by
  intro l2 l3 l5 g0 g1 h y0 y1 y2 y3 y4 y5 z0 z1 m4 m17 J Sm D
  unfold d_X2_readSum_r95_c6d_47 at D
  try rw [vrf z0] at D
  try rw [vrf z1] at D
  refine x_aloadn (x := 95) rfl rfl ?_
  refine z_getR (N := 6) (b := 68) 2 0 rfl f_2_30 rfl J rfl 12160 ⟨rfl, rfl⟩ rfl ?_
  refine x_bipush (v := 42) rfl kb_42 ?_
  refine x_inv (N := m_X9_isSign) (As := [.int 42]) (b := 68) (st := []) (dx9 := 1) (mc := 0) (ms := 0) (host := "") 9 rfl t_X9_isSign ⟨Or.inl q_2_55, i_X9_isSign.1, i_X9_isSign.2⟩ ⟨by decide, rfl⟩ (congrArg Prod.fst (J.1.1 68 (9, 6) rfl)) rfl (by decide) rfl rfl ⟨by decide, by decide⟩ (sf_X9_isSign_r68d (jr_of jk_42 (by omega)) hD J z1 z0 (by omega) rfl  (fun v6 h ev6 J S1 u2 u3 qu2 qu3 ru2 X4 X5 => ?_))
  have Sm := jSm_tr rfl Sm S1
  try rw [jk_42] at X4
  try rw [X4] at D
  try rw [← X5] at D
  have eu2 := (show 0 ≤ u2.toInt ∧ u2.toInt ≤ 3 from qu2 ▸ jrg_f J sg_68_5_6_1_0_1)
  have Luu2 := congrArg Int32.toInt (((jmc S1 rfl z1)).symm.trans qu2)
  try rw [Luu2] at D
  try rw [vrf qu2] at D
  have eu3 := (show 0 ≤ u3.toInt ∧ u3.toInt ≤ 400 from qu3 ▸ jrg_f J sg_68_3_4_1_0_1)
  have Luu3 := congrArg Int32.toInt (((jmc S1 rfl z0)).symm.trans qu3)
  try rw [Luu3] at D
  try rw [vrf qu3] at D
  show jX m_X2_readSum 10 0 0 56 [(0, .ref 95), (1, .int 6), (2, .int l2), (3, .int l3), (5, .int l5)] [.int v6] _ 0 0 _
  refine x_ifeq (tgt := 63) rfl rfl (ti_eq rfl jk_0 ⟨fun c7 => ?_, fun c7 => ?_⟩)
  ·
    rw [if_pos (by omega)] at D
    refine x_aloadn (x := 95) rfl rfl ?_
    refine z_getR (N := 6) (b := 68) 2 0 rfl f_2_30 rfl J rfl 12160 ⟨rfl, rfl⟩ rfl ?_
    refine x_bipush (v := 47) rfl kb_47 ?_
    refine x_inv (N := m_X9_isSign) (As := [.int 47]) (b := 68) (st := []) (dx9 := 1) (mc := 0) (ms := 0) (host := "") 9 rfl t_X9_isSign ⟨Or.inl q_2_55, i_X9_isSign.1, i_X9_isSign.2⟩ ⟨by decide, rfl⟩ (congrArg Prod.fst (J.1.1 68 (9, 6) rfl)) rfl (by decide) rfl rfl ⟨by decide, by decide⟩ (sf_X9_isSign_r68d (jr_of jk_47 (by omega)) hD J qu2 qu3 (by omega) rfl  (fun v13 h ev13 J S8 u9 u10 qu9 qu10 ru9 X11 X12 => ?_))
    have Sm := jSm_tr rfl Sm S8
    try rw [jk_47] at X11
    try rw [X11] at D
    try rw [← X12] at D
    have eu9 := (show 0 ≤ u9.toInt ∧ u9.toInt ≤ 3 from qu9 ▸ jrg_f J sg_68_5_6_1_0_1)
    have Luu9 := congrArg Int32.toInt (((jmc S8 rfl qu2)).symm.trans qu9)
    try rw [Luu9] at D
    try rw [vrf qu9] at D
    have eu10 := (show 0 ≤ u10.toInt ∧ u10.toInt ≤ 400 from qu10 ▸ jrg_f J sg_68_3_4_1_0_1)
    have Luu10 := congrArg Int32.toInt (((jmc S8 rfl qu3)).symm.trans qu10)
    try rw [Luu10] at D
    try rw [vrf qu10] at D
    show jX m_X2_readSum 10 0 0 72 [(0, .ref 95), (1, .int 6), (2, .int l2), (3, .int l3), (5, .int l5)] [.int v13] _ 0 0 _
    refine x_ifeq (tgt := 80) rfl rfl (ti_eq rfl jk_0 ⟨fun c14 => ?_, fun c14 => ?_⟩)
    ·
      rw [if_pos (by omega)] at D
      refine x_iconst (v := (-1)) rfl ki_m1 ?_
      exact jX.sub (jsb_c rfl (jsb_c rfl (jsb_c rfl (jsb_c rfl (jsb_c rfl jsb_n))))) (ct_X2_readSum_r95_c6d_100081 hD hQ k4 k17 l2 l3 l5 u10 u9 h (jr_of rfl (by omega)) (jr_of rfl (by omega)) (jr_of rfl (by omega)) (jr_of rfl (by omega)) (jr_of rfl (by omega)) (by omega) qu10 qu9 (by omega) (by omega) J Sm D)
    ·
      rw [if_neg (by omega)] at D
      refine x_bipush (v := 6) rfl kb_6 ?_
      refine x_goto (tgt := 81) rfl rfl ?_
      exact jX.sub (jsb_c rfl (jsb_c rfl (jsb_c rfl (jsb_c rfl (jsb_c rfl jsb_n))))) (ct_X2_readSum_r95_c6d_800081 hD hQ k4 k17 l2 l3 l5 u10 u9 h (jr_of rfl (by omega)) (jr_of rfl (by omega)) (jr_of rfl (by omega)) (jr_of rfl (by omega)) (jr_of rfl (by omega)) (by omega) qu10 qu9 (by omega) (by omega) J Sm D)
  ·
    rw [if_neg (by omega)] at D
    refine x_iconst (v := 5) rfl ki_5 ?_
    refine x_goto (tgt := 81) rfl rfl ?_
    exact jX.sub (jsb_c rfl (jsb_c rfl (jsb_c rfl (jsb_c rfl (jsb_c rfl jsb_n))))) (ct_X2_readSum_r95_c6d_700081 hD hQ k4 k17 l2 l3 l5 u3 u2 h (jr_of rfl (by omega)) (jr_of rfl (by omega)) (jr_of rfl (by omega)) (jr_of rfl (by omega)) (jr_of rfl (by omega)) (by omega) qu3 qu2 (by omega) (by omega) J Sm D)
set_option maxRecDepth 100000 in
set_option maxHeartbeats 4000000 in
theorem ct_X2_readSum_r95_c6d_17 {Dy : jH → Prop} {h0 : jH} {Q : Option Value → jH → Prop} {dr : (Int × jW)} {K4 : Int → Int → jW → (Int × jW)} {R4 : Int} (hD : jDk Dy) (hQ : ∀ (v : Int32) hx9, 0 ≤ v.toInt ∧ v.toInt ≤ 1 → jJ jSgX Dy hx9 → jSm fp_X2_readSum_r95_c6d h0 hx9 → ∀ u0 u1 : Int32, jiv hx9 68 5 = u0 → jiv hx9 68 3 = u1 → (u0.toInt ≠ 3 ∨ u1.toInt ≤ 399) → dr.1 = v.toInt → dr.2 = vw hx9 → Q (some (.int v)) hx9) (k4 : ∀ (l2 : Int32) (l3 : Int32) (g0 : Int32) (g1 : Int32) (h : jH), 400 - l3.toInt < R4 → (-1) ≤ l2.toInt ∧ l2.toInt ≤ 4 → 0 ≤ l3.toInt ∧ l3.toInt ≤ 400 → 0 ≤ g0.toInt ∧ g0.toInt ≤ 400 → 0 ≤ g1.toInt ∧ g1.toInt ≤ 3 → (g1.toInt ≠ 3 ∨ g0.toInt ≤ 399) → jiv h 68 3 = g0 → jiv h 68 5 = g1 → jJ jSgX Dy h → jSm fp_X2_readSum_r95_c6d h0 h → K4 l2.toInt l3.toInt (vw h) = dr → jX m_X2_readSum 10 0 0 4 [(0, .ref 95), (1, .int 6), (2, .int l2), (3, .int l3)] [] h 0 0 Q) : ∀ r : Nat, ∀ (l2 : Int32) (l3 : Int32) (l4 : Int32) (l5 : Int32) (g0 : Int32) (g1 : Int32) (h : jH), 400 - l5.toInt < (r : Int) → (-1) ≤ l2.toInt ∧ l2.toInt ≤ 4 → 0 ≤ l3.toInt ∧ l3.toInt ≤ 399 → (-1) ≤ l4.toInt ∧ l4.toInt ≤ 6 → 0 ≤ l5.toInt ∧ l5.toInt ≤ 400 → 0 ≤ g0.toInt ∧ g0.toInt ≤ 400 → 0 ≤ g1.toInt ∧ g1.toInt ≤ 3 → (g1.toInt ≠ 3 ∨ g0.toInt ≤ 399) → jiv h 68 3 = g0 → jiv h 68 5 = g1 → 400 - l3.toInt ≤ R4 → jJ jSgX Dy h → jSm fp_X2_readSum_r95_c6d h0 h → d_X2_readSum_r95_c6d_17 K4 r l2.toInt l3.toInt l4.toInt l5.toInt (vw h) = dr → jX m_X2_readSum 10 0 0 17 [(0, .ref 95), (1, .int 6), (2, .int l2), (3, .int l3), (4, .int l4), (5, .int l5)] [] h 0 0 Q := by
  intro r
  induction r with
  | zero =>
    intro l2 l3 l4 l5 g0 g1 h hm y0 y1 y2 y3 y4 y5 y6 z0 z1 m4 J Sm D
    exfalso
    omega
  | succ r ih =>
    intro l2 l3 l4 l5 g0 g1 h hm y0 y1 y2 y3 y4 y5 y6 z0 z1 m4 J Sm D
    rw [d_X2_readSum_r95_c6d_17.eq_2] at D
    try rw [vrf z0] at D
    try rw [vrf z1] at D
    refine x_iload (x := l5) rfl rfl ?_
    refine x_sipush (v := 400) rfl ks_400 ?_
    refine x_icge (tgt := 105) rfl rfl (ti_ge rfl jk_400 ⟨fun c1 => ?_, fun c1 => ?_⟩)
    ·
      rw [if_pos (by omega)] at D
      exact jX.sub (jsb_c rfl (jsb_c rfl (jsb_c rfl (jsb_c rfl jsb_n)))) (ct_X2_readSum_r95_c6d_105 hD hQ k4 l2 l3 g0 g1 h (jr_of rfl (by omega)) (jr_of rfl (by omega)) (jr_of rfl (by omega)) (jr_of rfl (by omega)) (by omega) z0 z1 (by omega) J Sm D)
    ·
      rw [if_neg (by omega)] at D
      refine x_aloadn (x := 95) rfl rfl ?_
      refine x_iloadn (x := 6) rfl rfl ?_
      refine x_inv (N := m_X2_readFactor) (As := [.int 6]) (b := 95) (st := []) (dx9 := 9) (mc := 0) (ms := 0) (host := "") 2 rfl t_X2_readFactor ⟨Or.inl q_2_144, i_X2_readFactor.1, i_X2_readFactor.2⟩ ⟨by decide, rfl⟩ (congrArg Prod.fst (J.1.1 95 (2, 6) rfl)) rfl (by decide) rfl rfl ⟨by decide, by decide⟩ (sf_X2_readFactor_r95_c6d  hD J z1 z0 (by omega) rfl  (fun v7 h ev7 J S2 u3 u4 qu3 qu4 ru3 X5 X6 => ?_))
      have Sm := jSm_tr rfl Sm S2
      try rw [X5] at D
      try rw [X6] at D
      have eu3 := (show 0 ≤ u3.toInt ∧ u3.toInt ≤ 3 from qu3 ▸ jrg_f J sg_68_5_6_1_0_1)
      try rw [vrf qu3] at D
      have eu4 := (show 0 ≤ u4.toInt ∧ u4.toInt ≤ 400 from qu4 ▸ jrg_f J sg_68_3_4_1_0_1)
      try rw [vrf qu4] at D
      show jX m_X2_readSum 10 0 0 30 [(0, .ref 95), (1, .int 6), (2, .int l2), (3, .int l3), (4, .int l4), (5, .int l5)] [.int v7] _ 0 0 _
      refine x_ifne (tgt := 35) rfl rfl (ti_ne rfl jk_0 ⟨fun c8 => ?_, fun c8 => ?_⟩)
      ·
        rw [if_neg (by omega)] at D
        refine x_iload (x := l4) rfl rfl ?_
        refine x_iconst (v := (-1)) rfl ki_m1 ?_
        refine x_iceq (tgt := 47) rfl rfl (ti_eq rfl jk_m1 ⟨fun c9 => ?_, fun c9 => ?_⟩)
        ·
          rw [if_pos (by omega)] at D
          exact jX.sub (jsb_c rfl (jsb_c rfl (jsb_c rfl (jsb_c rfl (jsb_c rfl jsb_n))))) (ct_X2_readSum_r95_c6d_47 hD hQ k4 ih l2 l3 l5 u4 u3 h (jr_of rfl (by omega)) (jr_of rfl (by omega)) (jr_of rfl (by omega)) (jr_of rfl (by omega)) (jr_of rfl (by omega)) (by omega) qu4 qu3 (by omega) (by omega) J Sm D)
        ·
          rw [if_neg (by omega)] at D
          refine x_aloadn (x := 95) rfl rfl ?_
          refine x_iload (x := l4) rfl rfl ?_
          refine x_inv (N := m_X2_emit) (As := [.int l4]) (b := 95) (st := []) (dx9 := 1) (mc := 0) (ms := 0) (host := "") 2 rfl t_X2_emit ⟨Or.inl q_2_89, i_X2_emit.1, i_X2_emit.2⟩ ⟨by decide, rfl⟩ (congrArg Prod.fst (J.1.1 95 (2, 6) rfl)) rfl (by decide) rfl rfl ⟨by decide, by decide⟩ (sf_X2_emit_r95d  hD J rfl  (fun h J S10 X11 => ?_))
          have Sm := jSm_tr rfl Sm S10
          rw [X11] at D
          show jX m_X2_readSum 10 0 0 47 [(0, .ref 95), (1, .int 6), (2, .int l2), (3, .int l3), (4, .int l4), (5, .int l5)] [] _ 0 0 _
          exact jX.sub (jsb_c rfl (jsb_c rfl (jsb_c rfl (jsb_c rfl (jsb_c rfl jsb_n))))) (ct_X2_readSum_r95_c6d_47 hD hQ k4 ih l2 l3 l5 u4 u3 h (jr_of rfl (by omega)) (jr_of rfl (by omega)) (jr_of rfl (by omega)) (jr_of rfl (by omega)) (jr_of rfl (by omega)) (by omega) (jmc S10 rfl qu4) (jmc S10 rfl qu3) (by omega) (by omega) J Sm D)
      ·
        rw [if_pos (by omega)] at D
        refine x_iconst (v := 0) rfl ki_0 ?_
        refine x_zret rfl rfl (by decide) ?_
        exact hQ _ _ (jr_of jk_0 (by omega)) J Sm _ _ qu3 qu4 (by omega) ((congrArg Prod.fst D).symm.trans (show 0 = (0 : Int32).toInt from by have := jk_0; omega)) (congrArg Prod.snd D).symm
set_option maxRecDepth 100000 in
set_option maxHeartbeats 4000000 in
theorem ct_X2_readSum_r95_c6d_4 {Dy : jH → Prop} {h0 : jH} {Q : Option Value → jH → Prop} {dr : (Int × jW)} (hD : jDk Dy) (hQ : ∀ (v : Int32) hx9, 0 ≤ v.toInt ∧ v.toInt ≤ 1 → jJ jSgX Dy hx9 → jSm fp_X2_readSum_r95_c6d h0 hx9 → ∀ u0 u1 : Int32, jiv hx9 68 5 = u0 → jiv hx9 68 3 = u1 → (u0.toInt ≠ 3 ∨ u1.toInt ≤ 399) → dr.1 = v.toInt → dr.2 = vw hx9 → Q (some (.int v)) hx9) : ∀ r : Nat, ∀ (l2 : Int32) (l3 : Int32) (g0 : Int32) (g1 : Int32) (h : jH), 400 - l3.toInt < (r : Int) → (-1) ≤ l2.toInt ∧ l2.toInt ≤ 4 → 0 ≤ l3.toInt ∧ l3.toInt ≤ 400 → 0 ≤ g0.toInt ∧ g0.toInt ≤ 400 → 0 ≤ g1.toInt ∧ g1.toInt ≤ 3 → (g1.toInt ≠ 3 ∨ g0.toInt ≤ 399) → jiv h 68 3 = g0 → jiv h 68 5 = g1 → jJ jSgX Dy h → jSm fp_X2_readSum_r95_c6d h0 h → d_X2_readSum_r95_c6d_4 r l2.toInt l3.toInt (vw h) = dr → jX m_X2_readSum 10 0 0 4 [(0, .ref 95), (1, .int 6), (2, .int l2), (3, .int l3)] [] h 0 0 Q := by
  intro r
  induction r with
  | zero =>
    intro l2 l3 g0 g1 h hm y0 y1 y2 y3 y4 z0 z1  J Sm D
    exfalso
    omega
  | succ r ih =>
    intro l2 l3 g0 g1 h hm y0 y1 y2 y3 y4 z0 z1  J Sm D
    rw [d_X2_readSum_r95_c6d_4.eq_2] at D
    try rw [vrf z0] at D
    try rw [vrf z1] at D
    refine x_iloadn (x := l3) rfl rfl ?_
    refine x_sipush (v := 400) rfl ks_400 ?_
    refine x_icge (tgt := 169) rfl rfl (ti_ge rfl jk_400 ⟨fun c1 => ?_, fun c1 => ?_⟩)
    ·
      rw [if_pos (by omega)] at D
      refine x_aloadn (x := 95) rfl rfl ?_
      refine z_getR (N := 6) (b := 68) 2 0 rfl f_2_30 rfl J rfl 12160 ⟨rfl, rfl⟩ rfl ?_
      refine x_inv (N := m_X9_blame) (As := []) (b := 68) (st := []) (dx9 := 9) (mc := 0) (ms := 0) (host := "") 9 rfl t_X9_blame ⟨Or.inl q_2_59, i_X9_blame.1, i_X9_blame.2⟩ ⟨by decide, rfl⟩ (congrArg Prod.fst (J.1.1 68 (9, 6) rfl)) rfl (by decide) rfl rfl ⟨by decide, by decide⟩ (jC.of rfl k_X9_blame rfl ?_)
      show jX m_X9_blame 9 0 0 0 [(0, .ref 68)] [] _ 0 0 _
      refine x_aloadn (x := 68) rfl rfl ?_
      refine x_aloadn (x := 68) rfl rfl ?_
      refine z_getM (N := 6) (v := g0) 9 3 rfl f_9_22 rfl J rfl z0 ?_
      refine z_putI (N := 6) (w := g0.toInt) 9 2 rfl f_9_19 rfl (jfin_no TX9 RX9 6 rfl rfl) hD J Sm rfl rfl rfl (pw_68_2 (by omega)) rfl (fun h w2 J Sm => ?_)
      rw [vwf w2 (show g0.toInt = g0.toInt from by omega)] at D
      refine x_iconst (v := 0) rfl ki_0 ?_
      refine x_zret rfl rfl (by decide) ?_
      show jX m_X2_readSum 10 0 0 176 [(0, .ref 95), (1, .int 6), (2, .int l2), (3, .int l3)] [.int 0] _ 0 0 _
      refine x_zret rfl rfl (by decide) ?_
      exact hQ _ _ (jr_of jk_0 (by omega)) J Sm _ _ (jmo w2 rfl z1) (jmo w2 rfl z0) (by omega) ((congrArg Prod.fst D).symm.trans (show 0 = (0 : Int32).toInt from by have := jk_0; omega)) (congrArg Prod.snd D).symm
    ·
      rw [if_neg (by omega)] at D
      refine x_iconst (v := (-1)) rfl ki_m1 ?_
      refine x_istore (lsx9 := [(4, .int (-1)), (0, .ref 95), (1, .int 6), (2, .int l2), (3, .int l3)]) rfl rfl rfl ?_
      refine x_iconst (v := 0) rfl ki_0 ?_
      refine x_istore (lsx9 := [(5, .int 0), (4, .int (-1)), (0, .ref 95), (1, .int 6), (2, .int l2), (3, .int l3)]) rfl rfl rfl ?_
      exact jX.sub (jsb_c rfl (jsb_c rfl (jsb_c rfl (jsb_c rfl (jsb_c rfl (jsb_c rfl jsb_n)))))) (ct_X2_readSum_r95_c6d_17 hD hQ ih 401 l2 l3 (-1) 0 g0 g1 h (by have := jk_0; omega) (jr_of rfl (by omega)) (jr_of rfl (by omega)) (jr_of jk_m1 (by omega)) (jr_of jk_0 (by omega)) (jr_of rfl (by omega)) (jr_of rfl (by omega)) (by omega) z0 z1 (by omega) J Sm (by rw [jk_m1, jk_0]; exact D))
set_option maxRecDepth 100000 in
set_option maxHeartbeats 4000000 in
theorem sf_X2_readSum_r95_c6d {Dy : jH → Prop} {h : jH} {Q : Option Value → jH → Prop} {dr : (Int × jW)} (hD : jDk Dy) (J : jJ jSgX Dy h) {p0 p1 : Int32} (zp0 : jiv h 68 5 = p0) (zp1 : jiv h 68 3 = p1) (rl_p0 : (p0.toInt ≠ 3 ∨ p1.toInt ≤ 399)) (D : d_X2_readSum_r95_c6d (vw h) = dr) (hQ : ∀ (v : Int32) hx9, 0 ≤ v.toInt ∧ v.toInt ≤ 1 → jJ jSgX Dy hx9 → jSm fp_X2_readSum_r95_c6d h hx9 → ∀ u0 u1 : Int32, jiv hx9 68 5 = u0 → jiv hx9 68 3 = u1 → (u0.toInt ≠ 3 ∨ u1.toInt ≤ 399) → dr.1 = v.toInt → dr.2 = vw hx9 → Q (some (.int v)) hx9) : jC m_X2_readSum 10 0 0 [.ref 95, .int 6] h Q := by
  refine jC.of rfl k_X2_readSum rfl ?_
  have Sm := jSm_rf fp_X2_readSum_r95_c6d h
  have ep0 := (show 0 ≤ p0.toInt ∧ p0.toInt ≤ 3 from zp0 ▸ jrg_f J sg_68_5_6_1_0_1)
  have ep1 := (show 0 ≤ p1.toInt ∧ p1.toInt ≤ 400 from zp1 ▸ jrg_f J sg_68_3_4_1_0_1)
  show jX m_X2_readSum 10 0 0 0 [(0, .ref 95), (1, .int 6)] [] _ 0 0 _
  unfold d_X2_readSum_r95_c6d at D
  try rw [vrf zp0] at D
  try rw [vrf zp1] at D
  refine x_iconst (v := (-1)) rfl ki_m1 ?_
  refine x_istoren (lsx9 := [(2, .int (-1)), (0, .ref 95), (1, .int 6)]) rfl rfl rfl ?_
  refine x_iconst (v := 0) rfl ki_0 ?_
  refine x_istoren (lsx9 := [(3, .int 0), (2, .int (-1)), (0, .ref 95), (1, .int 6)]) rfl rfl rfl ?_
  exact jX.sub (jsb_c rfl (jsb_c rfl (jsb_c rfl (jsb_c rfl jsb_n)))) (ct_X2_readSum_r95_c6d_4 hD hQ  401 (-1) 0 p1 p0 h (by have := jk_0; omega) (jr_of jk_m1 (by omega)) (jr_of jk_0 (by omega)) (jr_of rfl (by omega)) (jr_of rfl (by omega)) (by omega) zp1 zp0 J Sm (by rw [jk_m1, jk_0]; exact D))
def fp_X2_readFactor_r95_c5d : jFp := [(68, 2, 3), (68, 3, 4), (68, 4, 5), (68, 5, 6), (95, 4, 5), (95, 5, 6), (97, 0, 1200)]
set_option maxRecDepth 100000 in
set_option maxHeartbeats 4000000 in
theorem ct_X2_readFactor_r95_c5d_111 {Dy : jH → Prop} {h0 : jH} {Q : Option Value → jH → Prop} {dr : (Int × jW)} (hD : jDk Dy) (hQ : ∀ (v : Int32) hx9, 0 ≤ v.toInt ∧ v.toInt ≤ 1 → jJ jSgX Dy hx9 → jSm fp_X2_readFactor_r95_c5d h0 hx9 → ∀ u0 u1 : Int32, jiv hx9 68 5 = u0 → jiv hx9 68 3 = u1 → (u0.toInt ≠ 3 ∨ u1.toInt ≤ 399) → dr.1 = v.toInt → dr.2 = vw hx9 → Q (some (.int v)) hx9) : ∀ (s0 : Int32) (g0 : Int32) (g1 : Int32) (h : jH), 0 ≤ s0.toInt ∧ s0.toInt ≤ 1 → 0 ≤ g0.toInt ∧ g0.toInt ≤ 400 → 0 ≤ g1.toInt ∧ g1.toInt ≤ 3 → (g1.toInt ≠ 3 ∨ g0.toInt ≤ 399) → jiv h 68 3 = g0 → jiv h 68 5 = g1 → jJ jSgX Dy h → jSm fp_X2_readFactor_r95_c5d h0 h → d_X2_readFactor_r95_c5d_111  s0.toInt (vw h) = dr → jX m_X2_readFactor 11 0 0 111 [] [.int s0] h 0 0 Q := by
  intro s0 g0 g1 h y0 y1 y2 y3 z0 z1  J Sm D
  unfold d_X2_readFactor_r95_c5d_111 at D
  try rw [vrf z0] at D
  try rw [vrf z1] at D
  refine x_zret rfl rfl (jz01 (by omega)) ?_
  exact hQ _ _ (jr_of rfl (by omega)) J Sm _ _ z1 z0 (by omega) ((congrArg Prod.fst D).symm.trans (show s0.toInt = s0.toInt from by omega)) (congrArg Prod.snd D).symm
set_option maxRecDepth 100000 in
set_option maxHeartbeats 4000000 in
theorem ct_X2_readFactor_r95_c5d_200111 {Dy : jH → Prop} {h0 : jH} {Q : Option Value → jH → Prop} {dr : (Int × jW)} (hD : jDk Dy) (hQ : ∀ (v : Int32) hx9, 0 ≤ v.toInt ∧ v.toInt ≤ 1 → jJ jSgX Dy hx9 → jSm fp_X2_readFactor_r95_c5d h0 hx9 → ∀ u0 u1 : Int32, jiv hx9 68 5 = u0 → jiv hx9 68 3 = u1 → (u0.toInt ≠ 3 ∨ u1.toInt ≤ 399) → dr.1 = v.toInt → dr.2 = vw hx9 → Q (some (.int v)) hx9) : ∀ (g0 : Int32) (g1 : Int32) (h : jH), 0 ≤ g0.toInt ∧ g0.toInt ≤ 400 → 0 ≤ g1.toInt ∧ g1.toInt ≤ 3 → (g1.toInt ≠ 3 ∨ g0.toInt ≤ 399) → jiv h 68 3 = g0 → jiv h 68 5 = g1 → jJ jSgX Dy h → jSm fp_X2_readFactor_r95_c5d h0 h → d_X2_readFactor_r95_c5d_200111  (vw h) = dr → jX m_X2_readFactor 11 0 0 111 [] [.int 0] h 0 0 Q := by
  intro g0 g1 h y0 y1 y2 z0 z1  J Sm D
  unfold d_X2_readFactor_r95_c5d_200111 at D
  try rw [vrf z0] at D
  try rw [vrf z1] at D
  refine x_zret rfl rfl (by decide) ?_
  exact hQ _ _ (jr_of jk_0 (by omega)) J Sm _ _ z1 z0 (by omega) ((congrArg Prod.fst D).symm.trans (show 0 = (0 : Int32).toInt from by have := jk_0; omega)) (congrArg Prod.snd D).symm
set_option maxRecDepth 100000 in
set_option maxHeartbeats 4000000 in
theorem ct_X2_readFactor_r95_c5d_300057 {Dy : jH → Prop} {h0 : jH} {Q : Option Value → jH → Prop} {dr : (Int × jW)} (hD : jDk Dy) (hQ : ∀ (v : Int32) hx9, 0 ≤ v.toInt ∧ v.toInt ≤ 1 → jJ jSgX Dy hx9 → jSm fp_X2_readFactor_r95_c5d h0 hx9 → ∀ u0 u1 : Int32, jiv hx9 68 5 = u0 → jiv hx9 68 3 = u1 → (u0.toInt ≠ 3 ∨ u1.toInt ≤ 399) → dr.1 = v.toInt → dr.2 = vw hx9 → Q (some (.int v)) hx9) : ∀ (g0 : Int32) (g1 : Int32) (h : jH), 0 ≤ g0.toInt ∧ g0.toInt ≤ 400 → 0 ≤ g1.toInt ∧ g1.toInt ≤ 3 → (g1.toInt ≠ 3 ∨ g0.toInt ≤ 399) → jiv h 68 3 = g0 → jiv h 68 5 = g1 → jJ jSgX Dy h → jSm fp_X2_readFactor_r95_c5d h0 h → d_X2_readFactor_r95_c5d_300057  (vw h) = dr → jX m_X2_readFactor 11 0 0 57 [] [.int 1] h 0 0 Q := by
  intro g0 g1 h y0 y1 y2 z0 z1  J Sm D
  unfold d_X2_readFactor_r95_c5d_300057 at D
  try rw [vrf z0] at D
  try rw [vrf z1] at D
  refine x_zret rfl rfl (by decide) ?_
  exact hQ _ _ (jr_of jk_1 (by omega)) J Sm _ _ z1 z0 (by omega) ((congrArg Prod.fst D).symm.trans (show 1 = (1 : Int32).toInt from by have := jk_1; omega)) (congrArg Prod.snd D).symm
set_option maxRecDepth 100000 in
set_option maxHeartbeats 4000000 in
theorem ct_X2_readFactor_r95_c5d_200057 {Dy : jH → Prop} {h0 : jH} {Q : Option Value → jH → Prop} {dr : (Int × jW)} (hD : jDk Dy) (hQ : ∀ (v : Int32) hx9, 0 ≤ v.toInt ∧ v.toInt ≤ 1 → jJ jSgX Dy hx9 → jSm fp_X2_readFactor_r95_c5d h0 hx9 → ∀ u0 u1 : Int32, jiv hx9 68 5 = u0 → jiv hx9 68 3 = u1 → (u0.toInt ≠ 3 ∨ u1.toInt ≤ 399) → dr.1 = v.toInt → dr.2 = vw hx9 → Q (some (.int v)) hx9) : ∀ (g0 : Int32) (g1 : Int32) (h : jH), 0 ≤ g0.toInt ∧ g0.toInt ≤ 400 → 0 ≤ g1.toInt ∧ g1.toInt ≤ 3 → (g1.toInt ≠ 3 ∨ g0.toInt ≤ 399) → jiv h 68 3 = g0 → jiv h 68 5 = g1 → jJ jSgX Dy h → jSm fp_X2_readFactor_r95_c5d h0 h → d_X2_readFactor_r95_c5d_200057  (vw h) = dr → jX m_X2_readFactor 11 0 0 57 [] [.int 0] h 0 0 Q := by
  intro g0 g1 h y0 y1 y2 z0 z1  J Sm D
  unfold d_X2_readFactor_r95_c5d_200057 at D
  try rw [vrf z0] at D
  try rw [vrf z1] at D
  refine x_zret rfl rfl (by decide) ?_
  exact hQ _ _ (jr_of jk_0 (by omega)) J Sm _ _ z1 z0 (by omega) ((congrArg Prod.fst D).symm.trans (show 0 = (0 : Int32).toInt from by have := jk_0; omega)) (congrArg Prod.snd D).symm
set_option maxRecDepth 100000 in
set_option maxHeartbeats 4000000 in
theorem ct_X2_readFactor_r95_c5d_56 {Dy : jH → Prop} {h0 : jH} {Q : Option Value → jH → Prop} {dr : (Int × jW)} (hD : jDk Dy) (hQ : ∀ (v : Int32) hx9, 0 ≤ v.toInt ∧ v.toInt ≤ 1 → jJ jSgX Dy hx9 → jSm fp_X2_readFactor_r95_c5d h0 hx9 → ∀ u0 u1 : Int32, jiv hx9 68 5 = u0 → jiv hx9 68 3 = u1 → (u0.toInt ≠ 3 ∨ u1.toInt ≤ 399) → dr.1 = v.toInt → dr.2 = vw hx9 → Q (some (.int v)) hx9) : ∀ (g0 : Int32) (g1 : Int32) (h : jH), 0 ≤ g0.toInt ∧ g0.toInt ≤ 400 → 0 ≤ g1.toInt ∧ g1.toInt ≤ 3 → (g1.toInt ≠ 3 ∨ g0.toInt ≤ 399) → jiv h 68 3 = g0 → jiv h 68 5 = g1 → jJ jSgX Dy h → jSm fp_X2_readFactor_r95_c5d h0 h → d_X2_readFactor_r95_c5d_56  (vw h) = dr → jX m_X2_readFactor 11 0 0 56 [] [] h 0 0 Q := by
  intro g0 g1 h y0 y1 y2 z0 z1  J Sm D
  unfold d_X2_readFactor_r95_c5d_56 at D
  try rw [vrf z0] at D
  try rw [vrf z1] at D
  refine x_iconst (v := 0) rfl ki_0 ?_
  exact jX.sub jsb_n (ct_X2_readFactor_r95_c5d_200057 hD hQ  g0 g1 h (jr_of rfl (by omega)) (jr_of rfl (by omega)) (by omega) z0 z1 J Sm D)
set_option maxRecDepth 100000 in
set_option maxHeartbeats 4000000 in
theorem sf_X2_readFactor_r95_c5d {Dy : jH → Prop} {h : jH} {Q : Option Value → jH → Prop} {dr : (Int × jW)} (hD : jDk Dy) (J : jJ jSgX Dy h) {p0 p1 : Int32} (zp0 : jiv h 68 5 = p0) (zp1 : jiv h 68 3 = p1) (rl_p0 : (p0.toInt ≠ 3 ∨ p1.toInt ≤ 399)) (D : d_X2_readFactor_r95_c5d (vw h) = dr) (hQ : ∀ (v : Int32) hx9, 0 ≤ v.toInt ∧ v.toInt ≤ 1 → jJ jSgX Dy hx9 → jSm fp_X2_readFactor_r95_c5d h hx9 → ∀ u0 u1 : Int32, jiv hx9 68 5 = u0 → jiv hx9 68 3 = u1 → (u0.toInt ≠ 3 ∨ u1.toInt ≤ 399) → dr.1 = v.toInt → dr.2 = vw hx9 → Q (some (.int v)) hx9) : jC m_X2_readFactor 11 0 0 [.ref 95, .int 5] h Q := by
  refine jC.of rfl k_X2_readFactor rfl ?_
  have Sm := jSm_rf fp_X2_readFactor_r95_c5d h
  have ep0 := (show 0 ≤ p0.toInt ∧ p0.toInt ≤ 3 from zp0 ▸ jrg_f J sg_68_5_6_1_0_1)
  have ep1 := (show 0 ≤ p1.toInt ∧ p1.toInt ≤ 400 from zp1 ▸ jrg_f J sg_68_3_4_1_0_1)
  show jX m_X2_readFactor 11 0 0 0 [(0, .ref 95), (1, .int 5)] [] _ 0 0 _
  unfold d_X2_readFactor_r95_c5d at D
  try rw [vrf zp0] at D
  try rw [vrf zp1] at D
  refine x_aloadn (x := 95) rfl rfl ?_
  refine z_getR (N := 6) (b := 68) 2 0 rfl f_2_30 rfl J rfl 12160 ⟨rfl, rfl⟩ rfl ?_
  refine x_bipush (v := 91) rfl kb_91 ?_
  refine x_inv (N := m_X9_isSign) (As := [.int 91]) (b := 68) (st := []) (dx9 := 1) (mc := 0) (ms := 0) (host := "") 9 rfl t_X9_isSign ⟨Or.inl q_2_55, i_X9_isSign.1, i_X9_isSign.2⟩ ⟨by decide, rfl⟩ (congrArg Prod.fst (J.1.1 68 (9, 6) rfl)) rfl (by decide) rfl rfl ⟨by decide, by decide⟩ (sf_X9_isSign_r68d (jr_of jk_91 (by omega)) hD J zp0 zp1 (by omega) rfl  (fun v6 h ev6 J S1 u2 u3 qu2 qu3 ru2 X4 X5 => ?_))
  have Sm := jSm_tr rfl Sm S1
  try rw [jk_91] at X4
  try rw [X4] at D
  try rw [← X5] at D
  have eu2 := (show 0 ≤ u2.toInt ∧ u2.toInt ≤ 3 from qu2 ▸ jrg_f J sg_68_5_6_1_0_1)
  have Luu2 := congrArg Int32.toInt (((jmc S1 rfl zp0)).symm.trans qu2)
  try rw [Luu2] at D
  try rw [vrf qu2] at D
  have eu3 := (show 0 ≤ u3.toInt ∧ u3.toInt ≤ 400 from qu3 ▸ jrg_f J sg_68_3_4_1_0_1)
  have Luu3 := congrArg Int32.toInt (((jmc S1 rfl zp1)).symm.trans qu3)
  try rw [Luu3] at D
  try rw [vrf qu3] at D
  show jX m_X2_readFactor 11 0 0 9 [(0, .ref 95), (1, .int 5)] [.int v6] _ 0 0 _
  refine x_ifeq (tgt := 58) rfl rfl (ti_eq rfl jk_0 ⟨fun c7 => ?_, fun c7 => ?_⟩)
  ·
    rw [if_pos (by omega)] at D
    refine x_aloadn (x := 95) rfl rfl ?_
    refine z_getR (N := 6) (b := 68) 2 0 rfl f_2_30 rfl J rfl 12160 ⟨rfl, rfl⟩ rfl ?_
    refine x_ldc (v := 100000) rfl z_2_147 ?_
    refine x_inv (N := m_X9_numberTo) (As := [.int 100000]) (b := 68) (st := []) (dx9 := 1) (mc := 0) (ms := 0) (host := "") 9 rfl t_X9_numberTo ⟨Or.inl q_2_117, i_X9_numberTo.1, i_X9_numberTo.2⟩ ⟨by decide, rfl⟩ (congrArg Prod.fst (J.1.1 68 (9, 6) rfl)) rfl (by decide) rfl rfl ⟨by decide, by decide⟩ (sf_X9_numberTo_r68d (jr_of jk_100000 (by omega)) hD J rfl  (fun v11 h ev11 J S8 X9 X10 => ?_))
    have Sm := jSm_tr rfl Sm S8
    try rw [jk_100000] at X9
    try rw [X9] at D
    try rw [← X10] at D
    show jX m_X2_readFactor 11 0 0 67 [(0, .ref 95), (1, .int 5)] [.int v11] _ 0 0 _
    refine x_istoren (lsx9 := [(2, .int v11), (0, .ref 95), (1, .int 5)]) rfl rfl rfl ?_
    refine x_iloadn (x := v11) rfl rfl ?_
    refine x_iconst (v := (-1)) rfl ki_m1 ?_
    refine x_iceq (tgt := 80) rfl rfl (ti_eq rfl jk_m1 ⟨fun c12 => ?_, fun c12 => ?_⟩)
    ·
      rw [if_pos (by omega)] at D
      refine x_aloadn (x := 95) rfl rfl ?_
      refine z_getR (N := 6) (b := 68) 2 0 rfl f_2_30 rfl J rfl 12160 ⟨rfl, rfl⟩ rfl ?_
      refine x_ldcS (jstr.getD 6 jstr_0) rfl (List.mem_of_getElem? (i := 6) rfl) rfl rfl ?_
      show jX m_X2_readFactor 11 0 0 86 [(2, .int v11), (0, .ref 95), (1, .int 5)] [.ref 11, .ref 68] _ 0 0 _
      refine x_inv (N := m_X9_wordOf) (As := [.ref 11]) (b := 68) (st := []) (dx9 := 4) (mc := 0) (ms := 0) (host := "") 9 rfl t_X9_wordOf ⟨Or.inl q_2_67, i_X9_wordOf.1, i_X9_wordOf.2⟩ ⟨by decide, rfl⟩ (congrArg Prod.fst (J.1.1 68 (9, 6) rfl)) rfl (by decide) rfl rfl ⟨by decide, by decide⟩ (sf_X9_wordOf_r68_r11d  hD J rfl  (fun v16 h J S13 X14 X15 => ?_))
      have ev16 := jfull v16
      have Sm := jSm_tr rfl Sm S13
      try rw [X14] at D
      try rw [← X15] at D
      show jX m_X2_readFactor 11 0 0 89 [(2, .int v11), (0, .ref 95), (1, .int 5)] [.int v16] _ 0 0 _
      refine x_istoren (lsx9 := [(3, .int v16), (2, .int v11), (0, .ref 95), (1, .int 5)]) rfl rfl rfl ?_
      refine x_iloadn (x := v16) rfl rfl ?_
      refine x_iconst (v := (-1)) rfl ki_m1 ?_
      refine x_icne (tgt := 105) rfl rfl (ti_ne rfl jk_m1 ⟨fun c17 => ?_, fun c17 => ?_⟩)
      ·
        rw [if_neg (by omega)] at D
        refine x_aloadn (x := 95) rfl rfl ?_
        refine x_iconst (v := 2) rfl ki_2 ?_
        refine x_iloadn (x := v16) rfl rfl ?_
        refine x_inv (N := m_X2_readPart) (As := [.int 2, .int v16]) (b := 95) (st := []) (dx9 := 3) (mc := 0) (ms := 0) (host := "") 2 rfl t_X2_readPart ⟨Or.inl q_2_141, i_X2_readPart.1, i_X2_readPart.2⟩ ⟨by decide, rfl⟩ (congrArg Prod.fst (J.1.1 95 (2, 6) rfl)) rfl (by decide) rfl rfl ⟨by decide, by decide⟩ (sf_X2_readPart_r95d (jr_of jk_2 (by omega)) hD J (jmc S13 rfl (jmc S8 rfl qu2)) (jmc S13 rfl (jmc S8 rfl qu3)) (by omega) rfl  (fun v23 h ev23 J S18 u19 u20 qu19 qu20 ru19 X21 X22 => ?_))
        have Sm := jSm_tr rfl Sm S18
        try rw [jk_2] at X21
        try rw [jk_2] at X22
        try rw [X21] at D
        try rw [X22] at D
        have eu19 := (show 0 ≤ u19.toInt ∧ u19.toInt ≤ 3 from qu19 ▸ jrg_f J sg_68_5_6_1_0_1)
        try rw [vrf qu19] at D
        have eu20 := (show 0 ≤ u20.toInt ∧ u20.toInt ≤ 400 from qu20 ▸ jrg_f J sg_68_3_4_1_0_1)
        try rw [vrf qu20] at D
        show jX m_X2_readFactor 11 0 0 111 [(3, .int v16), (2, .int v11), (0, .ref 95), (1, .int 5)] [.int v23] _ 0 0 _
        exact jX.sub jsb_n (ct_X2_readFactor_r95_c5d_111 hD hQ  v23 u20 u19 h (jr_of rfl (by omega)) (jr_of rfl (by omega)) (jr_of rfl (by omega)) (by omega) qu20 qu19 J Sm D)
      ·
        rw [if_pos (by omega)] at D
        refine x_aloadn (x := 95) rfl rfl ?_
        refine z_getR (N := 6) (b := 68) 2 0 rfl f_2_30 rfl J rfl 12160 ⟨rfl, rfl⟩ rfl ?_
        refine x_inv (N := m_X9_blame) (As := []) (b := 68) (st := []) (dx9 := 10) (mc := 0) (ms := 0) (host := "") 9 rfl t_X9_blame ⟨Or.inl q_2_59, i_X9_blame.1, i_X9_blame.2⟩ ⟨by decide, rfl⟩ (congrArg Prod.fst (J.1.1 68 (9, 6) rfl)) rfl (by decide) rfl rfl ⟨by decide, by decide⟩ (jC.of rfl k_X9_blame rfl ?_)
        show jX m_X9_blame 10 0 0 0 [(0, .ref 68)] [] _ 0 0 _
        refine x_aloadn (x := 68) rfl rfl ?_
        refine x_aloadn (x := 68) rfl rfl ?_
        refine z_getM (N := 6) (v := u3) 9 3 rfl f_9_22 rfl J rfl (jmc S13 rfl (jmc S8 rfl qu3)) ?_
        refine z_putI (N := 6) (w := u3.toInt) 9 2 rfl f_9_19 rfl (jfin_no TX9 RX9 6 rfl rfl) hD J Sm rfl rfl rfl (pw_68_2 (by omega)) rfl (fun h w24 J Sm => ?_)
        rw [vwf w24 (show u3.toInt = u3.toInt from by omega)] at D
        refine x_iconst (v := 0) rfl ki_0 ?_
        refine x_zret rfl rfl (by decide) ?_
        show jX m_X2_readFactor 11 0 0 102 [(3, .int v16), (2, .int v11), (0, .ref 95), (1, .int 5)] [.int 0] _ 0 0 _
        refine x_goto (tgt := 111) rfl rfl ?_
        exact jX.sub jsb_n (ct_X2_readFactor_r95_c5d_200111 hD hQ  u3 u2 h (jr_of rfl (by omega)) (jr_of rfl (by omega)) (by omega) (jmo w24 rfl (jmc S13 rfl (jmc S8 rfl qu3))) (jmo w24 rfl (jmc S13 rfl (jmc S8 rfl qu2))) J Sm D)
    ·
      rw [if_neg (by omega)] at D
      refine x_aloadn (x := 95) rfl rfl ?_
      refine x_iconst (v := 1) rfl ki_1 ?_
      refine x_iloadn (x := v11) rfl rfl ?_
      refine x_inv (N := m_X2_readPart) (As := [.int 1, .int v11]) (b := 95) (st := []) (dx9 := 3) (mc := 0) (ms := 0) (host := "") 2 rfl t_X2_readPart ⟨Or.inl q_2_141, i_X2_readPart.1, i_X2_readPart.2⟩ ⟨by decide, rfl⟩ (congrArg Prod.fst (J.1.1 95 (2, 6) rfl)) rfl (by decide) rfl rfl ⟨by decide, by decide⟩ (sf_X2_readPart_r95d (jr_of jk_1 (by omega)) hD J (jmc S8 rfl qu2) (jmc S8 rfl qu3) (by omega) rfl  (fun v30 h ev30 J S25 u26 u27 qu26 qu27 ru26 X28 X29 => ?_))
      have Sm := jSm_tr rfl Sm S25
      try rw [jk_1] at X28
      try rw [jk_1] at X29
      try rw [X28] at D
      try rw [X29] at D
      have eu26 := (show 0 ≤ u26.toInt ∧ u26.toInt ≤ 3 from qu26 ▸ jrg_f J sg_68_5_6_1_0_1)
      try rw [vrf qu26] at D
      have eu27 := (show 0 ≤ u27.toInt ∧ u27.toInt ≤ 400 from qu27 ▸ jrg_f J sg_68_3_4_1_0_1)
      try rw [vrf qu27] at D
      show jX m_X2_readFactor 11 0 0 79 [(2, .int v11), (0, .ref 95), (1, .int 5)] [.int v30] _ 0 0 _
      refine x_zret rfl rfl (jz01 (by omega)) ?_
      exact hQ _ _ (jr_of rfl (by omega)) J Sm _ _ qu26 qu27 (by omega) ((congrArg Prod.fst D).symm.trans X28) ((congrArg Prod.snd D).symm.trans X29)
  ·
    rw [if_neg (by omega)] at D
    refine x_iloadn (x := 5) rfl rfl ?_
    refine x_bipush (v := 8) rfl kb_8 ?_
    refine x_iclt (tgt := 26) rfl rfl (ti_lt jk_5 jk_8 (br_t (by omega) ?_))
    refine x_aloadn (x := 95) rfl rfl ?_
    refine z_getR (N := 6) (b := 68) 2 0 rfl f_2_30 rfl J rfl 12160 ⟨rfl, rfl⟩ rfl ?_
    refine x_inv (N := m_X9_step) (As := []) (b := 68) (st := []) (dx9 := 2) (mc := 0) (ms := 0) (host := "") 9 rfl t_X9_step ⟨Or.inl q_2_62, i_X9_step.1, i_X9_step.2⟩ ⟨by decide, rfl⟩ (congrArg Prod.fst (J.1.1 68 (9, 6) rfl)) rfl (by decide) rfl rfl ⟨by decide, by decide⟩ (sf_X9_step_r68d  hD J qu2 qu3 (by omega) rfl  (fun h J S31 u32 u33 qu32 qu33 ru32 X34 => ?_))
    have Sm := jSm_tr rfl Sm S31
    rw [X34] at D
    have eu32 := (show 0 ≤ u32.toInt ∧ u32.toInt ≤ 3 from qu32 ▸ jrg_f J sg_68_5_6_1_0_1)
    try rw [vrf qu32] at D
    have eu33 := (show 0 ≤ u33.toInt ∧ u33.toInt ≤ 400 from qu33 ▸ jrg_f J sg_68_3_4_1_0_1)
    try rw [vrf qu33] at D
    show jX m_X2_readFactor 11 0 0 33 [(0, .ref 95), (1, .int 5)] [] _ 0 0 _
    refine x_aloadn (x := 95) rfl rfl ?_
    refine x_iloadn (x := 5) rfl rfl ?_
    refine x_iconst (v := 1) rfl ki_1 ?_
    refine y_iadd (v := 6) rfl (by decide) ?_
    refine x_inv (N := m_X2_readSum) (As := [.int 6]) (b := 95) (st := []) (dx9 := 10) (mc := 0) (ms := 0) (host := "") 2 rfl t_X2_readSum ⟨Or.inl q_2_86, i_X2_readSum.1, i_X2_readSum.2⟩ ⟨by decide, rfl⟩ (congrArg Prod.fst (J.1.1 95 (2, 6) rfl)) rfl (by decide) rfl rfl ⟨by decide, by decide⟩ (sf_X2_readSum_r95_c6d  hD J qu32 qu33 (by omega) rfl  (fun v40 h ev40 J S35 u36 u37 qu36 qu37 ru36 X38 X39 => ?_))
    have Sm := jSm_tr rfl Sm S35
    try rw [X38] at D
    try rw [X39] at D
    have eu36 := (show 0 ≤ u36.toInt ∧ u36.toInt ≤ 3 from qu36 ▸ jrg_f J sg_68_5_6_1_0_1)
    try rw [vrf qu36] at D
    have eu37 := (show 0 ≤ u37.toInt ∧ u37.toInt ≤ 400 from qu37 ▸ jrg_f J sg_68_3_4_1_0_1)
    try rw [vrf qu37] at D
    show jX m_X2_readFactor 11 0 0 40 [(0, .ref 95), (1, .int 5)] [.int v40] _ 0 0 _
    refine x_ifeq (tgt := 56) rfl rfl (ti_eq rfl jk_0 ⟨fun c41 => ?_, fun c41 => ?_⟩)
    ·
      rw [if_pos (by omega)] at D
      exact jX.sub jsb_n (ct_X2_readFactor_r95_c5d_56 hD hQ  u37 u36 h (jr_of rfl (by omega)) (jr_of rfl (by omega)) (by omega) qu37 qu36 J Sm D)
    ·
      rw [if_neg (by omega)] at D
      refine x_aloadn (x := 95) rfl rfl ?_
      refine x_bipush (v := 93) rfl kb_93 ?_
      refine x_inv (N := m_X2_readSign) (As := [.int 93]) (b := 95) (st := []) (dx9 := 10) (mc := 0) (ms := 0) (host := "") 2 rfl t_X2_readSign ⟨Or.inl q_2_138, i_X2_readSign.1, i_X2_readSign.2⟩ ⟨by decide, rfl⟩ (congrArg Prod.fst (J.1.1 95 (2, 6) rfl)) rfl (by decide) rfl rfl ⟨by decide, by decide⟩ (jC.of rfl k_X2_readSign rfl ?_)
      show jX m_X2_readSign 10 0 0 0 [(0, .ref 95), (1, .int 93)] [] _ 0 0 _
      refine x_aloadn (x := 95) rfl rfl ?_
      refine z_getR (N := 6) (b := 68) 2 0 rfl f_2_30 rfl J rfl 12160 ⟨rfl, rfl⟩ rfl ?_
      refine x_iloadn (x := 93) rfl rfl ?_
      refine x_inv (N := m_X9_isSign) (As := [.int 93]) (b := 68) (st := []) (dx9 := 1) (mc := 0) (ms := 0) (host := "") 9 rfl t_X9_isSign ⟨Or.inl q_2_55, i_X9_isSign.1, i_X9_isSign.2⟩ ⟨by decide, rfl⟩ (congrArg Prod.fst (J.1.1 68 (9, 6) rfl)) rfl (by decide) rfl rfl ⟨by decide, by decide⟩ (sf_X9_isSign_r68d (jr_of jk_93 (by omega)) hD J qu36 qu37 (by omega) rfl  (fun v47 h ev47 J S42 u43 u44 qu43 qu44 ru43 X45 X46 => ?_))
      have Sm := jSm_tr rfl Sm S42
      try rw [jk_93] at X45
      try rw [X45] at D
      try rw [← X46] at D
      have eu43 := (show 0 ≤ u43.toInt ∧ u43.toInt ≤ 3 from qu43 ▸ jrg_f J sg_68_5_6_1_0_1)
      have Luu43 := congrArg Int32.toInt (((jmc S42 rfl qu36)).symm.trans qu43)
      try rw [Luu43] at D
      try rw [vrf qu43] at D
      have eu44 := (show 0 ≤ u44.toInt ∧ u44.toInt ≤ 400 from qu44 ▸ jrg_f J sg_68_3_4_1_0_1)
      have Luu44 := congrArg Int32.toInt (((jmc S42 rfl qu37)).symm.trans qu44)
      try rw [Luu44] at D
      try rw [vrf qu44] at D
      show jX m_X2_readSign 10 0 0 8 [(0, .ref 95), (1, .int 93)] [.int v47] _ 0 0 _
      refine x_ifne (tgt := 19) rfl rfl (ti_ne rfl jk_0 ⟨fun c48 => ?_, fun c48 => ?_⟩)
      ·
        rw [if_neg (by omega)] at D
        refine x_aloadn (x := 95) rfl rfl ?_
        refine z_getR (N := 6) (b := 68) 2 0 rfl f_2_30 rfl J rfl 12160 ⟨rfl, rfl⟩ rfl ?_
        refine x_inv (N := m_X9_step) (As := []) (b := 68) (st := []) (dx9 := 2) (mc := 0) (ms := 0) (host := "") 9 rfl t_X9_step ⟨Or.inl q_2_62, i_X9_step.1, i_X9_step.2⟩ ⟨by decide, rfl⟩ (congrArg Prod.fst (J.1.1 68 (9, 6) rfl)) rfl (by decide) rfl rfl ⟨by decide, by decide⟩ (sf_X9_step_r68d  hD J qu43 qu44 (by omega) rfl  (fun h J S49 u50 u51 qu50 qu51 ru50 X52 => ?_))
        have Sm := jSm_tr rfl Sm S49
        rw [X52] at D
        have eu50 := (show 0 ≤ u50.toInt ∧ u50.toInt ≤ 3 from qu50 ▸ jrg_f J sg_68_5_6_1_0_1)
        try rw [vrf qu50] at D
        have eu51 := (show 0 ≤ u51.toInt ∧ u51.toInt ≤ 400 from qu51 ▸ jrg_f J sg_68_3_4_1_0_1)
        try rw [vrf qu51] at D
        show jX m_X2_readSign 10 0 0 26 [(0, .ref 95), (1, .int 93)] [] _ 0 0 _
        refine x_iconst (v := 1) rfl ki_1 ?_
        refine x_zret rfl rfl (by decide) ?_
        show jX m_X2_readFactor 11 0 0 49 [(0, .ref 95), (1, .int 5)] [.int 1] _ 0 0 _
        refine x_ifeq (tgt := 56) rfl rfl (ti_eq jk_1 jk_0 (br_f (by omega) ?_))
        refine x_iconst (v := 1) rfl ki_1 ?_
        refine x_goto (tgt := 57) rfl rfl ?_
        exact jX.sub jsb_n (ct_X2_readFactor_r95_c5d_300057 hD hQ  u51 u50 h (jr_of rfl (by omega)) (jr_of rfl (by omega)) (by omega) qu51 qu50 J Sm D)
      ·
        rw [if_pos (by omega)] at D
        refine x_aloadn (x := 95) rfl rfl ?_
        refine z_getR (N := 6) (b := 68) 2 0 rfl f_2_30 rfl J rfl 12160 ⟨rfl, rfl⟩ rfl ?_
        refine x_inv (N := m_X9_blame) (As := []) (b := 68) (st := []) (dx9 := 9) (mc := 0) (ms := 0) (host := "") 9 rfl t_X9_blame ⟨Or.inl q_2_59, i_X9_blame.1, i_X9_blame.2⟩ ⟨by decide, rfl⟩ (congrArg Prod.fst (J.1.1 68 (9, 6) rfl)) rfl (by decide) rfl rfl ⟨by decide, by decide⟩ (jC.of rfl k_X9_blame rfl ?_)
        show jX m_X9_blame 9 0 0 0 [(0, .ref 68)] [] _ 0 0 _
        refine x_aloadn (x := 68) rfl rfl ?_
        refine x_aloadn (x := 68) rfl rfl ?_
        refine z_getM (N := 6) (v := u44) 9 3 rfl f_9_22 rfl J rfl qu44 ?_
        refine z_putI (N := 6) (w := u44.toInt) 9 2 rfl f_9_19 rfl (jfin_no TX9 RX9 6 rfl rfl) hD J Sm rfl rfl rfl (pw_68_2 (by omega)) rfl (fun h w53 J Sm => ?_)
        rw [vwf w53 (show u44.toInt = u44.toInt from by omega)] at D
        refine x_iconst (v := 0) rfl ki_0 ?_
        refine x_zret rfl rfl (by decide) ?_
        show jX m_X2_readSign 10 0 0 18 [(0, .ref 95), (1, .int 93)] [.int 0] _ 0 0 _
        refine x_zret rfl rfl (by decide) ?_
        show jX m_X2_readFactor 11 0 0 49 [(0, .ref 95), (1, .int 5)] [.int 0] _ 0 0 _
        refine x_ifeq (tgt := 56) rfl rfl (ti_eq jk_0 jk_0 (br_t (by omega) ?_))
        exact jX.sub jsb_n (ct_X2_readFactor_r95_c5d_56 hD hQ  u44 u43 h (jr_of rfl (by omega)) (jr_of rfl (by omega)) (by omega) (jmo w53 rfl qu44) (jmo w53 rfl qu43) J Sm D)
