def fp_X8_add_r57d : jFp := [(57, 3, 4), (58, 0, 400)]
set_option maxRecDepth 100000 in
set_option maxHeartbeats 4000000 in
theorem sf_X8_add_r57d {Dy : jH → Prop} {h : jH} {Q : Option Value → jH → Prop} {dr : jW} {a1 : Int32} {a2 : Int32} {a3 : Int32} {a4 : Int32} {a5 : Int32} {a6 : Int32} (y1 : 0 ≤ a1.toInt ∧ a1.toInt ≤ 146399) (y2 : 0 ≤ a2.toInt ∧ a2.toInt ≤ 399) (y3 : 0 ≤ a3.toInt ∧ a3.toInt ≤ 3) (y4 : (-1000000) ≤ a4.toInt ∧ a4.toInt ≤ 1000000) (y5 : 0 ≤ a5.toInt ∧ a5.toInt ≤ 0) (y6 : 0 ≤ a6.toInt ∧ a6.toInt ≤ 0) (hD : jDk Dy) (J : jJ jSgX Dy h) (D : d_X8_add_r57d a1.toInt a2.toInt a3.toInt a4.toInt a5.toInt a6.toInt (vw h) = dr) (hQ : ∀ hx9, jJ jSgX Dy hx9 → jSm fp_X8_add_r57d h hx9 → dr = vw hx9 → Q none hx9) : jC m_X8_add 2 0 0 [.ref 57, .int a1, .int a2, .int a3, .int a4, .int a5, .int a6] h Q := by
  refine jC.of rfl k_X8_add rfl ?_
  have Sm := jSm_rf fp_X8_add_r57d h
  show jX m_X8_add 2 0 0 0 [(0, .ref 57), (1, .int a1), (2, .int a2), (3, .int a3), (4, .int a4), (5, .int a5), (6, .int a6)] [] _ 0 0 _
  unfold d_X8_add_r57d at D
  refine x_aloadn (x := 57) rfl rfl ?_
  refine z_getI (N := 4) 8 3 rfl f_8_7 rfl J rfl sg_57_3_4_1_0_1 (fun v1 qv1 ev1 => ?_)
  try rw [vrf qv1] at D
  refine x_aloadn (x := 57) rfl rfl ?_
  refine z_getC (N := 4) (v := 100) 8 1 rfl f_8_22 rfl J rfl sg_57_1_2_1_0_1 jk_100 ?_
  refine x_iclt (tgt := 12) rfl rfl (ti_lt rfl jk_100 ⟨fun c2 => ?_, fun c2 => ?_⟩)
  ·
    rw [if_pos (by omega)] at D
    refine x_aloadn (x := 57) rfl rfl ?_
    refine z_getM (N := 4) (v := v1) 8 3 rfl f_8_7 rfl J rfl qv1 ?_
    refine x_istore (lsx9 := [(7, .int v1), (0, .ref 57), (1, .int a1), (2, .int a2), (3, .int a3), (4, .int a4), (5, .int a5), (6, .int a6)]) rfl rfl rfl ?_
    refine x_aloadn (x := 57) rfl rfl ?_
    refine x_iload (x := v1) rfl rfl ?_
    refine x_iconst (v := 1) rfl ki_1 ?_
    refine z_iadd rfl rfl jk_1 (by omega) (fun v3 ev3 => ?_)
    refine z_putI (N := 4) (w := v3.toInt) 8 3 rfl f_8_7 rfl (jfin_no TX8 RX8 4 rfl rfl) hD J Sm rfl rfl rfl (pw_57_3 (by omega)) rfl (fun h w4 J Sm => ?_)
    rw [vwf w4 (show (v1.toInt + 1) = v3.toInt from by omega)] at D
    refine x_aloadn (x := 57) rfl rfl ?_
    refine x_iload (x := v1) rfl rfl ?_
    refine x_iconst (v := 0) rfl ki_0 ?_
    refine x_iloadn (x := a1) rfl rfl ?_
    refine x_inv (N := m_X8_put) (As := [.int v1, .int 0, .int a1]) (b := 57) (st := []) (dx9 := 1) (mc := 0) (ms := 0) (host := "") 8 rfl t_X8_put ⟨Or.inl q_8_29, i_X8_put.1, i_X8_put.2⟩ ⟨by decide, rfl⟩ (congrArg Prod.fst (J.1.1 57 (8, 4) rfl)) rfl (by decide) rfl rfl ⟨by decide, by decide⟩ (sf_X8_put_r57_c0d (jr_of rfl (by omega)) (jr_of rfl (by omega)) hD J rfl  (fun h J S5 X6 => ?_))
    have Sm := jSm_tr rfl Sm S5
    rw [X6] at D
    show jX m_X8_add 2 0 0 34 [(7, .int v1), (0, .ref 57), (1, .int a1), (2, .int a2), (3, .int a3), (4, .int a4), (5, .int a5), (6, .int a6)] [] _ 0 0 _
    refine x_aloadn (x := 57) rfl rfl ?_
    refine x_iload (x := v1) rfl rfl ?_
    refine x_iconst (v := 1) rfl ki_1 ?_
    refine x_iloadn (x := a2) rfl rfl ?_
    refine x_inv (N := m_X8_put) (As := [.int v1, .int 1, .int a2]) (b := 57) (st := []) (dx9 := 1) (mc := 0) (ms := 0) (host := "") 8 rfl t_X8_put ⟨Or.inl q_8_29, i_X8_put.1, i_X8_put.2⟩ ⟨by decide, rfl⟩ (congrArg Prod.fst (J.1.1 57 (8, 4) rfl)) rfl (by decide) rfl rfl ⟨by decide, by decide⟩ (sf_X8_put_r57_c1d (jr_of rfl (by omega)) (jr_of rfl (by omega)) hD J rfl  (fun h J S7 X8 => ?_))
    have Sm := jSm_tr rfl Sm S7
    rw [X8] at D
    show jX m_X8_add 2 0 0 42 [(7, .int v1), (0, .ref 57), (1, .int a1), (2, .int a2), (3, .int a3), (4, .int a4), (5, .int a5), (6, .int a6)] [] _ 0 0 _
    refine x_aloadn (x := 57) rfl rfl ?_
    refine x_iload (x := v1) rfl rfl ?_
    refine x_iconst (v := 2) rfl ki_2 ?_
    refine x_iloadn (x := a3) rfl rfl ?_
    refine x_inv (N := m_X8_put) (As := [.int v1, .int 2, .int a3]) (b := 57) (st := []) (dx9 := 1) (mc := 0) (ms := 0) (host := "") 8 rfl t_X8_put ⟨Or.inl q_8_29, i_X8_put.1, i_X8_put.2⟩ ⟨by decide, rfl⟩ (congrArg Prod.fst (J.1.1 57 (8, 4) rfl)) rfl (by decide) rfl rfl ⟨by decide, by decide⟩ (sf_X8_put_r57_c2d (jr_of rfl (by omega)) (jr_of rfl (by omega)) hD J rfl  (fun h J S9 X10 => ?_))
    have Sm := jSm_tr rfl Sm S9
    rw [X10] at D
    show jX m_X8_add 2 0 0 50 [(7, .int v1), (0, .ref 57), (1, .int a1), (2, .int a2), (3, .int a3), (4, .int a4), (5, .int a5), (6, .int a6)] [] _ 0 0 _
    refine x_aloadn (x := 57) rfl rfl ?_
    refine x_iload (x := v1) rfl rfl ?_
    refine x_iconst (v := 3) rfl ki_3 ?_
    refine x_iload (x := a4) rfl rfl ?_
    refine x_inv (N := m_X8_put) (As := [.int v1, .int 3, .int a4]) (b := 57) (st := []) (dx9 := 1) (mc := 0) (ms := 0) (host := "") 8 rfl t_X8_put ⟨Or.inl q_8_29, i_X8_put.1, i_X8_put.2⟩ ⟨by decide, rfl⟩ (congrArg Prod.fst (J.1.1 57 (8, 4) rfl)) rfl (by decide) rfl rfl ⟨by decide, by decide⟩ (sf_X8_put_r57_c3d (jr_of rfl (by omega)) (jr_of rfl (by omega)) hD J rfl  (fun h J S11 X12 => ?_))
    have Sm := jSm_tr rfl Sm S11
    rw [X12] at D
    show jX m_X8_add 2 0 0 59 [(7, .int v1), (0, .ref 57), (1, .int a1), (2, .int a2), (3, .int a3), (4, .int a4), (5, .int a5), (6, .int a6)] [] _ 0 0 _
    refine x_aloadn (x := 57) rfl rfl ?_
    refine x_iload (x := v1) rfl rfl ?_
    refine x_iconst (v := 4) rfl ki_4 ?_
    refine x_iload (x := a5) rfl rfl ?_
    refine x_inv (N := m_X8_put) (As := [.int v1, .int 4, .int a5]) (b := 57) (st := []) (dx9 := 1) (mc := 0) (ms := 0) (host := "") 8 rfl t_X8_put ⟨Or.inl q_8_29, i_X8_put.1, i_X8_put.2⟩ ⟨by decide, rfl⟩ (congrArg Prod.fst (J.1.1 57 (8, 4) rfl)) rfl (by decide) rfl rfl ⟨by decide, by decide⟩ (sf_X8_put_r57_c4d (jr_of rfl (by omega)) (jr_of rfl (by omega)) hD J rfl  (fun h J S13 X14 => ?_))
    have Sm := jSm_tr rfl Sm S13
    rw [X14] at D
    show jX m_X8_add 2 0 0 68 [(7, .int v1), (0, .ref 57), (1, .int a1), (2, .int a2), (3, .int a3), (4, .int a4), (5, .int a5), (6, .int a6)] [] _ 0 0 _
    refine x_aloadn (x := 57) rfl rfl ?_
    refine x_iload (x := v1) rfl rfl ?_
    refine x_iconst (v := 5) rfl ki_5 ?_
    refine x_iload (x := a6) rfl rfl ?_
    refine x_inv (N := m_X8_put) (As := [.int v1, .int 5, .int a6]) (b := 57) (st := []) (dx9 := 1) (mc := 0) (ms := 0) (host := "") 8 rfl t_X8_put ⟨Or.inl q_8_29, i_X8_put.1, i_X8_put.2⟩ ⟨by decide, rfl⟩ (congrArg Prod.fst (J.1.1 57 (8, 4) rfl)) rfl (by decide) rfl rfl ⟨by decide, by decide⟩ (sf_X8_put_r57_c5d (jr_of rfl (by omega)) (jr_of rfl (by omega)) hD J rfl  (fun h J S15 X16 => ?_))
    have Sm := jSm_tr rfl Sm S15
    rw [X16] at D
    show jX m_X8_add 2 0 0 77 [(7, .int v1), (0, .ref 57), (1, .int a1), (2, .int a2), (3, .int a3), (4, .int a4), (5, .int a5), (6, .int a6)] [] _ 0 0 _
    refine x_vret rfl rfl ?_
    exact hQ _ J Sm D.symm
  ·
    rw [if_neg (by omega)] at D
    refine x_vret rfl rfl ?_
    exact hQ _ J Sm D.symm
def fp_X8_isFull_r57d : jFp := []
set_option maxRecDepth 100000 in
set_option maxHeartbeats 4000000 in
theorem ct_X8_isFull_r57d_200016 {Dy : jH → Prop} {h0 : jH} {Q : Option Value → jH → Prop} {dr : Int} (hD : jDk Dy) (hQ : ∀ (v : Int32) hx9, 0 ≤ v.toInt ∧ v.toInt ≤ 1 → jJ jSgX Dy hx9 → jSm fp_X8_isFull_r57d h0 hx9 → dr = v.toInt → vw hx9 = vw h0 → Q (some (.int v)) hx9) : ∀ (h : jH), jJ jSgX Dy h → jSm fp_X8_isFull_r57d h0 h → d_X8_isFull_r57d_200016  (vw h) = dr → vw h = vw h0 → jX m_X8_isFull 1 0 0 16 [] [.int 0] h 0 0 Q := by
  intro  h    J Sm D EV
  unfold d_X8_isFull_r57d_200016 at D
  refine x_zret rfl rfl (by decide) ?_
  exact hQ _ _ (jr_of jk_0 (by omega)) J Sm (D.symm.trans (show 0 = (0 : Int32).toInt from by have := jk_0; omega)) EV
set_option maxRecDepth 100000 in
set_option maxHeartbeats 4000000 in
theorem ct_X8_isFull_r57d_300016 {Dy : jH → Prop} {h0 : jH} {Q : Option Value → jH → Prop} {dr : Int} (hD : jDk Dy) (hQ : ∀ (v : Int32) hx9, 0 ≤ v.toInt ∧ v.toInt ≤ 1 → jJ jSgX Dy hx9 → jSm fp_X8_isFull_r57d h0 hx9 → dr = v.toInt → vw hx9 = vw h0 → Q (some (.int v)) hx9) : ∀ (h : jH), jJ jSgX Dy h → jSm fp_X8_isFull_r57d h0 h → d_X8_isFull_r57d_300016  (vw h) = dr → vw h = vw h0 → jX m_X8_isFull 1 0 0 16 [] [.int 1] h 0 0 Q := by
  intro  h    J Sm D EV
  unfold d_X8_isFull_r57d_300016 at D
  refine x_zret rfl rfl (by decide) ?_
  exact hQ _ _ (jr_of jk_1 (by omega)) J Sm (D.symm.trans (show 1 = (1 : Int32).toInt from by have := jk_1; omega)) EV
set_option maxRecDepth 100000 in
set_option maxHeartbeats 4000000 in
theorem sf_X8_isFull_r57d {Dy : jH → Prop} {h : jH} {Q : Option Value → jH → Prop} {dr : Int} (hD : jDk Dy) (J : jJ jSgX Dy h) (D : d_X8_isFull_r57d (vw h) = dr) (hQ : ∀ (v : Int32) hx9, 0 ≤ v.toInt ∧ v.toInt ≤ 1 → jJ jSgX Dy hx9 → jSm fp_X8_isFull_r57d h hx9 → dr = v.toInt → vw hx9 = vw h → Q (some (.int v)) hx9) : jC m_X8_isFull 1 0 0 [.ref 57] h Q := by
  refine jC.of rfl k_X8_isFull rfl ?_
  have Sm := jSm_rf fp_X8_isFull_r57d h
  show jX m_X8_isFull 1 0 0 0 [(0, .ref 57)] [] _ 0 0 _
  unfold d_X8_isFull_r57d at D
  have EV : vw h = vw h := rfl
  refine x_aloadn (x := 57) rfl rfl ?_
  refine z_getI (N := 4) 8 3 rfl f_8_7 rfl J rfl sg_57_3_4_1_0_1 (fun v1 qv1 ev1 => ?_)
  try rw [vrf qv1] at D
  refine x_aloadn (x := 57) rfl rfl ?_
  refine z_getC (N := 4) (v := 100) 8 1 rfl f_8_22 rfl J rfl sg_57_1_2_1_0_1 jk_100 ?_
  refine x_iclt (tgt := 15) rfl rfl (ti_lt rfl jk_100 ⟨fun c2 => ?_, fun c2 => ?_⟩)
  ·
    rw [if_pos (by omega)] at D
    refine x_iconst (v := 0) rfl ki_0 ?_
    exact jX.sub jsb_n (ct_X8_isFull_r57d_200016 hD hQ  h J Sm D EV)
  ·
    rw [if_neg (by omega)] at D
    refine x_iconst (v := 1) rfl ki_1 ?_
    refine x_goto (tgt := 16) rfl rfl ?_
    exact jX.sub jsb_n (ct_X8_isFull_r57d_300016 hD hQ  h J Sm D EV)
def fp_X11_entry_r31d : jFp := [(31, 12, 13), (32, 19, 20), (57, 3, 4), (58, 0, 400)]
set_option maxRecDepth 100000 in
set_option maxHeartbeats 4000000 in
theorem ct_X11_entry_r31d_35 {Dy : jH → Prop} {h0 : jH} {Q : Option Value → jH → Prop} {dr : (Int × jW)} (hD : jDk Dy) (hQ : ∀ (v : Int32) hx9, (-366) ≤ v.toInt ∧ v.toInt ≤ 100 → jJ jSgX Dy hx9 → jSm fp_X11_entry_r31d h0 hx9 → dr.1 = v.toInt → dr.2 = vw hx9 → Q (some (.int v)) hx9) : ∀ (h : jH), jJ jSgX Dy h → jSm fp_X11_entry_r31d h0 h → d_X11_entry_r31d_35  (vw h) = dr → jX m_X11_entry 3 0 0 35 [(0, .ref 31)] [] h 0 0 Q := by
  intro  h    J Sm D
  unfold d_X11_entry_r31d_35 at D
  refine x_aloadn (x := 31) rfl rfl ?_
  refine x_iconst (v := (-1)) rfl ki_m1 ?_
  refine x_inv (N := m_X11_refuse) (As := [.int (-1)]) (b := 31) (st := []) (dx9 := 2) (mc := 0) (ms := 0) (host := "") 11 rfl t_X11_refuse ⟨Or.inl q_11_206, i_X11_refuse.1, i_X11_refuse.2⟩ ⟨by decide, rfl⟩ (congrArg Prod.fst (J.1.1 31 (11, 13) rfl)) rfl (by decide) rfl rfl ⟨by decide, by decide⟩ (jC.of rfl k_X11_refuse rfl ?_)
  show jX m_X11_refuse 2 0 0 0 [(0, .ref 31), (1, .int (-1))] [] _ 0 0 _
  refine x_aloadn (x := 31) rfl rfl ?_
  refine x_iloadn (x := (-1)) rfl rfl ?_
  refine z_putI (N := 13) (w := (-1)) 11 12 rfl f_11_94 rfl (jfin_no TX11 RX11 13 rfl rfl) hD J Sm rfl rfl jk_m1 (pw_31_12 (by omega)) rfl (fun h w1 J Sm => ?_)
  rw [vwf w1 (show (-1) = ((-1) : Int32).toInt from by have := jk_m1; omega)] at D
  refine x_iloadn (x := (-1)) rfl rfl ?_
  refine x_iret rfl rfl ?_
  show jX m_X11_entry 3 0 0 40 [(0, .ref 31)] [.int (-1)] _ 0 0 _
  refine x_iret rfl rfl ?_
  exact hQ _ _ (jr_of jk_m1 (by omega)) J Sm ((congrArg Prod.fst D).symm.trans (show (-1) = ((-1) : Int32).toInt from by have := jk_m1; omega)) (congrArg Prod.snd D).symm
set_option maxRecDepth 100000 in
set_option maxHeartbeats 4000000 in
theorem sf_X11_entry_r31d {Dy : jH → Prop} {h : jH} {Q : Option Value → jH → Prop} {dr : (Int × jW)} {a1 : Int32} {a2 : Int32} {a3 : Int32} {a4 : Int32} (hD : jDk Dy) (J : jJ jSgX Dy h) (D : d_X11_entry_r31d a1.toInt a2.toInt a3.toInt a4.toInt (vw h) = dr) (hQ : ∀ (v : Int32) hx9, (-366) ≤ v.toInt ∧ v.toInt ≤ 100 → jJ jSgX Dy hx9 → jSm fp_X11_entry_r31d h hx9 → dr.1 = v.toInt → dr.2 = vw hx9 → Q (some (.int v)) hx9) : jC m_X11_entry 3 0 0 [.ref 31, .int a1, .int a2, .int a3, .int a4] h Q := by
  refine jC.of rfl k_X11_entry rfl ?_
  have Sm := jSm_rf fp_X11_entry_r31d h
  have ea1 := jfull a1
  have ea2 := jfull a2
  have ea3 := jfull a3
  have ea4 := jfull a4
  show jX m_X11_entry 3 0 0 0 [(0, .ref 31), (1, .int a1), (2, .int a2), (3, .int a3), (4, .int a4)] [] _ 0 0 _
  unfold d_X11_entry_r31d at D
  refine x_iloadn (x := a1) rfl rfl ?_
  refine x_inst (N := m_X11_isOffice) (As := [.int a1]) (st := []) (dx9 := 1) (mc := 0) (ms := 0) (host := "") rfl t_X11_isOffice ⟨Or.inl q_11_456, s_X11_isOffice⟩ rfl (by decide) rfl rfl ⟨by decide, by decide⟩ (zc_X11_isOffice rfl (fun v1 ev1 => ?_))
  show jX m_X11_entry 3 0 0 4 [(0, .ref 31), (1, .int a1), (2, .int a2), (3, .int a3), (4, .int a4)] [.int v1] _ 0 0 _
  refine x_ifeq (tgt := 35) rfl rfl (ti_eq rfl jk_0 ⟨fun c2 => ?_, fun c2 => ?_⟩)
  ·
    rw [if_neg (by omega)] at D
    exact jX.sub (jsb_c rfl jsb_n) (ct_X11_entry_r31d_35 hD hQ  h J Sm D)
  ·
    rw [if_pos (by omega)] at D
    refine x_iloadn (x := a2) rfl rfl ?_
    refine x_inst (N := m_X11_isYear) (As := [.int a2]) (st := []) (dx9 := 1) (mc := 0) (ms := 0) (host := "") rfl t_X11_isYear ⟨Or.inl q_11_433, s_X11_isYear⟩ rfl (by decide) rfl rfl ⟨by decide, by decide⟩ (zc_X11_isYear rfl (fun v3 ev3 => ?_))
    show jX m_X11_entry 3 0 0 11 [(0, .ref 31), (1, .int a1), (2, .int a2), (3, .int a3), (4, .int a4)] [.int v3] _ 0 0 _
    refine x_ifeq (tgt := 35) rfl rfl (ti_eq rfl jk_0 ⟨fun c4 => ?_, fun c4 => ?_⟩)
    ·
      rw [if_neg (by omega)] at D
      exact jX.sub (jsb_c rfl jsb_n) (ct_X11_entry_r31d_35 hD hQ  h J Sm D)
    ·
      rw [if_pos (by omega)] at D
      refine x_iloadn (x := a3) rfl rfl ?_
      refine x_ldcw (v := (-1000000)) rfl z_11_472 ?_
      refine x_ldcw (v := 1000000) rfl z_11_436 ?_
      refine x_inst (N := m_X11_isWithin) (As := [.int a3, .int (-1000000), .int 1000000]) (st := []) (dx9 := 1) (mc := 0) (ms := 0) (host := "") rfl t_X11_isWithin ⟨Or.inl q_11_202, s_X11_isWithin⟩ rfl (by decide) rfl rfl ⟨by decide, by decide⟩ (zc_X11_isWithin rfl jk_m1000000 jk_1000000 (fun v5 ev5 => ?_))
      show jX m_X11_entry 3 0 0 24 [(0, .ref 31), (1, .int a1), (2, .int a2), (3, .int a3), (4, .int a4)] [.int v5] _ 0 0 _
      refine x_ifeq (tgt := 35) rfl rfl (ti_eq rfl jk_0 ⟨fun c6 => ?_, fun c6 => ?_⟩)
      ·
        rw [if_neg (by omega)] at D
        exact jX.sub (jsb_c rfl jsb_n) (ct_X11_entry_r31d_35 hD hQ  h J Sm D)
      ·
        rw [if_pos (by omega)] at D
        refine x_iload (x := a4) rfl rfl ?_
        refine x_inst (N := m_X11_isDay) (As := [.int a4]) (st := []) (dx9 := 1) (mc := 0) (ms := 0) (host := "") rfl t_X11_isDay ⟨Or.inl q_11_115, s_X11_isDay⟩ rfl (by decide) rfl rfl ⟨by decide, by decide⟩ (zc_X11_isDay rfl (fun v7 ev7 => ?_))
        show jX m_X11_entry 3 0 0 32 [(0, .ref 31), (1, .int a1), (2, .int a2), (3, .int a3), (4, .int a4)] [.int v7] _ 0 0 _
        refine x_ifne (tgt := 41) rfl rfl (ti_ne rfl jk_0 ⟨fun c8 => ?_, fun c8 => ?_⟩)
        ·
          rw [if_pos (by omega)] at D
          refine x_aloadn (x := 31) rfl rfl ?_
          refine z_getR (N := 13) (b := 32) 11 0 rfl f_11_10 rfl J rfl 3968 ⟨rfl, rfl⟩ rfl ?_
          refine z_getR (N := 20) (b := 57) 1 12 rfl f_11_473 rfl J rfl 4108 ⟨rfl, rfl⟩ rfl ?_
          refine x_inv (N := m_X8_isFull) (As := []) (b := 57) (st := []) (dx9 := 1) (mc := 0) (ms := 0) (host := "") 8 rfl t_X8_isFull ⟨Or.inl q_11_130, i_X8_isFull.1, i_X8_isFull.2⟩ ⟨by decide, rfl⟩ (congrArg Prod.fst (J.1.1 57 (8, 4) rfl)) rfl (by decide) rfl rfl ⟨by decide, by decide⟩ (sf_X8_isFull_r57d  hD J rfl  (fun v12 h ev12 J S9 X10 X11 => ?_))
          have Sm := jSm_tr rfl Sm S9
          try rw [X10] at D
          try rw [← X11] at D
          show jX m_X11_entry 3 0 0 51 [(0, .ref 31), (1, .int a1), (2, .int a2), (3, .int a3), (4, .int a4)] [.int v12] _ 0 0 _
          refine x_ifeq (tgt := 61) rfl rfl (ti_eq rfl jk_0 ⟨fun c13 => ?_, fun c13 => ?_⟩)
          ·
            rw [if_pos (by omega)] at D
            refine x_aloadn (x := 31) rfl rfl ?_
            refine z_getR (N := 13) (b := 32) 11 0 rfl f_11_10 rfl J rfl 3968 ⟨rfl, rfl⟩ rfl ?_
            refine z_getR (N := 20) (b := 57) 1 12 rfl f_11_473 rfl J rfl 4108 ⟨rfl, rfl⟩ rfl ?_
            refine x_iload (x := a4) rfl rfl ?_
            refine x_iloadn (x := a2) rfl rfl ?_
            refine x_iloadn (x := a1) rfl rfl ?_
            refine x_iloadn (x := a3) rfl rfl ?_
            refine x_iconst (v := 0) rfl ki_0 ?_
            refine x_iconst (v := 0) rfl ki_0 ?_
            refine x_inv (N := m_X8_add) (As := [.int a4, .int a2, .int a1, .int a3, .int 0, .int 0]) (b := 57) (st := []) (dx9 := 2) (mc := 0) (ms := 0) (host := "") 8 rfl t_X8_add ⟨Or.inl q_11_145, i_X8_add.1, i_X8_add.2⟩ ⟨by decide, rfl⟩ (congrArg Prod.fst (J.1.1 57 (8, 4) rfl)) rfl (by decide) rfl rfl ⟨by decide, by decide⟩ (sf_X8_add_r57d (jr_of rfl (by omega)) (jr_of rfl (by omega)) (jr_of rfl (by omega)) (jr_of rfl (by omega)) (jr_of jk_0 (by omega)) (jr_of jk_0 (by omega)) hD J rfl  (fun h J S14 X15 => ?_))
            have Sm := jSm_tr rfl Sm S14
            try rw [jk_0] at X15
            rw [X15] at D
            show jX m_X11_entry 3 0 0 78 [(0, .ref 31), (1, .int a1), (2, .int a2), (3, .int a3), (4, .int a4)] [] _ 0 0 _
            refine x_aloadn (x := 31) rfl rfl ?_
            refine x_aloadn (x := 31) rfl rfl ?_
            refine z_getR (N := 13) (b := 32) 11 0 rfl f_11_10 rfl J rfl 3968 ⟨rfl, rfl⟩ rfl ?_
            refine z_getR (N := 20) (b := 57) 1 12 rfl f_11_473 rfl J rfl 4108 ⟨rfl, rfl⟩ rfl ?_
            refine z_getI (N := 4) 8 3 rfl f_11_142 rfl J rfl sg_57_3_4_1_0_1 (fun v16 qv16 ev16 => ?_)
            try rw [vrf qv16] at D
            refine x_inv (N := m_X11_accept) (As := [.int v16]) (b := 31) (st := []) (dx9 := 2) (mc := 0) (ms := 0) (host := "") 11 rfl t_X11_accept ⟨Or.inl q_11_165, i_X11_accept.1, i_X11_accept.2⟩ ⟨by decide, rfl⟩ (congrArg Prod.fst (J.1.1 31 (11, 13) rfl)) rfl (by decide) rfl rfl ⟨by decide, by decide⟩ (jC.of rfl k_X11_accept rfl ?_)
            show jX m_X11_accept 2 0 0 0 [(0, .ref 31), (1, .int v16)] [] _ 0 0 _
            refine x_aloadn (x := 31) rfl rfl ?_
            refine x_iconst (v := 0) rfl ki_0 ?_
            refine z_putI (N := 13) (w := 0) 11 12 rfl f_11_94 rfl (jfin_no TX11 RX11 13 rfl rfl) hD J Sm rfl rfl jk_0 (pw_31_12 (by omega)) rfl (fun h w17 J Sm => ?_)
            rw [vwf w17 (show 0 = (0 : Int32).toInt from by have := jk_0; omega)] at D
            refine x_aloadn (x := 31) rfl rfl ?_
            refine z_getR (N := 13) (b := 32) 11 0 rfl f_11_10 rfl J rfl 3968 ⟨rfl, rfl⟩ rfl ?_
            refine x_dup rfl rfl ?_
            refine z_getI0 (N := 20) 1 19 rfl f_11_528 rfl J rfl (fun v18 qv18 => ?_)
            have ev18 := jfull v18
            try rw [vrf (jmb_c S14 (jmb_w w17 qv18 rfl) rfl)] at D
            refine x_iconst (v := 1) rfl ki_1 ?_
            refine z_iaddW rfl rfl jk_1 (fun v19 ev19 => ?_)
            have fv19 := jfull v19
            try rw [← ev19] at D
            refine z_putI (N := 20) (w := v19.toInt) 1 19 rfl f_11_528 rfl (jfin_no TX1 RX1 20 rfl rfl) hD J Sm rfl rfl rfl (pw_32_19 trivial) rfl (fun h w20 J Sm => ?_)
            rw [vwf w20 (show v19.toInt = v19.toInt from by omega)] at D
            refine x_iloadn (x := v16) rfl rfl ?_
            refine x_iret rfl rfl ?_
            show jX m_X11_entry 3 0 0 92 [(0, .ref 31), (1, .int a1), (2, .int a2), (3, .int a3), (4, .int a4)] [.int v16] _ 0 0 _
            refine x_iret rfl rfl ?_
            exact hQ _ _ (jr_of rfl (by omega)) J Sm ((congrArg Prod.fst D).symm.trans (show v16.toInt = v16.toInt from by omega)) (congrArg Prod.snd D).symm
          ·
            rw [if_neg (by omega)] at D
            refine x_aloadn (x := 31) rfl rfl ?_
            refine x_bipush (v := (-5)) rfl kb_m5 ?_
            refine x_inv (N := m_X11_refuse) (As := [.int (-5)]) (b := 31) (st := []) (dx9 := 2) (mc := 0) (ms := 0) (host := "") 11 rfl t_X11_refuse ⟨Or.inl q_11_206, i_X11_refuse.1, i_X11_refuse.2⟩ ⟨by decide, rfl⟩ (congrArg Prod.fst (J.1.1 31 (11, 13) rfl)) rfl (by decide) rfl rfl ⟨by decide, by decide⟩ (jC.of rfl k_X11_refuse rfl ?_)
            show jX m_X11_refuse 2 0 0 0 [(0, .ref 31), (1, .int (-5))] [] _ 0 0 _
            refine x_aloadn (x := 31) rfl rfl ?_
            refine x_iloadn (x := (-5)) rfl rfl ?_
            refine z_putI (N := 13) (w := (-5)) 11 12 rfl f_11_94 rfl (jfin_no TX11 RX11 13 rfl rfl) hD J Sm rfl rfl jk_m5 (pw_31_12 (by omega)) rfl (fun h w21 J Sm => ?_)
            rw [vwf w21 (show (-5) = ((-5) : Int32).toInt from by have := jk_m5; omega)] at D
            refine x_iloadn (x := (-5)) rfl rfl ?_
            refine x_iret rfl rfl ?_
            show jX m_X11_entry 3 0 0 60 [(0, .ref 31), (1, .int a1), (2, .int a2), (3, .int a3), (4, .int a4)] [.int (-5)] _ 0 0 _
            refine x_iret rfl rfl ?_
            exact hQ _ _ (jr_of jk_m5 (by omega)) J Sm ((congrArg Prod.fst D).symm.trans (show (-5) = ((-5) : Int32).toInt from by have := jk_m5; omega)) (congrArg Prod.snd D).symm
        ·
          rw [if_neg (by omega)] at D
          exact jX.sub (jsb_c rfl jsb_n) (ct_X11_entry_r31d_35 hD hQ  h J Sm D)
def fp_X8_put_r43_c0d : jFp := [(44, 0, 600)]
set_option maxRecDepth 100000 in
set_option maxHeartbeats 4000000 in
theorem ct_X8_put_r43_c0d_38 {Dy : jH → Prop} {h0 : jH} {Q : Option Value → jH → Prop} {dr : jW} (hD : jDk Dy) (hQ : ∀ hx9, jJ jSgX Dy hx9 → jSm fp_X8_put_r43_c0d h0 hx9 → dr = vw hx9 → Q none hx9) : ∀ (h : jH), jJ jSgX Dy h → jSm fp_X8_put_r43_c0d h0 h → d_X8_put_r43_c0d_38  (vw h) = dr → jX m_X8_put 1 0 0 38 [] [] h 0 0 Q := by
  intro  h    J Sm D
  unfold d_X8_put_r43_c0d_38 at D
  refine x_vret rfl rfl ?_
  exact hQ _ J Sm D.symm
set_option maxRecDepth 100000 in
set_option maxHeartbeats 4000000 in
theorem sf_X8_put_r43_c0d {Dy : jH → Prop} {h : jH} {Q : Option Value → jH → Prop} {dr : jW} {a1 : Int32} {a3 : Int32} (y1 : 0 ≤ a1.toInt ∧ a1.toInt ≤ 99) (y3 : 0 ≤ a3.toInt ∧ a3.toInt ≤ 146399) (hD : jDk Dy) (J : jJ jSgX Dy h) (D : d_X8_put_r43_c0d a1.toInt a3.toInt (vw h) = dr) (hQ : ∀ hx9, jJ jSgX Dy hx9 → jSm fp_X8_put_r43_c0d h hx9 → dr = vw hx9 → Q none hx9) : jC m_X8_put 1 0 0 [.ref 43, .int a1, .int 0, .int a3] h Q := by
  refine jC.of rfl k_X8_put rfl ?_
  have Sm := jSm_rf fp_X8_put_r43_c0d h
  show jX m_X8_put 1 0 0 0 [(0, .ref 43), (1, .int a1), (2, .int 0), (3, .int a3)] [] _ 0 0 _
  unfold d_X8_put_r43_c0d at D
  refine x_iloadn (x := a1) rfl rfl ?_
  refine x_iflt (tgt := 38) rfl rfl (ti_lt rfl jk_0 (br_f (by omega) ?_))
  refine x_iloadn (x := a1) rfl rfl ?_
  refine x_aloadn (x := 43) rfl rfl ?_
  refine z_getI (N := 4) 8 3 rfl f_8_7 rfl J rfl sg_43_3_4_1_0_1 (fun v1 qv1 ev1 => ?_)
  try rw [vrf qv1] at D
  refine x_icge (tgt := 38) rfl rfl (ti_ge rfl rfl ⟨fun c2 => ?_, fun c2 => ?_⟩)
  ·
    rw [if_pos (by omega)] at D
    exact jX.sub jsb_n (ct_X8_put_r43_c0d_38 hD hQ  h J Sm D)
  ·
    rw [if_neg (by omega)] at D
    refine x_iloadn (x := 0) rfl rfl ?_
    refine x_iflt (tgt := 38) rfl rfl (ti_lt jk_0 jk_0 (br_f (by omega) ?_))
    refine x_iloadn (x := 0) rfl rfl ?_
    refine x_aloadn (x := 43) rfl rfl ?_
    refine z_getC (N := 4) (v := 6) 8 0 rfl f_8_19 rfl J rfl sg_43_0_1_1_0_1 jk_6 ?_
    refine x_icge (tgt := 38) rfl rfl (ti_ge jk_0 jk_6 (br_f (by omega) ?_))
    refine x_aloadn (x := 43) rfl rfl ?_
    refine z_getR (N := 4) (b := 44) 8 2 rfl f_8_25 rfl J rfl 5506 ⟨rfl, rfl⟩ rfl ?_
    refine x_iloadn (x := a1) rfl rfl ?_
    refine x_aloadn (x := 43) rfl rfl ?_
    refine z_getC (N := 4) (v := 6) 8 0 rfl f_8_19 rfl J rfl sg_43_0_1_1_0_1 jk_6 ?_
    refine z_imul rfl rfl jk_6 (by omega) (fun v3 ev3 => ?_)
    refine x_iloadn (x := 0) rfl rfl ?_
    refine z_iadd rfl rfl jk_0 (by omega) (fun v4 ev4 => ?_)
    refine x_iloadn (x := a3) rfl rfl ?_
    refine z_iast (N := 600) (l := 0) (u := 600) (w := a3.toInt) rfl hD J Sm rfl rfl rfl (by omega) rfl (wr_44 (fun q1 q2 q3 q4 => by omega) (fun q1 q2 q3 q4 => by omega) (fun q1 q2 q3 q4 => by omega) (fun q1 q2 q3 q4 => by omega) (fun q1 q2 q3 q4 => by omega) (fun q1 q2 q3 q4 => by omega)) rfl (fun h w5 J Sm => ?_)
    rw [vww w5 (show ((a1.toInt * 6) + 0) = v4.toInt from by omega) (show a3.toInt = a3.toInt from by omega)] at D
    exact jX.sub jsb_n (ct_X8_put_r43_c0d_38 hD hQ  h J Sm D)
def fp_X8_put_r43_c1d : jFp := [(44, 0, 600)]
set_option maxRecDepth 100000 in
set_option maxHeartbeats 4000000 in
theorem ct_X8_put_r43_c1d_38 {Dy : jH → Prop} {h0 : jH} {Q : Option Value → jH → Prop} {dr : jW} (hD : jDk Dy) (hQ : ∀ hx9, jJ jSgX Dy hx9 → jSm fp_X8_put_r43_c1d h0 hx9 → dr = vw hx9 → Q none hx9) : ∀ (h : jH), jJ jSgX Dy h → jSm fp_X8_put_r43_c1d h0 h → d_X8_put_r43_c1d_38  (vw h) = dr → jX m_X8_put 1 0 0 38 [] [] h 0 0 Q := by
  intro  h    J Sm D
  unfold d_X8_put_r43_c1d_38 at D
  refine x_vret rfl rfl ?_
  exact hQ _ J Sm D.symm
set_option maxRecDepth 100000 in
set_option maxHeartbeats 4000000 in
theorem sf_X8_put_r43_c1d {Dy : jH → Prop} {h : jH} {Q : Option Value → jH → Prop} {dr : jW} {a1 : Int32} {a3 : Int32} (y1 : 0 ≤ a1.toInt ∧ a1.toInt ≤ 99) (y3 : 0 ≤ a3.toInt ∧ a3.toInt ≤ 146399) (hD : jDk Dy) (J : jJ jSgX Dy h) (D : d_X8_put_r43_c1d a1.toInt a3.toInt (vw h) = dr) (hQ : ∀ hx9, jJ jSgX Dy hx9 → jSm fp_X8_put_r43_c1d h hx9 → dr = vw hx9 → Q none hx9) : jC m_X8_put 1 0 0 [.ref 43, .int a1, .int 1, .int a3] h Q := by
  refine jC.of rfl k_X8_put rfl ?_
  have Sm := jSm_rf fp_X8_put_r43_c1d h
  show jX m_X8_put 1 0 0 0 [(0, .ref 43), (1, .int a1), (2, .int 1), (3, .int a3)] [] _ 0 0 _
  unfold d_X8_put_r43_c1d at D
  refine x_iloadn (x := a1) rfl rfl ?_
  refine x_iflt (tgt := 38) rfl rfl (ti_lt rfl jk_0 (br_f (by omega) ?_))
  refine x_iloadn (x := a1) rfl rfl ?_
  refine x_aloadn (x := 43) rfl rfl ?_
  refine z_getI (N := 4) 8 3 rfl f_8_7 rfl J rfl sg_43_3_4_1_0_1 (fun v1 qv1 ev1 => ?_)
  try rw [vrf qv1] at D
  refine x_icge (tgt := 38) rfl rfl (ti_ge rfl rfl ⟨fun c2 => ?_, fun c2 => ?_⟩)
  ·
    rw [if_pos (by omega)] at D
    exact jX.sub jsb_n (ct_X8_put_r43_c1d_38 hD hQ  h J Sm D)
  ·
    rw [if_neg (by omega)] at D
    refine x_iloadn (x := 1) rfl rfl ?_
    refine x_iflt (tgt := 38) rfl rfl (ti_lt jk_1 jk_0 (br_f (by omega) ?_))
    refine x_iloadn (x := 1) rfl rfl ?_
    refine x_aloadn (x := 43) rfl rfl ?_
    refine z_getC (N := 4) (v := 6) 8 0 rfl f_8_19 rfl J rfl sg_43_0_1_1_0_1 jk_6 ?_
    refine x_icge (tgt := 38) rfl rfl (ti_ge jk_1 jk_6 (br_f (by omega) ?_))
    refine x_aloadn (x := 43) rfl rfl ?_
    refine z_getR (N := 4) (b := 44) 8 2 rfl f_8_25 rfl J rfl 5506 ⟨rfl, rfl⟩ rfl ?_
    refine x_iloadn (x := a1) rfl rfl ?_
    refine x_aloadn (x := 43) rfl rfl ?_
    refine z_getC (N := 4) (v := 6) 8 0 rfl f_8_19 rfl J rfl sg_43_0_1_1_0_1 jk_6 ?_
    refine z_imul rfl rfl jk_6 (by omega) (fun v3 ev3 => ?_)
    refine x_iloadn (x := 1) rfl rfl ?_
    refine z_iadd rfl rfl jk_1 (by omega) (fun v4 ev4 => ?_)
    refine x_iloadn (x := a3) rfl rfl ?_
    refine z_iast (N := 600) (l := 0) (u := 600) (w := a3.toInt) rfl hD J Sm rfl rfl rfl (by omega) rfl (wr_44 (fun q1 q2 q3 q4 => by omega) (fun q1 q2 q3 q4 => by omega) (fun q1 q2 q3 q4 => by omega) (fun q1 q2 q3 q4 => by omega) (fun q1 q2 q3 q4 => by omega) (fun q1 q2 q3 q4 => by omega)) rfl (fun h w5 J Sm => ?_)
    rw [vww w5 (show ((a1.toInt * 6) + 1) = v4.toInt from by omega) (show a3.toInt = a3.toInt from by omega)] at D
    exact jX.sub jsb_n (ct_X8_put_r43_c1d_38 hD hQ  h J Sm D)
def fp_X8_put_r43_c2d : jFp := [(44, 0, 600)]
set_option maxRecDepth 100000 in
set_option maxHeartbeats 4000000 in
theorem ct_X8_put_r43_c2d_38 {Dy : jH → Prop} {h0 : jH} {Q : Option Value → jH → Prop} {dr : jW} (hD : jDk Dy) (hQ : ∀ hx9, jJ jSgX Dy hx9 → jSm fp_X8_put_r43_c2d h0 hx9 → dr = vw hx9 → Q none hx9) : ∀ (h : jH), jJ jSgX Dy h → jSm fp_X8_put_r43_c2d h0 h → d_X8_put_r43_c2d_38  (vw h) = dr → jX m_X8_put 1 0 0 38 [] [] h 0 0 Q := by
  intro  h    J Sm D
  unfold d_X8_put_r43_c2d_38 at D
  refine x_vret rfl rfl ?_
  exact hQ _ J Sm D.symm
set_option maxRecDepth 100000 in
set_option maxHeartbeats 4000000 in
theorem sf_X8_put_r43_c2d {Dy : jH → Prop} {h : jH} {Q : Option Value → jH → Prop} {dr : jW} {a1 : Int32} {a3 : Int32} (y1 : 0 ≤ a1.toInt ∧ a1.toInt ≤ 99) (y3 : 0 ≤ a3.toInt ∧ a3.toInt ≤ 146399) (hD : jDk Dy) (J : jJ jSgX Dy h) (D : d_X8_put_r43_c2d a1.toInt a3.toInt (vw h) = dr) (hQ : ∀ hx9, jJ jSgX Dy hx9 → jSm fp_X8_put_r43_c2d h hx9 → dr = vw hx9 → Q none hx9) : jC m_X8_put 1 0 0 [.ref 43, .int a1, .int 2, .int a3] h Q := by
  refine jC.of rfl k_X8_put rfl ?_
  have Sm := jSm_rf fp_X8_put_r43_c2d h
  show jX m_X8_put 1 0 0 0 [(0, .ref 43), (1, .int a1), (2, .int 2), (3, .int a3)] [] _ 0 0 _
  unfold d_X8_put_r43_c2d at D
  refine x_iloadn (x := a1) rfl rfl ?_
  refine x_iflt (tgt := 38) rfl rfl (ti_lt rfl jk_0 (br_f (by omega) ?_))
  refine x_iloadn (x := a1) rfl rfl ?_
  refine x_aloadn (x := 43) rfl rfl ?_
  refine z_getI (N := 4) 8 3 rfl f_8_7 rfl J rfl sg_43_3_4_1_0_1 (fun v1 qv1 ev1 => ?_)
  try rw [vrf qv1] at D
  refine x_icge (tgt := 38) rfl rfl (ti_ge rfl rfl ⟨fun c2 => ?_, fun c2 => ?_⟩)
  ·
    rw [if_pos (by omega)] at D
    exact jX.sub jsb_n (ct_X8_put_r43_c2d_38 hD hQ  h J Sm D)
  ·
    rw [if_neg (by omega)] at D
    refine x_iloadn (x := 2) rfl rfl ?_
    refine x_iflt (tgt := 38) rfl rfl (ti_lt jk_2 jk_0 (br_f (by omega) ?_))
    refine x_iloadn (x := 2) rfl rfl ?_
    refine x_aloadn (x := 43) rfl rfl ?_
    refine z_getC (N := 4) (v := 6) 8 0 rfl f_8_19 rfl J rfl sg_43_0_1_1_0_1 jk_6 ?_
    refine x_icge (tgt := 38) rfl rfl (ti_ge jk_2 jk_6 (br_f (by omega) ?_))
    refine x_aloadn (x := 43) rfl rfl ?_
    refine z_getR (N := 4) (b := 44) 8 2 rfl f_8_25 rfl J rfl 5506 ⟨rfl, rfl⟩ rfl ?_
    refine x_iloadn (x := a1) rfl rfl ?_
    refine x_aloadn (x := 43) rfl rfl ?_
    refine z_getC (N := 4) (v := 6) 8 0 rfl f_8_19 rfl J rfl sg_43_0_1_1_0_1 jk_6 ?_
    refine z_imul rfl rfl jk_6 (by omega) (fun v3 ev3 => ?_)
    refine x_iloadn (x := 2) rfl rfl ?_
    refine z_iadd rfl rfl jk_2 (by omega) (fun v4 ev4 => ?_)
    refine x_iloadn (x := a3) rfl rfl ?_
    refine z_iast (N := 600) (l := 0) (u := 600) (w := a3.toInt) rfl hD J Sm rfl rfl rfl (by omega) rfl (wr_44 (fun q1 q2 q3 q4 => by omega) (fun q1 q2 q3 q4 => by omega) (fun q1 q2 q3 q4 => by omega) (fun q1 q2 q3 q4 => by omega) (fun q1 q2 q3 q4 => by omega) (fun q1 q2 q3 q4 => by omega)) rfl (fun h w5 J Sm => ?_)
    rw [vww w5 (show ((a1.toInt * 6) + 2) = v4.toInt from by omega) (show a3.toInt = a3.toInt from by omega)] at D
    exact jX.sub jsb_n (ct_X8_put_r43_c2d_38 hD hQ  h J Sm D)
def fp_X8_put_r43_c3d : jFp := [(44, 0, 600)]
set_option maxRecDepth 100000 in
set_option maxHeartbeats 4000000 in
theorem ct_X8_put_r43_c3d_38 {Dy : jH → Prop} {h0 : jH} {Q : Option Value → jH → Prop} {dr : jW} (hD : jDk Dy) (hQ : ∀ hx9, jJ jSgX Dy hx9 → jSm fp_X8_put_r43_c3d h0 hx9 → dr = vw hx9 → Q none hx9) : ∀ (h : jH), jJ jSgX Dy h → jSm fp_X8_put_r43_c3d h0 h → d_X8_put_r43_c3d_38  (vw h) = dr → jX m_X8_put 1 0 0 38 [] [] h 0 0 Q := by
  intro  h    J Sm D
  unfold d_X8_put_r43_c3d_38 at D
  refine x_vret rfl rfl ?_
  exact hQ _ J Sm D.symm
set_option maxRecDepth 100000 in
set_option maxHeartbeats 4000000 in
theorem sf_X8_put_r43_c3d {Dy : jH → Prop} {h : jH} {Q : Option Value → jH → Prop} {dr : jW} {a1 : Int32} {a3 : Int32} (y1 : 0 ≤ a1.toInt ∧ a1.toInt ≤ 99) (y3 : 0 ≤ a3.toInt ∧ a3.toInt ≤ 599) (hD : jDk Dy) (J : jJ jSgX Dy h) (D : d_X8_put_r43_c3d a1.toInt a3.toInt (vw h) = dr) (hQ : ∀ hx9, jJ jSgX Dy hx9 → jSm fp_X8_put_r43_c3d h hx9 → dr = vw hx9 → Q none hx9) : jC m_X8_put 1 0 0 [.ref 43, .int a1, .int 3, .int a3] h Q := by
  refine jC.of rfl k_X8_put rfl ?_
  have Sm := jSm_rf fp_X8_put_r43_c3d h
  show jX m_X8_put 1 0 0 0 [(0, .ref 43), (1, .int a1), (2, .int 3), (3, .int a3)] [] _ 0 0 _
  unfold d_X8_put_r43_c3d at D
  refine x_iloadn (x := a1) rfl rfl ?_
  refine x_iflt (tgt := 38) rfl rfl (ti_lt rfl jk_0 (br_f (by omega) ?_))
  refine x_iloadn (x := a1) rfl rfl ?_
  refine x_aloadn (x := 43) rfl rfl ?_
  refine z_getI (N := 4) 8 3 rfl f_8_7 rfl J rfl sg_43_3_4_1_0_1 (fun v1 qv1 ev1 => ?_)
  try rw [vrf qv1] at D
  refine x_icge (tgt := 38) rfl rfl (ti_ge rfl rfl ⟨fun c2 => ?_, fun c2 => ?_⟩)
  ·
    rw [if_pos (by omega)] at D
    exact jX.sub jsb_n (ct_X8_put_r43_c3d_38 hD hQ  h J Sm D)
  ·
    rw [if_neg (by omega)] at D
    refine x_iloadn (x := 3) rfl rfl ?_
    refine x_iflt (tgt := 38) rfl rfl (ti_lt jk_3 jk_0 (br_f (by omega) ?_))
    refine x_iloadn (x := 3) rfl rfl ?_
    refine x_aloadn (x := 43) rfl rfl ?_
    refine z_getC (N := 4) (v := 6) 8 0 rfl f_8_19 rfl J rfl sg_43_0_1_1_0_1 jk_6 ?_
    refine x_icge (tgt := 38) rfl rfl (ti_ge jk_3 jk_6 (br_f (by omega) ?_))
    refine x_aloadn (x := 43) rfl rfl ?_
    refine z_getR (N := 4) (b := 44) 8 2 rfl f_8_25 rfl J rfl 5506 ⟨rfl, rfl⟩ rfl ?_
    refine x_iloadn (x := a1) rfl rfl ?_
    refine x_aloadn (x := 43) rfl rfl ?_
    refine z_getC (N := 4) (v := 6) 8 0 rfl f_8_19 rfl J rfl sg_43_0_1_1_0_1 jk_6 ?_
    refine z_imul rfl rfl jk_6 (by omega) (fun v3 ev3 => ?_)
    refine x_iloadn (x := 3) rfl rfl ?_
    refine z_iadd rfl rfl jk_3 (by omega) (fun v4 ev4 => ?_)
    refine x_iloadn (x := a3) rfl rfl ?_
    refine z_iast (N := 600) (l := 0) (u := 600) (w := a3.toInt) rfl hD J Sm rfl rfl rfl (by omega) rfl (wr_44 (fun q1 q2 q3 q4 => by omega) (fun q1 q2 q3 q4 => by omega) (fun q1 q2 q3 q4 => by omega) (fun q1 q2 q3 q4 => by omega) (fun q1 q2 q3 q4 => by omega) (fun q1 q2 q3 q4 => by omega)) rfl (fun h w5 J Sm => ?_)
    rw [vww w5 (show ((a1.toInt * 6) + 3) = v4.toInt from by omega) (show a3.toInt = a3.toInt from by omega)] at D
    exact jX.sub jsb_n (ct_X8_put_r43_c3d_38 hD hQ  h J Sm D)
def fp_X8_put_r43_c4d : jFp := [(44, 0, 600)]
set_option maxRecDepth 100000 in
set_option maxHeartbeats 4000000 in
theorem ct_X8_put_r43_c4d_38 {Dy : jH → Prop} {h0 : jH} {Q : Option Value → jH → Prop} {dr : jW} (hD : jDk Dy) (hQ : ∀ hx9, jJ jSgX Dy hx9 → jSm fp_X8_put_r43_c4d h0 hx9 → dr = vw hx9 → Q none hx9) : ∀ (h : jH), jJ jSgX Dy h → jSm fp_X8_put_r43_c4d h0 h → d_X8_put_r43_c4d_38  (vw h) = dr → jX m_X8_put 1 0 0 38 [] [] h 0 0 Q := by
  intro  h    J Sm D
  unfold d_X8_put_r43_c4d_38 at D
  refine x_vret rfl rfl ?_
  exact hQ _ J Sm D.symm
set_option maxRecDepth 100000 in
set_option maxHeartbeats 4000000 in
theorem sf_X8_put_r43_c4d {Dy : jH → Prop} {h : jH} {Q : Option Value → jH → Prop} {dr : jW} {a1 : Int32} {a3 : Int32} (y1 : 0 ≤ a1.toInt ∧ a1.toInt ≤ 99) (y3 : 0 ≤ a3.toInt ∧ a3.toInt ≤ 4) (hD : jDk Dy) (J : jJ jSgX Dy h) (D : d_X8_put_r43_c4d a1.toInt a3.toInt (vw h) = dr) (hQ : ∀ hx9, jJ jSgX Dy hx9 → jSm fp_X8_put_r43_c4d h hx9 → dr = vw hx9 → Q none hx9) : jC m_X8_put 1 0 0 [.ref 43, .int a1, .int 4, .int a3] h Q := by
  refine jC.of rfl k_X8_put rfl ?_
  have Sm := jSm_rf fp_X8_put_r43_c4d h
  show jX m_X8_put 1 0 0 0 [(0, .ref 43), (1, .int a1), (2, .int 4), (3, .int a3)] [] _ 0 0 _
  unfold d_X8_put_r43_c4d at D
  refine x_iloadn (x := a1) rfl rfl ?_
  refine x_iflt (tgt := 38) rfl rfl (ti_lt rfl jk_0 (br_f (by omega) ?_))
  refine x_iloadn (x := a1) rfl rfl ?_
  refine x_aloadn (x := 43) rfl rfl ?_
  refine z_getI (N := 4) 8 3 rfl f_8_7 rfl J rfl sg_43_3_4_1_0_1 (fun v1 qv1 ev1 => ?_)
  try rw [vrf qv1] at D
  refine x_icge (tgt := 38) rfl rfl (ti_ge rfl rfl ⟨fun c2 => ?_, fun c2 => ?_⟩)
  ·
    rw [if_pos (by omega)] at D
    exact jX.sub jsb_n (ct_X8_put_r43_c4d_38 hD hQ  h J Sm D)
  ·
    rw [if_neg (by omega)] at D
    refine x_iloadn (x := 4) rfl rfl ?_
    refine x_iflt (tgt := 38) rfl rfl (ti_lt jk_4 jk_0 (br_f (by omega) ?_))
    refine x_iloadn (x := 4) rfl rfl ?_
    refine x_aloadn (x := 43) rfl rfl ?_
    refine z_getC (N := 4) (v := 6) 8 0 rfl f_8_19 rfl J rfl sg_43_0_1_1_0_1 jk_6 ?_
    refine x_icge (tgt := 38) rfl rfl (ti_ge jk_4 jk_6 (br_f (by omega) ?_))
    refine x_aloadn (x := 43) rfl rfl ?_
    refine z_getR (N := 4) (b := 44) 8 2 rfl f_8_25 rfl J rfl 5506 ⟨rfl, rfl⟩ rfl ?_
    refine x_iloadn (x := a1) rfl rfl ?_
    refine x_aloadn (x := 43) rfl rfl ?_
    refine z_getC (N := 4) (v := 6) 8 0 rfl f_8_19 rfl J rfl sg_43_0_1_1_0_1 jk_6 ?_
    refine z_imul rfl rfl jk_6 (by omega) (fun v3 ev3 => ?_)
    refine x_iloadn (x := 4) rfl rfl ?_
    refine z_iadd rfl rfl jk_4 (by omega) (fun v4 ev4 => ?_)
    refine x_iloadn (x := a3) rfl rfl ?_
    refine z_iast (N := 600) (l := 0) (u := 600) (w := a3.toInt) rfl hD J Sm rfl rfl rfl (by omega) rfl (wr_44 (fun q1 q2 q3 q4 => by omega) (fun q1 q2 q3 q4 => by omega) (fun q1 q2 q3 q4 => by omega) (fun q1 q2 q3 q4 => by omega) (fun q1 q2 q3 q4 => by omega) (fun q1 q2 q3 q4 => by omega)) rfl (fun h w5 J Sm => ?_)
    rw [vww w5 (show ((a1.toInt * 6) + 4) = v4.toInt from by omega) (show a3.toInt = a3.toInt from by omega)] at D
    exact jX.sub jsb_n (ct_X8_put_r43_c4d_38 hD hQ  h J Sm D)
def fp_X8_put_r43_c5d : jFp := [(44, 0, 600)]
set_option maxRecDepth 100000 in
set_option maxHeartbeats 4000000 in
theorem ct_X8_put_r43_c5d_38 {Dy : jH → Prop} {h0 : jH} {Q : Option Value → jH → Prop} {dr : jW} (hD : jDk Dy) (hQ : ∀ hx9, jJ jSgX Dy hx9 → jSm fp_X8_put_r43_c5d h0 hx9 → dr = vw hx9 → Q none hx9) : ∀ (h : jH), jJ jSgX Dy h → jSm fp_X8_put_r43_c5d h0 h → d_X8_put_r43_c5d_38  (vw h) = dr → jX m_X8_put 1 0 0 38 [] [] h 0 0 Q := by
  intro  h    J Sm D
  unfold d_X8_put_r43_c5d_38 at D
  refine x_vret rfl rfl ?_
  exact hQ _ J Sm D.symm
set_option maxRecDepth 100000 in
set_option maxHeartbeats 4000000 in
theorem sf_X8_put_r43_c5d {Dy : jH → Prop} {h : jH} {Q : Option Value → jH → Prop} {dr : jW} {a1 : Int32} {a3 : Int32} (y1 : 0 ≤ a1.toInt ∧ a1.toInt ≤ 99) (y3 : 0 ≤ a3.toInt ∧ a3.toInt ≤ 11) (hD : jDk Dy) (J : jJ jSgX Dy h) (D : d_X8_put_r43_c5d a1.toInt a3.toInt (vw h) = dr) (hQ : ∀ hx9, jJ jSgX Dy hx9 → jSm fp_X8_put_r43_c5d h hx9 → dr = vw hx9 → Q none hx9) : jC m_X8_put 1 0 0 [.ref 43, .int a1, .int 5, .int a3] h Q := by
  refine jC.of rfl k_X8_put rfl ?_
  have Sm := jSm_rf fp_X8_put_r43_c5d h
  show jX m_X8_put 1 0 0 0 [(0, .ref 43), (1, .int a1), (2, .int 5), (3, .int a3)] [] _ 0 0 _
  unfold d_X8_put_r43_c5d at D
  refine x_iloadn (x := a1) rfl rfl ?_
  refine x_iflt (tgt := 38) rfl rfl (ti_lt rfl jk_0 (br_f (by omega) ?_))
  refine x_iloadn (x := a1) rfl rfl ?_
  refine x_aloadn (x := 43) rfl rfl ?_
  refine z_getI (N := 4) 8 3 rfl f_8_7 rfl J rfl sg_43_3_4_1_0_1 (fun v1 qv1 ev1 => ?_)
  try rw [vrf qv1] at D
  refine x_icge (tgt := 38) rfl rfl (ti_ge rfl rfl ⟨fun c2 => ?_, fun c2 => ?_⟩)
  ·
    rw [if_pos (by omega)] at D
    exact jX.sub jsb_n (ct_X8_put_r43_c5d_38 hD hQ  h J Sm D)
  ·
    rw [if_neg (by omega)] at D
    refine x_iloadn (x := 5) rfl rfl ?_
    refine x_iflt (tgt := 38) rfl rfl (ti_lt jk_5 jk_0 (br_f (by omega) ?_))
    refine x_iloadn (x := 5) rfl rfl ?_
    refine x_aloadn (x := 43) rfl rfl ?_
    refine z_getC (N := 4) (v := 6) 8 0 rfl f_8_19 rfl J rfl sg_43_0_1_1_0_1 jk_6 ?_
    refine x_icge (tgt := 38) rfl rfl (ti_ge jk_5 jk_6 (br_f (by omega) ?_))
    refine x_aloadn (x := 43) rfl rfl ?_
    refine z_getR (N := 4) (b := 44) 8 2 rfl f_8_25 rfl J rfl 5506 ⟨rfl, rfl⟩ rfl ?_
    refine x_iloadn (x := a1) rfl rfl ?_
    refine x_aloadn (x := 43) rfl rfl ?_
    refine z_getC (N := 4) (v := 6) 8 0 rfl f_8_19 rfl J rfl sg_43_0_1_1_0_1 jk_6 ?_
    refine z_imul rfl rfl jk_6 (by omega) (fun v3 ev3 => ?_)
    refine x_iloadn (x := 5) rfl rfl ?_
    refine z_iadd rfl rfl jk_5 (by omega) (fun v4 ev4 => ?_)
    refine x_iloadn (x := a3) rfl rfl ?_
    refine z_iast (N := 600) (l := 0) (u := 600) (w := a3.toInt) rfl hD J Sm rfl rfl rfl (by omega) rfl (wr_44 (fun q1 q2 q3 q4 => by omega) (fun q1 q2 q3 q4 => by omega) (fun q1 q2 q3 q4 => by omega) (fun q1 q2 q3 q4 => by omega) (fun q1 q2 q3 q4 => by omega) (fun q1 q2 q3 q4 => by omega)) rfl (fun h w5 J Sm => ?_)
    rw [vww w5 (show ((a1.toInt * 6) + 5) = v4.toInt from by omega) (show a3.toInt = a3.toInt from by omega)] at D
    exact jX.sub jsb_n (ct_X8_put_r43_c5d_38 hD hQ  h J Sm D)
def fp_X8_add_r43d : jFp := [(43, 3, 4), (44, 0, 600)]
set_option maxRecDepth 100000 in
set_option maxHeartbeats 4000000 in
theorem sf_X8_add_r43d {Dy : jH → Prop} {h : jH} {Q : Option Value → jH → Prop} {dr : jW} {a1 : Int32} {a2 : Int32} {a3 : Int32} {a4 : Int32} {a5 : Int32} {a6 : Int32} (y1 : 0 ≤ a1.toInt ∧ a1.toInt ≤ 146399) (y2 : 0 ≤ a2.toInt ∧ a2.toInt ≤ 146399) (y3 : 0 ≤ a3.toInt ∧ a3.toInt ≤ 146399) (y4 : 0 ≤ a4.toInt ∧ a4.toInt ≤ 599) (y5 : 0 ≤ a5.toInt ∧ a5.toInt ≤ 4) (y6 : 0 ≤ a6.toInt ∧ a6.toInt ≤ 11) (hD : jDk Dy) (J : jJ jSgX Dy h) (D : d_X8_add_r43d a1.toInt a2.toInt a3.toInt a4.toInt a5.toInt a6.toInt (vw h) = dr) (hQ : ∀ hx9, jJ jSgX Dy hx9 → jSm fp_X8_add_r43d h hx9 → dr = vw hx9 → Q none hx9) : jC m_X8_add 2 0 0 [.ref 43, .int a1, .int a2, .int a3, .int a4, .int a5, .int a6] h Q := by
  refine jC.of rfl k_X8_add rfl ?_
  have Sm := jSm_rf fp_X8_add_r43d h
  show jX m_X8_add 2 0 0 0 [(0, .ref 43), (1, .int a1), (2, .int a2), (3, .int a3), (4, .int a4), (5, .int a5), (6, .int a6)] [] _ 0 0 _
  unfold d_X8_add_r43d at D
  refine x_aloadn (x := 43) rfl rfl ?_
  refine z_getI (N := 4) 8 3 rfl f_8_7 rfl J rfl sg_43_3_4_1_0_1 (fun v1 qv1 ev1 => ?_)
  try rw [vrf qv1] at D
  refine x_aloadn (x := 43) rfl rfl ?_
  refine z_getC (N := 4) (v := 100) 8 1 rfl f_8_22 rfl J rfl sg_43_1_2_1_0_1 jk_100 ?_
  refine x_iclt (tgt := 12) rfl rfl (ti_lt rfl jk_100 ⟨fun c2 => ?_, fun c2 => ?_⟩)
  ·
    rw [if_pos (by omega)] at D
    refine x_aloadn (x := 43) rfl rfl ?_
    refine z_getM (N := 4) (v := v1) 8 3 rfl f_8_7 rfl J rfl qv1 ?_
    refine x_istore (lsx9 := [(7, .int v1), (0, .ref 43), (1, .int a1), (2, .int a2), (3, .int a3), (4, .int a4), (5, .int a5), (6, .int a6)]) rfl rfl rfl ?_
    refine x_aloadn (x := 43) rfl rfl ?_
    refine x_iload (x := v1) rfl rfl ?_
    refine x_iconst (v := 1) rfl ki_1 ?_
    refine z_iadd rfl rfl jk_1 (by omega) (fun v3 ev3 => ?_)
    refine z_putI (N := 4) (w := v3.toInt) 8 3 rfl f_8_7 rfl (jfin_no TX8 RX8 4 rfl rfl) hD J Sm rfl rfl rfl (pw_43_3 (by omega)) rfl (fun h w4 J Sm => ?_)
    rw [vwf w4 (show (v1.toInt + 1) = v3.toInt from by omega)] at D
    refine x_aloadn (x := 43) rfl rfl ?_
    refine x_iload (x := v1) rfl rfl ?_
    refine x_iconst (v := 0) rfl ki_0 ?_
    refine x_iloadn (x := a1) rfl rfl ?_
    refine x_inv (N := m_X8_put) (As := [.int v1, .int 0, .int a1]) (b := 43) (st := []) (dx9 := 1) (mc := 0) (ms := 0) (host := "") 8 rfl t_X8_put ⟨Or.inl q_8_29, i_X8_put.1, i_X8_put.2⟩ ⟨by decide, rfl⟩ (congrArg Prod.fst (J.1.1 43 (8, 4) rfl)) rfl (by decide) rfl rfl ⟨by decide, by decide⟩ (sf_X8_put_r43_c0d (jr_of rfl (by omega)) (jr_of rfl (by omega)) hD J rfl  (fun h J S5 X6 => ?_))
    have Sm := jSm_tr rfl Sm S5
    rw [X6] at D
    show jX m_X8_add 2 0 0 34 [(7, .int v1), (0, .ref 43), (1, .int a1), (2, .int a2), (3, .int a3), (4, .int a4), (5, .int a5), (6, .int a6)] [] _ 0 0 _
    refine x_aloadn (x := 43) rfl rfl ?_
    refine x_iload (x := v1) rfl rfl ?_
    refine x_iconst (v := 1) rfl ki_1 ?_
    refine x_iloadn (x := a2) rfl rfl ?_
    refine x_inv (N := m_X8_put) (As := [.int v1, .int 1, .int a2]) (b := 43) (st := []) (dx9 := 1) (mc := 0) (ms := 0) (host := "") 8 rfl t_X8_put ⟨Or.inl q_8_29, i_X8_put.1, i_X8_put.2⟩ ⟨by decide, rfl⟩ (congrArg Prod.fst (J.1.1 43 (8, 4) rfl)) rfl (by decide) rfl rfl ⟨by decide, by decide⟩ (sf_X8_put_r43_c1d (jr_of rfl (by omega)) (jr_of rfl (by omega)) hD J rfl  (fun h J S7 X8 => ?_))
    have Sm := jSm_tr rfl Sm S7
    rw [X8] at D
    show jX m_X8_add 2 0 0 42 [(7, .int v1), (0, .ref 43), (1, .int a1), (2, .int a2), (3, .int a3), (4, .int a4), (5, .int a5), (6, .int a6)] [] _ 0 0 _
    refine x_aloadn (x := 43) rfl rfl ?_
    refine x_iload (x := v1) rfl rfl ?_
    refine x_iconst (v := 2) rfl ki_2 ?_
    refine x_iloadn (x := a3) rfl rfl ?_
    refine x_inv (N := m_X8_put) (As := [.int v1, .int 2, .int a3]) (b := 43) (st := []) (dx9 := 1) (mc := 0) (ms := 0) (host := "") 8 rfl t_X8_put ⟨Or.inl q_8_29, i_X8_put.1, i_X8_put.2⟩ ⟨by decide, rfl⟩ (congrArg Prod.fst (J.1.1 43 (8, 4) rfl)) rfl (by decide) rfl rfl ⟨by decide, by decide⟩ (sf_X8_put_r43_c2d (jr_of rfl (by omega)) (jr_of rfl (by omega)) hD J rfl  (fun h J S9 X10 => ?_))
    have Sm := jSm_tr rfl Sm S9
    rw [X10] at D
    show jX m_X8_add 2 0 0 50 [(7, .int v1), (0, .ref 43), (1, .int a1), (2, .int a2), (3, .int a3), (4, .int a4), (5, .int a5), (6, .int a6)] [] _ 0 0 _
    refine x_aloadn (x := 43) rfl rfl ?_
    refine x_iload (x := v1) rfl rfl ?_
    refine x_iconst (v := 3) rfl ki_3 ?_
    refine x_iload (x := a4) rfl rfl ?_
    refine x_inv (N := m_X8_put) (As := [.int v1, .int 3, .int a4]) (b := 43) (st := []) (dx9 := 1) (mc := 0) (ms := 0) (host := "") 8 rfl t_X8_put ⟨Or.inl q_8_29, i_X8_put.1, i_X8_put.2⟩ ⟨by decide, rfl⟩ (congrArg Prod.fst (J.1.1 43 (8, 4) rfl)) rfl (by decide) rfl rfl ⟨by decide, by decide⟩ (sf_X8_put_r43_c3d (jr_of rfl (by omega)) (jr_of rfl (by omega)) hD J rfl  (fun h J S11 X12 => ?_))
    have Sm := jSm_tr rfl Sm S11
    rw [X12] at D
    show jX m_X8_add 2 0 0 59 [(7, .int v1), (0, .ref 43), (1, .int a1), (2, .int a2), (3, .int a3), (4, .int a4), (5, .int a5), (6, .int a6)] [] _ 0 0 _
    refine x_aloadn (x := 43) rfl rfl ?_
    refine x_iload (x := v1) rfl rfl ?_
    refine x_iconst (v := 4) rfl ki_4 ?_
    refine x_iload (x := a5) rfl rfl ?_
    refine x_inv (N := m_X8_put) (As := [.int v1, .int 4, .int a5]) (b := 43) (st := []) (dx9 := 1) (mc := 0) (ms := 0) (host := "") 8 rfl t_X8_put ⟨Or.inl q_8_29, i_X8_put.1, i_X8_put.2⟩ ⟨by decide, rfl⟩ (congrArg Prod.fst (J.1.1 43 (8, 4) rfl)) rfl (by decide) rfl rfl ⟨by decide, by decide⟩ (sf_X8_put_r43_c4d (jr_of rfl (by omega)) (jr_of rfl (by omega)) hD J rfl  (fun h J S13 X14 => ?_))
    have Sm := jSm_tr rfl Sm S13
    rw [X14] at D
    show jX m_X8_add 2 0 0 68 [(7, .int v1), (0, .ref 43), (1, .int a1), (2, .int a2), (3, .int a3), (4, .int a4), (5, .int a5), (6, .int a6)] [] _ 0 0 _
    refine x_aloadn (x := 43) rfl rfl ?_
    refine x_iload (x := v1) rfl rfl ?_
    refine x_iconst (v := 5) rfl ki_5 ?_
    refine x_iload (x := a6) rfl rfl ?_
    refine x_inv (N := m_X8_put) (As := [.int v1, .int 5, .int a6]) (b := 43) (st := []) (dx9 := 1) (mc := 0) (ms := 0) (host := "") 8 rfl t_X8_put ⟨Or.inl q_8_29, i_X8_put.1, i_X8_put.2⟩ ⟨by decide, rfl⟩ (congrArg Prod.fst (J.1.1 43 (8, 4) rfl)) rfl (by decide) rfl rfl ⟨by decide, by decide⟩ (sf_X8_put_r43_c5d (jr_of rfl (by omega)) (jr_of rfl (by omega)) hD J rfl  (fun h J S15 X16 => ?_))
    have Sm := jSm_tr rfl Sm S15
    rw [X16] at D
    show jX m_X8_add 2 0 0 77 [(7, .int v1), (0, .ref 43), (1, .int a1), (2, .int a2), (3, .int a3), (4, .int a4), (5, .int a5), (6, .int a6)] [] _ 0 0 _
    refine x_vret rfl rfl ?_
    exact hQ _ J Sm D.symm
  ·
    rw [if_neg (by omega)] at D
    refine x_vret rfl rfl ?_
    exact hQ _ J Sm D.symm
def fp_X8_put_r63_c0d : jFp := [(64, 0, 740)]
set_option maxRecDepth 100000 in
set_option maxHeartbeats 4000000 in
theorem ct_X8_put_r63_c0d_38 {Dy : jH → Prop} {h0 : jH} {Q : Option Value → jH → Prop} {dr : jW} (hD : jDk Dy) (hQ : ∀ hx9, jJ jSgX Dy hx9 → jSm fp_X8_put_r63_c0d h0 hx9 → dr = vw hx9 → Q none hx9) : ∀ (h : jH), jJ jSgX Dy h → jSm fp_X8_put_r63_c0d h0 h → d_X8_put_r63_c0d_38  (vw h) = dr → jX m_X8_put 1 0 0 38 [] [] h 0 0 Q := by
  intro  h    J Sm D
  unfold d_X8_put_r63_c0d_38 at D
  refine x_vret rfl rfl ?_
  exact hQ _ J Sm D.symm
set_option maxRecDepth 100000 in
set_option maxHeartbeats 4000000 in
theorem sf_X8_put_r63_c0d {Dy : jH → Prop} {h : jH} {Q : Option Value → jH → Prop} {dr : jW} {a1 : Int32} {a3 : Int32} (y1 : 0 ≤ a1.toInt ∧ a1.toInt ≤ 369) (y3 : 0 ≤ a3.toInt ∧ a3.toInt ≤ 3) (hD : jDk Dy) (J : jJ jSgX Dy h) (D : d_X8_put_r63_c0d a1.toInt a3.toInt (vw h) = dr) (hQ : ∀ hx9, jJ jSgX Dy hx9 → jSm fp_X8_put_r63_c0d h hx9 → dr = vw hx9 → Q none hx9) : jC m_X8_put 1 0 0 [.ref 63, .int a1, .int 0, .int a3] h Q := by
  refine jC.of rfl k_X8_put rfl ?_
  have Sm := jSm_rf fp_X8_put_r63_c0d h
  show jX m_X8_put 1 0 0 0 [(0, .ref 63), (1, .int a1), (2, .int 0), (3, .int a3)] [] _ 0 0 _
  unfold d_X8_put_r63_c0d at D
  refine x_iloadn (x := a1) rfl rfl ?_
  refine x_iflt (tgt := 38) rfl rfl (ti_lt rfl jk_0 (br_f (by omega) ?_))
  refine x_iloadn (x := a1) rfl rfl ?_
  refine x_aloadn (x := 63) rfl rfl ?_
  refine z_getI (N := 4) 8 3 rfl f_8_7 rfl J rfl sg_63_3_4_1_0_1 (fun v1 qv1 ev1 => ?_)
  try rw [vrf qv1] at D
  refine x_icge (tgt := 38) rfl rfl (ti_ge rfl rfl ⟨fun c2 => ?_, fun c2 => ?_⟩)
  ·
    rw [if_pos (by omega)] at D
    exact jX.sub jsb_n (ct_X8_put_r63_c0d_38 hD hQ  h J Sm D)
  ·
    rw [if_neg (by omega)] at D
    refine x_iloadn (x := 0) rfl rfl ?_
    refine x_iflt (tgt := 38) rfl rfl (ti_lt jk_0 jk_0 (br_f (by omega) ?_))
    refine x_iloadn (x := 0) rfl rfl ?_
    refine x_aloadn (x := 63) rfl rfl ?_
    refine z_getC (N := 4) (v := 2) 8 0 rfl f_8_19 rfl J rfl sg_63_0_1_1_0_1 jk_2 ?_
    refine x_icge (tgt := 38) rfl rfl (ti_ge jk_0 jk_2 (br_f (by omega) ?_))
    refine x_aloadn (x := 63) rfl rfl ?_
    refine z_getR (N := 4) (b := 64) 8 2 rfl f_8_25 rfl J rfl 8066 ⟨rfl, rfl⟩ rfl ?_
    refine x_iloadn (x := a1) rfl rfl ?_
    refine x_aloadn (x := 63) rfl rfl ?_
    refine z_getC (N := 4) (v := 2) 8 0 rfl f_8_19 rfl J rfl sg_63_0_1_1_0_1 jk_2 ?_
    refine z_imul rfl rfl jk_2 (by omega) (fun v3 ev3 => ?_)
    refine x_iloadn (x := 0) rfl rfl ?_
    refine z_iadd rfl rfl jk_0 (by omega) (fun v4 ev4 => ?_)
    refine x_iloadn (x := a3) rfl rfl ?_
    refine z_iast (N := 740) (l := 0) (u := 740) (w := a3.toInt) rfl hD J Sm rfl rfl rfl (by omega) rfl (wr_64 (fun q1 q2 q3 q4 => by omega) (fun q1 q2 q3 q4 => by omega)) rfl (fun h w5 J Sm => ?_)
    rw [vww w5 (show ((a1.toInt * 2) + 0) = v4.toInt from by omega) (show a3.toInt = a3.toInt from by omega)] at D
    exact jX.sub jsb_n (ct_X8_put_r63_c0d_38 hD hQ  h J Sm D)
def fp_X8_put_r63_c1d : jFp := [(64, 0, 740)]
set_option maxRecDepth 100000 in
set_option maxHeartbeats 4000000 in
theorem ct_X8_put_r63_c1d_38 {Dy : jH → Prop} {h0 : jH} {Q : Option Value → jH → Prop} {dr : jW} (hD : jDk Dy) (hQ : ∀ hx9, jJ jSgX Dy hx9 → jSm fp_X8_put_r63_c1d h0 hx9 → dr = vw hx9 → Q none hx9) : ∀ (h : jH), jJ jSgX Dy h → jSm fp_X8_put_r63_c1d h0 h → d_X8_put_r63_c1d_38  (vw h) = dr → jX m_X8_put 1 0 0 38 [] [] h 0 0 Q := by
  intro  h    J Sm D
  unfold d_X8_put_r63_c1d_38 at D
  refine x_vret rfl rfl ?_
  exact hQ _ J Sm D.symm
set_option maxRecDepth 100000 in
set_option maxHeartbeats 4000000 in
theorem sf_X8_put_r63_c1d {Dy : jH → Prop} {h : jH} {Q : Option Value → jH → Prop} {dr : jW} {a1 : Int32} {a3 : Int32} (y1 : 0 ≤ a1.toInt ∧ a1.toInt ≤ 369) (y3 : 0 ≤ a3.toInt ∧ a3.toInt ≤ 200) (hD : jDk Dy) (J : jJ jSgX Dy h) (D : d_X8_put_r63_c1d a1.toInt a3.toInt (vw h) = dr) (hQ : ∀ hx9, jJ jSgX Dy hx9 → jSm fp_X8_put_r63_c1d h hx9 → dr = vw hx9 → Q none hx9) : jC m_X8_put 1 0 0 [.ref 63, .int a1, .int 1, .int a3] h Q := by
  refine jC.of rfl k_X8_put rfl ?_
  have Sm := jSm_rf fp_X8_put_r63_c1d h
  show jX m_X8_put 1 0 0 0 [(0, .ref 63), (1, .int a1), (2, .int 1), (3, .int a3)] [] _ 0 0 _
  unfold d_X8_put_r63_c1d at D
  refine x_iloadn (x := a1) rfl rfl ?_
  refine x_iflt (tgt := 38) rfl rfl (ti_lt rfl jk_0 (br_f (by omega) ?_))
  refine x_iloadn (x := a1) rfl rfl ?_
  refine x_aloadn (x := 63) rfl rfl ?_
  refine z_getI (N := 4) 8 3 rfl f_8_7 rfl J rfl sg_63_3_4_1_0_1 (fun v1 qv1 ev1 => ?_)
  try rw [vrf qv1] at D
  refine x_icge (tgt := 38) rfl rfl (ti_ge rfl rfl ⟨fun c2 => ?_, fun c2 => ?_⟩)
  ·
    rw [if_pos (by omega)] at D
    exact jX.sub jsb_n (ct_X8_put_r63_c1d_38 hD hQ  h J Sm D)
  ·
    rw [if_neg (by omega)] at D
    refine x_iloadn (x := 1) rfl rfl ?_
    refine x_iflt (tgt := 38) rfl rfl (ti_lt jk_1 jk_0 (br_f (by omega) ?_))
    refine x_iloadn (x := 1) rfl rfl ?_
    refine x_aloadn (x := 63) rfl rfl ?_
    refine z_getC (N := 4) (v := 2) 8 0 rfl f_8_19 rfl J rfl sg_63_0_1_1_0_1 jk_2 ?_
    refine x_icge (tgt := 38) rfl rfl (ti_ge jk_1 jk_2 (br_f (by omega) ?_))
    refine x_aloadn (x := 63) rfl rfl ?_
    refine z_getR (N := 4) (b := 64) 8 2 rfl f_8_25 rfl J rfl 8066 ⟨rfl, rfl⟩ rfl ?_
    refine x_iloadn (x := a1) rfl rfl ?_
    refine x_aloadn (x := 63) rfl rfl ?_
    refine z_getC (N := 4) (v := 2) 8 0 rfl f_8_19 rfl J rfl sg_63_0_1_1_0_1 jk_2 ?_
    refine z_imul rfl rfl jk_2 (by omega) (fun v3 ev3 => ?_)
    refine x_iloadn (x := 1) rfl rfl ?_
    refine z_iadd rfl rfl jk_1 (by omega) (fun v4 ev4 => ?_)
    refine x_iloadn (x := a3) rfl rfl ?_
    refine z_iast (N := 740) (l := 0) (u := 740) (w := a3.toInt) rfl hD J Sm rfl rfl rfl (by omega) rfl (wr_64 (fun q1 q2 q3 q4 => by omega) (fun q1 q2 q3 q4 => by omega)) rfl (fun h w5 J Sm => ?_)
    rw [vww w5 (show ((a1.toInt * 2) + 1) = v4.toInt from by omega) (show a3.toInt = a3.toInt from by omega)] at D
    exact jX.sub jsb_n (ct_X8_put_r63_c1d_38 hD hQ  h J Sm D)
def fp_X8_put_r63_c2d : jFp := []
set_option maxRecDepth 100000 in
set_option maxHeartbeats 4000000 in
theorem ct_X8_put_r63_c2d_38 {Dy : jH → Prop} {h0 : jH} {Q : Option Value → jH → Prop} {dr : jW} (hD : jDk Dy) (hQ : ∀ hx9, jJ jSgX Dy hx9 → jSm fp_X8_put_r63_c2d h0 hx9 → dr = vw hx9 → Q none hx9) : ∀ (h : jH), jJ jSgX Dy h → jSm fp_X8_put_r63_c2d h0 h → d_X8_put_r63_c2d_38  (vw h) = dr → jX m_X8_put 1 0 0 38 [] [] h 0 0 Q := by
  intro  h    J Sm D
  unfold d_X8_put_r63_c2d_38 at D
  refine x_vret rfl rfl ?_
  exact hQ _ J Sm D.symm
set_option maxRecDepth 100000 in
set_option maxHeartbeats 4000000 in
theorem sf_X8_put_r63_c2d {Dy : jH → Prop} {h : jH} {Q : Option Value → jH → Prop} {dr : jW} {a1 : Int32} {a3 : Int32} (y1 : 0 ≤ a1.toInt ∧ a1.toInt ≤ 369) (y3 : 0 ≤ a3.toInt ∧ a3.toInt ≤ 0) (hD : jDk Dy) (J : jJ jSgX Dy h) (D : d_X8_put_r63_c2d a1.toInt a3.toInt (vw h) = dr) (hQ : ∀ hx9, jJ jSgX Dy hx9 → jSm fp_X8_put_r63_c2d h hx9 → dr = vw hx9 → Q none hx9) : jC m_X8_put 1 0 0 [.ref 63, .int a1, .int 2, .int a3] h Q := by
  refine jC.of rfl k_X8_put rfl ?_
  have Sm := jSm_rf fp_X8_put_r63_c2d h
  show jX m_X8_put 1 0 0 0 [(0, .ref 63), (1, .int a1), (2, .int 2), (3, .int a3)] [] _ 0 0 _
  unfold d_X8_put_r63_c2d at D
  refine x_iloadn (x := a1) rfl rfl ?_
  refine x_iflt (tgt := 38) rfl rfl (ti_lt rfl jk_0 (br_f (by omega) ?_))
  refine x_iloadn (x := a1) rfl rfl ?_
  refine x_aloadn (x := 63) rfl rfl ?_
  refine z_getI (N := 4) 8 3 rfl f_8_7 rfl J rfl sg_63_3_4_1_0_1 (fun v1 qv1 ev1 => ?_)
  try rw [vrf qv1] at D
  refine x_icge (tgt := 38) rfl rfl (ti_ge rfl rfl ⟨fun c2 => ?_, fun c2 => ?_⟩)
  ·
    rw [if_pos (by omega)] at D
    exact jX.sub jsb_n (ct_X8_put_r63_c2d_38 hD hQ  h J Sm D)
  ·
    rw [if_neg (by omega)] at D
    refine x_iloadn (x := 2) rfl rfl ?_
    refine x_iflt (tgt := 38) rfl rfl (ti_lt jk_2 jk_0 (br_f (by omega) ?_))
    refine x_iloadn (x := 2) rfl rfl ?_
    refine x_aloadn (x := 63) rfl rfl ?_
    refine z_getC (N := 4) (v := 2) 8 0 rfl f_8_19 rfl J rfl sg_63_0_1_1_0_1 jk_2 ?_
    refine x_icge (tgt := 38) rfl rfl (ti_ge jk_2 jk_2 (br_t (by omega) ?_))
    exact jX.sub jsb_n (ct_X8_put_r63_c2d_38 hD hQ  h J Sm D)
def fp_X8_put_r63_c3d : jFp := []
set_option maxRecDepth 100000 in
set_option maxHeartbeats 4000000 in
theorem ct_X8_put_r63_c3d_38 {Dy : jH → Prop} {h0 : jH} {Q : Option Value → jH → Prop} {dr : jW} (hD : jDk Dy) (hQ : ∀ hx9, jJ jSgX Dy hx9 → jSm fp_X8_put_r63_c3d h0 hx9 → dr = vw hx9 → Q none hx9) : ∀ (h : jH), jJ jSgX Dy h → jSm fp_X8_put_r63_c3d h0 h → d_X8_put_r63_c3d_38  (vw h) = dr → jX m_X8_put 1 0 0 38 [] [] h 0 0 Q := by
  intro  h    J Sm D
  unfold d_X8_put_r63_c3d_38 at D
  refine x_vret rfl rfl ?_
  exact hQ _ J Sm D.symm
set_option maxRecDepth 100000 in
set_option maxHeartbeats 4000000 in
theorem sf_X8_put_r63_c3d {Dy : jH → Prop} {h : jH} {Q : Option Value → jH → Prop} {dr : jW} {a1 : Int32} {a3 : Int32} (y1 : 0 ≤ a1.toInt ∧ a1.toInt ≤ 369) (y3 : 0 ≤ a3.toInt ∧ a3.toInt ≤ 0) (hD : jDk Dy) (J : jJ jSgX Dy h) (D : d_X8_put_r63_c3d a1.toInt a3.toInt (vw h) = dr) (hQ : ∀ hx9, jJ jSgX Dy hx9 → jSm fp_X8_put_r63_c3d h hx9 → dr = vw hx9 → Q none hx9) : jC m_X8_put 1 0 0 [.ref 63, .int a1, .int 3, .int a3] h Q := by
  refine jC.of rfl k_X8_put rfl ?_
  have Sm := jSm_rf fp_X8_put_r63_c3d h
  show jX m_X8_put 1 0 0 0 [(0, .ref 63), (1, .int a1), (2, .int 3), (3, .int a3)] [] _ 0 0 _
  unfold d_X8_put_r63_c3d at D
  refine x_iloadn (x := a1) rfl rfl ?_
  refine x_iflt (tgt := 38) rfl rfl (ti_lt rfl jk_0 (br_f (by omega) ?_))
  refine x_iloadn (x := a1) rfl rfl ?_
  refine x_aloadn (x := 63) rfl rfl ?_
  refine z_getI (N := 4) 8 3 rfl f_8_7 rfl J rfl sg_63_3_4_1_0_1 (fun v1 qv1 ev1 => ?_)
  try rw [vrf qv1] at D
  refine x_icge (tgt := 38) rfl rfl (ti_ge rfl rfl ⟨fun c2 => ?_, fun c2 => ?_⟩)
  ·
    rw [if_pos (by omega)] at D
    exact jX.sub jsb_n (ct_X8_put_r63_c3d_38 hD hQ  h J Sm D)
  ·
    rw [if_neg (by omega)] at D
    refine x_iloadn (x := 3) rfl rfl ?_
    refine x_iflt (tgt := 38) rfl rfl (ti_lt jk_3 jk_0 (br_f (by omega) ?_))
    refine x_iloadn (x := 3) rfl rfl ?_
    refine x_aloadn (x := 63) rfl rfl ?_
    refine z_getC (N := 4) (v := 2) 8 0 rfl f_8_19 rfl J rfl sg_63_0_1_1_0_1 jk_2 ?_
    refine x_icge (tgt := 38) rfl rfl (ti_ge jk_3 jk_2 (br_t (by omega) ?_))
    exact jX.sub jsb_n (ct_X8_put_r63_c3d_38 hD hQ  h J Sm D)
def fp_X8_put_r63_c4d : jFp := []
set_option maxRecDepth 100000 in
set_option maxHeartbeats 4000000 in
theorem ct_X8_put_r63_c4d_38 {Dy : jH → Prop} {h0 : jH} {Q : Option Value → jH → Prop} {dr : jW} (hD : jDk Dy) (hQ : ∀ hx9, jJ jSgX Dy hx9 → jSm fp_X8_put_r63_c4d h0 hx9 → dr = vw hx9 → Q none hx9) : ∀ (h : jH), jJ jSgX Dy h → jSm fp_X8_put_r63_c4d h0 h → d_X8_put_r63_c4d_38  (vw h) = dr → jX m_X8_put 1 0 0 38 [] [] h 0 0 Q := by
  intro  h    J Sm D
  unfold d_X8_put_r63_c4d_38 at D
  refine x_vret rfl rfl ?_
  exact hQ _ J Sm D.symm
set_option maxRecDepth 100000 in
set_option maxHeartbeats 4000000 in
theorem sf_X8_put_r63_c4d {Dy : jH → Prop} {h : jH} {Q : Option Value → jH → Prop} {dr : jW} {a1 : Int32} {a3 : Int32} (y1 : 0 ≤ a1.toInt ∧ a1.toInt ≤ 369) (y3 : 0 ≤ a3.toInt ∧ a3.toInt ≤ 0) (hD : jDk Dy) (J : jJ jSgX Dy h) (D : d_X8_put_r63_c4d a1.toInt a3.toInt (vw h) = dr) (hQ : ∀ hx9, jJ jSgX Dy hx9 → jSm fp_X8_put_r63_c4d h hx9 → dr = vw hx9 → Q none hx9) : jC m_X8_put 1 0 0 [.ref 63, .int a1, .int 4, .int a3] h Q := by
  refine jC.of rfl k_X8_put rfl ?_
  have Sm := jSm_rf fp_X8_put_r63_c4d h
  show jX m_X8_put 1 0 0 0 [(0, .ref 63), (1, .int a1), (2, .int 4), (3, .int a3)] [] _ 0 0 _
  unfold d_X8_put_r63_c4d at D
  refine x_iloadn (x := a1) rfl rfl ?_
  refine x_iflt (tgt := 38) rfl rfl (ti_lt rfl jk_0 (br_f (by omega) ?_))
  refine x_iloadn (x := a1) rfl rfl ?_
  refine x_aloadn (x := 63) rfl rfl ?_
  refine z_getI (N := 4) 8 3 rfl f_8_7 rfl J rfl sg_63_3_4_1_0_1 (fun v1 qv1 ev1 => ?_)
  try rw [vrf qv1] at D
  refine x_icge (tgt := 38) rfl rfl (ti_ge rfl rfl ⟨fun c2 => ?_, fun c2 => ?_⟩)
  ·
    rw [if_pos (by omega)] at D
    exact jX.sub jsb_n (ct_X8_put_r63_c4d_38 hD hQ  h J Sm D)
  ·
    rw [if_neg (by omega)] at D
    refine x_iloadn (x := 4) rfl rfl ?_
    refine x_iflt (tgt := 38) rfl rfl (ti_lt jk_4 jk_0 (br_f (by omega) ?_))
    refine x_iloadn (x := 4) rfl rfl ?_
    refine x_aloadn (x := 63) rfl rfl ?_
    refine z_getC (N := 4) (v := 2) 8 0 rfl f_8_19 rfl J rfl sg_63_0_1_1_0_1 jk_2 ?_
    refine x_icge (tgt := 38) rfl rfl (ti_ge jk_4 jk_2 (br_t (by omega) ?_))
    exact jX.sub jsb_n (ct_X8_put_r63_c4d_38 hD hQ  h J Sm D)
def fp_X8_put_r63_c5d : jFp := []
set_option maxRecDepth 100000 in
set_option maxHeartbeats 4000000 in
theorem ct_X8_put_r63_c5d_38 {Dy : jH → Prop} {h0 : jH} {Q : Option Value → jH → Prop} {dr : jW} (hD : jDk Dy) (hQ : ∀ hx9, jJ jSgX Dy hx9 → jSm fp_X8_put_r63_c5d h0 hx9 → dr = vw hx9 → Q none hx9) : ∀ (h : jH), jJ jSgX Dy h → jSm fp_X8_put_r63_c5d h0 h → d_X8_put_r63_c5d_38  (vw h) = dr → jX m_X8_put 1 0 0 38 [] [] h 0 0 Q := by
  intro  h    J Sm D
  unfold d_X8_put_r63_c5d_38 at D
  refine x_vret rfl rfl ?_
  exact hQ _ J Sm D.symm
set_option maxRecDepth 100000 in
set_option maxHeartbeats 4000000 in
theorem sf_X8_put_r63_c5d {Dy : jH → Prop} {h : jH} {Q : Option Value → jH → Prop} {dr : jW} {a1 : Int32} {a3 : Int32} (y1 : 0 ≤ a1.toInt ∧ a1.toInt ≤ 369) (y3 : 0 ≤ a3.toInt ∧ a3.toInt ≤ 0) (hD : jDk Dy) (J : jJ jSgX Dy h) (D : d_X8_put_r63_c5d a1.toInt a3.toInt (vw h) = dr) (hQ : ∀ hx9, jJ jSgX Dy hx9 → jSm fp_X8_put_r63_c5d h hx9 → dr = vw hx9 → Q none hx9) : jC m_X8_put 1 0 0 [.ref 63, .int a1, .int 5, .int a3] h Q := by
  refine jC.of rfl k_X8_put rfl ?_
  have Sm := jSm_rf fp_X8_put_r63_c5d h
  show jX m_X8_put 1 0 0 0 [(0, .ref 63), (1, .int a1), (2, .int 5), (3, .int a3)] [] _ 0 0 _
  unfold d_X8_put_r63_c5d at D
  refine x_iloadn (x := a1) rfl rfl ?_
  refine x_iflt (tgt := 38) rfl rfl (ti_lt rfl jk_0 (br_f (by omega) ?_))
  refine x_iloadn (x := a1) rfl rfl ?_
  refine x_aloadn (x := 63) rfl rfl ?_
  refine z_getI (N := 4) 8 3 rfl f_8_7 rfl J rfl sg_63_3_4_1_0_1 (fun v1 qv1 ev1 => ?_)
  try rw [vrf qv1] at D
  refine x_icge (tgt := 38) rfl rfl (ti_ge rfl rfl ⟨fun c2 => ?_, fun c2 => ?_⟩)
  ·
    rw [if_pos (by omega)] at D
    exact jX.sub jsb_n (ct_X8_put_r63_c5d_38 hD hQ  h J Sm D)
  ·
    rw [if_neg (by omega)] at D
    refine x_iloadn (x := 5) rfl rfl ?_
    refine x_iflt (tgt := 38) rfl rfl (ti_lt jk_5 jk_0 (br_f (by omega) ?_))
    refine x_iloadn (x := 5) rfl rfl ?_
    refine x_aloadn (x := 63) rfl rfl ?_
    refine z_getC (N := 4) (v := 2) 8 0 rfl f_8_19 rfl J rfl sg_63_0_1_1_0_1 jk_2 ?_
    refine x_icge (tgt := 38) rfl rfl (ti_ge jk_5 jk_2 (br_t (by omega) ?_))
    exact jX.sub jsb_n (ct_X8_put_r63_c5d_38 hD hQ  h J Sm D)
def fp_X8_add_r63d : jFp := [(63, 3, 4), (64, 0, 740)]
set_option maxRecDepth 100000 in
set_option maxHeartbeats 4000000 in
theorem sf_X8_add_r63d {Dy : jH → Prop} {h : jH} {Q : Option Value → jH → Prop} {dr : jW} {a1 : Int32} {a2 : Int32} {a3 : Int32} {a4 : Int32} {a5 : Int32} {a6 : Int32} (y1 : 0 ≤ a1.toInt ∧ a1.toInt ≤ 3) (y2 : 0 ≤ a2.toInt ∧ a2.toInt ≤ 200) (y3 : 0 ≤ a3.toInt ∧ a3.toInt ≤ 0) (y4 : 0 ≤ a4.toInt ∧ a4.toInt ≤ 0) (y5 : 0 ≤ a5.toInt ∧ a5.toInt ≤ 0) (y6 : 0 ≤ a6.toInt ∧ a6.toInt ≤ 0) (hD : jDk Dy) (J : jJ jSgX Dy h) (D : d_X8_add_r63d a1.toInt a2.toInt a3.toInt a4.toInt a5.toInt a6.toInt (vw h) = dr) (hQ : ∀ hx9, jJ jSgX Dy hx9 → jSm fp_X8_add_r63d h hx9 → dr = vw hx9 → Q none hx9) : jC m_X8_add 2 0 0 [.ref 63, .int a1, .int a2, .int a3, .int a4, .int a5, .int a6] h Q := by
  refine jC.of rfl k_X8_add rfl ?_
  have Sm := jSm_rf fp_X8_add_r63d h
  show jX m_X8_add 2 0 0 0 [(0, .ref 63), (1, .int a1), (2, .int a2), (3, .int a3), (4, .int a4), (5, .int a5), (6, .int a6)] [] _ 0 0 _
  unfold d_X8_add_r63d at D
  refine x_aloadn (x := 63) rfl rfl ?_
  refine z_getI (N := 4) 8 3 rfl f_8_7 rfl J rfl sg_63_3_4_1_0_1 (fun v1 qv1 ev1 => ?_)
  try rw [vrf qv1] at D
  refine x_aloadn (x := 63) rfl rfl ?_
  refine z_getC (N := 4) (v := 370) 8 1 rfl f_8_22 rfl J rfl sg_63_1_2_1_0_1 jk_370 ?_
  refine x_iclt (tgt := 12) rfl rfl (ti_lt rfl jk_370 ⟨fun c2 => ?_, fun c2 => ?_⟩)
  ·
    rw [if_pos (by omega)] at D
    refine x_aloadn (x := 63) rfl rfl ?_
    refine z_getM (N := 4) (v := v1) 8 3 rfl f_8_7 rfl J rfl qv1 ?_
    refine x_istore (lsx9 := [(7, .int v1), (0, .ref 63), (1, .int a1), (2, .int a2), (3, .int a3), (4, .int a4), (5, .int a5), (6, .int a6)]) rfl rfl rfl ?_
    refine x_aloadn (x := 63) rfl rfl ?_
    refine x_iload (x := v1) rfl rfl ?_
    refine x_iconst (v := 1) rfl ki_1 ?_
    refine z_iadd rfl rfl jk_1 (by omega) (fun v3 ev3 => ?_)
    refine z_putI (N := 4) (w := v3.toInt) 8 3 rfl f_8_7 rfl (jfin_no TX8 RX8 4 rfl rfl) hD J Sm rfl rfl rfl (pw_63_3 (by omega)) rfl (fun h w4 J Sm => ?_)
    rw [vwf w4 (show (v1.toInt + 1) = v3.toInt from by omega)] at D
    refine x_aloadn (x := 63) rfl rfl ?_
    refine x_iload (x := v1) rfl rfl ?_
    refine x_iconst (v := 0) rfl ki_0 ?_
    refine x_iloadn (x := a1) rfl rfl ?_
    refine x_inv (N := m_X8_put) (As := [.int v1, .int 0, .int a1]) (b := 63) (st := []) (dx9 := 1) (mc := 0) (ms := 0) (host := "") 8 rfl t_X8_put ⟨Or.inl q_8_29, i_X8_put.1, i_X8_put.2⟩ ⟨by decide, rfl⟩ (congrArg Prod.fst (J.1.1 63 (8, 4) rfl)) rfl (by decide) rfl rfl ⟨by decide, by decide⟩ (sf_X8_put_r63_c0d (jr_of rfl (by omega)) (jr_of rfl (by omega)) hD J rfl  (fun h J S5 X6 => ?_))
    have Sm := jSm_tr rfl Sm S5
    rw [X6] at D
    show jX m_X8_add 2 0 0 34 [(7, .int v1), (0, .ref 63), (1, .int a1), (2, .int a2), (3, .int a3), (4, .int a4), (5, .int a5), (6, .int a6)] [] _ 0 0 _
    refine x_aloadn (x := 63) rfl rfl ?_
    refine x_iload (x := v1) rfl rfl ?_
    refine x_iconst (v := 1) rfl ki_1 ?_
    refine x_iloadn (x := a2) rfl rfl ?_
    refine x_inv (N := m_X8_put) (As := [.int v1, .int 1, .int a2]) (b := 63) (st := []) (dx9 := 1) (mc := 0) (ms := 0) (host := "") 8 rfl t_X8_put ⟨Or.inl q_8_29, i_X8_put.1, i_X8_put.2⟩ ⟨by decide, rfl⟩ (congrArg Prod.fst (J.1.1 63 (8, 4) rfl)) rfl (by decide) rfl rfl ⟨by decide, by decide⟩ (sf_X8_put_r63_c1d (jr_of rfl (by omega)) (jr_of rfl (by omega)) hD J rfl  (fun h J S7 X8 => ?_))
    have Sm := jSm_tr rfl Sm S7
    rw [X8] at D
    show jX m_X8_add 2 0 0 42 [(7, .int v1), (0, .ref 63), (1, .int a1), (2, .int a2), (3, .int a3), (4, .int a4), (5, .int a5), (6, .int a6)] [] _ 0 0 _
    refine x_aloadn (x := 63) rfl rfl ?_
    refine x_iload (x := v1) rfl rfl ?_
    refine x_iconst (v := 2) rfl ki_2 ?_
    refine x_iloadn (x := a3) rfl rfl ?_
    refine x_inv (N := m_X8_put) (As := [.int v1, .int 2, .int a3]) (b := 63) (st := []) (dx9 := 1) (mc := 0) (ms := 0) (host := "") 8 rfl t_X8_put ⟨Or.inl q_8_29, i_X8_put.1, i_X8_put.2⟩ ⟨by decide, rfl⟩ (congrArg Prod.fst (J.1.1 63 (8, 4) rfl)) rfl (by decide) rfl rfl ⟨by decide, by decide⟩ (sf_X8_put_r63_c2d (jr_of rfl (by omega)) (jr_of rfl (by omega)) hD J rfl  (fun h J S9 X10 => ?_))
    have Sm := jSm_tr rfl Sm S9
    rw [X10] at D
    show jX m_X8_add 2 0 0 50 [(7, .int v1), (0, .ref 63), (1, .int a1), (2, .int a2), (3, .int a3), (4, .int a4), (5, .int a5), (6, .int a6)] [] _ 0 0 _
    refine x_aloadn (x := 63) rfl rfl ?_
    refine x_iload (x := v1) rfl rfl ?_
    refine x_iconst (v := 3) rfl ki_3 ?_
    refine x_iload (x := a4) rfl rfl ?_
    refine x_inv (N := m_X8_put) (As := [.int v1, .int 3, .int a4]) (b := 63) (st := []) (dx9 := 1) (mc := 0) (ms := 0) (host := "") 8 rfl t_X8_put ⟨Or.inl q_8_29, i_X8_put.1, i_X8_put.2⟩ ⟨by decide, rfl⟩ (congrArg Prod.fst (J.1.1 63 (8, 4) rfl)) rfl (by decide) rfl rfl ⟨by decide, by decide⟩ (sf_X8_put_r63_c3d (jr_of rfl (by omega)) (jr_of rfl (by omega)) hD J rfl  (fun h J S11 X12 => ?_))
    have Sm := jSm_tr rfl Sm S11
    rw [X12] at D
    show jX m_X8_add 2 0 0 59 [(7, .int v1), (0, .ref 63), (1, .int a1), (2, .int a2), (3, .int a3), (4, .int a4), (5, .int a5), (6, .int a6)] [] _ 0 0 _
    refine x_aloadn (x := 63) rfl rfl ?_
    refine x_iload (x := v1) rfl rfl ?_
    refine x_iconst (v := 4) rfl ki_4 ?_
    refine x_iload (x := a5) rfl rfl ?_
    refine x_inv (N := m_X8_put) (As := [.int v1, .int 4, .int a5]) (b := 63) (st := []) (dx9 := 1) (mc := 0) (ms := 0) (host := "") 8 rfl t_X8_put ⟨Or.inl q_8_29, i_X8_put.1, i_X8_put.2⟩ ⟨by decide, rfl⟩ (congrArg Prod.fst (J.1.1 63 (8, 4) rfl)) rfl (by decide) rfl rfl ⟨by decide, by decide⟩ (sf_X8_put_r63_c4d (jr_of rfl (by omega)) (jr_of rfl (by omega)) hD J rfl  (fun h J S13 X14 => ?_))
    have Sm := jSm_tr rfl Sm S13
    rw [X14] at D
    show jX m_X8_add 2 0 0 68 [(7, .int v1), (0, .ref 63), (1, .int a1), (2, .int a2), (3, .int a3), (4, .int a4), (5, .int a5), (6, .int a6)] [] _ 0 0 _
    refine x_aloadn (x := 63) rfl rfl ?_
    refine x_iload (x := v1) rfl rfl ?_
    refine x_iconst (v := 5) rfl ki_5 ?_
    refine x_iload (x := a6) rfl rfl ?_
    refine x_inv (N := m_X8_put) (As := [.int v1, .int 5, .int a6]) (b := 63) (st := []) (dx9 := 1) (mc := 0) (ms := 0) (host := "") 8 rfl t_X8_put ⟨Or.inl q_8_29, i_X8_put.1, i_X8_put.2⟩ ⟨by decide, rfl⟩ (congrArg Prod.fst (J.1.1 63 (8, 4) rfl)) rfl (by decide) rfl rfl ⟨by decide, by decide⟩ (sf_X8_put_r63_c5d (jr_of rfl (by omega)) (jr_of rfl (by omega)) hD J rfl  (fun h J S15 X16 => ?_))
    have Sm := jSm_tr rfl Sm S15
    rw [X16] at D
    show jX m_X8_add 2 0 0 77 [(7, .int v1), (0, .ref 63), (1, .int a1), (2, .int a2), (3, .int a3), (4, .int a4), (5, .int a5), (6, .int a6)] [] _ 0 0 _
    refine x_vret rfl rfl ?_
    exact hQ _ J Sm D.symm
  ·
    rw [if_neg (by omega)] at D
    refine x_vret rfl rfl ?_
    exact hQ _ J Sm D.symm
def fp_X8_isFull_r43d : jFp := []
set_option maxRecDepth 100000 in
set_option maxHeartbeats 4000000 in
theorem ct_X8_isFull_r43d_200016 {Dy : jH → Prop} {h0 : jH} {Q : Option Value → jH → Prop} {dr : Int} (hD : jDk Dy) (hQ : ∀ (v : Int32) hx9, 0 ≤ v.toInt ∧ v.toInt ≤ 1 → jJ jSgX Dy hx9 → jSm fp_X8_isFull_r43d h0 hx9 → dr = v.toInt → vw hx9 = vw h0 → Q (some (.int v)) hx9) : ∀ (h : jH), jJ jSgX Dy h → jSm fp_X8_isFull_r43d h0 h → d_X8_isFull_r43d_200016  (vw h) = dr → vw h = vw h0 → jX m_X8_isFull 1 0 0 16 [] [.int 0] h 0 0 Q := by
  intro  h    J Sm D EV
  unfold d_X8_isFull_r43d_200016 at D
  refine x_zret rfl rfl (by decide) ?_
  exact hQ _ _ (jr_of jk_0 (by omega)) J Sm (D.symm.trans (show 0 = (0 : Int32).toInt from by have := jk_0; omega)) EV
set_option maxRecDepth 100000 in
set_option maxHeartbeats 4000000 in
theorem ct_X8_isFull_r43d_300016 {Dy : jH → Prop} {h0 : jH} {Q : Option Value → jH → Prop} {dr : Int} (hD : jDk Dy) (hQ : ∀ (v : Int32) hx9, 0 ≤ v.toInt ∧ v.toInt ≤ 1 → jJ jSgX Dy hx9 → jSm fp_X8_isFull_r43d h0 hx9 → dr = v.toInt → vw hx9 = vw h0 → Q (some (.int v)) hx9) : ∀ (h : jH), jJ jSgX Dy h → jSm fp_X8_isFull_r43d h0 h → d_X8_isFull_r43d_300016  (vw h) = dr → vw h = vw h0 → jX m_X8_isFull 1 0 0 16 [] [.int 1] h 0 0 Q := by
  intro  h    J Sm D EV
  unfold d_X8_isFull_r43d_300016 at D
  refine x_zret rfl rfl (by decide) ?_
  exact hQ _ _ (jr_of jk_1 (by omega)) J Sm (D.symm.trans (show 1 = (1 : Int32).toInt from by have := jk_1; omega)) EV
set_option maxRecDepth 100000 in
set_option maxHeartbeats 4000000 in
theorem sf_X8_isFull_r43d {Dy : jH → Prop} {h : jH} {Q : Option Value → jH → Prop} {dr : Int} (hD : jDk Dy) (J : jJ jSgX Dy h) (D : d_X8_isFull_r43d (vw h) = dr) (hQ : ∀ (v : Int32) hx9, 0 ≤ v.toInt ∧ v.toInt ≤ 1 → jJ jSgX Dy hx9 → jSm fp_X8_isFull_r43d h hx9 → dr = v.toInt → vw hx9 = vw h → Q (some (.int v)) hx9) : jC m_X8_isFull 1 0 0 [.ref 43] h Q := by
  refine jC.of rfl k_X8_isFull rfl ?_
  have Sm := jSm_rf fp_X8_isFull_r43d h
  show jX m_X8_isFull 1 0 0 0 [(0, .ref 43)] [] _ 0 0 _
  unfold d_X8_isFull_r43d at D
  have EV : vw h = vw h := rfl
  refine x_aloadn (x := 43) rfl rfl ?_
  refine z_getI (N := 4) 8 3 rfl f_8_7 rfl J rfl sg_43_3_4_1_0_1 (fun v1 qv1 ev1 => ?_)
  try rw [vrf qv1] at D
  refine x_aloadn (x := 43) rfl rfl ?_
  refine z_getC (N := 4) (v := 100) 8 1 rfl f_8_22 rfl J rfl sg_43_1_2_1_0_1 jk_100 ?_
  refine x_iclt (tgt := 15) rfl rfl (ti_lt rfl jk_100 ⟨fun c2 => ?_, fun c2 => ?_⟩)
  ·
    rw [if_pos (by omega)] at D
    refine x_iconst (v := 0) rfl ki_0 ?_
    exact jX.sub jsb_n (ct_X8_isFull_r43d_200016 hD hQ  h J Sm D EV)
  ·
    rw [if_neg (by omega)] at D
    refine x_iconst (v := 1) rfl ki_1 ?_
    refine x_goto (tgt := 16) rfl rfl ?_
    exact jX.sub jsb_n (ct_X8_isFull_r43d_300016 hD hQ  h J Sm D EV)
def fp_X11_fact_r31d : jFp := [(31, 12, 13), (32, 19, 20), (43, 3, 4), (44, 0, 600), (63, 3, 4), (64, 0, 740)]
set_option maxRecDepth 100000 in
set_option maxHeartbeats 4000000 in
theorem ct_X11_fact_r31d_50 {Dy : jH → Prop} {h0 : jH} {Q : Option Value → jH → Prop} {dr : (Int × jW)} (hD : jDk Dy) (hQ : ∀ (v : Int32) hx9, (-366) ≤ v.toInt ∧ v.toInt ≤ 100 → jJ jSgX Dy hx9 → jSm fp_X11_fact_r31d h0 hx9 → dr.1 = v.toInt → dr.2 = vw hx9 → Q (some (.int v)) hx9) : ∀ (h : jH), jJ jSgX Dy h → jSm fp_X11_fact_r31d h0 h → d_X11_fact_r31d_50  (vw h) = dr → jX m_X11_fact 3 0 0 50 [(0, .ref 31)] [] h 0 0 Q := by
  intro  h    J Sm D
  unfold d_X11_fact_r31d_50 at D
  refine x_aloadn (x := 31) rfl rfl ?_
  refine x_iconst (v := (-1)) rfl ki_m1 ?_
  refine x_inv (N := m_X11_refuse) (As := [.int (-1)]) (b := 31) (st := []) (dx9 := 2) (mc := 0) (ms := 0) (host := "") 11 rfl t_X11_refuse ⟨Or.inl q_11_206, i_X11_refuse.1, i_X11_refuse.2⟩ ⟨by decide, rfl⟩ (congrArg Prod.fst (J.1.1 31 (11, 13) rfl)) rfl (by decide) rfl rfl ⟨by decide, by decide⟩ (jC.of rfl k_X11_refuse rfl ?_)
  show jX m_X11_refuse 2 0 0 0 [(0, .ref 31), (1, .int (-1))] [] _ 0 0 _
  refine x_aloadn (x := 31) rfl rfl ?_
  refine x_iloadn (x := (-1)) rfl rfl ?_
  refine z_putI (N := 13) (w := (-1)) 11 12 rfl f_11_94 rfl (jfin_no TX11 RX11 13 rfl rfl) hD J Sm rfl rfl jk_m1 (pw_31_12 (by omega)) rfl (fun h w1 J Sm => ?_)
  rw [vwf w1 (show (-1) = ((-1) : Int32).toInt from by have := jk_m1; omega)] at D
  refine x_iloadn (x := (-1)) rfl rfl ?_
  refine x_iret rfl rfl ?_
  show jX m_X11_fact 3 0 0 55 [(0, .ref 31)] [.int (-1)] _ 0 0 _
  refine x_iret rfl rfl ?_
  exact hQ _ _ (jr_of jk_m1 (by omega)) J Sm ((congrArg Prod.fst D).symm.trans (show (-1) = ((-1) : Int32).toInt from by have := jk_m1; omega)) (congrArg Prod.snd D).symm
set_option maxRecDepth 100000 in
set_option maxHeartbeats 4000000 in
theorem sf_X11_fact_r31d {Dy : jH → Prop} {h : jH} {Q : Option Value → jH → Prop} {dr : (Int × jW)} {a1 : Int32} {a2 : Int32} {a3 : Int32} {a4 : Int32} {a5 : Int32} {a6 : Int32} (hD : jDk Dy) (J : jJ jSgX Dy h) (D : d_X11_fact_r31d a1.toInt a2.toInt a3.toInt a4.toInt a5.toInt a6.toInt (vw h) = dr) (hQ : ∀ (v : Int32) hx9, (-366) ≤ v.toInt ∧ v.toInt ≤ 100 → jJ jSgX Dy hx9 → jSm fp_X11_fact_r31d h hx9 → dr.1 = v.toInt → dr.2 = vw hx9 → Q (some (.int v)) hx9) : jC m_X11_fact 3 0 0 [.ref 31, .int a1, .int a2, .int a3, .int a4, .int a5, .int a6] h Q := by
  refine jC.of rfl k_X11_fact rfl ?_
  have Sm := jSm_rf fp_X11_fact_r31d h
  have ea1 := jfull a1
  have ea2 := jfull a2
  have ea3 := jfull a3
  have ea4 := jfull a4
  have ea5 := jfull a5
  have ea6 := jfull a6
  show jX m_X11_fact 3 0 0 0 [(0, .ref 31), (1, .int a1), (2, .int a2), (3, .int a3), (4, .int a4), (5, .int a5), (6, .int a6)] [] _ 0 0 _
  unfold d_X11_fact_r31d at D
  refine x_iloadn (x := a2) rfl rfl ?_
  refine x_iflt (tgt := 50) rfl rfl (ti_lt rfl jk_0 ⟨fun c1 => ?_, fun c1 => ?_⟩)
  ·
    rw [if_pos (by omega)] at D
    exact jX.sub (jsb_c rfl jsb_n) (ct_X11_fact_r31d_50 hD hQ  h J Sm D)
  ·
    rw [if_neg (by omega)] at D
    refine x_iloadn (x := a2) rfl rfl ?_
    refine x_iconst (v := 4) rfl ki_4 ?_
    refine x_icgt (tgt := 50) rfl rfl (ti_gt rfl jk_4 ⟨fun c2 => ?_, fun c2 => ?_⟩)
    ·
      rw [if_pos (by omega)] at D
      exact jX.sub (jsb_c rfl jsb_n) (ct_X11_fact_r31d_50 hD hQ  h J Sm D)
    ·
      rw [if_neg (by omega)] at D
      refine x_iloadn (x := a3) rfl rfl ?_
      refine x_iflt (tgt := 50) rfl rfl (ti_lt rfl jk_0 ⟨fun c3 => ?_, fun c3 => ?_⟩)
      ·
        rw [if_pos (by omega)] at D
        exact jX.sub (jsb_c rfl jsb_n) (ct_X11_fact_r31d_50 hD hQ  h J Sm D)
      ·
        rw [if_neg (by omega)] at D
        refine x_iloadn (x := a3) rfl rfl ?_
        refine x_bipush (v := 11) rfl kb_11 ?_
        refine x_icgt (tgt := 50) rfl rfl (ti_gt rfl jk_11 ⟨fun c4 => ?_, fun c4 => ?_⟩)
        ·
          rw [if_pos (by omega)] at D
          exact jX.sub (jsb_c rfl jsb_n) (ct_X11_fact_r31d_50 hD hQ  h J Sm D)
        ·
          rw [if_neg (by omega)] at D
          refine x_iload (x := a4) rfl rfl ?_
          refine x_inst (N := m_X11_isDay) (As := [.int a4]) (st := []) (dx9 := 1) (mc := 0) (ms := 0) (host := "") rfl t_X11_isDay ⟨Or.inl q_11_115, s_X11_isDay⟩ rfl (by decide) rfl rfl ⟨by decide, by decide⟩ (zc_X11_isDay rfl (fun v5 ev5 => ?_))
          show jX m_X11_fact 3 0 0 24 [(0, .ref 31), (1, .int a1), (2, .int a2), (3, .int a3), (4, .int a4), (5, .int a5), (6, .int a6)] [.int v5] _ 0 0 _
          refine x_ifeq (tgt := 50) rfl rfl (ti_eq rfl jk_0 ⟨fun c6 => ?_, fun c6 => ?_⟩)
          ·
            rw [if_neg (by omega)] at D
            exact jX.sub (jsb_c rfl jsb_n) (ct_X11_fact_r31d_50 hD hQ  h J Sm D)
          ·
            rw [if_pos (by omega)] at D
            refine x_iload (x := a5) rfl rfl ?_
            refine x_inst (N := m_X11_isDay) (As := [.int a5]) (st := []) (dx9 := 1) (mc := 0) (ms := 0) (host := "") rfl t_X11_isDay ⟨Or.inl q_11_115, s_X11_isDay⟩ rfl (by decide) rfl rfl ⟨by decide, by decide⟩ (zc_X11_isDay rfl (fun v7 ev7 => ?_))
            show jX m_X11_fact 3 0 0 32 [(0, .ref 31), (1, .int a1), (2, .int a2), (3, .int a3), (4, .int a4), (5, .int a5), (6, .int a6)] [.int v7] _ 0 0 _
            refine x_ifeq (tgt := 50) rfl rfl (ti_eq rfl jk_0 ⟨fun c8 => ?_, fun c8 => ?_⟩)
            ·
              rw [if_neg (by omega)] at D
              exact jX.sub (jsb_c rfl jsb_n) (ct_X11_fact_r31d_50 hD hQ  h J Sm D)
            ·
              rw [if_pos (by omega)] at D
              refine x_iload (x := a5) rfl rfl ?_
              refine x_iload (x := a4) rfl rfl ?_
              refine x_iclt (tgt := 50) rfl rfl (ti_lt rfl rfl ⟨fun c9 => ?_, fun c9 => ?_⟩)
              ·
                rw [if_pos (by omega)] at D
                exact jX.sub (jsb_c rfl jsb_n) (ct_X11_fact_r31d_50 hD hQ  h J Sm D)
              ·
                rw [if_neg (by omega)] at D
                refine x_iload (x := a6) rfl rfl ?_
                refine x_inst (N := m_X11_isDay) (As := [.int a6]) (st := []) (dx9 := 1) (mc := 0) (ms := 0) (host := "") rfl t_X11_isDay ⟨Or.inl q_11_115, s_X11_isDay⟩ rfl (by decide) rfl rfl ⟨by decide, by decide⟩ (zc_X11_isDay rfl (fun v10 ev10 => ?_))
                show jX m_X11_fact 3 0 0 47 [(0, .ref 31), (1, .int a1), (2, .int a2), (3, .int a3), (4, .int a4), (5, .int a5), (6, .int a6)] [.int v10] _ 0 0 _
                refine x_ifne (tgt := 56) rfl rfl (ti_ne rfl jk_0 ⟨fun c11 => ?_, fun c11 => ?_⟩)
                ·
                  rw [if_pos (by omega)] at D
                  refine x_aloadn (x := 31) rfl rfl ?_
                  refine z_getR (N := 13) (b := 78) 11 4 rfl f_11_41 rfl J rfl 3972 ⟨rfl, rfl⟩ rfl ?_
                  refine x_iloadn (x := a1) rfl rfl ?_
                  refine x_inv (N := m_X7_isMention) (As := [.int a1]) (b := 78) (st := []) (dx9 := 2) (mc := 0) (ms := 0) (host := "") 7 rfl t_X7_isMention ⟨Or.inl q_11_187, i_X7_isMention.1, i_X7_isMention.2⟩ ⟨by decide, rfl⟩ (congrArg Prod.fst (J.1.1 78 (7, 16) rfl)) rfl (by decide) rfl rfl ⟨by decide, by decide⟩ (jC.of rfl k_X7_isMention rfl ?_)
                  show jX m_X7_isMention 2 0 0 0 [(0, .ref 78), (1, .int a1)] [] _ 0 0 _
                  refine x_iloadn (x := a1) rfl rfl ?_
                  refine x_iflt (tgt := 41) rfl rfl (ti_lt rfl jk_0 ⟨fun c12 => ?_, fun c12 => ?_⟩)
                  ·
                    rw [if_pos (by omega)] at D
                    refine x_iconst (v := 0) rfl ki_0 ?_
                    refine x_zret rfl rfl (by decide) ?_
                    show jX m_X11_fact 3 0 0 64 [(0, .ref 31), (1, .int a1), (2, .int a2), (3, .int a3), (4, .int a4), (5, .int a5), (6, .int a6)] [.int 0] _ 0 0 _
                    refine x_ifne (tgt := 74) rfl rfl (ti_ne jk_0 jk_0 (bn_f (by omega) ?_))
                    refine x_aloadn (x := 31) rfl rfl ?_
                    refine x_bipush (v := (-2)) rfl kb_m2 ?_
                    refine x_inv (N := m_X11_refuse) (As := [.int (-2)]) (b := 31) (st := []) (dx9 := 2) (mc := 0) (ms := 0) (host := "") 11 rfl t_X11_refuse ⟨Or.inl q_11_206, i_X11_refuse.1, i_X11_refuse.2⟩ ⟨by decide, rfl⟩ (congrArg Prod.fst (J.1.1 31 (11, 13) rfl)) rfl (by decide) rfl rfl ⟨by decide, by decide⟩ (jC.of rfl k_X11_refuse rfl ?_)
                    show jX m_X11_refuse 2 0 0 0 [(0, .ref 31), (1, .int (-2))] [] _ 0 0 _
                    refine x_aloadn (x := 31) rfl rfl ?_
                    refine x_iloadn (x := (-2)) rfl rfl ?_
                    refine z_putI (N := 13) (w := (-2)) 11 12 rfl f_11_94 rfl (jfin_no TX11 RX11 13 rfl rfl) hD J Sm rfl rfl jk_m2 (pw_31_12 (by omega)) rfl (fun h w13 J Sm => ?_)
                    rw [vwf w13 (show (-2) = ((-2) : Int32).toInt from by have := jk_m2; omega)] at D
                    refine x_iloadn (x := (-2)) rfl rfl ?_
                    refine x_iret rfl rfl ?_
                    show jX m_X11_fact 3 0 0 73 [(0, .ref 31), (1, .int a1), (2, .int a2), (3, .int a3), (4, .int a4), (5, .int a5), (6, .int a6)] [.int (-2)] _ 0 0 _
                    refine x_iret rfl rfl ?_
                    exact hQ _ _ (jr_of jk_m2 (by omega)) J Sm ((congrArg Prod.fst D).symm.trans (show (-2) = ((-2) : Int32).toInt from by have := jk_m2; omega)) (congrArg Prod.snd D).symm
                  ·
                    rw [if_neg (by omega)] at D
                    refine x_iloadn (x := a1) rfl rfl ?_
                    refine x_sipush (v := 600) rfl ks_600 ?_
                    refine x_icge (tgt := 41) rfl rfl (ti_ge rfl jk_600 ⟨fun c14 => ?_, fun c14 => ?_⟩)
                    ·
                      rw [if_pos (by omega)] at D
                      refine x_iconst (v := 0) rfl ki_0 ?_
                      refine x_zret rfl rfl (by decide) ?_
                      show jX m_X11_fact 3 0 0 64 [(0, .ref 31), (1, .int a1), (2, .int a2), (3, .int a3), (4, .int a4), (5, .int a5), (6, .int a6)] [.int 0] _ 0 0 _
                      refine x_ifne (tgt := 74) rfl rfl (ti_ne jk_0 jk_0 (bn_f (by omega) ?_))
                      refine x_aloadn (x := 31) rfl rfl ?_
                      refine x_bipush (v := (-2)) rfl kb_m2 ?_
                      refine x_inv (N := m_X11_refuse) (As := [.int (-2)]) (b := 31) (st := []) (dx9 := 2) (mc := 0) (ms := 0) (host := "") 11 rfl t_X11_refuse ⟨Or.inl q_11_206, i_X11_refuse.1, i_X11_refuse.2⟩ ⟨by decide, rfl⟩ (congrArg Prod.fst (J.1.1 31 (11, 13) rfl)) rfl (by decide) rfl rfl ⟨by decide, by decide⟩ (jC.of rfl k_X11_refuse rfl ?_)
                      show jX m_X11_refuse 2 0 0 0 [(0, .ref 31), (1, .int (-2))] [] _ 0 0 _
                      refine x_aloadn (x := 31) rfl rfl ?_
                      refine x_iloadn (x := (-2)) rfl rfl ?_
                      refine z_putI (N := 13) (w := (-2)) 11 12 rfl f_11_94 rfl (jfin_no TX11 RX11 13 rfl rfl) hD J Sm rfl rfl jk_m2 (pw_31_12 (by omega)) rfl (fun h w15 J Sm => ?_)
                      rw [vwf w15 (show (-2) = ((-2) : Int32).toInt from by have := jk_m2; omega)] at D
                      refine x_iloadn (x := (-2)) rfl rfl ?_
                      refine x_iret rfl rfl ?_
                      show jX m_X11_fact 3 0 0 73 [(0, .ref 31), (1, .int a1), (2, .int a2), (3, .int a3), (4, .int a4), (5, .int a5), (6, .int a6)] [.int (-2)] _ 0 0 _
                      refine x_iret rfl rfl ?_
                      exact hQ _ _ (jr_of jk_m2 (by omega)) J Sm ((congrArg Prod.fst D).symm.trans (show (-2) = ((-2) : Int32).toInt from by have := jk_m2; omega)) (congrArg Prod.snd D).symm
                    ·
                      rw [if_neg (by omega)] at D
                      refine x_iloadn (x := a1) rfl rfl ?_
                      refine x_iconst (v := 3) rfl ki_3 ?_
                      refine z_idiv rfl rfl jk_3 (by omega) (by omega) (fun v16 ev16 => ?_)
                      refine x_aloadn (x := 78) rfl rfl ?_
                      refine z_getR (N := 16) (b := 32) 7 0 rfl f_7_55 rfl J rfl 9984 ⟨rfl, rfl⟩ rfl ?_
                      refine z_getR (N := 20) (b := 33) 1 0 rfl f_7_63 rfl J rfl 4096 ⟨rfl, rfl⟩ rfl ?_
                      refine z_getI (N := 4) 8 3 rfl f_7_85 rfl J rfl sg_33_3_4_1_0_1 (fun v17 qv17 ev17 => ?_)
                      try rw [vrf qv17] at D
                      refine x_icge (tgt := 41) rfl rfl (ti_ge rfl rfl ⟨fun c18 => ?_, fun c18 => ?_⟩)
                      ·
                        rw [if_pos (by omega)] at D
                        refine x_iconst (v := 0) rfl ki_0 ?_
                        refine x_zret rfl rfl (by decide) ?_
                        show jX m_X11_fact 3 0 0 64 [(0, .ref 31), (1, .int a1), (2, .int a2), (3, .int a3), (4, .int a4), (5, .int a5), (6, .int a6)] [.int 0] _ 0 0 _
                        refine x_ifne (tgt := 74) rfl rfl (ti_ne jk_0 jk_0 (bn_f (by omega) ?_))
                        refine x_aloadn (x := 31) rfl rfl ?_
                        refine x_bipush (v := (-2)) rfl kb_m2 ?_
                        refine x_inv (N := m_X11_refuse) (As := [.int (-2)]) (b := 31) (st := []) (dx9 := 2) (mc := 0) (ms := 0) (host := "") 11 rfl t_X11_refuse ⟨Or.inl q_11_206, i_X11_refuse.1, i_X11_refuse.2⟩ ⟨by decide, rfl⟩ (congrArg Prod.fst (J.1.1 31 (11, 13) rfl)) rfl (by decide) rfl rfl ⟨by decide, by decide⟩ (jC.of rfl k_X11_refuse rfl ?_)
                        show jX m_X11_refuse 2 0 0 0 [(0, .ref 31), (1, .int (-2))] [] _ 0 0 _
                        refine x_aloadn (x := 31) rfl rfl ?_
                        refine x_iloadn (x := (-2)) rfl rfl ?_
                        refine z_putI (N := 13) (w := (-2)) 11 12 rfl f_11_94 rfl (jfin_no TX11 RX11 13 rfl rfl) hD J Sm rfl rfl jk_m2 (pw_31_12 (by omega)) rfl (fun h w19 J Sm => ?_)
                        rw [vwf w19 (show (-2) = ((-2) : Int32).toInt from by have := jk_m2; omega)] at D
                        refine x_iloadn (x := (-2)) rfl rfl ?_
                        refine x_iret rfl rfl ?_
                        show jX m_X11_fact 3 0 0 73 [(0, .ref 31), (1, .int a1), (2, .int a2), (3, .int a3), (4, .int a4), (5, .int a5), (6, .int a6)] [.int (-2)] _ 0 0 _
                        refine x_iret rfl rfl ?_
                        exact hQ _ _ (jr_of jk_m2 (by omega)) J Sm ((congrArg Prod.fst D).symm.trans (show (-2) = ((-2) : Int32).toInt from by have := jk_m2; omega)) (congrArg Prod.snd D).symm
                      ·
                        rw [if_neg (by omega)] at D
                        refine x_aloadn (x := 78) rfl rfl ?_
                        refine z_getR (N := 16) (b := 79) 7 7 rfl f_7_27 rfl J rfl 9991 ⟨rfl, rfl⟩ rfl ?_
                        refine x_iloadn (x := a1) rfl rfl ?_
                        refine z_iald (N := 600) rfl J rfl sg_79_0_600_1_0_1 rfl (by omega) (fun v20 qv20 ev20 => ?_)
                        try rw [vrd qv20 (show a1.toInt = a1.toInt from by omega)] at D
                        refine x_iconst (v := (-1)) rfl ki_m1 ?_
                        refine x_iceq (tgt := 41) rfl rfl (ti_eq rfl jk_m1 ⟨fun c21 => ?_, fun c21 => ?_⟩)
                        ·
                          rw [if_pos (by omega)] at D
                          refine x_iconst (v := 0) rfl ki_0 ?_
                          refine x_zret rfl rfl (by decide) ?_
                          show jX m_X11_fact 3 0 0 64 [(0, .ref 31), (1, .int a1), (2, .int a2), (3, .int a3), (4, .int a4), (5, .int a5), (6, .int a6)] [.int 0] _ 0 0 _
                          refine x_ifne (tgt := 74) rfl rfl (ti_ne jk_0 jk_0 (bn_f (by omega) ?_))
                          refine x_aloadn (x := 31) rfl rfl ?_
                          refine x_bipush (v := (-2)) rfl kb_m2 ?_
                          refine x_inv (N := m_X11_refuse) (As := [.int (-2)]) (b := 31) (st := []) (dx9 := 2) (mc := 0) (ms := 0) (host := "") 11 rfl t_X11_refuse ⟨Or.inl q_11_206, i_X11_refuse.1, i_X11_refuse.2⟩ ⟨by decide, rfl⟩ (congrArg Prod.fst (J.1.1 31 (11, 13) rfl)) rfl (by decide) rfl rfl ⟨by decide, by decide⟩ (jC.of rfl k_X11_refuse rfl ?_)
                          show jX m_X11_refuse 2 0 0 0 [(0, .ref 31), (1, .int (-2))] [] _ 0 0 _
                          refine x_aloadn (x := 31) rfl rfl ?_
                          refine x_iloadn (x := (-2)) rfl rfl ?_
                          refine z_putI (N := 13) (w := (-2)) 11 12 rfl f_11_94 rfl (jfin_no TX11 RX11 13 rfl rfl) hD J Sm rfl rfl jk_m2 (pw_31_12 (by omega)) rfl (fun h w22 J Sm => ?_)
                          rw [vwf w22 (show (-2) = ((-2) : Int32).toInt from by have := jk_m2; omega)] at D
                          refine x_iloadn (x := (-2)) rfl rfl ?_
                          refine x_iret rfl rfl ?_
                          show jX m_X11_fact 3 0 0 73 [(0, .ref 31), (1, .int a1), (2, .int a2), (3, .int a3), (4, .int a4), (5, .int a5), (6, .int a6)] [.int (-2)] _ 0 0 _
                          refine x_iret rfl rfl ?_
                          exact hQ _ _ (jr_of jk_m2 (by omega)) J Sm ((congrArg Prod.fst D).symm.trans (show (-2) = ((-2) : Int32).toInt from by have := jk_m2; omega)) (congrArg Prod.snd D).symm
                        ·
                          rw [if_neg (by omega)] at D
                          refine x_iconst (v := 1) rfl ki_1 ?_
                          refine x_goto (tgt := 42) rfl rfl ?_
                          refine x_zret rfl rfl (by decide) ?_
                          show jX m_X11_fact 3 0 0 64 [(0, .ref 31), (1, .int a1), (2, .int a2), (3, .int a3), (4, .int a4), (5, .int a5), (6, .int a6)] [.int 1] _ 0 0 _
                          refine x_ifne (tgt := 74) rfl rfl (ti_ne jk_1 jk_0 (bn_t (by omega) ?_))
                          refine x_aloadn (x := 31) rfl rfl ?_
                          refine z_getR (N := 13) (b := 32) 11 0 rfl f_11_10 rfl J rfl 3968 ⟨rfl, rfl⟩ rfl ?_
                          refine z_getR (N := 20) (b := 43) 1 5 rfl f_11_378 rfl J rfl 4101 ⟨rfl, rfl⟩ rfl ?_
                          refine x_inv (N := m_X8_isFull) (As := []) (b := 43) (st := []) (dx9 := 1) (mc := 0) (ms := 0) (host := "") 8 rfl t_X8_isFull ⟨Or.inl q_11_130, i_X8_isFull.1, i_X8_isFull.2⟩ ⟨by decide, rfl⟩ (congrArg Prod.fst (J.1.1 43 (8, 4) rfl)) rfl (by decide) rfl rfl ⟨by decide, by decide⟩ (sf_X8_isFull_r43d  hD J rfl  (fun v26 h ev26 J S23 X24 X25 => ?_))
                          have Sm := jSm_tr rfl Sm S23
                          try rw [X24] at D
                          try rw [← X25] at D
                          show jX m_X11_fact 3 0 0 84 [(0, .ref 31), (1, .int a1), (2, .int a2), (3, .int a3), (4, .int a4), (5, .int a5), (6, .int a6)] [.int v26] _ 0 0 _
                          refine x_ifeq (tgt := 94) rfl rfl (ti_eq rfl jk_0 ⟨fun c27 => ?_, fun c27 => ?_⟩)
                          ·
                            rw [if_pos (by omega)] at D
                            refine x_aloadn (x := 31) rfl rfl ?_
                            refine z_getR (N := 13) (b := 32) 11 0 rfl f_11_10 rfl J rfl 3968 ⟨rfl, rfl⟩ rfl ?_
                            refine z_getR (N := 20) (b := 63) 1 15 rfl f_11_159 rfl J rfl 4111 ⟨rfl, rfl⟩ rfl ?_
                            refine x_iconst (v := 2) rfl ki_2 ?_
                            refine x_aloadn (x := 31) rfl rfl ?_
                            refine z_getR (N := 13) (b := 32) 11 0 rfl f_11_10 rfl J rfl 3968 ⟨rfl, rfl⟩ rfl ?_
                            refine z_getR (N := 20) (b := 43) 1 5 rfl f_11_378 rfl J rfl 4101 ⟨rfl, rfl⟩ rfl ?_
                            refine z_getI (N := 4) 8 3 rfl f_11_142 rfl J rfl sg_43_3_4_1_0_1 (fun v28 qv28 ev28 => ?_)
                            try rw [vrf qv28] at D
                            refine x_iconst (v := 0) rfl ki_0 ?_
                            refine x_iconst (v := 0) rfl ki_0 ?_
                            refine x_iconst (v := 0) rfl ki_0 ?_
                            refine x_iconst (v := 0) rfl ki_0 ?_
                            refine x_inv (N := m_X8_add) (As := [.int 2, .int v28, .int 0, .int 0, .int 0, .int 0]) (b := 63) (st := []) (dx9 := 2) (mc := 0) (ms := 0) (host := "") 8 rfl t_X8_add ⟨Or.inl q_11_145, i_X8_add.1, i_X8_add.2⟩ ⟨by decide, rfl⟩ (congrArg Prod.fst (J.1.1 63 (8, 4) rfl)) rfl (by decide) rfl rfl ⟨by decide, by decide⟩ (sf_X8_add_r63d (jr_of jk_2 (by omega)) (jr_of rfl (by omega)) (jr_of jk_0 (by omega)) (jr_of jk_0 (by omega)) (jr_of jk_0 (by omega)) (jr_of jk_0 (by omega)) hD J rfl  (fun h J S29 X30 => ?_))
                            have Sm := jSm_tr rfl Sm S29
                            try rw [jk_2] at X30
                            try rw [jk_0] at X30
                            rw [X30] at D
                            show jX m_X11_fact 3 0 0 119 [(0, .ref 31), (1, .int a1), (2, .int a2), (3, .int a3), (4, .int a4), (5, .int a5), (6, .int a6)] [] _ 0 0 _
                            refine x_aloadn (x := 31) rfl rfl ?_
                            refine z_getR (N := 13) (b := 32) 11 0 rfl f_11_10 rfl J rfl 3968 ⟨rfl, rfl⟩ rfl ?_
                            refine z_getR (N := 20) (b := 43) 1 5 rfl f_11_378 rfl J rfl 4101 ⟨rfl, rfl⟩ rfl ?_
                            refine x_iload (x := a6) rfl rfl ?_
                            refine x_iload (x := a4) rfl rfl ?_
                            refine x_iload (x := a5) rfl rfl ?_
                            refine x_iloadn (x := a1) rfl rfl ?_
                            refine x_iloadn (x := a2) rfl rfl ?_
                            refine x_iloadn (x := a3) rfl rfl ?_
                            refine x_inv (N := m_X8_add) (As := [.int a6, .int a4, .int a5, .int a1, .int a2, .int a3]) (b := 43) (st := []) (dx9 := 2) (mc := 0) (ms := 0) (host := "") 8 rfl t_X8_add ⟨Or.inl q_11_145, i_X8_add.1, i_X8_add.2⟩ ⟨by decide, rfl⟩ (congrArg Prod.fst (J.1.1 43 (8, 4) rfl)) rfl (by decide) rfl rfl ⟨by decide, by decide⟩ (sf_X8_add_r43d (jr_of rfl (by omega)) (jr_of rfl (by omega)) (jr_of rfl (by omega)) (jr_of rfl (by omega)) (jr_of rfl (by omega)) (jr_of rfl (by omega)) hD J rfl  (fun h J S31 X32 => ?_))
                            have Sm := jSm_tr rfl Sm S31
                            rw [X32] at D
                            show jX m_X11_fact 3 0 0 138 [(0, .ref 31), (1, .int a1), (2, .int a2), (3, .int a3), (4, .int a4), (5, .int a5), (6, .int a6)] [] _ 0 0 _
                            refine x_aloadn (x := 31) rfl rfl ?_
                            refine x_aloadn (x := 31) rfl rfl ?_
                            refine z_getR (N := 13) (b := 32) 11 0 rfl f_11_10 rfl J rfl 3968 ⟨rfl, rfl⟩ rfl ?_
                            refine z_getR (N := 20) (b := 43) 1 5 rfl f_11_378 rfl J rfl 4101 ⟨rfl, rfl⟩ rfl ?_
                            refine z_getI (N := 4) 8 3 rfl f_11_142 rfl J rfl sg_43_3_4_1_0_1 (fun v33 qv33 ev33 => ?_)
                            try rw [vrf qv33] at D
                            refine x_inv (N := m_X11_accept) (As := [.int v33]) (b := 31) (st := []) (dx9 := 2) (mc := 0) (ms := 0) (host := "") 11 rfl t_X11_accept ⟨Or.inl q_11_165, i_X11_accept.1, i_X11_accept.2⟩ ⟨by decide, rfl⟩ (congrArg Prod.fst (J.1.1 31 (11, 13) rfl)) rfl (by decide) rfl rfl ⟨by decide, by decide⟩ (jC.of rfl k_X11_accept rfl ?_)
                            show jX m_X11_accept 2 0 0 0 [(0, .ref 31), (1, .int v33)] [] _ 0 0 _
                            refine x_aloadn (x := 31) rfl rfl ?_
                            refine x_iconst (v := 0) rfl ki_0 ?_
                            refine z_putI (N := 13) (w := 0) 11 12 rfl f_11_94 rfl (jfin_no TX11 RX11 13 rfl rfl) hD J Sm rfl rfl jk_0 (pw_31_12 (by omega)) rfl (fun h w34 J Sm => ?_)
                            rw [vwf w34 (show 0 = (0 : Int32).toInt from by have := jk_0; omega)] at D
                            refine x_aloadn (x := 31) rfl rfl ?_
                            refine z_getR (N := 13) (b := 32) 11 0 rfl f_11_10 rfl J rfl 3968 ⟨rfl, rfl⟩ rfl ?_
                            refine x_dup rfl rfl ?_
                            refine z_getI0 (N := 20) 1 19 rfl f_11_528 rfl J rfl (fun v35 qv35 => ?_)
                            have ev35 := jfull v35
                            try rw [vrf (jmb_c S29 (jmb_c S31 (jmb_w w34 qv35 rfl) rfl) rfl)] at D
                            refine x_iconst (v := 1) rfl ki_1 ?_
                            refine z_iaddW rfl rfl jk_1 (fun v36 ev36 => ?_)
                            have fv36 := jfull v36
                            try rw [← ev36] at D
                            refine z_putI (N := 20) (w := v36.toInt) 1 19 rfl f_11_528 rfl (jfin_no TX1 RX1 20 rfl rfl) hD J Sm rfl rfl rfl (pw_32_19 trivial) rfl (fun h w37 J Sm => ?_)
                            rw [vwf w37 (show v36.toInt = v36.toInt from by omega)] at D
                            refine x_iloadn (x := v33) rfl rfl ?_
                            refine x_iret rfl rfl ?_
                            show jX m_X11_fact 3 0 0 152 [(0, .ref 31), (1, .int a1), (2, .int a2), (3, .int a3), (4, .int a4), (5, .int a5), (6, .int a6)] [.int v33] _ 0 0 _
                            refine x_iret rfl rfl ?_
                            exact hQ _ _ (jr_of rfl (by omega)) J Sm ((congrArg Prod.fst D).symm.trans (show v33.toInt = v33.toInt from by omega)) (congrArg Prod.snd D).symm
                          ·
                            rw [if_neg (by omega)] at D
                            refine x_aloadn (x := 31) rfl rfl ?_
                            refine x_bipush (v := (-5)) rfl kb_m5 ?_
                            refine x_inv (N := m_X11_refuse) (As := [.int (-5)]) (b := 31) (st := []) (dx9 := 2) (mc := 0) (ms := 0) (host := "") 11 rfl t_X11_refuse ⟨Or.inl q_11_206, i_X11_refuse.1, i_X11_refuse.2⟩ ⟨by decide, rfl⟩ (congrArg Prod.fst (J.1.1 31 (11, 13) rfl)) rfl (by decide) rfl rfl ⟨by decide, by decide⟩ (jC.of rfl k_X11_refuse rfl ?_)
                            show jX m_X11_refuse 2 0 0 0 [(0, .ref 31), (1, .int (-5))] [] _ 0 0 _
                            refine x_aloadn (x := 31) rfl rfl ?_
                            refine x_iloadn (x := (-5)) rfl rfl ?_
                            refine z_putI (N := 13) (w := (-5)) 11 12 rfl f_11_94 rfl (jfin_no TX11 RX11 13 rfl rfl) hD J Sm rfl rfl jk_m5 (pw_31_12 (by omega)) rfl (fun h w38 J Sm => ?_)
                            rw [vwf w38 (show (-5) = ((-5) : Int32).toInt from by have := jk_m5; omega)] at D
                            refine x_iloadn (x := (-5)) rfl rfl ?_
                            refine x_iret rfl rfl ?_
                            show jX m_X11_fact 3 0 0 93 [(0, .ref 31), (1, .int a1), (2, .int a2), (3, .int a3), (4, .int a4), (5, .int a5), (6, .int a6)] [.int (-5)] _ 0 0 _
                            refine x_iret rfl rfl ?_
                            exact hQ _ _ (jr_of jk_m5 (by omega)) J Sm ((congrArg Prod.fst D).symm.trans (show (-5) = ((-5) : Int32).toInt from by have := jk_m5; omega)) (congrArg Prod.snd D).symm
                ·
                  rw [if_neg (by omega)] at D
                  exact jX.sub (jsb_c rfl jsb_n) (ct_X11_fact_r31d_50 hD hQ  h J Sm D)
def fp_X11_fault_r31d : jFp := []
set_option maxRecDepth 100000 in
set_option maxHeartbeats 4000000 in
theorem sf_X11_fault_r31d {Dy : jH → Prop} {h : jH} {Q : Option Value → jH → Prop} {dr : Int} (hD : jDk Dy) (J : jJ jSgX Dy h) (D : d_X11_fault_r31d (vw h) = dr) (hQ : ∀ (v : Int32) hx9, (-1) ≤ v.toInt ∧ v.toInt ≤ 400 → jJ jSgX Dy hx9 → jSm fp_X11_fault_r31d h hx9 → dr = v.toInt → vw hx9 = vw h → Q (some (.int v)) hx9) : jC m_X11_fault 1 0 0 [.ref 31] h Q := by
  refine jC.of rfl k_X11_fault rfl ?_
  have Sm := jSm_rf fp_X11_fault_r31d h
  show jX m_X11_fault 1 0 0 0 [(0, .ref 31)] [] _ 0 0 _
  unfold d_X11_fault_r31d at D
  have EV : vw h = vw h := rfl
  refine x_aloadn (x := 31) rfl rfl ?_
  refine z_getR (N := 13) (b := 68) 11 2 rfl f_11_23 rfl J rfl 3970 ⟨rfl, rfl⟩ rfl ?_
  refine z_getI (N := 6) 9 2 rfl f_11_109 rfl J rfl sg_68_2_3_1_0_1 (fun v1 qv1 ev1 => ?_)
  try rw [vrf qv1] at D
  refine x_iret rfl rfl ?_
  exact hQ _ _ (jr_of rfl (by omega)) J Sm (D.symm.trans (show v1.toInt = v1.toInt from by omega)) EV
def fp_X11_fee_r31d : jFp := [(78, 13, 14), (82, 0, 600), (83, 0, 600), (84, 0, 200), (85, 0, 4), (86, 0, 3), (98, 10, 11), (98, 11, 12), (98, 12, 13), (98, 13, 14), (98, 14, 15), (98, 15, 16), (99, 0, 30), (100, 0, 30), (101, 0, 3), (102, 0, 40), (103, 0, 40), (104, 0, 40), (105, 0, 3), (106, 0, 100)]
set_option maxRecDepth 100000 in
set_option maxHeartbeats 4000000 in
theorem sf_X11_fee_r31d {Dy : jH → Prop} {h : jH} {Q : Option Value → jH → Prop} {dr : (Int × jW)} {a1 : Int32} {a2 : Int32} (hD : jDk Dy) (J : jJ jSgX Dy h) (D : d_X11_fee_r31d a1.toInt a2.toInt (vw h) = dr) (hQ : ∀ (v : Int64) hx9, jJ jSgX Dy hx9 → jSm fp_X11_fee_r31d h hx9 → dr.1 = v.toInt → dr.2 = vw hx9 → Q (some (.long v)) hx9) : jC m_X11_fee 8 0 0 [.ref 31, .int a1, .int a2] h Q := by
  refine jC.of rfl k_X11_fee rfl ?_
  have Sm := jSm_rf fp_X11_fee_r31d h
  have ea1 := jfull a1
  have ea2 := jfull a2
  show jX m_X11_fee 8 0 0 0 [(0, .ref 31), (1, .int a1), (2, .int a2)] [] _ 0 0 _
  unfold d_X11_fee_r31d at D
  refine x_aloadn (x := 31) rfl rfl ?_
  refine x_iloadn (x := a1) rfl rfl ?_
  refine x_iloadn (x := a2) rfl rfl ?_
  refine x_inv (N := m_X11_isKnownLine) (As := [.int a1, .int a2]) (b := 31) (st := []) (dx9 := 7) (mc := 0) (ms := 0) (host := "") 11 rfl t_X11_isKnownLine ⟨Or.inl q_11_393, i_X11_isKnownLine.1, i_X11_isKnownLine.2⟩ ⟨by decide, rfl⟩ (congrArg Prod.fst (J.1.1 31 (11, 13) rfl)) rfl (by decide) rfl rfl ⟨by decide, by decide⟩ (jC.of rfl k_X11_isKnownLine rfl ?_)
  show jX m_X11_isKnownLine 7 0 0 0 [(0, .ref 31), (1, .int a1), (2, .int a2)] [] _ 0 0 _
  refine x_iloadn (x := a2) rfl rfl ?_
  refine x_inst (N := m_X11_isDay) (As := [.int a2]) (st := []) (dx9 := 1) (mc := 0) (ms := 0) (host := "") rfl t_X11_isDay ⟨Or.inl q_11_115, s_X11_isDay⟩ rfl (by decide) rfl rfl ⟨by decide, by decide⟩ (zc_X11_isDay rfl (fun v1 ev1 => ?_))
  show jX m_X11_isKnownLine 7 0 0 4 [(0, .ref 31), (1, .int a1), (2, .int a2)] [.int v1] _ 0 0 _
  refine x_ifeq (tgt := 26) rfl rfl (ti_eq rfl jk_0 ⟨fun c2 => ?_, fun c2 => ?_⟩)
  ·
    rw [if_neg (by omega)] at D
    refine x_iconst (v := 0) rfl ki_0 ?_
    refine x_zret rfl rfl (by decide) ?_
    show jX m_X11_fee 8 0 0 6 [(0, .ref 31), (1, .int a1), (2, .int a2)] [.int 0] _ 0 0 _
    refine x_ifne (tgt := 13) rfl rfl (ti_ne jk_0 jk_0 (bn_f (by omega) ?_))
    refine x_ldc2 (v := (-1)) rfl z_11_372 ?_
    refine x_lret rfl rfl ?_
    exact hQ _ _ J Sm ((congrArg Prod.fst D).symm.trans (show (-1) = ((-1) : Int64).toInt from by have := jkl_m1; omega)) (congrArg Prod.snd D).symm
  ·
    rw [if_pos (by omega)] at D
    refine x_aloadn (x := 31) rfl rfl ?_
    refine z_getR (N := 13) (b := 32) 11 0 rfl f_11_10 rfl J rfl 3968 ⟨rfl, rfl⟩ rfl ?_
    refine z_getR (N := 20) (b := 33) 1 0 rfl f_11_126 rfl J rfl 4096 ⟨rfl, rfl⟩ rfl ?_
    refine x_iloadn (x := a1) rfl rfl ?_
    refine x_iloadn (x := a2) rfl rfl ?_
    refine x_inv (N := m_X8_isKnown) (As := [.int a1, .int a2]) (b := 33) (st := []) (dx9 := 1) (mc := 0) (ms := 0) (host := "") 8 rfl t_X8_isKnown ⟨Or.inl q_11_440, i_X8_isKnown.1, i_X8_isKnown.2⟩ ⟨by decide, rfl⟩ (congrArg Prod.fst (J.1.1 33 (8, 4) rfl)) rfl (by decide) rfl rfl ⟨by decide, by decide⟩ (sf_X8_isKnown_r33d (jr_of rfl (by omega)) hD J rfl  (fun v6 h ev6 J S3 X4 X5 => ?_))
    have Sm := jSm_tr rfl Sm S3
    try rw [X4] at D
    try rw [← X5] at D
    show jX m_X11_isKnownLine 7 0 0 19 [(0, .ref 31), (1, .int a1), (2, .int a2)] [.int v6] _ 0 0 _
    refine x_ifeq (tgt := 26) rfl rfl (ti_eq rfl jk_0 ⟨fun c7 => ?_, fun c7 => ?_⟩)
    ·
      rw [if_pos (by omega)] at D
      refine x_iconst (v := 0) rfl ki_0 ?_
      refine x_zret rfl rfl (by decide) ?_
      show jX m_X11_fee 8 0 0 6 [(0, .ref 31), (1, .int a1), (2, .int a2)] [.int 0] _ 0 0 _
      refine x_ifne (tgt := 13) rfl rfl (ti_ne jk_0 jk_0 (bn_f (by omega) ?_))
      refine x_ldc2 (v := (-1)) rfl z_11_372 ?_
      refine x_lret rfl rfl ?_
      exact hQ _ _ J Sm ((congrArg Prod.fst D).symm.trans (show (-1) = ((-1) : Int64).toInt from by have := jkl_m1; omega)) (congrArg Prod.snd D).symm
    ·
      rw [if_neg (by omega)] at D
      refine x_iconst (v := 1) rfl ki_1 ?_
      refine x_goto (tgt := 27) rfl rfl ?_
      refine x_zret rfl rfl (by decide) ?_
      show jX m_X11_fee 8 0 0 6 [(0, .ref 31), (1, .int a1), (2, .int a2)] [.int 1] _ 0 0 _
      refine x_ifne (tgt := 13) rfl rfl (ti_ne jk_1 jk_0 (bn_t (by omega) ?_))
      refine x_aloadn (x := 31) rfl rfl ?_
      refine x_iloadn (x := a1) rfl rfl ?_
      refine x_iconst (v := 3) rfl ki_3 ?_
      refine z_imulW rfl rfl jk_3 (fun v8 ev8 => ?_)
      have fv8 := jfull v8
      try rw [← ev8] at D
      refine x_iloadn (x := a2) rfl rfl ?_
      refine x_inv (N := m_X11_soulOn) (As := [.int v8, .int a2]) (b := 31) (st := []) (dx9 := 7) (mc := 0) (ms := 0) (host := "") 11 rfl t_X11_soulOn ⟨Or.inl q_11_234, i_X11_soulOn.1, i_X11_soulOn.2⟩ ⟨by decide, rfl⟩ (congrArg Prod.fst (J.1.1 31 (11, 13) rfl)) rfl (by decide) rfl rfl ⟨by decide, by decide⟩ (jC.of rfl k_X11_soulOn rfl ?_)
      show jX m_X11_soulOn 7 0 0 0 [(0, .ref 31), (1, .int v8), (2, .int a2)] [] _ 0 0 _
      refine x_iloadn (x := a2) rfl rfl ?_
      refine x_inst (N := m_X11_isDay) (As := [.int a2]) (st := []) (dx9 := 1) (mc := 0) (ms := 0) (host := "") rfl t_X11_isDay ⟨Or.inl q_11_115, s_X11_isDay⟩ rfl (by decide) rfl rfl ⟨by decide, by decide⟩ (zc_X11_isDay rfl (fun v9 ev9 => ?_))
      show jX m_X11_soulOn 7 0 0 4 [(0, .ref 31), (1, .int v8), (2, .int a2)] [.int v9] _ 0 0 _
      refine x_ifeq (tgt := 18) rfl rfl (ti_eq rfl jk_0 ⟨fun c10 => ?_, fun c10 => ?_⟩)
      ·
        rw [if_neg (by omega)] at D
        refine x_iconst (v := (-1)) rfl ki_m1 ?_
        refine x_iret rfl rfl ?_
        show jX m_X11_fee 8 0 0 21 [(0, .ref 31), (1, .int a1), (2, .int a2)] [.int (-1)] _ 0 0 _
        refine x_istoren (lsx9 := [(3, .int (-1)), (0, .ref 31), (1, .int a1), (2, .int a2)]) rfl rfl rfl ?_
        refine x_aloadn (x := 31) rfl rfl ?_
        refine z_getR (N := 13) (b := 98) 11 7 rfl f_11_66 rfl J rfl 3975 ⟨rfl, rfl⟩ rfl ?_
        refine x_aloadn (x := 31) rfl rfl ?_
        refine z_getR (N := 13) (b := 32) 11 0 rfl f_11_10 rfl J rfl 3968 ⟨rfl, rfl⟩ rfl ?_
        refine z_getR (N := 20) (b := 33) 1 0 rfl f_11_126 rfl J rfl 4096 ⟨rfl, rfl⟩ rfl ?_
        refine x_iloadn (x := a1) rfl rfl ?_
        refine x_iconst (v := 1) rfl ki_1 ?_
        refine x_inv (N := m_X8_at) (As := [.int a1, .int 1]) (b := 33) (st := [.ref 98]) (dx9 := 1) (mc := 0) (ms := 0) (host := "") 8 rfl t_X8_at ⟨Or.inl q_11_171, i_X8_at.1, i_X8_at.2⟩ ⟨by decide, rfl⟩ (congrArg Prod.fst (J.1.1 33 (8, 4) rfl)) rfl (by decide) rfl rfl ⟨by decide, by decide⟩ (sf_X8_at_r33_c1d  hD J rfl  (fun v14 h ev14 J S11 X12 X13 => ?_))
        have Sm := jSm_tr rfl Sm S11
        try rw [X12] at D
        try rw [← X13] at D
        show jX m_X11_fee 8 0 0 38 [(3, .int (-1)), (0, .ref 31), (1, .int a1), (2, .int a2)] [.int v14, .ref 98] _ 0 0 _
        refine x_iloadn (x := a2) rfl rfl ?_
        refine x_inv (N := m_X0_turnTo) (As := [.int v14, .int a2]) (b := 98) (st := []) (dx9 := 7) (mc := 0) (ms := 0) (host := "") 0 rfl t_X0_turnTo ⟨Or.inl q_11_345, i_X0_turnTo.1, i_X0_turnTo.2⟩ ⟨by decide, rfl⟩ (congrArg Prod.fst (J.1.1 98 (0, 16) rfl)) rfl (by decide) rfl rfl ⟨by decide, by decide⟩ (jC.of rfl k_X0_turnTo rfl ?_)
        show jX m_X0_turnTo 7 0 0 0 [(0, .ref 98), (1, .int v14), (2, .int a2)] [] _ 0 0 _
        refine x_aloadn (x := 98) rfl rfl ?_
        refine x_iloadn (x := v14) rfl rfl ?_
        refine x_iloadn (x := a2) rfl rfl ?_
        refine x_inv (N := m_X0_readLaws) (As := [.int v14, .int a2]) (b := 98) (st := []) (dx9 := 3) (mc := 0) (ms := 0) (host := "") 0 rfl t_X0_readLaws ⟨Or.inl q_0_65, i_X0_readLaws.1, i_X0_readLaws.2⟩ ⟨by decide, rfl⟩ (congrArg Prod.fst (J.1.1 98 (0, 16) rfl)) rfl (by decide) rfl rfl ⟨by decide, by decide⟩ (sf_X0_readLaws_r98d (jr_of rfl (by omega)) (jr_of rfl (by omega)) hD J rfl  (fun h J S15 X16 => ?_))
        have Sm := jSm_tr rfl Sm S15
        rw [X16] at D
        show jX m_X0_turnTo 7 0 0 6 [(0, .ref 98), (1, .int v14), (2, .int a2)] [] _ 0 0 _
        refine x_aloadn (x := 98) rfl rfl ?_
        refine x_iloadn (x := v14) rfl rfl ?_
        refine x_iloadn (x := a2) rfl rfl ?_
        refine x_inv (N := m_X0_readHouses) (As := [.int v14, .int a2]) (b := 98) (st := []) (dx9 := 3) (mc := 0) (ms := 0) (host := "") 0 rfl t_X0_readHouses ⟨Or.inl q_0_69, i_X0_readHouses.1, i_X0_readHouses.2⟩ ⟨by decide, rfl⟩ (congrArg Prod.fst (J.1.1 98 (0, 16) rfl)) rfl (by decide) rfl rfl ⟨by decide, by decide⟩ (sf_X0_readHouses_r98d (jr_of rfl (by omega)) (jr_of rfl (by omega)) hD J rfl  (fun h J S17 X18 => ?_))
        have Sm := jSm_tr rfl Sm S17
        rw [X18] at D
        show jX m_X0_turnTo 7 0 0 12 [(0, .ref 98), (1, .int v14), (2, .int a2)] [] _ 0 0 _
        refine x_vret rfl rfl ?_
        show jX m_X11_fee 8 0 0 42 [(3, .int (-1)), (0, .ref 31), (1, .int a1), (2, .int a2)] [] _ 0 0 _
        refine x_aloadn (x := 31) rfl rfl ?_
        refine z_getR (N := 13) (b := 32) 11 0 rfl f_11_10 rfl J rfl 3968 ⟨rfl, rfl⟩ rfl ?_
        refine z_getR (N := 20) (b := 33) 1 0 rfl f_11_126 rfl J rfl 4096 ⟨rfl, rfl⟩ rfl ?_
        refine x_iloadn (x := a1) rfl rfl ?_
        refine x_iconst (v := 2) rfl ki_2 ?_
        refine x_inv (N := m_X8_at) (As := [.int a1, .int 2]) (b := 33) (st := []) (dx9 := 1) (mc := 0) (ms := 0) (host := "") 8 rfl t_X8_at ⟨Or.inl q_11_171, i_X8_at.1, i_X8_at.2⟩ ⟨by decide, rfl⟩ (congrArg Prod.fst (J.1.1 33 (8, 4) rfl)) rfl (by decide) rfl rfl ⟨by decide, by decide⟩ (sf_X8_at_r33_c2d  hD J rfl  (fun v22 h ev22 J S19 X20 X21 => ?_))
        have Sm := jSm_tr rfl Sm S19
        try rw [X20] at D
        try rw [← X21] at D
        show jX m_X11_fee 8 0 0 54 [(3, .int (-1)), (0, .ref 31), (1, .int a1), (2, .int a2)] [.int v22] _ 0 0 _
        by_cases c23 : v22.toInt = 1
        ·
          refine x_lookup (tgt := 94) (off := 40) rfl (by decide) (by rw [show (v22).toInt = 1 from c23]; decide) rfl ?_
          rw [if_pos c23] at D
          refine x_aloadn (x := 31) rfl rfl ?_
          refine x_iconst (v := 2) rfl ki_2 ?_
          refine x_iloadn (x := (-1)) rfl rfl ?_
          refine x_inv (N := m_X11_feeOf) (As := [.int 2, .int (-1)]) (b := 31) (st := []) (dx9 := 7) (mc := 0) (ms := 0) (host := "") 11 rfl t_X11_feeOf ⟨Or.inl q_11_497, i_X11_feeOf.1, i_X11_feeOf.2⟩ ⟨by decide, rfl⟩ (congrArg Prod.fst (J.1.1 31 (11, 13) rfl)) rfl (by decide) rfl rfl ⟨by decide, by decide⟩ (jC.of rfl k_X11_feeOf rfl ?_)
          show jX m_X11_feeOf 7 0 0 0 [(0, .ref 31), (1, .int 2), (2, .int (-1))] [] _ 0 0 _
          refine x_aloadn (x := 31) rfl rfl ?_
          refine z_getR (N := 13) (b := 98) 11 7 rfl f_11_66 rfl J rfl 3975 ⟨rfl, rfl⟩ rfl ?_
          refine x_bipush (v := 6) rfl kb_6 ?_
          refine x_iloadn (x := 2) rfl rfl ?_
          refine x_iloadn (x := (-1)) rfl rfl ?_
          refine x_inv (N := m_X0_weigh) (As := [.int 6, .int 2, .int (-1)]) (b := 98) (st := []) (dx9 := 6) (mc := 0) (ms := 0) (host := "") 0 rfl t_X0_weigh ⟨Or.inl q_11_359, i_X0_weigh.1, i_X0_weigh.2⟩ ⟨by decide, rfl⟩ (congrArg Prod.fst (J.1.1 98 (0, 16) rfl)) rfl (by decide) rfl rfl ⟨by decide, by decide⟩ (sf_X0_weigh_r98d (jr_of jk_6 (by omega)) (jr_of jk_2 (by omega)) (jr_of jk_m1 (by omega)) hD J rfl  (fun v27 h ev27 J S24 X25 X26 => ?_))
          have Sm := jSm_tr rfl Sm S24
          try rw [jk_6] at X25
          try rw [jk_2] at X25
          try rw [jk_m1] at X25
          try rw [jk_6] at X26
          try rw [jk_2] at X26
          try rw [jk_m1] at X26
          try rw [X25] at D
          try rw [X26] at D
          show jX m_X11_feeOf 7 0 0 11 [(0, .ref 31), (1, .int 2), (2, .int (-1))] [.int v27] _ 0 0 _
          refine x_pop rfl rfl ?_
          refine x_lconst (v := 0) rfl kl_0 ?_
          refine x_aloadn (x := 31) rfl rfl ?_
          refine z_getR (N := 13) (b := 98) 11 7 rfl f_11_66 rfl J rfl 3975 ⟨rfl, rfl⟩ rfl ?_
          refine z_getLQ (N := 16) 0 14 rfl f_11_362 rfl J rfl (fun v28 qv28 => ?_)
          have ev28 := jfullL v28
          try rw [vrfL qv28] at D
          refine z_lmax rfl q_11_485 (by decide) rfl jkl_0 rfl (fun v29 ev29 => ?_)
          refine x_lret rfl rfl ?_
          show jX m_X11_fee 8 0 0 100 [(3, .int (-1)), (0, .ref 31), (1, .int a1), (2, .int a2)] [.long v29] _ 0 0 _
          refine x_lret rfl rfl ?_
          try rw [show (max 0 v28.toInt) = v29.toInt from by omega] at D
          exact hQ _ _ J Sm ((congrArg Prod.fst D).symm.trans (show v29.toInt = v29.toInt from by omega)) (congrArg Prod.snd D).symm
        rw [if_neg c23] at D
        by_cases c30 : v22.toInt = 2
        ·
          refine x_lookup (tgt := 80) (off := 26) rfl (by decide) (by rw [show (v22).toInt = 2 from c30]; decide) rfl ?_
          rw [if_pos c30] at D
          refine x_aloadn (x := 31) rfl rfl ?_
          refine x_iconst (v := 0) rfl ki_0 ?_
          refine x_iloadn (x := (-1)) rfl rfl ?_
          refine x_inv (N := m_X11_feeOf) (As := [.int 0, .int (-1)]) (b := 31) (st := []) (dx9 := 7) (mc := 0) (ms := 0) (host := "") 11 rfl t_X11_feeOf ⟨Or.inl q_11_497, i_X11_feeOf.1, i_X11_feeOf.2⟩ ⟨by decide, rfl⟩ (congrArg Prod.fst (J.1.1 31 (11, 13) rfl)) rfl (by decide) rfl rfl ⟨by decide, by decide⟩ (jC.of rfl k_X11_feeOf rfl ?_)
          show jX m_X11_feeOf 7 0 0 0 [(0, .ref 31), (1, .int 0), (2, .int (-1))] [] _ 0 0 _
          refine x_aloadn (x := 31) rfl rfl ?_
          refine z_getR (N := 13) (b := 98) 11 7 rfl f_11_66 rfl J rfl 3975 ⟨rfl, rfl⟩ rfl ?_
          refine x_bipush (v := 6) rfl kb_6 ?_
          refine x_iloadn (x := 0) rfl rfl ?_
          refine x_iloadn (x := (-1)) rfl rfl ?_
          refine x_inv (N := m_X0_weigh) (As := [.int 6, .int 0, .int (-1)]) (b := 98) (st := []) (dx9 := 6) (mc := 0) (ms := 0) (host := "") 0 rfl t_X0_weigh ⟨Or.inl q_11_359, i_X0_weigh.1, i_X0_weigh.2⟩ ⟨by decide, rfl⟩ (congrArg Prod.fst (J.1.1 98 (0, 16) rfl)) rfl (by decide) rfl rfl ⟨by decide, by decide⟩ (sf_X0_weigh_r98d (jr_of jk_6 (by omega)) (jr_of jk_0 (by omega)) (jr_of jk_m1 (by omega)) hD J rfl  (fun v34 h ev34 J S31 X32 X33 => ?_))
          have Sm := jSm_tr rfl Sm S31
          try rw [jk_6] at X32
          try rw [jk_0] at X32
          try rw [jk_m1] at X32
          try rw [jk_6] at X33
          try rw [jk_0] at X33
          try rw [jk_m1] at X33
          try rw [X32] at D
          try rw [X33] at D
          show jX m_X11_feeOf 7 0 0 11 [(0, .ref 31), (1, .int 0), (2, .int (-1))] [.int v34] _ 0 0 _
          refine x_pop rfl rfl ?_
          refine x_lconst (v := 0) rfl kl_0 ?_
          refine x_aloadn (x := 31) rfl rfl ?_
          refine z_getR (N := 13) (b := 98) 11 7 rfl f_11_66 rfl J rfl 3975 ⟨rfl, rfl⟩ rfl ?_
          refine z_getLQ (N := 16) 0 14 rfl f_11_362 rfl J rfl (fun v35 qv35 => ?_)
          have ev35 := jfullL v35
          try rw [vrfL qv35] at D
          refine z_lmax rfl q_11_485 (by decide) rfl jkl_0 rfl (fun v36 ev36 => ?_)
          refine x_lret rfl rfl ?_
          show jX m_X11_fee 8 0 0 86 [(3, .int (-1)), (0, .ref 31), (1, .int a1), (2, .int a2)] [.long v36] _ 0 0 _
          refine x_aloadn (x := 31) rfl rfl ?_
          refine x_iconst (v := 1) rfl ki_1 ?_
          refine x_iloadn (x := (-1)) rfl rfl ?_
          refine x_inv (N := m_X11_feeOf) (As := [.int 1, .int (-1)]) (b := 31) (st := [.long v36]) (dx9 := 7) (mc := 0) (ms := 0) (host := "") 11 rfl t_X11_feeOf ⟨Or.inl q_11_497, i_X11_feeOf.1, i_X11_feeOf.2⟩ ⟨by decide, rfl⟩ (congrArg Prod.fst (J.1.1 31 (11, 13) rfl)) rfl (by decide) rfl rfl ⟨by decide, by decide⟩ (jC.of rfl k_X11_feeOf rfl ?_)
          show jX m_X11_feeOf 7 0 0 0 [(0, .ref 31), (1, .int 1), (2, .int (-1))] [] _ 0 0 _
          refine x_aloadn (x := 31) rfl rfl ?_
          refine z_getR (N := 13) (b := 98) 11 7 rfl f_11_66 rfl J rfl 3975 ⟨rfl, rfl⟩ rfl ?_
          refine x_bipush (v := 6) rfl kb_6 ?_
          refine x_iloadn (x := 1) rfl rfl ?_
          refine x_iloadn (x := (-1)) rfl rfl ?_
          refine x_inv (N := m_X0_weigh) (As := [.int 6, .int 1, .int (-1)]) (b := 98) (st := []) (dx9 := 6) (mc := 0) (ms := 0) (host := "") 0 rfl t_X0_weigh ⟨Or.inl q_11_359, i_X0_weigh.1, i_X0_weigh.2⟩ ⟨by decide, rfl⟩ (congrArg Prod.fst (J.1.1 98 (0, 16) rfl)) rfl (by decide) rfl rfl ⟨by decide, by decide⟩ (sf_X0_weigh_r98d (jr_of jk_6 (by omega)) (jr_of jk_1 (by omega)) (jr_of jk_m1 (by omega)) hD J rfl  (fun v40 h ev40 J S37 X38 X39 => ?_))
          have Sm := jSm_tr rfl Sm S37
          try rw [jk_6] at X38
          try rw [jk_1] at X38
          try rw [jk_m1] at X38
          try rw [jk_6] at X39
          try rw [jk_1] at X39
          try rw [jk_m1] at X39
          try rw [X38] at D
          try rw [X39] at D
          show jX m_X11_feeOf 7 0 0 11 [(0, .ref 31), (1, .int 1), (2, .int (-1))] [.int v40] _ 0 0 _
          refine x_pop rfl rfl ?_
          refine x_lconst (v := 0) rfl kl_0 ?_
          refine x_aloadn (x := 31) rfl rfl ?_
          refine z_getR (N := 13) (b := 98) 11 7 rfl f_11_66 rfl J rfl 3975 ⟨rfl, rfl⟩ rfl ?_
          refine z_getLQ (N := 16) 0 14 rfl f_11_362 rfl J rfl (fun v41 qv41 => ?_)
          have ev41 := jfullL v41
          try rw [vrfL qv41] at D
          refine z_lmax rfl q_11_485 (by decide) rfl jkl_0 rfl (fun v42 ev42 => ?_)
          refine x_lret rfl rfl ?_
          show jX m_X11_fee 8 0 0 92 [(3, .int (-1)), (0, .ref 31), (1, .int a1), (2, .int a2)] [.long v42, .long v36] _ 0 0 _
          refine z_laddW rfl rfl rfl (fun v43 ev43 => ?_)
          have fv43 := jfullL v43
          try rw [show (max 0 v35.toInt) = v36.toInt from by omega] at D
          try rw [show (max 0 v41.toInt) = v42.toInt from by omega] at D
          try rw [← ev43] at D
          refine x_lret rfl rfl ?_
          exact hQ _ _ J Sm ((congrArg Prod.fst D).symm.trans (show v43.toInt = v43.toInt from by omega)) (congrArg Prod.snd D).symm
        rw [if_neg c30] at D
        refine x_lookup (tgt := 101) (off := 47) rfl (by decide) (by simp [Op.lookupswitch.offset]; omega) rfl ?_
        refine x_lconst (v := 0) rfl kl_0 ?_
        refine x_lret rfl rfl ?_
        exact hQ _ _ J Sm ((congrArg Prod.fst D).symm.trans (show 0 = (0 : Int64).toInt from by have := jkl_0; omega)) (congrArg Prod.snd D).symm
      ·
        rw [if_pos (by omega)] at D
        refine x_aloadn (x := 31) rfl rfl ?_
        refine z_getR (N := 13) (b := 78) 11 4 rfl f_11_41 rfl J rfl 3972 ⟨rfl, rfl⟩ rfl ?_
        refine x_iloadn (x := v8) rfl rfl ?_
        refine x_inv (N := m_X7_isMention) (As := [.int v8]) (b := 78) (st := []) (dx9 := 6) (mc := 0) (ms := 0) (host := "") 7 rfl t_X7_isMention ⟨Or.inl q_11_187, i_X7_isMention.1, i_X7_isMention.2⟩ ⟨by decide, rfl⟩ (congrArg Prod.fst (J.1.1 78 (7, 16) rfl)) rfl (by decide) rfl rfl ⟨by decide, by decide⟩ (jC.of rfl k_X7_isMention rfl ?_)
        show jX m_X7_isMention 6 0 0 0 [(0, .ref 78), (1, .int v8)] [] _ 0 0 _
        refine x_iloadn (x := v8) rfl rfl ?_
        refine x_iflt (tgt := 41) rfl rfl (ti_lt rfl jk_0 ⟨fun c44 => ?_, fun c44 => ?_⟩)
        ·
          rw [if_pos (by omega)] at D
          refine x_iconst (v := 0) rfl ki_0 ?_
          refine x_zret rfl rfl (by decide) ?_
          show jX m_X11_soulOn 7 0 0 15 [(0, .ref 31), (1, .int v8), (2, .int a2)] [.int 0] _ 0 0 _
          refine x_ifne (tgt := 20) rfl rfl (ti_ne jk_0 jk_0 (bn_f (by omega) ?_))
          refine x_iconst (v := (-1)) rfl ki_m1 ?_
          refine x_iret rfl rfl ?_
          show jX m_X11_fee 8 0 0 21 [(0, .ref 31), (1, .int a1), (2, .int a2)] [.int (-1)] _ 0 0 _
          refine x_istoren (lsx9 := [(3, .int (-1)), (0, .ref 31), (1, .int a1), (2, .int a2)]) rfl rfl rfl ?_
          refine x_aloadn (x := 31) rfl rfl ?_
          refine z_getR (N := 13) (b := 98) 11 7 rfl f_11_66 rfl J rfl 3975 ⟨rfl, rfl⟩ rfl ?_
          refine x_aloadn (x := 31) rfl rfl ?_
          refine z_getR (N := 13) (b := 32) 11 0 rfl f_11_10 rfl J rfl 3968 ⟨rfl, rfl⟩ rfl ?_
          refine z_getR (N := 20) (b := 33) 1 0 rfl f_11_126 rfl J rfl 4096 ⟨rfl, rfl⟩ rfl ?_
          refine x_iloadn (x := a1) rfl rfl ?_
          refine x_iconst (v := 1) rfl ki_1 ?_
          refine x_inv (N := m_X8_at) (As := [.int a1, .int 1]) (b := 33) (st := [.ref 98]) (dx9 := 1) (mc := 0) (ms := 0) (host := "") 8 rfl t_X8_at ⟨Or.inl q_11_171, i_X8_at.1, i_X8_at.2⟩ ⟨by decide, rfl⟩ (congrArg Prod.fst (J.1.1 33 (8, 4) rfl)) rfl (by decide) rfl rfl ⟨by decide, by decide⟩ (sf_X8_at_r33_c1d  hD J rfl  (fun v48 h ev48 J S45 X46 X47 => ?_))
          have Sm := jSm_tr rfl Sm S45
          try rw [X46] at D
          try rw [← X47] at D
          show jX m_X11_fee 8 0 0 38 [(3, .int (-1)), (0, .ref 31), (1, .int a1), (2, .int a2)] [.int v48, .ref 98] _ 0 0 _
          refine x_iloadn (x := a2) rfl rfl ?_
          refine x_inv (N := m_X0_turnTo) (As := [.int v48, .int a2]) (b := 98) (st := []) (dx9 := 7) (mc := 0) (ms := 0) (host := "") 0 rfl t_X0_turnTo ⟨Or.inl q_11_345, i_X0_turnTo.1, i_X0_turnTo.2⟩ ⟨by decide, rfl⟩ (congrArg Prod.fst (J.1.1 98 (0, 16) rfl)) rfl (by decide) rfl rfl ⟨by decide, by decide⟩ (jC.of rfl k_X0_turnTo rfl ?_)
          show jX m_X0_turnTo 7 0 0 0 [(0, .ref 98), (1, .int v48), (2, .int a2)] [] _ 0 0 _
          refine x_aloadn (x := 98) rfl rfl ?_
          refine x_iloadn (x := v48) rfl rfl ?_
          refine x_iloadn (x := a2) rfl rfl ?_
          refine x_inv (N := m_X0_readLaws) (As := [.int v48, .int a2]) (b := 98) (st := []) (dx9 := 3) (mc := 0) (ms := 0) (host := "") 0 rfl t_X0_readLaws ⟨Or.inl q_0_65, i_X0_readLaws.1, i_X0_readLaws.2⟩ ⟨by decide, rfl⟩ (congrArg Prod.fst (J.1.1 98 (0, 16) rfl)) rfl (by decide) rfl rfl ⟨by decide, by decide⟩ (sf_X0_readLaws_r98d (jr_of rfl (by omega)) (jr_of rfl (by omega)) hD J rfl  (fun h J S49 X50 => ?_))
          have Sm := jSm_tr rfl Sm S49
          rw [X50] at D
          show jX m_X0_turnTo 7 0 0 6 [(0, .ref 98), (1, .int v48), (2, .int a2)] [] _ 0 0 _
          refine x_aloadn (x := 98) rfl rfl ?_
          refine x_iloadn (x := v48) rfl rfl ?_
          refine x_iloadn (x := a2) rfl rfl ?_
          refine x_inv (N := m_X0_readHouses) (As := [.int v48, .int a2]) (b := 98) (st := []) (dx9 := 3) (mc := 0) (ms := 0) (host := "") 0 rfl t_X0_readHouses ⟨Or.inl q_0_69, i_X0_readHouses.1, i_X0_readHouses.2⟩ ⟨by decide, rfl⟩ (congrArg Prod.fst (J.1.1 98 (0, 16) rfl)) rfl (by decide) rfl rfl ⟨by decide, by decide⟩ (sf_X0_readHouses_r98d (jr_of rfl (by omega)) (jr_of rfl (by omega)) hD J rfl  (fun h J S51 X52 => ?_))
          have Sm := jSm_tr rfl Sm S51
          rw [X52] at D
          show jX m_X0_turnTo 7 0 0 12 [(0, .ref 98), (1, .int v48), (2, .int a2)] [] _ 0 0 _
          refine x_vret rfl rfl ?_
          show jX m_X11_fee 8 0 0 42 [(3, .int (-1)), (0, .ref 31), (1, .int a1), (2, .int a2)] [] _ 0 0 _
          refine x_aloadn (x := 31) rfl rfl ?_
          refine z_getR (N := 13) (b := 32) 11 0 rfl f_11_10 rfl J rfl 3968 ⟨rfl, rfl⟩ rfl ?_
          refine z_getR (N := 20) (b := 33) 1 0 rfl f_11_126 rfl J rfl 4096 ⟨rfl, rfl⟩ rfl ?_
          refine x_iloadn (x := a1) rfl rfl ?_
          refine x_iconst (v := 2) rfl ki_2 ?_
          refine x_inv (N := m_X8_at) (As := [.int a1, .int 2]) (b := 33) (st := []) (dx9 := 1) (mc := 0) (ms := 0) (host := "") 8 rfl t_X8_at ⟨Or.inl q_11_171, i_X8_at.1, i_X8_at.2⟩ ⟨by decide, rfl⟩ (congrArg Prod.fst (J.1.1 33 (8, 4) rfl)) rfl (by decide) rfl rfl ⟨by decide, by decide⟩ (sf_X8_at_r33_c2d  hD J rfl  (fun v56 h ev56 J S53 X54 X55 => ?_))
          have Sm := jSm_tr rfl Sm S53
          try rw [X54] at D
          try rw [← X55] at D
          show jX m_X11_fee 8 0 0 54 [(3, .int (-1)), (0, .ref 31), (1, .int a1), (2, .int a2)] [.int v56] _ 0 0 _
          by_cases c57 : v56.toInt = 1
          ·
            refine x_lookup (tgt := 94) (off := 40) rfl (by decide) (by rw [show (v56).toInt = 1 from c57]; decide) rfl ?_
            rw [if_pos c57] at D
            refine x_aloadn (x := 31) rfl rfl ?_
            refine x_iconst (v := 2) rfl ki_2 ?_
            refine x_iloadn (x := (-1)) rfl rfl ?_
            refine x_inv (N := m_X11_feeOf) (As := [.int 2, .int (-1)]) (b := 31) (st := []) (dx9 := 7) (mc := 0) (ms := 0) (host := "") 11 rfl t_X11_feeOf ⟨Or.inl q_11_497, i_X11_feeOf.1, i_X11_feeOf.2⟩ ⟨by decide, rfl⟩ (congrArg Prod.fst (J.1.1 31 (11, 13) rfl)) rfl (by decide) rfl rfl ⟨by decide, by decide⟩ (jC.of rfl k_X11_feeOf rfl ?_)
            show jX m_X11_feeOf 7 0 0 0 [(0, .ref 31), (1, .int 2), (2, .int (-1))] [] _ 0 0 _
            refine x_aloadn (x := 31) rfl rfl ?_
            refine z_getR (N := 13) (b := 98) 11 7 rfl f_11_66 rfl J rfl 3975 ⟨rfl, rfl⟩ rfl ?_
            refine x_bipush (v := 6) rfl kb_6 ?_
            refine x_iloadn (x := 2) rfl rfl ?_
            refine x_iloadn (x := (-1)) rfl rfl ?_
            refine x_inv (N := m_X0_weigh) (As := [.int 6, .int 2, .int (-1)]) (b := 98) (st := []) (dx9 := 6) (mc := 0) (ms := 0) (host := "") 0 rfl t_X0_weigh ⟨Or.inl q_11_359, i_X0_weigh.1, i_X0_weigh.2⟩ ⟨by decide, rfl⟩ (congrArg Prod.fst (J.1.1 98 (0, 16) rfl)) rfl (by decide) rfl rfl ⟨by decide, by decide⟩ (sf_X0_weigh_r98d (jr_of jk_6 (by omega)) (jr_of jk_2 (by omega)) (jr_of jk_m1 (by omega)) hD J rfl  (fun v61 h ev61 J S58 X59 X60 => ?_))
            have Sm := jSm_tr rfl Sm S58
            try rw [jk_6] at X59
            try rw [jk_2] at X59
            try rw [jk_m1] at X59
            try rw [jk_6] at X60
            try rw [jk_2] at X60
            try rw [jk_m1] at X60
            try rw [X59] at D
            try rw [X60] at D
            show jX m_X11_feeOf 7 0 0 11 [(0, .ref 31), (1, .int 2), (2, .int (-1))] [.int v61] _ 0 0 _
            refine x_pop rfl rfl ?_
            refine x_lconst (v := 0) rfl kl_0 ?_
            refine x_aloadn (x := 31) rfl rfl ?_
            refine z_getR (N := 13) (b := 98) 11 7 rfl f_11_66 rfl J rfl 3975 ⟨rfl, rfl⟩ rfl ?_
            refine z_getLQ (N := 16) 0 14 rfl f_11_362 rfl J rfl (fun v62 qv62 => ?_)
            have ev62 := jfullL v62
            try rw [vrfL qv62] at D
            refine z_lmax rfl q_11_485 (by decide) rfl jkl_0 rfl (fun v63 ev63 => ?_)
            refine x_lret rfl rfl ?_
            show jX m_X11_fee 8 0 0 100 [(3, .int (-1)), (0, .ref 31), (1, .int a1), (2, .int a2)] [.long v63] _ 0 0 _
            refine x_lret rfl rfl ?_
            try rw [show (max 0 v62.toInt) = v63.toInt from by omega] at D
            exact hQ _ _ J Sm ((congrArg Prod.fst D).symm.trans (show v63.toInt = v63.toInt from by omega)) (congrArg Prod.snd D).symm
          rw [if_neg c57] at D
          by_cases c64 : v56.toInt = 2
          ·
            refine x_lookup (tgt := 80) (off := 26) rfl (by decide) (by rw [show (v56).toInt = 2 from c64]; decide) rfl ?_
            rw [if_pos c64] at D
            refine x_aloadn (x := 31) rfl rfl ?_
            refine x_iconst (v := 0) rfl ki_0 ?_
            refine x_iloadn (x := (-1)) rfl rfl ?_
            refine x_inv (N := m_X11_feeOf) (As := [.int 0, .int (-1)]) (b := 31) (st := []) (dx9 := 7) (mc := 0) (ms := 0) (host := "") 11 rfl t_X11_feeOf ⟨Or.inl q_11_497, i_X11_feeOf.1, i_X11_feeOf.2⟩ ⟨by decide, rfl⟩ (congrArg Prod.fst (J.1.1 31 (11, 13) rfl)) rfl (by decide) rfl rfl ⟨by decide, by decide⟩ (jC.of rfl k_X11_feeOf rfl ?_)
            show jX m_X11_feeOf 7 0 0 0 [(0, .ref 31), (1, .int 0), (2, .int (-1))] [] _ 0 0 _
            refine x_aloadn (x := 31) rfl rfl ?_
            refine z_getR (N := 13) (b := 98) 11 7 rfl f_11_66 rfl J rfl 3975 ⟨rfl, rfl⟩ rfl ?_
            refine x_bipush (v := 6) rfl kb_6 ?_
            refine x_iloadn (x := 0) rfl rfl ?_
            refine x_iloadn (x := (-1)) rfl rfl ?_
            refine x_inv (N := m_X0_weigh) (As := [.int 6, .int 0, .int (-1)]) (b := 98) (st := []) (dx9 := 6) (mc := 0) (ms := 0) (host := "") 0 rfl t_X0_weigh ⟨Or.inl q_11_359, i_X0_weigh.1, i_X0_weigh.2⟩ ⟨by decide, rfl⟩ (congrArg Prod.fst (J.1.1 98 (0, 16) rfl)) rfl (by decide) rfl rfl ⟨by decide, by decide⟩ (sf_X0_weigh_r98d (jr_of jk_6 (by omega)) (jr_of jk_0 (by omega)) (jr_of jk_m1 (by omega)) hD J rfl  (fun v68 h ev68 J S65 X66 X67 => ?_))
            have Sm := jSm_tr rfl Sm S65
            try rw [jk_6] at X66
            try rw [jk_0] at X66
            try rw [jk_m1] at X66
            try rw [jk_6] at X67
            try rw [jk_0] at X67
            try rw [jk_m1] at X67
            try rw [X66] at D
            try rw [X67] at D
            show jX m_X11_feeOf 7 0 0 11 [(0, .ref 31), (1, .int 0), (2, .int (-1))] [.int v68] _ 0 0 _
            refine x_pop rfl rfl ?_
            refine x_lconst (v := 0) rfl kl_0 ?_
            refine x_aloadn (x := 31) rfl rfl ?_
            refine z_getR (N := 13) (b := 98) 11 7 rfl f_11_66 rfl J rfl 3975 ⟨rfl, rfl⟩ rfl ?_
            refine z_getLQ (N := 16) 0 14 rfl f_11_362 rfl J rfl (fun v69 qv69 => ?_)
            have ev69 := jfullL v69
            try rw [vrfL qv69] at D
            refine z_lmax rfl q_11_485 (by decide) rfl jkl_0 rfl (fun v70 ev70 => ?_)
            refine x_lret rfl rfl ?_
            show jX m_X11_fee 8 0 0 86 [(3, .int (-1)), (0, .ref 31), (1, .int a1), (2, .int a2)] [.long v70] _ 0 0 _
            refine x_aloadn (x := 31) rfl rfl ?_
            refine x_iconst (v := 1) rfl ki_1 ?_
            refine x_iloadn (x := (-1)) rfl rfl ?_
            refine x_inv (N := m_X11_feeOf) (As := [.int 1, .int (-1)]) (b := 31) (st := [.long v70]) (dx9 := 7) (mc := 0) (ms := 0) (host := "") 11 rfl t_X11_feeOf ⟨Or.inl q_11_497, i_X11_feeOf.1, i_X11_feeOf.2⟩ ⟨by decide, rfl⟩ (congrArg Prod.fst (J.1.1 31 (11, 13) rfl)) rfl (by decide) rfl rfl ⟨by decide, by decide⟩ (jC.of rfl k_X11_feeOf rfl ?_)
            show jX m_X11_feeOf 7 0 0 0 [(0, .ref 31), (1, .int 1), (2, .int (-1))] [] _ 0 0 _
            refine x_aloadn (x := 31) rfl rfl ?_
            refine z_getR (N := 13) (b := 98) 11 7 rfl f_11_66 rfl J rfl 3975 ⟨rfl, rfl⟩ rfl ?_
            refine x_bipush (v := 6) rfl kb_6 ?_
            refine x_iloadn (x := 1) rfl rfl ?_
            refine x_iloadn (x := (-1)) rfl rfl ?_
            refine x_inv (N := m_X0_weigh) (As := [.int 6, .int 1, .int (-1)]) (b := 98) (st := []) (dx9 := 6) (mc := 0) (ms := 0) (host := "") 0 rfl t_X0_weigh ⟨Or.inl q_11_359, i_X0_weigh.1, i_X0_weigh.2⟩ ⟨by decide, rfl⟩ (congrArg Prod.fst (J.1.1 98 (0, 16) rfl)) rfl (by decide) rfl rfl ⟨by decide, by decide⟩ (sf_X0_weigh_r98d (jr_of jk_6 (by omega)) (jr_of jk_1 (by omega)) (jr_of jk_m1 (by omega)) hD J rfl  (fun v74 h ev74 J S71 X72 X73 => ?_))
            have Sm := jSm_tr rfl Sm S71
            try rw [jk_6] at X72
            try rw [jk_1] at X72
            try rw [jk_m1] at X72
            try rw [jk_6] at X73
            try rw [jk_1] at X73
            try rw [jk_m1] at X73
            try rw [X72] at D
            try rw [X73] at D
            show jX m_X11_feeOf 7 0 0 11 [(0, .ref 31), (1, .int 1), (2, .int (-1))] [.int v74] _ 0 0 _
            refine x_pop rfl rfl ?_
            refine x_lconst (v := 0) rfl kl_0 ?_
            refine x_aloadn (x := 31) rfl rfl ?_
            refine z_getR (N := 13) (b := 98) 11 7 rfl f_11_66 rfl J rfl 3975 ⟨rfl, rfl⟩ rfl ?_
            refine z_getLQ (N := 16) 0 14 rfl f_11_362 rfl J rfl (fun v75 qv75 => ?_)
            have ev75 := jfullL v75
            try rw [vrfL qv75] at D
            refine z_lmax rfl q_11_485 (by decide) rfl jkl_0 rfl (fun v76 ev76 => ?_)
            refine x_lret rfl rfl ?_
            show jX m_X11_fee 8 0 0 92 [(3, .int (-1)), (0, .ref 31), (1, .int a1), (2, .int a2)] [.long v76, .long v70] _ 0 0 _
            refine z_laddW rfl rfl rfl (fun v77 ev77 => ?_)
            have fv77 := jfullL v77
            try rw [show (max 0 v69.toInt) = v70.toInt from by omega] at D
            try rw [show (max 0 v75.toInt) = v76.toInt from by omega] at D
            try rw [← ev77] at D
            refine x_lret rfl rfl ?_
            exact hQ _ _ J Sm ((congrArg Prod.fst D).symm.trans (show v77.toInt = v77.toInt from by omega)) (congrArg Prod.snd D).symm
          rw [if_neg c64] at D
          refine x_lookup (tgt := 101) (off := 47) rfl (by decide) (by simp [Op.lookupswitch.offset]; omega) rfl ?_
          refine x_lconst (v := 0) rfl kl_0 ?_
          refine x_lret rfl rfl ?_
          exact hQ _ _ J Sm ((congrArg Prod.fst D).symm.trans (show 0 = (0 : Int64).toInt from by have := jkl_0; omega)) (congrArg Prod.snd D).symm
        ·
          rw [if_neg (by omega)] at D
          refine x_iloadn (x := v8) rfl rfl ?_
          refine x_sipush (v := 600) rfl ks_600 ?_
          refine x_icge (tgt := 41) rfl rfl (ti_ge rfl jk_600 ⟨fun c78 => ?_, fun c78 => ?_⟩)
          ·
            rw [if_pos (by omega)] at D
            refine x_iconst (v := 0) rfl ki_0 ?_
            refine x_zret rfl rfl (by decide) ?_
            show jX m_X11_soulOn 7 0 0 15 [(0, .ref 31), (1, .int v8), (2, .int a2)] [.int 0] _ 0 0 _
            refine x_ifne (tgt := 20) rfl rfl (ti_ne jk_0 jk_0 (bn_f (by omega) ?_))
            refine x_iconst (v := (-1)) rfl ki_m1 ?_
            refine x_iret rfl rfl ?_
            show jX m_X11_fee 8 0 0 21 [(0, .ref 31), (1, .int a1), (2, .int a2)] [.int (-1)] _ 0 0 _
            refine x_istoren (lsx9 := [(3, .int (-1)), (0, .ref 31), (1, .int a1), (2, .int a2)]) rfl rfl rfl ?_
            refine x_aloadn (x := 31) rfl rfl ?_
            refine z_getR (N := 13) (b := 98) 11 7 rfl f_11_66 rfl J rfl 3975 ⟨rfl, rfl⟩ rfl ?_
            refine x_aloadn (x := 31) rfl rfl ?_
            refine z_getR (N := 13) (b := 32) 11 0 rfl f_11_10 rfl J rfl 3968 ⟨rfl, rfl⟩ rfl ?_
            refine z_getR (N := 20) (b := 33) 1 0 rfl f_11_126 rfl J rfl 4096 ⟨rfl, rfl⟩ rfl ?_
            refine x_iloadn (x := a1) rfl rfl ?_
            refine x_iconst (v := 1) rfl ki_1 ?_
            refine x_inv (N := m_X8_at) (As := [.int a1, .int 1]) (b := 33) (st := [.ref 98]) (dx9 := 1) (mc := 0) (ms := 0) (host := "") 8 rfl t_X8_at ⟨Or.inl q_11_171, i_X8_at.1, i_X8_at.2⟩ ⟨by decide, rfl⟩ (congrArg Prod.fst (J.1.1 33 (8, 4) rfl)) rfl (by decide) rfl rfl ⟨by decide, by decide⟩ (sf_X8_at_r33_c1d  hD J rfl  (fun v82 h ev82 J S79 X80 X81 => ?_))
            have Sm := jSm_tr rfl Sm S79
            try rw [X80] at D
            try rw [← X81] at D
            show jX m_X11_fee 8 0 0 38 [(3, .int (-1)), (0, .ref 31), (1, .int a1), (2, .int a2)] [.int v82, .ref 98] _ 0 0 _
            refine x_iloadn (x := a2) rfl rfl ?_
            refine x_inv (N := m_X0_turnTo) (As := [.int v82, .int a2]) (b := 98) (st := []) (dx9 := 7) (mc := 0) (ms := 0) (host := "") 0 rfl t_X0_turnTo ⟨Or.inl q_11_345, i_X0_turnTo.1, i_X0_turnTo.2⟩ ⟨by decide, rfl⟩ (congrArg Prod.fst (J.1.1 98 (0, 16) rfl)) rfl (by decide) rfl rfl ⟨by decide, by decide⟩ (jC.of rfl k_X0_turnTo rfl ?_)
            show jX m_X0_turnTo 7 0 0 0 [(0, .ref 98), (1, .int v82), (2, .int a2)] [] _ 0 0 _
            refine x_aloadn (x := 98) rfl rfl ?_
            refine x_iloadn (x := v82) rfl rfl ?_
            refine x_iloadn (x := a2) rfl rfl ?_
            refine x_inv (N := m_X0_readLaws) (As := [.int v82, .int a2]) (b := 98) (st := []) (dx9 := 3) (mc := 0) (ms := 0) (host := "") 0 rfl t_X0_readLaws ⟨Or.inl q_0_65, i_X0_readLaws.1, i_X0_readLaws.2⟩ ⟨by decide, rfl⟩ (congrArg Prod.fst (J.1.1 98 (0, 16) rfl)) rfl (by decide) rfl rfl ⟨by decide, by decide⟩ (sf_X0_readLaws_r98d (jr_of rfl (by omega)) (jr_of rfl (by omega)) hD J rfl  (fun h J S83 X84 => ?_))
            have Sm := jSm_tr rfl Sm S83
            rw [X84] at D
            show jX m_X0_turnTo 7 0 0 6 [(0, .ref 98), (1, .int v82), (2, .int a2)] [] _ 0 0 _
            refine x_aloadn (x := 98) rfl rfl ?_
            refine x_iloadn (x := v82) rfl rfl ?_
            refine x_iloadn (x := a2) rfl rfl ?_
            refine x_inv (N := m_X0_readHouses) (As := [.int v82, .int a2]) (b := 98) (st := []) (dx9 := 3) (mc := 0) (ms := 0) (host := "") 0 rfl t_X0_readHouses ⟨Or.inl q_0_69, i_X0_readHouses.1, i_X0_readHouses.2⟩ ⟨by decide, rfl⟩ (congrArg Prod.fst (J.1.1 98 (0, 16) rfl)) rfl (by decide) rfl rfl ⟨by decide, by decide⟩ (sf_X0_readHouses_r98d (jr_of rfl (by omega)) (jr_of rfl (by omega)) hD J rfl  (fun h J S85 X86 => ?_))
            have Sm := jSm_tr rfl Sm S85
            rw [X86] at D
            show jX m_X0_turnTo 7 0 0 12 [(0, .ref 98), (1, .int v82), (2, .int a2)] [] _ 0 0 _
            refine x_vret rfl rfl ?_
            show jX m_X11_fee 8 0 0 42 [(3, .int (-1)), (0, .ref 31), (1, .int a1), (2, .int a2)] [] _ 0 0 _
            refine x_aloadn (x := 31) rfl rfl ?_
            refine z_getR (N := 13) (b := 32) 11 0 rfl f_11_10 rfl J rfl 3968 ⟨rfl, rfl⟩ rfl ?_
            refine z_getR (N := 20) (b := 33) 1 0 rfl f_11_126 rfl J rfl 4096 ⟨rfl, rfl⟩ rfl ?_
            refine x_iloadn (x := a1) rfl rfl ?_
            refine x_iconst (v := 2) rfl ki_2 ?_
            refine x_inv (N := m_X8_at) (As := [.int a1, .int 2]) (b := 33) (st := []) (dx9 := 1) (mc := 0) (ms := 0) (host := "") 8 rfl t_X8_at ⟨Or.inl q_11_171, i_X8_at.1, i_X8_at.2⟩ ⟨by decide, rfl⟩ (congrArg Prod.fst (J.1.1 33 (8, 4) rfl)) rfl (by decide) rfl rfl ⟨by decide, by decide⟩ (sf_X8_at_r33_c2d  hD J rfl  (fun v90 h ev90 J S87 X88 X89 => ?_))
            have Sm := jSm_tr rfl Sm S87
            try rw [X88] at D
            try rw [← X89] at D
            show jX m_X11_fee 8 0 0 54 [(3, .int (-1)), (0, .ref 31), (1, .int a1), (2, .int a2)] [.int v90] _ 0 0 _
            by_cases c91 : v90.toInt = 1
            ·
              refine x_lookup (tgt := 94) (off := 40) rfl (by decide) (by rw [show (v90).toInt = 1 from c91]; decide) rfl ?_
              rw [if_pos c91] at D
              refine x_aloadn (x := 31) rfl rfl ?_
              refine x_iconst (v := 2) rfl ki_2 ?_
              refine x_iloadn (x := (-1)) rfl rfl ?_
              refine x_inv (N := m_X11_feeOf) (As := [.int 2, .int (-1)]) (b := 31) (st := []) (dx9 := 7) (mc := 0) (ms := 0) (host := "") 11 rfl t_X11_feeOf ⟨Or.inl q_11_497, i_X11_feeOf.1, i_X11_feeOf.2⟩ ⟨by decide, rfl⟩ (congrArg Prod.fst (J.1.1 31 (11, 13) rfl)) rfl (by decide) rfl rfl ⟨by decide, by decide⟩ (jC.of rfl k_X11_feeOf rfl ?_)
              show jX m_X11_feeOf 7 0 0 0 [(0, .ref 31), (1, .int 2), (2, .int (-1))] [] _ 0 0 _
              refine x_aloadn (x := 31) rfl rfl ?_
              refine z_getR (N := 13) (b := 98) 11 7 rfl f_11_66 rfl J rfl 3975 ⟨rfl, rfl⟩ rfl ?_
              refine x_bipush (v := 6) rfl kb_6 ?_
              refine x_iloadn (x := 2) rfl rfl ?_
              refine x_iloadn (x := (-1)) rfl rfl ?_
              refine x_inv (N := m_X0_weigh) (As := [.int 6, .int 2, .int (-1)]) (b := 98) (st := []) (dx9 := 6) (mc := 0) (ms := 0) (host := "") 0 rfl t_X0_weigh ⟨Or.inl q_11_359, i_X0_weigh.1, i_X0_weigh.2⟩ ⟨by decide, rfl⟩ (congrArg Prod.fst (J.1.1 98 (0, 16) rfl)) rfl (by decide) rfl rfl ⟨by decide, by decide⟩ (sf_X0_weigh_r98d (jr_of jk_6 (by omega)) (jr_of jk_2 (by omega)) (jr_of jk_m1 (by omega)) hD J rfl  (fun v95 h ev95 J S92 X93 X94 => ?_))
              have Sm := jSm_tr rfl Sm S92
              try rw [jk_6] at X93
              try rw [jk_2] at X93
              try rw [jk_m1] at X93
              try rw [jk_6] at X94
              try rw [jk_2] at X94
              try rw [jk_m1] at X94
              try rw [X93] at D
              try rw [X94] at D
              show jX m_X11_feeOf 7 0 0 11 [(0, .ref 31), (1, .int 2), (2, .int (-1))] [.int v95] _ 0 0 _
              refine x_pop rfl rfl ?_
              refine x_lconst (v := 0) rfl kl_0 ?_
              refine x_aloadn (x := 31) rfl rfl ?_
              refine z_getR (N := 13) (b := 98) 11 7 rfl f_11_66 rfl J rfl 3975 ⟨rfl, rfl⟩ rfl ?_
              refine z_getLQ (N := 16) 0 14 rfl f_11_362 rfl J rfl (fun v96 qv96 => ?_)
              have ev96 := jfullL v96
              try rw [vrfL qv96] at D
              refine z_lmax rfl q_11_485 (by decide) rfl jkl_0 rfl (fun v97 ev97 => ?_)
              refine x_lret rfl rfl ?_
              show jX m_X11_fee 8 0 0 100 [(3, .int (-1)), (0, .ref 31), (1, .int a1), (2, .int a2)] [.long v97] _ 0 0 _
              refine x_lret rfl rfl ?_
              try rw [show (max 0 v96.toInt) = v97.toInt from by omega] at D
              exact hQ _ _ J Sm ((congrArg Prod.fst D).symm.trans (show v97.toInt = v97.toInt from by omega)) (congrArg Prod.snd D).symm
            rw [if_neg c91] at D
            by_cases c98 : v90.toInt = 2
            ·
              refine x_lookup (tgt := 80) (off := 26) rfl (by decide) (by rw [show (v90).toInt = 2 from c98]; decide) rfl ?_
              rw [if_pos c98] at D
              refine x_aloadn (x := 31) rfl rfl ?_
              refine x_iconst (v := 0) rfl ki_0 ?_
              refine x_iloadn (x := (-1)) rfl rfl ?_
              refine x_inv (N := m_X11_feeOf) (As := [.int 0, .int (-1)]) (b := 31) (st := []) (dx9 := 7) (mc := 0) (ms := 0) (host := "") 11 rfl t_X11_feeOf ⟨Or.inl q_11_497, i_X11_feeOf.1, i_X11_feeOf.2⟩ ⟨by decide, rfl⟩ (congrArg Prod.fst (J.1.1 31 (11, 13) rfl)) rfl (by decide) rfl rfl ⟨by decide, by decide⟩ (jC.of rfl k_X11_feeOf rfl ?_)
              show jX m_X11_feeOf 7 0 0 0 [(0, .ref 31), (1, .int 0), (2, .int (-1))] [] _ 0 0 _
              refine x_aloadn (x := 31) rfl rfl ?_
              refine z_getR (N := 13) (b := 98) 11 7 rfl f_11_66 rfl J rfl 3975 ⟨rfl, rfl⟩ rfl ?_
              refine x_bipush (v := 6) rfl kb_6 ?_
              refine x_iloadn (x := 0) rfl rfl ?_
              refine x_iloadn (x := (-1)) rfl rfl ?_
              refine x_inv (N := m_X0_weigh) (As := [.int 6, .int 0, .int (-1)]) (b := 98) (st := []) (dx9 := 6) (mc := 0) (ms := 0) (host := "") 0 rfl t_X0_weigh ⟨Or.inl q_11_359, i_X0_weigh.1, i_X0_weigh.2⟩ ⟨by decide, rfl⟩ (congrArg Prod.fst (J.1.1 98 (0, 16) rfl)) rfl (by decide) rfl rfl ⟨by decide, by decide⟩ (sf_X0_weigh_r98d (jr_of jk_6 (by omega)) (jr_of jk_0 (by omega)) (jr_of jk_m1 (by omega)) hD J rfl  (fun v102 h ev102 J S99 X100 X101 => ?_))
              have Sm := jSm_tr rfl Sm S99
              try rw [jk_6] at X100
              try rw [jk_0] at X100
              try rw [jk_m1] at X100
              try rw [jk_6] at X101
              try rw [jk_0] at X101
              try rw [jk_m1] at X101
              try rw [X100] at D
              try rw [X101] at D
              show jX m_X11_feeOf 7 0 0 11 [(0, .ref 31), (1, .int 0), (2, .int (-1))] [.int v102] _ 0 0 _
              refine x_pop rfl rfl ?_
              refine x_lconst (v := 0) rfl kl_0 ?_
              refine x_aloadn (x := 31) rfl rfl ?_
              refine z_getR (N := 13) (b := 98) 11 7 rfl f_11_66 rfl J rfl 3975 ⟨rfl, rfl⟩ rfl ?_
              refine z_getLQ (N := 16) 0 14 rfl f_11_362 rfl J rfl (fun v103 qv103 => ?_)
              have ev103 := jfullL v103
              try rw [vrfL qv103] at D
              refine z_lmax rfl q_11_485 (by decide) rfl jkl_0 rfl (fun v104 ev104 => ?_)
              refine x_lret rfl rfl ?_
              show jX m_X11_fee 8 0 0 86 [(3, .int (-1)), (0, .ref 31), (1, .int a1), (2, .int a2)] [.long v104] _ 0 0 _
              refine x_aloadn (x := 31) rfl rfl ?_
              refine x_iconst (v := 1) rfl ki_1 ?_
              refine x_iloadn (x := (-1)) rfl rfl ?_
              refine x_inv (N := m_X11_feeOf) (As := [.int 1, .int (-1)]) (b := 31) (st := [.long v104]) (dx9 := 7) (mc := 0) (ms := 0) (host := "") 11 rfl t_X11_feeOf ⟨Or.inl q_11_497, i_X11_feeOf.1, i_X11_feeOf.2⟩ ⟨by decide, rfl⟩ (congrArg Prod.fst (J.1.1 31 (11, 13) rfl)) rfl (by decide) rfl rfl ⟨by decide, by decide⟩ (jC.of rfl k_X11_feeOf rfl ?_)
              show jX m_X11_feeOf 7 0 0 0 [(0, .ref 31), (1, .int 1), (2, .int (-1))] [] _ 0 0 _
              refine x_aloadn (x := 31) rfl rfl ?_
              refine z_getR (N := 13) (b := 98) 11 7 rfl f_11_66 rfl J rfl 3975 ⟨rfl, rfl⟩ rfl ?_
              refine x_bipush (v := 6) rfl kb_6 ?_
              refine x_iloadn (x := 1) rfl rfl ?_
              refine x_iloadn (x := (-1)) rfl rfl ?_
              refine x_inv (N := m_X0_weigh) (As := [.int 6, .int 1, .int (-1)]) (b := 98) (st := []) (dx9 := 6) (mc := 0) (ms := 0) (host := "") 0 rfl t_X0_weigh ⟨Or.inl q_11_359, i_X0_weigh.1, i_X0_weigh.2⟩ ⟨by decide, rfl⟩ (congrArg Prod.fst (J.1.1 98 (0, 16) rfl)) rfl (by decide) rfl rfl ⟨by decide, by decide⟩ (sf_X0_weigh_r98d (jr_of jk_6 (by omega)) (jr_of jk_1 (by omega)) (jr_of jk_m1 (by omega)) hD J rfl  (fun v108 h ev108 J S105 X106 X107 => ?_))
              have Sm := jSm_tr rfl Sm S105
              try rw [jk_6] at X106
              try rw [jk_1] at X106
              try rw [jk_m1] at X106
              try rw [jk_6] at X107
              try rw [jk_1] at X107
              try rw [jk_m1] at X107
              try rw [X106] at D
              try rw [X107] at D
              show jX m_X11_feeOf 7 0 0 11 [(0, .ref 31), (1, .int 1), (2, .int (-1))] [.int v108] _ 0 0 _
              refine x_pop rfl rfl ?_
              refine x_lconst (v := 0) rfl kl_0 ?_
              refine x_aloadn (x := 31) rfl rfl ?_
              refine z_getR (N := 13) (b := 98) 11 7 rfl f_11_66 rfl J rfl 3975 ⟨rfl, rfl⟩ rfl ?_
              refine z_getLQ (N := 16) 0 14 rfl f_11_362 rfl J rfl (fun v109 qv109 => ?_)
              have ev109 := jfullL v109
              try rw [vrfL qv109] at D
              refine z_lmax rfl q_11_485 (by decide) rfl jkl_0 rfl (fun v110 ev110 => ?_)
              refine x_lret rfl rfl ?_
              show jX m_X11_fee 8 0 0 92 [(3, .int (-1)), (0, .ref 31), (1, .int a1), (2, .int a2)] [.long v110, .long v104] _ 0 0 _
              refine z_laddW rfl rfl rfl (fun v111 ev111 => ?_)
              have fv111 := jfullL v111
              try rw [show (max 0 v103.toInt) = v104.toInt from by omega] at D
              try rw [show (max 0 v109.toInt) = v110.toInt from by omega] at D
              try rw [← ev111] at D
              refine x_lret rfl rfl ?_
              exact hQ _ _ J Sm ((congrArg Prod.fst D).symm.trans (show v111.toInt = v111.toInt from by omega)) (congrArg Prod.snd D).symm
            rw [if_neg c98] at D
            refine x_lookup (tgt := 101) (off := 47) rfl (by decide) (by simp [Op.lookupswitch.offset]; omega) rfl ?_
            refine x_lconst (v := 0) rfl kl_0 ?_
            refine x_lret rfl rfl ?_
            exact hQ _ _ J Sm ((congrArg Prod.fst D).symm.trans (show 0 = (0 : Int64).toInt from by have := jkl_0; omega)) (congrArg Prod.snd D).symm
          ·
            rw [if_neg (by omega)] at D
            refine x_iloadn (x := v8) rfl rfl ?_
            refine x_iconst (v := 3) rfl ki_3 ?_
            refine z_idiv rfl rfl jk_3 (by omega) (by omega) (fun v112 ev112 => ?_)
            refine x_aloadn (x := 78) rfl rfl ?_
            refine z_getR (N := 16) (b := 32) 7 0 rfl f_7_55 rfl J rfl 9984 ⟨rfl, rfl⟩ rfl ?_
            refine z_getR (N := 20) (b := 33) 1 0 rfl f_7_63 rfl J rfl 4096 ⟨rfl, rfl⟩ rfl ?_
            refine z_getI (N := 4) 8 3 rfl f_7_85 rfl J rfl sg_33_3_4_1_0_1 (fun v113 qv113 ev113 => ?_)
            try rw [vrf qv113] at D
            refine x_icge (tgt := 41) rfl rfl (ti_ge rfl rfl ⟨fun c114 => ?_, fun c114 => ?_⟩)
            ·
              rw [if_pos (by omega)] at D
              refine x_iconst (v := 0) rfl ki_0 ?_
              refine x_zret rfl rfl (by decide) ?_
              show jX m_X11_soulOn 7 0 0 15 [(0, .ref 31), (1, .int v8), (2, .int a2)] [.int 0] _ 0 0 _
              refine x_ifne (tgt := 20) rfl rfl (ti_ne jk_0 jk_0 (bn_f (by omega) ?_))
              refine x_iconst (v := (-1)) rfl ki_m1 ?_
              refine x_iret rfl rfl ?_
              show jX m_X11_fee 8 0 0 21 [(0, .ref 31), (1, .int a1), (2, .int a2)] [.int (-1)] _ 0 0 _
              refine x_istoren (lsx9 := [(3, .int (-1)), (0, .ref 31), (1, .int a1), (2, .int a2)]) rfl rfl rfl ?_
              refine x_aloadn (x := 31) rfl rfl ?_
              refine z_getR (N := 13) (b := 98) 11 7 rfl f_11_66 rfl J rfl 3975 ⟨rfl, rfl⟩ rfl ?_
              refine x_aloadn (x := 31) rfl rfl ?_
              refine z_getR (N := 13) (b := 32) 11 0 rfl f_11_10 rfl J rfl 3968 ⟨rfl, rfl⟩ rfl ?_
              refine z_getR (N := 20) (b := 33) 1 0 rfl f_11_126 rfl J rfl 4096 ⟨rfl, rfl⟩ rfl ?_
              refine x_iloadn (x := a1) rfl rfl ?_
              refine x_iconst (v := 1) rfl ki_1 ?_
              refine x_inv (N := m_X8_at) (As := [.int a1, .int 1]) (b := 33) (st := [.ref 98]) (dx9 := 1) (mc := 0) (ms := 0) (host := "") 8 rfl t_X8_at ⟨Or.inl q_11_171, i_X8_at.1, i_X8_at.2⟩ ⟨by decide, rfl⟩ (congrArg Prod.fst (J.1.1 33 (8, 4) rfl)) rfl (by decide) rfl rfl ⟨by decide, by decide⟩ (sf_X8_at_r33_c1d  hD J rfl  (fun v118 h ev118 J S115 X116 X117 => ?_))
              have Sm := jSm_tr rfl Sm S115
              try rw [X116] at D
              try rw [← X117] at D
              show jX m_X11_fee 8 0 0 38 [(3, .int (-1)), (0, .ref 31), (1, .int a1), (2, .int a2)] [.int v118, .ref 98] _ 0 0 _
              refine x_iloadn (x := a2) rfl rfl ?_
              refine x_inv (N := m_X0_turnTo) (As := [.int v118, .int a2]) (b := 98) (st := []) (dx9 := 7) (mc := 0) (ms := 0) (host := "") 0 rfl t_X0_turnTo ⟨Or.inl q_11_345, i_X0_turnTo.1, i_X0_turnTo.2⟩ ⟨by decide, rfl⟩ (congrArg Prod.fst (J.1.1 98 (0, 16) rfl)) rfl (by decide) rfl rfl ⟨by decide, by decide⟩ (jC.of rfl k_X0_turnTo rfl ?_)
              show jX m_X0_turnTo 7 0 0 0 [(0, .ref 98), (1, .int v118), (2, .int a2)] [] _ 0 0 _
              refine x_aloadn (x := 98) rfl rfl ?_
              refine x_iloadn (x := v118) rfl rfl ?_
              refine x_iloadn (x := a2) rfl rfl ?_
              refine x_inv (N := m_X0_readLaws) (As := [.int v118, .int a2]) (b := 98) (st := []) (dx9 := 3) (mc := 0) (ms := 0) (host := "") 0 rfl t_X0_readLaws ⟨Or.inl q_0_65, i_X0_readLaws.1, i_X0_readLaws.2⟩ ⟨by decide, rfl⟩ (congrArg Prod.fst (J.1.1 98 (0, 16) rfl)) rfl (by decide) rfl rfl ⟨by decide, by decide⟩ (sf_X0_readLaws_r98d (jr_of rfl (by omega)) (jr_of rfl (by omega)) hD J rfl  (fun h J S119 X120 => ?_))
              have Sm := jSm_tr rfl Sm S119
              rw [X120] at D
              show jX m_X0_turnTo 7 0 0 6 [(0, .ref 98), (1, .int v118), (2, .int a2)] [] _ 0 0 _
              refine x_aloadn (x := 98) rfl rfl ?_
              refine x_iloadn (x := v118) rfl rfl ?_
              refine x_iloadn (x := a2) rfl rfl ?_
              refine x_inv (N := m_X0_readHouses) (As := [.int v118, .int a2]) (b := 98) (st := []) (dx9 := 3) (mc := 0) (ms := 0) (host := "") 0 rfl t_X0_readHouses ⟨Or.inl q_0_69, i_X0_readHouses.1, i_X0_readHouses.2⟩ ⟨by decide, rfl⟩ (congrArg Prod.fst (J.1.1 98 (0, 16) rfl)) rfl (by decide) rfl rfl ⟨by decide, by decide⟩ (sf_X0_readHouses_r98d (jr_of rfl (by omega)) (jr_of rfl (by omega)) hD J rfl  (fun h J S121 X122 => ?_))
              have Sm := jSm_tr rfl Sm S121
              rw [X122] at D
              show jX m_X0_turnTo 7 0 0 12 [(0, .ref 98), (1, .int v118), (2, .int a2)] [] _ 0 0 _
              refine x_vret rfl rfl ?_
              show jX m_X11_fee 8 0 0 42 [(3, .int (-1)), (0, .ref 31), (1, .int a1), (2, .int a2)] [] _ 0 0 _
              refine x_aloadn (x := 31) rfl rfl ?_
              refine z_getR (N := 13) (b := 32) 11 0 rfl f_11_10 rfl J rfl 3968 ⟨rfl, rfl⟩ rfl ?_
              refine z_getR (N := 20) (b := 33) 1 0 rfl f_11_126 rfl J rfl 4096 ⟨rfl, rfl⟩ rfl ?_
              refine x_iloadn (x := a1) rfl rfl ?_
              refine x_iconst (v := 2) rfl ki_2 ?_
              refine x_inv (N := m_X8_at) (As := [.int a1, .int 2]) (b := 33) (st := []) (dx9 := 1) (mc := 0) (ms := 0) (host := "") 8 rfl t_X8_at ⟨Or.inl q_11_171, i_X8_at.1, i_X8_at.2⟩ ⟨by decide, rfl⟩ (congrArg Prod.fst (J.1.1 33 (8, 4) rfl)) rfl (by decide) rfl rfl ⟨by decide, by decide⟩ (sf_X8_at_r33_c2d  hD J rfl  (fun v126 h ev126 J S123 X124 X125 => ?_))
              have Sm := jSm_tr rfl Sm S123
              try rw [X124] at D
              try rw [← X125] at D
              show jX m_X11_fee 8 0 0 54 [(3, .int (-1)), (0, .ref 31), (1, .int a1), (2, .int a2)] [.int v126] _ 0 0 _
              by_cases c127 : v126.toInt = 1
              ·
                refine x_lookup (tgt := 94) (off := 40) rfl (by decide) (by rw [show (v126).toInt = 1 from c127]; decide) rfl ?_
                rw [if_pos c127] at D
                refine x_aloadn (x := 31) rfl rfl ?_
                refine x_iconst (v := 2) rfl ki_2 ?_
                refine x_iloadn (x := (-1)) rfl rfl ?_
                refine x_inv (N := m_X11_feeOf) (As := [.int 2, .int (-1)]) (b := 31) (st := []) (dx9 := 7) (mc := 0) (ms := 0) (host := "") 11 rfl t_X11_feeOf ⟨Or.inl q_11_497, i_X11_feeOf.1, i_X11_feeOf.2⟩ ⟨by decide, rfl⟩ (congrArg Prod.fst (J.1.1 31 (11, 13) rfl)) rfl (by decide) rfl rfl ⟨by decide, by decide⟩ (jC.of rfl k_X11_feeOf rfl ?_)
                show jX m_X11_feeOf 7 0 0 0 [(0, .ref 31), (1, .int 2), (2, .int (-1))] [] _ 0 0 _
                refine x_aloadn (x := 31) rfl rfl ?_
                refine z_getR (N := 13) (b := 98) 11 7 rfl f_11_66 rfl J rfl 3975 ⟨rfl, rfl⟩ rfl ?_
                refine x_bipush (v := 6) rfl kb_6 ?_
                refine x_iloadn (x := 2) rfl rfl ?_
                refine x_iloadn (x := (-1)) rfl rfl ?_
                refine x_inv (N := m_X0_weigh) (As := [.int 6, .int 2, .int (-1)]) (b := 98) (st := []) (dx9 := 6) (mc := 0) (ms := 0) (host := "") 0 rfl t_X0_weigh ⟨Or.inl q_11_359, i_X0_weigh.1, i_X0_weigh.2⟩ ⟨by decide, rfl⟩ (congrArg Prod.fst (J.1.1 98 (0, 16) rfl)) rfl (by decide) rfl rfl ⟨by decide, by decide⟩ (sf_X0_weigh_r98d (jr_of jk_6 (by omega)) (jr_of jk_2 (by omega)) (jr_of jk_m1 (by omega)) hD J rfl  (fun v131 h ev131 J S128 X129 X130 => ?_))
                have Sm := jSm_tr rfl Sm S128
                try rw [jk_6] at X129
                try rw [jk_2] at X129
                try rw [jk_m1] at X129
                try rw [jk_6] at X130
                try rw [jk_2] at X130
                try rw [jk_m1] at X130
                try rw [X129] at D
                try rw [X130] at D
                show jX m_X11_feeOf 7 0 0 11 [(0, .ref 31), (1, .int 2), (2, .int (-1))] [.int v131] _ 0 0 _
                refine x_pop rfl rfl ?_
                refine x_lconst (v := 0) rfl kl_0 ?_
                refine x_aloadn (x := 31) rfl rfl ?_
                refine z_getR (N := 13) (b := 98) 11 7 rfl f_11_66 rfl J rfl 3975 ⟨rfl, rfl⟩ rfl ?_
                refine z_getLQ (N := 16) 0 14 rfl f_11_362 rfl J rfl (fun v132 qv132 => ?_)
                have ev132 := jfullL v132
                try rw [vrfL qv132] at D
                refine z_lmax rfl q_11_485 (by decide) rfl jkl_0 rfl (fun v133 ev133 => ?_)
                refine x_lret rfl rfl ?_
                show jX m_X11_fee 8 0 0 100 [(3, .int (-1)), (0, .ref 31), (1, .int a1), (2, .int a2)] [.long v133] _ 0 0 _
                refine x_lret rfl rfl ?_
                try rw [show (max 0 v132.toInt) = v133.toInt from by omega] at D
                exact hQ _ _ J Sm ((congrArg Prod.fst D).symm.trans (show v133.toInt = v133.toInt from by omega)) (congrArg Prod.snd D).symm
              rw [if_neg c127] at D
              by_cases c134 : v126.toInt = 2
              ·
                refine x_lookup (tgt := 80) (off := 26) rfl (by decide) (by rw [show (v126).toInt = 2 from c134]; decide) rfl ?_
                rw [if_pos c134] at D
                refine x_aloadn (x := 31) rfl rfl ?_
                refine x_iconst (v := 0) rfl ki_0 ?_
                refine x_iloadn (x := (-1)) rfl rfl ?_
                refine x_inv (N := m_X11_feeOf) (As := [.int 0, .int (-1)]) (b := 31) (st := []) (dx9 := 7) (mc := 0) (ms := 0) (host := "") 11 rfl t_X11_feeOf ⟨Or.inl q_11_497, i_X11_feeOf.1, i_X11_feeOf.2⟩ ⟨by decide, rfl⟩ (congrArg Prod.fst (J.1.1 31 (11, 13) rfl)) rfl (by decide) rfl rfl ⟨by decide, by decide⟩ (jC.of rfl k_X11_feeOf rfl ?_)
                show jX m_X11_feeOf 7 0 0 0 [(0, .ref 31), (1, .int 0), (2, .int (-1))] [] _ 0 0 _
                refine x_aloadn (x := 31) rfl rfl ?_
                refine z_getR (N := 13) (b := 98) 11 7 rfl f_11_66 rfl J rfl 3975 ⟨rfl, rfl⟩ rfl ?_
                refine x_bipush (v := 6) rfl kb_6 ?_
                refine x_iloadn (x := 0) rfl rfl ?_
                refine x_iloadn (x := (-1)) rfl rfl ?_
                refine x_inv (N := m_X0_weigh) (As := [.int 6, .int 0, .int (-1)]) (b := 98) (st := []) (dx9 := 6) (mc := 0) (ms := 0) (host := "") 0 rfl t_X0_weigh ⟨Or.inl q_11_359, i_X0_weigh.1, i_X0_weigh.2⟩ ⟨by decide, rfl⟩ (congrArg Prod.fst (J.1.1 98 (0, 16) rfl)) rfl (by decide) rfl rfl ⟨by decide, by decide⟩ (sf_X0_weigh_r98d (jr_of jk_6 (by omega)) (jr_of jk_0 (by omega)) (jr_of jk_m1 (by omega)) hD J rfl  (fun v138 h ev138 J S135 X136 X137 => ?_))
                have Sm := jSm_tr rfl Sm S135
                try rw [jk_6] at X136
                try rw [jk_0] at X136
                try rw [jk_m1] at X136
                try rw [jk_6] at X137
                try rw [jk_0] at X137
                try rw [jk_m1] at X137
                try rw [X136] at D
                try rw [X137] at D
                show jX m_X11_feeOf 7 0 0 11 [(0, .ref 31), (1, .int 0), (2, .int (-1))] [.int v138] _ 0 0 _
                refine x_pop rfl rfl ?_
                refine x_lconst (v := 0) rfl kl_0 ?_
                refine x_aloadn (x := 31) rfl rfl ?_
                refine z_getR (N := 13) (b := 98) 11 7 rfl f_11_66 rfl J rfl 3975 ⟨rfl, rfl⟩ rfl ?_
                refine z_getLQ (N := 16) 0 14 rfl f_11_362 rfl J rfl (fun v139 qv139 => ?_)
                have ev139 := jfullL v139
                try rw [vrfL qv139] at D
                refine z_lmax rfl q_11_485 (by decide) rfl jkl_0 rfl (fun v140 ev140 => ?_)
                refine x_lret rfl rfl ?_
                show jX m_X11_fee 8 0 0 86 [(3, .int (-1)), (0, .ref 31), (1, .int a1), (2, .int a2)] [.long v140] _ 0 0 _
                refine x_aloadn (x := 31) rfl rfl ?_
                refine x_iconst (v := 1) rfl ki_1 ?_
                refine x_iloadn (x := (-1)) rfl rfl ?_
                refine x_inv (N := m_X11_feeOf) (As := [.int 1, .int (-1)]) (b := 31) (st := [.long v140]) (dx9 := 7) (mc := 0) (ms := 0) (host := "") 11 rfl t_X11_feeOf ⟨Or.inl q_11_497, i_X11_feeOf.1, i_X11_feeOf.2⟩ ⟨by decide, rfl⟩ (congrArg Prod.fst (J.1.1 31 (11, 13) rfl)) rfl (by decide) rfl rfl ⟨by decide, by decide⟩ (jC.of rfl k_X11_feeOf rfl ?_)
                show jX m_X11_feeOf 7 0 0 0 [(0, .ref 31), (1, .int 1), (2, .int (-1))] [] _ 0 0 _
                refine x_aloadn (x := 31) rfl rfl ?_
                refine z_getR (N := 13) (b := 98) 11 7 rfl f_11_66 rfl J rfl 3975 ⟨rfl, rfl⟩ rfl ?_
                refine x_bipush (v := 6) rfl kb_6 ?_
                refine x_iloadn (x := 1) rfl rfl ?_
                refine x_iloadn (x := (-1)) rfl rfl ?_
                refine x_inv (N := m_X0_weigh) (As := [.int 6, .int 1, .int (-1)]) (b := 98) (st := []) (dx9 := 6) (mc := 0) (ms := 0) (host := "") 0 rfl t_X0_weigh ⟨Or.inl q_11_359, i_X0_weigh.1, i_X0_weigh.2⟩ ⟨by decide, rfl⟩ (congrArg Prod.fst (J.1.1 98 (0, 16) rfl)) rfl (by decide) rfl rfl ⟨by decide, by decide⟩ (sf_X0_weigh_r98d (jr_of jk_6 (by omega)) (jr_of jk_1 (by omega)) (jr_of jk_m1 (by omega)) hD J rfl  (fun v144 h ev144 J S141 X142 X143 => ?_))
                have Sm := jSm_tr rfl Sm S141
                try rw [jk_6] at X142
                try rw [jk_1] at X142
                try rw [jk_m1] at X142
                try rw [jk_6] at X143
                try rw [jk_1] at X143
                try rw [jk_m1] at X143
                try rw [X142] at D
                try rw [X143] at D
                show jX m_X11_feeOf 7 0 0 11 [(0, .ref 31), (1, .int 1), (2, .int (-1))] [.int v144] _ 0 0 _
                refine x_pop rfl rfl ?_
                refine x_lconst (v := 0) rfl kl_0 ?_
                refine x_aloadn (x := 31) rfl rfl ?_
                refine z_getR (N := 13) (b := 98) 11 7 rfl f_11_66 rfl J rfl 3975 ⟨rfl, rfl⟩ rfl ?_
                refine z_getLQ (N := 16) 0 14 rfl f_11_362 rfl J rfl (fun v145 qv145 => ?_)
                have ev145 := jfullL v145
                try rw [vrfL qv145] at D
                refine z_lmax rfl q_11_485 (by decide) rfl jkl_0 rfl (fun v146 ev146 => ?_)
                refine x_lret rfl rfl ?_
                show jX m_X11_fee 8 0 0 92 [(3, .int (-1)), (0, .ref 31), (1, .int a1), (2, .int a2)] [.long v146, .long v140] _ 0 0 _
                refine z_laddW rfl rfl rfl (fun v147 ev147 => ?_)
                have fv147 := jfullL v147
                try rw [show (max 0 v139.toInt) = v140.toInt from by omega] at D
                try rw [show (max 0 v145.toInt) = v146.toInt from by omega] at D
                try rw [← ev147] at D
                refine x_lret rfl rfl ?_
                exact hQ _ _ J Sm ((congrArg Prod.fst D).symm.trans (show v147.toInt = v147.toInt from by omega)) (congrArg Prod.snd D).symm
              rw [if_neg c134] at D
              refine x_lookup (tgt := 101) (off := 47) rfl (by decide) (by simp [Op.lookupswitch.offset]; omega) rfl ?_
              refine x_lconst (v := 0) rfl kl_0 ?_
              refine x_lret rfl rfl ?_
              exact hQ _ _ J Sm ((congrArg Prod.fst D).symm.trans (show 0 = (0 : Int64).toInt from by have := jkl_0; omega)) (congrArg Prod.snd D).symm
            ·
              rw [if_neg (by omega)] at D
              refine x_aloadn (x := 78) rfl rfl ?_
              refine z_getR (N := 16) (b := 79) 7 7 rfl f_7_27 rfl J rfl 9991 ⟨rfl, rfl⟩ rfl ?_
              refine x_iloadn (x := v8) rfl rfl ?_
              refine z_iald (N := 600) rfl J rfl sg_79_0_600_1_0_1 rfl (by omega) (fun v148 qv148 ev148 => ?_)
              try rw [vrd qv148 (show v8.toInt = v8.toInt from by omega)] at D
              refine x_iconst (v := (-1)) rfl ki_m1 ?_
              refine x_iceq (tgt := 41) rfl rfl (ti_eq rfl jk_m1 ⟨fun c149 => ?_, fun c149 => ?_⟩)
              ·
                rw [if_pos (by omega)] at D
                refine x_iconst (v := 0) rfl ki_0 ?_
                refine x_zret rfl rfl (by decide) ?_
                show jX m_X11_soulOn 7 0 0 15 [(0, .ref 31), (1, .int v8), (2, .int a2)] [.int 0] _ 0 0 _
                refine x_ifne (tgt := 20) rfl rfl (ti_ne jk_0 jk_0 (bn_f (by omega) ?_))
                refine x_iconst (v := (-1)) rfl ki_m1 ?_
                refine x_iret rfl rfl ?_
                show jX m_X11_fee 8 0 0 21 [(0, .ref 31), (1, .int a1), (2, .int a2)] [.int (-1)] _ 0 0 _
                refine x_istoren (lsx9 := [(3, .int (-1)), (0, .ref 31), (1, .int a1), (2, .int a2)]) rfl rfl rfl ?_
                refine x_aloadn (x := 31) rfl rfl ?_
                refine z_getR (N := 13) (b := 98) 11 7 rfl f_11_66 rfl J rfl 3975 ⟨rfl, rfl⟩ rfl ?_
                refine x_aloadn (x := 31) rfl rfl ?_
                refine z_getR (N := 13) (b := 32) 11 0 rfl f_11_10 rfl J rfl 3968 ⟨rfl, rfl⟩ rfl ?_
                refine z_getR (N := 20) (b := 33) 1 0 rfl f_11_126 rfl J rfl 4096 ⟨rfl, rfl⟩ rfl ?_
                refine x_iloadn (x := a1) rfl rfl ?_
                refine x_iconst (v := 1) rfl ki_1 ?_
                refine x_inv (N := m_X8_at) (As := [.int a1, .int 1]) (b := 33) (st := [.ref 98]) (dx9 := 1) (mc := 0) (ms := 0) (host := "") 8 rfl t_X8_at ⟨Or.inl q_11_171, i_X8_at.1, i_X8_at.2⟩ ⟨by decide, rfl⟩ (congrArg Prod.fst (J.1.1 33 (8, 4) rfl)) rfl (by decide) rfl rfl ⟨by decide, by decide⟩ (sf_X8_at_r33_c1d  hD J rfl  (fun v153 h ev153 J S150 X151 X152 => ?_))
                have Sm := jSm_tr rfl Sm S150
                try rw [X151] at D
                try rw [← X152] at D
                show jX m_X11_fee 8 0 0 38 [(3, .int (-1)), (0, .ref 31), (1, .int a1), (2, .int a2)] [.int v153, .ref 98] _ 0 0 _
                refine x_iloadn (x := a2) rfl rfl ?_
                refine x_inv (N := m_X0_turnTo) (As := [.int v153, .int a2]) (b := 98) (st := []) (dx9 := 7) (mc := 0) (ms := 0) (host := "") 0 rfl t_X0_turnTo ⟨Or.inl q_11_345, i_X0_turnTo.1, i_X0_turnTo.2⟩ ⟨by decide, rfl⟩ (congrArg Prod.fst (J.1.1 98 (0, 16) rfl)) rfl (by decide) rfl rfl ⟨by decide, by decide⟩ (jC.of rfl k_X0_turnTo rfl ?_)
                show jX m_X0_turnTo 7 0 0 0 [(0, .ref 98), (1, .int v153), (2, .int a2)] [] _ 0 0 _
                refine x_aloadn (x := 98) rfl rfl ?_
                refine x_iloadn (x := v153) rfl rfl ?_
                refine x_iloadn (x := a2) rfl rfl ?_
                refine x_inv (N := m_X0_readLaws) (As := [.int v153, .int a2]) (b := 98) (st := []) (dx9 := 3) (mc := 0) (ms := 0) (host := "") 0 rfl t_X0_readLaws ⟨Or.inl q_0_65, i_X0_readLaws.1, i_X0_readLaws.2⟩ ⟨by decide, rfl⟩ (congrArg Prod.fst (J.1.1 98 (0, 16) rfl)) rfl (by decide) rfl rfl ⟨by decide, by decide⟩ (sf_X0_readLaws_r98d (jr_of rfl (by omega)) (jr_of rfl (by omega)) hD J rfl  (fun h J S154 X155 => ?_))
                have Sm := jSm_tr rfl Sm S154
                rw [X155] at D
                show jX m_X0_turnTo 7 0 0 6 [(0, .ref 98), (1, .int v153), (2, .int a2)] [] _ 0 0 _
                refine x_aloadn (x := 98) rfl rfl ?_
                refine x_iloadn (x := v153) rfl rfl ?_
                refine x_iloadn (x := a2) rfl rfl ?_
                refine x_inv (N := m_X0_readHouses) (As := [.int v153, .int a2]) (b := 98) (st := []) (dx9 := 3) (mc := 0) (ms := 0) (host := "") 0 rfl t_X0_readHouses ⟨Or.inl q_0_69, i_X0_readHouses.1, i_X0_readHouses.2⟩ ⟨by decide, rfl⟩ (congrArg Prod.fst (J.1.1 98 (0, 16) rfl)) rfl (by decide) rfl rfl ⟨by decide, by decide⟩ (sf_X0_readHouses_r98d (jr_of rfl (by omega)) (jr_of rfl (by omega)) hD J rfl  (fun h J S156 X157 => ?_))
                have Sm := jSm_tr rfl Sm S156
                rw [X157] at D
                show jX m_X0_turnTo 7 0 0 12 [(0, .ref 98), (1, .int v153), (2, .int a2)] [] _ 0 0 _
                refine x_vret rfl rfl ?_
                show jX m_X11_fee 8 0 0 42 [(3, .int (-1)), (0, .ref 31), (1, .int a1), (2, .int a2)] [] _ 0 0 _
                refine x_aloadn (x := 31) rfl rfl ?_
                refine z_getR (N := 13) (b := 32) 11 0 rfl f_11_10 rfl J rfl 3968 ⟨rfl, rfl⟩ rfl ?_
                refine z_getR (N := 20) (b := 33) 1 0 rfl f_11_126 rfl J rfl 4096 ⟨rfl, rfl⟩ rfl ?_
                refine x_iloadn (x := a1) rfl rfl ?_
                refine x_iconst (v := 2) rfl ki_2 ?_
                refine x_inv (N := m_X8_at) (As := [.int a1, .int 2]) (b := 33) (st := []) (dx9 := 1) (mc := 0) (ms := 0) (host := "") 8 rfl t_X8_at ⟨Or.inl q_11_171, i_X8_at.1, i_X8_at.2⟩ ⟨by decide, rfl⟩ (congrArg Prod.fst (J.1.1 33 (8, 4) rfl)) rfl (by decide) rfl rfl ⟨by decide, by decide⟩ (sf_X8_at_r33_c2d  hD J rfl  (fun v161 h ev161 J S158 X159 X160 => ?_))
                have Sm := jSm_tr rfl Sm S158
                try rw [X159] at D
                try rw [← X160] at D
                show jX m_X11_fee 8 0 0 54 [(3, .int (-1)), (0, .ref 31), (1, .int a1), (2, .int a2)] [.int v161] _ 0 0 _
                by_cases c162 : v161.toInt = 1
                ·
                  refine x_lookup (tgt := 94) (off := 40) rfl (by decide) (by rw [show (v161).toInt = 1 from c162]; decide) rfl ?_
                  rw [if_pos c162] at D
                  refine x_aloadn (x := 31) rfl rfl ?_
                  refine x_iconst (v := 2) rfl ki_2 ?_
                  refine x_iloadn (x := (-1)) rfl rfl ?_
                  refine x_inv (N := m_X11_feeOf) (As := [.int 2, .int (-1)]) (b := 31) (st := []) (dx9 := 7) (mc := 0) (ms := 0) (host := "") 11 rfl t_X11_feeOf ⟨Or.inl q_11_497, i_X11_feeOf.1, i_X11_feeOf.2⟩ ⟨by decide, rfl⟩ (congrArg Prod.fst (J.1.1 31 (11, 13) rfl)) rfl (by decide) rfl rfl ⟨by decide, by decide⟩ (jC.of rfl k_X11_feeOf rfl ?_)
                  show jX m_X11_feeOf 7 0 0 0 [(0, .ref 31), (1, .int 2), (2, .int (-1))] [] _ 0 0 _
                  refine x_aloadn (x := 31) rfl rfl ?_
                  refine z_getR (N := 13) (b := 98) 11 7 rfl f_11_66 rfl J rfl 3975 ⟨rfl, rfl⟩ rfl ?_
                  refine x_bipush (v := 6) rfl kb_6 ?_
                  refine x_iloadn (x := 2) rfl rfl ?_
                  refine x_iloadn (x := (-1)) rfl rfl ?_
                  refine x_inv (N := m_X0_weigh) (As := [.int 6, .int 2, .int (-1)]) (b := 98) (st := []) (dx9 := 6) (mc := 0) (ms := 0) (host := "") 0 rfl t_X0_weigh ⟨Or.inl q_11_359, i_X0_weigh.1, i_X0_weigh.2⟩ ⟨by decide, rfl⟩ (congrArg Prod.fst (J.1.1 98 (0, 16) rfl)) rfl (by decide) rfl rfl ⟨by decide, by decide⟩ (sf_X0_weigh_r98d (jr_of jk_6 (by omega)) (jr_of jk_2 (by omega)) (jr_of jk_m1 (by omega)) hD J rfl  (fun v166 h ev166 J S163 X164 X165 => ?_))
                  have Sm := jSm_tr rfl Sm S163
                  try rw [jk_6] at X164
                  try rw [jk_2] at X164
                  try rw [jk_m1] at X164
                  try rw [jk_6] at X165
                  try rw [jk_2] at X165
                  try rw [jk_m1] at X165
                  try rw [X164] at D
                  try rw [X165] at D
                  show jX m_X11_feeOf 7 0 0 11 [(0, .ref 31), (1, .int 2), (2, .int (-1))] [.int v166] _ 0 0 _
                  refine x_pop rfl rfl ?_
                  refine x_lconst (v := 0) rfl kl_0 ?_
                  refine x_aloadn (x := 31) rfl rfl ?_
                  refine z_getR (N := 13) (b := 98) 11 7 rfl f_11_66 rfl J rfl 3975 ⟨rfl, rfl⟩ rfl ?_
                  refine z_getLQ (N := 16) 0 14 rfl f_11_362 rfl J rfl (fun v167 qv167 => ?_)
                  have ev167 := jfullL v167
                  try rw [vrfL qv167] at D
                  refine z_lmax rfl q_11_485 (by decide) rfl jkl_0 rfl (fun v168 ev168 => ?_)
                  refine x_lret rfl rfl ?_
                  show jX m_X11_fee 8 0 0 100 [(3, .int (-1)), (0, .ref 31), (1, .int a1), (2, .int a2)] [.long v168] _ 0 0 _
                  refine x_lret rfl rfl ?_
                  try rw [show (max 0 v167.toInt) = v168.toInt from by omega] at D
                  exact hQ _ _ J Sm ((congrArg Prod.fst D).symm.trans (show v168.toInt = v168.toInt from by omega)) (congrArg Prod.snd D).symm
                rw [if_neg c162] at D
                by_cases c169 : v161.toInt = 2
                ·
                  refine x_lookup (tgt := 80) (off := 26) rfl (by decide) (by rw [show (v161).toInt = 2 from c169]; decide) rfl ?_
                  rw [if_pos c169] at D
                  refine x_aloadn (x := 31) rfl rfl ?_
                  refine x_iconst (v := 0) rfl ki_0 ?_
                  refine x_iloadn (x := (-1)) rfl rfl ?_
                  refine x_inv (N := m_X11_feeOf) (As := [.int 0, .int (-1)]) (b := 31) (st := []) (dx9 := 7) (mc := 0) (ms := 0) (host := "") 11 rfl t_X11_feeOf ⟨Or.inl q_11_497, i_X11_feeOf.1, i_X11_feeOf.2⟩ ⟨by decide, rfl⟩ (congrArg Prod.fst (J.1.1 31 (11, 13) rfl)) rfl (by decide) rfl rfl ⟨by decide, by decide⟩ (jC.of rfl k_X11_feeOf rfl ?_)
                  show jX m_X11_feeOf 7 0 0 0 [(0, .ref 31), (1, .int 0), (2, .int (-1))] [] _ 0 0 _
                  refine x_aloadn (x := 31) rfl rfl ?_
                  refine z_getR (N := 13) (b := 98) 11 7 rfl f_11_66 rfl J rfl 3975 ⟨rfl, rfl⟩ rfl ?_
                  refine x_bipush (v := 6) rfl kb_6 ?_
                  refine x_iloadn (x := 0) rfl rfl ?_
                  refine x_iloadn (x := (-1)) rfl rfl ?_
                  refine x_inv (N := m_X0_weigh) (As := [.int 6, .int 0, .int (-1)]) (b := 98) (st := []) (dx9 := 6) (mc := 0) (ms := 0) (host := "") 0 rfl t_X0_weigh ⟨Or.inl q_11_359, i_X0_weigh.1, i_X0_weigh.2⟩ ⟨by decide, rfl⟩ (congrArg Prod.fst (J.1.1 98 (0, 16) rfl)) rfl (by decide) rfl rfl ⟨by decide, by decide⟩ (sf_X0_weigh_r98d (jr_of jk_6 (by omega)) (jr_of jk_0 (by omega)) (jr_of jk_m1 (by omega)) hD J rfl  (fun v173 h ev173 J S170 X171 X172 => ?_))
                  have Sm := jSm_tr rfl Sm S170
                  try rw [jk_6] at X171
                  try rw [jk_0] at X171
                  try rw [jk_m1] at X171
                  try rw [jk_6] at X172
                  try rw [jk_0] at X172
                  try rw [jk_m1] at X172
                  try rw [X171] at D
                  try rw [X172] at D
                  show jX m_X11_feeOf 7 0 0 11 [(0, .ref 31), (1, .int 0), (2, .int (-1))] [.int v173] _ 0 0 _
                  refine x_pop rfl rfl ?_
                  refine x_lconst (v := 0) rfl kl_0 ?_
                  refine x_aloadn (x := 31) rfl rfl ?_
                  refine z_getR (N := 13) (b := 98) 11 7 rfl f_11_66 rfl J rfl 3975 ⟨rfl, rfl⟩ rfl ?_
                  refine z_getLQ (N := 16) 0 14 rfl f_11_362 rfl J rfl (fun v174 qv174 => ?_)
                  have ev174 := jfullL v174
                  try rw [vrfL qv174] at D
                  refine z_lmax rfl q_11_485 (by decide) rfl jkl_0 rfl (fun v175 ev175 => ?_)
                  refine x_lret rfl rfl ?_
                  show jX m_X11_fee 8 0 0 86 [(3, .int (-1)), (0, .ref 31), (1, .int a1), (2, .int a2)] [.long v175] _ 0 0 _
                  refine x_aloadn (x := 31) rfl rfl ?_
                  refine x_iconst (v := 1) rfl ki_1 ?_
                  refine x_iloadn (x := (-1)) rfl rfl ?_
                  refine x_inv (N := m_X11_feeOf) (As := [.int 1, .int (-1)]) (b := 31) (st := [.long v175]) (dx9 := 7) (mc := 0) (ms := 0) (host := "") 11 rfl t_X11_feeOf ⟨Or.inl q_11_497, i_X11_feeOf.1, i_X11_feeOf.2⟩ ⟨by decide, rfl⟩ (congrArg Prod.fst (J.1.1 31 (11, 13) rfl)) rfl (by decide) rfl rfl ⟨by decide, by decide⟩ (jC.of rfl k_X11_feeOf rfl ?_)
                  show jX m_X11_feeOf 7 0 0 0 [(0, .ref 31), (1, .int 1), (2, .int (-1))] [] _ 0 0 _
                  refine x_aloadn (x := 31) rfl rfl ?_
                  refine z_getR (N := 13) (b := 98) 11 7 rfl f_11_66 rfl J rfl 3975 ⟨rfl, rfl⟩ rfl ?_
                  refine x_bipush (v := 6) rfl kb_6 ?_
                  refine x_iloadn (x := 1) rfl rfl ?_
                  refine x_iloadn (x := (-1)) rfl rfl ?_
                  refine x_inv (N := m_X0_weigh) (As := [.int 6, .int 1, .int (-1)]) (b := 98) (st := []) (dx9 := 6) (mc := 0) (ms := 0) (host := "") 0 rfl t_X0_weigh ⟨Or.inl q_11_359, i_X0_weigh.1, i_X0_weigh.2⟩ ⟨by decide, rfl⟩ (congrArg Prod.fst (J.1.1 98 (0, 16) rfl)) rfl (by decide) rfl rfl ⟨by decide, by decide⟩ (sf_X0_weigh_r98d (jr_of jk_6 (by omega)) (jr_of jk_1 (by omega)) (jr_of jk_m1 (by omega)) hD J rfl  (fun v179 h ev179 J S176 X177 X178 => ?_))
                  have Sm := jSm_tr rfl Sm S176
                  try rw [jk_6] at X177
                  try rw [jk_1] at X177
                  try rw [jk_m1] at X177
                  try rw [jk_6] at X178
                  try rw [jk_1] at X178
                  try rw [jk_m1] at X178
                  try rw [X177] at D
                  try rw [X178] at D
                  show jX m_X11_feeOf 7 0 0 11 [(0, .ref 31), (1, .int 1), (2, .int (-1))] [.int v179] _ 0 0 _
                  refine x_pop rfl rfl ?_
                  refine x_lconst (v := 0) rfl kl_0 ?_
                  refine x_aloadn (x := 31) rfl rfl ?_
                  refine z_getR (N := 13) (b := 98) 11 7 rfl f_11_66 rfl J rfl 3975 ⟨rfl, rfl⟩ rfl ?_
                  refine z_getLQ (N := 16) 0 14 rfl f_11_362 rfl J rfl (fun v180 qv180 => ?_)
                  have ev180 := jfullL v180
                  try rw [vrfL qv180] at D
                  refine z_lmax rfl q_11_485 (by decide) rfl jkl_0 rfl (fun v181 ev181 => ?_)
                  refine x_lret rfl rfl ?_
                  show jX m_X11_fee 8 0 0 92 [(3, .int (-1)), (0, .ref 31), (1, .int a1), (2, .int a2)] [.long v181, .long v175] _ 0 0 _
                  refine z_laddW rfl rfl rfl (fun v182 ev182 => ?_)
                  have fv182 := jfullL v182
                  try rw [show (max 0 v174.toInt) = v175.toInt from by omega] at D
                  try rw [show (max 0 v180.toInt) = v181.toInt from by omega] at D
                  try rw [← ev182] at D
                  refine x_lret rfl rfl ?_
                  exact hQ _ _ J Sm ((congrArg Prod.fst D).symm.trans (show v182.toInt = v182.toInt from by omega)) (congrArg Prod.snd D).symm
                rw [if_neg c169] at D
                refine x_lookup (tgt := 101) (off := 47) rfl (by decide) (by simp [Op.lookupswitch.offset]; omega) rfl ?_
                refine x_lconst (v := 0) rfl kl_0 ?_
                refine x_lret rfl rfl ?_
                exact hQ _ _ J Sm ((congrArg Prod.fst D).symm.trans (show 0 = (0 : Int64).toInt from by have := jkl_0; omega)) (congrArg Prod.snd D).symm
              ·
                rw [if_neg (by omega)] at D
                refine x_iconst (v := 1) rfl ki_1 ?_
                refine x_goto (tgt := 42) rfl rfl ?_
                refine x_zret rfl rfl (by decide) ?_
                show jX m_X11_soulOn 7 0 0 15 [(0, .ref 31), (1, .int v8), (2, .int a2)] [.int 1] _ 0 0 _
                refine x_ifne (tgt := 20) rfl rfl (ti_ne jk_1 jk_0 (bn_t (by omega) ?_))
                refine x_aloadn (x := 31) rfl rfl ?_
                refine z_getR (N := 13) (b := 78) 11 4 rfl f_11_41 rfl J rfl 3972 ⟨rfl, rfl⟩ rfl ?_
                refine x_iloadn (x := a2) rfl rfl ?_
                refine x_inv (N := m_X7_asKnown) (As := [.int a2]) (b := 78) (st := []) (dx9 := 6) (mc := 0) (ms := 0) (host := "") 7 rfl t_X7_asKnown ⟨Or.inl q_11_240, i_X7_asKnown.1, i_X7_asKnown.2⟩ ⟨by decide, rfl⟩ (congrArg Prod.fst (J.1.1 78 (7, 16) rfl)) rfl (by decide) rfl rfl ⟨by decide, by decide⟩ (sf_X7_asKnown_r78d (jr_of rfl (by omega)) hD J rfl  (fun h J S183 X184 => ?_))
                have Sm := jSm_tr rfl Sm S183
                rw [X184] at D
                show jX m_X11_soulOn 7 0 0 28 [(0, .ref 31), (1, .int v8), (2, .int a2)] [] _ 0 0 _
                refine x_aloadn (x := 31) rfl rfl ?_
                refine z_getR (N := 13) (b := 78) 11 4 rfl f_11_41 rfl J rfl 3972 ⟨rfl, rfl⟩ rfl ?_
                refine z_getR (N := 16) (b := 82) 7 10 rfl f_11_537 rfl J rfl 9994 ⟨rfl, rfl⟩ rfl ?_
                refine x_iloadn (x := v8) rfl rfl ?_
                refine z_iald (N := 600) rfl J rfl sg_82_0_600_1_0_1 rfl (by omega) (fun v185 qv185 ev185 => ?_)
                try rw [vrd qv185 (show v8.toInt = v8.toInt from by omega)] at D
                refine x_iret rfl rfl ?_
                show jX m_X11_fee 8 0 0 21 [(0, .ref 31), (1, .int a1), (2, .int a2)] [.int v185] _ 0 0 _
                refine x_istoren (lsx9 := [(3, .int v185), (0, .ref 31), (1, .int a1), (2, .int a2)]) rfl rfl rfl ?_
                refine x_aloadn (x := 31) rfl rfl ?_
                refine z_getR (N := 13) (b := 98) 11 7 rfl f_11_66 rfl J rfl 3975 ⟨rfl, rfl⟩ rfl ?_
                refine x_aloadn (x := 31) rfl rfl ?_
                refine z_getR (N := 13) (b := 32) 11 0 rfl f_11_10 rfl J rfl 3968 ⟨rfl, rfl⟩ rfl ?_
                refine z_getR (N := 20) (b := 33) 1 0 rfl f_11_126 rfl J rfl 4096 ⟨rfl, rfl⟩ rfl ?_
                refine x_iloadn (x := a1) rfl rfl ?_
                refine x_iconst (v := 1) rfl ki_1 ?_
                refine x_inv (N := m_X8_at) (As := [.int a1, .int 1]) (b := 33) (st := [.ref 98]) (dx9 := 1) (mc := 0) (ms := 0) (host := "") 8 rfl t_X8_at ⟨Or.inl q_11_171, i_X8_at.1, i_X8_at.2⟩ ⟨by decide, rfl⟩ (congrArg Prod.fst (J.1.1 33 (8, 4) rfl)) rfl (by decide) rfl rfl ⟨by decide, by decide⟩ (sf_X8_at_r33_c1d  hD J rfl  (fun v189 h ev189 J S186 X187 X188 => ?_))
                have Sm := jSm_tr rfl Sm S186
                try rw [X187] at D
                try rw [← X188] at D
                show jX m_X11_fee 8 0 0 38 [(3, .int v185), (0, .ref 31), (1, .int a1), (2, .int a2)] [.int v189, .ref 98] _ 0 0 _
                refine x_iloadn (x := a2) rfl rfl ?_
                refine x_inv (N := m_X0_turnTo) (As := [.int v189, .int a2]) (b := 98) (st := []) (dx9 := 7) (mc := 0) (ms := 0) (host := "") 0 rfl t_X0_turnTo ⟨Or.inl q_11_345, i_X0_turnTo.1, i_X0_turnTo.2⟩ ⟨by decide, rfl⟩ (congrArg Prod.fst (J.1.1 98 (0, 16) rfl)) rfl (by decide) rfl rfl ⟨by decide, by decide⟩ (jC.of rfl k_X0_turnTo rfl ?_)
                show jX m_X0_turnTo 7 0 0 0 [(0, .ref 98), (1, .int v189), (2, .int a2)] [] _ 0 0 _
                refine x_aloadn (x := 98) rfl rfl ?_
                refine x_iloadn (x := v189) rfl rfl ?_
                refine x_iloadn (x := a2) rfl rfl ?_
                refine x_inv (N := m_X0_readLaws) (As := [.int v189, .int a2]) (b := 98) (st := []) (dx9 := 3) (mc := 0) (ms := 0) (host := "") 0 rfl t_X0_readLaws ⟨Or.inl q_0_65, i_X0_readLaws.1, i_X0_readLaws.2⟩ ⟨by decide, rfl⟩ (congrArg Prod.fst (J.1.1 98 (0, 16) rfl)) rfl (by decide) rfl rfl ⟨by decide, by decide⟩ (sf_X0_readLaws_r98d (jr_of rfl (by omega)) (jr_of rfl (by omega)) hD J rfl  (fun h J S190 X191 => ?_))
                have Sm := jSm_tr rfl Sm S190
                rw [X191] at D
                show jX m_X0_turnTo 7 0 0 6 [(0, .ref 98), (1, .int v189), (2, .int a2)] [] _ 0 0 _
                refine x_aloadn (x := 98) rfl rfl ?_
                refine x_iloadn (x := v189) rfl rfl ?_
                refine x_iloadn (x := a2) rfl rfl ?_
                refine x_inv (N := m_X0_readHouses) (As := [.int v189, .int a2]) (b := 98) (st := []) (dx9 := 3) (mc := 0) (ms := 0) (host := "") 0 rfl t_X0_readHouses ⟨Or.inl q_0_69, i_X0_readHouses.1, i_X0_readHouses.2⟩ ⟨by decide, rfl⟩ (congrArg Prod.fst (J.1.1 98 (0, 16) rfl)) rfl (by decide) rfl rfl ⟨by decide, by decide⟩ (sf_X0_readHouses_r98d (jr_of rfl (by omega)) (jr_of rfl (by omega)) hD J rfl  (fun h J S192 X193 => ?_))
                have Sm := jSm_tr rfl Sm S192
                rw [X193] at D
                show jX m_X0_turnTo 7 0 0 12 [(0, .ref 98), (1, .int v189), (2, .int a2)] [] _ 0 0 _
                refine x_vret rfl rfl ?_
                show jX m_X11_fee 8 0 0 42 [(3, .int v185), (0, .ref 31), (1, .int a1), (2, .int a2)] [] _ 0 0 _
                refine x_aloadn (x := 31) rfl rfl ?_
                refine z_getR (N := 13) (b := 32) 11 0 rfl f_11_10 rfl J rfl 3968 ⟨rfl, rfl⟩ rfl ?_
                refine z_getR (N := 20) (b := 33) 1 0 rfl f_11_126 rfl J rfl 4096 ⟨rfl, rfl⟩ rfl ?_
                refine x_iloadn (x := a1) rfl rfl ?_
                refine x_iconst (v := 2) rfl ki_2 ?_
                refine x_inv (N := m_X8_at) (As := [.int a1, .int 2]) (b := 33) (st := []) (dx9 := 1) (mc := 0) (ms := 0) (host := "") 8 rfl t_X8_at ⟨Or.inl q_11_171, i_X8_at.1, i_X8_at.2⟩ ⟨by decide, rfl⟩ (congrArg Prod.fst (J.1.1 33 (8, 4) rfl)) rfl (by decide) rfl rfl ⟨by decide, by decide⟩ (sf_X8_at_r33_c2d  hD J rfl  (fun v197 h ev197 J S194 X195 X196 => ?_))
                have Sm := jSm_tr rfl Sm S194
                try rw [X195] at D
                try rw [← X196] at D
                show jX m_X11_fee 8 0 0 54 [(3, .int v185), (0, .ref 31), (1, .int a1), (2, .int a2)] [.int v197] _ 0 0 _
                by_cases c198 : v197.toInt = 1
                ·
                  refine x_lookup (tgt := 94) (off := 40) rfl (by decide) (by rw [show (v197).toInt = 1 from c198]; decide) rfl ?_
                  rw [if_pos c198] at D
                  refine x_aloadn (x := 31) rfl rfl ?_
                  refine x_iconst (v := 2) rfl ki_2 ?_
                  refine x_iloadn (x := v185) rfl rfl ?_
                  refine x_inv (N := m_X11_feeOf) (As := [.int 2, .int v185]) (b := 31) (st := []) (dx9 := 7) (mc := 0) (ms := 0) (host := "") 11 rfl t_X11_feeOf ⟨Or.inl q_11_497, i_X11_feeOf.1, i_X11_feeOf.2⟩ ⟨by decide, rfl⟩ (congrArg Prod.fst (J.1.1 31 (11, 13) rfl)) rfl (by decide) rfl rfl ⟨by decide, by decide⟩ (jC.of rfl k_X11_feeOf rfl ?_)
                  show jX m_X11_feeOf 7 0 0 0 [(0, .ref 31), (1, .int 2), (2, .int v185)] [] _ 0 0 _
                  refine x_aloadn (x := 31) rfl rfl ?_
                  refine z_getR (N := 13) (b := 98) 11 7 rfl f_11_66 rfl J rfl 3975 ⟨rfl, rfl⟩ rfl ?_
                  refine x_bipush (v := 6) rfl kb_6 ?_
                  refine x_iloadn (x := 2) rfl rfl ?_
                  refine x_iloadn (x := v185) rfl rfl ?_
                  refine x_inv (N := m_X0_weigh) (As := [.int 6, .int 2, .int v185]) (b := 98) (st := []) (dx9 := 6) (mc := 0) (ms := 0) (host := "") 0 rfl t_X0_weigh ⟨Or.inl q_11_359, i_X0_weigh.1, i_X0_weigh.2⟩ ⟨by decide, rfl⟩ (congrArg Prod.fst (J.1.1 98 (0, 16) rfl)) rfl (by decide) rfl rfl ⟨by decide, by decide⟩ (sf_X0_weigh_r98d (jr_of jk_6 (by omega)) (jr_of jk_2 (by omega)) (jr_of rfl (by omega)) hD J rfl  (fun v202 h ev202 J S199 X200 X201 => ?_))
                  have Sm := jSm_tr rfl Sm S199
                  try rw [jk_6] at X200
                  try rw [jk_2] at X200
                  try rw [jk_6] at X201
                  try rw [jk_2] at X201
                  try rw [X200] at D
                  try rw [X201] at D
                  show jX m_X11_feeOf 7 0 0 11 [(0, .ref 31), (1, .int 2), (2, .int v185)] [.int v202] _ 0 0 _
                  refine x_pop rfl rfl ?_
                  refine x_lconst (v := 0) rfl kl_0 ?_
                  refine x_aloadn (x := 31) rfl rfl ?_
                  refine z_getR (N := 13) (b := 98) 11 7 rfl f_11_66 rfl J rfl 3975 ⟨rfl, rfl⟩ rfl ?_
                  refine z_getLQ (N := 16) 0 14 rfl f_11_362 rfl J rfl (fun v203 qv203 => ?_)
                  have ev203 := jfullL v203
                  try rw [vrfL qv203] at D
                  refine z_lmax rfl q_11_485 (by decide) rfl jkl_0 rfl (fun v204 ev204 => ?_)
                  refine x_lret rfl rfl ?_
                  show jX m_X11_fee 8 0 0 100 [(3, .int v185), (0, .ref 31), (1, .int a1), (2, .int a2)] [.long v204] _ 0 0 _
                  refine x_lret rfl rfl ?_
                  try rw [show (max 0 v203.toInt) = v204.toInt from by omega] at D
                  exact hQ _ _ J Sm ((congrArg Prod.fst D).symm.trans (show v204.toInt = v204.toInt from by omega)) (congrArg Prod.snd D).symm
                rw [if_neg c198] at D
                by_cases c205 : v197.toInt = 2
                ·
                  refine x_lookup (tgt := 80) (off := 26) rfl (by decide) (by rw [show (v197).toInt = 2 from c205]; decide) rfl ?_
                  rw [if_pos c205] at D
                  refine x_aloadn (x := 31) rfl rfl ?_
                  refine x_iconst (v := 0) rfl ki_0 ?_
                  refine x_iloadn (x := v185) rfl rfl ?_
                  refine x_inv (N := m_X11_feeOf) (As := [.int 0, .int v185]) (b := 31) (st := []) (dx9 := 7) (mc := 0) (ms := 0) (host := "") 11 rfl t_X11_feeOf ⟨Or.inl q_11_497, i_X11_feeOf.1, i_X11_feeOf.2⟩ ⟨by decide, rfl⟩ (congrArg Prod.fst (J.1.1 31 (11, 13) rfl)) rfl (by decide) rfl rfl ⟨by decide, by decide⟩ (jC.of rfl k_X11_feeOf rfl ?_)
                  show jX m_X11_feeOf 7 0 0 0 [(0, .ref 31), (1, .int 0), (2, .int v185)] [] _ 0 0 _
                  refine x_aloadn (x := 31) rfl rfl ?_
                  refine z_getR (N := 13) (b := 98) 11 7 rfl f_11_66 rfl J rfl 3975 ⟨rfl, rfl⟩ rfl ?_
                  refine x_bipush (v := 6) rfl kb_6 ?_
                  refine x_iloadn (x := 0) rfl rfl ?_
                  refine x_iloadn (x := v185) rfl rfl ?_
                  refine x_inv (N := m_X0_weigh) (As := [.int 6, .int 0, .int v185]) (b := 98) (st := []) (dx9 := 6) (mc := 0) (ms := 0) (host := "") 0 rfl t_X0_weigh ⟨Or.inl q_11_359, i_X0_weigh.1, i_X0_weigh.2⟩ ⟨by decide, rfl⟩ (congrArg Prod.fst (J.1.1 98 (0, 16) rfl)) rfl (by decide) rfl rfl ⟨by decide, by decide⟩ (sf_X0_weigh_r98d (jr_of jk_6 (by omega)) (jr_of jk_0 (by omega)) (jr_of rfl (by omega)) hD J rfl  (fun v209 h ev209 J S206 X207 X208 => ?_))
                  have Sm := jSm_tr rfl Sm S206
                  try rw [jk_6] at X207
                  try rw [jk_0] at X207
                  try rw [jk_6] at X208
                  try rw [jk_0] at X208
                  try rw [X207] at D
                  try rw [X208] at D
                  show jX m_X11_feeOf 7 0 0 11 [(0, .ref 31), (1, .int 0), (2, .int v185)] [.int v209] _ 0 0 _
                  refine x_pop rfl rfl ?_
                  refine x_lconst (v := 0) rfl kl_0 ?_
                  refine x_aloadn (x := 31) rfl rfl ?_
                  refine z_getR (N := 13) (b := 98) 11 7 rfl f_11_66 rfl J rfl 3975 ⟨rfl, rfl⟩ rfl ?_
                  refine z_getLQ (N := 16) 0 14 rfl f_11_362 rfl J rfl (fun v210 qv210 => ?_)
                  have ev210 := jfullL v210
                  try rw [vrfL qv210] at D
                  refine z_lmax rfl q_11_485 (by decide) rfl jkl_0 rfl (fun v211 ev211 => ?_)
                  refine x_lret rfl rfl ?_
                  show jX m_X11_fee 8 0 0 86 [(3, .int v185), (0, .ref 31), (1, .int a1), (2, .int a2)] [.long v211] _ 0 0 _
                  refine x_aloadn (x := 31) rfl rfl ?_
                  refine x_iconst (v := 1) rfl ki_1 ?_
                  refine x_iloadn (x := v185) rfl rfl ?_
                  refine x_inv (N := m_X11_feeOf) (As := [.int 1, .int v185]) (b := 31) (st := [.long v211]) (dx9 := 7) (mc := 0) (ms := 0) (host := "") 11 rfl t_X11_feeOf ⟨Or.inl q_11_497, i_X11_feeOf.1, i_X11_feeOf.2⟩ ⟨by decide, rfl⟩ (congrArg Prod.fst (J.1.1 31 (11, 13) rfl)) rfl (by decide) rfl rfl ⟨by decide, by decide⟩ (jC.of rfl k_X11_feeOf rfl ?_)
                  show jX m_X11_feeOf 7 0 0 0 [(0, .ref 31), (1, .int 1), (2, .int v185)] [] _ 0 0 _
                  refine x_aloadn (x := 31) rfl rfl ?_
                  refine z_getR (N := 13) (b := 98) 11 7 rfl f_11_66 rfl J rfl 3975 ⟨rfl, rfl⟩ rfl ?_
                  refine x_bipush (v := 6) rfl kb_6 ?_
                  refine x_iloadn (x := 1) rfl rfl ?_
                  refine x_iloadn (x := v185) rfl rfl ?_
                  refine x_inv (N := m_X0_weigh) (As := [.int 6, .int 1, .int v185]) (b := 98) (st := []) (dx9 := 6) (mc := 0) (ms := 0) (host := "") 0 rfl t_X0_weigh ⟨Or.inl q_11_359, i_X0_weigh.1, i_X0_weigh.2⟩ ⟨by decide, rfl⟩ (congrArg Prod.fst (J.1.1 98 (0, 16) rfl)) rfl (by decide) rfl rfl ⟨by decide, by decide⟩ (sf_X0_weigh_r98d (jr_of jk_6 (by omega)) (jr_of jk_1 (by omega)) (jr_of rfl (by omega)) hD J rfl  (fun v215 h ev215 J S212 X213 X214 => ?_))
                  have Sm := jSm_tr rfl Sm S212
                  try rw [jk_6] at X213
                  try rw [jk_1] at X213
                  try rw [jk_6] at X214
                  try rw [jk_1] at X214
                  try rw [X213] at D
                  try rw [X214] at D
                  show jX m_X11_feeOf 7 0 0 11 [(0, .ref 31), (1, .int 1), (2, .int v185)] [.int v215] _ 0 0 _
                  refine x_pop rfl rfl ?_
                  refine x_lconst (v := 0) rfl kl_0 ?_
                  refine x_aloadn (x := 31) rfl rfl ?_
                  refine z_getR (N := 13) (b := 98) 11 7 rfl f_11_66 rfl J rfl 3975 ⟨rfl, rfl⟩ rfl ?_
                  refine z_getLQ (N := 16) 0 14 rfl f_11_362 rfl J rfl (fun v216 qv216 => ?_)
                  have ev216 := jfullL v216
                  try rw [vrfL qv216] at D
                  refine z_lmax rfl q_11_485 (by decide) rfl jkl_0 rfl (fun v217 ev217 => ?_)
                  refine x_lret rfl rfl ?_
                  show jX m_X11_fee 8 0 0 92 [(3, .int v185), (0, .ref 31), (1, .int a1), (2, .int a2)] [.long v217, .long v211] _ 0 0 _
                  refine z_laddW rfl rfl rfl (fun v218 ev218 => ?_)
                  have fv218 := jfullL v218
                  try rw [show (max 0 v210.toInt) = v211.toInt from by omega] at D
                  try rw [show (max 0 v216.toInt) = v217.toInt from by omega] at D
                  try rw [← ev218] at D
                  refine x_lret rfl rfl ?_
                  exact hQ _ _ J Sm ((congrArg Prod.fst D).symm.trans (show v218.toInt = v218.toInt from by omega)) (congrArg Prod.snd D).symm
                rw [if_neg c205] at D
                refine x_lookup (tgt := 101) (off := 47) rfl (by decide) (by simp [Op.lookupswitch.offset]; omega) rfl ?_
                refine x_lconst (v := 0) rfl kl_0 ?_
                refine x_lret rfl rfl ?_
                exact hQ _ _ J Sm ((congrArg Prod.fst D).symm.trans (show 0 = (0 : Int64).toInt from by have := jkl_0; omega)) (congrArg Prod.snd D).symm
def fp_X9_append_r68d : jFp := [(68, 1, 2), (69, 0, 400)]
set_option maxRecDepth 100000 in
set_option maxHeartbeats 4000000 in
theorem ct_X9_append_r68d_49 {Dy : jH → Prop} {h0 : jH} {Q : Option Value → jH → Prop} {dr : jW} (hD : jDk Dy) (hQ : ∀ hx9, jJ jSgX Dy hx9 → jSm fp_X9_append_r68d h0 hx9 → dr = vw hx9 → Q none hx9) : ∀ (h : jH), jJ jSgX Dy h → jSm fp_X9_append_r68d h0 h → d_X9_append_r68d_49  (vw h) = dr → jX m_X9_append 1 0 0 49 [] [] h 0 0 Q := by
  intro  h    J Sm D
  unfold d_X9_append_r68d_49 at D
  refine x_vret rfl rfl ?_
  exact hQ _ J Sm D.symm
set_option maxRecDepth 100000 in
set_option maxHeartbeats 4000000 in
theorem ct_X9_append_r68d_3 {Dy : jH → Prop} {h0 : jH} {Q : Option Value → jH → Prop} {dr : jW} (hD : jDk Dy) (hQ : ∀ hx9, jJ jSgX Dy hx9 → jSm fp_X9_append_r68d h0 hx9 → dr = vw hx9 → Q none hx9) : ∀ r : Nat, ∀ (l1 : Int32) (l2 : Int32) (h : jH), l2.toInt - (-8) < (r : Int) → (-8) ≤ l2.toInt ∧ l2.toInt ≤ 24 → l2.toInt % 8 = 0 → jJ jSgX Dy h → jSm fp_X9_append_r68d h0 h → d_X9_append_r68d_3 r l1.toInt l2.toInt (vw h) = dr → jX m_X9_append 1 0 0 3 [(0, .ref 68), (1, .int l1), (2, .int l2)] [] h 0 0 Q := by
  intro r
  induction r with
  | zero =>
    intro l1 l2 h hm y0 y1   J Sm D
    exfalso
    have el1 := jfull l1
    omega
  | succ r ih =>
    intro l1 l2 h hm y0 y1   J Sm D
    have el1 := jfull l1
    rw [d_X9_append_r68d_3.eq_2] at D
    refine x_iloadn (x := l2) rfl rfl ?_
    refine x_iflt (tgt := 49) rfl rfl (ti_lt rfl jk_0 ⟨fun c1 => ?_, fun c1 => ?_⟩)
    ·
      rw [if_pos (by omega)] at D
      exact jX.sub jsb_n (ct_X9_append_r68d_49 hD hQ  h J Sm D)
    ·
      rw [if_neg (by omega)] at D
      refine x_aloadn (x := 68) rfl rfl ?_
      refine z_getI (N := 6) 9 1 rfl f_9_15 rfl J rfl sg_68_1_2_1_0_1 (fun v2 qv2 ev2 => ?_)
      try rw [vrf qv2] at D
      refine x_sipush (v := 400) rfl ks_400 ?_
      refine x_icge (tgt := 49) rfl rfl (ti_ge rfl jk_400 ⟨fun c3 => ?_, fun c3 => ?_⟩)
      ·
        rw [if_pos (by omega)] at D
        exact jX.sub jsb_n (ct_X9_append_r68d_49 hD hQ  h J Sm D)
      ·
        rw [if_neg (by omega)] at D
        refine x_aloadn (x := 68) rfl rfl ?_
        refine z_getR (N := 6) (b := 69) 9 0 rfl f_9_11 rfl J rfl 8704 ⟨rfl, rfl⟩ rfl ?_
        refine x_aloadn (x := 68) rfl rfl ?_
        refine z_getM (N := 6) (v := v2) 9 1 rfl f_9_15 rfl J rfl qv2 ?_
        refine x_iloadn (x := l1) rfl rfl ?_
        refine x_iloadn (x := l2) rfl rfl ?_
        refine z_iushrW rfl rfl rfl (fun v4 ev4 => ?_)
        have fv4 := jfull v4
        try rw [← ev4] at D
        refine x_sipush (v := 255) rfl ks_255 ?_
        refine z_iandQ rfl rfl jk_255 (by decide) (fun v5 ev5 => ?_)
        try rw [← ev5.1] at D
        refine z_iast (N := 400) (l := 0) (u := 400) (w := v5.toInt) rfl hD J Sm rfl rfl rfl (by omega) rfl (wr_69 (fun q1 q2 q3 q4 => by omega)) rfl (fun h w6 J Sm => ?_)
        rw [vww w6 (show v2.toInt = v2.toInt from by omega) (show v5.toInt = v5.toInt from by omega)] at D
        refine x_aloadn (x := 68) rfl rfl ?_
        refine x_dup rfl rfl ?_
        refine z_getM (N := 6) (v := v2) 9 1 rfl f_9_15 rfl J rfl (jmo w6 rfl qv2) ?_
        refine x_iconst (v := 1) rfl ki_1 ?_
        refine z_iadd rfl rfl jk_1 (by omega) (fun v7 ev7 => ?_)
        refine z_putI (N := 6) (w := v7.toInt) 9 1 rfl f_9_15 rfl (jfin_no TX9 RX9 6 rfl rfl) hD J Sm rfl rfl rfl (pw_68_1 (by omega)) rfl (fun h w8 J Sm => ?_)
        rw [vwf w8 (show (v2.toInt + 1) = v7.toInt from by omega)] at D
        refine z_iinc (x := l2) (lsx9 := fun v9 => [(2, .int v9), (0, .ref 68), (1, .int l1)]) rfl rfl rfl jko_m8 (by omega) rfl (fun _ => rfl) (fun v9 ev9 => ?_)
        refine x_goto (tgt := 3) rfl rfl ?_
        try rw [show (l2.toInt + (-8)) = v9.toInt from by omega] at D
        exact jX.sub (jsb_c rfl (jsb_c rfl (jsb_c rfl jsb_n))) (ih l1 v9 h (by omega) (jr_of rfl (by omega)) (jr_mod rfl (by omega)) J Sm D)
set_option maxRecDepth 100000 in
set_option maxHeartbeats 4000000 in
theorem sf_X9_append_r68d {Dy : jH → Prop} {h : jH} {Q : Option Value → jH → Prop} {dr : jW} {a1 : Int32} (hD : jDk Dy) (J : jJ jSgX Dy h) (D : d_X9_append_r68d a1.toInt (vw h) = dr) (hQ : ∀ hx9, jJ jSgX Dy hx9 → jSm fp_X9_append_r68d h hx9 → dr = vw hx9 → Q none hx9) : jC m_X9_append 1 0 0 [.ref 68, .int a1] h Q := by
  refine jC.of rfl k_X9_append rfl ?_
  have Sm := jSm_rf fp_X9_append_r68d h
  have ea1 := jfull a1
  show jX m_X9_append 1 0 0 0 [(0, .ref 68), (1, .int a1)] [] _ 0 0 _
  unfold d_X9_append_r68d at D
  refine x_bipush (v := 24) rfl kb_24 ?_
  refine x_istoren (lsx9 := [(2, .int 24), (0, .ref 68), (1, .int a1)]) rfl rfl rfl ?_
  exact jX.sub (jsb_c rfl (jsb_c rfl (jsb_c rfl jsb_n))) (ct_X9_append_r68d_3 hD hQ  33 a1 24 h (by have := jk_24; omega) (jr_of jk_24 (by omega)) (jr_mod jk_24 (by omega)) J Sm (by rw [jk_24]; exact D))
def fp_X11_feed_r31d : jFp := [(68, 1, 2), (69, 0, 400)]
set_option maxRecDepth 100000 in
set_option maxHeartbeats 4000000 in
theorem sf_X11_feed_r31d {Dy : jH → Prop} {h : jH} {Q : Option Value → jH → Prop} {dr : (Int × jW)} {a1 : Int32} {a2 : Int32} {a3 : Int32} {a4 : Int32} {a5 : Int32} (hD : jDk Dy) (J : jJ jSgX Dy h) (D : d_X11_feed_r31d a1.toInt a2.toInt a3.toInt a4.toInt a5.toInt (vw h) = dr) (hQ : ∀ (v : Int32) hx9, (-1) ≤ v.toInt ∧ v.toInt ≤ 400 → jJ jSgX Dy hx9 → jSm fp_X11_feed_r31d h hx9 → dr.1 = v.toInt → dr.2 = vw hx9 → Q (some (.int v)) hx9) : jC m_X11_feed 2 0 0 [.ref 31, .int a1, .int a2, .int a3, .int a4, .int a5] h Q := by
  refine jC.of rfl k_X11_feed rfl ?_
  have Sm := jSm_rf fp_X11_feed_r31d h
  have ea1 := jfull a1
  have ea2 := jfull a2
  have ea3 := jfull a3
  have ea4 := jfull a4
  have ea5 := jfull a5
  show jX m_X11_feed 2 0 0 0 [(0, .ref 31), (1, .int a1), (2, .int a2), (3, .int a3), (4, .int a4), (5, .int a5)] [] _ 0 0 _
  unfold d_X11_feed_r31d at D
  refine x_aloadn (x := 31) rfl rfl ?_
  refine z_getR (N := 13) (b := 68) 11 2 rfl f_11_23 rfl J rfl 3970 ⟨rfl, rfl⟩ rfl ?_
  refine x_bipush (v := 20) rfl kb_20 ?_
  refine x_inv (N := m_X9_hasRoomFor) (As := [.int 20]) (b := 68) (st := []) (dx9 := 1) (mc := 0) (ms := 0) (host := "") 9 rfl t_X9_hasRoomFor ⟨Or.inl q_11_98, i_X9_hasRoomFor.1, i_X9_hasRoomFor.2⟩ ⟨by decide, rfl⟩ (congrArg Prod.fst (J.1.1 68 (9, 6) rfl)) rfl (by decide) rfl rfl ⟨by decide, by decide⟩ (jC.of rfl k_X9_hasRoomFor rfl ?_)
  show jX m_X9_hasRoomFor 1 0 0 0 [(0, .ref 68), (1, .int 20)] [] _ 0 0 _
  refine x_aloadn (x := 68) rfl rfl ?_
  refine z_getI (N := 6) 9 1 rfl f_9_15 rfl J rfl sg_68_1_2_1_0_1 (fun v1 qv1 ev1 => ?_)
  try rw [vrf qv1] at D
  refine x_iloadn (x := 20) rfl rfl ?_
  refine z_iadd rfl rfl jk_20 (by omega) (fun v2 ev2 => ?_)
  refine x_sipush (v := 400) rfl ks_400 ?_
  refine x_icgt (tgt := 16) rfl rfl (ti_gt rfl jk_400 ⟨fun c3 => ?_, fun c3 => ?_⟩)
  ·
    rw [if_pos (by omega)] at D
    refine x_iconst (v := 0) rfl ki_0 ?_
    refine x_zret rfl rfl (by decide) ?_
    show jX m_X11_feed 2 0 0 9 [(0, .ref 31), (1, .int a1), (2, .int a2), (3, .int a3), (4, .int a4), (5, .int a5)] [.int 0] _ 0 0 _
    refine x_ifne (tgt := 14) rfl rfl (ti_ne jk_0 jk_0 (bn_f (by omega) ?_))
    refine x_iconst (v := (-1)) rfl ki_m1 ?_
    refine x_iret rfl rfl ?_
    exact hQ _ _ (jr_of jk_m1 (by omega)) J Sm ((congrArg Prod.fst D).symm.trans (show (-1) = ((-1) : Int32).toInt from by have := jk_m1; omega)) (congrArg Prod.snd D).symm
  ·
    rw [if_neg (by omega)] at D
    refine x_iconst (v := 1) rfl ki_1 ?_
    refine x_goto (tgt := 17) rfl rfl ?_
    refine x_zret rfl rfl (by decide) ?_
    show jX m_X11_feed 2 0 0 9 [(0, .ref 31), (1, .int a1), (2, .int a2), (3, .int a3), (4, .int a4), (5, .int a5)] [.int 1] _ 0 0 _
    refine x_ifne (tgt := 14) rfl rfl (ti_ne jk_1 jk_0 (bn_t (by omega) ?_))
    refine x_aloadn (x := 31) rfl rfl ?_
    refine z_getR (N := 13) (b := 68) 11 2 rfl f_11_23 rfl J rfl 3970 ⟨rfl, rfl⟩ rfl ?_
    refine x_iloadn (x := a1) rfl rfl ?_
    refine x_inv (N := m_X9_append) (As := [.int a1]) (b := 68) (st := []) (dx9 := 1) (mc := 0) (ms := 0) (host := "") 9 rfl t_X9_append ⟨Or.inl q_11_102, i_X9_append.1, i_X9_append.2⟩ ⟨by decide, rfl⟩ (congrArg Prod.fst (J.1.1 68 (9, 6) rfl)) rfl (by decide) rfl rfl ⟨by decide, by decide⟩ (sf_X9_append_r68d  hD J rfl  (fun h J S4 X5 => ?_))
    have Sm := jSm_tr rfl Sm S4
    rw [X5] at D
    show jX m_X11_feed 2 0 0 22 [(0, .ref 31), (1, .int a1), (2, .int a2), (3, .int a3), (4, .int a4), (5, .int a5)] [] _ 0 0 _
    refine x_aloadn (x := 31) rfl rfl ?_
    refine z_getR (N := 13) (b := 68) 11 2 rfl f_11_23 rfl J rfl 3970 ⟨rfl, rfl⟩ rfl ?_
    refine x_iloadn (x := a2) rfl rfl ?_
    refine x_inv (N := m_X9_append) (As := [.int a2]) (b := 68) (st := []) (dx9 := 1) (mc := 0) (ms := 0) (host := "") 9 rfl t_X9_append ⟨Or.inl q_11_102, i_X9_append.1, i_X9_append.2⟩ ⟨by decide, rfl⟩ (congrArg Prod.fst (J.1.1 68 (9, 6) rfl)) rfl (by decide) rfl rfl ⟨by decide, by decide⟩ (sf_X9_append_r68d  hD J rfl  (fun h J S6 X7 => ?_))
    have Sm := jSm_tr rfl Sm S6
    rw [X7] at D
    show jX m_X11_feed 2 0 0 30 [(0, .ref 31), (1, .int a1), (2, .int a2), (3, .int a3), (4, .int a4), (5, .int a5)] [] _ 0 0 _
    refine x_aloadn (x := 31) rfl rfl ?_
    refine z_getR (N := 13) (b := 68) 11 2 rfl f_11_23 rfl J rfl 3970 ⟨rfl, rfl⟩ rfl ?_
    refine x_iloadn (x := a3) rfl rfl ?_
    refine x_inv (N := m_X9_append) (As := [.int a3]) (b := 68) (st := []) (dx9 := 1) (mc := 0) (ms := 0) (host := "") 9 rfl t_X9_append ⟨Or.inl q_11_102, i_X9_append.1, i_X9_append.2⟩ ⟨by decide, rfl⟩ (congrArg Prod.fst (J.1.1 68 (9, 6) rfl)) rfl (by decide) rfl rfl ⟨by decide, by decide⟩ (sf_X9_append_r68d  hD J rfl  (fun h J S8 X9 => ?_))
    have Sm := jSm_tr rfl Sm S8
    rw [X9] at D
    show jX m_X11_feed 2 0 0 38 [(0, .ref 31), (1, .int a1), (2, .int a2), (3, .int a3), (4, .int a4), (5, .int a5)] [] _ 0 0 _
    refine x_aloadn (x := 31) rfl rfl ?_
    refine z_getR (N := 13) (b := 68) 11 2 rfl f_11_23 rfl J rfl 3970 ⟨rfl, rfl⟩ rfl ?_
    refine x_iload (x := a4) rfl rfl ?_
    refine x_inv (N := m_X9_append) (As := [.int a4]) (b := 68) (st := []) (dx9 := 1) (mc := 0) (ms := 0) (host := "") 9 rfl t_X9_append ⟨Or.inl q_11_102, i_X9_append.1, i_X9_append.2⟩ ⟨by decide, rfl⟩ (congrArg Prod.fst (J.1.1 68 (9, 6) rfl)) rfl (by decide) rfl rfl ⟨by decide, by decide⟩ (sf_X9_append_r68d  hD J rfl  (fun h J S10 X11 => ?_))
    have Sm := jSm_tr rfl Sm S10
    rw [X11] at D
    show jX m_X11_feed 2 0 0 47 [(0, .ref 31), (1, .int a1), (2, .int a2), (3, .int a3), (4, .int a4), (5, .int a5)] [] _ 0 0 _
    refine x_aloadn (x := 31) rfl rfl ?_
    refine z_getR (N := 13) (b := 68) 11 2 rfl f_11_23 rfl J rfl 3970 ⟨rfl, rfl⟩ rfl ?_
    refine x_iload (x := a5) rfl rfl ?_
    refine x_inv (N := m_X9_append) (As := [.int a5]) (b := 68) (st := []) (dx9 := 1) (mc := 0) (ms := 0) (host := "") 9 rfl t_X9_append ⟨Or.inl q_11_102, i_X9_append.1, i_X9_append.2⟩ ⟨by decide, rfl⟩ (congrArg Prod.fst (J.1.1 68 (9, 6) rfl)) rfl (by decide) rfl rfl ⟨by decide, by decide⟩ (sf_X9_append_r68d  hD J rfl  (fun h J S12 X13 => ?_))
    have Sm := jSm_tr rfl Sm S12
    rw [X13] at D
    show jX m_X11_feed 2 0 0 56 [(0, .ref 31), (1, .int a1), (2, .int a2), (3, .int a3), (4, .int a4), (5, .int a5)] [] _ 0 0 _
    refine x_aloadn (x := 31) rfl rfl ?_
    refine z_getR (N := 13) (b := 68) 11 2 rfl f_11_23 rfl J rfl 3970 ⟨rfl, rfl⟩ rfl ?_
    refine z_getI (N := 6) 9 1 rfl f_11_106 rfl J rfl sg_68_1_2_1_0_1 (fun v14 qv14 ev14 => ?_)
    try rw [vrf qv14] at D
    refine x_iret rfl rfl ?_
    exact hQ _ _ (jr_of rfl (by omega)) J Sm ((congrArg Prod.fst D).symm.trans (show v14.toInt = v14.toInt from by omega)) (congrArg Prod.snd D).symm
def fp_X8_at_r41_c1d : jFp := []
set_option maxRecDepth 100000 in
set_option maxHeartbeats 4000000 in
theorem ct_X8_at_r41_c1d_24 {Dy : jH → Prop} {h0 : jH} {Q : Option Value → jH → Prop} {dr : Int} (hD : jDk Dy) (hQ : ∀ (v : Int32) hx9, 0 ≤ v.toInt ∧ v.toInt ≤ 146399 → jJ jSgX Dy hx9 → jSm fp_X8_at_r41_c1d h0 hx9 → dr = v.toInt → vw hx9 = vw h0 → Q (some (.int v)) hx9) : ∀ (h : jH), jJ jSgX Dy h → jSm fp_X8_at_r41_c1d h0 h → d_X8_at_r41_c1d_24  (vw h) = dr → vw h = vw h0 → jX m_X8_at 1 0 0 24 [] [] h 0 0 Q := by
  intro  h    J Sm D EV
  unfold d_X8_at_r41_c1d_24 at D
  refine x_iconst (v := 0) rfl ki_0 ?_
  refine x_iret rfl rfl ?_
  exact hQ _ _ (jr_of jk_0 (by omega)) J Sm (D.symm.trans (show 0 = (0 : Int32).toInt from by have := jk_0; omega)) EV
set_option maxRecDepth 100000 in
set_option maxHeartbeats 4000000 in
theorem sf_X8_at_r41_c1d {Dy : jH → Prop} {h : jH} {Q : Option Value → jH → Prop} {dr : Int} {a1 : Int32} (y1 : 0 ≤ a1.toInt ∧ a1.toInt ≤ 19) (hD : jDk Dy) (J : jJ jSgX Dy h) (D : d_X8_at_r41_c1d a1.toInt (vw h) = dr) (hQ : ∀ (v : Int32) hx9, 0 ≤ v.toInt ∧ v.toInt ≤ 146399 → jJ jSgX Dy hx9 → jSm fp_X8_at_r41_c1d h hx9 → dr = v.toInt → vw hx9 = vw h → Q (some (.int v)) hx9) : jC m_X8_at 1 0 0 [.ref 41, .int a1, .int 1] h Q := by
  refine jC.of rfl k_X8_at rfl ?_
  have Sm := jSm_rf fp_X8_at_r41_c1d h
  show jX m_X8_at 1 0 0 0 [(0, .ref 41), (1, .int a1), (2, .int 1)] [] _ 0 0 _
  unfold d_X8_at_r41_c1d at D
  have EV : vw h = vw h := rfl
  refine x_iloadn (x := a1) rfl rfl ?_
  refine x_iflt (tgt := 24) rfl rfl (ti_lt rfl jk_0 (br_f (by omega) ?_))
  refine x_iloadn (x := a1) rfl rfl ?_
  refine x_aloadn (x := 41) rfl rfl ?_
  refine z_getI (N := 4) 8 3 rfl f_8_7 rfl J rfl sg_41_3_4_1_0_1 (fun v1 qv1 ev1 => ?_)
  try rw [vrf qv1] at D
  refine x_icge (tgt := 24) rfl rfl (ti_ge rfl rfl ⟨fun c2 => ?_, fun c2 => ?_⟩)
  ·
    rw [if_pos (by omega)] at D
    exact jX.sub jsb_n (ct_X8_at_r41_c1d_24 hD hQ  h J Sm D EV)
  ·
    rw [if_neg (by omega)] at D
    refine x_iloadn (x := 1) rfl rfl ?_
    refine x_iflt (tgt := 24) rfl rfl (ti_lt jk_1 jk_0 (br_f (by omega) ?_))
    refine x_iloadn (x := 1) rfl rfl ?_
    refine x_aloadn (x := 41) rfl rfl ?_
    refine z_getC (N := 4) (v := 4) 8 0 rfl f_8_19 rfl J rfl sg_41_0_1_1_0_1 jk_4 ?_
    refine x_iclt (tgt := 26) rfl rfl (ti_lt jk_1 jk_4 (br_t (by omega) ?_))
    refine x_aloadn (x := 41) rfl rfl ?_
    refine z_getR (N := 4) (b := 42) 8 2 rfl f_8_25 rfl J rfl 5250 ⟨rfl, rfl⟩ rfl ?_
    refine x_iloadn (x := a1) rfl rfl ?_
    refine x_aloadn (x := 41) rfl rfl ?_
    refine z_getC (N := 4) (v := 4) 8 0 rfl f_8_19 rfl J rfl sg_41_0_1_1_0_1 jk_4 ?_
    refine z_imul rfl rfl jk_4 (by omega) (fun v3 ev3 => ?_)
    refine x_iloadn (x := 1) rfl rfl ?_
    refine z_iadd rfl rfl jk_1 (by omega) (fun v4 ev4 => ?_)
    refine z_iald (N := 80) rfl J rfl sg_42_0_80_4_1_2 rfl (by omega) (fun v5 qv5 ev5 => ?_)
    try rw [vrd qv5 (show ((a1.toInt * 4) + 1) = v4.toInt from by omega)] at D
    refine x_iret rfl rfl ?_
    exact hQ _ _ (jr_of rfl (by omega)) J Sm (D.symm.trans (show v5.toInt = v5.toInt from by omega)) EV
def fp_X8_at_r41_c2d : jFp := []
set_option maxRecDepth 100000 in
set_option maxHeartbeats 4000000 in
theorem ct_X8_at_r41_c2d_24 {Dy : jH → Prop} {h0 : jH} {Q : Option Value → jH → Prop} {dr : Int} (hD : jDk Dy) (hQ : ∀ (v : Int32) hx9, 0 ≤ v.toInt ∧ v.toInt ≤ 146399 → jJ jSgX Dy hx9 → jSm fp_X8_at_r41_c2d h0 hx9 → dr = v.toInt → vw hx9 = vw h0 → Q (some (.int v)) hx9) : ∀ (h : jH), jJ jSgX Dy h → jSm fp_X8_at_r41_c2d h0 h → d_X8_at_r41_c2d_24  (vw h) = dr → vw h = vw h0 → jX m_X8_at 1 0 0 24 [] [] h 0 0 Q := by
  intro  h    J Sm D EV
  unfold d_X8_at_r41_c2d_24 at D
  refine x_iconst (v := 0) rfl ki_0 ?_
  refine x_iret rfl rfl ?_
  exact hQ _ _ (jr_of jk_0 (by omega)) J Sm (D.symm.trans (show 0 = (0 : Int32).toInt from by have := jk_0; omega)) EV
set_option maxRecDepth 100000 in
set_option maxHeartbeats 4000000 in
theorem sf_X8_at_r41_c2d {Dy : jH → Prop} {h : jH} {Q : Option Value → jH → Prop} {dr : Int} {a1 : Int32} (y1 : 0 ≤ a1.toInt ∧ a1.toInt ≤ 19) (hD : jDk Dy) (J : jJ jSgX Dy h) (D : d_X8_at_r41_c2d a1.toInt (vw h) = dr) (hQ : ∀ (v : Int32) hx9, 0 ≤ v.toInt ∧ v.toInt ≤ 146399 → jJ jSgX Dy hx9 → jSm fp_X8_at_r41_c2d h hx9 → dr = v.toInt → vw hx9 = vw h → Q (some (.int v)) hx9) : jC m_X8_at 1 0 0 [.ref 41, .int a1, .int 2] h Q := by
  refine jC.of rfl k_X8_at rfl ?_
  have Sm := jSm_rf fp_X8_at_r41_c2d h
  show jX m_X8_at 1 0 0 0 [(0, .ref 41), (1, .int a1), (2, .int 2)] [] _ 0 0 _
  unfold d_X8_at_r41_c2d at D
  have EV : vw h = vw h := rfl
  refine x_iloadn (x := a1) rfl rfl ?_
  refine x_iflt (tgt := 24) rfl rfl (ti_lt rfl jk_0 (br_f (by omega) ?_))
  refine x_iloadn (x := a1) rfl rfl ?_
  refine x_aloadn (x := 41) rfl rfl ?_
  refine z_getI (N := 4) 8 3 rfl f_8_7 rfl J rfl sg_41_3_4_1_0_1 (fun v1 qv1 ev1 => ?_)
  try rw [vrf qv1] at D
  refine x_icge (tgt := 24) rfl rfl (ti_ge rfl rfl ⟨fun c2 => ?_, fun c2 => ?_⟩)
  ·
    rw [if_pos (by omega)] at D
    exact jX.sub jsb_n (ct_X8_at_r41_c2d_24 hD hQ  h J Sm D EV)
  ·
    rw [if_neg (by omega)] at D
    refine x_iloadn (x := 2) rfl rfl ?_
    refine x_iflt (tgt := 24) rfl rfl (ti_lt jk_2 jk_0 (br_f (by omega) ?_))
    refine x_iloadn (x := 2) rfl rfl ?_
    refine x_aloadn (x := 41) rfl rfl ?_
    refine z_getC (N := 4) (v := 4) 8 0 rfl f_8_19 rfl J rfl sg_41_0_1_1_0_1 jk_4 ?_
    refine x_iclt (tgt := 26) rfl rfl (ti_lt jk_2 jk_4 (br_t (by omega) ?_))
    refine x_aloadn (x := 41) rfl rfl ?_
    refine z_getR (N := 4) (b := 42) 8 2 rfl f_8_25 rfl J rfl 5250 ⟨rfl, rfl⟩ rfl ?_
    refine x_iloadn (x := a1) rfl rfl ?_
    refine x_aloadn (x := 41) rfl rfl ?_
    refine z_getC (N := 4) (v := 4) 8 0 rfl f_8_19 rfl J rfl sg_41_0_1_1_0_1 jk_4 ?_
    refine z_imul rfl rfl jk_4 (by omega) (fun v3 ev3 => ?_)
    refine x_iloadn (x := 2) rfl rfl ?_
    refine z_iadd rfl rfl jk_2 (by omega) (fun v4 ev4 => ?_)
    refine z_iald (N := 80) rfl J rfl sg_42_0_80_4_2_3 rfl (by omega) (fun v5 qv5 ev5 => ?_)
    try rw [vrd qv5 (show ((a1.toInt * 4) + 2) = v4.toInt from by omega)] at D
    refine x_iret rfl rfl ?_
    exact hQ _ _ (jr_of rfl (by omega)) J Sm (D.symm.trans (show v5.toInt = v5.toInt from by omega)) EV
def fp_X8_at_r41_c3d : jFp := []
set_option maxRecDepth 100000 in
set_option maxHeartbeats 4000000 in
theorem ct_X8_at_r41_c3d_24 {Dy : jH → Prop} {h0 : jH} {Q : Option Value → jH → Prop} {dr : Int} (hD : jDk Dy) (hQ : ∀ (v : Int32) hx9, 0 ≤ v.toInt ∧ v.toInt ≤ 5 → jJ jSgX Dy hx9 → jSm fp_X8_at_r41_c3d h0 hx9 → dr = v.toInt → vw hx9 = vw h0 → Q (some (.int v)) hx9) : ∀ (h : jH), jJ jSgX Dy h → jSm fp_X8_at_r41_c3d h0 h → d_X8_at_r41_c3d_24  (vw h) = dr → vw h = vw h0 → jX m_X8_at 1 0 0 24 [] [] h 0 0 Q := by
  intro  h    J Sm D EV
  unfold d_X8_at_r41_c3d_24 at D
  refine x_iconst (v := 0) rfl ki_0 ?_
  refine x_iret rfl rfl ?_
  exact hQ _ _ (jr_of jk_0 (by omega)) J Sm (D.symm.trans (show 0 = (0 : Int32).toInt from by have := jk_0; omega)) EV
set_option maxRecDepth 100000 in
set_option maxHeartbeats 4000000 in
theorem sf_X8_at_r41_c3d {Dy : jH → Prop} {h : jH} {Q : Option Value → jH → Prop} {dr : Int} {a1 : Int32} (y1 : 0 ≤ a1.toInt ∧ a1.toInt ≤ 19) (hD : jDk Dy) (J : jJ jSgX Dy h) (D : d_X8_at_r41_c3d a1.toInt (vw h) = dr) (hQ : ∀ (v : Int32) hx9, 0 ≤ v.toInt ∧ v.toInt ≤ 5 → jJ jSgX Dy hx9 → jSm fp_X8_at_r41_c3d h hx9 → dr = v.toInt → vw hx9 = vw h → Q (some (.int v)) hx9) : jC m_X8_at 1 0 0 [.ref 41, .int a1, .int 3] h Q := by
  refine jC.of rfl k_X8_at rfl ?_
  have Sm := jSm_rf fp_X8_at_r41_c3d h
  show jX m_X8_at 1 0 0 0 [(0, .ref 41), (1, .int a1), (2, .int 3)] [] _ 0 0 _
  unfold d_X8_at_r41_c3d at D
  have EV : vw h = vw h := rfl
  refine x_iloadn (x := a1) rfl rfl ?_
  refine x_iflt (tgt := 24) rfl rfl (ti_lt rfl jk_0 (br_f (by omega) ?_))
  refine x_iloadn (x := a1) rfl rfl ?_
  refine x_aloadn (x := 41) rfl rfl ?_
  refine z_getI (N := 4) 8 3 rfl f_8_7 rfl J rfl sg_41_3_4_1_0_1 (fun v1 qv1 ev1 => ?_)
  try rw [vrf qv1] at D
  refine x_icge (tgt := 24) rfl rfl (ti_ge rfl rfl ⟨fun c2 => ?_, fun c2 => ?_⟩)
  ·
    rw [if_pos (by omega)] at D
    exact jX.sub jsb_n (ct_X8_at_r41_c3d_24 hD hQ  h J Sm D EV)
  ·
    rw [if_neg (by omega)] at D
    refine x_iloadn (x := 3) rfl rfl ?_
    refine x_iflt (tgt := 24) rfl rfl (ti_lt jk_3 jk_0 (br_f (by omega) ?_))
    refine x_iloadn (x := 3) rfl rfl ?_
    refine x_aloadn (x := 41) rfl rfl ?_
    refine z_getC (N := 4) (v := 4) 8 0 rfl f_8_19 rfl J rfl sg_41_0_1_1_0_1 jk_4 ?_
    refine x_iclt (tgt := 26) rfl rfl (ti_lt jk_3 jk_4 (br_t (by omega) ?_))
    refine x_aloadn (x := 41) rfl rfl ?_
    refine z_getR (N := 4) (b := 42) 8 2 rfl f_8_25 rfl J rfl 5250 ⟨rfl, rfl⟩ rfl ?_
    refine x_iloadn (x := a1) rfl rfl ?_
    refine x_aloadn (x := 41) rfl rfl ?_
    refine z_getC (N := 4) (v := 4) 8 0 rfl f_8_19 rfl J rfl sg_41_0_1_1_0_1 jk_4 ?_
    refine z_imul rfl rfl jk_4 (by omega) (fun v3 ev3 => ?_)
    refine x_iloadn (x := 3) rfl rfl ?_
    refine z_iadd rfl rfl jk_3 (by omega) (fun v4 ev4 => ?_)
    refine z_iald (N := 80) rfl J rfl sg_42_0_80_4_3_4 rfl (by omega) (fun v5 qv5 ev5 => ?_)
    try rw [vrd qv5 (show ((a1.toInt * 4) + 3) = v4.toInt from by omega)] at D
    refine x_iret rfl rfl ?_
    exact hQ _ _ (jr_of rfl (by omega)) J Sm (D.symm.trans (show v5.toInt = v5.toInt from by omega)) EV
def fp_X8_isKnown_r41d : jFp := []
set_option maxRecDepth 100000 in
set_option maxHeartbeats 4000000 in
theorem ct_X8_isKnown_r41d_300032 {Dy : jH → Prop} {h0 : jH} {Q : Option Value → jH → Prop} {dr : Int} (hD : jDk Dy) (hQ : ∀ (v : Int32) hx9, 0 ≤ v.toInt ∧ v.toInt ≤ 1 → jJ jSgX Dy hx9 → jSm fp_X8_isKnown_r41d h0 hx9 → dr = v.toInt → vw hx9 = vw h0 → Q (some (.int v)) hx9) : ∀ (h : jH), jJ jSgX Dy h → jSm fp_X8_isKnown_r41d h0 h → d_X8_isKnown_r41d_300032  (vw h) = dr → vw h = vw h0 → jX m_X8_isKnown 1 0 0 32 [] [.int 1] h 0 0 Q := by
  intro  h    J Sm D EV
  unfold d_X8_isKnown_r41d_300032 at D
  refine x_zret rfl rfl (by decide) ?_
  exact hQ _ _ (jr_of jk_1 (by omega)) J Sm (D.symm.trans (show 1 = (1 : Int32).toInt from by have := jk_1; omega)) EV
set_option maxRecDepth 100000 in
set_option maxHeartbeats 4000000 in
theorem ct_X8_isKnown_r41d_200032 {Dy : jH → Prop} {h0 : jH} {Q : Option Value → jH → Prop} {dr : Int} (hD : jDk Dy) (hQ : ∀ (v : Int32) hx9, 0 ≤ v.toInt ∧ v.toInt ≤ 1 → jJ jSgX Dy hx9 → jSm fp_X8_isKnown_r41d h0 hx9 → dr = v.toInt → vw hx9 = vw h0 → Q (some (.int v)) hx9) : ∀ (h : jH), jJ jSgX Dy h → jSm fp_X8_isKnown_r41d h0 h → d_X8_isKnown_r41d_200032  (vw h) = dr → vw h = vw h0 → jX m_X8_isKnown 1 0 0 32 [] [.int 0] h 0 0 Q := by
  intro  h    J Sm D EV
  unfold d_X8_isKnown_r41d_200032 at D
  refine x_zret rfl rfl (by decide) ?_
  exact hQ _ _ (jr_of jk_0 (by omega)) J Sm (D.symm.trans (show 0 = (0 : Int32).toInt from by have := jk_0; omega)) EV
set_option maxRecDepth 100000 in
set_option maxHeartbeats 4000000 in
theorem ct_X8_isKnown_r41d_31 {Dy : jH → Prop} {h0 : jH} {Q : Option Value → jH → Prop} {dr : Int} (hD : jDk Dy) (hQ : ∀ (v : Int32) hx9, 0 ≤ v.toInt ∧ v.toInt ≤ 1 → jJ jSgX Dy hx9 → jSm fp_X8_isKnown_r41d h0 hx9 → dr = v.toInt → vw hx9 = vw h0 → Q (some (.int v)) hx9) : ∀ (h : jH), jJ jSgX Dy h → jSm fp_X8_isKnown_r41d h0 h → d_X8_isKnown_r41d_31  (vw h) = dr → vw h = vw h0 → jX m_X8_isKnown 1 0 0 31 [] [] h 0 0 Q := by
  intro  h    J Sm D EV
  unfold d_X8_isKnown_r41d_31 at D
  refine x_iconst (v := 0) rfl ki_0 ?_
  exact jX.sub jsb_n (ct_X8_isKnown_r41d_200032 hD hQ  h J Sm D EV)
set_option maxRecDepth 100000 in
set_option maxHeartbeats 4000000 in
theorem sf_X8_isKnown_r41d {Dy : jH → Prop} {h : jH} {Q : Option Value → jH → Prop} {dr : Int} {a1 : Int32} {a2 : Int32} (y1 : 0 ≤ a1.toInt ∧ a1.toInt ≤ 19) (y2 : 0 ≤ a2.toInt ∧ a2.toInt ≤ 146399) (hD : jDk Dy) (J : jJ jSgX Dy h) (D : d_X8_isKnown_r41d a1.toInt a2.toInt (vw h) = dr) (hQ : ∀ (v : Int32) hx9, 0 ≤ v.toInt ∧ v.toInt ≤ 1 → jJ jSgX Dy hx9 → jSm fp_X8_isKnown_r41d h hx9 → dr = v.toInt → vw hx9 = vw h → Q (some (.int v)) hx9) : jC m_X8_isKnown 1 0 0 [.ref 41, .int a1, .int a2] h Q := by
  refine jC.of rfl k_X8_isKnown rfl ?_
  have Sm := jSm_rf fp_X8_isKnown_r41d h
  show jX m_X8_isKnown 1 0 0 0 [(0, .ref 41), (1, .int a1), (2, .int a2)] [] _ 0 0 _
  unfold d_X8_isKnown_r41d at D
  have EV : vw h = vw h := rfl
  refine x_iloadn (x := a1) rfl rfl ?_
  refine x_iflt (tgt := 31) rfl rfl (ti_lt rfl jk_0 (br_f (by omega) ?_))
  refine x_iloadn (x := a1) rfl rfl ?_
  refine x_aloadn (x := 41) rfl rfl ?_
  refine z_getI (N := 4) 8 3 rfl f_8_7 rfl J rfl sg_41_3_4_1_0_1 (fun v1 qv1 ev1 => ?_)
  try rw [vrf qv1] at D
  refine x_icge (tgt := 31) rfl rfl (ti_ge rfl rfl ⟨fun c2 => ?_, fun c2 => ?_⟩)
  ·
    rw [if_pos (by omega)] at D
    exact jX.sub jsb_n (ct_X8_isKnown_r41d_31 hD hQ  h J Sm D EV)
  ·
    rw [if_neg (by omega)] at D
    refine x_aloadn (x := 41) rfl rfl ?_
    refine z_getR (N := 4) (b := 42) 8 2 rfl f_8_25 rfl J rfl 5250 ⟨rfl, rfl⟩ rfl ?_
    refine x_iloadn (x := a1) rfl rfl ?_
    refine x_aloadn (x := 41) rfl rfl ?_
    refine z_getC (N := 4) (v := 4) 8 0 rfl f_8_19 rfl J rfl sg_41_0_1_1_0_1 jk_4 ?_
    refine z_imul rfl rfl jk_4 (by omega) (fun v3 ev3 => ?_)
    refine z_iald (N := 80) rfl J rfl sg_42_0_80_4_0_1 rfl (by omega) (fun v4 qv4 ev4 => ?_)
    try rw [vrd qv4 (show (a1.toInt * 4) = v3.toInt from by omega)] at D
    refine x_iloadn (x := a2) rfl rfl ?_
    refine x_icgt (tgt := 31) rfl rfl (ti_gt rfl rfl ⟨fun c5 => ?_, fun c5 => ?_⟩)
    ·
      rw [if_pos (by omega)] at D
      exact jX.sub jsb_n (ct_X8_isKnown_r41d_31 hD hQ  h J Sm D EV)
    ·
      rw [if_neg (by omega)] at D
      refine x_iconst (v := 1) rfl ki_1 ?_
      refine x_goto (tgt := 32) rfl rfl ?_
      exact jX.sub jsb_n (ct_X8_isKnown_r41d_300032 hD hQ  h J Sm D EV)
def fp_X11_isTornWithin_r31d : jFp := []
set_option maxRecDepth 100000 in
set_option maxHeartbeats 4000000 in
theorem ct_X11_isTornWithin_r31d_66 {Dy : jH → Prop} {h0 : jH} {Q : Option Value → jH → Prop} {dr : Int} {K3 : Int → Int → Int → Int → Int → jW → Int} {R3 : Int} (hD : jDk Dy) (hQ : ∀ (v : Int32) hx9, 0 ≤ v.toInt ∧ v.toInt ≤ 1 → jJ jSgX Dy hx9 → jSm fp_X11_isTornWithin_r31d h0 hx9 → dr = v.toInt → vw hx9 = vw h0 → Q (some (.int v)) hx9) (k3 : ∀ (l1 : Int32) (l2 : Int32) (l3 : Int32) (l4 : Int32) (l5 : Int32) (h : jH), 20 - l5.toInt < R3 → 0 ≤ l1.toInt ∧ l1.toInt ≤ 5 → 0 ≤ l2.toInt ∧ l2.toInt ≤ 146399 → (-146399) ≤ l3.toInt ∧ l3.toInt ≤ 999999 → 0 ≤ l4.toInt ∧ l4.toInt ≤ 146399 → 0 ≤ l5.toInt ∧ l5.toInt ≤ 20 → jJ jSgX Dy h → jSm fp_X11_isTornWithin_r31d h0 h → K3 l1.toInt l2.toInt l3.toInt l4.toInt l5.toInt (vw h) = dr → vw h = vw h0 → jX m_X11_isTornWithin 3 0 0 3 [(0, .ref 31), (1, .int l1), (2, .int l2), (3, .int l3), (4, .int l4), (5, .int l5)] [] h 0 0 Q) : ∀ (l1 : Int32) (l2 : Int32) (l3 : Int32) (l4 : Int32) (l5 : Int32) (h : jH), 0 ≤ l1.toInt ∧ l1.toInt ≤ 5 → 0 ≤ l2.toInt ∧ l2.toInt ≤ 146399 → (-146399) ≤ l3.toInt ∧ l3.toInt ≤ 999999 → 0 ≤ l4.toInt ∧ l4.toInt ≤ 146399 → 0 ≤ l5.toInt ∧ l5.toInt ≤ 19 → 20 - l5.toInt ≤ R3 → jJ jSgX Dy h → jSm fp_X11_isTornWithin_r31d h0 h → d_X11_isTornWithin_r31d_66 K3  l1.toInt l2.toInt l3.toInt l4.toInt l5.toInt (vw h) = dr → vw h = vw h0 → jX m_X11_isTornWithin 3 0 0 66 [(0, .ref 31), (1, .int l1), (2, .int l2), (3, .int l3), (4, .int l4), (5, .int l5)] [] h 0 0 Q := by
  intro l1 l2 l3 l4 l5 h y0 y1 y2 y3 y4  m3 J Sm D EV
  unfold d_X11_isTornWithin_r31d_66 at D
  refine z_iinc (x := l5) (lsx9 := fun v1 => [(5, .int v1), (0, .ref 31), (1, .int l1), (2, .int l2), (3, .int l3), (4, .int l4)]) rfl rfl rfl jko_1 (by omega) rfl (fun _ => rfl) (fun v1 ev1 => ?_)
  refine x_goto (tgt := 3) rfl rfl ?_
  try rw [show (l5.toInt + 1) = v1.toInt from by omega] at D
  exact jX.sub (jsb_c rfl (jsb_c rfl (jsb_c rfl (jsb_c rfl (jsb_c rfl (jsb_c rfl jsb_n)))))) (k3 l1 l2 l3 l4 v1 h (by omega) (jr_of rfl (by omega)) (jr_of rfl (by omega)) (jr_of rfl (by omega)) (jr_of rfl (by omega)) (jr_of rfl (by omega)) J Sm D EV)
set_option maxRecDepth 100000 in
set_option maxHeartbeats 4000000 in
theorem ct_X11_isTornWithin_r31d_3 {Dy : jH → Prop} {h0 : jH} {Q : Option Value → jH → Prop} {dr : Int} (hD : jDk Dy) (hQ : ∀ (v : Int32) hx9, 0 ≤ v.toInt ∧ v.toInt ≤ 1 → jJ jSgX Dy hx9 → jSm fp_X11_isTornWithin_r31d h0 hx9 → dr = v.toInt → vw hx9 = vw h0 → Q (some (.int v)) hx9) : ∀ r : Nat, ∀ (l1 : Int32) (l2 : Int32) (l3 : Int32) (l4 : Int32) (l5 : Int32) (h : jH), 20 - l5.toInt < (r : Int) → 0 ≤ l1.toInt ∧ l1.toInt ≤ 5 → 0 ≤ l2.toInt ∧ l2.toInt ≤ 146399 → (-146399) ≤ l3.toInt ∧ l3.toInt ≤ 999999 → 0 ≤ l4.toInt ∧ l4.toInt ≤ 146399 → 0 ≤ l5.toInt ∧ l5.toInt ≤ 20 → jJ jSgX Dy h → jSm fp_X11_isTornWithin_r31d h0 h → d_X11_isTornWithin_r31d_3 r l1.toInt l2.toInt l3.toInt l4.toInt l5.toInt (vw h) = dr → vw h = vw h0 → jX m_X11_isTornWithin 3 0 0 3 [(0, .ref 31), (1, .int l1), (2, .int l2), (3, .int l3), (4, .int l4), (5, .int l5)] [] h 0 0 Q := by
  intro r
  induction r with
  | zero =>
    intro l1 l2 l3 l4 l5 h hm y0 y1 y2 y3 y4   J Sm D EV
    exfalso
    omega
  | succ r ih =>
    intro l1 l2 l3 l4 l5 h hm y0 y1 y2 y3 y4   J Sm D EV
    rw [d_X11_isTornWithin_r31d_3.eq_2] at D
    refine x_iload (x := l5) rfl rfl ?_
    refine x_aloadn (x := 31) rfl rfl ?_
    refine z_getR (N := 13) (b := 32) 11 0 rfl f_11_10 rfl J rfl 3968 ⟨rfl, rfl⟩ rfl ?_
    refine z_getR (N := 20) (b := 41) 1 4 rfl f_11_312 rfl J rfl 4100 ⟨rfl, rfl⟩ rfl ?_
    refine z_getI (N := 4) 8 3 rfl f_11_142 rfl J rfl sg_41_3_4_1_0_1 (fun v1 qv1 ev1 => ?_)
    try rw [vrf qv1] at D
    refine x_icge (tgt := 72) rfl rfl (ti_ge rfl rfl ⟨fun c2 => ?_, fun c2 => ?_⟩)
    ·
      rw [if_pos (by omega)] at D
      refine x_iconst (v := 0) rfl ki_0 ?_
      refine x_zret rfl rfl (by decide) ?_
      exact hQ _ _ (jr_of jk_0 (by omega)) J Sm (D.symm.trans (show 0 = (0 : Int32).toInt from by have := jk_0; omega)) EV
    ·
      rw [if_neg (by omega)] at D
      refine x_aloadn (x := 31) rfl rfl ?_
      refine x_iload (x := l5) rfl rfl ?_
      refine x_iloadn (x := l1) rfl rfl ?_
      refine x_iload (x := l4) rfl rfl ?_
      refine x_inv (N := m_X11_isPageOf) (As := [.int l5, .int l1, .int l4]) (b := 31) (st := []) (dx9 := 2) (mc := 0) (ms := 0) (host := "") 11 rfl t_X11_isPageOf ⟨Or.inl q_11_561, i_X11_isPageOf.1, i_X11_isPageOf.2⟩ ⟨by decide, rfl⟩ (congrArg Prod.fst (J.1.1 31 (11, 13) rfl)) rfl (by decide) rfl rfl ⟨by decide, by decide⟩ (jC.of rfl k_X11_isPageOf rfl ?_)
      show jX m_X11_isPageOf 2 0 0 0 [(0, .ref 31), (1, .int l5), (2, .int l1), (3, .int l4)] [] _ 0 0 _
      refine x_aloadn (x := 31) rfl rfl ?_
      refine z_getR (N := 13) (b := 32) 11 0 rfl f_11_10 rfl J rfl 3968 ⟨rfl, rfl⟩ rfl ?_
      refine z_getR (N := 20) (b := 41) 1 4 rfl f_11_312 rfl J rfl 4100 ⟨rfl, rfl⟩ rfl ?_
      refine x_iloadn (x := l5) rfl rfl ?_
      refine x_iloadn (x := l4) rfl rfl ?_
      refine x_inv (N := m_X8_isKnown) (As := [.int l5, .int l4]) (b := 41) (st := []) (dx9 := 1) (mc := 0) (ms := 0) (host := "") 8 rfl t_X8_isKnown ⟨Or.inl q_11_440, i_X8_isKnown.1, i_X8_isKnown.2⟩ ⟨by decide, rfl⟩ (congrArg Prod.fst (J.1.1 41 (8, 4) rfl)) rfl (by decide) rfl rfl ⟨by decide, by decide⟩ (sf_X8_isKnown_r41d (jr_of rfl (by omega)) (jr_of rfl (by omega)) hD J rfl  (fun v6 h ev6 J S3 X4 X5 => ?_))
      have Sm := jSm_tr rfl Sm S3
      try rw [X4] at D
      try rw [← X5] at D
      have EV := X5.trans EV
      show jX m_X11_isPageOf 2 0 0 12 [(0, .ref 31), (1, .int l5), (2, .int l1), (3, .int l4)] [.int v6] _ 0 0 _
      refine x_ifeq (tgt := 35) rfl rfl (ti_eq rfl jk_0 ⟨fun c7 => ?_, fun c7 => ?_⟩)
      ·
        rw [if_pos (by omega)] at D
        refine x_iconst (v := 0) rfl ki_0 ?_
        refine x_zret rfl rfl (by decide) ?_
        show jX m_X11_isTornWithin 3 0 0 27 [(0, .ref 31), (1, .int l1), (2, .int l2), (3, .int l3), (4, .int l4), (5, .int l5)] [.int 0] _ 0 0 _
        refine x_ifeq (tgt := 66) rfl rfl (ti_eq jk_0 jk_0 (br_t (by omega) ?_))
        exact jX.sub (jsb_c rfl (jsb_c rfl (jsb_c rfl (jsb_c rfl (jsb_c rfl (jsb_c rfl jsb_n)))))) (ct_X11_isTornWithin_r31d_66 hD hQ ih l1 l2 l3 l4 l5 h (jr_of rfl (by omega)) (jr_of rfl (by omega)) (jr_of rfl (by omega)) (jr_of rfl (by omega)) (jr_of rfl (by omega)) (by omega) J Sm D EV)
      ·
        rw [if_neg (by omega)] at D
        refine x_aloadn (x := 31) rfl rfl ?_
        refine z_getR (N := 13) (b := 32) 11 0 rfl f_11_10 rfl J rfl 3968 ⟨rfl, rfl⟩ rfl ?_
        refine z_getR (N := 20) (b := 41) 1 4 rfl f_11_312 rfl J rfl 4100 ⟨rfl, rfl⟩ rfl ?_
        refine x_iloadn (x := l5) rfl rfl ?_
        refine x_iconst (v := 3) rfl ki_3 ?_
        refine x_inv (N := m_X8_at) (As := [.int l5, .int 3]) (b := 41) (st := []) (dx9 := 1) (mc := 0) (ms := 0) (host := "") 8 rfl t_X8_at ⟨Or.inl q_11_171, i_X8_at.1, i_X8_at.2⟩ ⟨by decide, rfl⟩ (congrArg Prod.fst (J.1.1 41 (8, 4) rfl)) rfl (by decide) rfl rfl ⟨by decide, by decide⟩ (sf_X8_at_r41_c3d (jr_of rfl (by omega)) hD J rfl  (fun v11 h ev11 J S8 X9 X10 => ?_))
        have Sm := jSm_tr rfl Sm S8
        try rw [X9] at D
        try rw [← X10] at D
        have EV := X10.trans EV
        show jX m_X11_isPageOf 2 0 0 27 [(0, .ref 31), (1, .int l5), (2, .int l1), (3, .int l4)] [.int v11] _ 0 0 _
        refine x_iloadn (x := l1) rfl rfl ?_
        refine x_icne (tgt := 35) rfl rfl (ti_ne rfl rfl ⟨fun c12 => ?_, fun c12 => ?_⟩)
        ·
          rw [if_neg (by omega)] at D
          refine x_iconst (v := 0) rfl ki_0 ?_
          refine x_zret rfl rfl (by decide) ?_
          show jX m_X11_isTornWithin 3 0 0 27 [(0, .ref 31), (1, .int l1), (2, .int l2), (3, .int l3), (4, .int l4), (5, .int l5)] [.int 0] _ 0 0 _
          refine x_ifeq (tgt := 66) rfl rfl (ti_eq jk_0 jk_0 (br_t (by omega) ?_))
          exact jX.sub (jsb_c rfl (jsb_c rfl (jsb_c rfl (jsb_c rfl (jsb_c rfl (jsb_c rfl jsb_n)))))) (ct_X11_isTornWithin_r31d_66 hD hQ ih l1 l2 l3 l4 l5 h (jr_of rfl (by omega)) (jr_of rfl (by omega)) (jr_of rfl (by omega)) (jr_of rfl (by omega)) (jr_of rfl (by omega)) (by omega) J Sm D EV)
        ·
          rw [if_pos (by omega)] at D
          refine x_iconst (v := 1) rfl ki_1 ?_
          refine x_goto (tgt := 36) rfl rfl ?_
          refine x_zret rfl rfl (by decide) ?_
          show jX m_X11_isTornWithin 3 0 0 27 [(0, .ref 31), (1, .int l1), (2, .int l2), (3, .int l3), (4, .int l4), (5, .int l5)] [.int 1] _ 0 0 _
          refine x_ifeq (tgt := 66) rfl rfl (ti_eq jk_1 jk_0 (br_f (by omega) ?_))
          refine x_aloadn (x := 31) rfl rfl ?_
          refine z_getR (N := 13) (b := 32) 11 0 rfl f_11_10 rfl J rfl 3968 ⟨rfl, rfl⟩ rfl ?_
          refine z_getR (N := 20) (b := 41) 1 4 rfl f_11_312 rfl J rfl 4100 ⟨rfl, rfl⟩ rfl ?_
          refine x_iload (x := l5) rfl rfl ?_
          refine x_iconst (v := 1) rfl ki_1 ?_
          refine x_inv (N := m_X8_at) (As := [.int l5, .int 1]) (b := 41) (st := []) (dx9 := 1) (mc := 0) (ms := 0) (host := "") 8 rfl t_X8_at ⟨Or.inl q_11_171, i_X8_at.1, i_X8_at.2⟩ ⟨by decide, rfl⟩ (congrArg Prod.fst (J.1.1 41 (8, 4) rfl)) rfl (by decide) rfl rfl ⟨by decide, by decide⟩ (sf_X8_at_r41_c1d (jr_of rfl (by omega)) hD J rfl  (fun v16 h ev16 J S13 X14 X15 => ?_))
          have Sm := jSm_tr rfl Sm S13
          try rw [X14] at D
          try rw [← X15] at D
          have EV := X15.trans EV
          show jX m_X11_isTornWithin 3 0 0 43 [(0, .ref 31), (1, .int l1), (2, .int l2), (3, .int l3), (4, .int l4), (5, .int l5)] [.int v16] _ 0 0 _
          refine x_iloadn (x := l3) rfl rfl ?_
          refine x_icgt (tgt := 66) rfl rfl (ti_gt rfl rfl ⟨fun c17 => ?_, fun c17 => ?_⟩)
          ·
            rw [if_pos (by omega)] at D
            exact jX.sub (jsb_c rfl (jsb_c rfl (jsb_c rfl (jsb_c rfl (jsb_c rfl (jsb_c rfl jsb_n)))))) (ct_X11_isTornWithin_r31d_66 hD hQ ih l1 l2 l3 l4 l5 h (jr_of rfl (by omega)) (jr_of rfl (by omega)) (jr_of rfl (by omega)) (jr_of rfl (by omega)) (jr_of rfl (by omega)) (by omega) J Sm D EV)
          ·
            rw [if_neg (by omega)] at D
            refine x_aloadn (x := 31) rfl rfl ?_
            refine z_getR (N := 13) (b := 32) 11 0 rfl f_11_10 rfl J rfl 3968 ⟨rfl, rfl⟩ rfl ?_
            refine z_getR (N := 20) (b := 41) 1 4 rfl f_11_312 rfl J rfl 4100 ⟨rfl, rfl⟩ rfl ?_
            refine x_iload (x := l5) rfl rfl ?_
            refine x_iconst (v := 2) rfl ki_2 ?_
            refine x_inv (N := m_X8_at) (As := [.int l5, .int 2]) (b := 41) (st := []) (dx9 := 1) (mc := 0) (ms := 0) (host := "") 8 rfl t_X8_at ⟨Or.inl q_11_171, i_X8_at.1, i_X8_at.2⟩ ⟨by decide, rfl⟩ (congrArg Prod.fst (J.1.1 41 (8, 4) rfl)) rfl (by decide) rfl rfl ⟨by decide, by decide⟩ (sf_X8_at_r41_c2d (jr_of rfl (by omega)) hD J rfl  (fun v21 h ev21 J S18 X19 X20 => ?_))
            have Sm := jSm_tr rfl Sm S18
            try rw [X19] at D
            try rw [← X20] at D
            have EV := X20.trans EV
            show jX m_X11_isTornWithin 3 0 0 60 [(0, .ref 31), (1, .int l1), (2, .int l2), (3, .int l3), (4, .int l4), (5, .int l5)] [.int v21] _ 0 0 _
            refine x_iloadn (x := l2) rfl rfl ?_
            refine x_iclt (tgt := 66) rfl rfl (ti_lt rfl rfl ⟨fun c22 => ?_, fun c22 => ?_⟩)
            ·
              rw [if_pos (by omega)] at D
              exact jX.sub (jsb_c rfl (jsb_c rfl (jsb_c rfl (jsb_c rfl (jsb_c rfl (jsb_c rfl jsb_n)))))) (ct_X11_isTornWithin_r31d_66 hD hQ ih l1 l2 l3 l4 l5 h (jr_of rfl (by omega)) (jr_of rfl (by omega)) (jr_of rfl (by omega)) (jr_of rfl (by omega)) (jr_of rfl (by omega)) (by omega) J Sm D EV)
            ·
              rw [if_neg (by omega)] at D
              refine x_iconst (v := 1) rfl ki_1 ?_
              refine x_zret rfl rfl (by decide) ?_
              exact hQ _ _ (jr_of jk_1 (by omega)) J Sm (D.symm.trans (show 1 = (1 : Int32).toInt from by have := jk_1; omega)) EV
set_option maxRecDepth 100000 in
set_option maxHeartbeats 4000000 in
theorem sf_X11_isTornWithin_r31d {Dy : jH → Prop} {h : jH} {Q : Option Value → jH → Prop} {dr : Int} {a1 : Int32} {a2 : Int32} {a3 : Int32} {a4 : Int32} (y1 : 0 ≤ a1.toInt ∧ a1.toInt ≤ 5) (y2 : 0 ≤ a2.toInt ∧ a2.toInt ≤ 146399) (y3 : (-146399) ≤ a3.toInt ∧ a3.toInt ≤ 999999) (y4 : 0 ≤ a4.toInt ∧ a4.toInt ≤ 146399) (hD : jDk Dy) (J : jJ jSgX Dy h) (D : d_X11_isTornWithin_r31d a1.toInt a2.toInt a3.toInt a4.toInt (vw h) = dr) (hQ : ∀ (v : Int32) hx9, 0 ≤ v.toInt ∧ v.toInt ≤ 1 → jJ jSgX Dy hx9 → jSm fp_X11_isTornWithin_r31d h hx9 → dr = v.toInt → vw hx9 = vw h → Q (some (.int v)) hx9) : jC m_X11_isTornWithin 3 0 0 [.ref 31, .int a1, .int a2, .int a3, .int a4] h Q := by
  refine jC.of rfl k_X11_isTornWithin rfl ?_
  have Sm := jSm_rf fp_X11_isTornWithin_r31d h
  show jX m_X11_isTornWithin 3 0 0 0 [(0, .ref 31), (1, .int a1), (2, .int a2), (3, .int a3), (4, .int a4)] [] _ 0 0 _
  unfold d_X11_isTornWithin_r31d at D
  have EV : vw h = vw h := rfl
  refine x_iconst (v := 0) rfl ki_0 ?_
  refine x_istore (lsx9 := [(5, .int 0), (0, .ref 31), (1, .int a1), (2, .int a2), (3, .int a3), (4, .int a4)]) rfl rfl rfl ?_
  exact jX.sub (jsb_c rfl (jsb_c rfl (jsb_c rfl (jsb_c rfl (jsb_c rfl (jsb_c rfl jsb_n)))))) (ct_X11_isTornWithin_r31d_3 hD hQ  21 a1 a2 a3 a4 0 h (by have := jk_0; omega) (jr_of rfl (by omega)) (jr_of rfl (by omega)) (jr_of rfl (by omega)) (jr_of rfl (by omega)) (jr_of jk_0 (by omega)) J Sm (by rw [jk_0]; exact D) EV)
def fp_X11_wholeDays_r31d : jFp := []
set_option maxRecDepth 100000 in
set_option maxHeartbeats 4000000 in
theorem ct_X11_wholeDays_r31d_180 {Dy : jH → Prop} {h0 : jH} {Q : Option Value → jH → Prop} {dr : Int} (hD : jDk Dy) (hQ : ∀ (v : Int32) hx9, jJ jSgX Dy hx9 → jSm fp_X11_wholeDays_r31d h0 hx9 → dr = v.toInt → vw hx9 = vw h0 → Q (some (.int v)) hx9) : ∀ (l5 : Int32) (h : jH), jJ jSgX Dy h → jSm fp_X11_wholeDays_r31d h0 h → d_X11_wholeDays_r31d_180  l5.toInt (vw h) = dr → vw h = vw h0 → jX m_X11_wholeDays 3 0 0 180 [(5, .int l5)] [] h 0 0 Q := by
  intro l5 h    J Sm D EV
  have el5 := jfull l5
  unfold d_X11_wholeDays_r31d_180 at D
  refine x_iload (x := l5) rfl rfl ?_
  refine x_iret rfl rfl ?_
  exact hQ _ _ J Sm (D.symm.trans (show l5.toInt = l5.toInt from by omega)) EV
set_option maxRecDepth 100000 in
set_option maxHeartbeats 4000000 in
theorem ct_X11_wholeDays_r31d_174 {Dy : jH → Prop} {h0 : jH} {Q : Option Value → jH → Prop} {dr : Int} {K9 : Int → Int → Int → Int → Int → Int → jW → Int} {R9 : Int} (hD : jDk Dy) (hQ : ∀ (v : Int32) hx9, jJ jSgX Dy hx9 → jSm fp_X11_wholeDays_r31d h0 hx9 → dr = v.toInt → vw hx9 = vw h0 → Q (some (.int v)) hx9) (k9 : ∀ (l1 : Int32) (l3 : Int32) (l4 : Int32) (l5 : Int32) (l6 : Int32) (l7 : Int32) (h : jH), 41 - l7.toInt < R9 → 0 ≤ l1.toInt ∧ l1.toInt ≤ 5 → (-1) ≤ l3.toInt ∧ l3.toInt ≤ 146399 → 0 ≤ l4.toInt ∧ l4.toInt ≤ 146399 → 0 ≤ l6.toInt ∧ l6.toInt ≤ 146400 → 0 ≤ l7.toInt ∧ l7.toInt ≤ 41 → jJ jSgX Dy h → jSm fp_X11_wholeDays_r31d h0 h → K9 l1.toInt l3.toInt l4.toInt l5.toInt l6.toInt l7.toInt (vw h) = dr → vw h = vw h0 → jX m_X11_wholeDays 3 0 0 9 [(0, .ref 31), (1, .int l1), (3, .int l3), (4, .int l4), (5, .int l5), (6, .int l6), (7, .int l7)] [] h 0 0 Q) : ∀ (l1 : Int32) (l3 : Int32) (l4 : Int32) (l5 : Int32) (l6 : Int32) (l7 : Int32) (h : jH), 0 ≤ l1.toInt ∧ l1.toInt ≤ 5 → 0 ≤ l3.toInt ∧ l3.toInt ≤ 146399 → 0 ≤ l4.toInt ∧ l4.toInt ≤ 146399 → 1 ≤ l6.toInt ∧ l6.toInt ≤ 146400 → 0 ≤ l7.toInt ∧ l7.toInt ≤ 40 → 41 - l7.toInt ≤ R9 → jJ jSgX Dy h → jSm fp_X11_wholeDays_r31d h0 h → d_X11_wholeDays_r31d_174 K9  l1.toInt l3.toInt l4.toInt l5.toInt l6.toInt l7.toInt (vw h) = dr → vw h = vw h0 → jX m_X11_wholeDays 3 0 0 174 [(0, .ref 31), (1, .int l1), (3, .int l3), (4, .int l4), (5, .int l5), (6, .int l6), (7, .int l7)] [] h 0 0 Q := by
  intro l1 l3 l4 l5 l6 l7 h y0 y1 y2 y3 y4  m9 J Sm D EV
  have el5 := jfull l5
  unfold d_X11_wholeDays_r31d_174 at D
  refine z_iinc (x := l7) (lsx9 := fun v1 => [(7, .int v1), (0, .ref 31), (1, .int l1), (3, .int l3), (4, .int l4), (5, .int l5), (6, .int l6)]) rfl rfl rfl jko_1 (by omega) rfl (fun _ => rfl) (fun v1 ev1 => ?_)
  refine x_goto (tgt := 9) rfl rfl ?_
  try rw [show (l7.toInt + 1) = v1.toInt from by omega] at D
  exact jX.sub (jsb_c rfl (jsb_c rfl (jsb_c rfl (jsb_c rfl (jsb_c rfl (jsb_c rfl (jsb_c rfl jsb_n))))))) (k9 l1 l3 l4 l5 l6 v1 h (by omega) (jr_of rfl (by omega)) (jr_of rfl (by omega)) (jr_of rfl (by omega)) (jr_of rfl (by omega)) (jr_of rfl (by omega)) J Sm D EV)
set_option maxRecDepth 100000 in
set_option maxHeartbeats 4000000 in
theorem ct_X11_wholeDays_r31d_140 {Dy : jH → Prop} {h0 : jH} {Q : Option Value → jH → Prop} {dr : Int} {K9 : Int → Int → Int → Int → Int → Int → jW → Int} {K44 : Int → Int → Int → Int → Int → Int → Int → Int → Int → jW → Int} {R9 : Int} {R44 : Int} (hD : jDk Dy) (hQ : ∀ (v : Int32) hx9, jJ jSgX Dy hx9 → jSm fp_X11_wholeDays_r31d h0 hx9 → dr = v.toInt → vw hx9 = vw h0 → Q (some (.int v)) hx9) (k9 : ∀ (l1 : Int32) (l3 : Int32) (l4 : Int32) (l5 : Int32) (l6 : Int32) (l7 : Int32) (h : jH), 41 - l7.toInt < R9 → 0 ≤ l1.toInt ∧ l1.toInt ≤ 5 → (-1) ≤ l3.toInt ∧ l3.toInt ≤ 146399 → 0 ≤ l4.toInt ∧ l4.toInt ≤ 146399 → 0 ≤ l6.toInt ∧ l6.toInt ≤ 146400 → 0 ≤ l7.toInt ∧ l7.toInt ≤ 41 → jJ jSgX Dy h → jSm fp_X11_wholeDays_r31d h0 h → K9 l1.toInt l3.toInt l4.toInt l5.toInt l6.toInt l7.toInt (vw h) = dr → vw h = vw h0 → jX m_X11_wholeDays 3 0 0 9 [(0, .ref 31), (1, .int l1), (3, .int l3), (4, .int l4), (5, .int l5), (6, .int l6), (7, .int l7)] [] h 0 0 Q) (k44 : ∀ (l1 : Int32) (l3 : Int32) (l4 : Int32) (l5 : Int32) (l6 : Int32) (l7 : Int32) (l8 : Int32) (l9 : Int32) (l10 : Int32) (g0 : Int32) (h : jH), 20 - l10.toInt < R44 → 0 ≤ l1.toInt ∧ l1.toInt ≤ 5 → 0 ≤ l3.toInt ∧ l3.toInt ≤ 146399 → 0 ≤ l4.toInt ∧ l4.toInt ≤ 146399 → 0 ≤ l6.toInt ∧ l6.toInt ≤ 146399 → 0 ≤ l7.toInt ∧ l7.toInt ≤ 40 → 0 ≤ l8.toInt ∧ l8.toInt ≤ 146400 → 1 ≤ l9.toInt ∧ l9.toInt ≤ 146400 → 0 ≤ l10.toInt ∧ l10.toInt ≤ 20 → 0 ≤ g0.toInt ∧ g0.toInt ≤ 20 → jiv h 41 3 = g0 → 41 - l7.toInt ≤ R9 → jJ jSgX Dy h → jSm fp_X11_wholeDays_r31d h0 h → K44 l1.toInt l3.toInt l4.toInt l5.toInt l6.toInt l7.toInt l8.toInt l9.toInt l10.toInt (vw h) = dr → vw h = vw h0 → jX m_X11_wholeDays 3 0 0 44 [(0, .ref 31), (1, .int l1), (3, .int l3), (4, .int l4), (5, .int l5), (6, .int l6), (7, .int l7), (8, .int l8), (9, .int l9), (10, .int l10)] [] h 0 0 Q) : ∀ (l1 : Int32) (l3 : Int32) (l4 : Int32) (l5 : Int32) (l6 : Int32) (l7 : Int32) (l8 : Int32) (l9 : Int32) (l10 : Int32) (g0 : Int32) (h : jH), 0 ≤ l1.toInt ∧ l1.toInt ≤ 5 → 0 ≤ l3.toInt ∧ l3.toInt ≤ 146399 → 0 ≤ l4.toInt ∧ l4.toInt ≤ 146399 → 0 ≤ l6.toInt ∧ l6.toInt ≤ 146399 → 0 ≤ l7.toInt ∧ l7.toInt ≤ 40 → 0 ≤ l8.toInt ∧ l8.toInt ≤ 146400 → 1 ≤ l9.toInt ∧ l9.toInt ≤ 146400 → 0 ≤ l10.toInt ∧ l10.toInt ≤ 19 → 1 ≤ g0.toInt ∧ g0.toInt ≤ 20 → jiv h 41 3 = g0 → 41 - l7.toInt ≤ R9 → 20 - l10.toInt ≤ R44 → jJ jSgX Dy h → jSm fp_X11_wholeDays_r31d h0 h → d_X11_wholeDays_r31d_140 K9 K44  l1.toInt l3.toInt l4.toInt l5.toInt l6.toInt l7.toInt l8.toInt l9.toInt l10.toInt (vw h) = dr → vw h = vw h0 → jX m_X11_wholeDays 3 0 0 140 [(0, .ref 31), (1, .int l1), (3, .int l3), (4, .int l4), (5, .int l5), (6, .int l6), (7, .int l7), (8, .int l8), (9, .int l9), (10, .int l10)] [] h 0 0 Q := by
  intro l1 l3 l4 l5 l6 l7 l8 l9 l10 g0 h y0 y1 y2 y3 y4 y5 y6 y7 y8 z0 m9 m44 J Sm D EV
  have el5 := jfull l5
  unfold d_X11_wholeDays_r31d_140 at D
  try rw [vrf z0] at D
  refine z_iinc (x := l10) (lsx9 := fun v1 => [(10, .int v1), (0, .ref 31), (1, .int l1), (3, .int l3), (4, .int l4), (5, .int l5), (6, .int l6), (7, .int l7), (8, .int l8), (9, .int l9)]) rfl rfl rfl jko_1 (by omega) rfl (fun _ => rfl) (fun v1 ev1 => ?_)
  refine x_goto (tgt := 44) rfl rfl ?_
  try rw [show (l10.toInt + 1) = v1.toInt from by omega] at D
  exact jX.sub (jsb_c rfl (jsb_c rfl (jsb_c rfl (jsb_c rfl (jsb_c rfl (jsb_c rfl (jsb_c rfl (jsb_c rfl (jsb_c rfl (jsb_c rfl jsb_n)))))))))) (k44 l1 l3 l4 l5 l6 l7 l8 l9 v1 g0 h (by omega) (jr_of rfl (by omega)) (jr_of rfl (by omega)) (jr_of rfl (by omega)) (jr_of rfl (by omega)) (jr_of rfl (by omega)) (jr_of rfl (by omega)) (jr_of rfl (by omega)) (jr_of rfl (by omega)) (jr_of rfl (by omega)) z0 (by omega) J Sm D EV)
set_option maxRecDepth 100000 in
set_option maxHeartbeats 4000000 in
theorem ct_X11_wholeDays_r31d_124 {Dy : jH → Prop} {h0 : jH} {Q : Option Value → jH → Prop} {dr : Int} {K9 : Int → Int → Int → Int → Int → Int → jW → Int} {K44 : Int → Int → Int → Int → Int → Int → Int → Int → Int → jW → Int} {R9 : Int} {R44 : Int} (hD : jDk Dy) (hQ : ∀ (v : Int32) hx9, jJ jSgX Dy hx9 → jSm fp_X11_wholeDays_r31d h0 hx9 → dr = v.toInt → vw hx9 = vw h0 → Q (some (.int v)) hx9) (k9 : ∀ (l1 : Int32) (l3 : Int32) (l4 : Int32) (l5 : Int32) (l6 : Int32) (l7 : Int32) (h : jH), 41 - l7.toInt < R9 → 0 ≤ l1.toInt ∧ l1.toInt ≤ 5 → (-1) ≤ l3.toInt ∧ l3.toInt ≤ 146399 → 0 ≤ l4.toInt ∧ l4.toInt ≤ 146399 → 0 ≤ l6.toInt ∧ l6.toInt ≤ 146400 → 0 ≤ l7.toInt ∧ l7.toInt ≤ 41 → jJ jSgX Dy h → jSm fp_X11_wholeDays_r31d h0 h → K9 l1.toInt l3.toInt l4.toInt l5.toInt l6.toInt l7.toInt (vw h) = dr → vw h = vw h0 → jX m_X11_wholeDays 3 0 0 9 [(0, .ref 31), (1, .int l1), (3, .int l3), (4, .int l4), (5, .int l5), (6, .int l6), (7, .int l7)] [] h 0 0 Q) (k44 : ∀ (l1 : Int32) (l3 : Int32) (l4 : Int32) (l5 : Int32) (l6 : Int32) (l7 : Int32) (l8 : Int32) (l9 : Int32) (l10 : Int32) (g0 : Int32) (h : jH), 20 - l10.toInt < R44 → 0 ≤ l1.toInt ∧ l1.toInt ≤ 5 → 0 ≤ l3.toInt ∧ l3.toInt ≤ 146399 → 0 ≤ l4.toInt ∧ l4.toInt ≤ 146399 → 0 ≤ l6.toInt ∧ l6.toInt ≤ 146399 → 0 ≤ l7.toInt ∧ l7.toInt ≤ 40 → 0 ≤ l8.toInt ∧ l8.toInt ≤ 146400 → 1 ≤ l9.toInt ∧ l9.toInt ≤ 146400 → 0 ≤ l10.toInt ∧ l10.toInt ≤ 20 → 0 ≤ g0.toInt ∧ g0.toInt ≤ 20 → jiv h 41 3 = g0 → 41 - l7.toInt ≤ R9 → jJ jSgX Dy h → jSm fp_X11_wholeDays_r31d h0 h → K44 l1.toInt l3.toInt l4.toInt l5.toInt l6.toInt l7.toInt l8.toInt l9.toInt l10.toInt (vw h) = dr → vw h = vw h0 → jX m_X11_wholeDays 3 0 0 44 [(0, .ref 31), (1, .int l1), (3, .int l3), (4, .int l4), (5, .int l5), (6, .int l6), (7, .int l7), (8, .int l8), (9, .int l9), (10, .int l10)] [] h 0 0 Q) : ∀ (l1 : Int32) (l3 : Int32) (l4 : Int32) (l5 : Int32) (l6 : Int32) (l7 : Int32) (l8 : Int32) (l9 : Int32) (l10 : Int32) (l11 : Int32) (g0 : Int32) (h : jH), 0 ≤ l1.toInt ∧ l1.toInt ≤ 5 → 0 ≤ l3.toInt ∧ l3.toInt ≤ 146399 → 0 ≤ l4.toInt ∧ l4.toInt ≤ 146399 → 0 ≤ l6.toInt ∧ l6.toInt ≤ 146399 → 0 ≤ l7.toInt ∧ l7.toInt ≤ 40 → 0 ≤ l8.toInt ∧ l8.toInt ≤ 146400 → 1 ≤ l9.toInt ∧ l9.toInt ≤ 146400 → 0 ≤ l10.toInt ∧ l10.toInt ≤ 19 → 0 ≤ l11.toInt ∧ l11.toInt ≤ 146399 → 1 ≤ g0.toInt ∧ g0.toInt ≤ 20 → jiv h 41 3 = g0 → 41 - l7.toInt ≤ R9 → 20 - l10.toInt ≤ R44 → jJ jSgX Dy h → jSm fp_X11_wholeDays_r31d h0 h → d_X11_wholeDays_r31d_124 K9 K44  l1.toInt l3.toInt l4.toInt l5.toInt l6.toInt l7.toInt l8.toInt l9.toInt l10.toInt l11.toInt (vw h) = dr → vw h = vw h0 → jX m_X11_wholeDays 3 0 0 124 [(0, .ref 31), (1, .int l1), (3, .int l3), (4, .int l4), (5, .int l5), (6, .int l6), (7, .int l7), (8, .int l8), (9, .int l9), (10, .int l10), (11, .int l11)] [] h 0 0 Q := by
  intro l1 l3 l4 l5 l6 l7 l8 l9 l10 l11 g0 h y0 y1 y2 y3 y4 y5 y6 y7 y8 y9 z0 m9 m44 J Sm D EV
  have el5 := jfull l5
  unfold d_X11_wholeDays_r31d_124 at D
  try rw [vrf z0] at D
  refine x_iload (x := l11) rfl rfl ?_
  refine x_iload (x := l6) rfl rfl ?_
  refine x_icle (tgt := 140) rfl rfl (ti_le rfl rfl ⟨fun c1 => ?_, fun c1 => ?_⟩)
  ·
    rw [if_pos (by omega)] at D
    exact jX.sub (jsb_c rfl (jsb_c rfl (jsb_c rfl (jsb_c rfl (jsb_c rfl (jsb_c rfl (jsb_c rfl (jsb_c rfl (jsb_c rfl (jsb_c rfl jsb_n)))))))))) (ct_X11_wholeDays_r31d_140 hD hQ k9 k44 l1 l3 l4 l5 l6 l7 l8 l9 l10 g0 h (jr_of rfl (by omega)) (jr_of rfl (by omega)) (jr_of rfl (by omega)) (jr_of rfl (by omega)) (jr_of rfl (by omega)) (jr_of rfl (by omega)) (jr_of rfl (by omega)) (jr_of rfl (by omega)) (jr_of rfl (by omega)) z0 (by omega) (by omega) J Sm D EV)
  ·
    rw [if_neg (by omega)] at D
    refine x_iload (x := l9) rfl rfl ?_
    refine x_iload (x := l11) rfl rfl ?_
    refine z_mmin rfl q_11_553 (by decide) rfl rfl rfl (fun v2 ev2 => ?_)
    refine x_istore (lsx9 := [(9, .int v2), (0, .ref 31), (1, .int l1), (3, .int l3), (4, .int l4), (5, .int l5), (6, .int l6), (7, .int l7), (8, .int l8), (10, .int l10), (11, .int l11)]) rfl rfl rfl ?_
    try rw [show (min l9.toInt l11.toInt) = v2.toInt from by omega] at D
    exact jX.sub (jsb_c rfl (jsb_c rfl (jsb_c rfl (jsb_c rfl (jsb_c rfl (jsb_c rfl (jsb_c rfl (jsb_c rfl (jsb_c rfl (jsb_c rfl jsb_n)))))))))) (ct_X11_wholeDays_r31d_140 hD hQ k9 k44 l1 l3 l4 l5 l6 l7 l8 v2 l10 g0 h (jr_of rfl (by omega)) (jr_of rfl (by omega)) (jr_of rfl (by omega)) (jr_of rfl (by omega)) (jr_of rfl (by omega)) (jr_of rfl (by omega)) (jr_of rfl (by omega)) (jr_of rfl (by omega)) (jr_of rfl (by omega)) z0 (by omega) (by omega) J Sm D EV)
set_option maxRecDepth 100000 in
set_option maxHeartbeats 4000000 in
theorem ct_X11_wholeDays_r31d_44 {Dy : jH → Prop} {h0 : jH} {Q : Option Value → jH → Prop} {dr : Int} {K9 : Int → Int → Int → Int → Int → Int → jW → Int} {R9 : Int} (hD : jDk Dy) (hQ : ∀ (v : Int32) hx9, jJ jSgX Dy hx9 → jSm fp_X11_wholeDays_r31d h0 hx9 → dr = v.toInt → vw hx9 = vw h0 → Q (some (.int v)) hx9) (k9 : ∀ (l1 : Int32) (l3 : Int32) (l4 : Int32) (l5 : Int32) (l6 : Int32) (l7 : Int32) (h : jH), 41 - l7.toInt < R9 → 0 ≤ l1.toInt ∧ l1.toInt ≤ 5 → (-1) ≤ l3.toInt ∧ l3.toInt ≤ 146399 → 0 ≤ l4.toInt ∧ l4.toInt ≤ 146399 → 0 ≤ l6.toInt ∧ l6.toInt ≤ 146400 → 0 ≤ l7.toInt ∧ l7.toInt ≤ 41 → jJ jSgX Dy h → jSm fp_X11_wholeDays_r31d h0 h → K9 l1.toInt l3.toInt l4.toInt l5.toInt l6.toInt l7.toInt (vw h) = dr → vw h = vw h0 → jX m_X11_wholeDays 3 0 0 9 [(0, .ref 31), (1, .int l1), (3, .int l3), (4, .int l4), (5, .int l5), (6, .int l6), (7, .int l7)] [] h 0 0 Q) : ∀ r : Nat, ∀ (l1 : Int32) (l3 : Int32) (l4 : Int32) (l5 : Int32) (l6 : Int32) (l7 : Int32) (l8 : Int32) (l9 : Int32) (l10 : Int32) (g0 : Int32) (h : jH), 20 - l10.toInt < (r : Int) → 0 ≤ l1.toInt ∧ l1.toInt ≤ 5 → 0 ≤ l3.toInt ∧ l3.toInt ≤ 146399 → 0 ≤ l4.toInt ∧ l4.toInt ≤ 146399 → 0 ≤ l6.toInt ∧ l6.toInt ≤ 146399 → 0 ≤ l7.toInt ∧ l7.toInt ≤ 40 → 0 ≤ l8.toInt ∧ l8.toInt ≤ 146400 → 1 ≤ l9.toInt ∧ l9.toInt ≤ 146400 → 0 ≤ l10.toInt ∧ l10.toInt ≤ 20 → 0 ≤ g0.toInt ∧ g0.toInt ≤ 20 → jiv h 41 3 = g0 → 41 - l7.toInt ≤ R9 → jJ jSgX Dy h → jSm fp_X11_wholeDays_r31d h0 h → d_X11_wholeDays_r31d_44 K9 r l1.toInt l3.toInt l4.toInt l5.toInt l6.toInt l7.toInt l8.toInt l9.toInt l10.toInt (vw h) = dr → vw h = vw h0 → jX m_X11_wholeDays 3 0 0 44 [(0, .ref 31), (1, .int l1), (3, .int l3), (4, .int l4), (5, .int l5), (6, .int l6), (7, .int l7), (8, .int l8), (9, .int l9), (10, .int l10)] [] h 0 0 Q := by
  intro r
  induction r with
  | zero =>
    intro l1 l3 l4 l5 l6 l7 l8 l9 l10 g0 h hm y0 y1 y2 y3 y4 y5 y6 y7 y8 z0 m9 J Sm D EV
    exfalso
    have el5 := jfull l5
    omega
  | succ r ih =>
    intro l1 l3 l4 l5 l6 l7 l8 l9 l10 g0 h hm y0 y1 y2 y3 y4 y5 y6 y7 y8 z0 m9 J Sm D EV
    have el5 := jfull l5
    rw [d_X11_wholeDays_r31d_44.eq_2] at D
    try rw [vrf z0] at D
    refine x_iload (x := l10) rfl rfl ?_
    refine x_aloadn (x := 31) rfl rfl ?_
    refine z_getR (N := 13) (b := 32) 11 0 rfl f_11_10 rfl J rfl 3968 ⟨rfl, rfl⟩ rfl ?_
    refine z_getR (N := 20) (b := 41) 1 4 rfl f_11_312 rfl J rfl 4100 ⟨rfl, rfl⟩ rfl ?_
    refine z_getM (N := 4) (v := g0) 8 3 rfl f_11_142 rfl J rfl z0 ?_
    refine x_icge (tgt := 146) rfl rfl (ti_ge rfl rfl ⟨fun c1 => ?_, fun c1 => ?_⟩)
    ·
      rw [if_pos (by omega)] at D
      refine x_iload (x := l8) rfl rfl ?_
      refine x_iload (x := l6) rfl rfl ?_
      refine x_icle (tgt := 160) rfl rfl (ti_le rfl rfl ⟨fun c2 => ?_, fun c2 => ?_⟩)
      ·
        rw [if_pos (by omega)] at D
        refine x_iload (x := l5) rfl rfl ?_
        refine x_iload (x := l9) rfl rfl ?_
        refine x_iload (x := l6) rfl rfl ?_
        refine z_isub rfl rfl rfl (by omega) (fun v3 ev3 => ?_)
        refine z_iaddW rfl rfl rfl (fun v4 ev4 => ?_)
        have fv4 := jfull v4
        try rw [show (l9.toInt - l6.toInt) = v3.toInt from by omega] at D
        try rw [← ev4] at D
        refine x_istore (lsx9 := [(5, .int v4), (0, .ref 31), (1, .int l1), (3, .int l3), (4, .int l4), (6, .int l6), (7, .int l7), (8, .int l8), (9, .int l9), (10, .int l10)]) rfl rfl rfl ?_
        refine x_iload (x := l9) rfl rfl ?_
        refine x_istore (lsx9 := [(6, .int l9), (5, .int v4), (0, .ref 31), (1, .int l1), (3, .int l3), (4, .int l4), (7, .int l7), (8, .int l8), (9, .int l9), (10, .int l10)]) rfl rfl rfl ?_
        exact jX.sub (jsb_c rfl (jsb_c rfl (jsb_c rfl (jsb_c rfl (jsb_c rfl (jsb_c rfl (jsb_c rfl jsb_n))))))) (ct_X11_wholeDays_r31d_174 hD hQ k9 l1 l3 l4 v4 l9 l7 h (jr_of rfl (by omega)) (jr_of rfl (by omega)) (jr_of rfl (by omega)) (jr_of rfl (by omega)) (jr_of rfl (by omega)) (by omega) J Sm D EV)
      ·
        rw [if_neg (by omega)] at D
        refine x_iload (x := l8) rfl rfl ?_
        refine x_istore (lsx9 := [(6, .int l8), (0, .ref 31), (1, .int l1), (3, .int l3), (4, .int l4), (5, .int l5), (7, .int l7), (8, .int l8), (9, .int l9), (10, .int l10)]) rfl rfl rfl ?_
        refine x_goto (tgt := 174) rfl rfl ?_
        exact jX.sub (jsb_c rfl (jsb_c rfl (jsb_c rfl (jsb_c rfl (jsb_c rfl (jsb_c rfl (jsb_c rfl jsb_n))))))) (ct_X11_wholeDays_r31d_174 hD hQ k9 l1 l3 l4 l5 l8 l7 h (jr_of rfl (by omega)) (jr_of rfl (by omega)) (jr_of rfl (by omega)) (jr_of rfl (by omega)) (jr_of rfl (by omega)) (by omega) J Sm D EV)
    ·
      rw [if_neg (by omega)] at D
      refine x_aloadn (x := 31) rfl rfl ?_
      refine x_iload (x := l10) rfl rfl ?_
      refine x_iloadn (x := l1) rfl rfl ?_
      refine x_iload (x := l4) rfl rfl ?_
      refine x_inv (N := m_X11_isPageOf) (As := [.int l10, .int l1, .int l4]) (b := 31) (st := []) (dx9 := 2) (mc := 0) (ms := 0) (host := "") 11 rfl t_X11_isPageOf ⟨Or.inl q_11_561, i_X11_isPageOf.1, i_X11_isPageOf.2⟩ ⟨by decide, rfl⟩ (congrArg Prod.fst (J.1.1 31 (11, 13) rfl)) rfl (by decide) rfl rfl ⟨by decide, by decide⟩ (jC.of rfl k_X11_isPageOf rfl ?_)
      show jX m_X11_isPageOf 2 0 0 0 [(0, .ref 31), (1, .int l10), (2, .int l1), (3, .int l4)] [] _ 0 0 _
      refine x_aloadn (x := 31) rfl rfl ?_
      refine z_getR (N := 13) (b := 32) 11 0 rfl f_11_10 rfl J rfl 3968 ⟨rfl, rfl⟩ rfl ?_
      refine z_getR (N := 20) (b := 41) 1 4 rfl f_11_312 rfl J rfl 4100 ⟨rfl, rfl⟩ rfl ?_
      refine x_iloadn (x := l10) rfl rfl ?_
      refine x_iloadn (x := l4) rfl rfl ?_
      refine x_inv (N := m_X8_isKnown) (As := [.int l10, .int l4]) (b := 41) (st := []) (dx9 := 1) (mc := 0) (ms := 0) (host := "") 8 rfl t_X8_isKnown ⟨Or.inl q_11_440, i_X8_isKnown.1, i_X8_isKnown.2⟩ ⟨by decide, rfl⟩ (congrArg Prod.fst (J.1.1 41 (8, 4) rfl)) rfl (by decide) rfl rfl ⟨by decide, by decide⟩ (sf_X8_isKnown_r41d (jr_of rfl (by omega)) (jr_of rfl (by omega)) hD J rfl  (fun v8 h ev8 J S5 X6 X7 => ?_))
      have Sm := jSm_tr rfl Sm S5
      try rw [X6] at D
      try rw [← X7] at D
      have EV := X7.trans EV
      show jX m_X11_isPageOf 2 0 0 12 [(0, .ref 31), (1, .int l10), (2, .int l1), (3, .int l4)] [.int v8] _ 0 0 _
      refine x_ifeq (tgt := 35) rfl rfl (ti_eq rfl jk_0 ⟨fun c9 => ?_, fun c9 => ?_⟩)
      ·
        rw [if_pos (by omega)] at D
        refine x_iconst (v := 0) rfl ki_0 ?_
        refine x_zret rfl rfl (by decide) ?_
        show jX m_X11_wholeDays 3 0 0 68 [(0, .ref 31), (1, .int l1), (3, .int l3), (4, .int l4), (5, .int l5), (6, .int l6), (7, .int l7), (8, .int l8), (9, .int l9), (10, .int l10)] [.int 0] _ 0 0 _
        refine x_ifeq (tgt := 140) rfl rfl (ti_eq jk_0 jk_0 (br_t (by omega) ?_))
        exact jX.sub (jsb_c rfl (jsb_c rfl (jsb_c rfl (jsb_c rfl (jsb_c rfl (jsb_c rfl (jsb_c rfl (jsb_c rfl (jsb_c rfl (jsb_c rfl jsb_n)))))))))) (ct_X11_wholeDays_r31d_140 hD hQ k9 ih l1 l3 l4 l5 l6 l7 l8 l9 l10 g0 h (jr_of rfl (by omega)) (jr_of rfl (by omega)) (jr_of rfl (by omega)) (jr_of rfl (by omega)) (jr_of rfl (by omega)) (jr_of rfl (by omega)) (jr_of rfl (by omega)) (jr_of rfl (by omega)) (jr_of rfl (by omega)) (jmc S5 rfl z0) (by omega) (by omega) J Sm D EV)
      ·
        rw [if_neg (by omega)] at D
        refine x_aloadn (x := 31) rfl rfl ?_
        refine z_getR (N := 13) (b := 32) 11 0 rfl f_11_10 rfl J rfl 3968 ⟨rfl, rfl⟩ rfl ?_
        refine z_getR (N := 20) (b := 41) 1 4 rfl f_11_312 rfl J rfl 4100 ⟨rfl, rfl⟩ rfl ?_
        refine x_iloadn (x := l10) rfl rfl ?_
        refine x_iconst (v := 3) rfl ki_3 ?_
        refine x_inv (N := m_X8_at) (As := [.int l10, .int 3]) (b := 41) (st := []) (dx9 := 1) (mc := 0) (ms := 0) (host := "") 8 rfl t_X8_at ⟨Or.inl q_11_171, i_X8_at.1, i_X8_at.2⟩ ⟨by decide, rfl⟩ (congrArg Prod.fst (J.1.1 41 (8, 4) rfl)) rfl (by decide) rfl rfl ⟨by decide, by decide⟩ (sf_X8_at_r41_c3d (jr_of rfl (by omega)) hD J rfl  (fun v13 h ev13 J S10 X11 X12 => ?_))
        have Sm := jSm_tr rfl Sm S10
        try rw [X11] at D
        try rw [← X12] at D
        have EV := X12.trans EV
        show jX m_X11_isPageOf 2 0 0 27 [(0, .ref 31), (1, .int l10), (2, .int l1), (3, .int l4)] [.int v13] _ 0 0 _
        refine x_iloadn (x := l1) rfl rfl ?_
        refine x_icne (tgt := 35) rfl rfl (ti_ne rfl rfl ⟨fun c14 => ?_, fun c14 => ?_⟩)
        ·
          rw [if_neg (by omega)] at D
          refine x_iconst (v := 0) rfl ki_0 ?_
          refine x_zret rfl rfl (by decide) ?_
          show jX m_X11_wholeDays 3 0 0 68 [(0, .ref 31), (1, .int l1), (3, .int l3), (4, .int l4), (5, .int l5), (6, .int l6), (7, .int l7), (8, .int l8), (9, .int l9), (10, .int l10)] [.int 0] _ 0 0 _
          refine x_ifeq (tgt := 140) rfl rfl (ti_eq jk_0 jk_0 (br_t (by omega) ?_))
          exact jX.sub (jsb_c rfl (jsb_c rfl (jsb_c rfl (jsb_c rfl (jsb_c rfl (jsb_c rfl (jsb_c rfl (jsb_c rfl (jsb_c rfl (jsb_c rfl jsb_n)))))))))) (ct_X11_wholeDays_r31d_140 hD hQ k9 ih l1 l3 l4 l5 l6 l7 l8 l9 l10 g0 h (jr_of rfl (by omega)) (jr_of rfl (by omega)) (jr_of rfl (by omega)) (jr_of rfl (by omega)) (jr_of rfl (by omega)) (jr_of rfl (by omega)) (jr_of rfl (by omega)) (jr_of rfl (by omega)) (jr_of rfl (by omega)) (jmc S10 rfl (jmc S5 rfl z0)) (by omega) (by omega) J Sm D EV)
        ·
          rw [if_pos (by omega)] at D
          refine x_iconst (v := 1) rfl ki_1 ?_
          refine x_goto (tgt := 36) rfl rfl ?_
          refine x_zret rfl rfl (by decide) ?_
          show jX m_X11_wholeDays 3 0 0 68 [(0, .ref 31), (1, .int l1), (3, .int l3), (4, .int l4), (5, .int l5), (6, .int l6), (7, .int l7), (8, .int l8), (9, .int l9), (10, .int l10)] [.int 1] _ 0 0 _
          refine x_ifeq (tgt := 140) rfl rfl (ti_eq jk_1 jk_0 (br_f (by omega) ?_))
          refine x_aloadn (x := 31) rfl rfl ?_
          refine z_getR (N := 13) (b := 32) 11 0 rfl f_11_10 rfl J rfl 3968 ⟨rfl, rfl⟩ rfl ?_
          refine z_getR (N := 20) (b := 41) 1 4 rfl f_11_312 rfl J rfl 4100 ⟨rfl, rfl⟩ rfl ?_
          refine x_iload (x := l10) rfl rfl ?_
          refine x_iconst (v := 1) rfl ki_1 ?_
          refine x_inv (N := m_X8_at) (As := [.int l10, .int 1]) (b := 41) (st := []) (dx9 := 1) (mc := 0) (ms := 0) (host := "") 8 rfl t_X8_at ⟨Or.inl q_11_171, i_X8_at.1, i_X8_at.2⟩ ⟨by decide, rfl⟩ (congrArg Prod.fst (J.1.1 41 (8, 4) rfl)) rfl (by decide) rfl rfl ⟨by decide, by decide⟩ (sf_X8_at_r41_c1d (jr_of rfl (by omega)) hD J rfl  (fun v18 h ev18 J S15 X16 X17 => ?_))
          have Sm := jSm_tr rfl Sm S15
          try rw [X16] at D
          try rw [← X17] at D
          have EV := X17.trans EV
          show jX m_X11_wholeDays 3 0 0 84 [(0, .ref 31), (1, .int l1), (3, .int l3), (4, .int l4), (5, .int l5), (6, .int l6), (7, .int l7), (8, .int l8), (9, .int l9), (10, .int l10)] [.int v18] _ 0 0 _
          refine x_istore (lsx9 := [(11, .int v18), (0, .ref 31), (1, .int l1), (3, .int l3), (4, .int l4), (5, .int l5), (6, .int l6), (7, .int l7), (8, .int l8), (9, .int l9), (10, .int l10)]) rfl rfl rfl ?_
          refine x_aloadn (x := 31) rfl rfl ?_
          refine z_getR (N := 13) (b := 32) 11 0 rfl f_11_10 rfl J rfl 3968 ⟨rfl, rfl⟩ rfl ?_
          refine z_getR (N := 20) (b := 41) 1 4 rfl f_11_312 rfl J rfl 4100 ⟨rfl, rfl⟩ rfl ?_
          refine x_iload (x := l10) rfl rfl ?_
          refine x_iconst (v := 2) rfl ki_2 ?_
          refine x_inv (N := m_X8_at) (As := [.int l10, .int 2]) (b := 41) (st := []) (dx9 := 1) (mc := 0) (ms := 0) (host := "") 8 rfl t_X8_at ⟨Or.inl q_11_171, i_X8_at.1, i_X8_at.2⟩ ⟨by decide, rfl⟩ (congrArg Prod.fst (J.1.1 41 (8, 4) rfl)) rfl (by decide) rfl rfl ⟨by decide, by decide⟩ (sf_X8_at_r41_c2d (jr_of rfl (by omega)) hD J rfl  (fun v22 h ev22 J S19 X20 X21 => ?_))
          have Sm := jSm_tr rfl Sm S19
          try rw [X20] at D
          try rw [← X21] at D
          have EV := X21.trans EV
          show jX m_X11_wholeDays 3 0 0 99 [(11, .int v18), (0, .ref 31), (1, .int l1), (3, .int l3), (4, .int l4), (5, .int l5), (6, .int l6), (7, .int l7), (8, .int l8), (9, .int l9), (10, .int l10)] [.int v22] _ 0 0 _
          refine x_istore (lsx9 := [(12, .int v22), (11, .int v18), (0, .ref 31), (1, .int l1), (3, .int l3), (4, .int l4), (5, .int l5), (6, .int l6), (7, .int l7), (8, .int l8), (9, .int l9), (10, .int l10)]) rfl rfl rfl ?_
          refine x_iload (x := v18) rfl rfl ?_
          refine x_iload (x := l6) rfl rfl ?_
          refine x_icgt (tgt := 124) rfl rfl (ti_gt rfl rfl ⟨fun c23 => ?_, fun c23 => ?_⟩)
          ·
            rw [if_pos (by omega)] at D
            exact jX.sub (jsb_c rfl (jsb_c rfl (jsb_c rfl (jsb_c rfl (jsb_c rfl (jsb_c rfl (jsb_c rfl (jsb_c rfl (jsb_c rfl (jsb_c rfl (jsb_c rfl jsb_n))))))))))) (ct_X11_wholeDays_r31d_124 hD hQ k9 ih l1 l3 l4 l5 l6 l7 l8 l9 l10 v18 g0 h (jr_of rfl (by omega)) (jr_of rfl (by omega)) (jr_of rfl (by omega)) (jr_of rfl (by omega)) (jr_of rfl (by omega)) (jr_of rfl (by omega)) (jr_of rfl (by omega)) (jr_of rfl (by omega)) (jr_of rfl (by omega)) (jr_of rfl (by omega)) (jmc S19 rfl (jmc S15 rfl (jmc S10 rfl (jmc S5 rfl z0)))) (by omega) (by omega) J Sm D EV)
          ·
            rw [if_neg (by omega)] at D
            refine x_iload (x := v22) rfl rfl ?_
            refine x_iload (x := l8) rfl rfl ?_
            refine x_iclt (tgt := 124) rfl rfl (ti_lt rfl rfl ⟨fun c24 => ?_, fun c24 => ?_⟩)
            ·
              rw [if_pos (by omega)] at D
              exact jX.sub (jsb_c rfl (jsb_c rfl (jsb_c rfl (jsb_c rfl (jsb_c rfl (jsb_c rfl (jsb_c rfl (jsb_c rfl (jsb_c rfl (jsb_c rfl (jsb_c rfl jsb_n))))))))))) (ct_X11_wholeDays_r31d_124 hD hQ k9 ih l1 l3 l4 l5 l6 l7 l8 l9 l10 v18 g0 h (jr_of rfl (by omega)) (jr_of rfl (by omega)) (jr_of rfl (by omega)) (jr_of rfl (by omega)) (jr_of rfl (by omega)) (jr_of rfl (by omega)) (jr_of rfl (by omega)) (jr_of rfl (by omega)) (jr_of rfl (by omega)) (jr_of rfl (by omega)) (jmc S19 rfl (jmc S15 rfl (jmc S10 rfl (jmc S5 rfl z0)))) (by omega) (by omega) J Sm D EV)
            ·
              rw [if_neg (by omega)] at D
              refine x_iload (x := v22) rfl rfl ?_
              refine x_iconst (v := 1) rfl ki_1 ?_
              refine z_iadd rfl rfl jk_1 (by omega) (fun v25 ev25 => ?_)
              refine x_istore (lsx9 := [(8, .int v25), (12, .int v22), (11, .int v18), (0, .ref 31), (1, .int l1), (3, .int l3), (4, .int l4), (5, .int l5), (6, .int l6), (7, .int l7), (9, .int l9), (10, .int l10)]) rfl rfl rfl ?_
              refine x_goto (tgt := 140) rfl rfl ?_
              try rw [show (v22.toInt + 1) = v25.toInt from by omega] at D
              exact jX.sub (jsb_c rfl (jsb_c rfl (jsb_c rfl (jsb_c rfl (jsb_c rfl (jsb_c rfl (jsb_c rfl (jsb_c rfl (jsb_c rfl (jsb_c rfl jsb_n)))))))))) (ct_X11_wholeDays_r31d_140 hD hQ k9 ih l1 l3 l4 l5 l6 l7 v25 l9 l10 g0 h (jr_of rfl (by omega)) (jr_of rfl (by omega)) (jr_of rfl (by omega)) (jr_of rfl (by omega)) (jr_of rfl (by omega)) (jr_of rfl (by omega)) (jr_of rfl (by omega)) (jr_of rfl (by omega)) (jr_of rfl (by omega)) (jmc S19 rfl (jmc S15 rfl (jmc S10 rfl (jmc S5 rfl z0)))) (by omega) (by omega) J Sm D EV)
set_option maxRecDepth 100000 in
set_option maxHeartbeats 4000000 in
theorem ct_X11_wholeDays_r31d_9 {Dy : jH → Prop} {h0 : jH} {Q : Option Value → jH → Prop} {dr : Int} (hD : jDk Dy) (hQ : ∀ (v : Int32) hx9, jJ jSgX Dy hx9 → jSm fp_X11_wholeDays_r31d h0 hx9 → dr = v.toInt → vw hx9 = vw h0 → Q (some (.int v)) hx9) : ∀ r : Nat, ∀ (l1 : Int32) (l3 : Int32) (l4 : Int32) (l5 : Int32) (l6 : Int32) (l7 : Int32) (h : jH), 41 - l7.toInt < (r : Int) → 0 ≤ l1.toInt ∧ l1.toInt ≤ 5 → (-1) ≤ l3.toInt ∧ l3.toInt ≤ 146399 → 0 ≤ l4.toInt ∧ l4.toInt ≤ 146399 → 0 ≤ l6.toInt ∧ l6.toInt ≤ 146400 → 0 ≤ l7.toInt ∧ l7.toInt ≤ 41 → jJ jSgX Dy h → jSm fp_X11_wholeDays_r31d h0 h → d_X11_wholeDays_r31d_9 r l1.toInt l3.toInt l4.toInt l5.toInt l6.toInt l7.toInt (vw h) = dr → vw h = vw h0 → jX m_X11_wholeDays 3 0 0 9 [(0, .ref 31), (1, .int l1), (3, .int l3), (4, .int l4), (5, .int l5), (6, .int l6), (7, .int l7)] [] h 0 0 Q := by
  intro r
  induction r with
  | zero =>
    intro l1 l3 l4 l5 l6 l7 h hm y0 y1 y2 y3 y4   J Sm D EV
    exfalso
    have el5 := jfull l5
    omega
  | succ r ih =>
    intro l1 l3 l4 l5 l6 l7 h hm y0 y1 y2 y3 y4   J Sm D EV
    have el5 := jfull l5
    rw [d_X11_wholeDays_r31d_9.eq_2] at D
    refine x_iload (x := l7) rfl rfl ?_
    refine x_iconst (v := 2) rfl ki_2 ?_
    refine x_aloadn (x := 31) rfl rfl ?_
    refine z_getR (N := 13) (b := 32) 11 0 rfl f_11_10 rfl J rfl 3968 ⟨rfl, rfl⟩ rfl ?_
    refine z_getR (N := 20) (b := 41) 1 4 rfl f_11_312 rfl J rfl 4100 ⟨rfl, rfl⟩ rfl ?_
    refine z_getI (N := 4) 8 3 rfl f_11_142 rfl J rfl sg_41_3_4_1_0_1 (fun v1 qv1 ev1 => ?_)
    try rw [vrf qv1] at D
    refine z_imul rfl jk_2 rfl (by omega) (fun v2 ev2 => ?_)
    refine x_icgt (tgt := 180) rfl rfl (ti_gt rfl rfl ⟨fun c3 => ?_, fun c3 => ?_⟩)
    ·
      rw [if_pos (by omega)] at D
      exact jX.sub (jsb_c rfl jsb_n) (ct_X11_wholeDays_r31d_180 hD hQ  l5 h J Sm D EV)
    ·
      rw [if_neg (by omega)] at D
      refine x_iload (x := l6) rfl rfl ?_
      refine x_iloadn (x := l3) rfl rfl ?_
      refine x_icgt (tgt := 180) rfl rfl (ti_gt rfl rfl ⟨fun c4 => ?_, fun c4 => ?_⟩)
      ·
        rw [if_pos (by omega)] at D
        exact jX.sub (jsb_c rfl jsb_n) (ct_X11_wholeDays_r31d_180 hD hQ  l5 h J Sm D EV)
      ·
        rw [if_neg (by omega)] at D
        refine x_iload (x := l6) rfl rfl ?_
        refine x_istore (lsx9 := [(8, .int l6), (0, .ref 31), (1, .int l1), (3, .int l3), (4, .int l4), (5, .int l5), (6, .int l6), (7, .int l7)]) rfl rfl rfl ?_
        refine x_iloadn (x := l3) rfl rfl ?_
        refine x_iconst (v := 1) rfl ki_1 ?_
        refine z_iadd rfl rfl jk_1 (by omega) (fun v5 ev5 => ?_)
        refine x_istore (lsx9 := [(9, .int v5), (8, .int l6), (0, .ref 31), (1, .int l1), (3, .int l3), (4, .int l4), (5, .int l5), (6, .int l6), (7, .int l7)]) rfl rfl rfl ?_
        refine x_iconst (v := 0) rfl ki_0 ?_
        refine x_istore (lsx9 := [(10, .int 0), (9, .int v5), (8, .int l6), (0, .ref 31), (1, .int l1), (3, .int l3), (4, .int l4), (5, .int l5), (6, .int l6), (7, .int l7)]) rfl rfl rfl ?_
        try rw [show (l3.toInt + 1) = v5.toInt from by omega] at D
        exact jX.sub (jsb_c rfl (jsb_c rfl (jsb_c rfl (jsb_c rfl (jsb_c rfl (jsb_c rfl (jsb_c rfl (jsb_c rfl (jsb_c rfl (jsb_c rfl jsb_n)))))))))) (ct_X11_wholeDays_r31d_44 hD hQ ih 21 l1 l3 l4 l5 l6 l7 l6 v5 0 v1 h (by have := jk_0; omega) (jr_of rfl (by omega)) (jr_of rfl (by omega)) (jr_of rfl (by omega)) (jr_of rfl (by omega)) (jr_of rfl (by omega)) (jr_of rfl (by omega)) (jr_of rfl (by omega)) (jr_of jk_0 (by omega)) (jr_of rfl (by omega)) qv1 (by omega) J Sm (by rw [jk_0]; exact D) EV)
set_option maxRecDepth 100000 in
set_option maxHeartbeats 4000000 in
theorem sf_X11_wholeDays_r31d {Dy : jH → Prop} {h : jH} {Q : Option Value → jH → Prop} {dr : Int} {a1 : Int32} {a2 : Int32} {a3 : Int32} {a4 : Int32} (y1 : 0 ≤ a1.toInt ∧ a1.toInt ≤ 5) (y2 : 0 ≤ a2.toInt ∧ a2.toInt ≤ 146400) (y3 : (-1) ≤ a3.toInt ∧ a3.toInt ≤ 146399) (y4 : 0 ≤ a4.toInt ∧ a4.toInt ≤ 146399) (hD : jDk Dy) (J : jJ jSgX Dy h) (D : d_X11_wholeDays_r31d a1.toInt a2.toInt a3.toInt a4.toInt (vw h) = dr) (hQ : ∀ (v : Int32) hx9, jJ jSgX Dy hx9 → jSm fp_X11_wholeDays_r31d h hx9 → dr = v.toInt → vw hx9 = vw h → Q (some (.int v)) hx9) : jC m_X11_wholeDays 3 0 0 [.ref 31, .int a1, .int a2, .int a3, .int a4] h Q := by
  refine jC.of rfl k_X11_wholeDays rfl ?_
  have Sm := jSm_rf fp_X11_wholeDays_r31d h
  show jX m_X11_wholeDays 3 0 0 0 [(0, .ref 31), (1, .int a1), (2, .int a2), (3, .int a3), (4, .int a4)] [] _ 0 0 _
  unfold d_X11_wholeDays_r31d at D
  have EV : vw h = vw h := rfl
  refine x_iconst (v := 0) rfl ki_0 ?_
  refine x_istore (lsx9 := [(5, .int 0), (0, .ref 31), (1, .int a1), (2, .int a2), (3, .int a3), (4, .int a4)]) rfl rfl rfl ?_
  refine x_iloadn (x := a2) rfl rfl ?_
  refine x_istore (lsx9 := [(6, .int a2), (5, .int 0), (0, .ref 31), (1, .int a1), (2, .int a2), (3, .int a3), (4, .int a4)]) rfl rfl rfl ?_
  refine x_iconst (v := 0) rfl ki_0 ?_
  refine x_istore (lsx9 := [(7, .int 0), (6, .int a2), (5, .int 0), (0, .ref 31), (1, .int a1), (2, .int a2), (3, .int a3), (4, .int a4)]) rfl rfl rfl ?_
  exact jX.sub (jsb_c rfl (jsb_c rfl (jsb_c rfl (jsb_c rfl (jsb_c rfl (jsb_c rfl (jsb_c rfl jsb_n))))))) (ct_X11_wholeDays_r31d_9 hD hQ  42 a1 a3 a4 0 a2 0 h (by have := jk_0; omega) (jr_of rfl (by omega)) (jr_of rfl (by omega)) (jr_of rfl (by omega)) (jr_of rfl (by omega)) (jr_of jk_0 (by omega)) J Sm (by rw [jk_0]; exact D) EV)
def fp_X11_guessedOf_r31d : jFp := []
set_option maxRecDepth 100000 in
set_option maxHeartbeats 4000000 in
theorem ct_X11_guessedOf_r31d_166 {Dy : jH → Prop} {h0 : jH} {Q : Option Value → jH → Prop} {dr : Int} {K66 : Int → Int → Int → Int → Int → Int → Int → Int → Int → jW → Int} {R66 : Int} (hD : jDk Dy) (hQ : ∀ (v : Int32) hx9, jJ jSgX Dy hx9 → jSm fp_X11_guessedOf_r31d h0 hx9 → dr = v.toInt → vw hx9 = vw h0 → Q (some (.int v)) hx9) (k66 : ∀ (l1 : Int32) (l2 : Int32) (l3 : Int32) (l4 : Int32) (l5 : Int32) (l6 : Int32) (l7 : Int64) (l9 : Int64) (l11 : Int32) (h : jH), 200 - l11.toInt < R66 → 0 ≤ l1.toInt ∧ l1.toInt ≤ 5 → 0 ≤ l2.toInt ∧ l2.toInt ≤ 146399 → 0 ≤ l3.toInt ∧ l3.toInt ≤ 146399 → 0 ≤ l4.toInt ∧ l4.toInt ≤ 146399 → 0 ≤ l5.toInt ∧ l5.toInt ≤ 142739 → 3660 ≤ l6.toInt ∧ l6.toInt ≤ 146399 → (-2147483648) ≤ l7.toInt ∧ l7.toInt ≤ 2147483647 → 0 ≤ l11.toInt ∧ l11.toInt ≤ 200 → l7.toInt ≠ 0 → jJ jSgX Dy h → jSm fp_X11_guessedOf_r31d h0 h → K66 l1.toInt l2.toInt l3.toInt l4.toInt l5.toInt l6.toInt l7.toInt l9.toInt l11.toInt (vw h) = dr → vw h = vw h0 → jX m_X11_guessedOf 4 0 0 66 [(0, .ref 31), (1, .int l1), (2, .int l2), (3, .int l3), (4, .int l4), (5, .int l5), (6, .int l6), (7, .long l7), (9, .long l9), (11, .int l11)] [] h 0 0 Q) : ∀ (l1 : Int32) (l2 : Int32) (l3 : Int32) (l4 : Int32) (l5 : Int32) (l6 : Int32) (l7 : Int64) (l9 : Int64) (l11 : Int32) (h : jH), 0 ≤ l1.toInt ∧ l1.toInt ≤ 5 → 0 ≤ l2.toInt ∧ l2.toInt ≤ 146399 → 0 ≤ l3.toInt ∧ l3.toInt ≤ 146399 → 0 ≤ l4.toInt ∧ l4.toInt ≤ 146399 → 0 ≤ l5.toInt ∧ l5.toInt ≤ 142739 → 3660 ≤ l6.toInt ∧ l6.toInt ≤ 146399 → (-2147483648) ≤ l7.toInt ∧ l7.toInt ≤ 2147483647 → 0 ≤ l11.toInt ∧ l11.toInt ≤ 199 → l7.toInt ≠ 0 → 200 - l11.toInt ≤ R66 → jJ jSgX Dy h → jSm fp_X11_guessedOf_r31d h0 h → d_X11_guessedOf_r31d_166 K66  l1.toInt l2.toInt l3.toInt l4.toInt l5.toInt l6.toInt l7.toInt l9.toInt l11.toInt (vw h) = dr → vw h = vw h0 → jX m_X11_guessedOf 4 0 0 166 [(0, .ref 31), (1, .int l1), (2, .int l2), (3, .int l3), (4, .int l4), (5, .int l5), (6, .int l6), (7, .long l7), (9, .long l9), (11, .int l11)] [] h 0 0 Q := by
  intro l1 l2 l3 l4 l5 l6 l7 l9 l11 h y0 y1 y2 y3 y4 y5 y6 y7 y8  m66 J Sm D EV
  have el9 := jfullL l9
  unfold d_X11_guessedOf_r31d_166 at D
  refine z_iinc (x := l11) (lsx9 := fun v1 => [(11, .int v1), (0, .ref 31), (1, .int l1), (2, .int l2), (3, .int l3), (4, .int l4), (5, .int l5), (6, .int l6), (7, .long l7), (9, .long l9)]) rfl rfl rfl jko_1 (by omega) rfl (fun _ => rfl) (fun v1 ev1 => ?_)
  refine x_goto (tgt := 66) rfl rfl ?_
  try rw [show (l11.toInt + 1) = v1.toInt from by omega] at D
  exact jX.sub (jsb_c rfl (jsb_c rfl (jsb_c rfl (jsb_c rfl (jsb_c rfl (jsb_c rfl (jsb_c rfl (jsb_c rfl (jsb_c rfl (jsb_c rfl jsb_n)))))))))) (k66 l1 l2 l3 l4 l5 l6 l7 l9 v1 h (by omega) (jr_of rfl (by omega)) (jr_of rfl (by omega)) (jr_of rfl (by omega)) (jr_of rfl (by omega)) (jr_of rfl (by omega)) (jr_of rfl (by omega)) (jr_ofl rfl (by omega)) (jr_of rfl (by omega)) (by omega) J Sm D EV)
set_option maxRecDepth 100000 in
set_option maxHeartbeats 4000000 in
theorem ct_X11_guessedOf_r31d_300127 {Dy : jH → Prop} {h0 : jH} {Q : Option Value → jH → Prop} {dr : Int} {K66 : Int → Int → Int → Int → Int → Int → Int → Int → Int → jW → Int} {R66 : Int} (hD : jDk Dy) (hQ : ∀ (v : Int32) hx9, jJ jSgX Dy hx9 → jSm fp_X11_guessedOf_r31d h0 hx9 → dr = v.toInt → vw hx9 = vw h0 → Q (some (.int v)) hx9) (k66 : ∀ (l1 : Int32) (l2 : Int32) (l3 : Int32) (l4 : Int32) (l5 : Int32) (l6 : Int32) (l7 : Int64) (l9 : Int64) (l11 : Int32) (h : jH), 200 - l11.toInt < R66 → 0 ≤ l1.toInt ∧ l1.toInt ≤ 5 → 0 ≤ l2.toInt ∧ l2.toInt ≤ 146399 → 0 ≤ l3.toInt ∧ l3.toInt ≤ 146399 → 0 ≤ l4.toInt ∧ l4.toInt ≤ 146399 → 0 ≤ l5.toInt ∧ l5.toInt ≤ 142739 → 3660 ≤ l6.toInt ∧ l6.toInt ≤ 146399 → (-2147483648) ≤ l7.toInt ∧ l7.toInt ≤ 2147483647 → 0 ≤ l11.toInt ∧ l11.toInt ≤ 200 → l7.toInt ≠ 0 → jJ jSgX Dy h → jSm fp_X11_guessedOf_r31d h0 h → K66 l1.toInt l2.toInt l3.toInt l4.toInt l5.toInt l6.toInt l7.toInt l9.toInt l11.toInt (vw h) = dr → vw h = vw h0 → jX m_X11_guessedOf 4 0 0 66 [(0, .ref 31), (1, .int l1), (2, .int l2), (3, .int l3), (4, .int l4), (5, .int l5), (6, .int l6), (7, .long l7), (9, .long l9), (11, .int l11)] [] h 0 0 Q) : ∀ (l1 : Int32) (l2 : Int32) (l3 : Int32) (l4 : Int32) (l5 : Int32) (l6 : Int32) (l7 : Int64) (l9 : Int64) (l11 : Int32) (l12 : Int32) (h : jH), 0 ≤ l1.toInt ∧ l1.toInt ≤ 5 → 0 ≤ l2.toInt ∧ l2.toInt ≤ 146399 → 0 ≤ l3.toInt ∧ l3.toInt ≤ 146399 → 0 ≤ l4.toInt ∧ l4.toInt ≤ 146399 → 0 ≤ l5.toInt ∧ l5.toInt ≤ 142739 → 3660 ≤ l6.toInt ∧ l6.toInt ≤ 146399 → (-2147483648) ≤ l7.toInt ∧ l7.toInt ≤ 2147483647 → 0 ≤ l11.toInt ∧ l11.toInt ≤ 199 → 0 ≤ l12.toInt ∧ l12.toInt ≤ 146399 → l7.toInt ≠ 0 → 200 - l11.toInt ≤ R66 → jJ jSgX Dy h → jSm fp_X11_guessedOf_r31d h0 h → d_X11_guessedOf_r31d_300127 K66  l1.toInt l2.toInt l3.toInt l4.toInt l5.toInt l6.toInt l7.toInt l9.toInt l11.toInt l12.toInt (vw h) = dr → vw h = vw h0 → jX m_X11_guessedOf 4 0 0 127 [(0, .ref 31), (1, .int l1), (2, .int l2), (3, .int l3), (4, .int l4), (5, .int l5), (6, .int l6), (7, .long l7), (9, .long l9), (11, .int l11), (12, .int l12)] [.int 1] h 0 0 Q := by
  intro l1 l2 l3 l4 l5 l6 l7 l9 l11 l12 h y0 y1 y2 y3 y4 y5 y6 y7 y8 y9  m66 J Sm D EV
  have el9 := jfullL l9
  unfold d_X11_guessedOf_r31d_300127 at D
  refine x_istore (lsx9 := [(13, .int 1), (0, .ref 31), (1, .int l1), (2, .int l2), (3, .int l3), (4, .int l4), (5, .int l5), (6, .int l6), (7, .long l7), (9, .long l9), (11, .int l11), (12, .int l12)]) rfl rfl rfl ?_
  refine x_iload (x := 1) rfl rfl ?_
  refine x_ifeq (tgt := 166) rfl rfl (ti_eq jk_1 jk_0 (br_f (by omega) ?_))
  refine x_aloadn (x := 31) rfl rfl ?_
  refine x_iload (x := l11) rfl rfl ?_
  refine x_iloadn (x := l1) rfl rfl ?_
  refine x_iload (x := l4) rfl rfl ?_
  refine x_inv (N := m_X11_isLineOf) (As := [.int l11, .int l1, .int l4]) (b := 31) (st := []) (dx9 := 3) (mc := 0) (ms := 0) (host := "") 11 rfl t_X11_isLineOf ⟨Or.inl q_11_543, i_X11_isLineOf.1, i_X11_isLineOf.2⟩ ⟨by decide, rfl⟩ (congrArg Prod.fst (J.1.1 31 (11, 13) rfl)) rfl (by decide) rfl rfl ⟨by decide, by decide⟩ (jC.of rfl k_X11_isLineOf rfl ?_)
  show jX m_X11_isLineOf 3 0 0 0 [(0, .ref 31), (1, .int l11), (2, .int l1), (3, .int l4)] [] _ 0 0 _
  refine x_aloadn (x := 31) rfl rfl ?_
  refine z_getR (N := 13) (b := 32) 11 0 rfl f_11_10 rfl J rfl 3968 ⟨rfl, rfl⟩ rfl ?_
  refine z_getR (N := 20) (b := 33) 1 0 rfl f_11_126 rfl J rfl 4096 ⟨rfl, rfl⟩ rfl ?_
  refine x_iloadn (x := l11) rfl rfl ?_
  refine x_iloadn (x := l4) rfl rfl ?_
  refine x_inv (N := m_X8_isKnown) (As := [.int l11, .int l4]) (b := 33) (st := []) (dx9 := 1) (mc := 0) (ms := 0) (host := "") 8 rfl t_X8_isKnown ⟨Or.inl q_11_440, i_X8_isKnown.1, i_X8_isKnown.2⟩ ⟨by decide, rfl⟩ (congrArg Prod.fst (J.1.1 33 (8, 4) rfl)) rfl (by decide) rfl rfl ⟨by decide, by decide⟩ (sf_X8_isKnown_r33d (jr_of rfl (by omega)) hD J rfl  (fun v4 h ev4 J S1 X2 X3 => ?_))
  have Sm := jSm_tr rfl Sm S1
  try rw [X2] at D
  try rw [← X3] at D
  have EV := X3.trans EV
  show jX m_X11_isLineOf 3 0 0 12 [(0, .ref 31), (1, .int l11), (2, .int l1), (3, .int l4)] [.int v4] _ 0 0 _
  refine x_ifeq (tgt := 35) rfl rfl (ti_eq rfl jk_0 ⟨fun c5 => ?_, fun c5 => ?_⟩)
  ·
    rw [if_pos (by omega)] at D
    refine x_iconst (v := 0) rfl ki_0 ?_
    refine x_zret rfl rfl (by decide) ?_
    show jX m_X11_guessedOf 4 0 0 143 [(13, .int 1), (0, .ref 31), (1, .int l1), (2, .int l2), (3, .int l3), (4, .int l4), (5, .int l5), (6, .int l6), (7, .long l7), (9, .long l9), (11, .int l11), (12, .int l12)] [.int 0] _ 0 0 _
    refine x_ifeq (tgt := 166) rfl rfl (ti_eq jk_0 jk_0 (br_t (by omega) ?_))
    exact jX.sub (jsb_c rfl (jsb_c rfl (jsb_c rfl (jsb_c rfl (jsb_c rfl (jsb_c rfl (jsb_c rfl (jsb_c rfl (jsb_c rfl (jsb_c rfl jsb_n)))))))))) (ct_X11_guessedOf_r31d_166 hD hQ k66 l1 l2 l3 l4 l5 l6 l7 l9 l11 h (jr_of rfl (by omega)) (jr_of rfl (by omega)) (jr_of rfl (by omega)) (jr_of rfl (by omega)) (jr_of rfl (by omega)) (jr_of rfl (by omega)) (jr_ofl rfl (by omega)) (jr_of rfl (by omega)) (by omega) (by omega) J Sm D EV)
  ·
    rw [if_neg (by omega)] at D
    refine x_aloadn (x := 31) rfl rfl ?_
    refine z_getR (N := 13) (b := 32) 11 0 rfl f_11_10 rfl J rfl 3968 ⟨rfl, rfl⟩ rfl ?_
    refine z_getR (N := 20) (b := 33) 1 0 rfl f_11_126 rfl J rfl 4096 ⟨rfl, rfl⟩ rfl ?_
    refine x_iloadn (x := l11) rfl rfl ?_
    refine x_iconst (v := 2) rfl ki_2 ?_
    refine x_inv (N := m_X8_at) (As := [.int l11, .int 2]) (b := 33) (st := []) (dx9 := 1) (mc := 0) (ms := 0) (host := "") 8 rfl t_X8_at ⟨Or.inl q_11_171, i_X8_at.1, i_X8_at.2⟩ ⟨by decide, rfl⟩ (congrArg Prod.fst (J.1.1 33 (8, 4) rfl)) rfl (by decide) rfl rfl ⟨by decide, by decide⟩ (sf_X8_at_r33_c2d  hD J rfl  (fun v9 h ev9 J S6 X7 X8 => ?_))
    have Sm := jSm_tr rfl Sm S6
    try rw [X7] at D
    try rw [← X8] at D
    have EV := X8.trans EV
    show jX m_X11_isLineOf 3 0 0 27 [(0, .ref 31), (1, .int l11), (2, .int l1), (3, .int l4)] [.int v9] _ 0 0 _
    refine x_iloadn (x := l1) rfl rfl ?_
    refine x_icne (tgt := 35) rfl rfl (ti_ne rfl rfl ⟨fun c10 => ?_, fun c10 => ?_⟩)
    ·
      rw [if_neg (by omega)] at D
      refine x_iconst (v := 0) rfl ki_0 ?_
      refine x_zret rfl rfl (by decide) ?_
      show jX m_X11_guessedOf 4 0 0 143 [(13, .int 1), (0, .ref 31), (1, .int l1), (2, .int l2), (3, .int l3), (4, .int l4), (5, .int l5), (6, .int l6), (7, .long l7), (9, .long l9), (11, .int l11), (12, .int l12)] [.int 0] _ 0 0 _
      refine x_ifeq (tgt := 166) rfl rfl (ti_eq jk_0 jk_0 (br_t (by omega) ?_))
      exact jX.sub (jsb_c rfl (jsb_c rfl (jsb_c rfl (jsb_c rfl (jsb_c rfl (jsb_c rfl (jsb_c rfl (jsb_c rfl (jsb_c rfl (jsb_c rfl jsb_n)))))))))) (ct_X11_guessedOf_r31d_166 hD hQ k66 l1 l2 l3 l4 l5 l6 l7 l9 l11 h (jr_of rfl (by omega)) (jr_of rfl (by omega)) (jr_of rfl (by omega)) (jr_of rfl (by omega)) (jr_of rfl (by omega)) (jr_of rfl (by omega)) (jr_ofl rfl (by omega)) (jr_of rfl (by omega)) (by omega) (by omega) J Sm D EV)
    ·
      rw [if_pos (by omega)] at D
      refine x_iconst (v := 1) rfl ki_1 ?_
      refine x_goto (tgt := 36) rfl rfl ?_
      refine x_zret rfl rfl (by decide) ?_
      show jX m_X11_guessedOf 4 0 0 143 [(13, .int 1), (0, .ref 31), (1, .int l1), (2, .int l2), (3, .int l3), (4, .int l4), (5, .int l5), (6, .int l6), (7, .long l7), (9, .long l9), (11, .int l11), (12, .int l12)] [.int 1] _ 0 0 _
      refine x_ifeq (tgt := 166) rfl rfl (ti_eq jk_1 jk_0 (br_f (by omega) ?_))
      refine x_aloadn (x := 31) rfl rfl ?_
      refine x_iloadn (x := l1) rfl rfl ?_
      refine x_iload (x := l12) rfl rfl ?_
      refine x_iload (x := l12) rfl rfl ?_
      refine x_iload (x := l4) rfl rfl ?_
      refine x_inv (N := m_X11_isTornWithin) (As := [.int l1, .int l12, .int l12, .int l4]) (b := 31) (st := []) (dx9 := 3) (mc := 0) (ms := 0) (host := "") 11 rfl t_X11_isTornWithin ⟨Or.inl q_11_546, i_X11_isTornWithin.1, i_X11_isTornWithin.2⟩ ⟨by decide, rfl⟩ (congrArg Prod.fst (J.1.1 31 (11, 13) rfl)) rfl (by decide) rfl rfl ⟨by decide, by decide⟩ (sf_X11_isTornWithin_r31d (jr_of rfl (by omega)) (jr_of rfl (by omega)) (jr_of rfl (by omega)) (jr_of rfl (by omega)) hD J rfl  (fun v14 h ev14 J S11 X12 X13 => ?_))
      have Sm := jSm_tr rfl Sm S11
      try rw [X12] at D
      try rw [← X13] at D
      have EV := X13.trans EV
      show jX m_X11_guessedOf 4 0 0 157 [(13, .int 1), (0, .ref 31), (1, .int l1), (2, .int l2), (3, .int l3), (4, .int l4), (5, .int l5), (6, .int l6), (7, .long l7), (9, .long l9), (11, .int l11), (12, .int l12)] [.int v14] _ 0 0 _
      refine x_ifne (tgt := 166) rfl rfl (ti_ne rfl jk_0 ⟨fun c15 => ?_, fun c15 => ?_⟩)
      ·
        rw [if_neg (by omega)] at D
        exact jX.sub (jsb_c rfl (jsb_c rfl (jsb_c rfl (jsb_c rfl (jsb_c rfl (jsb_c rfl (jsb_c rfl (jsb_c rfl (jsb_c rfl (jsb_c rfl jsb_n)))))))))) (ct_X11_guessedOf_r31d_166 hD hQ k66 l1 l2 l3 l4 l5 l6 l7 l9 l11 h (jr_of rfl (by omega)) (jr_of rfl (by omega)) (jr_of rfl (by omega)) (jr_of rfl (by omega)) (jr_of rfl (by omega)) (jr_of rfl (by omega)) (jr_ofl rfl (by omega)) (jr_of rfl (by omega)) (by omega) (by omega) J Sm D EV)
      ·
        rw [if_pos (by omega)] at D
        refine x_lload (x := l9) rfl rfl ?_
        refine x_lconst (v := 1) rfl kl_1 ?_
        refine z_laddW rfl rfl jkl_1 (fun v16 ev16 => ?_)
        have fv16 := jfullL v16
        try rw [← ev16] at D
        refine x_lstore (lsx9 := [(9, .long v16), (13, .int 1), (0, .ref 31), (1, .int l1), (2, .int l2), (3, .int l3), (4, .int l4), (5, .int l5), (6, .int l6), (7, .long l7), (11, .int l11), (12, .int l12)]) rfl rfl rfl ?_
        exact jX.sub (jsb_c rfl (jsb_c rfl (jsb_c rfl (jsb_c rfl (jsb_c rfl (jsb_c rfl (jsb_c rfl (jsb_c rfl (jsb_c rfl (jsb_c rfl jsb_n)))))))))) (ct_X11_guessedOf_r31d_166 hD hQ k66 l1 l2 l3 l4 l5 l6 l7 v16 l11 h (jr_of rfl (by omega)) (jr_of rfl (by omega)) (jr_of rfl (by omega)) (jr_of rfl (by omega)) (jr_of rfl (by omega)) (jr_of rfl (by omega)) (jr_ofl rfl (by omega)) (jr_of rfl (by omega)) (by omega) (by omega) J Sm D EV)
set_option maxRecDepth 100000 in
set_option maxHeartbeats 4000000 in
theorem ct_X11_guessedOf_r31d_200127 {Dy : jH → Prop} {h0 : jH} {Q : Option Value → jH → Prop} {dr : Int} {K66 : Int → Int → Int → Int → Int → Int → Int → Int → Int → jW → Int} {R66 : Int} (hD : jDk Dy) (hQ : ∀ (v : Int32) hx9, jJ jSgX Dy hx9 → jSm fp_X11_guessedOf_r31d h0 hx9 → dr = v.toInt → vw hx9 = vw h0 → Q (some (.int v)) hx9) (k66 : ∀ (l1 : Int32) (l2 : Int32) (l3 : Int32) (l4 : Int32) (l5 : Int32) (l6 : Int32) (l7 : Int64) (l9 : Int64) (l11 : Int32) (h : jH), 200 - l11.toInt < R66 → 0 ≤ l1.toInt ∧ l1.toInt ≤ 5 → 0 ≤ l2.toInt ∧ l2.toInt ≤ 146399 → 0 ≤ l3.toInt ∧ l3.toInt ≤ 146399 → 0 ≤ l4.toInt ∧ l4.toInt ≤ 146399 → 0 ≤ l5.toInt ∧ l5.toInt ≤ 142739 → 3660 ≤ l6.toInt ∧ l6.toInt ≤ 146399 → (-2147483648) ≤ l7.toInt ∧ l7.toInt ≤ 2147483647 → 0 ≤ l11.toInt ∧ l11.toInt ≤ 200 → l7.toInt ≠ 0 → jJ jSgX Dy h → jSm fp_X11_guessedOf_r31d h0 h → K66 l1.toInt l2.toInt l3.toInt l4.toInt l5.toInt l6.toInt l7.toInt l9.toInt l11.toInt (vw h) = dr → vw h = vw h0 → jX m_X11_guessedOf 4 0 0 66 [(0, .ref 31), (1, .int l1), (2, .int l2), (3, .int l3), (4, .int l4), (5, .int l5), (6, .int l6), (7, .long l7), (9, .long l9), (11, .int l11)] [] h 0 0 Q) : ∀ (l1 : Int32) (l2 : Int32) (l3 : Int32) (l4 : Int32) (l5 : Int32) (l6 : Int32) (l7 : Int64) (l9 : Int64) (l11 : Int32) (l12 : Int32) (h : jH), 0 ≤ l1.toInt ∧ l1.toInt ≤ 5 → 0 ≤ l2.toInt ∧ l2.toInt ≤ 146399 → 0 ≤ l3.toInt ∧ l3.toInt ≤ 146399 → 0 ≤ l4.toInt ∧ l4.toInt ≤ 146399 → 0 ≤ l5.toInt ∧ l5.toInt ≤ 142739 → 3660 ≤ l6.toInt ∧ l6.toInt ≤ 146399 → (-2147483648) ≤ l7.toInt ∧ l7.toInt ≤ 2147483647 → 0 ≤ l11.toInt ∧ l11.toInt ≤ 199 → 0 ≤ l12.toInt ∧ l12.toInt ≤ 146399 → l7.toInt ≠ 0 → 200 - l11.toInt ≤ R66 → jJ jSgX Dy h → jSm fp_X11_guessedOf_r31d h0 h → d_X11_guessedOf_r31d_200127 K66  l1.toInt l2.toInt l3.toInt l4.toInt l5.toInt l6.toInt l7.toInt l9.toInt l11.toInt l12.toInt (vw h) = dr → vw h = vw h0 → jX m_X11_guessedOf 4 0 0 127 [(0, .ref 31), (1, .int l1), (2, .int l2), (3, .int l3), (4, .int l4), (5, .int l5), (6, .int l6), (7, .long l7), (9, .long l9), (11, .int l11), (12, .int l12)] [.int 0] h 0 0 Q := by
  intro l1 l2 l3 l4 l5 l6 l7 l9 l11 l12 h y0 y1 y2 y3 y4 y5 y6 y7 y8 y9  m66 J Sm D EV
  have el9 := jfullL l9
  unfold d_X11_guessedOf_r31d_200127 at D
  refine x_istore (lsx9 := [(13, .int 0), (0, .ref 31), (1, .int l1), (2, .int l2), (3, .int l3), (4, .int l4), (5, .int l5), (6, .int l6), (7, .long l7), (9, .long l9), (11, .int l11), (12, .int l12)]) rfl rfl rfl ?_
  refine x_iload (x := 0) rfl rfl ?_
  refine x_ifeq (tgt := 166) rfl rfl (ti_eq jk_0 jk_0 (br_t (by omega) ?_))
  exact jX.sub (jsb_c rfl (jsb_c rfl (jsb_c rfl (jsb_c rfl (jsb_c rfl (jsb_c rfl (jsb_c rfl (jsb_c rfl (jsb_c rfl (jsb_c rfl jsb_n)))))))))) (ct_X11_guessedOf_r31d_166 hD hQ k66 l1 l2 l3 l4 l5 l6 l7 l9 l11 h (jr_of rfl (by omega)) (jr_of rfl (by omega)) (jr_of rfl (by omega)) (jr_of rfl (by omega)) (jr_of rfl (by omega)) (jr_of rfl (by omega)) (jr_ofl rfl (by omega)) (jr_of rfl (by omega)) (by omega) (by omega) J Sm D EV)
set_option maxRecDepth 100000 in
set_option maxHeartbeats 4000000 in
theorem ct_X11_guessedOf_r31d_126 {Dy : jH → Prop} {h0 : jH} {Q : Option Value → jH → Prop} {dr : Int} {K66 : Int → Int → Int → Int → Int → Int → Int → Int → Int → jW → Int} {R66 : Int} (hD : jDk Dy) (hQ : ∀ (v : Int32) hx9, jJ jSgX Dy hx9 → jSm fp_X11_guessedOf_r31d h0 hx9 → dr = v.toInt → vw hx9 = vw h0 → Q (some (.int v)) hx9) (k66 : ∀ (l1 : Int32) (l2 : Int32) (l3 : Int32) (l4 : Int32) (l5 : Int32) (l6 : Int32) (l7 : Int64) (l9 : Int64) (l11 : Int32) (h : jH), 200 - l11.toInt < R66 → 0 ≤ l1.toInt ∧ l1.toInt ≤ 5 → 0 ≤ l2.toInt ∧ l2.toInt ≤ 146399 → 0 ≤ l3.toInt ∧ l3.toInt ≤ 146399 → 0 ≤ l4.toInt ∧ l4.toInt ≤ 146399 → 0 ≤ l5.toInt ∧ l5.toInt ≤ 142739 → 3660 ≤ l6.toInt ∧ l6.toInt ≤ 146399 → (-2147483648) ≤ l7.toInt ∧ l7.toInt ≤ 2147483647 → 0 ≤ l11.toInt ∧ l11.toInt ≤ 200 → l7.toInt ≠ 0 → jJ jSgX Dy h → jSm fp_X11_guessedOf_r31d h0 h → K66 l1.toInt l2.toInt l3.toInt l4.toInt l5.toInt l6.toInt l7.toInt l9.toInt l11.toInt (vw h) = dr → vw h = vw h0 → jX m_X11_guessedOf 4 0 0 66 [(0, .ref 31), (1, .int l1), (2, .int l2), (3, .int l3), (4, .int l4), (5, .int l5), (6, .int l6), (7, .long l7), (9, .long l9), (11, .int l11)] [] h 0 0 Q) : ∀ (l1 : Int32) (l2 : Int32) (l3 : Int32) (l4 : Int32) (l5 : Int32) (l6 : Int32) (l7 : Int64) (l9 : Int64) (l11 : Int32) (l12 : Int32) (h : jH), 0 ≤ l1.toInt ∧ l1.toInt ≤ 5 → 0 ≤ l2.toInt ∧ l2.toInt ≤ 146399 → 0 ≤ l3.toInt ∧ l3.toInt ≤ 146399 → 0 ≤ l4.toInt ∧ l4.toInt ≤ 146399 → 0 ≤ l5.toInt ∧ l5.toInt ≤ 142739 → 3660 ≤ l6.toInt ∧ l6.toInt ≤ 146399 → (-2147483648) ≤ l7.toInt ∧ l7.toInt ≤ 2147483647 → 0 ≤ l11.toInt ∧ l11.toInt ≤ 199 → 0 ≤ l12.toInt ∧ l12.toInt ≤ 146399 → l7.toInt ≠ 0 → 200 - l11.toInt ≤ R66 → jJ jSgX Dy h → jSm fp_X11_guessedOf_r31d h0 h → d_X11_guessedOf_r31d_126 K66  l1.toInt l2.toInt l3.toInt l4.toInt l5.toInt l6.toInt l7.toInt l9.toInt l11.toInt l12.toInt (vw h) = dr → vw h = vw h0 → jX m_X11_guessedOf 4 0 0 126 [(0, .ref 31), (1, .int l1), (2, .int l2), (3, .int l3), (4, .int l4), (5, .int l5), (6, .int l6), (7, .long l7), (9, .long l9), (11, .int l11), (12, .int l12)] [] h 0 0 Q := by
  intro l1 l2 l3 l4 l5 l6 l7 l9 l11 l12 h y0 y1 y2 y3 y4 y5 y6 y7 y8 y9  m66 J Sm D EV
  have el9 := jfullL l9
  unfold d_X11_guessedOf_r31d_126 at D
  refine x_iconst (v := 0) rfl ki_0 ?_
  exact jX.sub (jsb_c rfl (jsb_c rfl (jsb_c rfl (jsb_c rfl (jsb_c rfl (jsb_c rfl (jsb_c rfl (jsb_c rfl (jsb_c rfl (jsb_c rfl (jsb_c rfl jsb_n))))))))))) (ct_X11_guessedOf_r31d_200127 hD hQ k66 l1 l2 l3 l4 l5 l6 l7 l9 l11 l12 h (jr_of rfl (by omega)) (jr_of rfl (by omega)) (jr_of rfl (by omega)) (jr_of rfl (by omega)) (jr_of rfl (by omega)) (jr_of rfl (by omega)) (jr_ofl rfl (by omega)) (jr_of rfl (by omega)) (jr_of rfl (by omega)) (by omega) (by omega) J Sm D EV)
set_option maxRecDepth 100000 in
set_option maxHeartbeats 4000000 in
theorem ct_X11_guessedOf_r31d_122 {Dy : jH → Prop} {h0 : jH} {Q : Option Value → jH → Prop} {dr : Int} {K66 : Int → Int → Int → Int → Int → Int → Int → Int → Int → jW → Int} {R66 : Int} (hD : jDk Dy) (hQ : ∀ (v : Int32) hx9, jJ jSgX Dy hx9 → jSm fp_X11_guessedOf_r31d h0 hx9 → dr = v.toInt → vw hx9 = vw h0 → Q (some (.int v)) hx9) (k66 : ∀ (l1 : Int32) (l2 : Int32) (l3 : Int32) (l4 : Int32) (l5 : Int32) (l6 : Int32) (l7 : Int64) (l9 : Int64) (l11 : Int32) (h : jH), 200 - l11.toInt < R66 → 0 ≤ l1.toInt ∧ l1.toInt ≤ 5 → 0 ≤ l2.toInt ∧ l2.toInt ≤ 146399 → 0 ≤ l3.toInt ∧ l3.toInt ≤ 146399 → 0 ≤ l4.toInt ∧ l4.toInt ≤ 146399 → 0 ≤ l5.toInt ∧ l5.toInt ≤ 142739 → 3660 ≤ l6.toInt ∧ l6.toInt ≤ 146399 → (-2147483648) ≤ l7.toInt ∧ l7.toInt ≤ 2147483647 → 0 ≤ l11.toInt ∧ l11.toInt ≤ 200 → l7.toInt ≠ 0 → jJ jSgX Dy h → jSm fp_X11_guessedOf_r31d h0 h → K66 l1.toInt l2.toInt l3.toInt l4.toInt l5.toInt l6.toInt l7.toInt l9.toInt l11.toInt (vw h) = dr → vw h = vw h0 → jX m_X11_guessedOf 4 0 0 66 [(0, .ref 31), (1, .int l1), (2, .int l2), (3, .int l3), (4, .int l4), (5, .int l5), (6, .int l6), (7, .long l7), (9, .long l9), (11, .int l11)] [] h 0 0 Q) : ∀ (l1 : Int32) (l2 : Int32) (l3 : Int32) (l4 : Int32) (l5 : Int32) (l6 : Int32) (l7 : Int64) (l9 : Int64) (l11 : Int32) (l12 : Int32) (h : jH), 0 ≤ l1.toInt ∧ l1.toInt ≤ 5 → 0 ≤ l2.toInt ∧ l2.toInt ≤ 146399 → 0 ≤ l3.toInt ∧ l3.toInt ≤ 146399 → 0 ≤ l4.toInt ∧ l4.toInt ≤ 146399 → 0 ≤ l5.toInt ∧ l5.toInt ≤ 142739 → 3660 ≤ l6.toInt ∧ l6.toInt ≤ 146399 → (-2147483648) ≤ l7.toInt ∧ l7.toInt ≤ 2147483647 → 0 ≤ l11.toInt ∧ l11.toInt ≤ 199 → 0 ≤ l12.toInt ∧ l12.toInt ≤ 146399 → l7.toInt ≠ 0 → 200 - l11.toInt ≤ R66 → jJ jSgX Dy h → jSm fp_X11_guessedOf_r31d h0 h → d_X11_guessedOf_r31d_122 K66  l1.toInt l2.toInt l3.toInt l4.toInt l5.toInt l6.toInt l7.toInt l9.toInt l11.toInt l12.toInt (vw h) = dr → vw h = vw h0 → jX m_X11_guessedOf 4 0 0 122 [(0, .ref 31), (1, .int l1), (2, .int l2), (3, .int l3), (4, .int l4), (5, .int l5), (6, .int l6), (7, .long l7), (9, .long l9), (11, .int l11), (12, .int l12)] [] h 0 0 Q := by
  intro l1 l2 l3 l4 l5 l6 l7 l9 l11 l12 h y0 y1 y2 y3 y4 y5 y6 y7 y8 y9  m66 J Sm D EV
  have el9 := jfullL l9
  unfold d_X11_guessedOf_r31d_122 at D
  refine x_iconst (v := 1) rfl ki_1 ?_
  refine x_goto (tgt := 127) rfl rfl ?_
  exact jX.sub (jsb_c rfl (jsb_c rfl (jsb_c rfl (jsb_c rfl (jsb_c rfl (jsb_c rfl (jsb_c rfl (jsb_c rfl (jsb_c rfl (jsb_c rfl (jsb_c rfl jsb_n))))))))))) (ct_X11_guessedOf_r31d_300127 hD hQ k66 l1 l2 l3 l4 l5 l6 l7 l9 l11 l12 h (jr_of rfl (by omega)) (jr_of rfl (by omega)) (jr_of rfl (by omega)) (jr_of rfl (by omega)) (jr_of rfl (by omega)) (jr_of rfl (by omega)) (jr_ofl rfl (by omega)) (jr_of rfl (by omega)) (jr_of rfl (by omega)) (by omega) (by omega) J Sm D EV)
set_option maxRecDepth 100000 in
set_option maxHeartbeats 4000000 in
theorem ct_X11_guessedOf_r31d_109 {Dy : jH → Prop} {h0 : jH} {Q : Option Value → jH → Prop} {dr : Int} {K66 : Int → Int → Int → Int → Int → Int → Int → Int → Int → jW → Int} {R66 : Int} (hD : jDk Dy) (hQ : ∀ (v : Int32) hx9, jJ jSgX Dy hx9 → jSm fp_X11_guessedOf_r31d h0 hx9 → dr = v.toInt → vw hx9 = vw h0 → Q (some (.int v)) hx9) (k66 : ∀ (l1 : Int32) (l2 : Int32) (l3 : Int32) (l4 : Int32) (l5 : Int32) (l6 : Int32) (l7 : Int64) (l9 : Int64) (l11 : Int32) (h : jH), 200 - l11.toInt < R66 → 0 ≤ l1.toInt ∧ l1.toInt ≤ 5 → 0 ≤ l2.toInt ∧ l2.toInt ≤ 146399 → 0 ≤ l3.toInt ∧ l3.toInt ≤ 146399 → 0 ≤ l4.toInt ∧ l4.toInt ≤ 146399 → 0 ≤ l5.toInt ∧ l5.toInt ≤ 142739 → 3660 ≤ l6.toInt ∧ l6.toInt ≤ 146399 → (-2147483648) ≤ l7.toInt ∧ l7.toInt ≤ 2147483647 → 0 ≤ l11.toInt ∧ l11.toInt ≤ 200 → l7.toInt ≠ 0 → jJ jSgX Dy h → jSm fp_X11_guessedOf_r31d h0 h → K66 l1.toInt l2.toInt l3.toInt l4.toInt l5.toInt l6.toInt l7.toInt l9.toInt l11.toInt (vw h) = dr → vw h = vw h0 → jX m_X11_guessedOf 4 0 0 66 [(0, .ref 31), (1, .int l1), (2, .int l2), (3, .int l3), (4, .int l4), (5, .int l5), (6, .int l6), (7, .long l7), (9, .long l9), (11, .int l11)] [] h 0 0 Q) : ∀ (l1 : Int32) (l2 : Int32) (l3 : Int32) (l4 : Int32) (l5 : Int32) (l6 : Int32) (l7 : Int64) (l9 : Int64) (l11 : Int32) (l12 : Int32) (h : jH), 0 ≤ l1.toInt ∧ l1.toInt ≤ 5 → 0 ≤ l2.toInt ∧ l2.toInt ≤ 146399 → 0 ≤ l3.toInt ∧ l3.toInt ≤ 146399 → 0 ≤ l4.toInt ∧ l4.toInt ≤ 146399 → 0 ≤ l5.toInt ∧ l5.toInt ≤ 142739 → 3660 ≤ l6.toInt ∧ l6.toInt ≤ 146399 → (-2147483648) ≤ l7.toInt ∧ l7.toInt ≤ 2147483647 → 0 ≤ l11.toInt ∧ l11.toInt ≤ 199 → 0 ≤ l12.toInt ∧ l12.toInt ≤ 146399 → l7.toInt ≠ 0 → 200 - l11.toInt ≤ R66 → jJ jSgX Dy h → jSm fp_X11_guessedOf_r31d h0 h → d_X11_guessedOf_r31d_109 K66  l1.toInt l2.toInt l3.toInt l4.toInt l5.toInt l6.toInt l7.toInt l9.toInt l11.toInt l12.toInt (vw h) = dr → vw h = vw h0 → jX m_X11_guessedOf 4 0 0 109 [(0, .ref 31), (1, .int l1), (2, .int l2), (3, .int l3), (4, .int l4), (5, .int l5), (6, .int l6), (7, .long l7), (9, .long l9), (11, .int l11), (12, .int l12)] [] h 0 0 Q := by
  intro l1 l2 l3 l4 l5 l6 l7 l9 l11 l12 h y0 y1 y2 y3 y4 y5 y6 y7 y8 y9  m66 J Sm D EV
  have el9 := jfullL l9
  unfold d_X11_guessedOf_r31d_109 at D
  refine x_iload (x := l12) rfl rfl ?_
  refine x_iloadn (x := l3) rfl rfl ?_
  refine x_icle (tgt := 126) rfl rfl (ti_le rfl rfl ⟨fun c1 => ?_, fun c1 => ?_⟩)
  ·
    rw [if_pos (by omega)] at D
    exact jX.sub (jsb_c rfl (jsb_c rfl (jsb_c rfl (jsb_c rfl (jsb_c rfl (jsb_c rfl (jsb_c rfl (jsb_c rfl (jsb_c rfl (jsb_c rfl (jsb_c rfl jsb_n))))))))))) (ct_X11_guessedOf_r31d_126 hD hQ k66 l1 l2 l3 l4 l5 l6 l7 l9 l11 l12 h (jr_of rfl (by omega)) (jr_of rfl (by omega)) (jr_of rfl (by omega)) (jr_of rfl (by omega)) (jr_of rfl (by omega)) (jr_of rfl (by omega)) (jr_ofl rfl (by omega)) (jr_of rfl (by omega)) (jr_of rfl (by omega)) (by omega) (by omega) J Sm D EV)
  ·
    rw [if_neg (by omega)] at D
    refine x_iload (x := l12) rfl rfl ?_
    refine x_iload (x := l6) rfl rfl ?_
    refine x_icgt (tgt := 126) rfl rfl (ti_gt rfl rfl ⟨fun c2 => ?_, fun c2 => ?_⟩)
    ·
      rw [if_pos (by omega)] at D
      exact jX.sub (jsb_c rfl (jsb_c rfl (jsb_c rfl (jsb_c rfl (jsb_c rfl (jsb_c rfl (jsb_c rfl (jsb_c rfl (jsb_c rfl (jsb_c rfl (jsb_c rfl jsb_n))))))))))) (ct_X11_guessedOf_r31d_126 hD hQ k66 l1 l2 l3 l4 l5 l6 l7 l9 l11 l12 h (jr_of rfl (by omega)) (jr_of rfl (by omega)) (jr_of rfl (by omega)) (jr_of rfl (by omega)) (jr_of rfl (by omega)) (jr_of rfl (by omega)) (jr_ofl rfl (by omega)) (jr_of rfl (by omega)) (jr_of rfl (by omega)) (by omega) (by omega) J Sm D EV)
    ·
      rw [if_neg (by omega)] at D
      exact jX.sub (jsb_c rfl (jsb_c rfl (jsb_c rfl (jsb_c rfl (jsb_c rfl (jsb_c rfl (jsb_c rfl (jsb_c rfl (jsb_c rfl (jsb_c rfl (jsb_c rfl jsb_n))))))))))) (ct_X11_guessedOf_r31d_122 hD hQ k66 l1 l2 l3 l4 l5 l6 l7 l9 l11 l12 h (jr_of rfl (by omega)) (jr_of rfl (by omega)) (jr_of rfl (by omega)) (jr_of rfl (by omega)) (jr_of rfl (by omega)) (jr_of rfl (by omega)) (jr_ofl rfl (by omega)) (jr_of rfl (by omega)) (jr_of rfl (by omega)) (by omega) (by omega) J Sm D EV)
set_option maxRecDepth 100000 in
set_option maxHeartbeats 4000000 in
theorem ct_X11_guessedOf_r31d_66 {Dy : jH → Prop} {h0 : jH} {Q : Option Value → jH → Prop} {dr : Int} (hD : jDk Dy) (hQ : ∀ (v : Int32) hx9, jJ jSgX Dy hx9 → jSm fp_X11_guessedOf_r31d h0 hx9 → dr = v.toInt → vw hx9 = vw h0 → Q (some (.int v)) hx9) : ∀ r : Nat, ∀ (l1 : Int32) (l2 : Int32) (l3 : Int32) (l4 : Int32) (l5 : Int32) (l6 : Int32) (l7 : Int64) (l9 : Int64) (l11 : Int32) (h : jH), 200 - l11.toInt < (r : Int) → 0 ≤ l1.toInt ∧ l1.toInt ≤ 5 → 0 ≤ l2.toInt ∧ l2.toInt ≤ 146399 → 0 ≤ l3.toInt ∧ l3.toInt ≤ 146399 → 0 ≤ l4.toInt ∧ l4.toInt ≤ 146399 → 0 ≤ l5.toInt ∧ l5.toInt ≤ 142739 → 3660 ≤ l6.toInt ∧ l6.toInt ≤ 146399 → (-2147483648) ≤ l7.toInt ∧ l7.toInt ≤ 2147483647 → 0 ≤ l11.toInt ∧ l11.toInt ≤ 200 → l7.toInt ≠ 0 → jJ jSgX Dy h → jSm fp_X11_guessedOf_r31d h0 h → d_X11_guessedOf_r31d_66 r l1.toInt l2.toInt l3.toInt l4.toInt l5.toInt l6.toInt l7.toInt l9.toInt l11.toInt (vw h) = dr → vw h = vw h0 → jX m_X11_guessedOf 4 0 0 66 [(0, .ref 31), (1, .int l1), (2, .int l2), (3, .int l3), (4, .int l4), (5, .int l5), (6, .int l6), (7, .long l7), (9, .long l9), (11, .int l11)] [] h 0 0 Q := by
  intro r
  induction r with
  | zero =>
    intro l1 l2 l3 l4 l5 l6 l7 l9 l11 h hm y0 y1 y2 y3 y4 y5 y6 y7 y8   J Sm D EV
    exfalso
    have el9 := jfullL l9
    omega
  | succ r ih =>
    intro l1 l2 l3 l4 l5 l6 l7 l9 l11 h hm y0 y1 y2 y3 y4 y5 y6 y7 y8   J Sm D EV
    have el9 := jfullL l9
    rw [d_X11_guessedOf_r31d_66.eq_2] at D
    refine x_iload (x := l11) rfl rfl ?_
    refine x_aloadn (x := 31) rfl rfl ?_
    refine z_getR (N := 13) (b := 32) 11 0 rfl f_11_10 rfl J rfl 3968 ⟨rfl, rfl⟩ rfl ?_
    refine z_getR (N := 20) (b := 33) 1 0 rfl f_11_126 rfl J rfl 4096 ⟨rfl, rfl⟩ rfl ?_
    refine z_getI (N := 4) 8 3 rfl f_11_142 rfl J rfl sg_33_3_4_1_0_1 (fun v1 qv1 ev1 => ?_)
    try rw [vrf qv1] at D
    refine x_icge (tgt := 172) rfl rfl (ti_ge rfl rfl ⟨fun c2 => ?_, fun c2 => ?_⟩)
    ·
      rw [if_pos (by omega)] at D
      refine x_ldc2 (v := 2) rfl z_11_559 ?_
      refine x_lload (x := l9) rfl rfl ?_
      refine z_lmulW rfl jkl_2 rfl (fun v3 ev3 => ?_)
      have fv3 := jfullL v3
      try rw [← ev3] at D
      refine x_iloadn (x := l3) rfl rfl ?_
      refine x_iloadn (x := l2) rfl rfl ?_
      refine z_isub rfl rfl rfl (by omega) (fun v4 ev4 => ?_)
      refine x_iconst (v := 1) rfl ki_1 ?_
      refine z_iadd rfl rfl jk_1 (by omega) (fun v5 ev5 => ?_)
      refine z_i2l rfl rfl (fun v6 ev6 => ?_)
      refine z_lmulW rfl rfl rfl (fun v7 ev7 => ?_)
      have fv7 := jfullL v7
      try rw [show ((l3.toInt - l2.toInt) + 1) = v6.toInt from by omega] at D
      try rw [← ev7] at D
      refine x_lload (x := l7) rfl rfl ?_
      refine z_laddW rfl rfl rfl (fun v8 ev8 => ?_)
      have fv8 := jfullL v8
      try rw [← ev8] at D
      refine x_ldc2 (v := 2) rfl z_11_559 ?_
      refine x_lload (x := l7) rfl rfl ?_
      refine z_lmul rfl jkl_2 rfl (by omega) (fun v9 ev9 => ?_)
      refine z_ldivW rfl rfl rfl (by omega) (fun v10 ev10 => ?_)
      have fv10 := jfullL v10
      try rw [show (2 * l7.toInt) = v9.toInt from by omega] at D
      try rw [← ev10] at D
      refine z_l2iD rfl rfl (fun v11 ev11 => ?_)
      have fv11 := jfull v11
      try rw [← ev11] at D
      refine x_iret rfl rfl ?_
      exact hQ _ _ J Sm (D.symm.trans (show v11.toInt = v11.toInt from by omega)) EV
    ·
      rw [if_neg (by omega)] at D
      refine x_aloadn (x := 31) rfl rfl ?_
      refine z_getR (N := 13) (b := 32) 11 0 rfl f_11_10 rfl J rfl 3968 ⟨rfl, rfl⟩ rfl ?_
      refine z_getR (N := 20) (b := 33) 1 0 rfl f_11_126 rfl J rfl 4096 ⟨rfl, rfl⟩ rfl ?_
      refine x_iload (x := l11) rfl rfl ?_
      refine x_iconst (v := 1) rfl ki_1 ?_
      refine x_inv (N := m_X8_at) (As := [.int l11, .int 1]) (b := 33) (st := []) (dx9 := 1) (mc := 0) (ms := 0) (host := "") 8 rfl t_X8_at ⟨Or.inl q_11_171, i_X8_at.1, i_X8_at.2⟩ ⟨by decide, rfl⟩ (congrArg Prod.fst (J.1.1 33 (8, 4) rfl)) rfl (by decide) rfl rfl ⟨by decide, by decide⟩ (sf_X8_at_r33_c1d  hD J rfl  (fun v15 h ev15 J S12 X13 X14 => ?_))
      have Sm := jSm_tr rfl Sm S12
      try rw [X13] at D
      try rw [← X14] at D
      have EV := X14.trans EV
      show jX m_X11_guessedOf 4 0 0 94 [(0, .ref 31), (1, .int l1), (2, .int l2), (3, .int l3), (4, .int l4), (5, .int l5), (6, .int l6), (7, .long l7), (9, .long l9), (11, .int l11)] [.int v15] _ 0 0 _
      refine x_istore (lsx9 := [(12, .int v15), (0, .ref 31), (1, .int l1), (2, .int l2), (3, .int l3), (4, .int l4), (5, .int l5), (6, .int l6), (7, .long l7), (9, .long l9), (11, .int l11)]) rfl rfl rfl ?_
      refine x_iload (x := v15) rfl rfl ?_
      refine x_iload (x := l5) rfl rfl ?_
      refine x_iclt (tgt := 109) rfl rfl (ti_lt rfl rfl ⟨fun c16 => ?_, fun c16 => ?_⟩)
      ·
        rw [if_pos (by omega)] at D
        exact jX.sub (jsb_c rfl (jsb_c rfl (jsb_c rfl (jsb_c rfl (jsb_c rfl (jsb_c rfl (jsb_c rfl (jsb_c rfl (jsb_c rfl (jsb_c rfl (jsb_c rfl jsb_n))))))))))) (ct_X11_guessedOf_r31d_109 hD hQ ih l1 l2 l3 l4 l5 l6 l7 l9 l11 v15 h (jr_of rfl (by omega)) (jr_of rfl (by omega)) (jr_of rfl (by omega)) (jr_of rfl (by omega)) (jr_of rfl (by omega)) (jr_of rfl (by omega)) (jr_ofl rfl (by omega)) (jr_of rfl (by omega)) (jr_of rfl (by omega)) (by omega) (by omega) J Sm D EV)
      ·
        rw [if_neg (by omega)] at D
        refine x_iload (x := v15) rfl rfl ?_
        refine x_iloadn (x := l2) rfl rfl ?_
        refine x_iclt (tgt := 122) rfl rfl (ti_lt rfl rfl ⟨fun c17 => ?_, fun c17 => ?_⟩)
        ·
          rw [if_pos (by omega)] at D
          exact jX.sub (jsb_c rfl (jsb_c rfl (jsb_c rfl (jsb_c rfl (jsb_c rfl (jsb_c rfl (jsb_c rfl (jsb_c rfl (jsb_c rfl (jsb_c rfl (jsb_c rfl jsb_n))))))))))) (ct_X11_guessedOf_r31d_122 hD hQ ih l1 l2 l3 l4 l5 l6 l7 l9 l11 v15 h (jr_of rfl (by omega)) (jr_of rfl (by omega)) (jr_of rfl (by omega)) (jr_of rfl (by omega)) (jr_of rfl (by omega)) (jr_of rfl (by omega)) (jr_ofl rfl (by omega)) (jr_of rfl (by omega)) (jr_of rfl (by omega)) (by omega) (by omega) J Sm D EV)
        ·
          rw [if_neg (by omega)] at D
          exact jX.sub (jsb_c rfl (jsb_c rfl (jsb_c rfl (jsb_c rfl (jsb_c rfl (jsb_c rfl (jsb_c rfl (jsb_c rfl (jsb_c rfl (jsb_c rfl (jsb_c rfl jsb_n))))))))))) (ct_X11_guessedOf_r31d_109 hD hQ ih l1 l2 l3 l4 l5 l6 l7 l9 l11 v15 h (jr_of rfl (by omega)) (jr_of rfl (by omega)) (jr_of rfl (by omega)) (jr_of rfl (by omega)) (jr_of rfl (by omega)) (jr_of rfl (by omega)) (jr_ofl rfl (by omega)) (jr_of rfl (by omega)) (jr_of rfl (by omega)) (by omega) (by omega) J Sm D EV)
set_option maxRecDepth 100000 in
set_option maxHeartbeats 4000000 in
theorem sf_X11_guessedOf_r31d {Dy : jH → Prop} {h : jH} {Q : Option Value → jH → Prop} {dr : Int} {a1 : Int32} {a2 : Int32} {a3 : Int32} {a4 : Int32} (y1 : 0 ≤ a1.toInt ∧ a1.toInt ≤ 5) (y2 : 0 ≤ a2.toInt ∧ a2.toInt ≤ 146399) (y3 : 0 ≤ a3.toInt ∧ a3.toInt ≤ 146399) (y4 : 0 ≤ a4.toInt ∧ a4.toInt ≤ 146399) (hD : jDk Dy) (J : jJ jSgX Dy h) (D : d_X11_guessedOf_r31d a1.toInt a2.toInt a3.toInt a4.toInt (vw h) = dr) (hQ : ∀ (v : Int32) hx9, jJ jSgX Dy hx9 → jSm fp_X11_guessedOf_r31d h hx9 → dr = v.toInt → vw hx9 = vw h → Q (some (.int v)) hx9) : jC m_X11_guessedOf 4 0 0 [.ref 31, .int a1, .int a2, .int a3, .int a4] h Q := by
  refine jC.of rfl k_X11_guessedOf rfl ?_
  have Sm := jSm_rf fp_X11_guessedOf_r31d h
  show jX m_X11_guessedOf 4 0 0 0 [(0, .ref 31), (1, .int a1), (2, .int a2), (3, .int a3), (4, .int a4)] [] _ 0 0 _
  unfold d_X11_guessedOf_r31d at D
  have EV : vw h = vw h := rfl
  refine x_iconst (v := 0) rfl ki_0 ?_
  refine x_iloadn (x := a2) rfl rfl ?_
  refine x_sipush (v := 3660) rfl ks_3660 ?_
  refine z_isub rfl rfl jk_3660 (by omega) (fun v1 ev1 => ?_)
  refine z_mmax rfl q_11_193 (by decide) rfl jk_0 rfl (fun v2 ev2 => ?_)
  refine x_istore (lsx9 := [(5, .int v2), (0, .ref 31), (1, .int a1), (2, .int a2), (3, .int a3), (4, .int a4)]) rfl rfl rfl ?_
  refine x_ldc (v := 146399) rfl z_11_233 ?_
  refine x_iloadn (x := a3) rfl rfl ?_
  refine x_sipush (v := 3660) rfl ks_3660 ?_
  refine z_iadd rfl rfl jk_3660 (by omega) (fun v3 ev3 => ?_)
  refine z_mmin rfl q_11_553 (by decide) rfl jk_146399 rfl (fun v4 ev4 => ?_)
  refine x_istore (lsx9 := [(6, .int v4), (5, .int v2), (0, .ref 31), (1, .int a1), (2, .int a2), (3, .int a3), (4, .int a4)]) rfl rfl rfl ?_
  refine x_aloadn (x := 31) rfl rfl ?_
  refine x_iloadn (x := a1) rfl rfl ?_
  refine x_iload (x := v2) rfl rfl ?_
  refine x_iloadn (x := a2) rfl rfl ?_
  refine x_iconst (v := 1) rfl ki_1 ?_
  refine z_isub rfl rfl jk_1 (by omega) (fun v5 ev5 => ?_)
  refine x_iload (x := a4) rfl rfl ?_
  try rw [show (max 0 (a2.toInt - 3660)) = v2.toInt from by omega] at D
  try rw [show (a2.toInt - 1) = v5.toInt from by omega] at D
  refine x_inv (N := m_X11_wholeDays) (As := [.int a1, .int v2, .int v5, .int a4]) (b := 31) (st := []) (dx9 := 3) (mc := 0) (ms := 0) (host := "") 11 rfl t_X11_wholeDays ⟨Or.inl q_11_556, i_X11_wholeDays.1, i_X11_wholeDays.2⟩ ⟨by decide, rfl⟩ (congrArg Prod.fst (J.1.1 31 (11, 13) rfl)) rfl (by decide) rfl rfl ⟨by decide, by decide⟩ (sf_X11_wholeDays_r31d (jr_of rfl (by omega)) (jr_of rfl (by omega)) (jr_of rfl (by omega)) (jr_of rfl (by omega)) hD J rfl  (fun v9 h J S6 X7 X8 => ?_))
  have ev9 := jfull v9
  have Sm := jSm_tr rfl Sm S6
  try rw [X7] at D
  try rw [← X8] at D
  have EV := X8.trans EV
  show jX m_X11_guessedOf 4 0 0 35 [(6, .int v4), (5, .int v2), (0, .ref 31), (1, .int a1), (2, .int a2), (3, .int a3), (4, .int a4)] [.int v9] _ 0 0 _
  refine x_aloadn (x := 31) rfl rfl ?_
  refine x_iloadn (x := a1) rfl rfl ?_
  refine x_iloadn (x := a3) rfl rfl ?_
  refine x_iconst (v := 1) rfl ki_1 ?_
  refine z_iadd rfl rfl jk_1 (by omega) (fun v10 ev10 => ?_)
  refine x_iload (x := v4) rfl rfl ?_
  refine x_iload (x := a4) rfl rfl ?_
  try rw [show (a3.toInt + 1) = v10.toInt from by omega] at D
  try rw [show (min 146399 (a3.toInt + 3660)) = v4.toInt from by omega] at D
  refine x_inv (N := m_X11_wholeDays) (As := [.int a1, .int v10, .int v4, .int a4]) (b := 31) (st := [.int v9]) (dx9 := 3) (mc := 0) (ms := 0) (host := "") 11 rfl t_X11_wholeDays ⟨Or.inl q_11_556, i_X11_wholeDays.1, i_X11_wholeDays.2⟩ ⟨by decide, rfl⟩ (congrArg Prod.fst (J.1.1 31 (11, 13) rfl)) rfl (by decide) rfl rfl ⟨by decide, by decide⟩ (sf_X11_wholeDays_r31d (jr_of rfl (by omega)) (jr_of rfl (by omega)) (jr_of rfl (by omega)) (jr_of rfl (by omega)) hD J rfl  (fun v14 h J S11 X12 X13 => ?_))
  have ev14 := jfull v14
  have Sm := jSm_tr rfl Sm S11
  try rw [X12] at D
  try rw [← X13] at D
  have EV := X13.trans EV
  show jX m_X11_guessedOf 4 0 0 47 [(6, .int v4), (5, .int v2), (0, .ref 31), (1, .int a1), (2, .int a2), (3, .int a3), (4, .int a4)] [.int v14, .int v9] _ 0 0 _
  refine z_iaddW rfl rfl rfl (fun v15 ev15 => ?_)
  have fv15 := jfull v15
  try rw [← ev15] at D
  refine z_i2l rfl rfl (fun v16 ev16 => ?_)
  refine x_lstore (lsx9 := [(7, .long v16), (6, .int v4), (5, .int v2), (0, .ref 31), (1, .int a1), (2, .int a2), (3, .int a3), (4, .int a4)]) rfl rfl rfl ?_
  refine x_lload (x := v16) rfl rfl ?_
  refine x_lconst (v := 0) rfl kl_0 ?_
  refine z_lcmp rfl rfl jkl_0 (fun v17 ev17 => ?_)
  refine x_ifne (tgt := 60) rfl rfl (ti_ne rfl jk_0 ⟨fun c18 => ?_, fun c18 => ?_⟩)
  ·
    rw [if_neg (by omega)] at D
    refine x_lconst (v := 0) rfl kl_0 ?_
    refine x_lstore (lsx9 := [(9, .long 0), (7, .long v16), (6, .int v4), (5, .int v2), (0, .ref 31), (1, .int a1), (2, .int a2), (3, .int a3), (4, .int a4)]) rfl rfl rfl ?_
    refine x_iconst (v := 0) rfl ki_0 ?_
    refine x_istore (lsx9 := [(11, .int 0), (9, .long 0), (7, .long v16), (6, .int v4), (5, .int v2), (0, .ref 31), (1, .int a1), (2, .int a2), (3, .int a3), (4, .int a4)]) rfl rfl rfl ?_
    try rw [show v15.toInt = v16.toInt from by omega] at D
    exact jX.sub (jsb_c rfl (jsb_c rfl (jsb_c rfl (jsb_c rfl (jsb_c rfl (jsb_c rfl (jsb_c rfl (jsb_c rfl (jsb_c rfl (jsb_c rfl jsb_n)))))))))) (ct_X11_guessedOf_r31d_66 hD hQ  201 a1 a2 a3 a4 v2 v4 v16 0 0 h (by have := jk_0; omega) (jr_of rfl (by omega)) (jr_of rfl (by omega)) (jr_of rfl (by omega)) (jr_of rfl (by omega)) (jr_of rfl (by omega)) (jr_of rfl (by omega)) (jr_ofl rfl (by omega)) (jr_of jk_0 (by omega)) (by omega) J Sm (by rw [jkl_0, jk_0]; exact D) EV)
  ·
    rw [if_pos (by omega)] at D
    refine x_iconst (v := 0) rfl ki_0 ?_
    refine x_iret rfl rfl ?_
    exact hQ _ _ J Sm (D.symm.trans (show 0 = (0 : Int32).toInt from by have := jk_0; omega)) EV
def fp_X11_leastOf_r31d : jFp := [(85, 0, 4)]
set_option maxRecDepth 100000 in
set_option maxHeartbeats 4000000 in
theorem ct_X11_leastOf_r31d_158 {Dy : jH → Prop} {h0 : jH} {Q : Option Value → jH → Prop} {dr : (Int × jW)} (hD : jDk Dy) (hQ : ∀ (v : Int32) hx9, jJ jSgX Dy hx9 → jSm fp_X11_leastOf_r31d h0 hx9 → dr.1 = v.toInt → dr.2 = vw hx9 → Q (some (.int v)) hx9) : ∀ (l6 : Int32) (h : jH), jJ jSgX Dy h → jSm fp_X11_leastOf_r31d h0 h → d_X11_leastOf_r31d_158  l6.toInt (vw h) = dr → jX m_X11_leastOf 2 0 0 158 [(6, .int l6)] [] h 0 0 Q := by
  intro l6 h    J Sm D
  have el6 := jfull l6
  unfold d_X11_leastOf_r31d_158 at D
  refine x_iload (x := l6) rfl rfl ?_
  refine x_iret rfl rfl ?_
  exact hQ _ _ J Sm ((congrArg Prod.fst D).symm.trans (show l6.toInt = l6.toInt from by omega)) (congrArg Prod.snd D).symm
set_option maxRecDepth 100000 in
set_option maxHeartbeats 4000000 in
theorem ct_X11_leastOf_r31d_152 {Dy : jH → Prop} {h0 : jH} {Q : Option Value → jH → Prop} {dr : (Int × jW)} {K39 : Int → Int → Int → Int → Int → Int → jW → (Int × jW)} {R39 : Int} (hD : jDk Dy) (hQ : ∀ (v : Int32) hx9, jJ jSgX Dy hx9 → jSm fp_X11_leastOf_r31d h0 hx9 → dr.1 = v.toInt → dr.2 = vw hx9 → Q (some (.int v)) hx9) (k39 : ∀ (l2 : Int32) (l3 : Int32) (l4 : Int32) (l5 : Int32) (l6 : Int32) (l7 : Int32) (h : jH), 600 - l7.toInt < R39 → 0 ≤ l2.toInt ∧ l2.toInt ≤ 146399 → 0 ≤ l3.toInt ∧ l3.toInt ≤ 146399 → 0 ≤ l4.toInt ∧ l4.toInt ≤ 5 → l4.toInt % 5 = 0 → 0 ≤ l5.toInt ∧ l5.toInt ≤ 2 → l5.toInt % 2 = 0 → 0 ≤ l7.toInt ∧ l7.toInt ≤ 600 → jJ jSgX Dy h → jSm fp_X11_leastOf_r31d h0 h → K39 l2.toInt l3.toInt l4.toInt l5.toInt l6.toInt l7.toInt (vw h) = dr → jX m_X11_leastOf 2 0 0 39 [(0, .ref 31), (2, .int l2), (3, .int l3), (4, .int l4), (5, .int l5), (6, .int l6), (7, .int l7)] [] h 0 0 Q) : ∀ (l2 : Int32) (l3 : Int32) (l4 : Int32) (l5 : Int32) (l6 : Int32) (l7 : Int32) (h : jH), 0 ≤ l2.toInt ∧ l2.toInt ≤ 146399 → 0 ≤ l3.toInt ∧ l3.toInt ≤ 146399 → 0 ≤ l4.toInt ∧ l4.toInt ≤ 5 → l4.toInt % 5 = 0 → 0 ≤ l5.toInt ∧ l5.toInt ≤ 2 → l5.toInt % 2 = 0 → 0 ≤ l7.toInt ∧ l7.toInt ≤ 599 → 600 - l7.toInt ≤ R39 → jJ jSgX Dy h → jSm fp_X11_leastOf_r31d h0 h → d_X11_leastOf_r31d_152 K39  l2.toInt l3.toInt l4.toInt l5.toInt l6.toInt l7.toInt (vw h) = dr → jX m_X11_leastOf 2 0 0 152 [(0, .ref 31), (2, .int l2), (3, .int l3), (4, .int l4), (5, .int l5), (6, .int l6), (7, .int l7)] [] h 0 0 Q := by
  intro l2 l3 l4 l5 l6 l7 h y0 y1 y2 y3 y4 y5 y6  m39 J Sm D
  have el6 := jfull l6
  unfold d_X11_leastOf_r31d_152 at D
  refine z_iinc (x := l7) (lsx9 := fun v1 => [(7, .int v1), (0, .ref 31), (2, .int l2), (3, .int l3), (4, .int l4), (5, .int l5), (6, .int l6)]) rfl rfl rfl jko_1 (by omega) rfl (fun _ => rfl) (fun v1 ev1 => ?_)
  refine x_goto (tgt := 39) rfl rfl ?_
  try rw [show (l7.toInt + 1) = v1.toInt from by omega] at D
  exact jX.sub (jsb_c rfl (jsb_c rfl (jsb_c rfl (jsb_c rfl (jsb_c rfl (jsb_c rfl (jsb_c rfl jsb_n))))))) (k39 l2 l3 l4 l5 l6 v1 h (by omega) (jr_of rfl (by omega)) (jr_of rfl (by omega)) (jr_of rfl (by omega)) (jr_mod rfl (by omega)) (jr_of rfl (by omega)) (jr_mod rfl (by omega)) (jr_of rfl (by omega)) J Sm D)
set_option maxRecDepth 100000 in
set_option maxHeartbeats 4000000 in
theorem ct_X11_leastOf_r31d_39 {Dy : jH → Prop} {h0 : jH} {Q : Option Value → jH → Prop} {dr : (Int × jW)} (hD : jDk Dy) (hQ : ∀ (v : Int32) hx9, jJ jSgX Dy hx9 → jSm fp_X11_leastOf_r31d h0 hx9 → dr.1 = v.toInt → dr.2 = vw hx9 → Q (some (.int v)) hx9) : ∀ r : Nat, ∀ (l2 : Int32) (l3 : Int32) (l4 : Int32) (l5 : Int32) (l6 : Int32) (l7 : Int32) (h : jH), 600 - l7.toInt < (r : Int) → 0 ≤ l2.toInt ∧ l2.toInt ≤ 146399 → 0 ≤ l3.toInt ∧ l3.toInt ≤ 146399 → 0 ≤ l4.toInt ∧ l4.toInt ≤ 5 → l4.toInt % 5 = 0 → 0 ≤ l5.toInt ∧ l5.toInt ≤ 2 → l5.toInt % 2 = 0 → 0 ≤ l7.toInt ∧ l7.toInt ≤ 600 → jJ jSgX Dy h → jSm fp_X11_leastOf_r31d h0 h → d_X11_leastOf_r31d_39 r l2.toInt l3.toInt l4.toInt l5.toInt l6.toInt l7.toInt (vw h) = dr → jX m_X11_leastOf 2 0 0 39 [(0, .ref 31), (2, .int l2), (3, .int l3), (4, .int l4), (5, .int l5), (6, .int l6), (7, .int l7)] [] h 0 0 Q := by
  intro r
  induction r with
  | zero =>
    intro l2 l3 l4 l5 l6 l7 h hm y0 y1 y2 y3 y4 y5 y6   J Sm D
    exfalso
    have el6 := jfull l6
    omega
  | succ r ih =>
    intro l2 l3 l4 l5 l6 l7 h hm y0 y1 y2 y3 y4 y5 y6   J Sm D
    have el6 := jfull l6
    rw [d_X11_leastOf_r31d_39.eq_2] at D
    refine x_iload (x := l7) rfl rfl ?_
    refine x_aloadn (x := 31) rfl rfl ?_
    refine z_getR (N := 13) (b := 32) 11 0 rfl f_11_10 rfl J rfl 3968 ⟨rfl, rfl⟩ rfl ?_
    refine z_getR (N := 20) (b := 33) 1 0 rfl f_11_126 rfl J rfl 4096 ⟨rfl, rfl⟩ rfl ?_
    refine z_getI (N := 4) 8 3 rfl f_11_142 rfl J rfl sg_33_3_4_1_0_1 (fun v1 qv1 ev1 => ?_)
    try rw [vrf qv1] at D
    refine x_iconst (v := 3) rfl ki_3 ?_
    refine z_imul rfl rfl jk_3 (by omega) (fun v2 ev2 => ?_)
    refine x_icge (tgt := 158) rfl rfl (ti_ge rfl rfl ⟨fun c3 => ?_, fun c3 => ?_⟩)
    ·
      rw [if_pos (by omega)] at D
      exact jX.sub (jsb_c rfl jsb_n) (ct_X11_leastOf_r31d_158 hD hQ  l6 h J Sm D)
    ·
      rw [if_neg (by omega)] at D
      refine x_iload (x := l7) rfl rfl ?_
      refine x_sipush (v := 600) rfl ks_600 ?_
      refine x_icge (tgt := 158) rfl rfl (ti_ge rfl jk_600 (br_f (by omega) ?_))
      refine x_aloadn (x := 31) rfl rfl ?_
      refine z_getR (N := 13) (b := 78) 11 4 rfl f_11_41 rfl J rfl 3972 ⟨rfl, rfl⟩ rfl ?_
      refine z_getR (N := 16) (b := 82) 7 10 rfl f_11_537 rfl J rfl 9994 ⟨rfl, rfl⟩ rfl ?_
      refine x_iload (x := l7) rfl rfl ?_
      refine z_iald (N := 600) rfl J rfl sg_82_0_600_1_0_1 rfl (by omega) (fun v4 qv4 ev4 => ?_)
      try rw [vrd qv4 (show l7.toInt = l7.toInt from by omega)] at D
      refine x_iload (x := l7) rfl rfl ?_
      refine x_icne (tgt := 152) rfl rfl (ti_ne rfl rfl ⟨fun c5 => ?_, fun c5 => ?_⟩)
      ·
        rw [if_neg (by omega)] at D
        exact jX.sub (jsb_c rfl (jsb_c rfl (jsb_c rfl (jsb_c rfl (jsb_c rfl (jsb_c rfl (jsb_c rfl jsb_n))))))) (ct_X11_leastOf_r31d_152 hD hQ ih l2 l3 l4 l5 l6 l7 h (jr_of rfl (by omega)) (jr_of rfl (by omega)) (jr_of rfl (by omega)) (jr_mod rfl (by omega)) (jr_of rfl (by omega)) (jr_mod rfl (by omega)) (jr_of rfl (by omega)) (by omega) J Sm D)
      ·
        rw [if_pos (by omega)] at D
        refine x_aloadn (x := 31) rfl rfl ?_
        refine z_getR (N := 13) (b := 78) 11 4 rfl f_11_41 rfl J rfl 3972 ⟨rfl, rfl⟩ rfl ?_
        refine x_iload (x := l7) rfl rfl ?_
        refine x_iload (x := l4) rfl rfl ?_
        refine x_ldc (v := 146399) rfl z_11_233 ?_
        refine x_inv (N := m_X7_hasBy) (As := [.int l7, .int l4, .int 146399]) (b := 78) (st := []) (dx9 := 1) (mc := 0) (ms := 0) (host := "") 7 rfl t_X7_hasBy ⟨Or.inl q_11_540, i_X7_hasBy.1, i_X7_hasBy.2⟩ ⟨by decide, rfl⟩ (congrArg Prod.fst (J.1.1 78 (7, 16) rfl)) rfl (by decide) rfl rfl ⟨by decide, by decide⟩ (sf_X7_hasBy_r78d (jr_of rfl (by omega)) (jr_of rfl (by omega)) (jr_of jk_146399 (by omega)) hD J rfl  (fun v9 h ev9 J S6 X7 X8 => ?_))
        have Sm := jSm_tr rfl Sm S6
        try rw [jk_146399] at X7
        try rw [X7] at D
        try rw [← X8] at D
        show jX m_X11_leastOf 2 0 0 92 [(0, .ref 31), (2, .int l2), (3, .int l3), (4, .int l4), (5, .int l5), (6, .int l6), (7, .int l7)] [.int v9] _ 0 0 _
        refine x_ifne (tgt := 152) rfl rfl (ti_ne rfl jk_0 ⟨fun c10 => ?_, fun c10 => ?_⟩)
        ·
          rw [if_neg (by omega)] at D
          exact jX.sub (jsb_c rfl (jsb_c rfl (jsb_c rfl (jsb_c rfl (jsb_c rfl (jsb_c rfl (jsb_c rfl jsb_n))))))) (ct_X11_leastOf_r31d_152 hD hQ ih l2 l3 l4 l5 l6 l7 h (jr_of rfl (by omega)) (jr_of rfl (by omega)) (jr_of rfl (by omega)) (jr_mod rfl (by omega)) (jr_of rfl (by omega)) (jr_mod rfl (by omega)) (jr_of rfl (by omega)) (by omega) J Sm D)
        ·
          rw [if_pos (by omega)] at D
          refine x_aloadn (x := 31) rfl rfl ?_
          refine z_getR (N := 13) (b := 78) 11 4 rfl f_11_41 rfl J rfl 3972 ⟨rfl, rfl⟩ rfl ?_
          refine x_iload (x := l7) rfl rfl ?_
          refine x_inv (N := m_X7_readSpan) (As := [.int l7]) (b := 78) (st := []) (dx9 := 1) (mc := 0) (ms := 0) (host := "") 7 rfl t_X7_readSpan ⟨Or.inl q_11_264, i_X7_readSpan.1, i_X7_readSpan.2⟩ ⟨by decide, rfl⟩ (congrArg Prod.fst (J.1.1 78 (7, 16) rfl)) rfl (by decide) rfl rfl ⟨by decide, by decide⟩ (sf_X7_readSpan_r78d (jr_of rfl (by omega)) hD J rfl  (fun h J S11 X12 => ?_))
          have Sm := jSm_tr rfl Sm S11
          rw [X12] at D
          show jX m_X11_leastOf 2 0 0 104 [(0, .ref 31), (2, .int l2), (3, .int l3), (4, .int l4), (5, .int l5), (6, .int l6), (7, .int l7)] [] _ 0 0 _
          refine x_aloadn (x := 31) rfl rfl ?_
          refine z_getR (N := 13) (b := 78) 11 4 rfl f_11_41 rfl J rfl 3972 ⟨rfl, rfl⟩ rfl ?_
          refine z_getR (N := 16) (b := 85) 7 14 rfl f_11_267 rfl J rfl 9998 ⟨rfl, rfl⟩ rfl ?_
          refine x_iload (x := l5) rfl rfl ?_
          refine z_iald0 (N := 4) rfl J rfl rfl (by omega) (fun v13 qv13 => ?_)
          have ev13 := jfull v13
          try rw [vrd qv13 (show l5.toInt = l5.toInt from by omega)] at D
          refine x_istore (lsx9 := [(8, .int v13), (0, .ref 31), (2, .int l2), (3, .int l3), (4, .int l4), (5, .int l5), (6, .int l6), (7, .int l7)]) rfl rfl rfl ?_
          refine x_aloadn (x := 31) rfl rfl ?_
          refine z_getR (N := 13) (b := 78) 11 4 rfl f_11_41 rfl J rfl 3972 ⟨rfl, rfl⟩ rfl ?_
          refine z_getR (N := 16) (b := 85) 7 14 rfl f_11_267 rfl J rfl 9998 ⟨rfl, rfl⟩ rfl ?_
          refine x_iload (x := l5) rfl rfl ?_
          refine x_iconst (v := 1) rfl ki_1 ?_
          refine z_iadd rfl rfl jk_1 (by omega) (fun v14 ev14 => ?_)
          refine z_iald0 (N := 4) rfl J rfl rfl (by omega) (fun v15 qv15 => ?_)
          have ev15 := jfull v15
          try rw [vrd qv15 (show (l5.toInt + 1) = v14.toInt from by omega)] at D
          refine x_istore (lsx9 := [(9, .int v15), (8, .int v13), (0, .ref 31), (2, .int l2), (3, .int l3), (4, .int l4), (5, .int l5), (6, .int l6), (7, .int l7)]) rfl rfl rfl ?_
          refine x_iload (x := v13) rfl rfl ?_
          refine x_iloadn (x := l2) rfl rfl ?_
          refine x_iclt (tgt := 152) rfl rfl (ti_lt rfl rfl ⟨fun c16 => ?_, fun c16 => ?_⟩)
          ·
            rw [if_pos (by omega)] at D
            exact jX.sub (jsb_c rfl (jsb_c rfl (jsb_c rfl (jsb_c rfl (jsb_c rfl (jsb_c rfl (jsb_c rfl jsb_n))))))) (ct_X11_leastOf_r31d_152 hD hQ ih l2 l3 l4 l5 l6 l7 h (jr_of rfl (by omega)) (jr_of rfl (by omega)) (jr_of rfl (by omega)) (jr_mod rfl (by omega)) (jr_of rfl (by omega)) (jr_mod rfl (by omega)) (jr_of rfl (by omega)) (by omega) J Sm D)
          ·
            rw [if_neg (by omega)] at D
            refine x_iload (x := v15) rfl rfl ?_
            refine x_iloadn (x := l3) rfl rfl ?_
            refine x_icgt (tgt := 152) rfl rfl (ti_gt rfl rfl ⟨fun c17 => ?_, fun c17 => ?_⟩)
            ·
              rw [if_pos (by omega)] at D
              exact jX.sub (jsb_c rfl (jsb_c rfl (jsb_c rfl (jsb_c rfl (jsb_c rfl (jsb_c rfl (jsb_c rfl jsb_n))))))) (ct_X11_leastOf_r31d_152 hD hQ ih l2 l3 l4 l5 l6 l7 h (jr_of rfl (by omega)) (jr_of rfl (by omega)) (jr_of rfl (by omega)) (jr_mod rfl (by omega)) (jr_of rfl (by omega)) (jr_mod rfl (by omega)) (jr_of rfl (by omega)) (by omega) J Sm D)
            ·
              rw [if_neg (by omega)] at D
              refine x_iload (x := v13) rfl rfl ?_
              refine x_iload (x := v15) rfl rfl ?_
              refine x_icgt (tgt := 152) rfl rfl (ti_gt rfl rfl ⟨fun c18 => ?_, fun c18 => ?_⟩)
              ·
                rw [if_pos (by omega)] at D
                exact jX.sub (jsb_c rfl (jsb_c rfl (jsb_c rfl (jsb_c rfl (jsb_c rfl (jsb_c rfl (jsb_c rfl jsb_n))))))) (ct_X11_leastOf_r31d_152 hD hQ ih l2 l3 l4 l5 l6 l7 h (jr_of rfl (by omega)) (jr_of rfl (by omega)) (jr_of rfl (by omega)) (jr_mod rfl (by omega)) (jr_of rfl (by omega)) (jr_mod rfl (by omega)) (jr_of rfl (by omega)) (by omega) J Sm D)
              ·
                rw [if_neg (by omega)] at D
                refine z_iincW (x := l6) (lsx9 := fun v19 => [(6, .int v19), (9, .int v15), (8, .int v13), (0, .ref 31), (2, .int l2), (3, .int l3), (4, .int l4), (5, .int l5), (7, .int l7)]) rfl rfl rfl jko_1 rfl (fun _ => rfl) (fun v19 ev19 => ?_)
                have fv19 := jfull v19
                try rw [← ev19] at D
                exact jX.sub (jsb_c rfl (jsb_c rfl (jsb_c rfl (jsb_c rfl (jsb_c rfl (jsb_c rfl (jsb_c rfl jsb_n))))))) (ct_X11_leastOf_r31d_152 hD hQ ih l2 l3 l4 l5 v19 l7 h (jr_of rfl (by omega)) (jr_of rfl (by omega)) (jr_of rfl (by omega)) (jr_mod rfl (by omega)) (jr_of rfl (by omega)) (jr_mod rfl (by omega)) (jr_of rfl (by omega)) (by omega) J Sm D)
set_option maxRecDepth 100000 in
set_option maxHeartbeats 4000000 in
theorem ct_X11_leastOf_r31d_200031 {Dy : jH → Prop} {h0 : jH} {Q : Option Value → jH → Prop} {dr : (Int × jW)} (hD : jDk Dy) (hQ : ∀ (v : Int32) hx9, jJ jSgX Dy hx9 → jSm fp_X11_leastOf_r31d h0 hx9 → dr.1 = v.toInt → dr.2 = vw hx9 → Q (some (.int v)) hx9) : ∀ (l2 : Int32) (l3 : Int32) (h : jH), 0 ≤ l2.toInt ∧ l2.toInt ≤ 146399 → 0 ≤ l3.toInt ∧ l3.toInt ≤ 146399 → jJ jSgX Dy h → jSm fp_X11_leastOf_r31d h0 h → d_X11_leastOf_r31d_200031  l2.toInt l3.toInt (vw h) = dr → jX m_X11_leastOf 2 0 0 31 [(0, .ref 31), (2, .int l2), (3, .int l3), (4, .int 0)] [.int 0] h 0 0 Q := by
  intro l2 l3 h y0 y1   J Sm D
  unfold d_X11_leastOf_r31d_200031 at D
  refine x_istore (lsx9 := [(5, .int 0), (0, .ref 31), (2, .int l2), (3, .int l3), (4, .int 0)]) rfl rfl rfl ?_
  refine x_iconst (v := 0) rfl ki_0 ?_
  refine x_istore (lsx9 := [(6, .int 0), (5, .int 0), (0, .ref 31), (2, .int l2), (3, .int l3), (4, .int 0)]) rfl rfl rfl ?_
  refine x_iconst (v := 0) rfl ki_0 ?_
  refine x_istore (lsx9 := [(7, .int 0), (6, .int 0), (5, .int 0), (0, .ref 31), (2, .int l2), (3, .int l3), (4, .int 0)]) rfl rfl rfl ?_
  exact jX.sub (jsb_c rfl (jsb_c rfl (jsb_c rfl (jsb_c rfl (jsb_c rfl (jsb_c rfl (jsb_c rfl jsb_n))))))) (ct_X11_leastOf_r31d_39 hD hQ  601 l2 l3 0 0 0 0 h (by have := jk_0; omega) (jr_of rfl (by omega)) (jr_of rfl (by omega)) (jr_of jk_0 (by omega)) (jr_mod jk_0 (by omega)) (jr_of jk_0 (by omega)) (jr_mod jk_0 (by omega)) (jr_of jk_0 (by omega)) J Sm (by rw [jk_0]; exact D))
set_option maxRecDepth 100000 in
set_option maxHeartbeats 4000000 in
theorem ct_X11_leastOf_r31d_400031 {Dy : jH → Prop} {h0 : jH} {Q : Option Value → jH → Prop} {dr : (Int × jW)} (hD : jDk Dy) (hQ : ∀ (v : Int32) hx9, jJ jSgX Dy hx9 → jSm fp_X11_leastOf_r31d h0 hx9 → dr.1 = v.toInt → dr.2 = vw hx9 → Q (some (.int v)) hx9) : ∀ (l2 : Int32) (l3 : Int32) (h : jH), 0 ≤ l2.toInt ∧ l2.toInt ≤ 146399 → 0 ≤ l3.toInt ∧ l3.toInt ≤ 146399 → jJ jSgX Dy h → jSm fp_X11_leastOf_r31d h0 h → d_X11_leastOf_r31d_400031  l2.toInt l3.toInt (vw h) = dr → jX m_X11_leastOf 2 0 0 31 [(0, .ref 31), (2, .int l2), (3, .int l3), (4, .int 5)] [.int 2] h 0 0 Q := by
  intro l2 l3 h y0 y1   J Sm D
  unfold d_X11_leastOf_r31d_400031 at D
  refine x_istore (lsx9 := [(5, .int 2), (0, .ref 31), (2, .int l2), (3, .int l3), (4, .int 5)]) rfl rfl rfl ?_
  refine x_iconst (v := 0) rfl ki_0 ?_
  refine x_istore (lsx9 := [(6, .int 0), (5, .int 2), (0, .ref 31), (2, .int l2), (3, .int l3), (4, .int 5)]) rfl rfl rfl ?_
  refine x_iconst (v := 0) rfl ki_0 ?_
  refine x_istore (lsx9 := [(7, .int 0), (6, .int 0), (5, .int 2), (0, .ref 31), (2, .int l2), (3, .int l3), (4, .int 5)]) rfl rfl rfl ?_
  exact jX.sub (jsb_c rfl (jsb_c rfl (jsb_c rfl (jsb_c rfl (jsb_c rfl (jsb_c rfl (jsb_c rfl jsb_n))))))) (ct_X11_leastOf_r31d_39 hD hQ  601 l2 l3 5 2 0 0 h (by have := jk_0; omega) (jr_of rfl (by omega)) (jr_of rfl (by omega)) (jr_of jk_5 (by omega)) (jr_mod jk_5 (by omega)) (jr_of jk_2 (by omega)) (jr_mod jk_2 (by omega)) (jr_of jk_0 (by omega)) J Sm (by rw [jk_5, jk_2, jk_0]; exact D))
set_option maxRecDepth 100000 in
set_option maxHeartbeats 4000000 in
theorem ct_X11_leastOf_r31d_700020 {Dy : jH → Prop} {h0 : jH} {Q : Option Value → jH → Prop} {dr : (Int × jW)} (hD : jDk Dy) (hQ : ∀ (v : Int32) hx9, jJ jSgX Dy hx9 → jSm fp_X11_leastOf_r31d h0 hx9 → dr.1 = v.toInt → dr.2 = vw hx9 → Q (some (.int v)) hx9) : ∀ (l1 : Int32) (l2 : Int32) (l3 : Int32) (h : jH), 1 ≤ l1.toInt ∧ l1.toInt ≤ 2 → 0 ≤ l2.toInt ∧ l2.toInt ≤ 146399 → 0 ≤ l3.toInt ∧ l3.toInt ≤ 146399 → l1.toInt ≠ 0 → jJ jSgX Dy h → jSm fp_X11_leastOf_r31d h0 h → d_X11_leastOf_r31d_700020  l1.toInt l2.toInt l3.toInt (vw h) = dr → jX m_X11_leastOf 2 0 0 20 [(0, .ref 31), (1, .int l1), (2, .int l2), (3, .int l3)] [.int 5] h 0 0 Q := by
  intro l1 l2 l3 h y0 y1 y2 y3   J Sm D
  unfold d_X11_leastOf_r31d_700020 at D
  refine x_istore (lsx9 := [(4, .int 5), (0, .ref 31), (1, .int l1), (2, .int l2), (3, .int l3)]) rfl rfl rfl ?_
  refine x_iloadn (x := l1) rfl rfl ?_
  refine x_ifne (tgt := 30) rfl rfl (ti_ne rfl jk_0 (bn_t (by omega) ?_))
  refine x_iconst (v := 2) rfl ki_2 ?_
  exact jX.sub (jsb_c rfl (jsb_c rfl (jsb_c rfl (jsb_c rfl jsb_n)))) (ct_X11_leastOf_r31d_400031 hD hQ  l2 l3 h (jr_of rfl (by omega)) (jr_of rfl (by omega)) J Sm D)
set_option maxRecDepth 100000 in
set_option maxHeartbeats 4000000 in
theorem ct_X11_leastOf_r31d_200020 {Dy : jH → Prop} {h0 : jH} {Q : Option Value → jH → Prop} {dr : (Int × jW)} (hD : jDk Dy) (hQ : ∀ (v : Int32) hx9, jJ jSgX Dy hx9 → jSm fp_X11_leastOf_r31d h0 hx9 → dr.1 = v.toInt → dr.2 = vw hx9 → Q (some (.int v)) hx9) : ∀ (l1 : Int32) (l2 : Int32) (l3 : Int32) (h : jH), 0 ≤ l1.toInt ∧ l1.toInt ≤ 0 → 0 ≤ l2.toInt ∧ l2.toInt ≤ 146399 → 0 ≤ l3.toInt ∧ l3.toInt ≤ 146399 → jJ jSgX Dy h → jSm fp_X11_leastOf_r31d h0 h → d_X11_leastOf_r31d_200020  l1.toInt l2.toInt l3.toInt (vw h) = dr → jX m_X11_leastOf 2 0 0 20 [(0, .ref 31), (1, .int l1), (2, .int l2), (3, .int l3)] [.int 0] h 0 0 Q := by
  intro l1 l2 l3 h y0 y1 y2   J Sm D
  unfold d_X11_leastOf_r31d_200020 at D
  refine x_istore (lsx9 := [(4, .int 0), (0, .ref 31), (1, .int l1), (2, .int l2), (3, .int l3)]) rfl rfl rfl ?_
  refine x_iloadn (x := l1) rfl rfl ?_
  refine x_ifne (tgt := 30) rfl rfl (ti_ne rfl jk_0 (bn_f (by omega) ?_))
  refine x_iconst (v := 0) rfl ki_0 ?_
  refine x_goto (tgt := 31) rfl rfl ?_
  exact jX.sub (jsb_c rfl (jsb_c rfl (jsb_c rfl (jsb_c rfl jsb_n)))) (ct_X11_leastOf_r31d_200031 hD hQ  l2 l3 h (jr_of rfl (by omega)) (jr_of rfl (by omega)) J Sm D)
set_option maxRecDepth 100000 in
set_option maxHeartbeats 4000000 in
theorem ct_X11_leastOf_r31d_11 {Dy : jH → Prop} {h0 : jH} {Q : Option Value → jH → Prop} {dr : (Int × jW)} (hD : jDk Dy) (hQ : ∀ (v : Int32) hx9, jJ jSgX Dy hx9 → jSm fp_X11_leastOf_r31d h0 hx9 → dr.1 = v.toInt → dr.2 = vw hx9 → Q (some (.int v)) hx9) : ∀ (l1 : Int32) (l2 : Int32) (l3 : Int32) (h : jH), 0 ≤ l1.toInt ∧ l1.toInt ≤ 2 → 0 ≤ l2.toInt ∧ l2.toInt ≤ 146399 → 0 ≤ l3.toInt ∧ l3.toInt ≤ 146399 → jJ jSgX Dy h → jSm fp_X11_leastOf_r31d h0 h → d_X11_leastOf_r31d_11  l1.toInt l2.toInt l3.toInt (vw h) = dr → jX m_X11_leastOf 2 0 0 11 [(0, .ref 31), (1, .int l1), (2, .int l2), (3, .int l3)] [] h 0 0 Q := by
  intro l1 l2 l3 h y0 y1 y2   J Sm D
  unfold d_X11_leastOf_r31d_11 at D
  refine x_iloadn (x := l1) rfl rfl ?_
  refine x_ifne (tgt := 19) rfl rfl (ti_ne rfl jk_0 ⟨fun c1 => ?_, fun c1 => ?_⟩)
  ·
    rw [if_neg (by omega)] at D
    refine x_iconst (v := 5) rfl ki_5 ?_
    exact jX.sub (jsb_c rfl (jsb_c rfl (jsb_c rfl (jsb_c rfl jsb_n)))) (ct_X11_leastOf_r31d_700020 hD hQ  l1 l2 l3 h (jr_of rfl (by omega)) (jr_of rfl (by omega)) (jr_of rfl (by omega)) (by omega) J Sm D)
  ·
    rw [if_pos (by omega)] at D
    refine x_iconst (v := 0) rfl ki_0 ?_
    refine x_goto (tgt := 20) rfl rfl ?_
    exact jX.sub (jsb_c rfl (jsb_c rfl (jsb_c rfl (jsb_c rfl jsb_n)))) (ct_X11_leastOf_r31d_200020 hD hQ  l1 l2 l3 h (jr_of rfl (by omega)) (jr_of rfl (by omega)) (jr_of rfl (by omega)) J Sm D)
set_option maxRecDepth 100000 in
set_option maxHeartbeats 4000000 in
theorem sf_X11_leastOf_r31d {Dy : jH → Prop} {h : jH} {Q : Option Value → jH → Prop} {dr : (Int × jW)} {a1 : Int32} {a2 : Int32} {a3 : Int32} (y1 : 0 ≤ a1.toInt ∧ a1.toInt ≤ 5) (y2 : 0 ≤ a2.toInt ∧ a2.toInt ≤ 146399) (y3 : 0 ≤ a3.toInt ∧ a3.toInt ≤ 146399) (hD : jDk Dy) (J : jJ jSgX Dy h) (D : d_X11_leastOf_r31d a1.toInt a2.toInt a3.toInt (vw h) = dr) (hQ : ∀ (v : Int32) hx9, jJ jSgX Dy hx9 → jSm fp_X11_leastOf_r31d h hx9 → dr.1 = v.toInt → dr.2 = vw hx9 → Q (some (.int v)) hx9) : jC m_X11_leastOf 2 0 0 [.ref 31, .int a1, .int a2, .int a3] h Q := by
  refine jC.of rfl k_X11_leastOf rfl ?_
  have Sm := jSm_rf fp_X11_leastOf_r31d h
  show jX m_X11_leastOf 2 0 0 0 [(0, .ref 31), (1, .int a1), (2, .int a2), (3, .int a3)] [] _ 0 0 _
  unfold d_X11_leastOf_r31d at D
  refine x_iloadn (x := a1) rfl rfl ?_
  refine x_ifeq (tgt := 11) rfl rfl (ti_eq rfl jk_0 ⟨fun c1 => ?_, fun c1 => ?_⟩)
  ·
    rw [if_pos (by omega)] at D
    exact jX.sub (jsb_c rfl (jsb_c rfl (jsb_c rfl (jsb_c rfl jsb_n)))) (ct_X11_leastOf_r31d_11 hD hQ  a1 a2 a3 h (jr_of rfl (by omega)) (jr_of rfl (by omega)) (jr_of rfl (by omega)) J Sm D)
  ·
    rw [if_neg (by omega)] at D
    refine x_iloadn (x := a1) rfl rfl ?_
    refine x_iconst (v := 2) rfl ki_2 ?_
    refine x_iceq (tgt := 11) rfl rfl (ti_eq rfl jk_2 ⟨fun c2 => ?_, fun c2 => ?_⟩)
    ·
      rw [if_pos (by omega)] at D
      exact jX.sub (jsb_c rfl (jsb_c rfl (jsb_c rfl (jsb_c rfl jsb_n)))) (ct_X11_leastOf_r31d_11 hD hQ  a1 a2 a3 h (jr_of rfl (by omega)) (jr_of rfl (by omega)) (jr_of rfl (by omega)) J Sm D)
    ·
      rw [if_neg (by omega)] at D
      refine x_iconst (v := 0) rfl ki_0 ?_
      refine x_iret rfl rfl ?_
      exact hQ _ _ J Sm ((congrArg Prod.fst D).symm.trans (show 0 = (0 : Int32).toInt from by have := jk_0; omega)) (congrArg Prod.snd D).symm
def fp_X11_linesWithin_r31d : jFp := []
set_option maxRecDepth 100000 in
set_option maxHeartbeats 4000000 in
theorem ct_X11_linesWithin_r31d_63 {Dy : jH → Prop} {h0 : jH} {Q : Option Value → jH → Prop} {dr : Int} {K6 : Int → Int → Int → Int → Int → Int → jW → Int} {R6 : Int} (hD : jDk Dy) (hQ : ∀ (v : Int32) hx9, jJ jSgX Dy hx9 → jSm fp_X11_linesWithin_r31d h0 hx9 → dr = v.toInt → vw hx9 = vw h0 → Q (some (.int v)) hx9) (k6 : ∀ (l1 : Int32) (l2 : Int32) (l3 : Int32) (l4 : Int32) (l5 : Int32) (l6 : Int32) (h : jH), 200 - l6.toInt < R6 → 0 ≤ l1.toInt ∧ l1.toInt ≤ 5 → 0 ≤ l2.toInt ∧ l2.toInt ≤ 146399 → (-146399) ≤ l3.toInt ∧ l3.toInt ≤ 999999 → 0 ≤ l4.toInt ∧ l4.toInt ≤ 146399 → 0 ≤ l6.toInt ∧ l6.toInt ≤ 200 → jJ jSgX Dy h → jSm fp_X11_linesWithin_r31d h0 h → K6 l1.toInt l2.toInt l3.toInt l4.toInt l5.toInt l6.toInt (vw h) = dr → vw h = vw h0 → jX m_X11_linesWithin 3 0 0 6 [(0, .ref 31), (1, .int l1), (2, .int l2), (3, .int l3), (4, .int l4), (5, .int l5), (6, .int l6)] [] h 0 0 Q) : ∀ (l1 : Int32) (l2 : Int32) (l3 : Int32) (l4 : Int32) (l5 : Int32) (l6 : Int32) (h : jH), 0 ≤ l1.toInt ∧ l1.toInt ≤ 5 → 0 ≤ l2.toInt ∧ l2.toInt ≤ 146399 → (-146399) ≤ l3.toInt ∧ l3.toInt ≤ 999999 → 0 ≤ l4.toInt ∧ l4.toInt ≤ 146399 → 0 ≤ l6.toInt ∧ l6.toInt ≤ 199 → 200 - l6.toInt ≤ R6 → jJ jSgX Dy h → jSm fp_X11_linesWithin_r31d h0 h → d_X11_linesWithin_r31d_63 K6  l1.toInt l2.toInt l3.toInt l4.toInt l5.toInt l6.toInt (vw h) = dr → vw h = vw h0 → jX m_X11_linesWithin 3 0 0 63 [(0, .ref 31), (1, .int l1), (2, .int l2), (3, .int l3), (4, .int l4), (5, .int l5), (6, .int l6)] [] h 0 0 Q := by
  intro l1 l2 l3 l4 l5 l6 h y0 y1 y2 y3 y4  m6 J Sm D EV
  have el5 := jfull l5
  unfold d_X11_linesWithin_r31d_63 at D
  refine z_iinc (x := l6) (lsx9 := fun v1 => [(6, .int v1), (0, .ref 31), (1, .int l1), (2, .int l2), (3, .int l3), (4, .int l4), (5, .int l5)]) rfl rfl rfl jko_1 (by omega) rfl (fun _ => rfl) (fun v1 ev1 => ?_)
  refine x_goto (tgt := 6) rfl rfl ?_
  try rw [show (l6.toInt + 1) = v1.toInt from by omega] at D
  exact jX.sub (jsb_c rfl (jsb_c rfl (jsb_c rfl (jsb_c rfl (jsb_c rfl (jsb_c rfl (jsb_c rfl jsb_n))))))) (k6 l1 l2 l3 l4 l5 v1 h (by omega) (jr_of rfl (by omega)) (jr_of rfl (by omega)) (jr_of rfl (by omega)) (jr_of rfl (by omega)) (jr_of rfl (by omega)) J Sm D EV)
set_option maxRecDepth 100000 in
set_option maxHeartbeats 4000000 in
theorem ct_X11_linesWithin_r31d_6 {Dy : jH → Prop} {h0 : jH} {Q : Option Value → jH → Prop} {dr : Int} (hD : jDk Dy) (hQ : ∀ (v : Int32) hx9, jJ jSgX Dy hx9 → jSm fp_X11_linesWithin_r31d h0 hx9 → dr = v.toInt → vw hx9 = vw h0 → Q (some (.int v)) hx9) : ∀ r : Nat, ∀ (l1 : Int32) (l2 : Int32) (l3 : Int32) (l4 : Int32) (l5 : Int32) (l6 : Int32) (h : jH), 200 - l6.toInt < (r : Int) → 0 ≤ l1.toInt ∧ l1.toInt ≤ 5 → 0 ≤ l2.toInt ∧ l2.toInt ≤ 146399 → (-146399) ≤ l3.toInt ∧ l3.toInt ≤ 999999 → 0 ≤ l4.toInt ∧ l4.toInt ≤ 146399 → 0 ≤ l6.toInt ∧ l6.toInt ≤ 200 → jJ jSgX Dy h → jSm fp_X11_linesWithin_r31d h0 h → d_X11_linesWithin_r31d_6 r l1.toInt l2.toInt l3.toInt l4.toInt l5.toInt l6.toInt (vw h) = dr → vw h = vw h0 → jX m_X11_linesWithin 3 0 0 6 [(0, .ref 31), (1, .int l1), (2, .int l2), (3, .int l3), (4, .int l4), (5, .int l5), (6, .int l6)] [] h 0 0 Q := by
  intro r
  induction r with
  | zero =>
    intro l1 l2 l3 l4 l5 l6 h hm y0 y1 y2 y3 y4   J Sm D EV
    exfalso
    have el5 := jfull l5
    omega
  | succ r ih =>
    intro l1 l2 l3 l4 l5 l6 h hm y0 y1 y2 y3 y4   J Sm D EV
    have el5 := jfull l5
    rw [d_X11_linesWithin_r31d_6.eq_2] at D
    refine x_iload (x := l6) rfl rfl ?_
    refine x_aloadn (x := 31) rfl rfl ?_
    refine z_getR (N := 13) (b := 32) 11 0 rfl f_11_10 rfl J rfl 3968 ⟨rfl, rfl⟩ rfl ?_
    refine z_getR (N := 20) (b := 33) 1 0 rfl f_11_126 rfl J rfl 4096 ⟨rfl, rfl⟩ rfl ?_
    refine z_getI (N := 4) 8 3 rfl f_11_142 rfl J rfl sg_33_3_4_1_0_1 (fun v1 qv1 ev1 => ?_)
    try rw [vrf qv1] at D
    refine x_icge (tgt := 69) rfl rfl (ti_ge rfl rfl ⟨fun c2 => ?_, fun c2 => ?_⟩)
    ·
      rw [if_pos (by omega)] at D
      refine x_iload (x := l5) rfl rfl ?_
      refine x_iret rfl rfl ?_
      exact hQ _ _ J Sm (D.symm.trans (show l5.toInt = l5.toInt from by omega)) EV
    ·
      rw [if_neg (by omega)] at D
      refine x_aloadn (x := 31) rfl rfl ?_
      refine z_getR (N := 13) (b := 32) 11 0 rfl f_11_10 rfl J rfl 3968 ⟨rfl, rfl⟩ rfl ?_
      refine z_getR (N := 20) (b := 33) 1 0 rfl f_11_126 rfl J rfl 4096 ⟨rfl, rfl⟩ rfl ?_
      refine x_iload (x := l6) rfl rfl ?_
      refine x_iconst (v := 1) rfl ki_1 ?_
      refine x_inv (N := m_X8_at) (As := [.int l6, .int 1]) (b := 33) (st := []) (dx9 := 1) (mc := 0) (ms := 0) (host := "") 8 rfl t_X8_at ⟨Or.inl q_11_171, i_X8_at.1, i_X8_at.2⟩ ⟨by decide, rfl⟩ (congrArg Prod.fst (J.1.1 33 (8, 4) rfl)) rfl (by decide) rfl rfl ⟨by decide, by decide⟩ (sf_X8_at_r33_c1d  hD J rfl  (fun v6 h ev6 J S3 X4 X5 => ?_))
      have Sm := jSm_tr rfl Sm S3
      try rw [X4] at D
      try rw [← X5] at D
      have EV := X5.trans EV
      show jX m_X11_linesWithin 3 0 0 34 [(0, .ref 31), (1, .int l1), (2, .int l2), (3, .int l3), (4, .int l4), (5, .int l5), (6, .int l6)] [.int v6] _ 0 0 _
      refine x_istore (lsx9 := [(7, .int v6), (0, .ref 31), (1, .int l1), (2, .int l2), (3, .int l3), (4, .int l4), (5, .int l5), (6, .int l6)]) rfl rfl rfl ?_
      refine x_iload (x := v6) rfl rfl ?_
      refine x_iloadn (x := l2) rfl rfl ?_
      refine x_iclt (tgt := 63) rfl rfl (ti_lt rfl rfl ⟨fun c7 => ?_, fun c7 => ?_⟩)
      ·
        rw [if_pos (by omega)] at D
        exact jX.sub (jsb_c rfl (jsb_c rfl (jsb_c rfl (jsb_c rfl (jsb_c rfl (jsb_c rfl (jsb_c rfl jsb_n))))))) (ct_X11_linesWithin_r31d_63 hD hQ ih l1 l2 l3 l4 l5 l6 h (jr_of rfl (by omega)) (jr_of rfl (by omega)) (jr_of rfl (by omega)) (jr_of rfl (by omega)) (jr_of rfl (by omega)) (by omega) J Sm D EV)
      ·
        rw [if_neg (by omega)] at D
        refine x_iload (x := v6) rfl rfl ?_
        refine x_iloadn (x := l3) rfl rfl ?_
        refine x_icgt (tgt := 63) rfl rfl (ti_gt rfl rfl ⟨fun c8 => ?_, fun c8 => ?_⟩)
        ·
          rw [if_pos (by omega)] at D
          exact jX.sub (jsb_c rfl (jsb_c rfl (jsb_c rfl (jsb_c rfl (jsb_c rfl (jsb_c rfl (jsb_c rfl jsb_n))))))) (ct_X11_linesWithin_r31d_63 hD hQ ih l1 l2 l3 l4 l5 l6 h (jr_of rfl (by omega)) (jr_of rfl (by omega)) (jr_of rfl (by omega)) (jr_of rfl (by omega)) (jr_of rfl (by omega)) (by omega) J Sm D EV)
        ·
          rw [if_neg (by omega)] at D
          refine x_aloadn (x := 31) rfl rfl ?_
          refine x_iload (x := l6) rfl rfl ?_
          refine x_iloadn (x := l1) rfl rfl ?_
          refine x_iload (x := l4) rfl rfl ?_
          refine x_inv (N := m_X11_isLineOf) (As := [.int l6, .int l1, .int l4]) (b := 31) (st := []) (dx9 := 2) (mc := 0) (ms := 0) (host := "") 11 rfl t_X11_isLineOf ⟨Or.inl q_11_543, i_X11_isLineOf.1, i_X11_isLineOf.2⟩ ⟨by decide, rfl⟩ (congrArg Prod.fst (J.1.1 31 (11, 13) rfl)) rfl (by decide) rfl rfl ⟨by decide, by decide⟩ (jC.of rfl k_X11_isLineOf rfl ?_)
          show jX m_X11_isLineOf 2 0 0 0 [(0, .ref 31), (1, .int l6), (2, .int l1), (3, .int l4)] [] _ 0 0 _
          refine x_aloadn (x := 31) rfl rfl ?_
          refine z_getR (N := 13) (b := 32) 11 0 rfl f_11_10 rfl J rfl 3968 ⟨rfl, rfl⟩ rfl ?_
          refine z_getR (N := 20) (b := 33) 1 0 rfl f_11_126 rfl J rfl 4096 ⟨rfl, rfl⟩ rfl ?_
          refine x_iloadn (x := l6) rfl rfl ?_
          refine x_iloadn (x := l4) rfl rfl ?_
          refine x_inv (N := m_X8_isKnown) (As := [.int l6, .int l4]) (b := 33) (st := []) (dx9 := 1) (mc := 0) (ms := 0) (host := "") 8 rfl t_X8_isKnown ⟨Or.inl q_11_440, i_X8_isKnown.1, i_X8_isKnown.2⟩ ⟨by decide, rfl⟩ (congrArg Prod.fst (J.1.1 33 (8, 4) rfl)) rfl (by decide) rfl rfl ⟨by decide, by decide⟩ (sf_X8_isKnown_r33d (jr_of rfl (by omega)) hD J rfl  (fun v12 h ev12 J S9 X10 X11 => ?_))
          have Sm := jSm_tr rfl Sm S9
          try rw [X10] at D
          try rw [← X11] at D
          have EV := X11.trans EV
          show jX m_X11_isLineOf 2 0 0 12 [(0, .ref 31), (1, .int l6), (2, .int l1), (3, .int l4)] [.int v12] _ 0 0 _
          refine x_ifeq (tgt := 35) rfl rfl (ti_eq rfl jk_0 ⟨fun c13 => ?_, fun c13 => ?_⟩)
          ·
            rw [if_pos (by omega)] at D
            refine x_iconst (v := 0) rfl ki_0 ?_
            refine x_zret rfl rfl (by decide) ?_
            show jX m_X11_linesWithin 3 0 0 57 [(7, .int v6), (0, .ref 31), (1, .int l1), (2, .int l2), (3, .int l3), (4, .int l4), (5, .int l5), (6, .int l6)] [.int 0] _ 0 0 _
            refine x_ifeq (tgt := 63) rfl rfl (ti_eq jk_0 jk_0 (br_t (by omega) ?_))
            exact jX.sub (jsb_c rfl (jsb_c rfl (jsb_c rfl (jsb_c rfl (jsb_c rfl (jsb_c rfl (jsb_c rfl jsb_n))))))) (ct_X11_linesWithin_r31d_63 hD hQ ih l1 l2 l3 l4 l5 l6 h (jr_of rfl (by omega)) (jr_of rfl (by omega)) (jr_of rfl (by omega)) (jr_of rfl (by omega)) (jr_of rfl (by omega)) (by omega) J Sm D EV)
          ·
            rw [if_neg (by omega)] at D
            refine x_aloadn (x := 31) rfl rfl ?_
            refine z_getR (N := 13) (b := 32) 11 0 rfl f_11_10 rfl J rfl 3968 ⟨rfl, rfl⟩ rfl ?_
            refine z_getR (N := 20) (b := 33) 1 0 rfl f_11_126 rfl J rfl 4096 ⟨rfl, rfl⟩ rfl ?_
            refine x_iloadn (x := l6) rfl rfl ?_
            refine x_iconst (v := 2) rfl ki_2 ?_
            refine x_inv (N := m_X8_at) (As := [.int l6, .int 2]) (b := 33) (st := []) (dx9 := 1) (mc := 0) (ms := 0) (host := "") 8 rfl t_X8_at ⟨Or.inl q_11_171, i_X8_at.1, i_X8_at.2⟩ ⟨by decide, rfl⟩ (congrArg Prod.fst (J.1.1 33 (8, 4) rfl)) rfl (by decide) rfl rfl ⟨by decide, by decide⟩ (sf_X8_at_r33_c2d  hD J rfl  (fun v17 h ev17 J S14 X15 X16 => ?_))
            have Sm := jSm_tr rfl Sm S14
            try rw [X15] at D
            try rw [← X16] at D
            have EV := X16.trans EV
            show jX m_X11_isLineOf 2 0 0 27 [(0, .ref 31), (1, .int l6), (2, .int l1), (3, .int l4)] [.int v17] _ 0 0 _
            refine x_iloadn (x := l1) rfl rfl ?_
            refine x_icne (tgt := 35) rfl rfl (ti_ne rfl rfl ⟨fun c18 => ?_, fun c18 => ?_⟩)
            ·
              rw [if_neg (by omega)] at D
              refine x_iconst (v := 0) rfl ki_0 ?_
              refine x_zret rfl rfl (by decide) ?_
              show jX m_X11_linesWithin 3 0 0 57 [(7, .int v6), (0, .ref 31), (1, .int l1), (2, .int l2), (3, .int l3), (4, .int l4), (5, .int l5), (6, .int l6)] [.int 0] _ 0 0 _
              refine x_ifeq (tgt := 63) rfl rfl (ti_eq jk_0 jk_0 (br_t (by omega) ?_))
              exact jX.sub (jsb_c rfl (jsb_c rfl (jsb_c rfl (jsb_c rfl (jsb_c rfl (jsb_c rfl (jsb_c rfl jsb_n))))))) (ct_X11_linesWithin_r31d_63 hD hQ ih l1 l2 l3 l4 l5 l6 h (jr_of rfl (by omega)) (jr_of rfl (by omega)) (jr_of rfl (by omega)) (jr_of rfl (by omega)) (jr_of rfl (by omega)) (by omega) J Sm D EV)
            ·
              rw [if_pos (by omega)] at D
              refine x_iconst (v := 1) rfl ki_1 ?_
              refine x_goto (tgt := 36) rfl rfl ?_
              refine x_zret rfl rfl (by decide) ?_
              show jX m_X11_linesWithin 3 0 0 57 [(7, .int v6), (0, .ref 31), (1, .int l1), (2, .int l2), (3, .int l3), (4, .int l4), (5, .int l5), (6, .int l6)] [.int 1] _ 0 0 _
              refine x_ifeq (tgt := 63) rfl rfl (ti_eq jk_1 jk_0 (br_f (by omega) ?_))
              refine z_iincW (x := l5) (lsx9 := fun v19 => [(5, .int v19), (7, .int v6), (0, .ref 31), (1, .int l1), (2, .int l2), (3, .int l3), (4, .int l4), (6, .int l6)]) rfl rfl rfl jko_1 rfl (fun _ => rfl) (fun v19 ev19 => ?_)
              have fv19 := jfull v19
              try rw [← ev19] at D
              exact jX.sub (jsb_c rfl (jsb_c rfl (jsb_c rfl (jsb_c rfl (jsb_c rfl (jsb_c rfl (jsb_c rfl jsb_n))))))) (ct_X11_linesWithin_r31d_63 hD hQ ih l1 l2 l3 l4 v19 l6 h (jr_of rfl (by omega)) (jr_of rfl (by omega)) (jr_of rfl (by omega)) (jr_of rfl (by omega)) (jr_of rfl (by omega)) (by omega) J Sm D EV)
set_option maxRecDepth 100000 in
set_option maxHeartbeats 4000000 in
theorem sf_X11_linesWithin_r31d {Dy : jH → Prop} {h : jH} {Q : Option Value → jH → Prop} {dr : Int} {a1 : Int32} {a2 : Int32} {a3 : Int32} {a4 : Int32} (y1 : 0 ≤ a1.toInt ∧ a1.toInt ≤ 5) (y2 : 0 ≤ a2.toInt ∧ a2.toInt ≤ 146399) (y3 : (-146399) ≤ a3.toInt ∧ a3.toInt ≤ 999999) (y4 : 0 ≤ a4.toInt ∧ a4.toInt ≤ 146399) (hD : jDk Dy) (J : jJ jSgX Dy h) (D : d_X11_linesWithin_r31d a1.toInt a2.toInt a3.toInt a4.toInt (vw h) = dr) (hQ : ∀ (v : Int32) hx9, jJ jSgX Dy hx9 → jSm fp_X11_linesWithin_r31d h hx9 → dr = v.toInt → vw hx9 = vw h → Q (some (.int v)) hx9) : jC m_X11_linesWithin 3 0 0 [.ref 31, .int a1, .int a2, .int a3, .int a4] h Q := by
  refine jC.of rfl k_X11_linesWithin rfl ?_
  have Sm := jSm_rf fp_X11_linesWithin_r31d h
  show jX m_X11_linesWithin 3 0 0 0 [(0, .ref 31), (1, .int a1), (2, .int a2), (3, .int a3), (4, .int a4)] [] _ 0 0 _
  unfold d_X11_linesWithin_r31d at D
  have EV : vw h = vw h := rfl
  refine x_iconst (v := 0) rfl ki_0 ?_
  refine x_istore (lsx9 := [(5, .int 0), (0, .ref 31), (1, .int a1), (2, .int a2), (3, .int a3), (4, .int a4)]) rfl rfl rfl ?_
  refine x_iconst (v := 0) rfl ki_0 ?_
  refine x_istore (lsx9 := [(6, .int 0), (5, .int 0), (0, .ref 31), (1, .int a1), (2, .int a2), (3, .int a3), (4, .int a4)]) rfl rfl rfl ?_
  exact jX.sub (jsb_c rfl (jsb_c rfl (jsb_c rfl (jsb_c rfl (jsb_c rfl (jsb_c rfl (jsb_c rfl jsb_n))))))) (ct_X11_linesWithin_r31d_6 hD hQ  201 a1 a2 a3 a4 0 0 h (by have := jk_0; omega) (jr_of rfl (by omega)) (jr_of rfl (by omega)) (jr_of rfl (by omega)) (jr_of rfl (by omega)) (jr_of jk_0 (by omega)) J Sm (by rw [jk_0]; exact D) EV)
def fp_X11_mostOf_r31d : jFp := []
set_option maxRecDepth 100000 in
set_option maxHeartbeats 4000000 in
theorem ct_X11_mostOf_r31d_81 {Dy : jH → Prop} {h0 : jH} {Q : Option Value → jH → Prop} {dr : Int} {K6 : Int → Int → Int → Int → Int → jW → Int} {R6 : Int} (hD : jDk Dy) (hQ : ∀ (v : Int32) hx9, 0 ≤ v.toInt ∧ v.toInt ≤ 2147483647 → jJ jSgX Dy hx9 → jSm fp_X11_mostOf_r31d h0 hx9 → dr = v.toInt → vw hx9 = vw h0 → Q (some (.int v)) hx9) (k6 : ∀ (l1 : Int32) (l2 : Int32) (l3 : Int32) (l4 : Int32) (l5 : Int32) (h : jH), 200 - l5.toInt < R6 → 0 ≤ l1.toInt ∧ l1.toInt ≤ 5 → (-146399) ≤ l2.toInt ∧ l2.toInt ≤ 146399 → 0 ≤ l3.toInt ∧ l3.toInt ≤ 146399 → 0 ≤ l4.toInt ∧ l4.toInt ≤ 2147483647 → 0 ≤ l5.toInt ∧ l5.toInt ≤ 200 → jJ jSgX Dy h → jSm fp_X11_mostOf_r31d h0 h → K6 l1.toInt l2.toInt l3.toInt l4.toInt l5.toInt (vw h) = dr → vw h = vw h0 → jX m_X11_mostOf 4 0 0 6 [(0, .ref 31), (1, .int l1), (2, .int l2), (3, .int l3), (4, .int l4), (5, .int l5)] [] h 0 0 Q) : ∀ (l1 : Int32) (l2 : Int32) (l3 : Int32) (l4 : Int32) (l5 : Int32) (h : jH), 0 ≤ l1.toInt ∧ l1.toInt ≤ 5 → (-146399) ≤ l2.toInt ∧ l2.toInt ≤ 146399 → 0 ≤ l3.toInt ∧ l3.toInt ≤ 146399 → 0 ≤ l4.toInt ∧ l4.toInt ≤ 2147483647 → 0 ≤ l5.toInt ∧ l5.toInt ≤ 199 → 200 - l5.toInt ≤ R6 → jJ jSgX Dy h → jSm fp_X11_mostOf_r31d h0 h → d_X11_mostOf_r31d_81 K6  l1.toInt l2.toInt l3.toInt l4.toInt l5.toInt (vw h) = dr → vw h = vw h0 → jX m_X11_mostOf 4 0 0 81 [(0, .ref 31), (1, .int l1), (2, .int l2), (3, .int l3), (4, .int l4), (5, .int l5)] [] h 0 0 Q := by
  intro l1 l2 l3 l4 l5 h y0 y1 y2 y3 y4  m6 J Sm D EV
  unfold d_X11_mostOf_r31d_81 at D
  refine z_iinc (x := l5) (lsx9 := fun v1 => [(5, .int v1), (0, .ref 31), (1, .int l1), (2, .int l2), (3, .int l3), (4, .int l4)]) rfl rfl rfl jko_1 (by omega) rfl (fun _ => rfl) (fun v1 ev1 => ?_)
  refine x_goto (tgt := 6) rfl rfl ?_
  try rw [show (l5.toInt + 1) = v1.toInt from by omega] at D
  exact jX.sub (jsb_c rfl (jsb_c rfl (jsb_c rfl (jsb_c rfl (jsb_c rfl (jsb_c rfl jsb_n)))))) (k6 l1 l2 l3 l4 v1 h (by omega) (jr_of rfl (by omega)) (jr_of rfl (by omega)) (jr_of rfl (by omega)) (jr_of rfl (by omega)) (jr_of rfl (by omega)) J Sm D EV)
set_option maxRecDepth 100000 in
set_option maxHeartbeats 4000000 in
theorem ct_X11_mostOf_r31d_6 {Dy : jH → Prop} {h0 : jH} {Q : Option Value → jH → Prop} {dr : Int} (hD : jDk Dy) (hQ : ∀ (v : Int32) hx9, 0 ≤ v.toInt ∧ v.toInt ≤ 2147483647 → jJ jSgX Dy hx9 → jSm fp_X11_mostOf_r31d h0 hx9 → dr = v.toInt → vw hx9 = vw h0 → Q (some (.int v)) hx9) : ∀ r : Nat, ∀ (l1 : Int32) (l2 : Int32) (l3 : Int32) (l4 : Int32) (l5 : Int32) (h : jH), 200 - l5.toInt < (r : Int) → 0 ≤ l1.toInt ∧ l1.toInt ≤ 5 → (-146399) ≤ l2.toInt ∧ l2.toInt ≤ 146399 → 0 ≤ l3.toInt ∧ l3.toInt ≤ 146399 → 0 ≤ l4.toInt ∧ l4.toInt ≤ 2147483647 → 0 ≤ l5.toInt ∧ l5.toInt ≤ 200 → jJ jSgX Dy h → jSm fp_X11_mostOf_r31d h0 h → d_X11_mostOf_r31d_6 r l1.toInt l2.toInt l3.toInt l4.toInt l5.toInt (vw h) = dr → vw h = vw h0 → jX m_X11_mostOf 4 0 0 6 [(0, .ref 31), (1, .int l1), (2, .int l2), (3, .int l3), (4, .int l4), (5, .int l5)] [] h 0 0 Q := by
  intro r
  induction r with
  | zero =>
    intro l1 l2 l3 l4 l5 h hm y0 y1 y2 y3 y4   J Sm D EV
    exfalso
    omega
  | succ r ih =>
    intro l1 l2 l3 l4 l5 h hm y0 y1 y2 y3 y4   J Sm D EV
    rw [d_X11_mostOf_r31d_6.eq_2] at D
    refine x_iload (x := l5) rfl rfl ?_
    refine x_aloadn (x := 31) rfl rfl ?_
    refine z_getR (N := 13) (b := 32) 11 0 rfl f_11_10 rfl J rfl 3968 ⟨rfl, rfl⟩ rfl ?_
    refine z_getR (N := 20) (b := 33) 1 0 rfl f_11_126 rfl J rfl 4096 ⟨rfl, rfl⟩ rfl ?_
    refine z_getI (N := 4) 8 3 rfl f_11_142 rfl J rfl sg_33_3_4_1_0_1 (fun v1 qv1 ev1 => ?_)
    try rw [vrf qv1] at D
    refine x_icge (tgt := 87) rfl rfl (ti_ge rfl rfl ⟨fun c2 => ?_, fun c2 => ?_⟩)
    ·
      rw [if_pos (by omega)] at D
      refine x_iload (x := l4) rfl rfl ?_
      refine x_iret rfl rfl ?_
      exact hQ _ _ (jr_of rfl (by omega)) J Sm (D.symm.trans (show l4.toInt = l4.toInt from by omega)) EV
    ·
      rw [if_neg (by omega)] at D
      refine x_aloadn (x := 31) rfl rfl ?_
      refine x_iload (x := l5) rfl rfl ?_
      refine x_iloadn (x := l1) rfl rfl ?_
      refine x_iloadn (x := l3) rfl rfl ?_
      refine x_inv (N := m_X11_isLineOf) (As := [.int l5, .int l1, .int l3]) (b := 31) (st := []) (dx9 := 3) (mc := 0) (ms := 0) (host := "") 11 rfl t_X11_isLineOf ⟨Or.inl q_11_543, i_X11_isLineOf.1, i_X11_isLineOf.2⟩ ⟨by decide, rfl⟩ (congrArg Prod.fst (J.1.1 31 (11, 13) rfl)) rfl (by decide) rfl rfl ⟨by decide, by decide⟩ (jC.of rfl k_X11_isLineOf rfl ?_)
      show jX m_X11_isLineOf 3 0 0 0 [(0, .ref 31), (1, .int l5), (2, .int l1), (3, .int l3)] [] _ 0 0 _
      refine x_aloadn (x := 31) rfl rfl ?_
      refine z_getR (N := 13) (b := 32) 11 0 rfl f_11_10 rfl J rfl 3968 ⟨rfl, rfl⟩ rfl ?_
      refine z_getR (N := 20) (b := 33) 1 0 rfl f_11_126 rfl J rfl 4096 ⟨rfl, rfl⟩ rfl ?_
      refine x_iloadn (x := l5) rfl rfl ?_
      refine x_iloadn (x := l3) rfl rfl ?_
      refine x_inv (N := m_X8_isKnown) (As := [.int l5, .int l3]) (b := 33) (st := []) (dx9 := 1) (mc := 0) (ms := 0) (host := "") 8 rfl t_X8_isKnown ⟨Or.inl q_11_440, i_X8_isKnown.1, i_X8_isKnown.2⟩ ⟨by decide, rfl⟩ (congrArg Prod.fst (J.1.1 33 (8, 4) rfl)) rfl (by decide) rfl rfl ⟨by decide, by decide⟩ (sf_X8_isKnown_r33d (jr_of rfl (by omega)) hD J rfl  (fun v6 h ev6 J S3 X4 X5 => ?_))
      have Sm := jSm_tr rfl Sm S3
      try rw [X4] at D
      try rw [← X5] at D
      have EV := X5.trans EV
      show jX m_X11_isLineOf 3 0 0 12 [(0, .ref 31), (1, .int l5), (2, .int l1), (3, .int l3)] [.int v6] _ 0 0 _
      refine x_ifeq (tgt := 35) rfl rfl (ti_eq rfl jk_0 ⟨fun c7 => ?_, fun c7 => ?_⟩)
      ·
        rw [if_pos (by omega)] at D
        refine x_iconst (v := 0) rfl ki_0 ?_
        refine x_zret rfl rfl (by decide) ?_
        show jX m_X11_mostOf 4 0 0 29 [(0, .ref 31), (1, .int l1), (2, .int l2), (3, .int l3), (4, .int l4), (5, .int l5)] [.int 0] _ 0 0 _
        refine x_ifeq (tgt := 81) rfl rfl (ti_eq jk_0 jk_0 (br_t (by omega) ?_))
        exact jX.sub (jsb_c rfl (jsb_c rfl (jsb_c rfl (jsb_c rfl (jsb_c rfl (jsb_c rfl jsb_n)))))) (ct_X11_mostOf_r31d_81 hD hQ ih l1 l2 l3 l4 l5 h (jr_of rfl (by omega)) (jr_of rfl (by omega)) (jr_of rfl (by omega)) (jr_of rfl (by omega)) (jr_of rfl (by omega)) (by omega) J Sm D EV)
      ·
        rw [if_neg (by omega)] at D
        refine x_aloadn (x := 31) rfl rfl ?_
        refine z_getR (N := 13) (b := 32) 11 0 rfl f_11_10 rfl J rfl 3968 ⟨rfl, rfl⟩ rfl ?_
        refine z_getR (N := 20) (b := 33) 1 0 rfl f_11_126 rfl J rfl 4096 ⟨rfl, rfl⟩ rfl ?_
        refine x_iloadn (x := l5) rfl rfl ?_
        refine x_iconst (v := 2) rfl ki_2 ?_
        refine x_inv (N := m_X8_at) (As := [.int l5, .int 2]) (b := 33) (st := []) (dx9 := 1) (mc := 0) (ms := 0) (host := "") 8 rfl t_X8_at ⟨Or.inl q_11_171, i_X8_at.1, i_X8_at.2⟩ ⟨by decide, rfl⟩ (congrArg Prod.fst (J.1.1 33 (8, 4) rfl)) rfl (by decide) rfl rfl ⟨by decide, by decide⟩ (sf_X8_at_r33_c2d  hD J rfl  (fun v11 h ev11 J S8 X9 X10 => ?_))
        have Sm := jSm_tr rfl Sm S8
        try rw [X9] at D
        try rw [← X10] at D
        have EV := X10.trans EV
        show jX m_X11_isLineOf 3 0 0 27 [(0, .ref 31), (1, .int l5), (2, .int l1), (3, .int l3)] [.int v11] _ 0 0 _
        refine x_iloadn (x := l1) rfl rfl ?_
        refine x_icne (tgt := 35) rfl rfl (ti_ne rfl rfl ⟨fun c12 => ?_, fun c12 => ?_⟩)
        ·
          rw [if_neg (by omega)] at D
          refine x_iconst (v := 0) rfl ki_0 ?_
          refine x_zret rfl rfl (by decide) ?_
          show jX m_X11_mostOf 4 0 0 29 [(0, .ref 31), (1, .int l1), (2, .int l2), (3, .int l3), (4, .int l4), (5, .int l5)] [.int 0] _ 0 0 _
          refine x_ifeq (tgt := 81) rfl rfl (ti_eq jk_0 jk_0 (br_t (by omega) ?_))
          exact jX.sub (jsb_c rfl (jsb_c rfl (jsb_c rfl (jsb_c rfl (jsb_c rfl (jsb_c rfl jsb_n)))))) (ct_X11_mostOf_r31d_81 hD hQ ih l1 l2 l3 l4 l5 h (jr_of rfl (by omega)) (jr_of rfl (by omega)) (jr_of rfl (by omega)) (jr_of rfl (by omega)) (jr_of rfl (by omega)) (by omega) J Sm D EV)
        ·
          rw [if_pos (by omega)] at D
          refine x_iconst (v := 1) rfl ki_1 ?_
          refine x_goto (tgt := 36) rfl rfl ?_
          refine x_zret rfl rfl (by decide) ?_
          show jX m_X11_mostOf 4 0 0 29 [(0, .ref 31), (1, .int l1), (2, .int l2), (3, .int l3), (4, .int l4), (5, .int l5)] [.int 1] _ 0 0 _
          refine x_ifeq (tgt := 81) rfl rfl (ti_eq jk_1 jk_0 (br_f (by omega) ?_))
          refine x_aloadn (x := 31) rfl rfl ?_
          refine z_getR (N := 13) (b := 32) 11 0 rfl f_11_10 rfl J rfl 3968 ⟨rfl, rfl⟩ rfl ?_
          refine z_getR (N := 20) (b := 33) 1 0 rfl f_11_126 rfl J rfl 4096 ⟨rfl, rfl⟩ rfl ?_
          refine x_iload (x := l5) rfl rfl ?_
          refine x_iconst (v := 1) rfl ki_1 ?_
          refine x_inv (N := m_X8_at) (As := [.int l5, .int 1]) (b := 33) (st := []) (dx9 := 1) (mc := 0) (ms := 0) (host := "") 8 rfl t_X8_at ⟨Or.inl q_11_171, i_X8_at.1, i_X8_at.2⟩ ⟨by decide, rfl⟩ (congrArg Prod.fst (J.1.1 33 (8, 4) rfl)) rfl (by decide) rfl rfl ⟨by decide, by decide⟩ (sf_X8_at_r33_c1d  hD J rfl  (fun v16 h ev16 J S13 X14 X15 => ?_))
          have Sm := jSm_tr rfl Sm S13
          try rw [X14] at D
          try rw [← X15] at D
          have EV := X15.trans EV
          show jX m_X11_mostOf 4 0 0 45 [(0, .ref 31), (1, .int l1), (2, .int l2), (3, .int l3), (4, .int l4), (5, .int l5)] [.int v16] _ 0 0 _
          refine x_istore (lsx9 := [(6, .int v16), (0, .ref 31), (1, .int l1), (2, .int l2), (3, .int l3), (4, .int l4), (5, .int l5)]) rfl rfl rfl ?_
          refine x_aloadn (x := 31) rfl rfl ?_
          refine x_iloadn (x := l1) rfl rfl ?_
          refine x_iload (x := v16) rfl rfl ?_
          refine x_iload (x := v16) rfl rfl ?_
          refine x_iloadn (x := l2) rfl rfl ?_
          refine z_iadd rfl rfl rfl (by omega) (fun v17 ev17 => ?_)
          refine x_iloadn (x := l3) rfl rfl ?_
          try rw [show (v16.toInt + l2.toInt) = v17.toInt from by omega] at D
          refine x_inv (N := m_X11_isTornWithin) (As := [.int l1, .int v16, .int v17, .int l3]) (b := 31) (st := []) (dx9 := 3) (mc := 0) (ms := 0) (host := "") 11 rfl t_X11_isTornWithin ⟨Or.inl q_11_546, i_X11_isTornWithin.1, i_X11_isTornWithin.2⟩ ⟨by decide, rfl⟩ (congrArg Prod.fst (J.1.1 31 (11, 13) rfl)) rfl (by decide) rfl rfl ⟨by decide, by decide⟩ (sf_X11_isTornWithin_r31d (jr_of rfl (by omega)) (jr_of rfl (by omega)) (jr_of rfl (by omega)) (jr_of rfl (by omega)) hD J rfl  (fun v21 h ev21 J S18 X19 X20 => ?_))
          have Sm := jSm_tr rfl Sm S18
          try rw [X19] at D
          try rw [← X20] at D
          have EV := X20.trans EV
          show jX m_X11_mostOf 4 0 0 59 [(6, .int v16), (0, .ref 31), (1, .int l1), (2, .int l2), (3, .int l3), (4, .int l4), (5, .int l5)] [.int v21] _ 0 0 _
          refine x_ifne (tgt := 81) rfl rfl (ti_ne rfl jk_0 ⟨fun c22 => ?_, fun c22 => ?_⟩)
          ·
            rw [if_neg (by omega)] at D
            exact jX.sub (jsb_c rfl (jsb_c rfl (jsb_c rfl (jsb_c rfl (jsb_c rfl (jsb_c rfl jsb_n)))))) (ct_X11_mostOf_r31d_81 hD hQ ih l1 l2 l3 l4 l5 h (jr_of rfl (by omega)) (jr_of rfl (by omega)) (jr_of rfl (by omega)) (jr_of rfl (by omega)) (jr_of rfl (by omega)) (by omega) J Sm D EV)
          ·
            rw [if_pos (by omega)] at D
            refine x_iload (x := l4) rfl rfl ?_
            refine x_aloadn (x := 31) rfl rfl ?_
            refine x_iloadn (x := l1) rfl rfl ?_
            refine x_iload (x := v16) rfl rfl ?_
            refine x_iload (x := v16) rfl rfl ?_
            refine x_iloadn (x := l2) rfl rfl ?_
            refine z_iadd rfl rfl rfl (by omega) (fun v23 ev23 => ?_)
            refine x_iloadn (x := l3) rfl rfl ?_
            try rw [show v17.toInt = v23.toInt from by omega] at D
            refine x_inv (N := m_X11_linesWithin) (As := [.int l1, .int v16, .int v23, .int l3]) (b := 31) (st := [.int l4]) (dx9 := 3) (mc := 0) (ms := 0) (host := "") 11 rfl t_X11_linesWithin ⟨Or.inl q_11_550, i_X11_linesWithin.1, i_X11_linesWithin.2⟩ ⟨by decide, rfl⟩ (congrArg Prod.fst (J.1.1 31 (11, 13) rfl)) rfl (by decide) rfl rfl ⟨by decide, by decide⟩ (sf_X11_linesWithin_r31d (jr_of rfl (by omega)) (jr_of rfl (by omega)) (jr_of rfl (by omega)) (jr_of rfl (by omega)) hD J rfl  (fun v27 h J S24 X25 X26 => ?_))
            have ev27 := jfull v27
            have Sm := jSm_tr rfl Sm S24
            try rw [X25] at D
            try rw [← X26] at D
            have EV := X26.trans EV
            show jX m_X11_mostOf 4 0 0 76 [(6, .int v16), (0, .ref 31), (1, .int l1), (2, .int l2), (3, .int l3), (4, .int l4), (5, .int l5)] [.int v27, .int l4] _ 0 0 _
            refine z_mmax rfl q_11_193 (by decide) rfl rfl rfl (fun v28 ev28 => ?_)
            refine x_istore (lsx9 := [(4, .int v28), (6, .int v16), (0, .ref 31), (1, .int l1), (2, .int l2), (3, .int l3), (5, .int l5)]) rfl rfl rfl ?_
            try rw [show (max l4.toInt v27.toInt) = v28.toInt from by omega] at D
            exact jX.sub (jsb_c rfl (jsb_c rfl (jsb_c rfl (jsb_c rfl (jsb_c rfl (jsb_c rfl jsb_n)))))) (ct_X11_mostOf_r31d_81 hD hQ ih l1 l2 l3 v28 l5 h (jr_of rfl (by omega)) (jr_of rfl (by omega)) (jr_of rfl (by omega)) (jr_of rfl (by omega)) (jr_of rfl (by omega)) (by omega) J Sm D EV)
set_option maxRecDepth 100000 in
set_option maxHeartbeats 4000000 in
theorem sf_X11_mostOf_r31d {Dy : jH → Prop} {h : jH} {Q : Option Value → jH → Prop} {dr : Int} {a1 : Int32} {a2 : Int32} {a3 : Int32} (y1 : 0 ≤ a1.toInt ∧ a1.toInt ≤ 5) (y2 : (-146399) ≤ a2.toInt ∧ a2.toInt ≤ 146399) (y3 : 0 ≤ a3.toInt ∧ a3.toInt ≤ 146399) (hD : jDk Dy) (J : jJ jSgX Dy h) (D : d_X11_mostOf_r31d a1.toInt a2.toInt a3.toInt (vw h) = dr) (hQ : ∀ (v : Int32) hx9, 0 ≤ v.toInt ∧ v.toInt ≤ 2147483647 → jJ jSgX Dy hx9 → jSm fp_X11_mostOf_r31d h hx9 → dr = v.toInt → vw hx9 = vw h → Q (some (.int v)) hx9) : jC m_X11_mostOf 4 0 0 [.ref 31, .int a1, .int a2, .int a3] h Q := by
  refine jC.of rfl k_X11_mostOf rfl ?_
  have Sm := jSm_rf fp_X11_mostOf_r31d h
  show jX m_X11_mostOf 4 0 0 0 [(0, .ref 31), (1, .int a1), (2, .int a2), (3, .int a3)] [] _ 0 0 _
  unfold d_X11_mostOf_r31d at D
  have EV : vw h = vw h := rfl
  refine x_iconst (v := 0) rfl ki_0 ?_
  refine x_istore (lsx9 := [(4, .int 0), (0, .ref 31), (1, .int a1), (2, .int a2), (3, .int a3)]) rfl rfl rfl ?_
  refine x_iconst (v := 0) rfl ki_0 ?_
  refine x_istore (lsx9 := [(5, .int 0), (4, .int 0), (0, .ref 31), (1, .int a1), (2, .int a2), (3, .int a3)]) rfl rfl rfl ?_
  exact jX.sub (jsb_c rfl (jsb_c rfl (jsb_c rfl (jsb_c rfl (jsb_c rfl (jsb_c rfl jsb_n)))))) (ct_X11_mostOf_r31d_6 hD hQ  201 a1 a2 a3 0 0 h (by have := jk_0; omega) (jr_of rfl (by omega)) (jr_of rfl (by omega)) (jr_of rfl (by omega)) (jr_of jk_0 (by omega)) (jr_of jk_0 (by omega)) J Sm (by rw [jk_0]; exact D) EV)
def fp_X11_fill_r31d : jFp := [(78, 13, 14), (82, 0, 600), (83, 0, 600), (84, 0, 200), (85, 0, 4), (86, 0, 3)]
set_option maxRecDepth 100000 in
set_option maxHeartbeats 4000000 in
theorem ct_X11_fill_r31d_45 {Dy : jH → Prop} {h0 : jH} {Q : Option Value → jH → Prop} {dr : (Int × jW)} (hD : jDk Dy) (hQ : ∀ (v : Int32) hx9, jJ jSgX Dy hx9 → jSm fp_X11_fill_r31d h0 hx9 → dr.1 = v.toInt → dr.2 = vw hx9 → Q (some (.int v)) hx9) : ∀ (h : jH), jJ jSgX Dy h → jSm fp_X11_fill_r31d h0 h → d_X11_fill_r31d_45  (vw h) = dr → jX m_X11_fill 7 0 0 45 [] [] h 0 0 Q := by
  intro  h    J Sm D
  unfold d_X11_fill_r31d_45 at D
  refine x_iconst (v := (-1)) rfl ki_m1 ?_
  refine x_iret rfl rfl ?_
  exact hQ _ _ J Sm ((congrArg Prod.fst D).symm.trans (show (-1) = ((-1) : Int32).toInt from by have := jk_m1; omega)) (congrArg Prod.snd D).symm
set_option maxRecDepth 100000 in
set_option maxHeartbeats 4000000 in
theorem ct_X11_fill_r31d_106 {Dy : jH → Prop} {h0 : jH} {Q : Option Value → jH → Prop} {dr : (Int × jW)} (hD : jDk Dy) (hQ : ∀ (v : Int32) hx9, jJ jSgX Dy hx9 → jSm fp_X11_fill_r31d h0 hx9 → dr.1 = v.toInt → dr.2 = vw hx9 → Q (some (.int v)) hx9) : ∀ (s0 : Int32) (h : jH), jJ jSgX Dy h → jSm fp_X11_fill_r31d h0 h → d_X11_fill_r31d_106  s0.toInt (vw h) = dr → jX m_X11_fill 7 0 0 106 [] [.int s0] h 0 0 Q := by
  intro s0 h    J Sm D
  have es0 := jfull s0
  unfold d_X11_fill_r31d_106 at D
  refine x_iret rfl rfl ?_
  exact hQ _ _ J Sm ((congrArg Prod.fst D).symm.trans (show s0.toInt = s0.toInt from by omega)) (congrArg Prod.snd D).symm
set_option maxRecDepth 100000 in
set_option maxHeartbeats 4000000 in
theorem sf_X11_fill_r31d {Dy : jH → Prop} {h : jH} {Q : Option Value → jH → Prop} {dr : (Int × jW)} {a1 : Int32} {a2 : Int32} {a3 : Int32} {a4 : Int32} {a5 : Int32} (hD : jDk Dy) (J : jJ jSgX Dy h) (D : d_X11_fill_r31d a1.toInt a2.toInt a3.toInt a4.toInt a5.toInt (vw h) = dr) (hQ : ∀ (v : Int32) hx9, jJ jSgX Dy hx9 → jSm fp_X11_fill_r31d h hx9 → dr.1 = v.toInt → dr.2 = vw hx9 → Q (some (.int v)) hx9) : jC m_X11_fill 7 0 0 [.ref 31, .int a1, .int a2, .int a3, .int a4, .int a5] h Q := by
  refine jC.of rfl k_X11_fill rfl ?_
  have Sm := jSm_rf fp_X11_fill_r31d h
  have ea1 := jfull a1
  have ea2 := jfull a2
  have ea3 := jfull a3
  have ea4 := jfull a4
  have ea5 := jfull a5
  show jX m_X11_fill 7 0 0 0 [(0, .ref 31), (1, .int a1), (2, .int a2), (3, .int a3), (4, .int a4), (5, .int a5)] [] _ 0 0 _
  unfold d_X11_fill_r31d at D
  refine x_iloadn (x := a1) rfl rfl ?_
  refine x_inst (N := m_X11_isBook) (As := [.int a1]) (st := []) (dx9 := 1) (mc := 0) (ms := 0) (host := "") rfl t_X11_isBook ⟨Or.inl q_11_112, s_X11_isBook⟩ rfl (by decide) rfl rfl ⟨by decide, by decide⟩ (zc_X11_isBook rfl (fun v1 ev1 => ?_))
  show jX m_X11_fill 7 0 0 4 [(0, .ref 31), (1, .int a1), (2, .int a2), (3, .int a3), (4, .int a4), (5, .int a5)] [.int v1] _ 0 0 _
  refine x_ifeq (tgt := 45) rfl rfl (ti_eq rfl jk_0 ⟨fun c2 => ?_, fun c2 => ?_⟩)
  ·
    rw [if_neg (by omega)] at D
    exact jX.sub jsb_n (ct_X11_fill_r31d_45 hD hQ  h J Sm D)
  ·
    rw [if_pos (by omega)] at D
    refine x_iloadn (x := a2) rfl rfl ?_
    refine x_inst (N := m_X11_isDay) (As := [.int a2]) (st := []) (dx9 := 1) (mc := 0) (ms := 0) (host := "") rfl t_X11_isDay ⟨Or.inl q_11_115, s_X11_isDay⟩ rfl (by decide) rfl rfl ⟨by decide, by decide⟩ (zc_X11_isDay rfl (fun v3 ev3 => ?_))
    show jX m_X11_fill 7 0 0 11 [(0, .ref 31), (1, .int a1), (2, .int a2), (3, .int a3), (4, .int a4), (5, .int a5)] [.int v3] _ 0 0 _
    refine x_ifeq (tgt := 45) rfl rfl (ti_eq rfl jk_0 ⟨fun c4 => ?_, fun c4 => ?_⟩)
    ·
      rw [if_neg (by omega)] at D
      exact jX.sub jsb_n (ct_X11_fill_r31d_45 hD hQ  h J Sm D)
    ·
      rw [if_pos (by omega)] at D
      refine x_iloadn (x := a3) rfl rfl ?_
      refine x_inst (N := m_X11_isDay) (As := [.int a3]) (st := []) (dx9 := 1) (mc := 0) (ms := 0) (host := "") rfl t_X11_isDay ⟨Or.inl q_11_115, s_X11_isDay⟩ rfl (by decide) rfl rfl ⟨by decide, by decide⟩ (zc_X11_isDay rfl (fun v5 ev5 => ?_))
      show jX m_X11_fill 7 0 0 18 [(0, .ref 31), (1, .int a1), (2, .int a2), (3, .int a3), (4, .int a4), (5, .int a5)] [.int v5] _ 0 0 _
      refine x_ifeq (tgt := 45) rfl rfl (ti_eq rfl jk_0 ⟨fun c6 => ?_, fun c6 => ?_⟩)
      ·
        rw [if_neg (by omega)] at D
        exact jX.sub jsb_n (ct_X11_fill_r31d_45 hD hQ  h J Sm D)
      ·
        rw [if_pos (by omega)] at D
        refine x_iloadn (x := a3) rfl rfl ?_
        refine x_iloadn (x := a2) rfl rfl ?_
        refine x_iclt (tgt := 45) rfl rfl (ti_lt rfl rfl ⟨fun c7 => ?_, fun c7 => ?_⟩)
        ·
          rw [if_pos (by omega)] at D
          exact jX.sub jsb_n (ct_X11_fill_r31d_45 hD hQ  h J Sm D)
        ·
          rw [if_neg (by omega)] at D
          refine x_iload (x := a4) rfl rfl ?_
          refine x_inst (N := m_X11_isDay) (As := [.int a4]) (st := []) (dx9 := 1) (mc := 0) (ms := 0) (host := "") rfl t_X11_isDay ⟨Or.inl q_11_115, s_X11_isDay⟩ rfl (by decide) rfl rfl ⟨by decide, by decide⟩ (zc_X11_isDay rfl (fun v8 ev8 => ?_))
          show jX m_X11_fill 7 0 0 31 [(0, .ref 31), (1, .int a1), (2, .int a2), (3, .int a3), (4, .int a4), (5, .int a5)] [.int v8] _ 0 0 _
          refine x_ifeq (tgt := 45) rfl rfl (ti_eq rfl jk_0 ⟨fun c9 => ?_, fun c9 => ?_⟩)
          ·
            rw [if_neg (by omega)] at D
            exact jX.sub jsb_n (ct_X11_fill_r31d_45 hD hQ  h J Sm D)
          ·
            rw [if_pos (by omega)] at D
            refine x_iload (x := a5) rfl rfl ?_
            refine x_iflt (tgt := 45) rfl rfl (ti_lt rfl jk_0 ⟨fun c10 => ?_, fun c10 => ?_⟩)
            ·
              rw [if_pos (by omega)] at D
              exact jX.sub jsb_n (ct_X11_fill_r31d_45 hD hQ  h J Sm D)
            ·
              rw [if_neg (by omega)] at D
              refine x_iload (x := a5) rfl rfl ?_
              refine x_iconst (v := 2) rfl ki_2 ?_
              refine x_icle (tgt := 47) rfl rfl (ti_le rfl jk_2 ⟨fun c11 => ?_, fun c11 => ?_⟩)
              ·
                rw [if_pos (by omega)] at D
                refine x_iload (x := a5) rfl rfl ?_
                refine x_iconst (v := 2) rfl ki_2 ?_
                refine x_icne (tgt := 63) rfl rfl (ti_ne rfl jk_2 ⟨fun c12 => ?_, fun c12 => ?_⟩)
                ·
                  rw [if_neg (by omega)] at D
                  refine x_aloadn (x := 31) rfl rfl ?_
                  refine z_getR (N := 13) (b := 78) 11 4 rfl f_11_41 rfl J rfl 3972 ⟨rfl, rfl⟩ rfl ?_
                  refine x_iload (x := a4) rfl rfl ?_
                  refine x_inv (N := m_X7_asKnown) (As := [.int a4]) (b := 78) (st := []) (dx9 := 6) (mc := 0) (ms := 0) (host := "") 7 rfl t_X7_asKnown ⟨Or.inl q_11_240, i_X7_asKnown.1, i_X7_asKnown.2⟩ ⟨by decide, rfl⟩ (congrArg Prod.fst (J.1.1 78 (7, 16) rfl)) rfl (by decide) rfl rfl ⟨by decide, by decide⟩ (sf_X7_asKnown_r78d (jr_of rfl (by omega)) hD J rfl  (fun h J S13 X14 => ?_))
                  have Sm := jSm_tr rfl Sm S13
                  rw [X14] at D
                  show jX m_X11_fill 7 0 0 72 [(0, .ref 31), (1, .int a1), (2, .int a2), (3, .int a3), (4, .int a4), (5, .int a5)] [] _ 0 0 _
                  refine x_aloadn (x := 31) rfl rfl ?_
                  refine x_iloadn (x := a1) rfl rfl ?_
                  refine x_iloadn (x := a2) rfl rfl ?_
                  refine x_iloadn (x := a3) rfl rfl ?_
                  refine x_inv (N := m_X11_leastOf) (As := [.int a1, .int a2, .int a3]) (b := 31) (st := []) (dx9 := 2) (mc := 0) (ms := 0) (host := "") 11 rfl t_X11_leastOf ⟨Or.inl q_11_319, i_X11_leastOf.1, i_X11_leastOf.2⟩ ⟨by decide, rfl⟩ (congrArg Prod.fst (J.1.1 31 (11, 13) rfl)) rfl (by decide) rfl rfl ⟨by decide, by decide⟩ (sf_X11_leastOf_r31d (jr_of rfl (by omega)) (jr_of rfl (by omega)) (jr_of rfl (by omega)) hD J rfl  (fun v18 h J S15 X16 X17 => ?_))
                  have ev18 := jfull v18
                  have Sm := jSm_tr rfl Sm S15
                  try rw [X16] at D
                  try rw [X17] at D
                  show jX m_X11_fill 7 0 0 79 [(0, .ref 31), (1, .int a1), (2, .int a2), (3, .int a3), (4, .int a4), (5, .int a5)] [.int v18] _ 0 0 _
                  refine x_istore (lsx9 := [(6, .int v18), (0, .ref 31), (1, .int a1), (2, .int a2), (3, .int a3), (4, .int a4), (5, .int a5)]) rfl rfl rfl ?_
                  refine x_iload (x := a5) rfl rfl ?_
                  refine x_ifne (tgt := 91) rfl rfl (ti_ne rfl jk_0 ⟨fun c19 => ?_, fun c19 => ?_⟩)
                  ·
                    rw [if_neg (by omega)] at D
                    refine x_iload (x := v18) rfl rfl ?_
                    refine x_aloadn (x := 31) rfl rfl ?_
                    refine x_iloadn (x := a1) rfl rfl ?_
                    refine x_iloadn (x := a3) rfl rfl ?_
                    refine x_iloadn (x := a2) rfl rfl ?_
                    refine z_isub rfl rfl rfl (by omega) (fun v20 ev20 => ?_)
                    refine x_iload (x := a4) rfl rfl ?_
                    try rw [show (a3.toInt - a2.toInt) = v20.toInt from by omega] at D
                    refine x_inv (N := m_X11_mostOf) (As := [.int a1, .int v20, .int a4]) (b := 31) (st := [.int v18]) (dx9 := 4) (mc := 0) (ms := 0) (host := "") 11 rfl t_X11_mostOf ⟨Or.inl q_11_322, i_X11_mostOf.1, i_X11_mostOf.2⟩ ⟨by decide, rfl⟩ (congrArg Prod.fst (J.1.1 31 (11, 13) rfl)) rfl (by decide) rfl rfl ⟨by decide, by decide⟩ (sf_X11_mostOf_r31d (jr_of rfl (by omega)) (jr_of rfl (by omega)) (jr_of rfl (by omega)) hD J rfl  (fun v24 h ev24 J S21 X22 X23 => ?_))
                    have Sm := jSm_tr rfl Sm S21
                    try rw [X22] at D
                    try rw [← X23] at D
                    show jX m_X11_fill 7 0 0 103 [(6, .int v18), (0, .ref 31), (1, .int a1), (2, .int a2), (3, .int a3), (4, .int a4), (5, .int a5)] [.int v24, .int v18] _ 0 0 _
                    refine z_mmax rfl q_11_193 (by decide) rfl rfl rfl (fun v25 ev25 => ?_)
                    try rw [show (max v18.toInt v24.toInt) = v25.toInt from by omega] at D
                    exact jX.sub jsb_n (ct_X11_fill_r31d_106 hD hQ  v25 h J Sm D)
                  ·
                    rw [if_pos (by omega)] at D
                    refine x_iload (x := v18) rfl rfl ?_
                    refine x_goto (tgt := 106) rfl rfl ?_
                    exact jX.sub jsb_n (ct_X11_fill_r31d_106 hD hQ  v18 h J Sm D)
                ·
                  rw [if_pos (by omega)] at D
                  refine x_aloadn (x := 31) rfl rfl ?_
                  refine x_iloadn (x := a1) rfl rfl ?_
                  refine x_iloadn (x := a2) rfl rfl ?_
                  refine x_iloadn (x := a3) rfl rfl ?_
                  refine x_iload (x := a4) rfl rfl ?_
                  refine x_inv (N := m_X11_guessedOf) (As := [.int a1, .int a2, .int a3, .int a4]) (b := 31) (st := []) (dx9 := 4) (mc := 0) (ms := 0) (host := "") 11 rfl t_X11_guessedOf ⟨Or.inl q_11_315, i_X11_guessedOf.1, i_X11_guessedOf.2⟩ ⟨by decide, rfl⟩ (congrArg Prod.fst (J.1.1 31 (11, 13) rfl)) rfl (by decide) rfl rfl ⟨by decide, by decide⟩ (sf_X11_guessedOf_r31d (jr_of rfl (by omega)) (jr_of rfl (by omega)) (jr_of rfl (by omega)) (jr_of rfl (by omega)) hD J rfl  (fun v29 h J S26 X27 X28 => ?_))
                  have ev29 := jfull v29
                  have Sm := jSm_tr rfl Sm S26
                  try rw [X27] at D
                  try rw [← X28] at D
                  show jX m_X11_fill 7 0 0 62 [(0, .ref 31), (1, .int a1), (2, .int a2), (3, .int a3), (4, .int a4), (5, .int a5)] [.int v29] _ 0 0 _
                  refine x_iret rfl rfl ?_
                  exact hQ _ _ J Sm ((congrArg Prod.fst D).symm.trans (show v29.toInt = v29.toInt from by omega)) (congrArg Prod.snd D).symm
              ·
                rw [if_neg (by omega)] at D
                exact jX.sub jsb_n (ct_X11_fill_r31d_45 hD hQ  h J Sm D)
def fp_X8_at_r45_c2d : jFp := []
set_option maxRecDepth 100000 in
set_option maxHeartbeats 4000000 in
theorem ct_X8_at_r45_c2d_24 {Dy : jH → Prop} {h0 : jH} {Q : Option Value → jH → Prop} {dr : Int} (hD : jDk Dy) (hQ : ∀ (v : Int32) hx9, 0 ≤ v.toInt ∧ v.toInt ≤ 199 → jJ jSgX Dy hx9 → jSm fp_X8_at_r45_c2d h0 hx9 → dr = v.toInt → vw hx9 = vw h0 → Q (some (.int v)) hx9) : ∀ (h : jH), jJ jSgX Dy h → jSm fp_X8_at_r45_c2d h0 h → d_X8_at_r45_c2d_24  (vw h) = dr → vw h = vw h0 → jX m_X8_at 1 0 0 24 [] [] h 0 0 Q := by
  intro  h    J Sm D EV
  unfold d_X8_at_r45_c2d_24 at D
  refine x_iconst (v := 0) rfl ki_0 ?_
  refine x_iret rfl rfl ?_
  exact hQ _ _ (jr_of jk_0 (by omega)) J Sm (D.symm.trans (show 0 = (0 : Int32).toInt from by have := jk_0; omega)) EV
set_option maxRecDepth 100000 in
set_option maxHeartbeats 4000000 in
theorem sf_X8_at_r45_c2d {Dy : jH → Prop} {h : jH} {Q : Option Value → jH → Prop} {dr : Int} {a1 : Int32} (y1 : 0 ≤ a1.toInt ∧ a1.toInt ≤ 39) (hD : jDk Dy) (J : jJ jSgX Dy h) (D : d_X8_at_r45_c2d a1.toInt (vw h) = dr) (hQ : ∀ (v : Int32) hx9, 0 ≤ v.toInt ∧ v.toInt ≤ 199 → jJ jSgX Dy hx9 → jSm fp_X8_at_r45_c2d h hx9 → dr = v.toInt → vw hx9 = vw h → Q (some (.int v)) hx9) : jC m_X8_at 1 0 0 [.ref 45, .int a1, .int 2] h Q := by
  refine jC.of rfl k_X8_at rfl ?_
  have Sm := jSm_rf fp_X8_at_r45_c2d h
  show jX m_X8_at 1 0 0 0 [(0, .ref 45), (1, .int a1), (2, .int 2)] [] _ 0 0 _
  unfold d_X8_at_r45_c2d at D
  have EV : vw h = vw h := rfl
  refine x_iloadn (x := a1) rfl rfl ?_
  refine x_iflt (tgt := 24) rfl rfl (ti_lt rfl jk_0 (br_f (by omega) ?_))
  refine x_iloadn (x := a1) rfl rfl ?_
  refine x_aloadn (x := 45) rfl rfl ?_
  refine z_getI (N := 4) 8 3 rfl f_8_7 rfl J rfl sg_45_3_4_1_0_1 (fun v1 qv1 ev1 => ?_)
  try rw [vrf qv1] at D
  refine x_icge (tgt := 24) rfl rfl (ti_ge rfl rfl ⟨fun c2 => ?_, fun c2 => ?_⟩)
  ·
    rw [if_pos (by omega)] at D
    exact jX.sub jsb_n (ct_X8_at_r45_c2d_24 hD hQ  h J Sm D EV)
  ·
    rw [if_neg (by omega)] at D
    refine x_iloadn (x := 2) rfl rfl ?_
    refine x_iflt (tgt := 24) rfl rfl (ti_lt jk_2 jk_0 (br_f (by omega) ?_))
    refine x_iloadn (x := 2) rfl rfl ?_
    refine x_aloadn (x := 45) rfl rfl ?_
    refine z_getC (N := 4) (v := 3) 8 0 rfl f_8_19 rfl J rfl sg_45_0_1_1_0_1 jk_3 ?_
    refine x_iclt (tgt := 26) rfl rfl (ti_lt jk_2 jk_3 (br_t (by omega) ?_))
    refine x_aloadn (x := 45) rfl rfl ?_
    refine z_getR (N := 4) (b := 46) 8 2 rfl f_8_25 rfl J rfl 5762 ⟨rfl, rfl⟩ rfl ?_
    refine x_iloadn (x := a1) rfl rfl ?_
    refine x_aloadn (x := 45) rfl rfl ?_
    refine z_getC (N := 4) (v := 3) 8 0 rfl f_8_19 rfl J rfl sg_45_0_1_1_0_1 jk_3 ?_
    refine z_imul rfl rfl jk_3 (by omega) (fun v3 ev3 => ?_)
    refine x_iloadn (x := 2) rfl rfl ?_
    refine z_iadd rfl rfl jk_2 (by omega) (fun v4 ev4 => ?_)
    refine z_iald (N := 120) rfl J rfl sg_46_0_120_3_2_3 rfl (by omega) (fun v5 qv5 ev5 => ?_)
    try rw [vrd qv5 (show ((a1.toInt * 3) + 2) = v4.toInt from by omega)] at D
    refine x_iret rfl rfl ?_
    exact hQ _ _ (jr_of rfl (by omega)) J Sm (D.symm.trans (show v5.toInt = v5.toInt from by omega)) EV
def fp_X8_isKnown_r45d : jFp := []
set_option maxRecDepth 100000 in
set_option maxHeartbeats 4000000 in
theorem ct_X8_isKnown_r45d_300032 {Dy : jH → Prop} {h0 : jH} {Q : Option Value → jH → Prop} {dr : Int} (hD : jDk Dy) (hQ : ∀ (v : Int32) hx9, 0 ≤ v.toInt ∧ v.toInt ≤ 1 → jJ jSgX Dy hx9 → jSm fp_X8_isKnown_r45d h0 hx9 → dr = v.toInt → vw hx9 = vw h0 → Q (some (.int v)) hx9) : ∀ (h : jH), jJ jSgX Dy h → jSm fp_X8_isKnown_r45d h0 h → d_X8_isKnown_r45d_300032  (vw h) = dr → vw h = vw h0 → jX m_X8_isKnown 1 0 0 32 [] [.int 1] h 0 0 Q := by
  intro  h    J Sm D EV
  unfold d_X8_isKnown_r45d_300032 at D
  refine x_zret rfl rfl (by decide) ?_
  exact hQ _ _ (jr_of jk_1 (by omega)) J Sm (D.symm.trans (show 1 = (1 : Int32).toInt from by have := jk_1; omega)) EV
set_option maxRecDepth 100000 in
set_option maxHeartbeats 4000000 in
theorem ct_X8_isKnown_r45d_200032 {Dy : jH → Prop} {h0 : jH} {Q : Option Value → jH → Prop} {dr : Int} (hD : jDk Dy) (hQ : ∀ (v : Int32) hx9, 0 ≤ v.toInt ∧ v.toInt ≤ 1 → jJ jSgX Dy hx9 → jSm fp_X8_isKnown_r45d h0 hx9 → dr = v.toInt → vw hx9 = vw h0 → Q (some (.int v)) hx9) : ∀ (h : jH), jJ jSgX Dy h → jSm fp_X8_isKnown_r45d h0 h → d_X8_isKnown_r45d_200032  (vw h) = dr → vw h = vw h0 → jX m_X8_isKnown 1 0 0 32 [] [.int 0] h 0 0 Q := by
  intro  h    J Sm D EV
  unfold d_X8_isKnown_r45d_200032 at D
  refine x_zret rfl rfl (by decide) ?_
  exact hQ _ _ (jr_of jk_0 (by omega)) J Sm (D.symm.trans (show 0 = (0 : Int32).toInt from by have := jk_0; omega)) EV
set_option maxRecDepth 100000 in
set_option maxHeartbeats 4000000 in
theorem ct_X8_isKnown_r45d_31 {Dy : jH → Prop} {h0 : jH} {Q : Option Value → jH → Prop} {dr : Int} (hD : jDk Dy) (hQ : ∀ (v : Int32) hx9, 0 ≤ v.toInt ∧ v.toInt ≤ 1 → jJ jSgX Dy hx9 → jSm fp_X8_isKnown_r45d h0 hx9 → dr = v.toInt → vw hx9 = vw h0 → Q (some (.int v)) hx9) : ∀ (h : jH), jJ jSgX Dy h → jSm fp_X8_isKnown_r45d h0 h → d_X8_isKnown_r45d_31  (vw h) = dr → vw h = vw h0 → jX m_X8_isKnown 1 0 0 31 [] [] h 0 0 Q := by
  intro  h    J Sm D EV
  unfold d_X8_isKnown_r45d_31 at D
  refine x_iconst (v := 0) rfl ki_0 ?_
  exact jX.sub jsb_n (ct_X8_isKnown_r45d_200032 hD hQ  h J Sm D EV)
set_option maxRecDepth 100000 in
set_option maxHeartbeats 4000000 in
theorem sf_X8_isKnown_r45d {Dy : jH → Prop} {h : jH} {Q : Option Value → jH → Prop} {dr : Int} {a1 : Int32} {a2 : Int32} (y1 : 0 ≤ a1.toInt ∧ a1.toInt ≤ 39) (y2 : 0 ≤ a2.toInt ∧ a2.toInt ≤ 146399) (hD : jDk Dy) (J : jJ jSgX Dy h) (D : d_X8_isKnown_r45d a1.toInt a2.toInt (vw h) = dr) (hQ : ∀ (v : Int32) hx9, 0 ≤ v.toInt ∧ v.toInt ≤ 1 → jJ jSgX Dy hx9 → jSm fp_X8_isKnown_r45d h hx9 → dr = v.toInt → vw hx9 = vw h → Q (some (.int v)) hx9) : jC m_X8_isKnown 1 0 0 [.ref 45, .int a1, .int a2] h Q := by
  refine jC.of rfl k_X8_isKnown rfl ?_
  have Sm := jSm_rf fp_X8_isKnown_r45d h
  show jX m_X8_isKnown 1 0 0 0 [(0, .ref 45), (1, .int a1), (2, .int a2)] [] _ 0 0 _
  unfold d_X8_isKnown_r45d at D
  have EV : vw h = vw h := rfl
  refine x_iloadn (x := a1) rfl rfl ?_
  refine x_iflt (tgt := 31) rfl rfl (ti_lt rfl jk_0 (br_f (by omega) ?_))
  refine x_iloadn (x := a1) rfl rfl ?_
  refine x_aloadn (x := 45) rfl rfl ?_
  refine z_getI (N := 4) 8 3 rfl f_8_7 rfl J rfl sg_45_3_4_1_0_1 (fun v1 qv1 ev1 => ?_)
  try rw [vrf qv1] at D
  refine x_icge (tgt := 31) rfl rfl (ti_ge rfl rfl ⟨fun c2 => ?_, fun c2 => ?_⟩)
  ·
    rw [if_pos (by omega)] at D
    exact jX.sub jsb_n (ct_X8_isKnown_r45d_31 hD hQ  h J Sm D EV)
  ·
    rw [if_neg (by omega)] at D
    refine x_aloadn (x := 45) rfl rfl ?_
    refine z_getR (N := 4) (b := 46) 8 2 rfl f_8_25 rfl J rfl 5762 ⟨rfl, rfl⟩ rfl ?_
    refine x_iloadn (x := a1) rfl rfl ?_
    refine x_aloadn (x := 45) rfl rfl ?_
    refine z_getC (N := 4) (v := 3) 8 0 rfl f_8_19 rfl J rfl sg_45_0_1_1_0_1 jk_3 ?_
    refine z_imul rfl rfl jk_3 (by omega) (fun v3 ev3 => ?_)
    refine z_iald (N := 120) rfl J rfl sg_46_0_120_3_0_1 rfl (by omega) (fun v4 qv4 ev4 => ?_)
    try rw [vrd qv4 (show (a1.toInt * 3) = v3.toInt from by omega)] at D
    refine x_iloadn (x := a2) rfl rfl ?_
    refine x_icgt (tgt := 31) rfl rfl (ti_gt rfl rfl ⟨fun c5 => ?_, fun c5 => ?_⟩)
    ·
      rw [if_pos (by omega)] at D
      exact jX.sub jsb_n (ct_X8_isKnown_r45d_31 hD hQ  h J Sm D EV)
    ·
      rw [if_neg (by omega)] at D
      refine x_iconst (v := 1) rfl ki_1 ?_
      refine x_goto (tgt := 32) rfl rfl ?_
      exact jX.sub jsb_n (ct_X8_isKnown_r45d_300032 hD hQ  h J Sm D EV)
def fp_X11_firstAppeal_r31d : jFp := []
set_option maxRecDepth 100000 in
set_option maxHeartbeats 4000000 in
theorem ct_X11_firstAppeal_r31d_49 {Dy : jH → Prop} {h0 : jH} {Q : Option Value → jH → Prop} {dr : Int} {K2 : Int → Int → Int → jW → Int} {R2 : Int} (hD : jDk Dy) (hQ : ∀ (v : Int32) hx9, (-1) ≤ v.toInt ∧ v.toInt ≤ 39 → jJ jSgX Dy hx9 → jSm fp_X11_firstAppeal_r31d h0 hx9 → dr = v.toInt → vw hx9 = vw h0 → Q (some (.int v)) hx9) (k2 : ∀ (l1 : Int32) (l2 : Int32) (l3 : Int32) (h : jH), 40 - l3.toInt < R2 → 0 ≤ l2.toInt ∧ l2.toInt ≤ 146399 → 0 ≤ l3.toInt ∧ l3.toInt ≤ 40 → jJ jSgX Dy h → jSm fp_X11_firstAppeal_r31d h0 h → K2 l1.toInt l2.toInt l3.toInt (vw h) = dr → vw h = vw h0 → jX m_X11_firstAppeal 2 0 0 2 [(0, .ref 31), (1, .int l1), (2, .int l2), (3, .int l3)] [] h 0 0 Q) : ∀ (l1 : Int32) (l2 : Int32) (l3 : Int32) (h : jH), 0 ≤ l2.toInt ∧ l2.toInt ≤ 146399 → 0 ≤ l3.toInt ∧ l3.toInt ≤ 39 → 40 - l3.toInt ≤ R2 → jJ jSgX Dy h → jSm fp_X11_firstAppeal_r31d h0 h → d_X11_firstAppeal_r31d_49 K2  l1.toInt l2.toInt l3.toInt (vw h) = dr → vw h = vw h0 → jX m_X11_firstAppeal 2 0 0 49 [(0, .ref 31), (1, .int l1), (2, .int l2), (3, .int l3)] [] h 0 0 Q := by
  intro l1 l2 l3 h y0 y1  m2 J Sm D EV
  have el1 := jfull l1
  unfold d_X11_firstAppeal_r31d_49 at D
  refine z_iinc (x := l3) (lsx9 := fun v1 => [(3, .int v1), (0, .ref 31), (1, .int l1), (2, .int l2)]) rfl rfl rfl jko_1 (by omega) rfl (fun _ => rfl) (fun v1 ev1 => ?_)
  refine x_goto (tgt := 2) rfl rfl ?_
  try rw [show (l3.toInt + 1) = v1.toInt from by omega] at D
  exact jX.sub (jsb_c rfl (jsb_c rfl (jsb_c rfl (jsb_c rfl jsb_n)))) (k2 l1 l2 v1 h (by omega) (jr_of rfl (by omega)) (jr_of rfl (by omega)) J Sm D EV)
set_option maxRecDepth 100000 in
set_option maxHeartbeats 4000000 in
theorem ct_X11_firstAppeal_r31d_2 {Dy : jH → Prop} {h0 : jH} {Q : Option Value → jH → Prop} {dr : Int} (hD : jDk Dy) (hQ : ∀ (v : Int32) hx9, (-1) ≤ v.toInt ∧ v.toInt ≤ 39 → jJ jSgX Dy hx9 → jSm fp_X11_firstAppeal_r31d h0 hx9 → dr = v.toInt → vw hx9 = vw h0 → Q (some (.int v)) hx9) : ∀ r : Nat, ∀ (l1 : Int32) (l2 : Int32) (l3 : Int32) (h : jH), 40 - l3.toInt < (r : Int) → 0 ≤ l2.toInt ∧ l2.toInt ≤ 146399 → 0 ≤ l3.toInt ∧ l3.toInt ≤ 40 → jJ jSgX Dy h → jSm fp_X11_firstAppeal_r31d h0 h → d_X11_firstAppeal_r31d_2 r l1.toInt l2.toInt l3.toInt (vw h) = dr → vw h = vw h0 → jX m_X11_firstAppeal 2 0 0 2 [(0, .ref 31), (1, .int l1), (2, .int l2), (3, .int l3)] [] h 0 0 Q := by
  intro r
  induction r with
  | zero =>
    intro l1 l2 l3 h hm y0 y1   J Sm D EV
    exfalso
    have el1 := jfull l1
    omega
  | succ r ih =>
    intro l1 l2 l3 h hm y0 y1   J Sm D EV
    have el1 := jfull l1
    rw [d_X11_firstAppeal_r31d_2.eq_2] at D
    refine x_iloadn (x := l3) rfl rfl ?_
    refine x_aloadn (x := 31) rfl rfl ?_
    refine z_getR (N := 13) (b := 32) 11 0 rfl f_11_10 rfl J rfl 3968 ⟨rfl, rfl⟩ rfl ?_
    refine z_getR (N := 20) (b := 45) 1 6 rfl f_11_402 rfl J rfl 4102 ⟨rfl, rfl⟩ rfl ?_
    refine z_getI (N := 4) 8 3 rfl f_11_142 rfl J rfl sg_45_3_4_1_0_1 (fun v1 qv1 ev1 => ?_)
    try rw [vrf qv1] at D
    refine x_icge (tgt := 55) rfl rfl (ti_ge rfl rfl ⟨fun c2 => ?_, fun c2 => ?_⟩)
    ·
      rw [if_pos (by omega)] at D
      refine x_iconst (v := (-1)) rfl ki_m1 ?_
      refine x_iret rfl rfl ?_
      exact hQ _ _ (jr_of jk_m1 (by omega)) J Sm (D.symm.trans (show (-1) = ((-1) : Int32).toInt from by have := jk_m1; omega)) EV
    ·
      rw [if_neg (by omega)] at D
      refine x_aloadn (x := 31) rfl rfl ?_
      refine z_getR (N := 13) (b := 32) 11 0 rfl f_11_10 rfl J rfl 3968 ⟨rfl, rfl⟩ rfl ?_
      refine z_getR (N := 20) (b := 45) 1 6 rfl f_11_402 rfl J rfl 4102 ⟨rfl, rfl⟩ rfl ?_
      refine x_iloadn (x := l3) rfl rfl ?_
      refine x_iconst (v := 2) rfl ki_2 ?_
      refine x_inv (N := m_X8_at) (As := [.int l3, .int 2]) (b := 45) (st := []) (dx9 := 1) (mc := 0) (ms := 0) (host := "") 8 rfl t_X8_at ⟨Or.inl q_11_171, i_X8_at.1, i_X8_at.2⟩ ⟨by decide, rfl⟩ (congrArg Prod.fst (J.1.1 45 (8, 4) rfl)) rfl (by decide) rfl rfl ⟨by decide, by decide⟩ (sf_X8_at_r45_c2d (jr_of rfl (by omega)) hD J rfl  (fun v6 h ev6 J S3 X4 X5 => ?_))
      have Sm := jSm_tr rfl Sm S3
      try rw [X4] at D
      try rw [← X5] at D
      have EV := X5.trans EV
      show jX m_X11_firstAppeal 2 0 0 28 [(0, .ref 31), (1, .int l1), (2, .int l2), (3, .int l3)] [.int v6] _ 0 0 _
      refine x_iloadn (x := l1) rfl rfl ?_
      refine x_icne (tgt := 49) rfl rfl (ti_ne rfl rfl ⟨fun c7 => ?_, fun c7 => ?_⟩)
      ·
        rw [if_neg (by omega)] at D
        exact jX.sub (jsb_c rfl (jsb_c rfl (jsb_c rfl (jsb_c rfl jsb_n)))) (ct_X11_firstAppeal_r31d_49 hD hQ ih l1 l2 l3 h (jr_of rfl (by omega)) (jr_of rfl (by omega)) (by omega) J Sm D EV)
      ·
        rw [if_pos (by omega)] at D
        refine x_aloadn (x := 31) rfl rfl ?_
        refine z_getR (N := 13) (b := 32) 11 0 rfl f_11_10 rfl J rfl 3968 ⟨rfl, rfl⟩ rfl ?_
        refine z_getR (N := 20) (b := 45) 1 6 rfl f_11_402 rfl J rfl 4102 ⟨rfl, rfl⟩ rfl ?_
        refine x_iloadn (x := l3) rfl rfl ?_
        refine x_iloadn (x := l2) rfl rfl ?_
        refine x_inv (N := m_X8_isKnown) (As := [.int l3, .int l2]) (b := 45) (st := []) (dx9 := 1) (mc := 0) (ms := 0) (host := "") 8 rfl t_X8_isKnown ⟨Or.inl q_11_440, i_X8_isKnown.1, i_X8_isKnown.2⟩ ⟨by decide, rfl⟩ (congrArg Prod.fst (J.1.1 45 (8, 4) rfl)) rfl (by decide) rfl rfl ⟨by decide, by decide⟩ (sf_X8_isKnown_r45d (jr_of rfl (by omega)) (jr_of rfl (by omega)) hD J rfl  (fun v11 h ev11 J S8 X9 X10 => ?_))
        have Sm := jSm_tr rfl Sm S8
        try rw [X9] at D
        try rw [← X10] at D
        have EV := X10.trans EV
        show jX m_X11_firstAppeal 2 0 0 44 [(0, .ref 31), (1, .int l1), (2, .int l2), (3, .int l3)] [.int v11] _ 0 0 _
        refine x_ifeq (tgt := 49) rfl rfl (ti_eq rfl jk_0 ⟨fun c12 => ?_, fun c12 => ?_⟩)
        ·
          rw [if_pos (by omega)] at D
          exact jX.sub (jsb_c rfl (jsb_c rfl (jsb_c rfl (jsb_c rfl jsb_n)))) (ct_X11_firstAppeal_r31d_49 hD hQ ih l1 l2 l3 h (jr_of rfl (by omega)) (jr_of rfl (by omega)) (by omega) J Sm D EV)
        ·
          rw [if_neg (by omega)] at D
          refine x_iloadn (x := l3) rfl rfl ?_
          refine x_iret rfl rfl ?_
          exact hQ _ _ (jr_of rfl (by omega)) J Sm (D.symm.trans (show l3.toInt = l3.toInt from by omega)) EV
set_option maxRecDepth 100000 in
set_option maxHeartbeats 4000000 in
theorem sf_X11_firstAppeal_r31d {Dy : jH → Prop} {h : jH} {Q : Option Value → jH → Prop} {dr : Int} {a1 : Int32} {a2 : Int32} (y2 : 0 ≤ a2.toInt ∧ a2.toInt ≤ 146399) (hD : jDk Dy) (J : jJ jSgX Dy h) (D : d_X11_firstAppeal_r31d a1.toInt a2.toInt (vw h) = dr) (hQ : ∀ (v : Int32) hx9, (-1) ≤ v.toInt ∧ v.toInt ≤ 39 → jJ jSgX Dy hx9 → jSm fp_X11_firstAppeal_r31d h hx9 → dr = v.toInt → vw hx9 = vw h → Q (some (.int v)) hx9) : jC m_X11_firstAppeal 2 0 0 [.ref 31, .int a1, .int a2] h Q := by
  refine jC.of rfl k_X11_firstAppeal rfl ?_
  have Sm := jSm_rf fp_X11_firstAppeal_r31d h
  have ea1 := jfull a1
  show jX m_X11_firstAppeal 2 0 0 0 [(0, .ref 31), (1, .int a1), (2, .int a2)] [] _ 0 0 _
  unfold d_X11_firstAppeal_r31d at D
  have EV : vw h = vw h := rfl
  refine x_iconst (v := 0) rfl ki_0 ?_
  refine x_istoren (lsx9 := [(3, .int 0), (0, .ref 31), (1, .int a1), (2, .int a2)]) rfl rfl rfl ?_
  exact jX.sub (jsb_c rfl (jsb_c rfl (jsb_c rfl (jsb_c rfl jsb_n)))) (ct_X11_firstAppeal_r31d_2 hD hQ  41 a1 a2 0 h (by have := jk_0; omega) (jr_of rfl (by omega)) (jr_of jk_0 (by omega)) J Sm (by rw [jk_0]; exact D) EV)
def fp_X11_force_r31d : jFp := [(98, 10, 11), (98, 11, 12), (99, 0, 30), (100, 0, 30), (101, 0, 3)]
set_option maxRecDepth 100000 in
set_option maxHeartbeats 4000000 in
theorem ct_X11_force_r31d_24 {Dy : jH → Prop} {h0 : jH} {Q : Option Value → jH → Prop} {dr : (Int × jW)} (hD : jDk Dy) (hQ : ∀ (v : Int32) hx9, (-1) ≤ v.toInt ∧ v.toInt ≤ 1 → jJ jSgX Dy hx9 → jSm fp_X11_force_r31d h0 hx9 → dr.1 = v.toInt → dr.2 = vw hx9 → Q (some (.int v)) hx9) : ∀ (h : jH), jJ jSgX Dy h → jSm fp_X11_force_r31d h0 h → d_X11_force_r31d_24  (vw h) = dr → jX m_X11_force 4 0 0 24 [] [] h 0 0 Q := by
  intro  h    J Sm D
  unfold d_X11_force_r31d_24 at D
  refine x_iconst (v := (-1)) rfl ki_m1 ?_
  refine x_iret rfl rfl ?_
  exact hQ _ _ (jr_of jk_m1 (by omega)) J Sm ((congrArg Prod.fst D).symm.trans (show (-1) = ((-1) : Int32).toInt from by have := jk_m1; omega)) (congrArg Prod.snd D).symm
set_option maxRecDepth 100000 in
set_option maxHeartbeats 4000000 in
theorem ct_X11_force_r31d_200053 {Dy : jH → Prop} {h0 : jH} {Q : Option Value → jH → Prop} {dr : (Int × jW)} (hD : jDk Dy) (hQ : ∀ (v : Int32) hx9, (-1) ≤ v.toInt ∧ v.toInt ≤ 1 → jJ jSgX Dy hx9 → jSm fp_X11_force_r31d h0 hx9 → dr.1 = v.toInt → dr.2 = vw hx9 → Q (some (.int v)) hx9) : ∀ (h : jH), jJ jSgX Dy h → jSm fp_X11_force_r31d h0 h → d_X11_force_r31d_200053  (vw h) = dr → jX m_X11_force 4 0 0 53 [] [.int 0] h 0 0 Q := by
  intro  h    J Sm D
  unfold d_X11_force_r31d_200053 at D
  refine x_iret rfl rfl ?_
  exact hQ _ _ (jr_of jk_0 (by omega)) J Sm ((congrArg Prod.fst D).symm.trans (show 0 = (0 : Int32).toInt from by have := jk_0; omega)) (congrArg Prod.snd D).symm
set_option maxRecDepth 100000 in
set_option maxHeartbeats 4000000 in
theorem ct_X11_force_r31d_300053 {Dy : jH → Prop} {h0 : jH} {Q : Option Value → jH → Prop} {dr : (Int × jW)} (hD : jDk Dy) (hQ : ∀ (v : Int32) hx9, (-1) ≤ v.toInt ∧ v.toInt ≤ 1 → jJ jSgX Dy hx9 → jSm fp_X11_force_r31d h0 hx9 → dr.1 = v.toInt → dr.2 = vw hx9 → Q (some (.int v)) hx9) : ∀ (h : jH), jJ jSgX Dy h → jSm fp_X11_force_r31d h0 h → d_X11_force_r31d_300053  (vw h) = dr → jX m_X11_force 4 0 0 53 [] [.int 1] h 0 0 Q := by
  intro  h    J Sm D
  unfold d_X11_force_r31d_300053 at D
  refine x_iret rfl rfl ?_
  exact hQ _ _ (jr_of jk_1 (by omega)) J Sm ((congrArg Prod.fst D).symm.trans (show 1 = (1 : Int32).toInt from by have := jk_1; omega)) (congrArg Prod.snd D).symm
set_option maxRecDepth 100000 in
set_option maxHeartbeats 4000000 in
theorem sf_X11_force_r31d {Dy : jH → Prop} {h : jH} {Q : Option Value → jH → Prop} {dr : (Int × jW)} {a1 : Int32} {a2 : Int32} {a3 : Int32} {a4 : Int32} (hD : jDk Dy) (J : jJ jSgX Dy h) (D : d_X11_force_r31d a1.toInt a2.toInt a3.toInt a4.toInt (vw h) = dr) (hQ : ∀ (v : Int32) hx9, (-1) ≤ v.toInt ∧ v.toInt ≤ 1 → jJ jSgX Dy hx9 → jSm fp_X11_force_r31d h hx9 → dr.1 = v.toInt → dr.2 = vw hx9 → Q (some (.int v)) hx9) : jC m_X11_force 4 0 0 [.ref 31, .int a1, .int a2, .int a3, .int a4] h Q := by
  refine jC.of rfl k_X11_force rfl ?_
  have Sm := jSm_rf fp_X11_force_r31d h
  have ea1 := jfull a1
  have ea2 := jfull a2
  have ea3 := jfull a3
  have ea4 := jfull a4
  show jX m_X11_force 4 0 0 0 [(0, .ref 31), (1, .int a1), (2, .int a2), (3, .int a3), (4, .int a4)] [] _ 0 0 _
  unfold d_X11_force_r31d at D
  refine x_aloadn (x := 31) rfl rfl ?_
  refine x_iloadn (x := a1) rfl rfl ?_
  refine x_iloadn (x := a2) rfl rfl ?_
  refine x_inv (N := m_X11_isClause) (As := [.int a1, .int a2]) (b := 31) (st := []) (dx9 := 3) (mc := 0) (ms := 0) (host := "") 11 rfl t_X11_isClause ⟨Or.inl q_11_336, i_X11_isClause.1, i_X11_isClause.2⟩ ⟨by decide, rfl⟩ (congrArg Prod.fst (J.1.1 31 (11, 13) rfl)) rfl (by decide) rfl rfl ⟨by decide, by decide⟩ (jC.of rfl k_X11_isClause rfl ?_)
  show jX m_X11_isClause 3 0 0 0 [(0, .ref 31), (1, .int a1), (2, .int a2)] [] _ 0 0 _
  refine x_iloadn (x := a1) rfl rfl ?_
  refine x_iflt (tgt := 27) rfl rfl (ti_lt rfl jk_0 ⟨fun c1 => ?_, fun c1 => ?_⟩)
  ·
    rw [if_pos (by omega)] at D
    refine x_iconst (v := 0) rfl ki_0 ?_
    refine x_zret rfl rfl (by decide) ?_
    show jX m_X11_force 4 0 0 6 [(0, .ref 31), (1, .int a1), (2, .int a2), (3, .int a3), (4, .int a4)] [.int 0] _ 0 0 _
    refine x_ifeq (tgt := 24) rfl rfl (ti_eq jk_0 jk_0 (br_t (by omega) ?_))
    exact jX.sub jsb_n (ct_X11_force_r31d_24 hD hQ  h J Sm D)
  ·
    rw [if_neg (by omega)] at D
    refine x_iloadn (x := a1) rfl rfl ?_
    refine x_aloadn (x := 31) rfl rfl ?_
    refine z_getR (N := 13) (b := 32) 11 0 rfl f_11_10 rfl J rfl 3968 ⟨rfl, rfl⟩ rfl ?_
    refine z_getI (N := 20) 1 18 rfl f_11_325 rfl J rfl sg_32_18_19_1_0_1 (fun v2 qv2 ev2 => ?_)
    try rw [vrf qv2] at D
    refine x_icge (tgt := 27) rfl rfl (ti_ge rfl rfl ⟨fun c3 => ?_, fun c3 => ?_⟩)
    ·
      rw [if_pos (by omega)] at D
      refine x_iconst (v := 0) rfl ki_0 ?_
      refine x_zret rfl rfl (by decide) ?_
      show jX m_X11_force 4 0 0 6 [(0, .ref 31), (1, .int a1), (2, .int a2), (3, .int a3), (4, .int a4)] [.int 0] _ 0 0 _
      refine x_ifeq (tgt := 24) rfl rfl (ti_eq jk_0 jk_0 (br_t (by omega) ?_))
      exact jX.sub jsb_n (ct_X11_force_r31d_24 hD hQ  h J Sm D)
    ·
      rw [if_neg (by omega)] at D
      refine x_iloadn (x := a1) rfl rfl ?_
      refine x_aloadn (x := 31) rfl rfl ?_
      refine z_getR (N := 13) (b := 32) 11 0 rfl f_11_10 rfl J rfl 3968 ⟨rfl, rfl⟩ rfl ?_
      refine z_getR (N := 20) (b := 66) 1 17 rfl f_11_332 rfl J rfl 4113 ⟨rfl, rfl⟩ rfl ?_
      refine z_alen (N := 30) (v := 30) rfl J rfl rfl (by decide) ?_
      refine x_iclt (tgt := 29) rfl rfl (ti_lt rfl jk_30 (br_t (by omega) ?_))
      refine x_aloadn (x := 31) rfl rfl ?_
      refine z_getR (N := 13) (b := 32) 11 0 rfl f_11_10 rfl J rfl 3968 ⟨rfl, rfl⟩ rfl ?_
      refine z_getR (N := 20) (b := 66) 1 17 rfl f_11_332 rfl J rfl 4113 ⟨rfl, rfl⟩ rfl ?_
      refine x_iloadn (x := a1) rfl rfl ?_
      refine z_aaldTD rfl hD J rfl rfl (by omega) ⟨fun qb4 => ?_, fun b4 qb4 Tb4 => ?_⟩
      ·
        rw [if_pos (vnn qb4 (show a1.toInt = a1.toInt from by omega))] at D
        refine x_astorenN (lsx9 := [(3, .null), (0, .ref 31), (1, .int a1), (2, .int a2)]) rfl rfl rfl ?_
        refine x_aloadnN rfl rfl ?_
        refine x_ifnullN (tgt := 59) rfl rfl ?_
        refine x_iconst (v := 0) rfl ki_0 ?_
        refine x_zret rfl rfl (by decide) ?_
        show jX m_X11_force 4 0 0 6 [(0, .ref 31), (1, .int a1), (2, .int a2), (3, .int a3), (4, .int a4)] [.int 0] _ 0 0 _
        refine x_ifeq (tgt := 24) rfl rfl (ti_eq jk_0 jk_0 (br_t (by omega) ?_))
        exact jX.sub jsb_n (ct_X11_force_r31d_24 hD hQ  h J Sm D)
      ·
        rw [if_neg (vns qb4 (show a1.toInt = a1.toInt from by omega))] at D
        try rw [vrs qb4 (show a1.toInt = a1.toInt from by omega)] at D
        refine x_astoren (lsx9 := [(3, .ref b4), (0, .ref 31), (1, .int a1), (2, .int a2)]) rfl rfl rfl ?_
        refine x_aloadn (x := b4) rfl rfl ?_
        refine x_ifnull rfl ?_
        refine x_iloadn (x := a2) rfl rfl ?_
        refine x_iflt (tgt := 59) rfl rfl (ti_lt rfl jk_0 ⟨fun c5 => ?_, fun c5 => ?_⟩)
        ·
          rw [if_pos (by omega)] at D
          refine x_iconst (v := 0) rfl ki_0 ?_
          refine x_zret rfl rfl (by decide) ?_
          show jX m_X11_force 4 0 0 6 [(0, .ref 31), (1, .int a1), (2, .int a2), (3, .int a3), (4, .int a4)] [.int 0] _ 0 0 _
          refine x_ifeq (tgt := 24) rfl rfl (ti_eq jk_0 jk_0 (br_t (by omega) ?_))
          exact jX.sub jsb_n (ct_X11_force_r31d_24 hD hQ  h J Sm D)
        ·
          rw [if_neg (by omega)] at D
          refine x_iloadn (x := a2) rfl rfl ?_
          refine x_aloadn (x := b4) rfl rfl ?_
          refine z_getTcD rfl f_11_532 Tb4 (fun v6 qv6 ev6 => ?_)
          try rw [vrf qv6] at D
          refine x_icge (tgt := 59) rfl rfl (ti_ge rfl rfl ⟨fun c7 => ?_, fun c7 => ?_⟩)
          ·
            rw [if_pos (by omega)] at D
            refine x_iconst (v := 0) rfl ki_0 ?_
            refine x_zret rfl rfl (by decide) ?_
            show jX m_X11_force 4 0 0 6 [(0, .ref 31), (1, .int a1), (2, .int a2), (3, .int a3), (4, .int a4)] [.int 0] _ 0 0 _
            refine x_ifeq (tgt := 24) rfl rfl (ti_eq jk_0 jk_0 (br_t (by omega) ?_))
            exact jX.sub jsb_n (ct_X11_force_r31d_24 hD hQ  h J Sm D)
          ·
            rw [if_neg (by omega)] at D
            refine x_iconst (v := 1) rfl ki_1 ?_
            refine x_goto (tgt := 60) rfl rfl ?_
            refine x_zret rfl rfl (by decide) ?_
            show jX m_X11_force 4 0 0 6 [(0, .ref 31), (1, .int a1), (2, .int a2), (3, .int a3), (4, .int a4)] [.int 1] _ 0 0 _
            refine x_ifeq (tgt := 24) rfl rfl (ti_eq jk_1 jk_0 (br_f (by omega) ?_))
            refine x_iloadn (x := a3) rfl rfl ?_
            refine x_inst (N := m_X11_isDay) (As := [.int a3]) (st := []) (dx9 := 1) (mc := 0) (ms := 0) (host := "") rfl t_X11_isDay ⟨Or.inl q_11_115, s_X11_isDay⟩ rfl (by decide) rfl rfl ⟨by decide, by decide⟩ (zc_X11_isDay rfl (fun v8 ev8 => ?_))
            show jX m_X11_force 4 0 0 13 [(0, .ref 31), (1, .int a1), (2, .int a2), (3, .int a3), (4, .int a4)] [.int v8] _ 0 0 _
            refine x_ifeq (tgt := 24) rfl rfl (ti_eq rfl jk_0 ⟨fun c9 => ?_, fun c9 => ?_⟩)
            ·
              rw [if_neg (by omega)] at D
              exact jX.sub jsb_n (ct_X11_force_r31d_24 hD hQ  h J Sm D)
            ·
              rw [if_pos (by omega)] at D
              refine x_iload (x := a4) rfl rfl ?_
              refine x_inst (N := m_X11_isDay) (As := [.int a4]) (st := []) (dx9 := 1) (mc := 0) (ms := 0) (host := "") rfl t_X11_isDay ⟨Or.inl q_11_115, s_X11_isDay⟩ rfl (by decide) rfl rfl ⟨by decide, by decide⟩ (zc_X11_isDay rfl (fun v10 ev10 => ?_))
              show jX m_X11_force 4 0 0 21 [(0, .ref 31), (1, .int a1), (2, .int a2), (3, .int a3), (4, .int a4)] [.int v10] _ 0 0 _
              refine x_ifne (tgt := 26) rfl rfl (ti_ne rfl jk_0 ⟨fun c11 => ?_, fun c11 => ?_⟩)
              ·
                rw [if_pos (by omega)] at D
                refine x_aloadn (x := 31) rfl rfl ?_
                refine z_getR (N := 13) (b := 98) 11 7 rfl f_11_66 rfl J rfl 3975 ⟨rfl, rfl⟩ rfl ?_
                refine x_iloadn (x := a3) rfl rfl ?_
                refine x_iload (x := a4) rfl rfl ?_
                refine x_inv (N := m_X0_readLaws) (As := [.int a3, .int a4]) (b := 98) (st := []) (dx9 := 3) (mc := 0) (ms := 0) (host := "") 0 rfl t_X0_readLaws ⟨Or.inl q_11_339, i_X0_readLaws.1, i_X0_readLaws.2⟩ ⟨by decide, rfl⟩ (congrArg Prod.fst (J.1.1 98 (0, 16) rfl)) rfl (by decide) rfl rfl ⟨by decide, by decide⟩ (sf_X0_readLaws_r98d (jr_of rfl (by omega)) (jr_of rfl (by omega)) hD J rfl  (fun h J S12 X13 => ?_))
                have Sm := jSm_tr rfl Sm S12
                rw [X13] at D
                show jX m_X11_force 4 0 0 36 [(0, .ref 31), (1, .int a1), (2, .int a2), (3, .int a3), (4, .int a4)] [] _ 0 0 _
                refine x_aloadn (x := 31) rfl rfl ?_
                refine z_getR (N := 13) (b := 98) 11 7 rfl f_11_66 rfl J rfl 3975 ⟨rfl, rfl⟩ rfl ?_
                refine x_iloadn (x := a1) rfl rfl ?_
                refine x_iloadn (x := a2) rfl rfl ?_
                refine x_inv (N := m_X0_isInForce) (As := [.int a1, .int a2]) (b := 98) (st := []) (dx9 := 3) (mc := 0) (ms := 0) (host := "") 0 rfl t_X0_isInForce ⟨Or.inl q_11_342, i_X0_isInForce.1, i_X0_isInForce.2⟩ ⟨by decide, rfl⟩ (congrArg Prod.fst (J.1.1 98 (0, 16) rfl)) rfl (by decide) rfl rfl ⟨by decide, by decide⟩ (jC.of rfl k_X0_isInForce rfl ?_)
                show jX m_X0_isInForce 3 0 0 0 [(0, .ref 98), (1, .int a1), (2, .int a2)] [] _ 0 0 _
                refine x_iloadn (x := a1) rfl rfl ?_
                refine x_iflt (tgt := 39) rfl rfl (ti_lt rfl jk_0 (br_f (by omega) ?_))
                refine x_iloadn (x := a1) rfl rfl ?_
                refine x_bipush (v := 30) rfl kb_30 ?_
                refine x_icge (tgt := 39) rfl rfl (ti_ge rfl jk_30 (br_f (by omega) ?_))
                refine x_iloadn (x := a1) rfl rfl ?_
                refine x_aloadn (x := 98) rfl rfl ?_
                refine z_getR (N := 16) (b := 32) 0 0 rfl f_0_57 rfl J rfl 12544 ⟨rfl, rfl⟩ rfl ?_
                refine z_getM (N := 20) (v := v2) 1 18 rfl f_0_72 rfl J rfl (jmc S12 rfl qv2) ?_
                refine x_icge (tgt := 39) rfl rfl (ti_ge rfl rfl ⟨fun c14 => ?_, fun c14 => ?_⟩)
                ·
                  rw [if_pos (by omega)] at D
                  refine x_iconst (v := 0) rfl ki_0 ?_
                  refine x_zret rfl rfl (by decide) ?_
                  show jX m_X11_force 4 0 0 45 [(0, .ref 31), (1, .int a1), (2, .int a2), (3, .int a3), (4, .int a4)] [.int 0] _ 0 0 _
                  refine x_ifeq (tgt := 52) rfl rfl (ti_eq jk_0 jk_0 (br_t (by omega) ?_))
                  refine x_iconst (v := 0) rfl ki_0 ?_
                  exact jX.sub jsb_n (ct_X11_force_r31d_200053 hD hQ  h J Sm D)
                ·
                  rw [if_neg (by omega)] at D
                  refine x_aloadn (x := 98) rfl rfl ?_
                  refine z_getR (N := 16) (b := 99) 0 2 rfl f_0_9 rfl J rfl 12546 ⟨rfl, rfl⟩ rfl ?_
                  refine x_iloadn (x := a1) rfl rfl ?_
                  refine z_iald0 (N := 30) rfl J rfl rfl (by omega) (fun v15 qv15 => ?_)
                  have ev15 := jfull v15
                  try rw [vrd qv15 (show a1.toInt = a1.toInt from by omega)] at D
                  refine x_iloadn (x := a2) rfl rfl ?_
                  refine z_ishrW rfl rfl rfl (fun v16 ev16 => ?_)
                  have fv16 := jfull v16
                  try rw [← ev16] at D
                  refine x_iconst (v := 1) rfl ki_1 ?_
                  refine z_iandQ rfl rfl jk_1 (by decide) (fun v17 ev17 => ?_)
                  try rw [← ev17.1] at D
                  refine x_iconst (v := 1) rfl ki_1 ?_
                  refine x_icne (tgt := 39) rfl rfl (ti_ne rfl jk_1 ⟨fun c18 => ?_, fun c18 => ?_⟩)
                  ·
                    rw [if_neg (by omega)] at D
                    refine x_iconst (v := 0) rfl ki_0 ?_
                    refine x_zret rfl rfl (by decide) ?_
                    show jX m_X11_force 4 0 0 45 [(0, .ref 31), (1, .int a1), (2, .int a2), (3, .int a3), (4, .int a4)] [.int 0] _ 0 0 _
                    refine x_ifeq (tgt := 52) rfl rfl (ti_eq jk_0 jk_0 (br_t (by omega) ?_))
                    refine x_iconst (v := 0) rfl ki_0 ?_
                    exact jX.sub jsb_n (ct_X11_force_r31d_200053 hD hQ  h J Sm D)
                  ·
                    rw [if_pos (by omega)] at D
                    refine x_iconst (v := 1) rfl ki_1 ?_
                    refine x_goto (tgt := 40) rfl rfl ?_
                    refine x_zret rfl rfl (by decide) ?_
                    show jX m_X11_force 4 0 0 45 [(0, .ref 31), (1, .int a1), (2, .int a2), (3, .int a3), (4, .int a4)] [.int 1] _ 0 0 _
                    refine x_ifeq (tgt := 52) rfl rfl (ti_eq jk_1 jk_0 (br_f (by omega) ?_))
                    refine x_iconst (v := 1) rfl ki_1 ?_
                    refine x_goto (tgt := 53) rfl rfl ?_
                    exact jX.sub jsb_n (ct_X11_force_r31d_300053 hD hQ  h J Sm D)
              ·
                rw [if_neg (by omega)] at D
                exact jX.sub jsb_n (ct_X11_force_r31d_24 hD hQ  h J Sm D)
