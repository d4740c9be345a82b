def fp_X8_put_r39_c2 : jFp := [(40, 0, 600)]
set_option maxRecDepth 100000 in
set_option maxHeartbeats 4000000 in
theorem ct_X8_put_r39_c2_38 {Dy : jH → Prop} {h0 : jH} {Q : Option Value → jH → Prop} (hD : jDk Dy) (hQ : ∀ h', jJ jSgX Dy h' → jSm fp_X8_put_r39_c2 h0 h' → Q none h') : ∀ (h : jH), jJ jSgX Dy h → jSm fp_X8_put_r39_c2 h0 h → jX m_X8_put 1 0 0 38 [] [] h 0 0 Q := by
  intro  h    J Sm
  refine x_vret rfl rfl ?_
  exact hQ _ J Sm
set_option maxRecDepth 100000 in
set_option maxHeartbeats 4000000 in
theorem sf_X8_put_r39_c2 {Dy : jH → Prop} {h : jH} {Q : Option Value → jH → Prop} {a1 : Int32} {a3 : Int32} (y1 : 0 ≤ a1.toInt ∧ a1.toInt ≤ 199) (y3 : (-1) ≤ a3.toInt ∧ a3.toInt ≤ 599) (hD : jDk Dy) (J : jJ jSgX Dy h) (hQ : ∀ h', jJ jSgX Dy h' → jSm fp_X8_put_r39_c2 h h' → Q none h') : jC m_X8_put 1 0 0 [.ref 39, .int a1, .int 2, .int a3] h Q := by
  refine jC.of rfl k_X8_put rfl ?_
  have Sm := jSm_rf fp_X8_put_r39_c2 h
  show jX m_X8_put 1 0 0 0 [(0, .ref 39), (1, .int a1), (2, .int 2), (3, .int a3)] [] _ 0 0 _
  refine x_iloadn (x := a1) rfl rfl ?_
  refine x_iflt (tgt := 38) rfl rfl (ti_lt rfl jk_0 (br_f (by omega) ?_))
  refine x_iloadn (x := a1) rfl rfl ?_
  refine x_aloadn (x := 39) rfl rfl ?_
  refine z_getI (N := 4) 8 3 rfl f_8_7 rfl J rfl sg_39_3_4_1_0_1 (fun v1 qv1 ev1 => ?_)
  refine x_icge (tgt := 38) rfl rfl (ti_ge rfl rfl ⟨fun c2 => ?_, fun c2 => ?_⟩)
  ·
    exact jX.sub jsb_n (ct_X8_put_r39_c2_38 hD hQ  h J Sm)
  ·
    refine x_iloadn (x := 2) rfl rfl ?_
    refine x_iflt (tgt := 38) rfl rfl (ti_lt jk_2 jk_0 (br_f (by omega) ?_))
    refine x_iloadn (x := 2) rfl rfl ?_
    refine x_aloadn (x := 39) rfl rfl ?_
    refine z_getC (N := 4) (v := 3) 8 0 rfl f_8_19 rfl J rfl sg_39_0_1_1_0_1 jk_3 ?_
    refine x_icge (tgt := 38) rfl rfl (ti_ge jk_2 jk_3 (br_f (by omega) ?_))
    refine x_aloadn (x := 39) rfl rfl ?_
    refine z_getR (N := 4) (b := 40) 8 2 rfl f_8_25 rfl J rfl 4994 ⟨rfl, rfl⟩ rfl ?_
    refine x_iloadn (x := a1) rfl rfl ?_
    refine x_aloadn (x := 39) rfl rfl ?_
    refine z_getC (N := 4) (v := 3) 8 0 rfl f_8_19 rfl J rfl sg_39_0_1_1_0_1 jk_3 ?_
    refine z_imul rfl rfl jk_3 (by omega) (fun v3 ev3 => ?_)
    refine x_iloadn (x := 2) rfl rfl ?_
    refine z_iadd rfl rfl jk_2 (by omega) (fun v4 ev4 => ?_)
    refine x_iloadn (x := a3) rfl rfl ?_
    refine z_iast (N := 600) (l := 0) (u := 600) (w := a3.toInt) rfl hD J Sm rfl rfl rfl (by omega) rfl (wr_40 (fun q1 q2 q3 q4 => by omega) (fun q1 q2 q3 q4 => by omega) (fun q1 q2 q3 q4 => by omega)) rfl (fun h w5 J Sm => ?_)
    exact jX.sub jsb_n (ct_X8_put_r39_c2_38 hD hQ  h J Sm)
def fp_X8_put_r39_c3 : jFp := []
set_option maxRecDepth 100000 in
set_option maxHeartbeats 4000000 in
theorem ct_X8_put_r39_c3_38 {Dy : jH → Prop} {h0 : jH} {Q : Option Value → jH → Prop} (hD : jDk Dy) (hQ : ∀ h', jJ jSgX Dy h' → jSm fp_X8_put_r39_c3 h0 h' → Q none h') : ∀ (h : jH), jJ jSgX Dy h → jSm fp_X8_put_r39_c3 h0 h → jX m_X8_put 1 0 0 38 [] [] h 0 0 Q := by
  intro  h    J Sm
  refine x_vret rfl rfl ?_
  exact hQ _ J Sm
set_option maxRecDepth 100000 in
set_option maxHeartbeats 4000000 in
theorem sf_X8_put_r39_c3 {Dy : jH → Prop} {h : jH} {Q : Option Value → jH → Prop} {a1 : Int32} {a3 : Int32} (y1 : 0 ≤ a1.toInt ∧ a1.toInt ≤ 199) (y3 : 0 ≤ a3.toInt ∧ a3.toInt ≤ 0) (hD : jDk Dy) (J : jJ jSgX Dy h) (hQ : ∀ h', jJ jSgX Dy h' → jSm fp_X8_put_r39_c3 h h' → Q none h') : jC m_X8_put 1 0 0 [.ref 39, .int a1, .int 3, .int a3] h Q := by
  refine jC.of rfl k_X8_put rfl ?_
  have Sm := jSm_rf fp_X8_put_r39_c3 h
  show jX m_X8_put 1 0 0 0 [(0, .ref 39), (1, .int a1), (2, .int 3), (3, .int a3)] [] _ 0 0 _
  refine x_iloadn (x := a1) rfl rfl ?_
  refine x_iflt (tgt := 38) rfl rfl (ti_lt rfl jk_0 (br_f (by omega) ?_))
  refine x_iloadn (x := a1) rfl rfl ?_
  refine x_aloadn (x := 39) rfl rfl ?_
  refine z_getI (N := 4) 8 3 rfl f_8_7 rfl J rfl sg_39_3_4_1_0_1 (fun v1 qv1 ev1 => ?_)
  refine x_icge (tgt := 38) rfl rfl (ti_ge rfl rfl ⟨fun c2 => ?_, fun c2 => ?_⟩)
  ·
    exact jX.sub jsb_n (ct_X8_put_r39_c3_38 hD hQ  h J Sm)
  ·
    refine x_iloadn (x := 3) rfl rfl ?_
    refine x_iflt (tgt := 38) rfl rfl (ti_lt jk_3 jk_0 (br_f (by omega) ?_))
    refine x_iloadn (x := 3) rfl rfl ?_
    refine x_aloadn (x := 39) rfl rfl ?_
    refine z_getC (N := 4) (v := 3) 8 0 rfl f_8_19 rfl J rfl sg_39_0_1_1_0_1 jk_3 ?_
    refine x_icge (tgt := 38) rfl rfl (ti_ge jk_3 jk_3 (br_t (by omega) ?_))
    exact jX.sub jsb_n (ct_X8_put_r39_c3_38 hD hQ  h J Sm)
def fp_X8_put_r39_c4 : jFp := []
set_option maxRecDepth 100000 in
set_option maxHeartbeats 4000000 in
theorem ct_X8_put_r39_c4_38 {Dy : jH → Prop} {h0 : jH} {Q : Option Value → jH → Prop} (hD : jDk Dy) (hQ : ∀ h', jJ jSgX Dy h' → jSm fp_X8_put_r39_c4 h0 h' → Q none h') : ∀ (h : jH), jJ jSgX Dy h → jSm fp_X8_put_r39_c4 h0 h → jX m_X8_put 1 0 0 38 [] [] h 0 0 Q := by
  intro  h    J Sm
  refine x_vret rfl rfl ?_
  exact hQ _ J Sm
set_option maxRecDepth 100000 in
set_option maxHeartbeats 4000000 in
theorem sf_X8_put_r39_c4 {Dy : jH → Prop} {h : jH} {Q : Option Value → jH → Prop} {a1 : Int32} {a3 : Int32} (y1 : 0 ≤ a1.toInt ∧ a1.toInt ≤ 199) (y3 : 0 ≤ a3.toInt ∧ a3.toInt ≤ 0) (hD : jDk Dy) (J : jJ jSgX Dy h) (hQ : ∀ h', jJ jSgX Dy h' → jSm fp_X8_put_r39_c4 h h' → Q none h') : jC m_X8_put 1 0 0 [.ref 39, .int a1, .int 4, .int a3] h Q := by
  refine jC.of rfl k_X8_put rfl ?_
  have Sm := jSm_rf fp_X8_put_r39_c4 h
  show jX m_X8_put 1 0 0 0 [(0, .ref 39), (1, .int a1), (2, .int 4), (3, .int a3)] [] _ 0 0 _
  refine x_iloadn (x := a1) rfl rfl ?_
  refine x_iflt (tgt := 38) rfl rfl (ti_lt rfl jk_0 (br_f (by omega) ?_))
  refine x_iloadn (x := a1) rfl rfl ?_
  refine x_aloadn (x := 39) rfl rfl ?_
  refine z_getI (N := 4) 8 3 rfl f_8_7 rfl J rfl sg_39_3_4_1_0_1 (fun v1 qv1 ev1 => ?_)
  refine x_icge (tgt := 38) rfl rfl (ti_ge rfl rfl ⟨fun c2 => ?_, fun c2 => ?_⟩)
  ·
    exact jX.sub jsb_n (ct_X8_put_r39_c4_38 hD hQ  h J Sm)
  ·
    refine x_iloadn (x := 4) rfl rfl ?_
    refine x_iflt (tgt := 38) rfl rfl (ti_lt jk_4 jk_0 (br_f (by omega) ?_))
    refine x_iloadn (x := 4) rfl rfl ?_
    refine x_aloadn (x := 39) rfl rfl ?_
    refine z_getC (N := 4) (v := 3) 8 0 rfl f_8_19 rfl J rfl sg_39_0_1_1_0_1 jk_3 ?_
    refine x_icge (tgt := 38) rfl rfl (ti_ge jk_4 jk_3 (br_t (by omega) ?_))
    exact jX.sub jsb_n (ct_X8_put_r39_c4_38 hD hQ  h J Sm)
def fp_X8_put_r39_c5 : jFp := []
set_option maxRecDepth 100000 in
set_option maxHeartbeats 4000000 in
theorem ct_X8_put_r39_c5_38 {Dy : jH → Prop} {h0 : jH} {Q : Option Value → jH → Prop} (hD : jDk Dy) (hQ : ∀ h', jJ jSgX Dy h' → jSm fp_X8_put_r39_c5 h0 h' → Q none h') : ∀ (h : jH), jJ jSgX Dy h → jSm fp_X8_put_r39_c5 h0 h → jX m_X8_put 1 0 0 38 [] [] h 0 0 Q := by
  intro  h    J Sm
  refine x_vret rfl rfl ?_
  exact hQ _ J Sm
set_option maxRecDepth 100000 in
set_option maxHeartbeats 4000000 in
theorem sf_X8_put_r39_c5 {Dy : jH → Prop} {h : jH} {Q : Option Value → jH → Prop} {a1 : Int32} {a3 : Int32} (y1 : 0 ≤ a1.toInt ∧ a1.toInt ≤ 199) (y3 : 0 ≤ a3.toInt ∧ a3.toInt ≤ 0) (hD : jDk Dy) (J : jJ jSgX Dy h) (hQ : ∀ h', jJ jSgX Dy h' → jSm fp_X8_put_r39_c5 h h' → Q none h') : jC m_X8_put 1 0 0 [.ref 39, .int a1, .int 5, .int a3] h Q := by
  refine jC.of rfl k_X8_put rfl ?_
  have Sm := jSm_rf fp_X8_put_r39_c5 h
  show jX m_X8_put 1 0 0 0 [(0, .ref 39), (1, .int a1), (2, .int 5), (3, .int a3)] [] _ 0 0 _
  refine x_iloadn (x := a1) rfl rfl ?_
  refine x_iflt (tgt := 38) rfl rfl (ti_lt rfl jk_0 (br_f (by omega) ?_))
  refine x_iloadn (x := a1) rfl rfl ?_
  refine x_aloadn (x := 39) rfl rfl ?_
  refine z_getI (N := 4) 8 3 rfl f_8_7 rfl J rfl sg_39_3_4_1_0_1 (fun v1 qv1 ev1 => ?_)
  refine x_icge (tgt := 38) rfl rfl (ti_ge rfl rfl ⟨fun c2 => ?_, fun c2 => ?_⟩)
  ·
    exact jX.sub jsb_n (ct_X8_put_r39_c5_38 hD hQ  h J Sm)
  ·
    refine x_iloadn (x := 5) rfl rfl ?_
    refine x_iflt (tgt := 38) rfl rfl (ti_lt jk_5 jk_0 (br_f (by omega) ?_))
    refine x_iloadn (x := 5) rfl rfl ?_
    refine x_aloadn (x := 39) rfl rfl ?_
    refine z_getC (N := 4) (v := 3) 8 0 rfl f_8_19 rfl J rfl sg_39_0_1_1_0_1 jk_3 ?_
    refine x_icge (tgt := 38) rfl rfl (ti_ge jk_5 jk_3 (br_t (by omega) ?_))
    exact jX.sub jsb_n (ct_X8_put_r39_c5_38 hD hQ  h J Sm)
def fp_X8_add_r39 : jFp := [(39, 3, 4), (40, 0, 600)]
set_option maxRecDepth 100000 in
set_option maxHeartbeats 4000000 in
theorem sf_X8_add_r39 {Dy : jH → Prop} {h : jH} {Q : Option Value → jH → Prop} {a1 : Int32} {a2 : Int32} {a3 : Int32} {a4 : Int32} {a5 : Int32} {a6 : Int32} (y1 : 0 ≤ a1.toInt ∧ a1.toInt ≤ 146399) (y2 : (-1) ≤ a2.toInt ∧ a2.toInt ≤ 599) (y3 : (-1) ≤ a3.toInt ∧ a3.toInt ≤ 599) (y4 : 0 ≤ a4.toInt ∧ a4.toInt ≤ 0) (y5 : 0 ≤ a5.toInt ∧ a5.toInt ≤ 0) (y6 : 0 ≤ a6.toInt ∧ a6.toInt ≤ 0) (hD : jDk Dy) (J : jJ jSgX Dy h) (hQ : ∀ h', jJ jSgX Dy h' → jSm fp_X8_add_r39 h h' → Q none h') : jC m_X8_add 2 0 0 [.ref 39, .int a1, .int a2, .int a3, .int a4, .int a5, .int a6] h Q := by
  refine jC.of rfl k_X8_add rfl ?_
  have Sm := jSm_rf fp_X8_add_r39 h
  show jX m_X8_add 2 0 0 0 [(0, .ref 39), (1, .int a1), (2, .int a2), (3, .int a3), (4, .int a4), (5, .int a5), (6, .int a6)] [] _ 0 0 _
  refine x_aloadn (x := 39) rfl rfl ?_
  refine z_getI (N := 4) 8 3 rfl f_8_7 rfl J rfl sg_39_3_4_1_0_1 (fun v1 qv1 ev1 => ?_)
  refine x_aloadn (x := 39) rfl rfl ?_
  refine z_getC (N := 4) (v := 200) 8 1 rfl f_8_22 rfl J rfl sg_39_1_2_1_0_1 jk_200 ?_
  refine x_iclt (tgt := 12) rfl rfl (ti_lt rfl jk_200 ⟨fun c2 => ?_, fun c2 => ?_⟩)
  ·
    refine x_aloadn (x := 39) rfl rfl ?_
    refine z_getM (N := 4) (v := v1) 8 3 rfl f_8_7 rfl J rfl qv1 ?_
    refine x_istore (ls' := [(7, .int v1), (0, .ref 39), (1, .int a1), (2, .int a2), (3, .int a3), (4, .int a4), (5, .int a5), (6, .int a6)]) rfl rfl rfl ?_
    refine x_aloadn (x := 39) rfl rfl ?_
    refine x_iload (x := v1) rfl rfl ?_
    refine x_iconst (v := 1) rfl ki_1 ?_
    refine z_iadd rfl rfl jk_1 (by omega) (fun v3 ev3 => ?_)
    refine z_putI (N := 4) (w := v3.toInt) 8 3 rfl f_8_7 rfl (jfin_no TX8 RX8 4 rfl rfl) hD J Sm rfl rfl rfl (pw_39_3 (by omega)) rfl (fun h w4 J Sm => ?_)
    refine x_aloadn (x := 39) rfl rfl ?_
    refine x_iload (x := v1) rfl rfl ?_
    refine x_iconst (v := 0) rfl ki_0 ?_
    refine x_iloadn (x := a1) rfl rfl ?_
    refine x_inv (N := m_X8_put) (As := [.int v1, .int 0, .int a1]) (b := 39) (st := []) (d' := 1) (mc := 0) (ms := 0) (host := "") 8 rfl t_X8_put ⟨Or.inl q_8_29, i_X8_put.1, i_X8_put.2⟩ ⟨by decide, rfl⟩ (congrArg Prod.fst (J.1.1 39 (8, 4) rfl)) rfl (by decide) rfl rfl ⟨by decide, by decide⟩ (sf_X8_put_r39_c0 (jr_of rfl (by omega)) (jr_of rfl (by omega)) hD J  (fun h J S5 => ?_))
    have Sm := jSm_tr rfl Sm S5
    show jX m_X8_add 2 0 0 34 [(7, .int v1), (0, .ref 39), (1, .int a1), (2, .int a2), (3, .int a3), (4, .int a4), (5, .int a5), (6, .int a6)] [] _ 0 0 _
    refine x_aloadn (x := 39) rfl rfl ?_
    refine x_iload (x := v1) rfl rfl ?_
    refine x_iconst (v := 1) rfl ki_1 ?_
    refine x_iloadn (x := a2) rfl rfl ?_
    refine x_inv (N := m_X8_put) (As := [.int v1, .int 1, .int a2]) (b := 39) (st := []) (d' := 1) (mc := 0) (ms := 0) (host := "") 8 rfl t_X8_put ⟨Or.inl q_8_29, i_X8_put.1, i_X8_put.2⟩ ⟨by decide, rfl⟩ (congrArg Prod.fst (J.1.1 39 (8, 4) rfl)) rfl (by decide) rfl rfl ⟨by decide, by decide⟩ (sf_X8_put_r39_c1 (jr_of rfl (by omega)) (jr_of rfl (by omega)) hD J  (fun h J S6 => ?_))
    have Sm := jSm_tr rfl Sm S6
    show jX m_X8_add 2 0 0 42 [(7, .int v1), (0, .ref 39), (1, .int a1), (2, .int a2), (3, .int a3), (4, .int a4), (5, .int a5), (6, .int a6)] [] _ 0 0 _
    refine x_aloadn (x := 39) rfl rfl ?_
    refine x_iload (x := v1) rfl rfl ?_
    refine x_iconst (v := 2) rfl ki_2 ?_
    refine x_iloadn (x := a3) rfl rfl ?_
    refine x_inv (N := m_X8_put) (As := [.int v1, .int 2, .int a3]) (b := 39) (st := []) (d' := 1) (mc := 0) (ms := 0) (host := "") 8 rfl t_X8_put ⟨Or.inl q_8_29, i_X8_put.1, i_X8_put.2⟩ ⟨by decide, rfl⟩ (congrArg Prod.fst (J.1.1 39 (8, 4) rfl)) rfl (by decide) rfl rfl ⟨by decide, by decide⟩ (sf_X8_put_r39_c2 (jr_of rfl (by omega)) (jr_of rfl (by omega)) hD J  (fun h J S7 => ?_))
    have Sm := jSm_tr rfl Sm S7
    show jX m_X8_add 2 0 0 50 [(7, .int v1), (0, .ref 39), (1, .int a1), (2, .int a2), (3, .int a3), (4, .int a4), (5, .int a5), (6, .int a6)] [] _ 0 0 _
    refine x_aloadn (x := 39) rfl rfl ?_
    refine x_iload (x := v1) rfl rfl ?_
    refine x_iconst (v := 3) rfl ki_3 ?_
    refine x_iload (x := a4) rfl rfl ?_
    refine x_inv (N := m_X8_put) (As := [.int v1, .int 3, .int a4]) (b := 39) (st := []) (d' := 1) (mc := 0) (ms := 0) (host := "") 8 rfl t_X8_put ⟨Or.inl q_8_29, i_X8_put.1, i_X8_put.2⟩ ⟨by decide, rfl⟩ (congrArg Prod.fst (J.1.1 39 (8, 4) rfl)) rfl (by decide) rfl rfl ⟨by decide, by decide⟩ (sf_X8_put_r39_c3 (jr_of rfl (by omega)) (jr_of rfl (by omega)) hD J  (fun h J S8 => ?_))
    have Sm := jSm_tr rfl Sm S8
    show jX m_X8_add 2 0 0 59 [(7, .int v1), (0, .ref 39), (1, .int a1), (2, .int a2), (3, .int a3), (4, .int a4), (5, .int a5), (6, .int a6)] [] _ 0 0 _
    refine x_aloadn (x := 39) rfl rfl ?_
    refine x_iload (x := v1) rfl rfl ?_
    refine x_iconst (v := 4) rfl ki_4 ?_
    refine x_iload (x := a5) rfl rfl ?_
    refine x_inv (N := m_X8_put) (As := [.int v1, .int 4, .int a5]) (b := 39) (st := []) (d' := 1) (mc := 0) (ms := 0) (host := "") 8 rfl t_X8_put ⟨Or.inl q_8_29, i_X8_put.1, i_X8_put.2⟩ ⟨by decide, rfl⟩ (congrArg Prod.fst (J.1.1 39 (8, 4) rfl)) rfl (by decide) rfl rfl ⟨by decide, by decide⟩ (sf_X8_put_r39_c4 (jr_of rfl (by omega)) (jr_of rfl (by omega)) hD J  (fun h J S9 => ?_))
    have Sm := jSm_tr rfl Sm S9
    show jX m_X8_add 2 0 0 68 [(7, .int v1), (0, .ref 39), (1, .int a1), (2, .int a2), (3, .int a3), (4, .int a4), (5, .int a5), (6, .int a6)] [] _ 0 0 _
    refine x_aloadn (x := 39) rfl rfl ?_
    refine x_iload (x := v1) rfl rfl ?_
    refine x_iconst (v := 5) rfl ki_5 ?_
    refine x_iload (x := a6) rfl rfl ?_
    refine x_inv (N := m_X8_put) (As := [.int v1, .int 5, .int a6]) (b := 39) (st := []) (d' := 1) (mc := 0) (ms := 0) (host := "") 8 rfl t_X8_put ⟨Or.inl q_8_29, i_X8_put.1, i_X8_put.2⟩ ⟨by decide, rfl⟩ (congrArg Prod.fst (J.1.1 39 (8, 4) rfl)) rfl (by decide) rfl rfl ⟨by decide, by decide⟩ (sf_X8_put_r39_c5 (jr_of rfl (by omega)) (jr_of rfl (by omega)) hD J  (fun h J S10 => ?_))
    have Sm := jSm_tr rfl Sm S10
    show jX m_X8_add 2 0 0 77 [(7, .int v1), (0, .ref 39), (1, .int a1), (2, .int a2), (3, .int a3), (4, .int a4), (5, .int a5), (6, .int a6)] [] _ 0 0 _
    refine x_vret rfl rfl ?_
    exact hQ _ J Sm
  ·
    refine x_vret rfl rfl ?_
    exact hQ _ J Sm
def fp_X7_birthOf_r78 : jFp := []
set_option maxRecDepth 100000 in
set_option maxHeartbeats 4000000 in
theorem ct_X7_birthOf_r78_40 {Dy : jH → Prop} {h0 : jH} {Q : Option Value → jH → Prop} (hD : jDk Dy) (hQ : ∀ (v : Int32) h', (-1) ≤ v.toInt ∧ v.toInt ≤ 599 → jJ jSgX Dy h' → jSm fp_X7_birthOf_r78 h0 h' → Q (some (.int v)) h') : ∀ (h : jH), jJ jSgX Dy h → jSm fp_X7_birthOf_r78 h0 h → jX m_X7_birthOf 1 0 0 40 [] [] h 0 0 Q := by
  intro  h    J Sm
  refine x_iconst (v := (-1)) rfl ki_m1 ?_
  refine x_iret rfl rfl ?_
  exact hQ _ _ (jr_of jk_m1 (by omega)) J Sm
set_option maxRecDepth 100000 in
set_option maxHeartbeats 4000000 in
theorem ct_X7_birthOf_r78_4 {Dy : jH → Prop} {h0 : jH} {Q : Option Value → jH → Prop} (hD : jDk Dy) (hQ : ∀ (v : Int32) h', (-1) ≤ v.toInt ∧ v.toInt ≤ 599 → jJ jSgX Dy h' → jSm fp_X7_birthOf_r78 h0 h' → Q (some (.int v)) h') : ∀ r : Nat, ∀ (l2 : Int32) (l3 : Int32) (h : jH), 600 - l3.toInt < (r : Int) → (-1) ≤ l2.toInt ∧ l2.toInt ≤ 599 → 0 ≤ l3.toInt ∧ l3.toInt ≤ 600 → jJ jSgX Dy h → jSm fp_X7_birthOf_r78 h0 h → jX m_X7_birthOf 1 0 0 4 [(0, .ref 78), (2, .int l2), (3, .int l3)] [] h 0 0 Q := by
  intro r
  induction r with
  | zero =>
    intro l2 l3 h hm y0 y1   J Sm
    exfalso
    omega
  | succ r ih =>
    intro l2 l3 h hm y0 y1   J Sm
    refine x_iloadn (x := l2) rfl rfl ?_
    refine x_iconst (v := (-1)) rfl ki_m1 ?_
    refine x_iceq (tgt := 40) rfl rfl (ti_eq rfl jk_m1 ⟨fun c1 => ?_, fun c1 => ?_⟩)
    ·
      exact jX.sub jsb_n (ct_X7_birthOf_r78_40 hD hQ  h J Sm)
    ·
      refine x_iloadn (x := l3) rfl rfl ?_
      refine x_sipush (v := 600) rfl ks_600 ?_
      refine x_icge (tgt := 40) rfl rfl (ti_ge rfl jk_600 ⟨fun c2 => ?_, fun c2 => ?_⟩)
      ·
        exact jX.sub jsb_n (ct_X7_birthOf_r78_40 hD hQ  h J Sm)
      ·
        refine x_aloadn (x := 78) rfl rfl ?_
        refine z_getR (N := 16) (b := 79) 7 7 rfl f_7_27 rfl J rfl 9991 ⟨rfl, rfl⟩ rfl ?_
        refine x_iloadn (x := l2) rfl rfl ?_
        refine z_iald (N := 600) rfl J rfl sg_79_0_600_1_0_1 rfl (by omega) (fun v3 qv3 ev3 => ?_)
        refine x_ifne (tgt := 27) rfl rfl (ti_ne rfl jk_0 ⟨fun c4 => ?_, fun c4 => ?_⟩)
        ·
          refine x_aloadn (x := 78) rfl rfl ?_
          refine z_getR (N := 16) (b := 83) 7 11 rfl f_7_40 rfl J rfl 9995 ⟨rfl, rfl⟩ rfl ?_
          refine x_iloadn (x := l2) rfl rfl ?_
          refine z_iald (N := 600) rfl J rfl sg_83_0_600_1_0_1 rfl (by omega) (fun v5 qv5 ev5 => ?_)
          refine x_istoren (ls' := [(2, .int v5), (0, .ref 78), (3, .int l3)]) rfl rfl rfl ?_
          refine z_iinc (x := l3) (ls' := fun v6 => [(3, .int v6), (2, .int v5), (0, .ref 78)]) rfl rfl rfl jko_1 (by omega) rfl (fun _ => rfl) (fun v6 ev6 => ?_)
          refine x_goto (tgt := 4) rfl rfl ?_
          exact jX.sub (jsb_c rfl (jsb_c rfl (jsb_c rfl jsb_n))) (ih v5 v6 h (by omega) (jr_of rfl (by omega)) (jr_of rfl (by omega)) J Sm)
        ·
          refine x_iloadn (x := l2) rfl rfl ?_
          refine x_iret rfl rfl ?_
          exact hQ _ _ (jr_of rfl (by omega)) J Sm
set_option maxRecDepth 100000 in
set_option maxHeartbeats 4000000 in
theorem sf_X7_birthOf_r78 {Dy : jH → Prop} {h : jH} {Q : Option Value → jH → Prop} {a1 : Int32} (y1 : 0 ≤ a1.toInt ∧ a1.toInt ≤ 599) (hD : jDk Dy) (J : jJ jSgX Dy h) (hQ : ∀ (v : Int32) h', (-1) ≤ v.toInt ∧ v.toInt ≤ 599 → jJ jSgX Dy h' → jSm fp_X7_birthOf_r78 h h' → Q (some (.int v)) h') : jC m_X7_birthOf 1 0 0 [.ref 78, .int a1] h Q := by
  refine jC.of rfl k_X7_birthOf rfl ?_
  have Sm := jSm_rf fp_X7_birthOf_r78 h
  show jX m_X7_birthOf 1 0 0 0 [(0, .ref 78), (1, .int a1)] [] _ 0 0 _
  refine x_iloadn (x := a1) rfl rfl ?_
  refine x_istoren (ls' := [(2, .int a1), (0, .ref 78), (1, .int a1)]) rfl rfl rfl ?_
  refine x_iconst (v := 0) rfl ki_0 ?_
  refine x_istoren (ls' := [(3, .int 0), (2, .int a1), (0, .ref 78), (1, .int a1)]) rfl rfl rfl ?_
  exact jX.sub (jsb_c rfl (jsb_c rfl (jsb_c rfl jsb_n))) (ct_X7_birthOf_r78_4 hD hQ  601 a1 0 h (by have := jk_0; omega) (jr_of rfl (by omega)) (jr_of jk_0 (by omega)) J Sm)
def fp_X7_childOf_r78 : jFp := []
set_option maxRecDepth 100000 in
set_option maxHeartbeats 4000000 in
theorem ct_X7_childOf_r78_113 {Dy : jH → Prop} {h0 : jH} {Q : Option Value → jH → Prop} (hD : jDk Dy) (hQ : ∀ (v : Int32) h', (-1) ≤ v.toInt ∧ v.toInt ≤ 599 → jJ jSgX Dy h' → jSm fp_X7_childOf_r78 h0 h' → Q (some (.int v)) h') : ∀ (h : jH), jJ jSgX Dy h → jSm fp_X7_childOf_r78 h0 h → jX m_X7_childOf 3 0 0 113 [] [] h 0 0 Q := by
  intro  h    J Sm
  refine x_iconst (v := (-1)) rfl ki_m1 ?_
  refine x_iret rfl rfl ?_
  exact hQ _ _ (jr_of jk_m1 (by omega)) J Sm
set_option maxRecDepth 100000 in
set_option maxHeartbeats 4000000 in
theorem ct_X7_childOf_r78_107 {Dy : jH → Prop} {h0 : jH} {Q : Option Value → jH → Prop} {R5 : Int} (hD : jDk Dy) (hQ : ∀ (v : Int32) h', (-1) ≤ v.toInt ∧ v.toInt ≤ 599 → jJ jSgX Dy h' → jSm fp_X7_childOf_r78 h0 h' → Q (some (.int v)) h') (k5 : ∀ (l1 : Int32) (l2 : Int32) (l3 : Int32) (l4 : Int32) (h : jH), 600 - l4.toInt < R5 → 0 ≤ l1.toInt ∧ l1.toInt ≤ 599 → 0 ≤ l4.toInt ∧ l4.toInt ≤ 600 → l4.toInt % 3 = 0 → jJ jSgX Dy h → jSm fp_X7_childOf_r78 h0 h → jX m_X7_childOf 3 0 0 5 [(0, .ref 78), (1, .int l1), (2, .int l2), (3, .int l3), (4, .int l4)] [] h 0 0 Q) : ∀ (l1 : Int32) (l2 : Int32) (l3 : Int32) (l4 : Int32) (h : jH), 0 ≤ l1.toInt ∧ l1.toInt ≤ 599 → 0 ≤ l4.toInt ∧ l4.toInt ≤ 597 → l4.toInt % 3 = 0 → 600 - l4.toInt ≤ R5 → jJ jSgX Dy h → jSm fp_X7_childOf_r78 h0 h → jX m_X7_childOf 3 0 0 107 [(0, .ref 78), (1, .int l1), (2, .int l2), (3, .int l3), (4, .int l4)] [] h 0 0 Q := by
  intro l1 l2 l3 l4 h y0 y1 y2  m5 J Sm
  have el2 := jfull l2
  have el3 := jfull l3
  refine z_iinc (x := l4) (ls' := fun v1 => [(4, .int v1), (0, .ref 78), (1, .int l1), (2, .int l2), (3, .int l3)]) rfl rfl rfl jko_3 (by omega) rfl (fun _ => rfl) (fun v1 ev1 => ?_)
  refine x_goto (tgt := 5) rfl rfl ?_
  exact jX.sub (jsb_c rfl (jsb_c rfl (jsb_c rfl (jsb_c rfl (jsb_c rfl jsb_n))))) (k5 l1 l2 l3 v1 h (by omega) (jr_of rfl (by omega)) (jr_of rfl (by omega)) (jr_mod rfl (by omega)) J Sm)
set_option maxRecDepth 100000 in
set_option maxHeartbeats 4000000 in
theorem ct_X7_childOf_r78_79 {Dy : jH → Prop} {h0 : jH} {Q : Option Value → jH → Prop} {R5 : Int} (hD : jDk Dy) (hQ : ∀ (v : Int32) h', (-1) ≤ v.toInt ∧ v.toInt ≤ 599 → jJ jSgX Dy h' → jSm fp_X7_childOf_r78 h0 h' → Q (some (.int v)) h') (k5 : ∀ (l1 : Int32) (l2 : Int32) (l3 : Int32) (l4 : Int32) (h : jH), 600 - l4.toInt < R5 → 0 ≤ l1.toInt ∧ l1.toInt ≤ 599 → 0 ≤ l4.toInt ∧ l4.toInt ≤ 600 → l4.toInt % 3 = 0 → jJ jSgX Dy h → jSm fp_X7_childOf_r78 h0 h → jX m_X7_childOf 3 0 0 5 [(0, .ref 78), (1, .int l1), (2, .int l2), (3, .int l3), (4, .int l4)] [] h 0 0 Q) : ∀ (l1 : Int32) (l2 : Int32) (l3 : Int32) (l4 : Int32) (h : jH), 0 ≤ l1.toInt ∧ l1.toInt ≤ 599 → 0 ≤ l4.toInt ∧ l4.toInt ≤ 597 → l4.toInt % 3 = 0 → 600 - l4.toInt ≤ R5 → jJ jSgX Dy h → jSm fp_X7_childOf_r78 h0 h → jX m_X7_childOf 3 0 0 79 [(0, .ref 78), (1, .int l1), (2, .int l2), (3, .int l3), (4, .int l4)] [] h 0 0 Q := by
  intro l1 l2 l3 l4 h y0 y1 y2  m5 J Sm
  have el2 := jfull l2
  have el3 := jfull l3
  refine x_aloadn (x := 78) rfl rfl ?_
  refine z_getR (N := 16) (b := 70) 7 1 rfl f_7_59 rfl J rfl 9985 ⟨rfl, rfl⟩ rfl ?_
  refine x_iload (x := l4) rfl rfl ?_
  refine x_inv (N := m_X5_isNamed) (As := [.int l4]) (b := 70) (st := []) (d' := 2) (mc := 0) (ms := 0) (host := "") 5 rfl t_X5_isNamed ⟨Or.inl q_7_173, i_X5_isNamed.1, i_X5_isNamed.2⟩ ⟨by decide, rfl⟩ (congrArg Prod.fst (J.1.1 70 (5, 9) rfl)) rfl (by decide) rfl rfl ⟨by decide, by decide⟩ (jC.of rfl k_X5_isNamed rfl ?_)
  show jX m_X5_isNamed 2 0 0 0 [(0, .ref 70), (1, .int l4)] [] _ 0 0 _
  refine x_aloadn (x := 70) rfl rfl ?_
  refine x_iloadn (x := l4) rfl rfl ?_
  refine x_iconst (v := 0) rfl ki_0 ?_
  refine x_inv (N := m_X5_lengthOf) (As := [.int l4, .int 0]) (b := 70) (st := []) (d' := 1) (mc := 0) (ms := 0) (host := "") 5 rfl t_X5_lengthOf ⟨Or.inl q_5_133, i_X5_lengthOf.1, i_X5_lengthOf.2⟩ ⟨by decide, rfl⟩ (congrArg Prod.fst (J.1.1 70 (5, 9) rfl)) rfl (by decide) rfl rfl ⟨by decide, by decide⟩ (jC.of rfl k_X5_lengthOf rfl ?_)
  show jX m_X5_lengthOf 1 0 0 0 [(0, .ref 70), (1, .int l4), (2, .int 0)] [] _ 0 0 _
  refine x_iloadn (x := l4) rfl rfl ?_
  refine x_iconst (v := 2) rfl ki_2 ?_
  refine z_imul rfl rfl jk_2 (by omega) (fun v1 ev1 => ?_)
  refine x_iloadn (x := 0) rfl rfl ?_
  refine z_iadd rfl rfl jk_0 (by omega) (fun v2 ev2 => ?_)
  refine x_istoren (ls' := [(3, .int v2), (0, .ref 70), (1, .int l4), (2, .int 0)]) rfl rfl rfl ?_
  refine x_iloadn (x := v2) rfl rfl ?_
  refine x_iflt (tgt := 26) rfl rfl (ti_lt rfl jk_0 (br_f (by omega) ?_))
  refine x_iloadn (x := v2) rfl rfl ?_
  refine x_sipush (v := 1200) rfl ks_1200 ?_
  refine x_icge (tgt := 26) rfl rfl (ti_ge rfl jk_1200 (br_f (by omega) ?_))
  refine x_aloadn (x := 70) rfl rfl ?_
  refine z_getR (N := 9) (b := 76) 5 7 rfl f_5_28 rfl J rfl 8967 ⟨rfl, rfl⟩ rfl ?_
  refine x_iloadn (x := v2) rfl rfl ?_
  refine z_iald (N := 1200) rfl J rfl sg_76_0_1200_1_0_1 rfl (by omega) (fun v3 qv3 ev3 => ?_)
  refine x_goto (tgt := 27) rfl rfl ?_
  refine x_iret rfl rfl ?_
  show jX m_X5_isNamed 2 0 0 6 [(0, .ref 70), (1, .int l4)] [.int v3] _ 0 0 _
  refine x_ifge (tgt := 18) rfl rfl (ti_ge rfl jk_0 (br_t (by omega) ?_))
  refine x_iconst (v := 1) rfl ki_1 ?_
  refine x_goto (tgt := 23) rfl rfl ?_
  refine x_zret rfl rfl (by decide) ?_
  show jX m_X7_childOf 3 0 0 88 [(0, .ref 78), (1, .int l1), (2, .int l2), (3, .int l3), (4, .int l4)] [.int 1] _ 0 0 _
  refine x_ifeq (tgt := 107) rfl rfl (ti_eq jk_1 jk_0 (br_f (by omega) ?_))
  refine x_iloadn (x := l3) rfl rfl ?_
  refine x_iloadn (x := l2) rfl rfl ?_
  refine x_icne (tgt := 104) rfl rfl (ti_ne rfl rfl ⟨fun c4 => ?_, fun c4 => ?_⟩)
  ·
    refine z_iinc0 (x := l3) (ls' := fun v5 => [(3, .int v5), (0, .ref 78), (1, .int l1), (2, .int l2), (4, .int l4)]) rfl rfl rfl (fun _ => rfl) (fun v5 => ?_)
    have ev5 := jfull v5
    exact jX.sub (jsb_c rfl (jsb_c rfl (jsb_c rfl (jsb_c rfl (jsb_c rfl jsb_n))))) (ct_X7_childOf_r78_107 hD hQ k5 l1 l2 v5 l4 h (jr_of rfl (by omega)) (jr_of rfl (by omega)) (jr_mod rfl (by omega)) (by omega) J Sm)
  ·
    refine x_aloadn (x := 78) rfl rfl ?_
    refine z_getR (N := 16) (b := 82) 7 10 rfl f_7_37 rfl J rfl 9994 ⟨rfl, rfl⟩ rfl ?_
    refine x_iload (x := l4) rfl rfl ?_
    refine z_iald (N := 600) rfl J rfl sg_82_0_600_1_0_1 rfl (by omega) (fun v6 qv6 ev6 => ?_)
    refine x_iret rfl rfl ?_
    exact hQ _ _ (jr_of rfl (by omega)) J Sm
set_option maxRecDepth 100000 in
set_option maxHeartbeats 4000000 in
theorem ct_X7_childOf_r78_5 {Dy : jH → Prop} {h0 : jH} {Q : Option Value → jH → Prop} (hD : jDk Dy) (hQ : ∀ (v : Int32) h', (-1) ≤ v.toInt ∧ v.toInt ≤ 599 → jJ jSgX Dy h' → jSm fp_X7_childOf_r78 h0 h' → Q (some (.int v)) h') : ∀ r : Nat, ∀ (l1 : Int32) (l2 : Int32) (l3 : Int32) (l4 : Int32) (h : jH), 600 - l4.toInt < (r : Int) → 0 ≤ l1.toInt ∧ l1.toInt ≤ 599 → 0 ≤ l4.toInt ∧ l4.toInt ≤ 600 → l4.toInt % 3 = 0 → jJ jSgX Dy h → jSm fp_X7_childOf_r78 h0 h → jX m_X7_childOf 3 0 0 5 [(0, .ref 78), (1, .int l1), (2, .int l2), (3, .int l3), (4, .int l4)] [] h 0 0 Q := by
  intro r
  induction r with
  | zero =>
    intro l1 l2 l3 l4 h hm y0 y1 y2   J Sm
    exfalso
    omega
  | succ r ih =>
    intro l1 l2 l3 l4 h hm y0 y1 y2   J Sm
    have el2 := jfull l2
    have el3 := jfull l3
    refine x_iload (x := l4) rfl rfl ?_
    refine x_aloadn (x := 78) rfl rfl ?_
    refine z_getR (N := 16) (b := 32) 7 0 rfl f_7_55 rfl J rfl 9984 ⟨rfl, rfl⟩ rfl ?_
    refine z_getR (N := 20) (b := 33) 1 0 rfl f_7_63 rfl J rfl 4096 ⟨rfl, rfl⟩ rfl ?_
    refine z_getI (N := 4) 8 3 rfl f_7_85 rfl J rfl sg_33_3_4_1_0_1 (fun v1 qv1 ev1 => ?_)
    refine x_iconst (v := 3) rfl ki_3 ?_
    refine z_imul rfl rfl jk_3 (by omega) (fun v2 ev2 => ?_)
    refine x_icge (tgt := 113) rfl rfl (ti_ge rfl rfl ⟨fun c3 => ?_, fun c3 => ?_⟩)
    ·
      exact jX.sub jsb_n (ct_X7_childOf_r78_113 hD hQ  h J Sm)
    ·
      refine x_iload (x := l4) rfl rfl ?_
      refine x_iconst (v := 2) rfl ki_2 ?_
      refine z_iadd rfl rfl jk_2 (by omega) (fun v4 ev4 => ?_)
      refine x_sipush (v := 600) rfl ks_600 ?_
      refine x_icge (tgt := 113) rfl rfl (ti_ge rfl jk_600 (br_f (by omega) ?_))
      refine x_aloadn (x := 78) rfl rfl ?_
      refine z_getR (N := 16) (b := 79) 7 7 rfl f_7_27 rfl J rfl 9991 ⟨rfl, rfl⟩ rfl ?_
      refine x_iload (x := l4) rfl rfl ?_
      refine z_iald (N := 600) rfl J rfl sg_79_0_600_1_0_1 rfl (by omega) (fun v5 qv5 ev5 => ?_)
      refine x_ifne (tgt := 107) rfl rfl (ti_ne rfl jk_0 ⟨fun c6 => ?_, fun c6 => ?_⟩)
      ·
        exact jX.sub (jsb_c rfl (jsb_c rfl (jsb_c rfl (jsb_c rfl (jsb_c rfl jsb_n))))) (ct_X7_childOf_r78_107 hD hQ ih l1 l2 l3 l4 h (jr_of rfl (by omega)) (jr_of rfl (by omega)) (jr_mod rfl (by omega)) (by omega) J Sm)
      ·
        refine x_aloadn (x := 78) rfl rfl ?_
        refine z_getR (N := 16) (b := 82) 7 10 rfl f_7_37 rfl J rfl 9994 ⟨rfl, rfl⟩ rfl ?_
        refine x_iload (x := l4) rfl rfl ?_
        refine z_iald (N := 600) rfl J rfl sg_82_0_600_1_0_1 rfl (by omega) (fun v7 qv7 ev7 => ?_)
        refine x_iconst (v := (-1)) rfl ki_m1 ?_
        refine x_iceq (tgt := 107) rfl rfl (ti_eq rfl jk_m1 ⟨fun c8 => ?_, fun c8 => ?_⟩)
        ·
          exact jX.sub (jsb_c rfl (jsb_c rfl (jsb_c rfl (jsb_c rfl (jsb_c rfl jsb_n))))) (ct_X7_childOf_r78_107 hD hQ ih l1 l2 l3 l4 h (jr_of rfl (by omega)) (jr_of rfl (by omega)) (jr_mod rfl (by omega)) (by omega) J Sm)
        ·
          refine x_aloadn (x := 78) rfl rfl ?_
          refine z_getR (N := 16) (b := 82) 7 10 rfl f_7_37 rfl J rfl 9994 ⟨rfl, rfl⟩ rfl ?_
          refine x_iload (x := l4) rfl rfl ?_
          refine x_iconst (v := 1) rfl ki_1 ?_
          refine z_iadd rfl rfl jk_1 (by omega) (fun v9 ev9 => ?_)
          refine z_iald (N := 600) rfl J rfl sg_82_0_600_1_0_1 rfl (by omega) (fun v10 qv10 ev10 => ?_)
          refine x_iloadn (x := l1) rfl rfl ?_
          refine x_iceq (tgt := 79) rfl rfl (ti_eq rfl rfl ⟨fun c11 => ?_, fun c11 => ?_⟩)
          ·
            exact jX.sub (jsb_c rfl (jsb_c rfl (jsb_c rfl (jsb_c rfl (jsb_c rfl jsb_n))))) (ct_X7_childOf_r78_79 hD hQ ih l1 l2 l3 l4 h (jr_of rfl (by omega)) (jr_of rfl (by omega)) (jr_mod rfl (by omega)) (by omega) J Sm)
          ·
            refine x_aloadn (x := 78) rfl rfl ?_
            refine z_getR (N := 16) (b := 82) 7 10 rfl f_7_37 rfl J rfl 9994 ⟨rfl, rfl⟩ rfl ?_
            refine x_iload (x := l4) rfl rfl ?_
            refine x_iconst (v := 2) rfl ki_2 ?_
            refine z_iadd rfl rfl jk_2 (by omega) (fun v12 ev12 => ?_)
            refine z_iald (N := 600) rfl J rfl sg_82_0_600_1_0_1 rfl (by omega) (fun v13 qv13 ev13 => ?_)
            refine x_iloadn (x := l1) rfl rfl ?_
            refine x_icne (tgt := 107) rfl rfl (ti_ne rfl rfl ⟨fun c14 => ?_, fun c14 => ?_⟩)
            ·
              exact jX.sub (jsb_c rfl (jsb_c rfl (jsb_c rfl (jsb_c rfl (jsb_c rfl jsb_n))))) (ct_X7_childOf_r78_107 hD hQ ih l1 l2 l3 l4 h (jr_of rfl (by omega)) (jr_of rfl (by omega)) (jr_mod rfl (by omega)) (by omega) J Sm)
            ·
              exact jX.sub (jsb_c rfl (jsb_c rfl (jsb_c rfl (jsb_c rfl (jsb_c rfl jsb_n))))) (ct_X7_childOf_r78_79 hD hQ ih l1 l2 l3 l4 h (jr_of rfl (by omega)) (jr_of rfl (by omega)) (jr_mod rfl (by omega)) (by omega) J Sm)
set_option maxRecDepth 100000 in
set_option maxHeartbeats 4000000 in
theorem sf_X7_childOf_r78 {Dy : jH → Prop} {h : jH} {Q : Option Value → jH → Prop} {a1 : Int32} {a2 : Int32} (y1 : 0 ≤ a1.toInt ∧ a1.toInt ≤ 599) (hD : jDk Dy) (J : jJ jSgX Dy h) (hQ : ∀ (v : Int32) h', (-1) ≤ v.toInt ∧ v.toInt ≤ 599 → jJ jSgX Dy h' → jSm fp_X7_childOf_r78 h h' → Q (some (.int v)) h') : jC m_X7_childOf 3 0 0 [.ref 78, .int a1, .int a2] h Q := by
  refine jC.of rfl k_X7_childOf rfl ?_
  have Sm := jSm_rf fp_X7_childOf_r78 h
  have ea2 := jfull a2
  show jX m_X7_childOf 3 0 0 0 [(0, .ref 78), (1, .int a1), (2, .int a2)] [] _ 0 0 _
  refine x_iconst (v := 0) rfl ki_0 ?_
  refine x_istoren (ls' := [(3, .int 0), (0, .ref 78), (1, .int a1), (2, .int a2)]) rfl rfl rfl ?_
  refine x_iconst (v := 0) rfl ki_0 ?_
  refine x_istore (ls' := [(4, .int 0), (3, .int 0), (0, .ref 78), (1, .int a1), (2, .int a2)]) rfl rfl rfl ?_
  exact jX.sub (jsb_c rfl (jsb_c rfl (jsb_c rfl (jsb_c rfl (jsb_c rfl jsb_n))))) (ct_X7_childOf_r78_5 hD hQ  601 a1 a2 0 0 h (by have := jk_0; omega) (jr_of rfl (by omega)) (jr_of jk_0 (by omega)) (jr_mod jk_0 (by omega)) J Sm)
def fp_X7_spouseOf_r78 : jFp := []
set_option maxRecDepth 100000 in
set_option maxHeartbeats 4000000 in
theorem ct_X7_spouseOf_r78_116 {Dy : jH → Prop} {h0 : jH} {Q : Option Value → jH → Prop} (hD : jDk Dy) (hQ : ∀ (v : Int32) h', (-1) ≤ v.toInt ∧ v.toInt ≤ 599 → jJ jSgX Dy h' → jSm fp_X7_spouseOf_r78 h0 h' → Q (some (.int v)) h') : ∀ (h : jH), jJ jSgX Dy h → jSm fp_X7_spouseOf_r78 h0 h → jX m_X7_spouseOf 4 0 0 116 [] [] h 0 0 Q := by
  intro  h    J Sm
  refine x_iconst (v := (-1)) rfl ki_m1 ?_
  refine x_iret rfl rfl ?_
  exact hQ _ _ (jr_of jk_m1 (by omega)) J Sm
set_option maxRecDepth 100000 in
set_option maxHeartbeats 4000000 in
theorem ct_X7_spouseOf_r78_110 {Dy : jH → Prop} {h0 : jH} {Q : Option Value → jH → Prop} {R5 : Int} (hD : jDk Dy) (hQ : ∀ (v : Int32) h', (-1) ≤ v.toInt ∧ v.toInt ≤ 599 → jJ jSgX Dy h' → jSm fp_X7_spouseOf_r78 h0 h' → Q (some (.int v)) h') (k5 : ∀ (l1 : Int32) (l2 : Int32) (l3 : Int32) (l4 : Int32) (h : jH), 600 - l4.toInt < R5 → 0 ≤ l1.toInt ∧ l1.toInt ≤ 599 → 0 ≤ l4.toInt ∧ l4.toInt ≤ 600 → l4.toInt % 3 = 0 → jJ jSgX Dy h → jSm fp_X7_spouseOf_r78 h0 h → jX m_X7_spouseOf 4 0 0 5 [(0, .ref 78), (1, .int l1), (2, .int l2), (3, .int l3), (4, .int l4)] [] h 0 0 Q) : ∀ (l1 : Int32) (l2 : Int32) (l3 : Int32) (l4 : Int32) (h : jH), 0 ≤ l1.toInt ∧ l1.toInt ≤ 599 → 0 ≤ l4.toInt ∧ l4.toInt ≤ 597 → l4.toInt % 3 = 0 → 600 - l4.toInt ≤ R5 → jJ jSgX Dy h → jSm fp_X7_spouseOf_r78 h0 h → jX m_X7_spouseOf 4 0 0 110 [(0, .ref 78), (1, .int l1), (2, .int l2), (3, .int l3), (4, .int l4)] [] h 0 0 Q := by
  intro l1 l2 l3 l4 h y0 y1 y2  m5 J Sm
  have el2 := jfull l2
  have el3 := jfull l3
  refine z_iinc (x := l4) (ls' := fun v1 => [(4, .int v1), (0, .ref 78), (1, .int l1), (2, .int l2), (3, .int l3)]) rfl rfl rfl jko_3 (by omega) rfl (fun _ => rfl) (fun v1 ev1 => ?_)
  refine x_goto (tgt := 5) rfl rfl ?_
  exact jX.sub (jsb_c rfl (jsb_c rfl (jsb_c rfl (jsb_c rfl (jsb_c rfl jsb_n))))) (k5 l1 l2 l3 v1 h (by omega) (jr_of rfl (by omega)) (jr_of rfl (by omega)) (jr_mod rfl (by omega)) J Sm)
set_option maxRecDepth 100000 in
set_option maxHeartbeats 4000000 in
theorem ct_X7_spouseOf_r78_88 {Dy : jH → Prop} {h0 : jH} {Q : Option Value → jH → Prop} {R5 : Int} (hD : jDk Dy) (hQ : ∀ (v : Int32) h', (-1) ≤ v.toInt ∧ v.toInt ≤ 599 → jJ jSgX Dy h' → jSm fp_X7_spouseOf_r78 h0 h' → Q (some (.int v)) h') (k5 : ∀ (l1 : Int32) (l2 : Int32) (l3 : Int32) (l4 : Int32) (h : jH), 600 - l4.toInt < R5 → 0 ≤ l1.toInt ∧ l1.toInt ≤ 599 → 0 ≤ l4.toInt ∧ l4.toInt ≤ 600 → l4.toInt % 3 = 0 → jJ jSgX Dy h → jSm fp_X7_spouseOf_r78 h0 h → jX m_X7_spouseOf 4 0 0 5 [(0, .ref 78), (1, .int l1), (2, .int l2), (3, .int l3), (4, .int l4)] [] h 0 0 Q) : ∀ (l1 : Int32) (l2 : Int32) (l3 : Int32) (l4 : Int32) (s0 : Int32) (g0 : Int32) (h : jH), 0 ≤ l1.toInt ∧ l1.toInt ≤ 599 → 0 ≤ l4.toInt ∧ l4.toInt ≤ 597 → l4.toInt % 3 = 0 → 0 ≤ s0.toInt ∧ s0.toInt ≤ 598 → 0 ≤ g0.toInt ∧ g0.toInt ≤ 200 → jiv h 33 3 = g0 → 600 - l4.toInt ≤ R5 → jJ jSgX Dy h → jSm fp_X7_spouseOf_r78 h0 h → jX m_X7_spouseOf 4 0 0 88 [(0, .ref 78), (1, .int l1), (2, .int l2), (3, .int l3), (4, .int l4)] [.int s0, .ref 78] h 0 0 Q := by
  intro l1 l2 l3 l4 s0 g0 h y0 y1 y2 y3 y4 z0 m5 J Sm
  have el2 := jfull l2
  have el3 := jfull l3
  refine x_inv (N := m_X7_namedSoul) (As := [.int s0]) (b := 78) (st := []) (d' := 3) (mc := 0) (ms := 0) (host := "") 7 rfl t_X7_namedSoul ⟨Or.inl q_7_179, i_X7_namedSoul.1, i_X7_namedSoul.2⟩ ⟨by decide, rfl⟩ (congrArg Prod.fst (J.1.1 78 (7, 16) rfl)) rfl (by decide) rfl rfl ⟨by decide, by decide⟩ (jC.of rfl k_X7_namedSoul rfl ?_)
  show jX m_X7_namedSoul 3 0 0 0 [(0, .ref 78), (1, .int s0)] [] _ 0 0 _
  refine x_aloadn (x := 78) rfl rfl ?_
  refine z_getR (N := 16) (b := 70) 7 1 rfl f_7_59 rfl J rfl 9985 ⟨rfl, rfl⟩ rfl ?_
  refine x_iloadn (x := s0) rfl rfl ?_
  refine x_inv (N := m_X5_isNamed) (As := [.int s0]) (b := 70) (st := []) (d' := 2) (mc := 0) (ms := 0) (host := "") 5 rfl t_X5_isNamed ⟨Or.inl q_7_173, i_X5_isNamed.1, i_X5_isNamed.2⟩ ⟨by decide, rfl⟩ (congrArg Prod.fst (J.1.1 70 (5, 9) rfl)) rfl (by decide) rfl rfl ⟨by decide, by decide⟩ (jC.of rfl k_X5_isNamed rfl ?_)
  show jX m_X5_isNamed 2 0 0 0 [(0, .ref 70), (1, .int s0)] [] _ 0 0 _
  refine x_aloadn (x := 70) rfl rfl ?_
  refine x_iloadn (x := s0) rfl rfl ?_
  refine x_iconst (v := 0) rfl ki_0 ?_
  refine x_inv (N := m_X5_lengthOf) (As := [.int s0, .int 0]) (b := 70) (st := []) (d' := 1) (mc := 0) (ms := 0) (host := "") 5 rfl t_X5_lengthOf ⟨Or.inl q_5_133, i_X5_lengthOf.1, i_X5_lengthOf.2⟩ ⟨by decide, rfl⟩ (congrArg Prod.fst (J.1.1 70 (5, 9) rfl)) rfl (by decide) rfl rfl ⟨by decide, by decide⟩ (jC.of rfl k_X5_lengthOf rfl ?_)
  show jX m_X5_lengthOf 1 0 0 0 [(0, .ref 70), (1, .int s0), (2, .int 0)] [] _ 0 0 _
  refine x_iloadn (x := s0) rfl rfl ?_
  refine x_iconst (v := 2) rfl ki_2 ?_
  refine z_imul rfl rfl jk_2 (by omega) (fun v1 ev1 => ?_)
  refine x_iloadn (x := 0) rfl rfl ?_
  refine z_iadd rfl rfl jk_0 (by omega) (fun v2 ev2 => ?_)
  refine x_istoren (ls' := [(3, .int v2), (0, .ref 70), (1, .int s0), (2, .int 0)]) rfl rfl rfl ?_
  refine x_iloadn (x := v2) rfl rfl ?_
  refine x_iflt (tgt := 26) rfl rfl (ti_lt rfl jk_0 (br_f (by omega) ?_))
  refine x_iloadn (x := v2) rfl rfl ?_
  refine x_sipush (v := 1200) rfl ks_1200 ?_
  refine x_icge (tgt := 26) rfl rfl (ti_ge rfl jk_1200 (br_f (by omega) ?_))
  refine x_aloadn (x := 70) rfl rfl ?_
  refine z_getR (N := 9) (b := 76) 5 7 rfl f_5_28 rfl J rfl 8967 ⟨rfl, rfl⟩ rfl ?_
  refine x_iloadn (x := v2) rfl rfl ?_
  refine z_iald (N := 1200) rfl J rfl sg_76_0_1200_1_0_1 rfl (by omega) (fun v3 qv3 ev3 => ?_)
  refine x_goto (tgt := 27) rfl rfl ?_
  refine x_iret rfl rfl ?_
  show jX m_X5_isNamed 2 0 0 6 [(0, .ref 70), (1, .int s0)] [.int v3] _ 0 0 _
  refine x_ifge (tgt := 18) rfl rfl (ti_ge rfl jk_0 (br_t (by omega) ?_))
  refine x_iconst (v := 1) rfl ki_1 ?_
  refine x_goto (tgt := 23) rfl rfl ?_
  refine x_zret rfl rfl (by decide) ?_
  show jX m_X7_namedSoul 3 0 0 8 [(0, .ref 78), (1, .int s0)] [.int 1] _ 0 0 _
  refine x_ifeq (tgt := 19) rfl rfl (ti_eq jk_1 jk_0 (br_f (by omega) ?_))
  refine x_aloadn (x := 78) rfl rfl ?_
  refine x_iloadn (x := s0) rfl rfl ?_
  refine x_inv (N := m_X7_soulAt) (As := [.int s0]) (b := 78) (st := []) (d' := 2) (mc := 0) (ms := 0) (host := "") 7 rfl t_X7_soulAt ⟨Or.inl q_7_153, i_X7_soulAt.1, i_X7_soulAt.2⟩ ⟨by decide, rfl⟩ (congrArg Prod.fst (J.1.1 78 (7, 16) rfl)) rfl (by decide) rfl rfl ⟨by decide, by decide⟩ (jC.of rfl k_X7_soulAt rfl ?_)
  show jX m_X7_soulAt 2 0 0 0 [(0, .ref 78), (1, .int s0)] [] _ 0 0 _
  refine x_iloadn (x := s0) rfl rfl ?_
  refine x_iflt (tgt := 36) rfl rfl (ti_lt rfl jk_0 (br_f (by omega) ?_))
  refine x_iloadn (x := s0) rfl rfl ?_
  refine x_sipush (v := 600) rfl ks_600 ?_
  refine x_icge (tgt := 36) rfl rfl (ti_ge rfl jk_600 (br_f (by omega) ?_))
  refine x_iloadn (x := s0) rfl rfl ?_
  refine x_iconst (v := 3) rfl ki_3 ?_
  refine z_idiv rfl rfl jk_3 (by omega) (by omega) (fun v4 ev4 => ?_)
  refine x_aloadn (x := 78) rfl rfl ?_
  refine z_getR (N := 16) (b := 32) 7 0 rfl f_7_55 rfl J rfl 9984 ⟨rfl, rfl⟩ rfl ?_
  refine z_getR (N := 20) (b := 33) 1 0 rfl f_7_63 rfl J rfl 4096 ⟨rfl, rfl⟩ rfl ?_
  refine z_getM (N := 4) (v := g0) 8 3 rfl f_7_85 rfl J rfl z0 ?_
  refine x_icge (tgt := 36) rfl rfl (ti_ge rfl rfl ⟨fun c5 => ?_, fun c5 => ?_⟩)
  ·
    refine x_iconst (v := (-1)) rfl ki_m1 ?_
    refine x_iret rfl rfl ?_
    show jX m_X7_namedSoul 3 0 0 16 [(0, .ref 78), (1, .int s0)] [.int (-1)] _ 0 0 _
    refine x_goto (tgt := 20) rfl rfl ?_
    refine x_iret rfl rfl ?_
    show jX m_X7_spouseOf 4 0 0 91 [(0, .ref 78), (1, .int l1), (2, .int l2), (3, .int l3), (4, .int l4)] [.int (-1)] _ 0 0 _
    refine x_istore (ls' := [(5, .int (-1)), (0, .ref 78), (1, .int l1), (2, .int l2), (3, .int l3), (4, .int l4)]) rfl rfl rfl ?_
    refine x_iload (x := (-1)) rfl rfl ?_
    refine x_iconst (v := (-1)) rfl ki_m1 ?_
    refine x_iceq (tgt := 110) rfl rfl (ti_eq jk_m1 jk_m1 (br_t (by omega) ?_))
    exact jX.sub (jsb_c rfl (jsb_c rfl (jsb_c rfl (jsb_c rfl (jsb_c rfl jsb_n))))) (ct_X7_spouseOf_r78_110 hD hQ k5 l1 l2 l3 l4 h (jr_of rfl (by omega)) (jr_of rfl (by omega)) (jr_mod rfl (by omega)) (by omega) J Sm)
  ·
    refine x_aloadn (x := 78) rfl rfl ?_
    refine z_getR (N := 16) (b := 82) 7 10 rfl f_7_37 rfl J rfl 9994 ⟨rfl, rfl⟩ rfl ?_
    refine x_iloadn (x := s0) rfl rfl ?_
    refine z_iald (N := 600) rfl J rfl sg_82_0_600_1_0_1 rfl (by omega) (fun v6 qv6 ev6 => ?_)
    refine x_goto (tgt := 37) rfl rfl ?_
    refine x_iret rfl rfl ?_
    show jX m_X7_namedSoul 3 0 0 16 [(0, .ref 78), (1, .int s0)] [.int v6] _ 0 0 _
    refine x_goto (tgt := 20) rfl rfl ?_
    refine x_iret rfl rfl ?_
    show jX m_X7_spouseOf 4 0 0 91 [(0, .ref 78), (1, .int l1), (2, .int l2), (3, .int l3), (4, .int l4)] [.int v6] _ 0 0 _
    refine x_istore (ls' := [(5, .int v6), (0, .ref 78), (1, .int l1), (2, .int l2), (3, .int l3), (4, .int l4)]) rfl rfl rfl ?_
    refine x_iload (x := v6) rfl rfl ?_
    refine x_iconst (v := (-1)) rfl ki_m1 ?_
    refine x_iceq (tgt := 110) rfl rfl (ti_eq rfl jk_m1 ⟨fun c7 => ?_, fun c7 => ?_⟩)
    ·
      exact jX.sub (jsb_c rfl (jsb_c rfl (jsb_c rfl (jsb_c rfl (jsb_c rfl jsb_n))))) (ct_X7_spouseOf_r78_110 hD hQ k5 l1 l2 l3 l4 h (jr_of rfl (by omega)) (jr_of rfl (by omega)) (jr_mod rfl (by omega)) (by omega) J Sm)
    ·
      refine x_iloadn (x := l3) rfl rfl ?_
      refine x_iloadn (x := l2) rfl rfl ?_
      refine x_icne (tgt := 107) rfl rfl (ti_ne rfl rfl ⟨fun c8 => ?_, fun c8 => ?_⟩)
      ·
        refine z_iinc0 (x := l3) (ls' := fun v9 => [(3, .int v9), (5, .int v6), (0, .ref 78), (1, .int l1), (2, .int l2), (4, .int l4)]) rfl rfl rfl (fun _ => rfl) (fun v9 => ?_)
        have ev9 := jfull v9
        exact jX.sub (jsb_c rfl (jsb_c rfl (jsb_c rfl (jsb_c rfl (jsb_c rfl jsb_n))))) (ct_X7_spouseOf_r78_110 hD hQ k5 l1 l2 v9 l4 h (jr_of rfl (by omega)) (jr_of rfl (by omega)) (jr_mod rfl (by omega)) (by omega) J Sm)
      ·
        refine x_iload (x := v6) rfl rfl ?_
        refine x_iret rfl rfl ?_
        exact hQ _ _ (jr_of rfl (by omega)) J Sm
set_option maxRecDepth 100000 in
set_option maxHeartbeats 4000000 in
theorem ct_X7_spouseOf_r78_67 {Dy : jH → Prop} {h0 : jH} {Q : Option Value → jH → Prop} {R5 : Int} (hD : jDk Dy) (hQ : ∀ (v : Int32) h', (-1) ≤ v.toInt ∧ v.toInt ≤ 599 → jJ jSgX Dy h' → jSm fp_X7_spouseOf_r78 h0 h' → Q (some (.int v)) h') (k5 : ∀ (l1 : Int32) (l2 : Int32) (l3 : Int32) (l4 : Int32) (h : jH), 600 - l4.toInt < R5 → 0 ≤ l1.toInt ∧ l1.toInt ≤ 599 → 0 ≤ l4.toInt ∧ l4.toInt ≤ 600 → l4.toInt % 3 = 0 → jJ jSgX Dy h → jSm fp_X7_spouseOf_r78 h0 h → jX m_X7_spouseOf 4 0 0 5 [(0, .ref 78), (1, .int l1), (2, .int l2), (3, .int l3), (4, .int l4)] [] h 0 0 Q) : ∀ (l1 : Int32) (l2 : Int32) (l3 : Int32) (l4 : Int32) (g0 : Int32) (h : jH), 0 ≤ l1.toInt ∧ l1.toInt ≤ 599 → 0 ≤ l4.toInt ∧ l4.toInt ≤ 597 → l4.toInt % 3 = 0 → 0 ≤ g0.toInt ∧ g0.toInt ≤ 200 → jiv h 33 3 = g0 → 600 - l4.toInt ≤ R5 → jJ jSgX Dy h → jSm fp_X7_spouseOf_r78 h0 h → jX m_X7_spouseOf 4 0 0 67 [(0, .ref 78), (1, .int l1), (2, .int l2), (3, .int l3), (4, .int l4)] [] h 0 0 Q := by
  intro l1 l2 l3 l4 g0 h y0 y1 y2 y3 z0 m5 J Sm
  have el2 := jfull l2
  have el3 := jfull l3
  refine x_aloadn (x := 78) rfl rfl ?_
  refine x_aloadn (x := 78) rfl rfl ?_
  refine z_getR (N := 16) (b := 82) 7 10 rfl f_7_37 rfl J rfl 9994 ⟨rfl, rfl⟩ rfl ?_
  refine x_iload (x := l4) rfl rfl ?_
  refine z_iald (N := 600) rfl J rfl sg_82_0_600_1_0_1 rfl (by omega) (fun v1 qv1 ev1 => ?_)
  refine x_iloadn (x := l1) rfl rfl ?_
  refine x_icne (tgt := 86) rfl rfl (ti_ne rfl rfl ⟨fun c2 => ?_, fun c2 => ?_⟩)
  ·
    refine x_iload (x := l4) rfl rfl ?_
    exact jX.sub (jsb_c rfl (jsb_c rfl (jsb_c rfl (jsb_c rfl (jsb_c rfl jsb_n))))) (ct_X7_spouseOf_r78_88 hD hQ k5 l1 l2 l3 l4 l4 g0 h (jr_of rfl (by omega)) (jr_of rfl (by omega)) (jr_mod rfl (by omega)) (jr_of rfl (by omega)) (jr_of rfl (by omega)) z0 (by omega) J Sm)
  ·
    refine x_iload (x := l4) rfl rfl ?_
    refine x_iconst (v := 1) rfl ki_1 ?_
    refine z_iadd rfl rfl jk_1 (by omega) (fun v3 ev3 => ?_)
    refine x_goto (tgt := 88) rfl rfl ?_
    exact jX.sub (jsb_c rfl (jsb_c rfl (jsb_c rfl (jsb_c rfl (jsb_c rfl jsb_n))))) (ct_X7_spouseOf_r78_88 hD hQ k5 l1 l2 l3 l4 v3 g0 h (jr_of rfl (by omega)) (jr_of rfl (by omega)) (jr_mod rfl (by omega)) (jr_of rfl (by omega)) (jr_of rfl (by omega)) z0 (by omega) J Sm)
set_option maxRecDepth 100000 in
set_option maxHeartbeats 4000000 in
theorem ct_X7_spouseOf_r78_5 {Dy : jH → Prop} {h0 : jH} {Q : Option Value → jH → Prop} (hD : jDk Dy) (hQ : ∀ (v : Int32) h', (-1) ≤ v.toInt ∧ v.toInt ≤ 599 → jJ jSgX Dy h' → jSm fp_X7_spouseOf_r78 h0 h' → Q (some (.int v)) h') : ∀ r : Nat, ∀ (l1 : Int32) (l2 : Int32) (l3 : Int32) (l4 : Int32) (h : jH), 600 - l4.toInt < (r : Int) → 0 ≤ l1.toInt ∧ l1.toInt ≤ 599 → 0 ≤ l4.toInt ∧ l4.toInt ≤ 600 → l4.toInt % 3 = 0 → jJ jSgX Dy h → jSm fp_X7_spouseOf_r78 h0 h → jX m_X7_spouseOf 4 0 0 5 [(0, .ref 78), (1, .int l1), (2, .int l2), (3, .int l3), (4, .int l4)] [] h 0 0 Q := by
  intro r
  induction r with
  | zero =>
    intro l1 l2 l3 l4 h hm y0 y1 y2   J Sm
    exfalso
    omega
  | succ r ih =>
    intro l1 l2 l3 l4 h hm y0 y1 y2   J Sm
    have el2 := jfull l2
    have el3 := jfull l3
    refine x_iload (x := l4) rfl rfl ?_
    refine x_aloadn (x := 78) rfl rfl ?_
    refine z_getR (N := 16) (b := 32) 7 0 rfl f_7_55 rfl J rfl 9984 ⟨rfl, rfl⟩ rfl ?_
    refine z_getR (N := 20) (b := 33) 1 0 rfl f_7_63 rfl J rfl 4096 ⟨rfl, rfl⟩ rfl ?_
    refine z_getI (N := 4) 8 3 rfl f_7_85 rfl J rfl sg_33_3_4_1_0_1 (fun v1 qv1 ev1 => ?_)
    refine x_iconst (v := 3) rfl ki_3 ?_
    refine z_imul rfl rfl jk_3 (by omega) (fun v2 ev2 => ?_)
    refine x_icge (tgt := 116) rfl rfl (ti_ge rfl rfl ⟨fun c3 => ?_, fun c3 => ?_⟩)
    ·
      exact jX.sub jsb_n (ct_X7_spouseOf_r78_116 hD hQ  h J Sm)
    ·
      refine x_iload (x := l4) rfl rfl ?_
      refine x_iconst (v := 1) rfl ki_1 ?_
      refine z_iadd rfl rfl jk_1 (by omega) (fun v4 ev4 => ?_)
      refine x_sipush (v := 600) rfl ks_600 ?_
      refine x_icge (tgt := 116) rfl rfl (ti_ge rfl jk_600 (br_f (by omega) ?_))
      refine x_aloadn (x := 78) rfl rfl ?_
      refine z_getR (N := 16) (b := 79) 7 7 rfl f_7_27 rfl J rfl 9991 ⟨rfl, rfl⟩ rfl ?_
      refine x_iload (x := l4) rfl rfl ?_
      refine z_iald (N := 600) rfl J rfl sg_79_0_600_1_0_1 rfl (by omega) (fun v5 qv5 ev5 => ?_)
      refine x_iconst (v := 3) rfl ki_3 ?_
      refine x_icne (tgt := 110) rfl rfl (ti_ne rfl jk_3 ⟨fun c6 => ?_, fun c6 => ?_⟩)
      ·
        exact jX.sub (jsb_c rfl (jsb_c rfl (jsb_c rfl (jsb_c rfl (jsb_c rfl jsb_n))))) (ct_X7_spouseOf_r78_110 hD hQ ih l1 l2 l3 l4 h (jr_of rfl (by omega)) (jr_of rfl (by omega)) (jr_mod rfl (by omega)) (by omega) J Sm)
      ·
        refine x_aloadn (x := 78) rfl rfl ?_
        refine z_getR (N := 16) (b := 82) 7 10 rfl f_7_37 rfl J rfl 9994 ⟨rfl, rfl⟩ rfl ?_
        refine x_iload (x := l4) rfl rfl ?_
        refine z_iald (N := 600) rfl J rfl sg_82_0_600_1_0_1 rfl (by omega) (fun v7 qv7 ev7 => ?_)
        refine x_iloadn (x := l1) rfl rfl ?_
        refine x_iceq (tgt := 67) rfl rfl (ti_eq rfl rfl ⟨fun c8 => ?_, fun c8 => ?_⟩)
        ·
          exact jX.sub (jsb_c rfl (jsb_c rfl (jsb_c rfl (jsb_c rfl (jsb_c rfl jsb_n))))) (ct_X7_spouseOf_r78_67 hD hQ ih l1 l2 l3 l4 v1 h (jr_of rfl (by omega)) (jr_of rfl (by omega)) (jr_mod rfl (by omega)) (jr_of rfl (by omega)) qv1 (by omega) J Sm)
        ·
          refine x_aloadn (x := 78) rfl rfl ?_
          refine z_getR (N := 16) (b := 82) 7 10 rfl f_7_37 rfl J rfl 9994 ⟨rfl, rfl⟩ rfl ?_
          refine x_iload (x := l4) rfl rfl ?_
          refine x_iconst (v := 1) rfl ki_1 ?_
          refine z_iadd rfl rfl jk_1 (by omega) (fun v9 ev9 => ?_)
          refine z_iald (N := 600) rfl J rfl sg_82_0_600_1_0_1 rfl (by omega) (fun v10 qv10 ev10 => ?_)
          refine x_iloadn (x := l1) rfl rfl ?_
          refine x_icne (tgt := 110) rfl rfl (ti_ne rfl rfl ⟨fun c11 => ?_, fun c11 => ?_⟩)
          ·
            exact jX.sub (jsb_c rfl (jsb_c rfl (jsb_c rfl (jsb_c rfl (jsb_c rfl jsb_n))))) (ct_X7_spouseOf_r78_110 hD hQ ih l1 l2 l3 l4 h (jr_of rfl (by omega)) (jr_of rfl (by omega)) (jr_mod rfl (by omega)) (by omega) J Sm)
          ·
            exact jX.sub (jsb_c rfl (jsb_c rfl (jsb_c rfl (jsb_c rfl (jsb_c rfl jsb_n))))) (ct_X7_spouseOf_r78_67 hD hQ ih l1 l2 l3 l4 v1 h (jr_of rfl (by omega)) (jr_of rfl (by omega)) (jr_mod rfl (by omega)) (jr_of rfl (by omega)) qv1 (by omega) J Sm)
set_option maxRecDepth 100000 in
set_option maxHeartbeats 4000000 in
theorem sf_X7_spouseOf_r78 {Dy : jH → Prop} {h : jH} {Q : Option Value → jH → Prop} {a1 : Int32} {a2 : Int32} (y1 : 0 ≤ a1.toInt ∧ a1.toInt ≤ 599) (hD : jDk Dy) (J : jJ jSgX Dy h) (hQ : ∀ (v : Int32) h', (-1) ≤ v.toInt ∧ v.toInt ≤ 599 → jJ jSgX Dy h' → jSm fp_X7_spouseOf_r78 h h' → Q (some (.int v)) h') : jC m_X7_spouseOf 4 0 0 [.ref 78, .int a1, .int a2] h Q := by
  refine jC.of rfl k_X7_spouseOf rfl ?_
  have Sm := jSm_rf fp_X7_spouseOf_r78 h
  have ea2 := jfull a2
  show jX m_X7_spouseOf 4 0 0 0 [(0, .ref 78), (1, .int a1), (2, .int a2)] [] _ 0 0 _
  refine x_iconst (v := 0) rfl ki_0 ?_
  refine x_istoren (ls' := [(3, .int 0), (0, .ref 78), (1, .int a1), (2, .int a2)]) rfl rfl rfl ?_
  refine x_iconst (v := 0) rfl ki_0 ?_
  refine x_istore (ls' := [(4, .int 0), (3, .int 0), (0, .ref 78), (1, .int a1), (2, .int a2)]) rfl rfl rfl ?_
  exact jX.sub (jsb_c rfl (jsb_c rfl (jsb_c rfl (jsb_c rfl (jsb_c rfl jsb_n))))) (ct_X7_spouseOf_r78_5 hD hQ  601 a1 a2 0 0 h (by have := jk_0; omega) (jr_of rfl (by omega)) (jr_of jk_0 (by omega)) (jr_mod jk_0 (by omega)) J Sm)
def fp_X11_kin_r31 : jFp := [(78, 13, 14), (82, 0, 600), (83, 0, 600), (84, 0, 200), (86, 0, 3)]
set_option maxRecDepth 100000 in
set_option maxHeartbeats 4000000 in
theorem sf_X11_kin_r31 {Dy : jH → Prop} {h : jH} {Q : Option Value → jH → Prop} {a1 : Int32} {a2 : Int32} {a3 : Int32} {a4 : Int32} (hD : jDk Dy) (J : jJ jSgX Dy h) (hQ : ∀ (v : Int32) h', (-1) ≤ v.toInt ∧ v.toInt ≤ 599 → jJ jSgX Dy h' → jSm fp_X11_kin_r31 h h' → Q (some (.int v)) h') : jC m_X11_kin 8 0 0 [.ref 31, .int a1, .int a2, .int a3, .int a4] h Q := by
  refine jC.of rfl k_X11_kin rfl ?_
  have Sm := jSm_rf fp_X11_kin_r31 h
  have ea1 := jfull a1
  have ea2 := jfull a2
  have ea3 := jfull a3
  have ea4 := jfull a4
  show jX m_X11_kin 8 0 0 0 [(0, .ref 31), (1, .int a1), (2, .int a2), (3, .int a3), (4, .int a4)] [] _ 0 0 _
  refine x_aloadn (x := 31) rfl rfl ?_
  refine x_iloadn (x := a1) rfl rfl ?_
  refine x_iloadn (x := a2) rfl rfl ?_
  refine x_inv (N := m_X11_soulOn) (As := [.int a1, .int a2]) (b := 31) (st := []) (d' := 7) (mc := 0) (ms := 0) (host := "") 11 rfl t_X11_soulOn ⟨Or.inl q_11_234, i_X11_soulOn.1, i_X11_soulOn.2⟩ ⟨by decide, rfl⟩ (congrArg Prod.fst (J.1.1 31 (11, 13) rfl)) rfl (by decide) rfl rfl ⟨by decide, by decide⟩ (jC.of rfl k_X11_soulOn rfl ?_)
  show jX m_X11_soulOn 7 0 0 0 [(0, .ref 31), (1, .int a1), (2, .int a2)] [] _ 0 0 _
  refine x_iloadn (x := a2) rfl rfl ?_
  refine x_inst (N := m_X11_isDay) (As := [.int a2]) (st := []) (d' := 1) (mc := 0) (ms := 0) (host := "") rfl t_X11_isDay ⟨Or.inl q_11_115, s_X11_isDay⟩ rfl (by decide) rfl rfl ⟨by decide, by decide⟩ (zc_X11_isDay rfl (fun v1 ev1 => ?_))
  show jX m_X11_soulOn 7 0 0 4 [(0, .ref 31), (1, .int a1), (2, .int a2)] [.int v1] _ 0 0 _
  refine x_ifeq (tgt := 18) rfl rfl (ti_eq rfl jk_0 ⟨fun c2 => ?_, fun c2 => ?_⟩)
  ·
    refine x_iconst (v := (-1)) rfl ki_m1 ?_
    refine x_iret rfl rfl ?_
    show jX m_X11_kin 8 0 0 6 [(0, .ref 31), (1, .int a1), (2, .int a2), (3, .int a3), (4, .int a4)] [.int (-1)] _ 0 0 _
    refine x_istore (ls' := [(5, .int (-1)), (0, .ref 31), (1, .int a1), (2, .int a2), (3, .int a3), (4, .int a4)]) rfl rfl rfl ?_
    refine x_iload (x := (-1)) rfl rfl ?_
    refine x_iconst (v := (-1)) rfl ki_m1 ?_
    refine x_icne (tgt := 16) rfl rfl (ti_ne jk_m1 jk_m1 (bn_f (by omega) ?_))
    refine x_iconst (v := (-1)) rfl ki_m1 ?_
    refine x_iret rfl rfl ?_
    exact hQ _ _ (jr_of jk_m1 (by omega)) J Sm
  ·
    refine x_aloadn (x := 31) rfl rfl ?_
    refine z_getR (N := 13) (b := 78) 11 4 rfl f_11_41 rfl J rfl 3972 ⟨rfl, rfl⟩ rfl ?_
    refine x_iloadn (x := a1) rfl rfl ?_
    refine x_inv (N := m_X7_isMention) (As := [.int a1]) (b := 78) (st := []) (d' := 6) (mc := 0) (ms := 0) (host := "") 7 rfl t_X7_isMention ⟨Or.inl q_11_187, i_X7_isMention.1, i_X7_isMention.2⟩ ⟨by decide, rfl⟩ (congrArg Prod.fst (J.1.1 78 (7, 16) rfl)) rfl (by decide) rfl rfl ⟨by decide, by decide⟩ (jC.of rfl k_X7_isMention rfl ?_)
    show jX m_X7_isMention 6 0 0 0 [(0, .ref 78), (1, .int a1)] [] _ 0 0 _
    refine x_iloadn (x := a1) rfl rfl ?_
    refine x_iflt (tgt := 41) rfl rfl (ti_lt rfl jk_0 ⟨fun c3 => ?_, fun c3 => ?_⟩)
    ·
      refine x_iconst (v := 0) rfl ki_0 ?_
      refine x_zret rfl rfl (by decide) ?_
      show jX m_X11_soulOn 7 0 0 15 [(0, .ref 31), (1, .int a1), (2, .int a2)] [.int 0] _ 0 0 _
      refine x_ifne (tgt := 20) rfl rfl (ti_ne jk_0 jk_0 (bn_f (by omega) ?_))
      refine x_iconst (v := (-1)) rfl ki_m1 ?_
      refine x_iret rfl rfl ?_
      show jX m_X11_kin 8 0 0 6 [(0, .ref 31), (1, .int a1), (2, .int a2), (3, .int a3), (4, .int a4)] [.int (-1)] _ 0 0 _
      refine x_istore (ls' := [(5, .int (-1)), (0, .ref 31), (1, .int a1), (2, .int a2), (3, .int a3), (4, .int a4)]) rfl rfl rfl ?_
      refine x_iload (x := (-1)) rfl rfl ?_
      refine x_iconst (v := (-1)) rfl ki_m1 ?_
      refine x_icne (tgt := 16) rfl rfl (ti_ne jk_m1 jk_m1 (bn_f (by omega) ?_))
      refine x_iconst (v := (-1)) rfl ki_m1 ?_
      refine x_iret rfl rfl ?_
      exact hQ _ _ (jr_of jk_m1 (by omega)) J Sm
    ·
      refine x_iloadn (x := a1) rfl rfl ?_
      refine x_sipush (v := 600) rfl ks_600 ?_
      refine x_icge (tgt := 41) rfl rfl (ti_ge rfl jk_600 ⟨fun c4 => ?_, fun c4 => ?_⟩)
      ·
        refine x_iconst (v := 0) rfl ki_0 ?_
        refine x_zret rfl rfl (by decide) ?_
        show jX m_X11_soulOn 7 0 0 15 [(0, .ref 31), (1, .int a1), (2, .int a2)] [.int 0] _ 0 0 _
        refine x_ifne (tgt := 20) rfl rfl (ti_ne jk_0 jk_0 (bn_f (by omega) ?_))
        refine x_iconst (v := (-1)) rfl ki_m1 ?_
        refine x_iret rfl rfl ?_
        show jX m_X11_kin 8 0 0 6 [(0, .ref 31), (1, .int a1), (2, .int a2), (3, .int a3), (4, .int a4)] [.int (-1)] _ 0 0 _
        refine x_istore (ls' := [(5, .int (-1)), (0, .ref 31), (1, .int a1), (2, .int a2), (3, .int a3), (4, .int a4)]) rfl rfl rfl ?_
        refine x_iload (x := (-1)) rfl rfl ?_
        refine x_iconst (v := (-1)) rfl ki_m1 ?_
        refine x_icne (tgt := 16) rfl rfl (ti_ne jk_m1 jk_m1 (bn_f (by omega) ?_))
        refine x_iconst (v := (-1)) rfl ki_m1 ?_
        refine x_iret rfl rfl ?_
        exact hQ _ _ (jr_of jk_m1 (by omega)) J Sm
      ·
        refine x_iloadn (x := a1) rfl rfl ?_
        refine x_iconst (v := 3) rfl ki_3 ?_
        refine z_idiv rfl rfl jk_3 (by omega) (by omega) (fun v5 ev5 => ?_)
        refine x_aloadn (x := 78) rfl rfl ?_
        refine z_getR (N := 16) (b := 32) 7 0 rfl f_7_55 rfl J rfl 9984 ⟨rfl, rfl⟩ rfl ?_
        refine z_getR (N := 20) (b := 33) 1 0 rfl f_7_63 rfl J rfl 4096 ⟨rfl, rfl⟩ rfl ?_
        refine z_getI (N := 4) 8 3 rfl f_7_85 rfl J rfl sg_33_3_4_1_0_1 (fun v6 qv6 ev6 => ?_)
        refine x_icge (tgt := 41) rfl rfl (ti_ge rfl rfl ⟨fun c7 => ?_, fun c7 => ?_⟩)
        ·
          refine x_iconst (v := 0) rfl ki_0 ?_
          refine x_zret rfl rfl (by decide) ?_
          show jX m_X11_soulOn 7 0 0 15 [(0, .ref 31), (1, .int a1), (2, .int a2)] [.int 0] _ 0 0 _
          refine x_ifne (tgt := 20) rfl rfl (ti_ne jk_0 jk_0 (bn_f (by omega) ?_))
          refine x_iconst (v := (-1)) rfl ki_m1 ?_
          refine x_iret rfl rfl ?_
          show jX m_X11_kin 8 0 0 6 [(0, .ref 31), (1, .int a1), (2, .int a2), (3, .int a3), (4, .int a4)] [.int (-1)] _ 0 0 _
          refine x_istore (ls' := [(5, .int (-1)), (0, .ref 31), (1, .int a1), (2, .int a2), (3, .int a3), (4, .int a4)]) rfl rfl rfl ?_
          refine x_iload (x := (-1)) rfl rfl ?_
          refine x_iconst (v := (-1)) rfl ki_m1 ?_
          refine x_icne (tgt := 16) rfl rfl (ti_ne jk_m1 jk_m1 (bn_f (by omega) ?_))
          refine x_iconst (v := (-1)) rfl ki_m1 ?_
          refine x_iret rfl rfl ?_
          exact hQ _ _ (jr_of jk_m1 (by omega)) J Sm
        ·
          refine x_aloadn (x := 78) rfl rfl ?_
          refine z_getR (N := 16) (b := 79) 7 7 rfl f_7_27 rfl J rfl 9991 ⟨rfl, rfl⟩ rfl ?_
          refine x_iloadn (x := a1) rfl rfl ?_
          refine z_iald (N := 600) rfl J rfl sg_79_0_600_1_0_1 rfl (by omega) (fun v8 qv8 ev8 => ?_)
          refine x_iconst (v := (-1)) rfl ki_m1 ?_
          refine x_iceq (tgt := 41) rfl rfl (ti_eq rfl jk_m1 ⟨fun c9 => ?_, fun c9 => ?_⟩)
          ·
            refine x_iconst (v := 0) rfl ki_0 ?_
            refine x_zret rfl rfl (by decide) ?_
            show jX m_X11_soulOn 7 0 0 15 [(0, .ref 31), (1, .int a1), (2, .int a2)] [.int 0] _ 0 0 _
            refine x_ifne (tgt := 20) rfl rfl (ti_ne jk_0 jk_0 (bn_f (by omega) ?_))
            refine x_iconst (v := (-1)) rfl ki_m1 ?_
            refine x_iret rfl rfl ?_
            show jX m_X11_kin 8 0 0 6 [(0, .ref 31), (1, .int a1), (2, .int a2), (3, .int a3), (4, .int a4)] [.int (-1)] _ 0 0 _
            refine x_istore (ls' := [(5, .int (-1)), (0, .ref 31), (1, .int a1), (2, .int a2), (3, .int a3), (4, .int a4)]) rfl rfl rfl ?_
            refine x_iload (x := (-1)) rfl rfl ?_
            refine x_iconst (v := (-1)) rfl ki_m1 ?_
            refine x_icne (tgt := 16) rfl rfl (ti_ne jk_m1 jk_m1 (bn_f (by omega) ?_))
            refine x_iconst (v := (-1)) rfl ki_m1 ?_
            refine x_iret rfl rfl ?_
            exact hQ _ _ (jr_of jk_m1 (by omega)) J Sm
          ·
            refine x_iconst (v := 1) rfl ki_1 ?_
            refine x_goto (tgt := 42) rfl rfl ?_
            refine x_zret rfl rfl (by decide) ?_
            show jX m_X11_soulOn 7 0 0 15 [(0, .ref 31), (1, .int a1), (2, .int a2)] [.int 1] _ 0 0 _
            refine x_ifne (tgt := 20) rfl rfl (ti_ne jk_1 jk_0 (bn_t (by omega) ?_))
            refine x_aloadn (x := 31) rfl rfl ?_
            refine z_getR (N := 13) (b := 78) 11 4 rfl f_11_41 rfl J rfl 3972 ⟨rfl, rfl⟩ rfl ?_
            refine x_iloadn (x := a2) rfl rfl ?_
            refine x_inv (N := m_X7_asKnown) (As := [.int a2]) (b := 78) (st := []) (d' := 6) (mc := 0) (ms := 0) (host := "") 7 rfl t_X7_asKnown ⟨Or.inl q_11_240, i_X7_asKnown.1, i_X7_asKnown.2⟩ ⟨by decide, rfl⟩ (congrArg Prod.fst (J.1.1 78 (7, 16) rfl)) rfl (by decide) rfl rfl ⟨by decide, by decide⟩ (sf_X7_asKnown_r78 (jr_of rfl (by omega)) hD J  (fun h J S10 => ?_))
            have Sm := jSm_tr rfl Sm S10
            show jX m_X11_soulOn 7 0 0 28 [(0, .ref 31), (1, .int a1), (2, .int a2)] [] _ 0 0 _
            refine x_aloadn (x := 31) rfl rfl ?_
            refine z_getR (N := 13) (b := 78) 11 4 rfl f_11_41 rfl J rfl 3972 ⟨rfl, rfl⟩ rfl ?_
            refine z_getR (N := 16) (b := 82) 7 10 rfl f_11_537 rfl J rfl 9994 ⟨rfl, rfl⟩ rfl ?_
            refine x_iloadn (x := a1) rfl rfl ?_
            refine z_iald (N := 600) rfl J rfl sg_82_0_600_1_0_1 rfl (by omega) (fun v11 qv11 ev11 => ?_)
            refine x_iret rfl rfl ?_
            show jX m_X11_kin 8 0 0 6 [(0, .ref 31), (1, .int a1), (2, .int a2), (3, .int a3), (4, .int a4)] [.int v11] _ 0 0 _
            refine x_istore (ls' := [(5, .int v11), (0, .ref 31), (1, .int a1), (2, .int a2), (3, .int a3), (4, .int a4)]) rfl rfl rfl ?_
            refine x_iload (x := v11) rfl rfl ?_
            refine x_iconst (v := (-1)) rfl ki_m1 ?_
            refine x_icne (tgt := 16) rfl rfl (ti_ne rfl jk_m1 ⟨fun c12 => ?_, fun c12 => ?_⟩)
            ·
              refine x_iloadn (x := a3) rfl rfl ?_
              by_cases c13 : a3.toInt = 0
              ·
                refine x_tableIn (tgt := 48) 0 rfl c13 (by decide) (by decide) rfl rfl ?_
                refine x_aloadn (x := 31) rfl rfl ?_
                refine z_getR (N := 13) (b := 78) 11 4 rfl f_11_41 rfl J rfl 3972 ⟨rfl, rfl⟩ rfl ?_
                refine x_iload (x := v11) rfl rfl ?_
                refine x_iconst (v := 1) rfl ki_1 ?_
                refine x_inv (N := m_X7_parentOf) (As := [.int v11, .int 1]) (b := 78) (st := []) (d' := 7) (mc := 0) (ms := 0) (host := "") 7 rfl t_X7_parentOf ⟨Or.inl q_11_255, i_X7_parentOf.1, i_X7_parentOf.2⟩ ⟨by decide, rfl⟩ (congrArg Prod.fst (J.1.1 78 (7, 16) rfl)) rfl (by decide) rfl rfl ⟨by decide, by decide⟩ (jC.of rfl k_X7_parentOf rfl ?_)
                show jX m_X7_parentOf 7 0 0 0 [(0, .ref 78), (1, .int v11), (2, .int 1)] [] _ 0 0 _
                refine x_aloadn (x := 78) rfl rfl ?_
                refine x_iloadn (x := v11) rfl rfl ?_
                refine x_inv (N := m_X7_birthOf) (As := [.int v11]) (b := 78) (st := []) (d' := 1) (mc := 0) (ms := 0) (host := "") 7 rfl t_X7_birthOf ⟨Or.inl q_7_176, i_X7_birthOf.1, i_X7_birthOf.2⟩ ⟨by decide, rfl⟩ (congrArg Prod.fst (J.1.1 78 (7, 16) rfl)) rfl (by decide) rfl rfl ⟨by decide, by decide⟩ (sf_X7_birthOf_r78 (jr_of rfl (by omega)) hD J  (fun v15 h ev15 J S14 => ?_))
                have Sm := jSm_tr rfl Sm S14
                show jX m_X7_parentOf 7 0 0 5 [(0, .ref 78), (1, .int v11), (2, .int 1)] [.int v15] _ 0 0 _
                refine x_istoren (ls' := [(3, .int v15), (0, .ref 78), (1, .int v11), (2, .int 1)]) rfl rfl rfl ?_
                refine x_iloadn (x := v15) rfl rfl ?_
                refine x_iconst (v := (-1)) rfl ki_m1 ?_
                refine x_icne (tgt := 15) rfl rfl (ti_ne rfl jk_m1 ⟨fun c16 => ?_, fun c16 => ?_⟩)
                ·
                  refine x_aloadn (x := 78) rfl rfl ?_
                  refine x_iloadn (x := v15) rfl rfl ?_
                  refine x_iloadn (x := 1) rfl rfl ?_
                  refine z_iadd rfl rfl jk_1 (by omega) (fun v17 ev17 => ?_)
                  refine x_inv (N := m_X7_namedSoul) (As := [.int v17]) (b := 78) (st := []) (d' := 6) (mc := 0) (ms := 0) (host := "") 7 rfl t_X7_namedSoul ⟨Or.inl q_7_179, i_X7_namedSoul.1, i_X7_namedSoul.2⟩ ⟨by decide, rfl⟩ (congrArg Prod.fst (J.1.1 78 (7, 16) rfl)) rfl (by decide) rfl rfl ⟨by decide, by decide⟩ (jC.of rfl k_X7_namedSoul rfl ?_)
                  show jX m_X7_namedSoul 6 0 0 0 [(0, .ref 78), (1, .int v17)] [] _ 0 0 _
                  refine x_aloadn (x := 78) rfl rfl ?_
                  refine z_getR (N := 16) (b := 70) 7 1 rfl f_7_59 rfl J rfl 9985 ⟨rfl, rfl⟩ rfl ?_
                  refine x_iloadn (x := v17) rfl rfl ?_
                  refine x_inv (N := m_X5_isNamed) (As := [.int v17]) (b := 70) (st := []) (d' := 5) (mc := 0) (ms := 0) (host := "") 5 rfl t_X5_isNamed ⟨Or.inl q_7_173, i_X5_isNamed.1, i_X5_isNamed.2⟩ ⟨by decide, rfl⟩ (congrArg Prod.fst (J.1.1 70 (5, 9) rfl)) rfl (by decide) rfl rfl ⟨by decide, by decide⟩ (jC.of rfl k_X5_isNamed rfl ?_)
                  show jX m_X5_isNamed 5 0 0 0 [(0, .ref 70), (1, .int v17)] [] _ 0 0 _
                  refine x_aloadn (x := 70) rfl rfl ?_
                  refine x_iloadn (x := v17) rfl rfl ?_
                  refine x_iconst (v := 0) rfl ki_0 ?_
                  refine x_inv (N := m_X5_lengthOf) (As := [.int v17, .int 0]) (b := 70) (st := []) (d' := 4) (mc := 0) (ms := 0) (host := "") 5 rfl t_X5_lengthOf ⟨Or.inl q_5_133, i_X5_lengthOf.1, i_X5_lengthOf.2⟩ ⟨by decide, rfl⟩ (congrArg Prod.fst (J.1.1 70 (5, 9) rfl)) rfl (by decide) rfl rfl ⟨by decide, by decide⟩ (jC.of rfl k_X5_lengthOf rfl ?_)
                  show jX m_X5_lengthOf 4 0 0 0 [(0, .ref 70), (1, .int v17), (2, .int 0)] [] _ 0 0 _
                  refine x_iloadn (x := v17) rfl rfl ?_
                  refine x_iconst (v := 2) rfl ki_2 ?_
                  refine z_imul rfl rfl jk_2 (by omega) (fun v18 ev18 => ?_)
                  refine x_iloadn (x := 0) rfl rfl ?_
                  refine z_iadd rfl rfl jk_0 (by omega) (fun v19 ev19 => ?_)
                  refine x_istoren (ls' := [(3, .int v19), (0, .ref 70), (1, .int v17), (2, .int 0)]) rfl rfl rfl ?_
                  refine x_iloadn (x := v19) rfl rfl ?_
                  refine x_iflt (tgt := 26) rfl rfl (ti_lt rfl jk_0 (br_f (by omega) ?_))
                  refine x_iloadn (x := v19) rfl rfl ?_
                  refine x_sipush (v := 1200) rfl ks_1200 ?_
                  refine x_icge (tgt := 26) rfl rfl (ti_ge rfl jk_1200 ⟨fun c20 => ?_, fun c20 => ?_⟩)
                  ·
                    refine x_iconst (v := (-1)) rfl ki_m1 ?_
                    refine x_iret rfl rfl ?_
                    show jX m_X5_isNamed 5 0 0 6 [(0, .ref 70), (1, .int v17)] [.int (-1)] _ 0 0 _
                    refine x_ifge (tgt := 18) rfl rfl (ti_ge jk_m1 jk_0 (br_f (by omega) ?_))
                    refine x_aloadn (x := 70) rfl rfl ?_
                    refine x_iloadn (x := v17) rfl rfl ?_
                    refine x_iconst (v := 1) rfl ki_1 ?_
                    refine x_inv (N := m_X5_lengthOf) (As := [.int v17, .int 1]) (b := 70) (st := []) (d' := 4) (mc := 0) (ms := 0) (host := "") 5 rfl t_X5_lengthOf ⟨Or.inl q_5_133, i_X5_lengthOf.1, i_X5_lengthOf.2⟩ ⟨by decide, rfl⟩ (congrArg Prod.fst (J.1.1 70 (5, 9) rfl)) rfl (by decide) rfl rfl ⟨by decide, by decide⟩ (jC.of rfl k_X5_lengthOf rfl ?_)
                    show jX m_X5_lengthOf 4 0 0 0 [(0, .ref 70), (1, .int v17), (2, .int 1)] [] _ 0 0 _
                    refine x_iloadn (x := v17) rfl rfl ?_
                    refine x_iconst (v := 2) rfl ki_2 ?_
                    refine z_imul rfl rfl jk_2 (by omega) (fun v21 ev21 => ?_)
                    refine x_iloadn (x := 1) rfl rfl ?_
                    refine z_iadd rfl rfl jk_1 (by omega) (fun v22 ev22 => ?_)
                    refine x_istoren (ls' := [(3, .int v22), (0, .ref 70), (1, .int v17), (2, .int 1)]) rfl rfl rfl ?_
                    refine x_iloadn (x := v22) rfl rfl ?_
                    refine x_iflt (tgt := 26) rfl rfl (ti_lt rfl jk_0 (br_f (by omega) ?_))
                    refine x_iloadn (x := v22) rfl rfl ?_
                    refine x_sipush (v := 1200) rfl ks_1200 ?_
                    refine x_icge (tgt := 26) rfl rfl (ti_ge rfl jk_1200 ⟨fun c23 => ?_, fun c23 => ?_⟩)
                    ·
                      refine x_iconst (v := (-1)) rfl ki_m1 ?_
                      refine x_iret rfl rfl ?_
                      show jX m_X5_isNamed 5 0 0 15 [(0, .ref 70), (1, .int v17)] [.int (-1)] _ 0 0 _
                      refine x_iflt (tgt := 22) rfl rfl (ti_lt jk_m1 jk_0 (br_t (by omega) ?_))
                      refine x_iconst (v := 0) rfl ki_0 ?_
                      refine x_zret rfl rfl (by decide) ?_
                      show jX m_X7_namedSoul 6 0 0 8 [(0, .ref 78), (1, .int v17)] [.int 0] _ 0 0 _
                      refine x_ifeq (tgt := 19) rfl rfl (ti_eq jk_0 jk_0 (br_t (by omega) ?_))
                      refine x_iconst (v := (-1)) rfl ki_m1 ?_
                      refine x_iret rfl rfl ?_
                      show jX m_X7_parentOf 7 0 0 22 [(3, .int v15), (0, .ref 78), (1, .int v11), (2, .int 1)] [.int (-1)] _ 0 0 _
                      refine x_iret rfl rfl ?_
                      show jX m_X11_kin 8 0 0 58 [(5, .int v11), (0, .ref 31), (1, .int a1), (2, .int a2), (3, .int a3), (4, .int a4)] [.int (-1)] _ 0 0 _
                      refine x_iret rfl rfl ?_
                      exact hQ _ _ (jr_of jk_m1 (by omega)) J Sm
                    ·
                      refine x_aloadn (x := 70) rfl rfl ?_
                      refine z_getR (N := 9) (b := 76) 5 7 rfl f_5_28 rfl J rfl 8967 ⟨rfl, rfl⟩ rfl ?_
                      refine x_iloadn (x := v22) rfl rfl ?_
                      refine z_iald (N := 1200) rfl J rfl sg_76_0_1200_1_0_1 rfl (by omega) (fun v24 qv24 ev24 => ?_)
                      refine x_goto (tgt := 27) rfl rfl ?_
                      refine x_iret rfl rfl ?_
                      show jX m_X5_isNamed 5 0 0 15 [(0, .ref 70), (1, .int v17)] [.int v24] _ 0 0 _
                      refine x_iflt (tgt := 22) rfl rfl (ti_lt rfl jk_0 (br_f (by omega) ?_))
                      refine x_iconst (v := 1) rfl ki_1 ?_
                      refine x_goto (tgt := 23) rfl rfl ?_
                      refine x_zret rfl rfl (by decide) ?_
                      show jX m_X7_namedSoul 6 0 0 8 [(0, .ref 78), (1, .int v17)] [.int 1] _ 0 0 _
                      refine x_ifeq (tgt := 19) rfl rfl (ti_eq jk_1 jk_0 (br_f (by omega) ?_))
                      refine x_aloadn (x := 78) rfl rfl ?_
                      refine x_iloadn (x := v17) rfl rfl ?_
                      refine x_inv (N := m_X7_soulAt) (As := [.int v17]) (b := 78) (st := []) (d' := 5) (mc := 0) (ms := 0) (host := "") 7 rfl t_X7_soulAt ⟨Or.inl q_7_153, i_X7_soulAt.1, i_X7_soulAt.2⟩ ⟨by decide, rfl⟩ (congrArg Prod.fst (J.1.1 78 (7, 16) rfl)) rfl (by decide) rfl rfl ⟨by decide, by decide⟩ (jC.of rfl k_X7_soulAt rfl ?_)
                      show jX m_X7_soulAt 5 0 0 0 [(0, .ref 78), (1, .int v17)] [] _ 0 0 _
                      refine x_iloadn (x := v17) rfl rfl ?_
                      refine x_iflt (tgt := 36) rfl rfl (ti_lt rfl jk_0 (br_f (by omega) ?_))
                      refine x_iloadn (x := v17) rfl rfl ?_
                      refine x_sipush (v := 600) rfl ks_600 ?_
                      refine x_icge (tgt := 36) rfl rfl (ti_ge rfl jk_600 ⟨fun c25 => ?_, fun c25 => ?_⟩)
                      ·
                        refine x_iconst (v := (-1)) rfl ki_m1 ?_
                        refine x_iret rfl rfl ?_
                        show jX m_X7_namedSoul 6 0 0 16 [(0, .ref 78), (1, .int v17)] [.int (-1)] _ 0 0 _
                        refine x_goto (tgt := 20) rfl rfl ?_
                        refine x_iret rfl rfl ?_
                        show jX m_X7_parentOf 7 0 0 22 [(3, .int v15), (0, .ref 78), (1, .int v11), (2, .int 1)] [.int (-1)] _ 0 0 _
                        refine x_iret rfl rfl ?_
                        show jX m_X11_kin 8 0 0 58 [(5, .int v11), (0, .ref 31), (1, .int a1), (2, .int a2), (3, .int a3), (4, .int a4)] [.int (-1)] _ 0 0 _
                        refine x_iret rfl rfl ?_
                        exact hQ _ _ (jr_of jk_m1 (by omega)) J Sm
                      ·
                        refine x_iloadn (x := v17) rfl rfl ?_
                        refine x_iconst (v := 3) rfl ki_3 ?_
                        refine z_idiv rfl rfl jk_3 (by omega) (by omega) (fun v26 ev26 => ?_)
                        refine x_aloadn (x := 78) rfl rfl ?_
                        refine z_getR (N := 16) (b := 32) 7 0 rfl f_7_55 rfl J rfl 9984 ⟨rfl, rfl⟩ rfl ?_
                        refine z_getR (N := 20) (b := 33) 1 0 rfl f_7_63 rfl J rfl 4096 ⟨rfl, rfl⟩ rfl ?_
                        refine z_getM (N := 4) (v := v6) 8 3 rfl f_7_85 rfl J rfl (jmc S14 rfl (jmc S10 rfl qv6)) ?_
                        refine x_icge (tgt := 36) rfl rfl (ti_ge rfl rfl ⟨fun c27 => ?_, fun c27 => ?_⟩)
                        ·
                          refine x_iconst (v := (-1)) rfl ki_m1 ?_
                          refine x_iret rfl rfl ?_
                          show jX m_X7_namedSoul 6 0 0 16 [(0, .ref 78), (1, .int v17)] [.int (-1)] _ 0 0 _
                          refine x_goto (tgt := 20) rfl rfl ?_
                          refine x_iret rfl rfl ?_
                          show jX m_X7_parentOf 7 0 0 22 [(3, .int v15), (0, .ref 78), (1, .int v11), (2, .int 1)] [.int (-1)] _ 0 0 _
                          refine x_iret rfl rfl ?_
                          show jX m_X11_kin 8 0 0 58 [(5, .int v11), (0, .ref 31), (1, .int a1), (2, .int a2), (3, .int a3), (4, .int a4)] [.int (-1)] _ 0 0 _
                          refine x_iret rfl rfl ?_
                          exact hQ _ _ (jr_of jk_m1 (by omega)) J Sm
                        ·
                          refine x_aloadn (x := 78) rfl rfl ?_
                          refine z_getR (N := 16) (b := 82) 7 10 rfl f_7_37 rfl J rfl 9994 ⟨rfl, rfl⟩ rfl ?_
                          refine x_iloadn (x := v17) rfl rfl ?_
                          refine z_iald (N := 600) rfl J rfl sg_82_0_600_1_0_1 rfl (by omega) (fun v28 qv28 ev28 => ?_)
                          refine x_goto (tgt := 37) rfl rfl ?_
                          refine x_iret rfl rfl ?_
                          show jX m_X7_namedSoul 6 0 0 16 [(0, .ref 78), (1, .int v17)] [.int v28] _ 0 0 _
                          refine x_goto (tgt := 20) rfl rfl ?_
                          refine x_iret rfl rfl ?_
                          show jX m_X7_parentOf 7 0 0 22 [(3, .int v15), (0, .ref 78), (1, .int v11), (2, .int 1)] [.int v28] _ 0 0 _
                          refine x_iret rfl rfl ?_
                          show jX m_X11_kin 8 0 0 58 [(5, .int v11), (0, .ref 31), (1, .int a1), (2, .int a2), (3, .int a3), (4, .int a4)] [.int v28] _ 0 0 _
                          refine x_iret rfl rfl ?_
                          exact hQ _ _ (jr_of rfl (by omega)) J Sm
                  ·
                    refine x_aloadn (x := 70) rfl rfl ?_
                    refine z_getR (N := 9) (b := 76) 5 7 rfl f_5_28 rfl J rfl 8967 ⟨rfl, rfl⟩ rfl ?_
                    refine x_iloadn (x := v19) rfl rfl ?_
                    refine z_iald (N := 1200) rfl J rfl sg_76_0_1200_1_0_1 rfl (by omega) (fun v29 qv29 ev29 => ?_)
                    refine x_goto (tgt := 27) rfl rfl ?_
                    refine x_iret rfl rfl ?_
                    show jX m_X5_isNamed 5 0 0 6 [(0, .ref 70), (1, .int v17)] [.int v29] _ 0 0 _
                    refine x_ifge (tgt := 18) rfl rfl (ti_ge rfl jk_0 (br_t (by omega) ?_))
                    refine x_iconst (v := 1) rfl ki_1 ?_
                    refine x_goto (tgt := 23) rfl rfl ?_
                    refine x_zret rfl rfl (by decide) ?_
                    show jX m_X7_namedSoul 6 0 0 8 [(0, .ref 78), (1, .int v17)] [.int 1] _ 0 0 _
                    refine x_ifeq (tgt := 19) rfl rfl (ti_eq jk_1 jk_0 (br_f (by omega) ?_))
                    refine x_aloadn (x := 78) rfl rfl ?_
                    refine x_iloadn (x := v17) rfl rfl ?_
                    refine x_inv (N := m_X7_soulAt) (As := [.int v17]) (b := 78) (st := []) (d' := 5) (mc := 0) (ms := 0) (host := "") 7 rfl t_X7_soulAt ⟨Or.inl q_7_153, i_X7_soulAt.1, i_X7_soulAt.2⟩ ⟨by decide, rfl⟩ (congrArg Prod.fst (J.1.1 78 (7, 16) rfl)) rfl (by decide) rfl rfl ⟨by decide, by decide⟩ (jC.of rfl k_X7_soulAt rfl ?_)
                    show jX m_X7_soulAt 5 0 0 0 [(0, .ref 78), (1, .int v17)] [] _ 0 0 _
                    refine x_iloadn (x := v17) rfl rfl ?_
                    refine x_iflt (tgt := 36) rfl rfl (ti_lt rfl jk_0 (br_f (by omega) ?_))
                    refine x_iloadn (x := v17) rfl rfl ?_
                    refine x_sipush (v := 600) rfl ks_600 ?_
                    refine x_icge (tgt := 36) rfl rfl (ti_ge rfl jk_600 ⟨fun c30 => ?_, fun c30 => ?_⟩)
                    ·
                      refine x_iconst (v := (-1)) rfl ki_m1 ?_
                      refine x_iret rfl rfl ?_
                      show jX m_X7_namedSoul 6 0 0 16 [(0, .ref 78), (1, .int v17)] [.int (-1)] _ 0 0 _
                      refine x_goto (tgt := 20) rfl rfl ?_
                      refine x_iret rfl rfl ?_
                      show jX m_X7_parentOf 7 0 0 22 [(3, .int v15), (0, .ref 78), (1, .int v11), (2, .int 1)] [.int (-1)] _ 0 0 _
                      refine x_iret rfl rfl ?_
                      show jX m_X11_kin 8 0 0 58 [(5, .int v11), (0, .ref 31), (1, .int a1), (2, .int a2), (3, .int a3), (4, .int a4)] [.int (-1)] _ 0 0 _
                      refine x_iret rfl rfl ?_
                      exact hQ _ _ (jr_of jk_m1 (by omega)) J Sm
                    ·
                      refine x_iloadn (x := v17) rfl rfl ?_
                      refine x_iconst (v := 3) rfl ki_3 ?_
                      refine z_idiv rfl rfl jk_3 (by omega) (by omega) (fun v31 ev31 => ?_)
                      refine x_aloadn (x := 78) rfl rfl ?_
                      refine z_getR (N := 16) (b := 32) 7 0 rfl f_7_55 rfl J rfl 9984 ⟨rfl, rfl⟩ rfl ?_
                      refine z_getR (N := 20) (b := 33) 1 0 rfl f_7_63 rfl J rfl 4096 ⟨rfl, rfl⟩ rfl ?_
                      refine z_getM (N := 4) (v := v6) 8 3 rfl f_7_85 rfl J rfl (jmc S14 rfl (jmc S10 rfl qv6)) ?_
                      refine x_icge (tgt := 36) rfl rfl (ti_ge rfl rfl ⟨fun c32 => ?_, fun c32 => ?_⟩)
                      ·
                        refine x_iconst (v := (-1)) rfl ki_m1 ?_
                        refine x_iret rfl rfl ?_
                        show jX m_X7_namedSoul 6 0 0 16 [(0, .ref 78), (1, .int v17)] [.int (-1)] _ 0 0 _
                        refine x_goto (tgt := 20) rfl rfl ?_
                        refine x_iret rfl rfl ?_
                        show jX m_X7_parentOf 7 0 0 22 [(3, .int v15), (0, .ref 78), (1, .int v11), (2, .int 1)] [.int (-1)] _ 0 0 _
                        refine x_iret rfl rfl ?_
                        show jX m_X11_kin 8 0 0 58 [(5, .int v11), (0, .ref 31), (1, .int a1), (2, .int a2), (3, .int a3), (4, .int a4)] [.int (-1)] _ 0 0 _
                        refine x_iret rfl rfl ?_
                        exact hQ _ _ (jr_of jk_m1 (by omega)) J Sm
                      ·
                        refine x_aloadn (x := 78) rfl rfl ?_
                        refine z_getR (N := 16) (b := 82) 7 10 rfl f_7_37 rfl J rfl 9994 ⟨rfl, rfl⟩ rfl ?_
                        refine x_iloadn (x := v17) rfl rfl ?_
                        refine z_iald (N := 600) rfl J rfl sg_82_0_600_1_0_1 rfl (by omega) (fun v33 qv33 ev33 => ?_)
                        refine x_goto (tgt := 37) rfl rfl ?_
                        refine x_iret rfl rfl ?_
                        show jX m_X7_namedSoul 6 0 0 16 [(0, .ref 78), (1, .int v17)] [.int v33] _ 0 0 _
                        refine x_goto (tgt := 20) rfl rfl ?_
                        refine x_iret rfl rfl ?_
                        show jX m_X7_parentOf 7 0 0 22 [(3, .int v15), (0, .ref 78), (1, .int v11), (2, .int 1)] [.int v33] _ 0 0 _
                        refine x_iret rfl rfl ?_
                        show jX m_X11_kin 8 0 0 58 [(5, .int v11), (0, .ref 31), (1, .int a1), (2, .int a2), (3, .int a3), (4, .int a4)] [.int v33] _ 0 0 _
                        refine x_iret rfl rfl ?_
                        exact hQ _ _ (jr_of rfl (by omega)) J Sm
                ·
                  refine x_iconst (v := (-1)) rfl ki_m1 ?_
                  refine x_goto (tgt := 22) rfl rfl ?_
                  refine x_iret rfl rfl ?_
                  show jX m_X11_kin 8 0 0 58 [(5, .int v11), (0, .ref 31), (1, .int a1), (2, .int a2), (3, .int a3), (4, .int a4)] [.int (-1)] _ 0 0 _
                  refine x_iret rfl rfl ?_
                  exact hQ _ _ (jr_of jk_m1 (by omega)) J Sm
              by_cases c34 : a3.toInt = 1
              ·
                refine x_tableIn (tgt := 59) 1 rfl c34 (by decide) (by decide) rfl rfl ?_
                refine x_aloadn (x := 31) rfl rfl ?_
                refine z_getR (N := 13) (b := 78) 11 4 rfl f_11_41 rfl J rfl 3972 ⟨rfl, rfl⟩ rfl ?_
                refine x_iload (x := v11) rfl rfl ?_
                refine x_iconst (v := 2) rfl ki_2 ?_
                refine x_inv (N := m_X7_parentOf) (As := [.int v11, .int 2]) (b := 78) (st := []) (d' := 7) (mc := 0) (ms := 0) (host := "") 7 rfl t_X7_parentOf ⟨Or.inl q_11_255, i_X7_parentOf.1, i_X7_parentOf.2⟩ ⟨by decide, rfl⟩ (congrArg Prod.fst (J.1.1 78 (7, 16) rfl)) rfl (by decide) rfl rfl ⟨by decide, by decide⟩ (jC.of rfl k_X7_parentOf rfl ?_)
                show jX m_X7_parentOf 7 0 0 0 [(0, .ref 78), (1, .int v11), (2, .int 2)] [] _ 0 0 _
                refine x_aloadn (x := 78) rfl rfl ?_
                refine x_iloadn (x := v11) rfl rfl ?_
                refine x_inv (N := m_X7_birthOf) (As := [.int v11]) (b := 78) (st := []) (d' := 1) (mc := 0) (ms := 0) (host := "") 7 rfl t_X7_birthOf ⟨Or.inl q_7_176, i_X7_birthOf.1, i_X7_birthOf.2⟩ ⟨by decide, rfl⟩ (congrArg Prod.fst (J.1.1 78 (7, 16) rfl)) rfl (by decide) rfl rfl ⟨by decide, by decide⟩ (sf_X7_birthOf_r78 (jr_of rfl (by omega)) hD J  (fun v36 h ev36 J S35 => ?_))
                have Sm := jSm_tr rfl Sm S35
                show jX m_X7_parentOf 7 0 0 5 [(0, .ref 78), (1, .int v11), (2, .int 2)] [.int v36] _ 0 0 _
                refine x_istoren (ls' := [(3, .int v36), (0, .ref 78), (1, .int v11), (2, .int 2)]) rfl rfl rfl ?_
                refine x_iloadn (x := v36) rfl rfl ?_
                refine x_iconst (v := (-1)) rfl ki_m1 ?_
                refine x_icne (tgt := 15) rfl rfl (ti_ne rfl jk_m1 ⟨fun c37 => ?_, fun c37 => ?_⟩)
                ·
                  refine x_aloadn (x := 78) rfl rfl ?_
                  refine x_iloadn (x := v36) rfl rfl ?_
                  refine x_iloadn (x := 2) rfl rfl ?_
                  refine z_iadd rfl rfl jk_2 (by omega) (fun v38 ev38 => ?_)
                  refine x_inv (N := m_X7_namedSoul) (As := [.int v38]) (b := 78) (st := []) (d' := 6) (mc := 0) (ms := 0) (host := "") 7 rfl t_X7_namedSoul ⟨Or.inl q_7_179, i_X7_namedSoul.1, i_X7_namedSoul.2⟩ ⟨by decide, rfl⟩ (congrArg Prod.fst (J.1.1 78 (7, 16) rfl)) rfl (by decide) rfl rfl ⟨by decide, by decide⟩ (jC.of rfl k_X7_namedSoul rfl ?_)
                  show jX m_X7_namedSoul 6 0 0 0 [(0, .ref 78), (1, .int v38)] [] _ 0 0 _
                  refine x_aloadn (x := 78) rfl rfl ?_
                  refine z_getR (N := 16) (b := 70) 7 1 rfl f_7_59 rfl J rfl 9985 ⟨rfl, rfl⟩ rfl ?_
                  refine x_iloadn (x := v38) rfl rfl ?_
                  refine x_inv (N := m_X5_isNamed) (As := [.int v38]) (b := 70) (st := []) (d' := 5) (mc := 0) (ms := 0) (host := "") 5 rfl t_X5_isNamed ⟨Or.inl q_7_173, i_X5_isNamed.1, i_X5_isNamed.2⟩ ⟨by decide, rfl⟩ (congrArg Prod.fst (J.1.1 70 (5, 9) rfl)) rfl (by decide) rfl rfl ⟨by decide, by decide⟩ (jC.of rfl k_X5_isNamed rfl ?_)
                  show jX m_X5_isNamed 5 0 0 0 [(0, .ref 70), (1, .int v38)] [] _ 0 0 _
                  refine x_aloadn (x := 70) rfl rfl ?_
                  refine x_iloadn (x := v38) rfl rfl ?_
                  refine x_iconst (v := 0) rfl ki_0 ?_
                  refine x_inv (N := m_X5_lengthOf) (As := [.int v38, .int 0]) (b := 70) (st := []) (d' := 4) (mc := 0) (ms := 0) (host := "") 5 rfl t_X5_lengthOf ⟨Or.inl q_5_133, i_X5_lengthOf.1, i_X5_lengthOf.2⟩ ⟨by decide, rfl⟩ (congrArg Prod.fst (J.1.1 70 (5, 9) rfl)) rfl (by decide) rfl rfl ⟨by decide, by decide⟩ (jC.of rfl k_X5_lengthOf rfl ?_)
                  show jX m_X5_lengthOf 4 0 0 0 [(0, .ref 70), (1, .int v38), (2, .int 0)] [] _ 0 0 _
                  refine x_iloadn (x := v38) rfl rfl ?_
                  refine x_iconst (v := 2) rfl ki_2 ?_
                  refine z_imul rfl rfl jk_2 (by omega) (fun v39 ev39 => ?_)
                  refine x_iloadn (x := 0) rfl rfl ?_
                  refine z_iadd rfl rfl jk_0 (by omega) (fun v40 ev40 => ?_)
                  refine x_istoren (ls' := [(3, .int v40), (0, .ref 70), (1, .int v38), (2, .int 0)]) rfl rfl rfl ?_
                  refine x_iloadn (x := v40) rfl rfl ?_
                  refine x_iflt (tgt := 26) rfl rfl (ti_lt rfl jk_0 (br_f (by omega) ?_))
                  refine x_iloadn (x := v40) rfl rfl ?_
                  refine x_sipush (v := 1200) rfl ks_1200 ?_
                  refine x_icge (tgt := 26) rfl rfl (ti_ge rfl jk_1200 ⟨fun c41 => ?_, fun c41 => ?_⟩)
                  ·
                    refine x_iconst (v := (-1)) rfl ki_m1 ?_
                    refine x_iret rfl rfl ?_
                    show jX m_X5_isNamed 5 0 0 6 [(0, .ref 70), (1, .int v38)] [.int (-1)] _ 0 0 _
                    refine x_ifge (tgt := 18) rfl rfl (ti_ge jk_m1 jk_0 (br_f (by omega) ?_))
                    refine x_aloadn (x := 70) rfl rfl ?_
                    refine x_iloadn (x := v38) rfl rfl ?_
                    refine x_iconst (v := 1) rfl ki_1 ?_
                    refine x_inv (N := m_X5_lengthOf) (As := [.int v38, .int 1]) (b := 70) (st := []) (d' := 4) (mc := 0) (ms := 0) (host := "") 5 rfl t_X5_lengthOf ⟨Or.inl q_5_133, i_X5_lengthOf.1, i_X5_lengthOf.2⟩ ⟨by decide, rfl⟩ (congrArg Prod.fst (J.1.1 70 (5, 9) rfl)) rfl (by decide) rfl rfl ⟨by decide, by decide⟩ (jC.of rfl k_X5_lengthOf rfl ?_)
                    show jX m_X5_lengthOf 4 0 0 0 [(0, .ref 70), (1, .int v38), (2, .int 1)] [] _ 0 0 _
                    refine x_iloadn (x := v38) rfl rfl ?_
                    refine x_iconst (v := 2) rfl ki_2 ?_
                    refine z_imul rfl rfl jk_2 (by omega) (fun v42 ev42 => ?_)
                    refine x_iloadn (x := 1) rfl rfl ?_
                    refine z_iadd rfl rfl jk_1 (by omega) (fun v43 ev43 => ?_)
                    refine x_istoren (ls' := [(3, .int v43), (0, .ref 70), (1, .int v38), (2, .int 1)]) rfl rfl rfl ?_
                    refine x_iloadn (x := v43) rfl rfl ?_
                    refine x_iflt (tgt := 26) rfl rfl (ti_lt rfl jk_0 (br_f (by omega) ?_))
                    refine x_iloadn (x := v43) rfl rfl ?_
                    refine x_sipush (v := 1200) rfl ks_1200 ?_
                    refine x_icge (tgt := 26) rfl rfl (ti_ge rfl jk_1200 ⟨fun c44 => ?_, fun c44 => ?_⟩)
                    ·
                      refine x_iconst (v := (-1)) rfl ki_m1 ?_
                      refine x_iret rfl rfl ?_
                      show jX m_X5_isNamed 5 0 0 15 [(0, .ref 70), (1, .int v38)] [.int (-1)] _ 0 0 _
                      refine x_iflt (tgt := 22) rfl rfl (ti_lt jk_m1 jk_0 (br_t (by omega) ?_))
                      refine x_iconst (v := 0) rfl ki_0 ?_
                      refine x_zret rfl rfl (by decide) ?_
                      show jX m_X7_namedSoul 6 0 0 8 [(0, .ref 78), (1, .int v38)] [.int 0] _ 0 0 _
                      refine x_ifeq (tgt := 19) rfl rfl (ti_eq jk_0 jk_0 (br_t (by omega) ?_))
                      refine x_iconst (v := (-1)) rfl ki_m1 ?_
                      refine x_iret rfl rfl ?_
                      show jX m_X7_parentOf 7 0 0 22 [(3, .int v36), (0, .ref 78), (1, .int v11), (2, .int 2)] [.int (-1)] _ 0 0 _
                      refine x_iret rfl rfl ?_
                      show jX m_X11_kin 8 0 0 69 [(5, .int v11), (0, .ref 31), (1, .int a1), (2, .int a2), (3, .int a3), (4, .int a4)] [.int (-1)] _ 0 0 _
                      refine x_iret rfl rfl ?_
                      exact hQ _ _ (jr_of jk_m1 (by omega)) J Sm
                    ·
                      refine x_aloadn (x := 70) rfl rfl ?_
                      refine z_getR (N := 9) (b := 76) 5 7 rfl f_5_28 rfl J rfl 8967 ⟨rfl, rfl⟩ rfl ?_
                      refine x_iloadn (x := v43) rfl rfl ?_
                      refine z_iald (N := 1200) rfl J rfl sg_76_0_1200_1_0_1 rfl (by omega) (fun v45 qv45 ev45 => ?_)
                      refine x_goto (tgt := 27) rfl rfl ?_
                      refine x_iret rfl rfl ?_
                      show jX m_X5_isNamed 5 0 0 15 [(0, .ref 70), (1, .int v38)] [.int v45] _ 0 0 _
                      refine x_iflt (tgt := 22) rfl rfl (ti_lt rfl jk_0 (br_f (by omega) ?_))
                      refine x_iconst (v := 1) rfl ki_1 ?_
                      refine x_goto (tgt := 23) rfl rfl ?_
                      refine x_zret rfl rfl (by decide) ?_
                      show jX m_X7_namedSoul 6 0 0 8 [(0, .ref 78), (1, .int v38)] [.int 1] _ 0 0 _
                      refine x_ifeq (tgt := 19) rfl rfl (ti_eq jk_1 jk_0 (br_f (by omega) ?_))
                      refine x_aloadn (x := 78) rfl rfl ?_
                      refine x_iloadn (x := v38) rfl rfl ?_
                      refine x_inv (N := m_X7_soulAt) (As := [.int v38]) (b := 78) (st := []) (d' := 5) (mc := 0) (ms := 0) (host := "") 7 rfl t_X7_soulAt ⟨Or.inl q_7_153, i_X7_soulAt.1, i_X7_soulAt.2⟩ ⟨by decide, rfl⟩ (congrArg Prod.fst (J.1.1 78 (7, 16) rfl)) rfl (by decide) rfl rfl ⟨by decide, by decide⟩ (jC.of rfl k_X7_soulAt rfl ?_)
                      show jX m_X7_soulAt 5 0 0 0 [(0, .ref 78), (1, .int v38)] [] _ 0 0 _
                      refine x_iloadn (x := v38) rfl rfl ?_
                      refine x_iflt (tgt := 36) rfl rfl (ti_lt rfl jk_0 (br_f (by omega) ?_))
                      refine x_iloadn (x := v38) rfl rfl ?_
                      refine x_sipush (v := 600) rfl ks_600 ?_
                      refine x_icge (tgt := 36) rfl rfl (ti_ge rfl jk_600 ⟨fun c46 => ?_, fun c46 => ?_⟩)
                      ·
                        refine x_iconst (v := (-1)) rfl ki_m1 ?_
                        refine x_iret rfl rfl ?_
                        show jX m_X7_namedSoul 6 0 0 16 [(0, .ref 78), (1, .int v38)] [.int (-1)] _ 0 0 _
                        refine x_goto (tgt := 20) rfl rfl ?_
                        refine x_iret rfl rfl ?_
                        show jX m_X7_parentOf 7 0 0 22 [(3, .int v36), (0, .ref 78), (1, .int v11), (2, .int 2)] [.int (-1)] _ 0 0 _
                        refine x_iret rfl rfl ?_
                        show jX m_X11_kin 8 0 0 69 [(5, .int v11), (0, .ref 31), (1, .int a1), (2, .int a2), (3, .int a3), (4, .int a4)] [.int (-1)] _ 0 0 _
                        refine x_iret rfl rfl ?_
                        exact hQ _ _ (jr_of jk_m1 (by omega)) J Sm
                      ·
                        refine x_iloadn (x := v38) rfl rfl ?_
                        refine x_iconst (v := 3) rfl ki_3 ?_
                        refine z_idiv rfl rfl jk_3 (by omega) (by omega) (fun v47 ev47 => ?_)
                        refine x_aloadn (x := 78) rfl rfl ?_
                        refine z_getR (N := 16) (b := 32) 7 0 rfl f_7_55 rfl J rfl 9984 ⟨rfl, rfl⟩ rfl ?_
                        refine z_getR (N := 20) (b := 33) 1 0 rfl f_7_63 rfl J rfl 4096 ⟨rfl, rfl⟩ rfl ?_
                        refine z_getM (N := 4) (v := v6) 8 3 rfl f_7_85 rfl J rfl (jmc S35 rfl (jmc S10 rfl qv6)) ?_
                        refine x_icge (tgt := 36) rfl rfl (ti_ge rfl rfl ⟨fun c48 => ?_, fun c48 => ?_⟩)
                        ·
                          refine x_iconst (v := (-1)) rfl ki_m1 ?_
                          refine x_iret rfl rfl ?_
                          show jX m_X7_namedSoul 6 0 0 16 [(0, .ref 78), (1, .int v38)] [.int (-1)] _ 0 0 _
                          refine x_goto (tgt := 20) rfl rfl ?_
                          refine x_iret rfl rfl ?_
                          show jX m_X7_parentOf 7 0 0 22 [(3, .int v36), (0, .ref 78), (1, .int v11), (2, .int 2)] [.int (-1)] _ 0 0 _
                          refine x_iret rfl rfl ?_
                          show jX m_X11_kin 8 0 0 69 [(5, .int v11), (0, .ref 31), (1, .int a1), (2, .int a2), (3, .int a3), (4, .int a4)] [.int (-1)] _ 0 0 _
                          refine x_iret rfl rfl ?_
                          exact hQ _ _ (jr_of jk_m1 (by omega)) J Sm
                        ·
                          refine x_aloadn (x := 78) rfl rfl ?_
                          refine z_getR (N := 16) (b := 82) 7 10 rfl f_7_37 rfl J rfl 9994 ⟨rfl, rfl⟩ rfl ?_
                          refine x_iloadn (x := v38) rfl rfl ?_
                          refine z_iald (N := 600) rfl J rfl sg_82_0_600_1_0_1 rfl (by omega) (fun v49 qv49 ev49 => ?_)
                          refine x_goto (tgt := 37) rfl rfl ?_
                          refine x_iret rfl rfl ?_
                          show jX m_X7_namedSoul 6 0 0 16 [(0, .ref 78), (1, .int v38)] [.int v49] _ 0 0 _
                          refine x_goto (tgt := 20) rfl rfl ?_
                          refine x_iret rfl rfl ?_
                          show jX m_X7_parentOf 7 0 0 22 [(3, .int v36), (0, .ref 78), (1, .int v11), (2, .int 2)] [.int v49] _ 0 0 _
                          refine x_iret rfl rfl ?_
                          show jX m_X11_kin 8 0 0 69 [(5, .int v11), (0, .ref 31), (1, .int a1), (2, .int a2), (3, .int a3), (4, .int a4)] [.int v49] _ 0 0 _
                          refine x_iret rfl rfl ?_
                          exact hQ _ _ (jr_of rfl (by omega)) J Sm
                  ·
                    refine x_aloadn (x := 70) rfl rfl ?_
                    refine z_getR (N := 9) (b := 76) 5 7 rfl f_5_28 rfl J rfl 8967 ⟨rfl, rfl⟩ rfl ?_
                    refine x_iloadn (x := v40) rfl rfl ?_
                    refine z_iald (N := 1200) rfl J rfl sg_76_0_1200_1_0_1 rfl (by omega) (fun v50 qv50 ev50 => ?_)
                    refine x_goto (tgt := 27) rfl rfl ?_
                    refine x_iret rfl rfl ?_
                    show jX m_X5_isNamed 5 0 0 6 [(0, .ref 70), (1, .int v38)] [.int v50] _ 0 0 _
                    refine x_ifge (tgt := 18) rfl rfl (ti_ge rfl jk_0 (br_t (by omega) ?_))
                    refine x_iconst (v := 1) rfl ki_1 ?_
                    refine x_goto (tgt := 23) rfl rfl ?_
                    refine x_zret rfl rfl (by decide) ?_
                    show jX m_X7_namedSoul 6 0 0 8 [(0, .ref 78), (1, .int v38)] [.int 1] _ 0 0 _
                    refine x_ifeq (tgt := 19) rfl rfl (ti_eq jk_1 jk_0 (br_f (by omega) ?_))
                    refine x_aloadn (x := 78) rfl rfl ?_
                    refine x_iloadn (x := v38) rfl rfl ?_
                    refine x_inv (N := m_X7_soulAt) (As := [.int v38]) (b := 78) (st := []) (d' := 5) (mc := 0) (ms := 0) (host := "") 7 rfl t_X7_soulAt ⟨Or.inl q_7_153, i_X7_soulAt.1, i_X7_soulAt.2⟩ ⟨by decide, rfl⟩ (congrArg Prod.fst (J.1.1 78 (7, 16) rfl)) rfl (by decide) rfl rfl ⟨by decide, by decide⟩ (jC.of rfl k_X7_soulAt rfl ?_)
                    show jX m_X7_soulAt 5 0 0 0 [(0, .ref 78), (1, .int v38)] [] _ 0 0 _
                    refine x_iloadn (x := v38) rfl rfl ?_
                    refine x_iflt (tgt := 36) rfl rfl (ti_lt rfl jk_0 (br_f (by omega) ?_))
                    refine x_iloadn (x := v38) rfl rfl ?_
                    refine x_sipush (v := 600) rfl ks_600 ?_
                    refine x_icge (tgt := 36) rfl rfl (ti_ge rfl jk_600 ⟨fun c51 => ?_, fun c51 => ?_⟩)
                    ·
                      refine x_iconst (v := (-1)) rfl ki_m1 ?_
                      refine x_iret rfl rfl ?_
                      show jX m_X7_namedSoul 6 0 0 16 [(0, .ref 78), (1, .int v38)] [.int (-1)] _ 0 0 _
                      refine x_goto (tgt := 20) rfl rfl ?_
                      refine x_iret rfl rfl ?_
                      show jX m_X7_parentOf 7 0 0 22 [(3, .int v36), (0, .ref 78), (1, .int v11), (2, .int 2)] [.int (-1)] _ 0 0 _
                      refine x_iret rfl rfl ?_
                      show jX m_X11_kin 8 0 0 69 [(5, .int v11), (0, .ref 31), (1, .int a1), (2, .int a2), (3, .int a3), (4, .int a4)] [.int (-1)] _ 0 0 _
                      refine x_iret rfl rfl ?_
                      exact hQ _ _ (jr_of jk_m1 (by omega)) J Sm
                    ·
                      refine x_iloadn (x := v38) rfl rfl ?_
                      refine x_iconst (v := 3) rfl ki_3 ?_
                      refine z_idiv rfl rfl jk_3 (by omega) (by omega) (fun v52 ev52 => ?_)
                      refine x_aloadn (x := 78) rfl rfl ?_
                      refine z_getR (N := 16) (b := 32) 7 0 rfl f_7_55 rfl J rfl 9984 ⟨rfl, rfl⟩ rfl ?_
                      refine z_getR (N := 20) (b := 33) 1 0 rfl f_7_63 rfl J rfl 4096 ⟨rfl, rfl⟩ rfl ?_
                      refine z_getM (N := 4) (v := v6) 8 3 rfl f_7_85 rfl J rfl (jmc S35 rfl (jmc S10 rfl qv6)) ?_
                      refine x_icge (tgt := 36) rfl rfl (ti_ge rfl rfl ⟨fun c53 => ?_, fun c53 => ?_⟩)
                      ·
                        refine x_iconst (v := (-1)) rfl ki_m1 ?_
                        refine x_iret rfl rfl ?_
                        show jX m_X7_namedSoul 6 0 0 16 [(0, .ref 78), (1, .int v38)] [.int (-1)] _ 0 0 _
                        refine x_goto (tgt := 20) rfl rfl ?_
                        refine x_iret rfl rfl ?_
                        show jX m_X7_parentOf 7 0 0 22 [(3, .int v36), (0, .ref 78), (1, .int v11), (2, .int 2)] [.int (-1)] _ 0 0 _
                        refine x_iret rfl rfl ?_
                        show jX m_X11_kin 8 0 0 69 [(5, .int v11), (0, .ref 31), (1, .int a1), (2, .int a2), (3, .int a3), (4, .int a4)] [.int (-1)] _ 0 0 _
                        refine x_iret rfl rfl ?_
                        exact hQ _ _ (jr_of jk_m1 (by omega)) J Sm
                      ·
                        refine x_aloadn (x := 78) rfl rfl ?_
                        refine z_getR (N := 16) (b := 82) 7 10 rfl f_7_37 rfl J rfl 9994 ⟨rfl, rfl⟩ rfl ?_
                        refine x_iloadn (x := v38) rfl rfl ?_
                        refine z_iald (N := 600) rfl J rfl sg_82_0_600_1_0_1 rfl (by omega) (fun v54 qv54 ev54 => ?_)
                        refine x_goto (tgt := 37) rfl rfl ?_
                        refine x_iret rfl rfl ?_
                        show jX m_X7_namedSoul 6 0 0 16 [(0, .ref 78), (1, .int v38)] [.int v54] _ 0 0 _
                        refine x_goto (tgt := 20) rfl rfl ?_
                        refine x_iret rfl rfl ?_
                        show jX m_X7_parentOf 7 0 0 22 [(3, .int v36), (0, .ref 78), (1, .int v11), (2, .int 2)] [.int v54] _ 0 0 _
                        refine x_iret rfl rfl ?_
                        show jX m_X11_kin 8 0 0 69 [(5, .int v11), (0, .ref 31), (1, .int a1), (2, .int a2), (3, .int a3), (4, .int a4)] [.int v54] _ 0 0 _
                        refine x_iret rfl rfl ?_
                        exact hQ _ _ (jr_of rfl (by omega)) J Sm
                ·
                  refine x_iconst (v := (-1)) rfl ki_m1 ?_
                  refine x_goto (tgt := 22) rfl rfl ?_
                  refine x_iret rfl rfl ?_
                  show jX m_X11_kin 8 0 0 69 [(5, .int v11), (0, .ref 31), (1, .int a1), (2, .int a2), (3, .int a3), (4, .int a4)] [.int (-1)] _ 0 0 _
                  refine x_iret rfl rfl ?_
                  exact hQ _ _ (jr_of jk_m1 (by omega)) J Sm
              by_cases c55 : a3.toInt = 2
              ·
                refine x_tableIn (tgt := 70) 2 rfl c55 (by decide) (by decide) rfl rfl ?_
                refine x_aloadn (x := 31) rfl rfl ?_
                refine z_getR (N := 13) (b := 78) 11 4 rfl f_11_41 rfl J rfl 3972 ⟨rfl, rfl⟩ rfl ?_
                refine x_iload (x := v11) rfl rfl ?_
                refine x_iload (x := a4) rfl rfl ?_
                refine x_inv (N := m_X7_childOf) (As := [.int v11, .int a4]) (b := 78) (st := []) (d' := 3) (mc := 0) (ms := 0) (host := "") 7 rfl t_X7_childOf ⟨Or.inl q_11_258, i_X7_childOf.1, i_X7_childOf.2⟩ ⟨by decide, rfl⟩ (congrArg Prod.fst (J.1.1 78 (7, 16) rfl)) rfl (by decide) rfl rfl ⟨by decide, by decide⟩ (sf_X7_childOf_r78 (jr_of rfl (by omega)) hD J  (fun v57 h ev57 J S56 => ?_))
                have Sm := jSm_tr rfl Sm S56
                show jX m_X11_kin 8 0 0 81 [(5, .int v11), (0, .ref 31), (1, .int a1), (2, .int a2), (3, .int a3), (4, .int a4)] [.int v57] _ 0 0 _
                refine x_iret rfl rfl ?_
                exact hQ _ _ (jr_of rfl (by omega)) J Sm
              by_cases c58 : a3.toInt = 3
              ·
                refine x_tableIn (tgt := 82) 3 rfl c58 (by decide) (by decide) rfl rfl ?_
                refine x_aloadn (x := 31) rfl rfl ?_
                refine z_getR (N := 13) (b := 78) 11 4 rfl f_11_41 rfl J rfl 3972 ⟨rfl, rfl⟩ rfl ?_
                refine x_iload (x := v11) rfl rfl ?_
                refine x_iload (x := a4) rfl rfl ?_
                refine x_inv (N := m_X7_spouseOf) (As := [.int v11, .int a4]) (b := 78) (st := []) (d' := 4) (mc := 0) (ms := 0) (host := "") 7 rfl t_X7_spouseOf ⟨Or.inl q_11_261, i_X7_spouseOf.1, i_X7_spouseOf.2⟩ ⟨by decide, rfl⟩ (congrArg Prod.fst (J.1.1 78 (7, 16) rfl)) rfl (by decide) rfl rfl ⟨by decide, by decide⟩ (sf_X7_spouseOf_r78 (jr_of rfl (by omega)) hD J  (fun v60 h ev60 J S59 => ?_))
                have Sm := jSm_tr rfl Sm S59
                show jX m_X11_kin 8 0 0 93 [(5, .int v11), (0, .ref 31), (1, .int a1), (2, .int a2), (3, .int a3), (4, .int a4)] [.int v60] _ 0 0 _
                refine x_iret rfl rfl ?_
                exact hQ _ _ (jr_of rfl (by omega)) J Sm
              refine x_tableOut (tgt := 94) rfl (by omega) rfl ?_
              refine x_iconst (v := (-1)) rfl ki_m1 ?_
              refine x_iret rfl rfl ?_
              exact hQ _ _ (jr_of jk_m1 (by omega)) J Sm
            ·
              refine x_iconst (v := (-1)) rfl ki_m1 ?_
              refine x_iret rfl rfl ?_
              exact hQ _ _ (jr_of jk_m1 (by omega)) J Sm
def fp_X8_put_r53_c0 : jFp := [(54, 0, 160)]
set_option maxRecDepth 100000 in
set_option maxHeartbeats 4000000 in
theorem ct_X8_put_r53_c0_38 {Dy : jH → Prop} {h0 : jH} {Q : Option Value → jH → Prop} (hD : jDk Dy) (hQ : ∀ h', jJ jSgX Dy h' → jSm fp_X8_put_r53_c0 h0 h' → Q none h') : ∀ (h : jH), jJ jSgX Dy h → jSm fp_X8_put_r53_c0 h0 h → jX m_X8_put 1 0 0 38 [] [] h 0 0 Q := by
  intro  h    J Sm
  refine x_vret rfl rfl ?_
  exact hQ _ J Sm
set_option maxRecDepth 100000 in
set_option maxHeartbeats 4000000 in
theorem sf_X8_put_r53_c0 {Dy : jH → Prop} {h : jH} {Q : Option Value → jH → Prop} {a1 : Int32} {a3 : Int32} (y1 : 0 ≤ a1.toInt ∧ a1.toInt ≤ 39) (y3 : 0 ≤ a3.toInt ∧ a3.toInt ≤ 146399) (hD : jDk Dy) (J : jJ jSgX Dy h) (hQ : ∀ h', jJ jSgX Dy h' → jSm fp_X8_put_r53_c0 h h' → Q none h') : jC m_X8_put 1 0 0 [.ref 53, .int a1, .int 0, .int a3] h Q := by
  refine jC.of rfl k_X8_put rfl ?_
  have Sm := jSm_rf fp_X8_put_r53_c0 h
  show jX m_X8_put 1 0 0 0 [(0, .ref 53), (1, .int a1), (2, .int 0), (3, .int a3)] [] _ 0 0 _
  refine x_iloadn (x := a1) rfl rfl ?_
  refine x_iflt (tgt := 38) rfl rfl (ti_lt rfl jk_0 (br_f (by omega) ?_))
  refine x_iloadn (x := a1) rfl rfl ?_
  refine x_aloadn (x := 53) rfl rfl ?_
  refine z_getI (N := 4) 8 3 rfl f_8_7 rfl J rfl sg_53_3_4_1_0_1 (fun v1 qv1 ev1 => ?_)
  refine x_icge (tgt := 38) rfl rfl (ti_ge rfl rfl ⟨fun c2 => ?_, fun c2 => ?_⟩)
  ·
    exact jX.sub jsb_n (ct_X8_put_r53_c0_38 hD hQ  h J Sm)
  ·
    refine x_iloadn (x := 0) rfl rfl ?_
    refine x_iflt (tgt := 38) rfl rfl (ti_lt jk_0 jk_0 (br_f (by omega) ?_))
    refine x_iloadn (x := 0) rfl rfl ?_
    refine x_aloadn (x := 53) rfl rfl ?_
    refine z_getC (N := 4) (v := 4) 8 0 rfl f_8_19 rfl J rfl sg_53_0_1_1_0_1 jk_4 ?_
    refine x_icge (tgt := 38) rfl rfl (ti_ge jk_0 jk_4 (br_f (by omega) ?_))
    refine x_aloadn (x := 53) rfl rfl ?_
    refine z_getR (N := 4) (b := 54) 8 2 rfl f_8_25 rfl J rfl 6786 ⟨rfl, rfl⟩ rfl ?_
    refine x_iloadn (x := a1) rfl rfl ?_
    refine x_aloadn (x := 53) rfl rfl ?_
    refine z_getC (N := 4) (v := 4) 8 0 rfl f_8_19 rfl J rfl sg_53_0_1_1_0_1 jk_4 ?_
    refine z_imul rfl rfl jk_4 (by omega) (fun v3 ev3 => ?_)
    refine x_iloadn (x := 0) rfl rfl ?_
    refine z_iadd rfl rfl jk_0 (by omega) (fun v4 ev4 => ?_)
    refine x_iloadn (x := a3) rfl rfl ?_
    refine z_iast (N := 160) (l := 0) (u := 160) (w := a3.toInt) rfl hD J Sm rfl rfl rfl (by omega) rfl (wr_54 (fun q1 q2 q3 q4 => by omega) (fun q1 q2 q3 q4 => by omega) (fun q1 q2 q3 q4 => by omega) (fun q1 q2 q3 q4 => by omega)) rfl (fun h w5 J Sm => ?_)
    exact jX.sub jsb_n (ct_X8_put_r53_c0_38 hD hQ  h J Sm)
def fp_X8_put_r53_c1 : jFp := [(54, 0, 160)]
set_option maxRecDepth 100000 in
set_option maxHeartbeats 4000000 in
theorem ct_X8_put_r53_c1_38 {Dy : jH → Prop} {h0 : jH} {Q : Option Value → jH → Prop} (hD : jDk Dy) (hQ : ∀ h', jJ jSgX Dy h' → jSm fp_X8_put_r53_c1 h0 h' → Q none h') : ∀ (h : jH), jJ jSgX Dy h → jSm fp_X8_put_r53_c1 h0 h → jX m_X8_put 1 0 0 38 [] [] h 0 0 Q := by
  intro  h    J Sm
  refine x_vret rfl rfl ?_
  exact hQ _ J Sm
set_option maxRecDepth 100000 in
set_option maxHeartbeats 4000000 in
theorem sf_X8_put_r53_c1 {Dy : jH → Prop} {h : jH} {Q : Option Value → jH → Prop} {a1 : Int32} {a3 : Int32} (y1 : 0 ≤ a1.toInt ∧ a1.toInt ≤ 39) (y3 : 0 ≤ a3.toInt ∧ a3.toInt ≤ 399) (hD : jDk Dy) (J : jJ jSgX Dy h) (hQ : ∀ h', jJ jSgX Dy h' → jSm fp_X8_put_r53_c1 h h' → Q none h') : jC m_X8_put 1 0 0 [.ref 53, .int a1, .int 1, .int a3] h Q := by
  refine jC.of rfl k_X8_put rfl ?_
  have Sm := jSm_rf fp_X8_put_r53_c1 h
  show jX m_X8_put 1 0 0 0 [(0, .ref 53), (1, .int a1), (2, .int 1), (3, .int a3)] [] _ 0 0 _
  refine x_iloadn (x := a1) rfl rfl ?_
  refine x_iflt (tgt := 38) rfl rfl (ti_lt rfl jk_0 (br_f (by omega) ?_))
  refine x_iloadn (x := a1) rfl rfl ?_
  refine x_aloadn (x := 53) rfl rfl ?_
  refine z_getI (N := 4) 8 3 rfl f_8_7 rfl J rfl sg_53_3_4_1_0_1 (fun v1 qv1 ev1 => ?_)
  refine x_icge (tgt := 38) rfl rfl (ti_ge rfl rfl ⟨fun c2 => ?_, fun c2 => ?_⟩)
  ·
    exact jX.sub jsb_n (ct_X8_put_r53_c1_38 hD hQ  h J Sm)
  ·
    refine x_iloadn (x := 1) rfl rfl ?_
    refine x_iflt (tgt := 38) rfl rfl (ti_lt jk_1 jk_0 (br_f (by omega) ?_))
    refine x_iloadn (x := 1) rfl rfl ?_
    refine x_aloadn (x := 53) rfl rfl ?_
    refine z_getC (N := 4) (v := 4) 8 0 rfl f_8_19 rfl J rfl sg_53_0_1_1_0_1 jk_4 ?_
    refine x_icge (tgt := 38) rfl rfl (ti_ge jk_1 jk_4 (br_f (by omega) ?_))
    refine x_aloadn (x := 53) rfl rfl ?_
    refine z_getR (N := 4) (b := 54) 8 2 rfl f_8_25 rfl J rfl 6786 ⟨rfl, rfl⟩ rfl ?_
    refine x_iloadn (x := a1) rfl rfl ?_
    refine x_aloadn (x := 53) rfl rfl ?_
    refine z_getC (N := 4) (v := 4) 8 0 rfl f_8_19 rfl J rfl sg_53_0_1_1_0_1 jk_4 ?_
    refine z_imul rfl rfl jk_4 (by omega) (fun v3 ev3 => ?_)
    refine x_iloadn (x := 1) rfl rfl ?_
    refine z_iadd rfl rfl jk_1 (by omega) (fun v4 ev4 => ?_)
    refine x_iloadn (x := a3) rfl rfl ?_
    refine z_iast (N := 160) (l := 0) (u := 160) (w := a3.toInt) rfl hD J Sm rfl rfl rfl (by omega) rfl (wr_54 (fun q1 q2 q3 q4 => by omega) (fun q1 q2 q3 q4 => by omega) (fun q1 q2 q3 q4 => by omega) (fun q1 q2 q3 q4 => by omega)) rfl (fun h w5 J Sm => ?_)
    exact jX.sub jsb_n (ct_X8_put_r53_c1_38 hD hQ  h J Sm)
def fp_X8_put_r53_c2 : jFp := [(54, 0, 160)]
set_option maxRecDepth 100000 in
set_option maxHeartbeats 4000000 in
theorem ct_X8_put_r53_c2_38 {Dy : jH → Prop} {h0 : jH} {Q : Option Value → jH → Prop} (hD : jDk Dy) (hQ : ∀ h', jJ jSgX Dy h' → jSm fp_X8_put_r53_c2 h0 h' → Q none h') : ∀ (h : jH), jJ jSgX Dy h → jSm fp_X8_put_r53_c2 h0 h → jX m_X8_put 1 0 0 38 [] [] h 0 0 Q := by
  intro  h    J Sm
  refine x_vret rfl rfl ?_
  exact hQ _ J Sm
set_option maxRecDepth 100000 in
set_option maxHeartbeats 4000000 in
theorem sf_X8_put_r53_c2 {Dy : jH → Prop} {h : jH} {Q : Option Value → jH → Prop} {a1 : Int32} {a3 : Int32} (y1 : 0 ≤ a1.toInt ∧ a1.toInt ≤ 39) (y3 : 0 ≤ a3.toInt ∧ a3.toInt ≤ 2) (hD : jDk Dy) (J : jJ jSgX Dy h) (hQ : ∀ h', jJ jSgX Dy h' → jSm fp_X8_put_r53_c2 h h' → Q none h') : jC m_X8_put 1 0 0 [.ref 53, .int a1, .int 2, .int a3] h Q := by
  refine jC.of rfl k_X8_put rfl ?_
  have Sm := jSm_rf fp_X8_put_r53_c2 h
  show jX m_X8_put 1 0 0 0 [(0, .ref 53), (1, .int a1), (2, .int 2), (3, .int a3)] [] _ 0 0 _
  refine x_iloadn (x := a1) rfl rfl ?_
  refine x_iflt (tgt := 38) rfl rfl (ti_lt rfl jk_0 (br_f (by omega) ?_))
  refine x_iloadn (x := a1) rfl rfl ?_
  refine x_aloadn (x := 53) rfl rfl ?_
  refine z_getI (N := 4) 8 3 rfl f_8_7 rfl J rfl sg_53_3_4_1_0_1 (fun v1 qv1 ev1 => ?_)
  refine x_icge (tgt := 38) rfl rfl (ti_ge rfl rfl ⟨fun c2 => ?_, fun c2 => ?_⟩)
  ·
    exact jX.sub jsb_n (ct_X8_put_r53_c2_38 hD hQ  h J Sm)
  ·
    refine x_iloadn (x := 2) rfl rfl ?_
    refine x_iflt (tgt := 38) rfl rfl (ti_lt jk_2 jk_0 (br_f (by omega) ?_))
    refine x_iloadn (x := 2) rfl rfl ?_
    refine x_aloadn (x := 53) rfl rfl ?_
    refine z_getC (N := 4) (v := 4) 8 0 rfl f_8_19 rfl J rfl sg_53_0_1_1_0_1 jk_4 ?_
    refine x_icge (tgt := 38) rfl rfl (ti_ge jk_2 jk_4 (br_f (by omega) ?_))
    refine x_aloadn (x := 53) rfl rfl ?_
    refine z_getR (N := 4) (b := 54) 8 2 rfl f_8_25 rfl J rfl 6786 ⟨rfl, rfl⟩ rfl ?_
    refine x_iloadn (x := a1) rfl rfl ?_
    refine x_aloadn (x := 53) rfl rfl ?_
    refine z_getC (N := 4) (v := 4) 8 0 rfl f_8_19 rfl J rfl sg_53_0_1_1_0_1 jk_4 ?_
    refine z_imul rfl rfl jk_4 (by omega) (fun v3 ev3 => ?_)
    refine x_iloadn (x := 2) rfl rfl ?_
    refine z_iadd rfl rfl jk_2 (by omega) (fun v4 ev4 => ?_)
    refine x_iloadn (x := a3) rfl rfl ?_
    refine z_iast (N := 160) (l := 0) (u := 160) (w := a3.toInt) rfl hD J Sm rfl rfl rfl (by omega) rfl (wr_54 (fun q1 q2 q3 q4 => by omega) (fun q1 q2 q3 q4 => by omega) (fun q1 q2 q3 q4 => by omega) (fun q1 q2 q3 q4 => by omega)) rfl (fun h w5 J Sm => ?_)
    exact jX.sub jsb_n (ct_X8_put_r53_c2_38 hD hQ  h J Sm)
def fp_X8_put_r53_c3 : jFp := [(54, 0, 160)]
set_option maxRecDepth 100000 in
set_option maxHeartbeats 4000000 in
theorem ct_X8_put_r53_c3_38 {Dy : jH → Prop} {h0 : jH} {Q : Option Value → jH → Prop} (hD : jDk Dy) (hQ : ∀ h', jJ jSgX Dy h' → jSm fp_X8_put_r53_c3 h0 h' → Q none h') : ∀ (h : jH), jJ jSgX Dy h → jSm fp_X8_put_r53_c3 h0 h → jX m_X8_put 1 0 0 38 [] [] h 0 0 Q := by
  intro  h    J Sm
  refine x_vret rfl rfl ?_
  exact hQ _ J Sm
set_option maxRecDepth 100000 in
set_option maxHeartbeats 4000000 in
theorem sf_X8_put_r53_c3 {Dy : jH → Prop} {h : jH} {Q : Option Value → jH → Prop} {a1 : Int32} {a3 : Int32} (y1 : 0 ≤ a1.toInt ∧ a1.toInt ≤ 39) (y3 : 0 ≤ a3.toInt ∧ a3.toInt ≤ 1000000) (hD : jDk Dy) (J : jJ jSgX Dy h) (hQ : ∀ h', jJ jSgX Dy h' → jSm fp_X8_put_r53_c3 h h' → Q none h') : jC m_X8_put 1 0 0 [.ref 53, .int a1, .int 3, .int a3] h Q := by
  refine jC.of rfl k_X8_put rfl ?_
  have Sm := jSm_rf fp_X8_put_r53_c3 h
  show jX m_X8_put 1 0 0 0 [(0, .ref 53), (1, .int a1), (2, .int 3), (3, .int a3)] [] _ 0 0 _
  refine x_iloadn (x := a1) rfl rfl ?_
  refine x_iflt (tgt := 38) rfl rfl (ti_lt rfl jk_0 (br_f (by omega) ?_))
  refine x_iloadn (x := a1) rfl rfl ?_
  refine x_aloadn (x := 53) rfl rfl ?_
  refine z_getI (N := 4) 8 3 rfl f_8_7 rfl J rfl sg_53_3_4_1_0_1 (fun v1 qv1 ev1 => ?_)
  refine x_icge (tgt := 38) rfl rfl (ti_ge rfl rfl ⟨fun c2 => ?_, fun c2 => ?_⟩)
  ·
    exact jX.sub jsb_n (ct_X8_put_r53_c3_38 hD hQ  h J Sm)
  ·
    refine x_iloadn (x := 3) rfl rfl ?_
    refine x_iflt (tgt := 38) rfl rfl (ti_lt jk_3 jk_0 (br_f (by omega) ?_))
    refine x_iloadn (x := 3) rfl rfl ?_
    refine x_aloadn (x := 53) rfl rfl ?_
    refine z_getC (N := 4) (v := 4) 8 0 rfl f_8_19 rfl J rfl sg_53_0_1_1_0_1 jk_4 ?_
    refine x_icge (tgt := 38) rfl rfl (ti_ge jk_3 jk_4 (br_f (by omega) ?_))
    refine x_aloadn (x := 53) rfl rfl ?_
    refine z_getR (N := 4) (b := 54) 8 2 rfl f_8_25 rfl J rfl 6786 ⟨rfl, rfl⟩ rfl ?_
    refine x_iloadn (x := a1) rfl rfl ?_
    refine x_aloadn (x := 53) rfl rfl ?_
    refine z_getC (N := 4) (v := 4) 8 0 rfl f_8_19 rfl J rfl sg_53_0_1_1_0_1 jk_4 ?_
    refine z_imul rfl rfl jk_4 (by omega) (fun v3 ev3 => ?_)
    refine x_iloadn (x := 3) rfl rfl ?_
    refine z_iadd rfl rfl jk_3 (by omega) (fun v4 ev4 => ?_)
    refine x_iloadn (x := a3) rfl rfl ?_
    refine z_iast (N := 160) (l := 0) (u := 160) (w := a3.toInt) rfl hD J Sm rfl rfl rfl (by omega) rfl (wr_54 (fun q1 q2 q3 q4 => by omega) (fun q1 q2 q3 q4 => by omega) (fun q1 q2 q3 q4 => by omega) (fun q1 q2 q3 q4 => by omega)) rfl (fun h w5 J Sm => ?_)
    exact jX.sub jsb_n (ct_X8_put_r53_c3_38 hD hQ  h J Sm)
def fp_X8_put_r53_c4 : jFp := []
set_option maxRecDepth 100000 in
set_option maxHeartbeats 4000000 in
theorem ct_X8_put_r53_c4_38 {Dy : jH → Prop} {h0 : jH} {Q : Option Value → jH → Prop} (hD : jDk Dy) (hQ : ∀ h', jJ jSgX Dy h' → jSm fp_X8_put_r53_c4 h0 h' → Q none h') : ∀ (h : jH), jJ jSgX Dy h → jSm fp_X8_put_r53_c4 h0 h → jX m_X8_put 1 0 0 38 [] [] h 0 0 Q := by
  intro  h    J Sm
  refine x_vret rfl rfl ?_
  exact hQ _ J Sm
set_option maxRecDepth 100000 in
set_option maxHeartbeats 4000000 in
theorem sf_X8_put_r53_c4 {Dy : jH → Prop} {h : jH} {Q : Option Value → jH → Prop} {a1 : Int32} {a3 : Int32} (y1 : 0 ≤ a1.toInt ∧ a1.toInt ≤ 39) (y3 : 0 ≤ a3.toInt ∧ a3.toInt ≤ 0) (hD : jDk Dy) (J : jJ jSgX Dy h) (hQ : ∀ h', jJ jSgX Dy h' → jSm fp_X8_put_r53_c4 h h' → Q none h') : jC m_X8_put 1 0 0 [.ref 53, .int a1, .int 4, .int a3] h Q := by
  refine jC.of rfl k_X8_put rfl ?_
  have Sm := jSm_rf fp_X8_put_r53_c4 h
  show jX m_X8_put 1 0 0 0 [(0, .ref 53), (1, .int a1), (2, .int 4), (3, .int a3)] [] _ 0 0 _
  refine x_iloadn (x := a1) rfl rfl ?_
  refine x_iflt (tgt := 38) rfl rfl (ti_lt rfl jk_0 (br_f (by omega) ?_))
  refine x_iloadn (x := a1) rfl rfl ?_
  refine x_aloadn (x := 53) rfl rfl ?_
  refine z_getI (N := 4) 8 3 rfl f_8_7 rfl J rfl sg_53_3_4_1_0_1 (fun v1 qv1 ev1 => ?_)
  refine x_icge (tgt := 38) rfl rfl (ti_ge rfl rfl ⟨fun c2 => ?_, fun c2 => ?_⟩)
  ·
    exact jX.sub jsb_n (ct_X8_put_r53_c4_38 hD hQ  h J Sm)
  ·
    refine x_iloadn (x := 4) rfl rfl ?_
    refine x_iflt (tgt := 38) rfl rfl (ti_lt jk_4 jk_0 (br_f (by omega) ?_))
    refine x_iloadn (x := 4) rfl rfl ?_
    refine x_aloadn (x := 53) rfl rfl ?_
    refine z_getC (N := 4) (v := 4) 8 0 rfl f_8_19 rfl J rfl sg_53_0_1_1_0_1 jk_4 ?_
    refine x_icge (tgt := 38) rfl rfl (ti_ge jk_4 jk_4 (br_t (by omega) ?_))
    exact jX.sub jsb_n (ct_X8_put_r53_c4_38 hD hQ  h J Sm)
def fp_X8_put_r53_c5 : jFp := []
set_option maxRecDepth 100000 in
set_option maxHeartbeats 4000000 in
theorem ct_X8_put_r53_c5_38 {Dy : jH → Prop} {h0 : jH} {Q : Option Value → jH → Prop} (hD : jDk Dy) (hQ : ∀ h', jJ jSgX Dy h' → jSm fp_X8_put_r53_c5 h0 h' → Q none h') : ∀ (h : jH), jJ jSgX Dy h → jSm fp_X8_put_r53_c5 h0 h → jX m_X8_put 1 0 0 38 [] [] h 0 0 Q := by
  intro  h    J Sm
  refine x_vret rfl rfl ?_
  exact hQ _ J Sm
set_option maxRecDepth 100000 in
set_option maxHeartbeats 4000000 in
theorem sf_X8_put_r53_c5 {Dy : jH → Prop} {h : jH} {Q : Option Value → jH → Prop} {a1 : Int32} {a3 : Int32} (y1 : 0 ≤ a1.toInt ∧ a1.toInt ≤ 39) (y3 : 0 ≤ a3.toInt ∧ a3.toInt ≤ 0) (hD : jDk Dy) (J : jJ jSgX Dy h) (hQ : ∀ h', jJ jSgX Dy h' → jSm fp_X8_put_r53_c5 h h' → Q none h') : jC m_X8_put 1 0 0 [.ref 53, .int a1, .int 5, .int a3] h Q := by
  refine jC.of rfl k_X8_put rfl ?_
  have Sm := jSm_rf fp_X8_put_r53_c5 h
  show jX m_X8_put 1 0 0 0 [(0, .ref 53), (1, .int a1), (2, .int 5), (3, .int a3)] [] _ 0 0 _
  refine x_iloadn (x := a1) rfl rfl ?_
  refine x_iflt (tgt := 38) rfl rfl (ti_lt rfl jk_0 (br_f (by omega) ?_))
  refine x_iloadn (x := a1) rfl rfl ?_
  refine x_aloadn (x := 53) rfl rfl ?_
  refine z_getI (N := 4) 8 3 rfl f_8_7 rfl J rfl sg_53_3_4_1_0_1 (fun v1 qv1 ev1 => ?_)
  refine x_icge (tgt := 38) rfl rfl (ti_ge rfl rfl ⟨fun c2 => ?_, fun c2 => ?_⟩)
  ·
    exact jX.sub jsb_n (ct_X8_put_r53_c5_38 hD hQ  h J Sm)
  ·
    refine x_iloadn (x := 5) rfl rfl ?_
    refine x_iflt (tgt := 38) rfl rfl (ti_lt jk_5 jk_0 (br_f (by omega) ?_))
    refine x_iloadn (x := 5) rfl rfl ?_
    refine x_aloadn (x := 53) rfl rfl ?_
    refine z_getC (N := 4) (v := 4) 8 0 rfl f_8_19 rfl J rfl sg_53_0_1_1_0_1 jk_4 ?_
    refine x_icge (tgt := 38) rfl rfl (ti_ge jk_5 jk_4 (br_t (by omega) ?_))
    exact jX.sub jsb_n (ct_X8_put_r53_c5_38 hD hQ  h J Sm)
def fp_X8_add_r53 : jFp := [(53, 3, 4), (54, 0, 160)]
set_option maxRecDepth 100000 in
set_option maxHeartbeats 4000000 in
theorem sf_X8_add_r53 {Dy : jH → Prop} {h : jH} {Q : Option Value → jH → Prop} {a1 : Int32} {a2 : Int32} {a3 : Int32} {a4 : Int32} {a5 : Int32} {a6 : Int32} (y1 : 0 ≤ a1.toInt ∧ a1.toInt ≤ 146399) (y2 : 0 ≤ a2.toInt ∧ a2.toInt ≤ 399) (y3 : 0 ≤ a3.toInt ∧ a3.toInt ≤ 2) (y4 : 0 ≤ a4.toInt ∧ a4.toInt ≤ 1000000) (y5 : 0 ≤ a5.toInt ∧ a5.toInt ≤ 0) (y6 : 0 ≤ a6.toInt ∧ a6.toInt ≤ 0) (hD : jDk Dy) (J : jJ jSgX Dy h) (hQ : ∀ h', jJ jSgX Dy h' → jSm fp_X8_add_r53 h h' → Q none h') : jC m_X8_add 2 0 0 [.ref 53, .int a1, .int a2, .int a3, .int a4, .int a5, .int a6] h Q := by
  refine jC.of rfl k_X8_add rfl ?_
  have Sm := jSm_rf fp_X8_add_r53 h
  show jX m_X8_add 2 0 0 0 [(0, .ref 53), (1, .int a1), (2, .int a2), (3, .int a3), (4, .int a4), (5, .int a5), (6, .int a6)] [] _ 0 0 _
  refine x_aloadn (x := 53) rfl rfl ?_
  refine z_getI (N := 4) 8 3 rfl f_8_7 rfl J rfl sg_53_3_4_1_0_1 (fun v1 qv1 ev1 => ?_)
  refine x_aloadn (x := 53) rfl rfl ?_
  refine z_getC (N := 4) (v := 40) 8 1 rfl f_8_22 rfl J rfl sg_53_1_2_1_0_1 jk_40 ?_
  refine x_iclt (tgt := 12) rfl rfl (ti_lt rfl jk_40 ⟨fun c2 => ?_, fun c2 => ?_⟩)
  ·
    refine x_aloadn (x := 53) rfl rfl ?_
    refine z_getM (N := 4) (v := v1) 8 3 rfl f_8_7 rfl J rfl qv1 ?_
    refine x_istore (ls' := [(7, .int v1), (0, .ref 53), (1, .int a1), (2, .int a2), (3, .int a3), (4, .int a4), (5, .int a5), (6, .int a6)]) rfl rfl rfl ?_
    refine x_aloadn (x := 53) rfl rfl ?_
    refine x_iload (x := v1) rfl rfl ?_
    refine x_iconst (v := 1) rfl ki_1 ?_
    refine z_iadd rfl rfl jk_1 (by omega) (fun v3 ev3 => ?_)
    refine z_putI (N := 4) (w := v3.toInt) 8 3 rfl f_8_7 rfl (jfin_no TX8 RX8 4 rfl rfl) hD J Sm rfl rfl rfl (pw_53_3 (by omega)) rfl (fun h w4 J Sm => ?_)
    refine x_aloadn (x := 53) rfl rfl ?_
    refine x_iload (x := v1) rfl rfl ?_
    refine x_iconst (v := 0) rfl ki_0 ?_
    refine x_iloadn (x := a1) rfl rfl ?_
    refine x_inv (N := m_X8_put) (As := [.int v1, .int 0, .int a1]) (b := 53) (st := []) (d' := 1) (mc := 0) (ms := 0) (host := "") 8 rfl t_X8_put ⟨Or.inl q_8_29, i_X8_put.1, i_X8_put.2⟩ ⟨by decide, rfl⟩ (congrArg Prod.fst (J.1.1 53 (8, 4) rfl)) rfl (by decide) rfl rfl ⟨by decide, by decide⟩ (sf_X8_put_r53_c0 (jr_of rfl (by omega)) (jr_of rfl (by omega)) hD J  (fun h J S5 => ?_))
    have Sm := jSm_tr rfl Sm S5
    show jX m_X8_add 2 0 0 34 [(7, .int v1), (0, .ref 53), (1, .int a1), (2, .int a2), (3, .int a3), (4, .int a4), (5, .int a5), (6, .int a6)] [] _ 0 0 _
    refine x_aloadn (x := 53) rfl rfl ?_
    refine x_iload (x := v1) rfl rfl ?_
    refine x_iconst (v := 1) rfl ki_1 ?_
    refine x_iloadn (x := a2) rfl rfl ?_
    refine x_inv (N := m_X8_put) (As := [.int v1, .int 1, .int a2]) (b := 53) (st := []) (d' := 1) (mc := 0) (ms := 0) (host := "") 8 rfl t_X8_put ⟨Or.inl q_8_29, i_X8_put.1, i_X8_put.2⟩ ⟨by decide, rfl⟩ (congrArg Prod.fst (J.1.1 53 (8, 4) rfl)) rfl (by decide) rfl rfl ⟨by decide, by decide⟩ (sf_X8_put_r53_c1 (jr_of rfl (by omega)) (jr_of rfl (by omega)) hD J  (fun h J S6 => ?_))
    have Sm := jSm_tr rfl Sm S6
    show jX m_X8_add 2 0 0 42 [(7, .int v1), (0, .ref 53), (1, .int a1), (2, .int a2), (3, .int a3), (4, .int a4), (5, .int a5), (6, .int a6)] [] _ 0 0 _
    refine x_aloadn (x := 53) rfl rfl ?_
    refine x_iload (x := v1) rfl rfl ?_
    refine x_iconst (v := 2) rfl ki_2 ?_
    refine x_iloadn (x := a3) rfl rfl ?_
    refine x_inv (N := m_X8_put) (As := [.int v1, .int 2, .int a3]) (b := 53) (st := []) (d' := 1) (mc := 0) (ms := 0) (host := "") 8 rfl t_X8_put ⟨Or.inl q_8_29, i_X8_put.1, i_X8_put.2⟩ ⟨by decide, rfl⟩ (congrArg Prod.fst (J.1.1 53 (8, 4) rfl)) rfl (by decide) rfl rfl ⟨by decide, by decide⟩ (sf_X8_put_r53_c2 (jr_of rfl (by omega)) (jr_of rfl (by omega)) hD J  (fun h J S7 => ?_))
    have Sm := jSm_tr rfl Sm S7
    show jX m_X8_add 2 0 0 50 [(7, .int v1), (0, .ref 53), (1, .int a1), (2, .int a2), (3, .int a3), (4, .int a4), (5, .int a5), (6, .int a6)] [] _ 0 0 _
    refine x_aloadn (x := 53) rfl rfl ?_
    refine x_iload (x := v1) rfl rfl ?_
    refine x_iconst (v := 3) rfl ki_3 ?_
    refine x_iload (x := a4) rfl rfl ?_
    refine x_inv (N := m_X8_put) (As := [.int v1, .int 3, .int a4]) (b := 53) (st := []) (d' := 1) (mc := 0) (ms := 0) (host := "") 8 rfl t_X8_put ⟨Or.inl q_8_29, i_X8_put.1, i_X8_put.2⟩ ⟨by decide, rfl⟩ (congrArg Prod.fst (J.1.1 53 (8, 4) rfl)) rfl (by decide) rfl rfl ⟨by decide, by decide⟩ (sf_X8_put_r53_c3 (jr_of rfl (by omega)) (jr_of rfl (by omega)) hD J  (fun h J S8 => ?_))
    have Sm := jSm_tr rfl Sm S8
    show jX m_X8_add 2 0 0 59 [(7, .int v1), (0, .ref 53), (1, .int a1), (2, .int a2), (3, .int a3), (4, .int a4), (5, .int a5), (6, .int a6)] [] _ 0 0 _
    refine x_aloadn (x := 53) rfl rfl ?_
    refine x_iload (x := v1) rfl rfl ?_
    refine x_iconst (v := 4) rfl ki_4 ?_
    refine x_iload (x := a5) rfl rfl ?_
    refine x_inv (N := m_X8_put) (As := [.int v1, .int 4, .int a5]) (b := 53) (st := []) (d' := 1) (mc := 0) (ms := 0) (host := "") 8 rfl t_X8_put ⟨Or.inl q_8_29, i_X8_put.1, i_X8_put.2⟩ ⟨by decide, rfl⟩ (congrArg Prod.fst (J.1.1 53 (8, 4) rfl)) rfl (by decide) rfl rfl ⟨by decide, by decide⟩ (sf_X8_put_r53_c4 (jr_of rfl (by omega)) (jr_of rfl (by omega)) hD J  (fun h J S9 => ?_))
    have Sm := jSm_tr rfl Sm S9
    show jX m_X8_add 2 0 0 68 [(7, .int v1), (0, .ref 53), (1, .int a1), (2, .int a2), (3, .int a3), (4, .int a4), (5, .int a5), (6, .int a6)] [] _ 0 0 _
    refine x_aloadn (x := 53) rfl rfl ?_
    refine x_iload (x := v1) rfl rfl ?_
    refine x_iconst (v := 5) rfl ki_5 ?_
    refine x_iload (x := a6) rfl rfl ?_
    refine x_inv (N := m_X8_put) (As := [.int v1, .int 5, .int a6]) (b := 53) (st := []) (d' := 1) (mc := 0) (ms := 0) (host := "") 8 rfl t_X8_put ⟨Or.inl q_8_29, i_X8_put.1, i_X8_put.2⟩ ⟨by decide, rfl⟩ (congrArg Prod.fst (J.1.1 53 (8, 4) rfl)) rfl (by decide) rfl rfl ⟨by decide, by decide⟩ (sf_X8_put_r53_c5 (jr_of rfl (by omega)) (jr_of rfl (by omega)) hD J  (fun h J S10 => ?_))
    have Sm := jSm_tr rfl Sm S10
    show jX m_X8_add 2 0 0 77 [(7, .int v1), (0, .ref 53), (1, .int a1), (2, .int a2), (3, .int a3), (4, .int a4), (5, .int a5), (6, .int a6)] [] _ 0 0 _
    refine x_vret rfl rfl ?_
    exact hQ _ J Sm
  ·
    refine x_vret rfl rfl ?_
    exact hQ _ J Sm
def fp_X8_isFull_r53 : jFp := []
set_option maxRecDepth 100000 in
set_option maxHeartbeats 4000000 in
theorem ct_X8_isFull_r53_16 {Dy : jH → Prop} {h0 : jH} {Q : Option Value → jH → Prop} (hD : jDk Dy) (hQ : ∀ (v : Int32) h', 0 ≤ v.toInt ∧ v.toInt ≤ 1 → jJ jSgX Dy h' → jSm fp_X8_isFull_r53 h0 h' → Q (some (.int v)) h') : ∀ (s0 : Int32) (h : jH), 0 ≤ s0.toInt ∧ s0.toInt ≤ 1 → jJ jSgX Dy h → jSm fp_X8_isFull_r53 h0 h → jX m_X8_isFull 1 0 0 16 [] [.int s0] h 0 0 Q := by
  intro s0 h y0   J Sm
  refine x_zret rfl rfl (jz01 (by omega)) ?_
  exact hQ _ _ (jr_of rfl (by omega)) J Sm
set_option maxRecDepth 100000 in
set_option maxHeartbeats 4000000 in
theorem sf_X8_isFull_r53 {Dy : jH → Prop} {h : jH} {Q : Option Value → jH → Prop} (hD : jDk Dy) (J : jJ jSgX Dy h) (hQ : ∀ (v : Int32) h', 0 ≤ v.toInt ∧ v.toInt ≤ 1 → jJ jSgX Dy h' → jSm fp_X8_isFull_r53 h h' → Q (some (.int v)) h') : jC m_X8_isFull 1 0 0 [.ref 53] h Q := by
  refine jC.of rfl k_X8_isFull rfl ?_
  have Sm := jSm_rf fp_X8_isFull_r53 h
  show jX m_X8_isFull 1 0 0 0 [(0, .ref 53)] [] _ 0 0 _
  refine x_aloadn (x := 53) rfl rfl ?_
  refine z_getI (N := 4) 8 3 rfl f_8_7 rfl J rfl sg_53_3_4_1_0_1 (fun v1 qv1 ev1 => ?_)
  refine x_aloadn (x := 53) rfl rfl ?_
  refine z_getC (N := 4) (v := 40) 8 1 rfl f_8_22 rfl J rfl sg_53_1_2_1_0_1 jk_40 ?_
  refine x_iclt (tgt := 15) rfl rfl (ti_lt rfl jk_40 ⟨fun c2 => ?_, fun c2 => ?_⟩)
  ·
    refine x_iconst (v := 0) rfl ki_0 ?_
    exact jX.sub jsb_n (ct_X8_isFull_r53_16 hD hQ  0 h (jr_of jk_0 (by omega)) J Sm)
  ·
    refine x_iconst (v := 1) rfl ki_1 ?_
    refine x_goto (tgt := 16) rfl rfl ?_
    exact jX.sub jsb_n (ct_X8_isFull_r53_16 hD hQ  1 h (jr_of jk_1 (by omega)) J Sm)
def fp_X11_levy_r31 : jFp := [(31, 12, 13), (32, 19, 20), (53, 3, 4), (54, 0, 160)]
set_option maxRecDepth 100000 in
set_option maxHeartbeats 4000000 in
theorem ct_X11_levy_r31_35 {Dy : jH → Prop} {h0 : jH} {Q : Option Value → jH → Prop} (hD : jDk Dy) (hQ : ∀ (v : Int32) h', (-5) ≤ v.toInt ∧ v.toInt ≤ 39 → jJ jSgX Dy h' → jSm fp_X11_levy_r31 h0 h' → Q (some (.int v)) h') : ∀ (h : jH), jJ jSgX Dy h → jSm fp_X11_levy_r31 h0 h → jX m_X11_levy 3 0 0 35 [(0, .ref 31)] [] h 0 0 Q := by
  intro  h    J Sm
  refine x_aloadn (x := 31) rfl rfl ?_
  refine x_iconst (v := (-1)) rfl ki_m1 ?_
  refine x_inv (N := m_X11_refuse) (As := [.int (-1)]) (b := 31) (st := []) (d' := 2) (mc := 0) (ms := 0) (host := "") 11 rfl t_X11_refuse ⟨Or.inl q_11_206, i_X11_refuse.1, i_X11_refuse.2⟩ ⟨by decide, rfl⟩ (congrArg Prod.fst (J.1.1 31 (11, 13) rfl)) rfl (by decide) rfl rfl ⟨by decide, by decide⟩ (jC.of rfl k_X11_refuse rfl ?_)
  show jX m_X11_refuse 2 0 0 0 [(0, .ref 31), (1, .int (-1))] [] _ 0 0 _
  refine x_aloadn (x := 31) rfl rfl ?_
  refine x_iloadn (x := (-1)) rfl rfl ?_
  refine z_putI (N := 13) (w := (-1)) 11 12 rfl f_11_94 rfl (jfin_no TX11 RX11 13 rfl rfl) hD J Sm rfl rfl jk_m1 (pw_31_12 (by omega)) rfl (fun h w1 J Sm => ?_)
  refine x_iloadn (x := (-1)) rfl rfl ?_
  refine x_iret rfl rfl ?_
  show jX m_X11_levy 3 0 0 40 [(0, .ref 31)] [.int (-1)] _ 0 0 _
  refine x_iret rfl rfl ?_
  exact hQ _ _ (jr_of jk_m1 (by omega)) J Sm
set_option maxRecDepth 100000 in
set_option maxHeartbeats 4000000 in
theorem sf_X11_levy_r31 {Dy : jH → Prop} {h : jH} {Q : Option Value → jH → Prop} {a1 : Int32} {a2 : Int32} {a3 : Int32} {a4 : Int32} (hD : jDk Dy) (J : jJ jSgX Dy h) (hQ : ∀ (v : Int32) h', (-5) ≤ v.toInt ∧ v.toInt ≤ 39 → jJ jSgX Dy h' → jSm fp_X11_levy_r31 h h' → Q (some (.int v)) h') : jC m_X11_levy 3 0 0 [.ref 31, .int a1, .int a2, .int a3, .int a4] h Q := by
  refine jC.of rfl k_X11_levy rfl ?_
  have Sm := jSm_rf fp_X11_levy_r31 h
  have ea1 := jfull a1
  have ea2 := jfull a2
  have ea3 := jfull a3
  have ea4 := jfull a4
  show jX m_X11_levy 3 0 0 0 [(0, .ref 31), (1, .int a1), (2, .int a2), (3, .int a3), (4, .int a4)] [] _ 0 0 _
  refine x_iloadn (x := a1) rfl rfl ?_
  refine x_iflt (tgt := 35) rfl rfl (ti_lt rfl jk_0 ⟨fun c1 => ?_, fun c1 => ?_⟩)
  ·
    exact jX.sub (jsb_c rfl jsb_n) (ct_X11_levy_r31_35 hD hQ  h J Sm)
  ·
    refine x_iloadn (x := a1) rfl rfl ?_
    refine x_iconst (v := 2) rfl ki_2 ?_
    refine x_icgt (tgt := 35) rfl rfl (ti_gt rfl jk_2 ⟨fun c2 => ?_, fun c2 => ?_⟩)
    ·
      exact jX.sub (jsb_c rfl jsb_n) (ct_X11_levy_r31_35 hD hQ  h J Sm)
    ·
      refine x_iloadn (x := a2) rfl rfl ?_
      refine x_inst (N := m_X11_isYear) (As := [.int a2]) (st := []) (d' := 1) (mc := 0) (ms := 0) (host := "") rfl t_X11_isYear ⟨Or.inl q_11_433, s_X11_isYear⟩ rfl (by decide) rfl rfl ⟨by decide, by decide⟩ (zc_X11_isYear rfl (fun v3 ev3 => ?_))
      show jX m_X11_levy 3 0 0 13 [(0, .ref 31), (1, .int a1), (2, .int a2), (3, .int a3), (4, .int a4)] [.int v3] _ 0 0 _
      refine x_ifeq (tgt := 35) rfl rfl (ti_eq rfl jk_0 ⟨fun c4 => ?_, fun c4 => ?_⟩)
      ·
        exact jX.sub (jsb_c rfl jsb_n) (ct_X11_levy_r31_35 hD hQ  h J Sm)
      ·
        refine x_iloadn (x := a3) rfl rfl ?_
        refine x_iconst (v := 0) rfl ki_0 ?_
        refine x_ldcw (v := 1000000) rfl z_11_436 ?_
        refine x_inst (N := m_X11_isWithin) (As := [.int a3, .int 0, .int 1000000]) (st := []) (d' := 1) (mc := 0) (ms := 0) (host := "") rfl t_X11_isWithin ⟨Or.inl q_11_202, s_X11_isWithin⟩ rfl (by decide) rfl rfl ⟨by decide, by decide⟩ (zc_X11_isWithin rfl jk_0 jk_1000000 (fun v5 ev5 => ?_))
        show jX m_X11_levy 3 0 0 24 [(0, .ref 31), (1, .int a1), (2, .int a2), (3, .int a3), (4, .int a4)] [.int v5] _ 0 0 _
        refine x_ifeq (tgt := 35) rfl rfl (ti_eq rfl jk_0 ⟨fun c6 => ?_, fun c6 => ?_⟩)
        ·
          exact jX.sub (jsb_c rfl jsb_n) (ct_X11_levy_r31_35 hD hQ  h J Sm)
        ·
          refine x_iload (x := a4) rfl rfl ?_
          refine x_inst (N := m_X11_isDay) (As := [.int a4]) (st := []) (d' := 1) (mc := 0) (ms := 0) (host := "") rfl t_X11_isDay ⟨Or.inl q_11_115, s_X11_isDay⟩ rfl (by decide) rfl rfl ⟨by decide, by decide⟩ (zc_X11_isDay rfl (fun v7 ev7 => ?_))
          show jX m_X11_levy 3 0 0 32 [(0, .ref 31), (1, .int a1), (2, .int a2), (3, .int a3), (4, .int a4)] [.int v7] _ 0 0 _
          refine x_ifne (tgt := 41) rfl rfl (ti_ne rfl jk_0 ⟨fun c8 => ?_, fun c8 => ?_⟩)
          ·
            refine x_aloadn (x := 31) rfl rfl ?_
            refine z_getR (N := 13) (b := 32) 11 0 rfl f_11_10 rfl J rfl 3968 ⟨rfl, rfl⟩ rfl ?_
            refine z_getR (N := 20) (b := 53) 1 10 rfl f_11_437 rfl J rfl 4106 ⟨rfl, rfl⟩ rfl ?_
            refine x_inv (N := m_X8_isFull) (As := []) (b := 53) (st := []) (d' := 1) (mc := 0) (ms := 0) (host := "") 8 rfl t_X8_isFull ⟨Or.inl q_11_130, i_X8_isFull.1, i_X8_isFull.2⟩ ⟨by decide, rfl⟩ (congrArg Prod.fst (J.1.1 53 (8, 4) rfl)) rfl (by decide) rfl rfl ⟨by decide, by decide⟩ (sf_X8_isFull_r53  hD J  (fun v10 h ev10 J S9 => ?_))
            have Sm := jSm_tr rfl Sm S9
            show jX m_X11_levy 3 0 0 51 [(0, .ref 31), (1, .int a1), (2, .int a2), (3, .int a3), (4, .int a4)] [.int v10] _ 0 0 _
            refine x_ifeq (tgt := 61) rfl rfl (ti_eq rfl jk_0 ⟨fun c11 => ?_, fun c11 => ?_⟩)
            ·
              refine x_aloadn (x := 31) rfl rfl ?_
              refine z_getR (N := 13) (b := 32) 11 0 rfl f_11_10 rfl J rfl 3968 ⟨rfl, rfl⟩ rfl ?_
              refine z_getR (N := 20) (b := 53) 1 10 rfl f_11_437 rfl J rfl 4106 ⟨rfl, rfl⟩ rfl ?_
              refine x_iload (x := a4) rfl rfl ?_
              refine x_iloadn (x := a2) rfl rfl ?_
              refine x_iloadn (x := a1) rfl rfl ?_
              refine x_iloadn (x := a3) rfl rfl ?_
              refine x_iconst (v := 0) rfl ki_0 ?_
              refine x_iconst (v := 0) rfl ki_0 ?_
              refine x_inv (N := m_X8_add) (As := [.int a4, .int a2, .int a1, .int a3, .int 0, .int 0]) (b := 53) (st := []) (d' := 2) (mc := 0) (ms := 0) (host := "") 8 rfl t_X8_add ⟨Or.inl q_11_145, i_X8_add.1, i_X8_add.2⟩ ⟨by decide, rfl⟩ (congrArg Prod.fst (J.1.1 53 (8, 4) rfl)) rfl (by decide) rfl rfl ⟨by decide, by decide⟩ (sf_X8_add_r53 (jr_of rfl (by omega)) (jr_of rfl (by omega)) (jr_of rfl (by omega)) (jr_of rfl (by omega)) (jr_of jk_0 (by omega)) (jr_of jk_0 (by omega)) hD J  (fun h J S12 => ?_))
              have Sm := jSm_tr rfl Sm S12
              show jX m_X11_levy 3 0 0 78 [(0, .ref 31), (1, .int a1), (2, .int a2), (3, .int a3), (4, .int a4)] [] _ 0 0 _
              refine x_aloadn (x := 31) rfl rfl ?_
              refine x_aloadn (x := 31) rfl rfl ?_
              refine z_getR (N := 13) (b := 32) 11 0 rfl f_11_10 rfl J rfl 3968 ⟨rfl, rfl⟩ rfl ?_
              refine z_getR (N := 20) (b := 53) 1 10 rfl f_11_437 rfl J rfl 4106 ⟨rfl, rfl⟩ rfl ?_
              refine z_getI (N := 4) 8 3 rfl f_11_142 rfl J rfl sg_53_3_4_1_0_1 (fun v13 qv13 ev13 => ?_)
              refine x_iconst (v := 1) rfl ki_1 ?_
              refine z_isub rfl rfl jk_1 (by omega) (fun v14 ev14 => ?_)
              refine x_inv (N := m_X11_accept) (As := [.int v14]) (b := 31) (st := []) (d' := 2) (mc := 0) (ms := 0) (host := "") 11 rfl t_X11_accept ⟨Or.inl q_11_165, i_X11_accept.1, i_X11_accept.2⟩ ⟨by decide, rfl⟩ (congrArg Prod.fst (J.1.1 31 (11, 13) rfl)) rfl (by decide) rfl rfl ⟨by decide, by decide⟩ (jC.of rfl k_X11_accept rfl ?_)
              show jX m_X11_accept 2 0 0 0 [(0, .ref 31), (1, .int v14)] [] _ 0 0 _
              refine x_aloadn (x := 31) rfl rfl ?_
              refine x_iconst (v := 0) rfl ki_0 ?_
              refine z_putI (N := 13) (w := 0) 11 12 rfl f_11_94 rfl (jfin_no TX11 RX11 13 rfl rfl) hD J Sm rfl rfl jk_0 (pw_31_12 (by omega)) rfl (fun h w15 J Sm => ?_)
              refine x_aloadn (x := 31) rfl rfl ?_
              refine z_getR (N := 13) (b := 32) 11 0 rfl f_11_10 rfl J rfl 3968 ⟨rfl, rfl⟩ rfl ?_
              refine x_dup rfl rfl ?_
              refine z_getI0 (N := 20) 1 19 rfl f_11_528 rfl J rfl (fun v16 qv16 => ?_)
              have ev16 := jfull v16
              refine x_iconst (v := 1) rfl ki_1 ?_
              refine z_iadd0 rfl (fun v17 => ?_)
              have ev17 := jfull v17
              refine z_putI (N := 20) (w := v17.toInt) 1 19 rfl f_11_528 rfl (jfin_no TX1 RX1 20 rfl rfl) hD J Sm rfl rfl rfl (pw_32_19 trivial) rfl (fun h w18 J Sm => ?_)
              refine x_iloadn (x := v14) rfl rfl ?_
              refine x_iret rfl rfl ?_
              show jX m_X11_levy 3 0 0 94 [(0, .ref 31), (1, .int a1), (2, .int a2), (3, .int a3), (4, .int a4)] [.int v14] _ 0 0 _
              refine x_iret rfl rfl ?_
              exact hQ _ _ (jr_of rfl (by omega)) J Sm
            ·
              refine x_aloadn (x := 31) rfl rfl ?_
              refine x_bipush (v := (-5)) rfl kb_m5 ?_
              refine x_inv (N := m_X11_refuse) (As := [.int (-5)]) (b := 31) (st := []) (d' := 2) (mc := 0) (ms := 0) (host := "") 11 rfl t_X11_refuse ⟨Or.inl q_11_206, i_X11_refuse.1, i_X11_refuse.2⟩ ⟨by decide, rfl⟩ (congrArg Prod.fst (J.1.1 31 (11, 13) rfl)) rfl (by decide) rfl rfl ⟨by decide, by decide⟩ (jC.of rfl k_X11_refuse rfl ?_)
              show jX m_X11_refuse 2 0 0 0 [(0, .ref 31), (1, .int (-5))] [] _ 0 0 _
              refine x_aloadn (x := 31) rfl rfl ?_
              refine x_iloadn (x := (-5)) rfl rfl ?_
              refine z_putI (N := 13) (w := (-5)) 11 12 rfl f_11_94 rfl (jfin_no TX11 RX11 13 rfl rfl) hD J Sm rfl rfl jk_m5 (pw_31_12 (by omega)) rfl (fun h w19 J Sm => ?_)
              refine x_iloadn (x := (-5)) rfl rfl ?_
              refine x_iret rfl rfl ?_
              show jX m_X11_levy 3 0 0 60 [(0, .ref 31), (1, .int a1), (2, .int a2), (3, .int a3), (4, .int a4)] [.int (-5)] _ 0 0 _
              refine x_iret rfl rfl ?_
              exact hQ _ _ (jr_of jk_m5 (by omega)) J Sm
          ·
            exact jX.sub (jsb_c rfl jsb_n) (ct_X11_levy_r31_35 hD hQ  h J Sm)
def fp_X9_isSign_r68 : jFp := []
set_option maxRecDepth 100000 in
set_option maxHeartbeats 4000000 in
theorem ct_X9_isSign_r68_26 {Dy : jH → Prop} {h0 : jH} {Q : Option Value → jH → Prop} (hD : jDk Dy) (hQ : ∀ (v : Int32) h', 0 ≤ v.toInt ∧ v.toInt ≤ 1 → jJ jSgX Dy h' → jSm fp_X9_isSign_r68 h0 h' → ∀ u0 u1 : Int32, jiv h' 68 5 = u0 → jiv h' 68 3 = u1 → (u0.toInt ≠ 3 ∨ u1.toInt ≤ 399) → Q (some (.int v)) h') : ∀ (s0 : Int32) (g0 : Int32) (g1 : Int32) (h : jH), 0 ≤ s0.toInt ∧ s0.toInt ≤ 1 → 0 ≤ g0.toInt ∧ g0.toInt ≤ 400 → 0 ≤ g1.toInt ∧ g1.toInt ≤ 3 → (g1.toInt ≠ 3 ∨ g0.toInt ≤ 399) → jiv h 68 3 = g0 → jiv h 68 5 = g1 → jJ jSgX Dy h → jSm fp_X9_isSign_r68 h0 h → jX m_X9_isSign 1 0 0 26 [] [.int s0] h 0 0 Q := by
  intro s0 g0 g1 h y0 y1 y2 y3 z0 z1  J Sm
  refine x_zret rfl rfl (jz01 (by omega)) ?_
  exact hQ _ _ (jr_of rfl (by omega)) J Sm _ _ z1 z0 (by omega)
set_option maxRecDepth 100000 in
set_option maxHeartbeats 4000000 in
theorem ct_X9_isSign_r68_25 {Dy : jH → Prop} {h0 : jH} {Q : Option Value → jH → Prop} (hD : jDk Dy) (hQ : ∀ (v : Int32) h', 0 ≤ v.toInt ∧ v.toInt ≤ 1 → jJ jSgX Dy h' → jSm fp_X9_isSign_r68 h0 h' → ∀ u0 u1 : Int32, jiv h' 68 5 = u0 → jiv h' 68 3 = u1 → (u0.toInt ≠ 3 ∨ u1.toInt ≤ 399) → Q (some (.int v)) h') : ∀ (g0 : Int32) (g1 : Int32) (h : jH), 0 ≤ g0.toInt ∧ g0.toInt ≤ 400 → 0 ≤ g1.toInt ∧ g1.toInt ≤ 3 → (g1.toInt ≠ 3 ∨ g0.toInt ≤ 399) → jiv h 68 3 = g0 → jiv h 68 5 = g1 → jJ jSgX Dy h → jSm fp_X9_isSign_r68 h0 h → jX m_X9_isSign 1 0 0 25 [] [] h 0 0 Q := by
  intro g0 g1 h y0 y1 y2 z0 z1  J Sm
  refine x_iconst (v := 0) rfl ki_0 ?_
  exact jX.sub jsb_n (ct_X9_isSign_r68_26 hD hQ  0 g0 g1 h (jr_of jk_0 (by omega)) (jr_of rfl (by omega)) (jr_of rfl (by omega)) (by omega) z0 z1 J Sm)
set_option maxRecDepth 100000 in
set_option maxHeartbeats 4000000 in
theorem sf_X9_isSign_r68 {Dy : jH → Prop} {h : jH} {Q : Option Value → jH → Prop} {a1 : Int32} (y1 : 44 ≤ a1.toInt ∧ a1.toInt ≤ 63) (hD : jDk Dy) (J : jJ jSgX Dy h) {p0 p1 : Int32} (zp0 : jiv h 68 5 = p0) (zp1 : jiv h 68 3 = p1) (rl_p0 : (p0.toInt ≠ 3 ∨ p1.toInt ≤ 399)) (hQ : ∀ (v : Int32) h', 0 ≤ v.toInt ∧ v.toInt ≤ 1 → jJ jSgX Dy h' → jSm fp_X9_isSign_r68 h h' → ∀ u0 u1 : Int32, jiv h' 68 5 = u0 → jiv h' 68 3 = u1 → (u0.toInt ≠ 3 ∨ u1.toInt ≤ 399) → Q (some (.int v)) h') : jC m_X9_isSign 1 0 0 [.ref 68, .int a1] h Q := by
  refine jC.of rfl k_X9_isSign rfl ?_
  have Sm := jSm_rf fp_X9_isSign_r68 h
  have ep0 := (show 0 ≤ p0.toInt ∧ p0.toInt ≤ 3 from zp0 ▸ jrg_f J sg_68_5_6_1_0_1)
  have ep1 := (show 0 ≤ p1.toInt ∧ p1.toInt ≤ 400 from zp1 ▸ jrg_f J sg_68_3_4_1_0_1)
  show jX m_X9_isSign 1 0 0 0 [(0, .ref 68), (1, .int a1)] [] _ 0 0 _
  refine x_aloadn (x := 68) rfl rfl ?_
  refine z_getM (N := 6) (v := p0) 9 5 rfl f_9_28 rfl J rfl zp0 ?_
  refine x_iconst (v := 3) rfl ki_3 ?_
  refine x_icne (tgt := 25) rfl rfl (ti_ne rfl jk_3 ⟨fun c1 => ?_, fun c1 => ?_⟩)
  ·
    exact jX.sub jsb_n (ct_X9_isSign_r68_25 hD hQ  p1 p0 h (jr_of rfl (by omega)) (jr_of rfl (by omega)) (by omega) zp1 zp0 J Sm)
  ·
    refine x_aloadn (x := 68) rfl rfl ?_
    refine z_getR (N := 6) (b := 69) 9 0 rfl f_9_11 rfl J rfl 8704 ⟨rfl, rfl⟩ rfl ?_
    refine x_aloadn (x := 68) rfl rfl ?_
    refine z_getM (N := 6) (v := p1) 9 3 rfl f_9_22 rfl J rfl zp1 ?_
    refine z_iald (N := 400) rfl J rfl sg_69_0_400_1_0_1 rfl (by omega) (fun v2 qv2 ev2 => ?_)
    refine x_iloadn (x := a1) rfl rfl ?_
    refine x_icne (tgt := 25) rfl rfl (ti_ne rfl rfl ⟨fun c3 => ?_, fun c3 => ?_⟩)
    ·
      exact jX.sub jsb_n (ct_X9_isSign_r68_25 hD hQ  p1 p0 h (jr_of rfl (by omega)) (jr_of rfl (by omega)) (by omega) zp1 zp0 J Sm)
    ·
      refine x_iconst (v := 1) rfl ki_1 ?_
      refine x_goto (tgt := 26) rfl rfl ?_
      exact jX.sub jsb_n (ct_X9_isSign_r68_26 hD hQ  1 p1 p0 h (jr_of jk_1 (by omega)) (jr_of rfl (by omega)) (jr_of rfl (by omega)) (by omega) zp1 zp0 J Sm)
def fp_X9_step_r68 : jFp := [(68, 3, 4), (68, 4, 5), (68, 5, 6)]
set_option maxRecDepth 100000 in
set_option maxHeartbeats 4000000 in
theorem ct_X9_step_r68_148 {Dy : jH → Prop} {h0 : jH} {Q : Option Value → jH → Prop} (hD : jDk Dy) (hQ : ∀ h', jJ jSgX Dy h' → jSm fp_X9_step_r68 h0 h' → ∀ u0 u1 : Int32, jiv h' 68 5 = u0 → jiv h' 68 3 = u1 → (u0.toInt ≠ 3 ∨ u1.toInt ≤ 399) → Q none h') : ∀ (g0 : Int32) (g1 : Int32) (h : jH), 0 ≤ g0.toInt ∧ g0.toInt ≤ 399 → 1 ≤ g1.toInt ∧ g1.toInt ≤ 3 → jiv h 68 3 = g0 → jiv h 68 5 = g1 → jJ jSgX Dy h → jSm fp_X9_step_r68 h0 h → jX m_X9_step 2 0 0 148 [] [] h 0 0 Q := by
  intro g0 g1 h y0 y1 z0 z1  J Sm
  refine x_vret rfl rfl ?_
  exact hQ _ J Sm _ _ z1 z0 (by omega)
set_option maxRecDepth 100000 in
set_option maxHeartbeats 4000000 in
theorem ct_X9_step_r68_97 {Dy : jH → Prop} {h0 : jH} {Q : Option Value → jH → Prop} (hD : jDk Dy) (hQ : ∀ h', jJ jSgX Dy h' → jSm fp_X9_step_r68 h0 h' → ∀ u0 u1 : Int32, jiv h' 68 5 = u0 → jiv h' 68 3 = u1 → (u0.toInt ≠ 3 ∨ u1.toInt ≤ 399) → Q none h') : ∀ r : Nat, ∀ (g0 : Int32) (g1 : Int32) (g2 : Int32) (g3 : Int32) (h : jH), 400 - g2.toInt < (r : Int) → 1 ≤ g0.toInt ∧ g0.toInt ≤ 400 → 0 ≤ g1.toInt ∧ g1.toInt ≤ 399 → 1 ≤ g2.toInt ∧ g2.toInt ≤ 400 → 1 ≤ g3.toInt ∧ g3.toInt ≤ 3 → jiv h 68 1 = g0 → jiv h 68 3 = g1 → jiv h 68 4 = g2 → jiv h 68 5 = g3 → jJ jSgX Dy h → jSm fp_X9_step_r68 h0 h → jX m_X9_step 2 0 0 97 [(0, .ref 68)] [] h 0 0 Q := by
  intro r
  induction r with
  | zero =>
    intro g0 g1 g2 g3 h hm y0 y1 y2 y3 z0 z1 z2 z3  J Sm
    exfalso
    omega
  | succ r ih =>
    intro g0 g1 g2 g3 h hm y0 y1 y2 y3 z0 z1 z2 z3  J Sm
    refine x_aloadn (x := 68) rfl rfl ?_
    refine z_getM (N := 6) (v := g3) 9 5 rfl f_9_28 rfl J rfl z3 ?_
    refine x_iconst (v := 3) rfl ki_3 ?_
    refine x_iceq (tgt := 148) rfl rfl (ti_eq rfl jk_3 ⟨fun c1 => ?_, fun c1 => ?_⟩)
    ·
      exact jX.sub jsb_n (ct_X9_step_r68_148 hD hQ  g1 g3 h (jr_of rfl (by omega)) (jr_of rfl (by omega)) z1 z3 J Sm)
    ·
      refine x_aloadn (x := 68) rfl rfl ?_
      refine z_getM (N := 6) (v := g2) 9 4 rfl f_9_25 rfl J rfl z2 ?_
      refine x_aloadn (x := 68) rfl rfl ?_
      refine z_getM (N := 6) (v := g0) 9 1 rfl f_9_15 rfl J rfl z0 ?_
      refine x_icge (tgt := 148) rfl rfl (ti_ge rfl rfl ⟨fun c2 => ?_, fun c2 => ?_⟩)
      ·
        exact jX.sub jsb_n (ct_X9_step_r68_148 hD hQ  g1 g3 h (jr_of rfl (by omega)) (jr_of rfl (by omega)) z1 z3 J Sm)
      ·
        refine x_aloadn (x := 68) rfl rfl ?_
        refine z_getR (N := 6) (b := 69) 9 0 rfl f_9_11 rfl J rfl 8704 ⟨rfl, rfl⟩ rfl ?_
        refine x_aloadn (x := 68) rfl rfl ?_
        refine z_getM (N := 6) (v := g2) 9 4 rfl f_9_25 rfl J rfl z2 ?_
        refine z_iald (N := 400) rfl J rfl sg_69_0_400_1_0_1 rfl (by omega) (fun v3 qv3 ev3 => ?_)
        refine x_inst (N := m_X9_sortOf) (As := [.int v3]) (st := []) (d' := 1) (mc := 0) (ms := 0) (host := "") rfl t_X9_sortOf ⟨Or.inl q_9_34, s_X9_sortOf⟩ rfl (by decide) rfl rfl ⟨by decide, by decide⟩ (jC.of rfl k_X9_sortOf rfl ?_)
        show jX m_X9_sortOf 1 0 0 0 [(0, .int v3)] [] _ 0 0 _
        refine x_iloadn (x := v3) rfl rfl ?_
        refine x_bipush (v := 97) rfl kb_97 ?_
        refine x_iclt (tgt := 14) rfl rfl (ti_lt rfl jk_97 ⟨fun c4 => ?_, fun c4 => ?_⟩)
        ·
          refine x_iloadn (x := v3) rfl rfl ?_
          refine x_bipush (v := 48) rfl kb_48 ?_
          refine x_iclt (tgt := 30) rfl rfl (ti_lt rfl jk_48 ⟨fun c5 => ?_, fun c5 => ?_⟩)
          ·
            refine x_iconst (v := 3) rfl ki_3 ?_
            refine x_iret rfl rfl ?_
            show jX m_X9_step 2 0 0 128 [(0, .ref 68)] [.int 3] _ 0 0 _
            refine x_aloadn (x := 68) rfl rfl ?_
            refine z_getM (N := 6) (v := g3) 9 5 rfl f_9_28 rfl J rfl z3 ?_
            refine x_icne (tgt := 148) rfl rfl (ti_ne jk_3 rfl (bn_t (by omega) ?_))
            exact jX.sub jsb_n (ct_X9_step_r68_148 hD hQ  g1 g3 h (jr_of rfl (by omega)) (jr_of rfl (by omega)) z1 z3 J Sm)
          ·
            refine x_iloadn (x := v3) rfl rfl ?_
            refine x_bipush (v := 57) rfl kb_57 ?_
            refine x_icgt (tgt := 30) rfl rfl (ti_gt rfl jk_57 ⟨fun c6 => ?_, fun c6 => ?_⟩)
            ·
              refine x_iconst (v := 3) rfl ki_3 ?_
              refine x_iret rfl rfl ?_
              show jX m_X9_step 2 0 0 128 [(0, .ref 68)] [.int 3] _ 0 0 _
              refine x_aloadn (x := 68) rfl rfl ?_
              refine z_getM (N := 6) (v := g3) 9 5 rfl f_9_28 rfl J rfl z3 ?_
              refine x_icne (tgt := 148) rfl rfl (ti_ne jk_3 rfl (bn_t (by omega) ?_))
              exact jX.sub jsb_n (ct_X9_step_r68_148 hD hQ  g1 g3 h (jr_of rfl (by omega)) (jr_of rfl (by omega)) z1 z3 J Sm)
            ·
              refine x_iconst (v := 2) rfl ki_2 ?_
              refine x_goto (tgt := 31) rfl rfl ?_
              refine x_iret rfl rfl ?_
              show jX m_X9_step 2 0 0 128 [(0, .ref 68)] [.int 2] _ 0 0 _
              refine x_aloadn (x := 68) rfl rfl ?_
              refine z_getM (N := 6) (v := g3) 9 5 rfl f_9_28 rfl J rfl z3 ?_
              refine x_icne (tgt := 148) rfl rfl (ti_ne jk_2 rfl ⟨fun c7 => ?_, fun c7 => ?_⟩)
              ·
                exact jX.sub jsb_n (ct_X9_step_r68_148 hD hQ  g1 g3 h (jr_of rfl (by omega)) (jr_of rfl (by omega)) z1 z3 J Sm)
              ·
                refine x_aloadn (x := 68) rfl rfl ?_
                refine x_dup rfl rfl ?_
                refine z_getM (N := 6) (v := g2) 9 4 rfl f_9_25 rfl J rfl z2 ?_
                refine x_iconst (v := 1) rfl ki_1 ?_
                refine z_iadd rfl rfl jk_1 (by omega) (fun v8 ev8 => ?_)
                refine z_putI (N := 6) (w := v8.toInt) 9 4 rfl f_9_25 rfl (jfin_no TX9 RX9 6 rfl rfl) hD J Sm rfl rfl rfl (pw_68_4 (by omega)) rfl (fun h w9 J Sm => ?_)
                refine x_goto (tgt := 97) rfl rfl ?_
                exact jX.sub (jsb_c rfl jsb_n) (ih g0 g1 v8 g3 h (by omega) (jr_of rfl (by omega)) (jr_of rfl (by omega)) (jr_of rfl (by omega)) (jr_of rfl (by omega)) (jmo w9 rfl z0) (jmo w9 rfl z1) (jmw w9) (jmo w9 rfl z3) J Sm)
        ·
          refine x_iloadn (x := v3) rfl rfl ?_
          refine x_bipush (v := 122) rfl kb_122 ?_
          refine x_icgt (tgt := 14) rfl rfl (ti_gt rfl jk_122 ⟨fun c10 => ?_, fun c10 => ?_⟩)
          ·
            refine x_iloadn (x := v3) rfl rfl ?_
            refine x_bipush (v := 48) rfl kb_48 ?_
            refine x_iclt (tgt := 30) rfl rfl (ti_lt rfl jk_48 (br_f (by omega) ?_))
            refine x_iloadn (x := v3) rfl rfl ?_
            refine x_bipush (v := 57) rfl kb_57 ?_
            refine x_icgt (tgt := 30) rfl rfl (ti_gt rfl jk_57 (br_t (by omega) ?_))
            refine x_iconst (v := 3) rfl ki_3 ?_
            refine x_iret rfl rfl ?_
            show jX m_X9_step 2 0 0 128 [(0, .ref 68)] [.int 3] _ 0 0 _
            refine x_aloadn (x := 68) rfl rfl ?_
            refine z_getM (N := 6) (v := g3) 9 5 rfl f_9_28 rfl J rfl z3 ?_
            refine x_icne (tgt := 148) rfl rfl (ti_ne jk_3 rfl (bn_t (by omega) ?_))
            exact jX.sub jsb_n (ct_X9_step_r68_148 hD hQ  g1 g3 h (jr_of rfl (by omega)) (jr_of rfl (by omega)) z1 z3 J Sm)
          ·
            refine x_iconst (v := 1) rfl ki_1 ?_
            refine x_iret rfl rfl ?_
            show jX m_X9_step 2 0 0 128 [(0, .ref 68)] [.int 1] _ 0 0 _
            refine x_aloadn (x := 68) rfl rfl ?_
            refine z_getM (N := 6) (v := g3) 9 5 rfl f_9_28 rfl J rfl z3 ?_
            refine x_icne (tgt := 148) rfl rfl (ti_ne jk_1 rfl ⟨fun c11 => ?_, fun c11 => ?_⟩)
            ·
              exact jX.sub jsb_n (ct_X9_step_r68_148 hD hQ  g1 g3 h (jr_of rfl (by omega)) (jr_of rfl (by omega)) z1 z3 J Sm)
            ·
              refine x_aloadn (x := 68) rfl rfl ?_
              refine x_dup rfl rfl ?_
              refine z_getM (N := 6) (v := g2) 9 4 rfl f_9_25 rfl J rfl z2 ?_
              refine x_iconst (v := 1) rfl ki_1 ?_
              refine z_iadd rfl rfl jk_1 (by omega) (fun v12 ev12 => ?_)
              refine z_putI (N := 6) (w := v12.toInt) 9 4 rfl f_9_25 rfl (jfin_no TX9 RX9 6 rfl rfl) hD J Sm rfl rfl rfl (pw_68_4 (by omega)) rfl (fun h w13 J Sm => ?_)
              refine x_goto (tgt := 97) rfl rfl ?_
              exact jX.sub (jsb_c rfl jsb_n) (ih g0 g1 v12 g3 h (by omega) (jr_of rfl (by omega)) (jr_of rfl (by omega)) (jr_of rfl (by omega)) (jr_of rfl (by omega)) (jmo w13 rfl z0) (jmo w13 rfl z1) (jmw w13) (jmo w13 rfl z3) J Sm)
set_option maxRecDepth 100000 in
set_option maxHeartbeats 4000000 in
theorem ct_X9_step_r68_46 {Dy : jH → Prop} {h0 : jH} {Q : Option Value → jH → Prop} (hD : jDk Dy) (hQ : ∀ h', jJ jSgX Dy h' → jSm fp_X9_step_r68 h0 h' → ∀ u0 u1 : Int32, jiv h' 68 5 = u0 → jiv h' 68 3 = u1 → (u0.toInt ≠ 3 ∨ u1.toInt ≤ 399) → Q none h') : ∀ (g0 : Int32) (g1 : Int32) (g2 : Int32) (h : jH), 0 ≤ g0.toInt ∧ g0.toInt ≤ 400 → 0 ≤ g1.toInt ∧ g1.toInt ≤ 400 → 0 ≤ g2.toInt ∧ g2.toInt ≤ 3 → jiv h 68 1 = g0 → jiv h 68 3 = g1 → jiv h 68 5 = g2 → jJ jSgX Dy h → jSm fp_X9_step_r68 h0 h → jX m_X9_step 2 0 0 46 [(0, .ref 68)] [] h 0 0 Q := by
  intro g0 g1 g2 h y0 y1 y2 z0 z1 z2  J Sm
  refine x_aloadn (x := 68) rfl rfl ?_
  refine x_aloadn (x := 68) rfl rfl ?_
  refine z_getM (N := 6) (v := g1) 9 3 rfl f_9_22 rfl J rfl z1 ?_
  refine z_putI (N := 6) (w := g1.toInt) 9 4 rfl f_9_25 rfl (jfin_no TX9 RX9 6 rfl rfl) hD J Sm rfl rfl rfl (pw_68_4 (by omega)) rfl (fun h w1 J Sm => ?_)
  refine x_aloadn (x := 68) rfl rfl ?_
  refine z_getM (N := 6) (v := g1) 9 3 rfl f_9_22 rfl J rfl (jmo w1 rfl z1) ?_
  refine x_aloadn (x := 68) rfl rfl ?_
  refine z_getM (N := 6) (v := g0) 9 1 rfl f_9_15 rfl J rfl (jmo w1 rfl z0) ?_
  refine x_iclt (tgt := 71) rfl rfl (ti_lt rfl rfl ⟨fun c2 => ?_, fun c2 => ?_⟩)
  ·
    refine x_aloadn (x := 68) rfl rfl ?_
    refine x_aloadn (x := 68) rfl rfl ?_
    refine z_getR (N := 6) (b := 69) 9 0 rfl f_9_11 rfl J rfl 8704 ⟨rfl, rfl⟩ rfl ?_
    refine x_aloadn (x := 68) rfl rfl ?_
    refine z_getM (N := 6) (v := g1) 9 3 rfl f_9_22 rfl J rfl (jmo w1 rfl z1) ?_
    refine z_iald (N := 400) rfl J rfl sg_69_0_400_1_0_1 rfl (by omega) (fun v3 qv3 ev3 => ?_)
    refine x_inst (N := m_X9_sortOf) (As := [.int v3]) (st := [.ref 68]) (d' := 1) (mc := 0) (ms := 0) (host := "") rfl t_X9_sortOf ⟨Or.inl q_9_34, s_X9_sortOf⟩ rfl (by decide) rfl rfl ⟨by decide, by decide⟩ (jC.of rfl k_X9_sortOf rfl ?_)
    show jX m_X9_sortOf 1 0 0 0 [(0, .int v3)] [] _ 0 0 _
    refine x_iloadn (x := v3) rfl rfl ?_
    refine x_bipush (v := 97) rfl kb_97 ?_
    refine x_iclt (tgt := 14) rfl rfl (ti_lt rfl jk_97 ⟨fun c4 => ?_, fun c4 => ?_⟩)
    ·
      refine x_iloadn (x := v3) rfl rfl ?_
      refine x_bipush (v := 48) rfl kb_48 ?_
      refine x_iclt (tgt := 30) rfl rfl (ti_lt rfl jk_48 ⟨fun c5 => ?_, fun c5 => ?_⟩)
      ·
        refine x_iconst (v := 3) rfl ki_3 ?_
        refine x_iret rfl rfl ?_
        show jX m_X9_step 2 0 0 84 [(0, .ref 68)] [.int 3, .ref 68] _ 0 0 _
        refine z_putI (N := 6) (w := 3) 9 5 rfl f_9_28 rfl (jfin_no TX9 RX9 6 rfl rfl) hD J Sm rfl rfl jk_3 (pw_68_5 (by omega)) rfl (fun h w6 J Sm => ?_)
        refine x_aloadn (x := 68) rfl rfl ?_
        refine x_aloadn (x := 68) rfl rfl ?_
        refine z_getM (N := 6) (v := g1) 9 3 rfl f_9_22 rfl J rfl (jmo w6 rfl (jmo w1 rfl z1)) ?_
        refine x_iconst (v := 1) rfl ki_1 ?_
        refine z_iadd rfl rfl jk_1 (by omega) (fun v7 ev7 => ?_)
        refine z_putI (N := 6) (w := v7.toInt) 9 4 rfl f_9_25 rfl (jfin_no TX9 RX9 6 rfl rfl) hD J Sm rfl rfl rfl (pw_68_4 (by omega)) rfl (fun h w8 J Sm => ?_)
        exact jX.sub (jsb_c rfl jsb_n) (ct_X9_step_r68_97 hD hQ  400 g0 g1 v7 3 h (by omega) (jr_of rfl (by omega)) (jr_of rfl (by omega)) (jr_of rfl (by omega)) (jr_of jk_3 (by omega)) (jmo w8 rfl (jmo w6 rfl (jmo w1 rfl z0))) (jmo w8 rfl (jmo w6 rfl (jmo w1 rfl z1))) (jmw w8) (jmo w8 rfl (jmw w6)) J Sm)
      ·
        refine x_iloadn (x := v3) rfl rfl ?_
        refine x_bipush (v := 57) rfl kb_57 ?_
        refine x_icgt (tgt := 30) rfl rfl (ti_gt rfl jk_57 ⟨fun c9 => ?_, fun c9 => ?_⟩)
        ·
          refine x_iconst (v := 3) rfl ki_3 ?_
          refine x_iret rfl rfl ?_
          show jX m_X9_step 2 0 0 84 [(0, .ref 68)] [.int 3, .ref 68] _ 0 0 _
          refine z_putI (N := 6) (w := 3) 9 5 rfl f_9_28 rfl (jfin_no TX9 RX9 6 rfl rfl) hD J Sm rfl rfl jk_3 (pw_68_5 (by omega)) rfl (fun h w10 J Sm => ?_)
          refine x_aloadn (x := 68) rfl rfl ?_
          refine x_aloadn (x := 68) rfl rfl ?_
          refine z_getM (N := 6) (v := g1) 9 3 rfl f_9_22 rfl J rfl (jmo w10 rfl (jmo w1 rfl z1)) ?_
          refine x_iconst (v := 1) rfl ki_1 ?_
          refine z_iadd rfl rfl jk_1 (by omega) (fun v11 ev11 => ?_)
          refine z_putI (N := 6) (w := v11.toInt) 9 4 rfl f_9_25 rfl (jfin_no TX9 RX9 6 rfl rfl) hD J Sm rfl rfl rfl (pw_68_4 (by omega)) rfl (fun h w12 J Sm => ?_)
          exact jX.sub (jsb_c rfl jsb_n) (ct_X9_step_r68_97 hD hQ  400 g0 g1 v11 3 h (by omega) (jr_of rfl (by omega)) (jr_of rfl (by omega)) (jr_of rfl (by omega)) (jr_of jk_3 (by omega)) (jmo w12 rfl (jmo w10 rfl (jmo w1 rfl z0))) (jmo w12 rfl (jmo w10 rfl (jmo w1 rfl z1))) (jmw w12) (jmo w12 rfl (jmw w10)) J Sm)
        ·
          refine x_iconst (v := 2) rfl ki_2 ?_
          refine x_goto (tgt := 31) rfl rfl ?_
          refine x_iret rfl rfl ?_
          show jX m_X9_step 2 0 0 84 [(0, .ref 68)] [.int 2, .ref 68] _ 0 0 _
          refine z_putI (N := 6) (w := 2) 9 5 rfl f_9_28 rfl (jfin_no TX9 RX9 6 rfl rfl) hD J Sm rfl rfl jk_2 (pw_68_5 (by omega)) rfl (fun h w13 J Sm => ?_)
          refine x_aloadn (x := 68) rfl rfl ?_
          refine x_aloadn (x := 68) rfl rfl ?_
          refine z_getM (N := 6) (v := g1) 9 3 rfl f_9_22 rfl J rfl (jmo w13 rfl (jmo w1 rfl z1)) ?_
          refine x_iconst (v := 1) rfl ki_1 ?_
          refine z_iadd rfl rfl jk_1 (by omega) (fun v14 ev14 => ?_)
          refine z_putI (N := 6) (w := v14.toInt) 9 4 rfl f_9_25 rfl (jfin_no TX9 RX9 6 rfl rfl) hD J Sm rfl rfl rfl (pw_68_4 (by omega)) rfl (fun h w15 J Sm => ?_)
          exact jX.sub (jsb_c rfl jsb_n) (ct_X9_step_r68_97 hD hQ  400 g0 g1 v14 2 h (by omega) (jr_of rfl (by omega)) (jr_of rfl (by omega)) (jr_of rfl (by omega)) (jr_of jk_2 (by omega)) (jmo w15 rfl (jmo w13 rfl (jmo w1 rfl z0))) (jmo w15 rfl (jmo w13 rfl (jmo w1 rfl z1))) (jmw w15) (jmo w15 rfl (jmw w13)) J Sm)
    ·
      refine x_iloadn (x := v3) rfl rfl ?_
      refine x_bipush (v := 122) rfl kb_122 ?_
      refine x_icgt (tgt := 14) rfl rfl (ti_gt rfl jk_122 ⟨fun c16 => ?_, fun c16 => ?_⟩)
      ·
        refine x_iloadn (x := v3) rfl rfl ?_
        refine x_bipush (v := 48) rfl kb_48 ?_
        refine x_iclt (tgt := 30) rfl rfl (ti_lt rfl jk_48 (br_f (by omega) ?_))
        refine x_iloadn (x := v3) rfl rfl ?_
        refine x_bipush (v := 57) rfl kb_57 ?_
        refine x_icgt (tgt := 30) rfl rfl (ti_gt rfl jk_57 (br_t (by omega) ?_))
        refine x_iconst (v := 3) rfl ki_3 ?_
        refine x_iret rfl rfl ?_
        show jX m_X9_step 2 0 0 84 [(0, .ref 68)] [.int 3, .ref 68] _ 0 0 _
        refine z_putI (N := 6) (w := 3) 9 5 rfl f_9_28 rfl (jfin_no TX9 RX9 6 rfl rfl) hD J Sm rfl rfl jk_3 (pw_68_5 (by omega)) rfl (fun h w17 J Sm => ?_)
        refine x_aloadn (x := 68) rfl rfl ?_
        refine x_aloadn (x := 68) rfl rfl ?_
        refine z_getM (N := 6) (v := g1) 9 3 rfl f_9_22 rfl J rfl (jmo w17 rfl (jmo w1 rfl z1)) ?_
        refine x_iconst (v := 1) rfl ki_1 ?_
        refine z_iadd rfl rfl jk_1 (by omega) (fun v18 ev18 => ?_)
        refine z_putI (N := 6) (w := v18.toInt) 9 4 rfl f_9_25 rfl (jfin_no TX9 RX9 6 rfl rfl) hD J Sm rfl rfl rfl (pw_68_4 (by omega)) rfl (fun h w19 J Sm => ?_)
        exact jX.sub (jsb_c rfl jsb_n) (ct_X9_step_r68_97 hD hQ  400 g0 g1 v18 3 h (by omega) (jr_of rfl (by omega)) (jr_of rfl (by omega)) (jr_of rfl (by omega)) (jr_of jk_3 (by omega)) (jmo w19 rfl (jmo w17 rfl (jmo w1 rfl z0))) (jmo w19 rfl (jmo w17 rfl (jmo w1 rfl z1))) (jmw w19) (jmo w19 rfl (jmw w17)) J Sm)
      ·
        refine x_iconst (v := 1) rfl ki_1 ?_
        refine x_iret rfl rfl ?_
        show jX m_X9_step 2 0 0 84 [(0, .ref 68)] [.int 1, .ref 68] _ 0 0 _
        refine z_putI (N := 6) (w := 1) 9 5 rfl f_9_28 rfl (jfin_no TX9 RX9 6 rfl rfl) hD J Sm rfl rfl jk_1 (pw_68_5 (by omega)) rfl (fun h w20 J Sm => ?_)
        refine x_aloadn (x := 68) rfl rfl ?_
        refine x_aloadn (x := 68) rfl rfl ?_
        refine z_getM (N := 6) (v := g1) 9 3 rfl f_9_22 rfl J rfl (jmo w20 rfl (jmo w1 rfl z1)) ?_
        refine x_iconst (v := 1) rfl ki_1 ?_
        refine z_iadd rfl rfl jk_1 (by omega) (fun v21 ev21 => ?_)
        refine z_putI (N := 6) (w := v21.toInt) 9 4 rfl f_9_25 rfl (jfin_no TX9 RX9 6 rfl rfl) hD J Sm rfl rfl rfl (pw_68_4 (by omega)) rfl (fun h w22 J Sm => ?_)
        exact jX.sub (jsb_c rfl jsb_n) (ct_X9_step_r68_97 hD hQ  400 g0 g1 v21 1 h (by omega) (jr_of rfl (by omega)) (jr_of rfl (by omega)) (jr_of rfl (by omega)) (jr_of jk_1 (by omega)) (jmo w22 rfl (jmo w20 rfl (jmo w1 rfl z0))) (jmo w22 rfl (jmo w20 rfl (jmo w1 rfl z1))) (jmw w22) (jmo w22 rfl (jmw w20)) J Sm)
  ·
    refine x_aloadn (x := 68) rfl rfl ?_
    refine x_iconst (v := 0) rfl ki_0 ?_
    refine z_putI (N := 6) (w := 0) 9 5 rfl f_9_28 rfl (jfin_no TX9 RX9 6 rfl rfl) hD J Sm rfl rfl jk_0 (pw_68_5 (by omega)) rfl (fun h w23 J Sm => ?_)
    refine x_vret rfl rfl ?_
    exact hQ _ J Sm _ _ (jmw w23) (jmo w23 rfl (jmo w1 rfl z1)) (by have := jk_0; omega)
set_option maxRecDepth 100000 in
set_option maxHeartbeats 4000000 in
theorem ct_X9_step_r68_8 {Dy : jH → Prop} {h0 : jH} {Q : Option Value → jH → Prop} (hD : jDk Dy) (hQ : ∀ h', jJ jSgX Dy h' → jSm fp_X9_step_r68 h0 h' → ∀ u0 u1 : Int32, jiv h' 68 5 = u0 → jiv h' 68 3 = u1 → (u0.toInt ≠ 3 ∨ u1.toInt ≤ 399) → Q none h') : ∀ r : Nat, ∀ (g0 : Int32) (g1 : Int32) (h : jH), 400 - g0.toInt < (r : Int) → 0 ≤ g0.toInt ∧ g0.toInt ≤ 400 → 0 ≤ g1.toInt ∧ g1.toInt ≤ 3 → jiv h 68 3 = g0 → jiv h 68 5 = g1 → jJ jSgX Dy h → jSm fp_X9_step_r68 h0 h → jX m_X9_step 2 0 0 8 [(0, .ref 68)] [] h 0 0 Q := by
  intro r
  induction r with
  | zero =>
    intro g0 g1 h hm y0 y1 z0 z1  J Sm
    exfalso
    omega
  | succ r ih =>
    intro g0 g1 h hm y0 y1 z0 z1  J Sm
    refine x_aloadn (x := 68) rfl rfl ?_
    refine z_getM (N := 6) (v := g0) 9 3 rfl f_9_22 rfl J rfl z0 ?_
    refine x_aloadn (x := 68) rfl rfl ?_
    refine z_getI (N := 6) 9 1 rfl f_9_15 rfl J rfl sg_68_1_2_1_0_1 (fun v1 qv1 ev1 => ?_)
    refine x_icge (tgt := 46) rfl rfl (ti_ge rfl rfl ⟨fun c2 => ?_, fun c2 => ?_⟩)
    ·
      exact jX.sub (jsb_c rfl jsb_n) (ct_X9_step_r68_46 hD hQ  v1 g0 g1 h (jr_of rfl (by omega)) (jr_of rfl (by omega)) (jr_of rfl (by omega)) qv1 z0 z1 J Sm)
    ·
      refine x_aloadn (x := 68) rfl rfl ?_
      refine z_getR (N := 6) (b := 69) 9 0 rfl f_9_11 rfl J rfl 8704 ⟨rfl, rfl⟩ rfl ?_
      refine x_aloadn (x := 68) rfl rfl ?_
      refine z_getM (N := 6) (v := g0) 9 3 rfl f_9_22 rfl J rfl z0 ?_
      refine z_iald (N := 400) rfl J rfl sg_69_0_400_1_0_1 rfl (by omega) (fun v3 qv3 ev3 => ?_)
      refine x_bipush (v := 32) rfl kb_32 ?_
      refine x_icne (tgt := 46) rfl rfl (ti_ne rfl jk_32 ⟨fun c4 => ?_, fun c4 => ?_⟩)
      ·
        exact jX.sub (jsb_c rfl jsb_n) (ct_X9_step_r68_46 hD hQ  v1 g0 g1 h (jr_of rfl (by omega)) (jr_of rfl (by omega)) (jr_of rfl (by omega)) qv1 z0 z1 J Sm)
      ·
        refine x_aloadn (x := 68) rfl rfl ?_
        refine x_dup rfl rfl ?_
        refine z_getM (N := 6) (v := g0) 9 3 rfl f_9_22 rfl J rfl z0 ?_
        refine x_iconst (v := 1) rfl ki_1 ?_
        refine z_iadd rfl rfl jk_1 (by omega) (fun v5 ev5 => ?_)
        refine z_putI (N := 6) (w := v5.toInt) 9 3 rfl f_9_22 rfl (jfin_no TX9 RX9 6 rfl rfl) hD J Sm rfl rfl rfl (pw_68_3 (by omega)) rfl (fun h w6 J Sm => ?_)
        refine x_goto (tgt := 8) rfl rfl ?_
        exact jX.sub (jsb_c rfl jsb_n) (ih v5 g1 h (by omega) (jr_of rfl (by omega)) (jr_of rfl (by omega)) (jmw w6) (jmo w6 rfl z1) J Sm)
set_option maxRecDepth 100000 in
set_option maxHeartbeats 4000000 in
theorem sf_X9_step_r68 {Dy : jH → Prop} {h : jH} {Q : Option Value → jH → Prop} (hD : jDk Dy) (J : jJ jSgX Dy h) {p0 p1 : Int32} (zp0 : jiv h 68 5 = p0) (zp1 : jiv h 68 3 = p1) (rl_p0 : (p0.toInt ≠ 3 ∨ p1.toInt ≤ 399)) (hQ : ∀ h', jJ jSgX Dy h' → jSm fp_X9_step_r68 h h' → ∀ u0 u1 : Int32, jiv h' 68 5 = u0 → jiv h' 68 3 = u1 → (u0.toInt ≠ 3 ∨ u1.toInt ≤ 399) → Q none h') : jC m_X9_step 2 0 0 [.ref 68] h Q := by
  refine jC.of rfl k_X9_step rfl ?_
  have Sm := jSm_rf fp_X9_step_r68 h
  have ep0 := (show 0 ≤ p0.toInt ∧ p0.toInt ≤ 3 from zp0 ▸ jrg_f J sg_68_5_6_1_0_1)
  have ep1 := (show 0 ≤ p1.toInt ∧ p1.toInt ≤ 400 from zp1 ▸ jrg_f J sg_68_3_4_1_0_1)
  show jX m_X9_step 2 0 0 0 [(0, .ref 68)] [] _ 0 0 _
  refine x_aloadn (x := 68) rfl rfl ?_
  refine x_aloadn (x := 68) rfl rfl ?_
  refine z_getI (N := 6) 9 4 rfl f_9_25 rfl J rfl sg_68_4_5_1_0_1 (fun v1 qv1 ev1 => ?_)
  refine z_putI (N := 6) (w := v1.toInt) 9 3 rfl f_9_22 rfl (jfin_no TX9 RX9 6 rfl rfl) hD J Sm rfl rfl rfl (pw_68_3 (by omega)) rfl (fun h w2 J Sm => ?_)
  exact jX.sub (jsb_c rfl jsb_n) (ct_X9_step_r68_8 hD hQ  401 v1 p0 h (by omega) (jr_of rfl (by omega)) (jr_of rfl (by omega)) (jmw w2) (jmo w2 rfl zp0) J Sm)
def fp_X8_put_r33_c0 : jFp := [(34, 0, 1200)]
set_option maxRecDepth 100000 in
set_option maxHeartbeats 4000000 in
theorem ct_X8_put_r33_c0_38 {Dy : jH → Prop} {h0 : jH} {Q : Option Value → jH → Prop} (hD : jDk Dy) (hQ : ∀ h', jJ jSgX Dy h' → jSm fp_X8_put_r33_c0 h0 h' → Q none h') : ∀ (h : jH), jJ jSgX Dy h → jSm fp_X8_put_r33_c0 h0 h → jX m_X8_put 1 0 0 38 [] [] h 0 0 Q := by
  intro  h    J Sm
  refine x_vret rfl rfl ?_
  exact hQ _ J Sm
set_option maxRecDepth 100000 in
set_option maxHeartbeats 4000000 in
theorem sf_X8_put_r33_c0 {Dy : jH → Prop} {h : jH} {Q : Option Value → jH → Prop} {a1 : Int32} {a3 : Int32} (y1 : 0 ≤ a1.toInt ∧ a1.toInt ≤ 199) (y3 : 0 ≤ a3.toInt ∧ a3.toInt ≤ 146399) (hD : jDk Dy) (J : jJ jSgX Dy h) (hQ : ∀ h', jJ jSgX Dy h' → jSm fp_X8_put_r33_c0 h h' → Q none h') : jC m_X8_put 1 0 0 [.ref 33, .int a1, .int 0, .int a3] h Q := by
  refine jC.of rfl k_X8_put rfl ?_
  have Sm := jSm_rf fp_X8_put_r33_c0 h
  show jX m_X8_put 1 0 0 0 [(0, .ref 33), (1, .int a1), (2, .int 0), (3, .int a3)] [] _ 0 0 _
  refine x_iloadn (x := a1) rfl rfl ?_
  refine x_iflt (tgt := 38) rfl rfl (ti_lt rfl jk_0 (br_f (by omega) ?_))
  refine x_iloadn (x := a1) rfl rfl ?_
  refine x_aloadn (x := 33) rfl rfl ?_
  refine z_getI (N := 4) 8 3 rfl f_8_7 rfl J rfl sg_33_3_4_1_0_1 (fun v1 qv1 ev1 => ?_)
  refine x_icge (tgt := 38) rfl rfl (ti_ge rfl rfl ⟨fun c2 => ?_, fun c2 => ?_⟩)
  ·
    exact jX.sub jsb_n (ct_X8_put_r33_c0_38 hD hQ  h J Sm)
  ·
    refine x_iloadn (x := 0) rfl rfl ?_
    refine x_iflt (tgt := 38) rfl rfl (ti_lt jk_0 jk_0 (br_f (by omega) ?_))
    refine x_iloadn (x := 0) rfl rfl ?_
    refine x_aloadn (x := 33) rfl rfl ?_
    refine z_getC (N := 4) (v := 6) 8 0 rfl f_8_19 rfl J rfl sg_33_0_1_1_0_1 jk_6 ?_
    refine x_icge (tgt := 38) rfl rfl (ti_ge jk_0 jk_6 (br_f (by omega) ?_))
    refine x_aloadn (x := 33) rfl rfl ?_
    refine z_getR (N := 4) (b := 34) 8 2 rfl f_8_25 rfl J rfl 4226 ⟨rfl, rfl⟩ rfl ?_
    refine x_iloadn (x := a1) rfl rfl ?_
    refine x_aloadn (x := 33) rfl rfl ?_
    refine z_getC (N := 4) (v := 6) 8 0 rfl f_8_19 rfl J rfl sg_33_0_1_1_0_1 jk_6 ?_
    refine z_imul rfl rfl jk_6 (by omega) (fun v3 ev3 => ?_)
    refine x_iloadn (x := 0) rfl rfl ?_
    refine z_iadd rfl rfl jk_0 (by omega) (fun v4 ev4 => ?_)
    refine x_iloadn (x := a3) rfl rfl ?_
    refine z_iast (N := 1200) (l := 0) (u := 1200) (w := a3.toInt) rfl hD J Sm rfl rfl rfl (by omega) rfl (wr_34 (fun q1 q2 q3 q4 => by omega) (fun q1 q2 q3 q4 => by omega) (fun q1 q2 q3 q4 => by omega) (fun q1 q2 q3 q4 => by omega) (fun q1 q2 q3 q4 => by omega)) rfl (fun h w5 J Sm => ?_)
    exact jX.sub jsb_n (ct_X8_put_r33_c0_38 hD hQ  h J Sm)
def fp_X8_put_r33_c1 : jFp := [(34, 0, 1200)]
set_option maxRecDepth 100000 in
set_option maxHeartbeats 4000000 in
theorem ct_X8_put_r33_c1_38 {Dy : jH → Prop} {h0 : jH} {Q : Option Value → jH → Prop} (hD : jDk Dy) (hQ : ∀ h', jJ jSgX Dy h' → jSm fp_X8_put_r33_c1 h0 h' → Q none h') : ∀ (h : jH), jJ jSgX Dy h → jSm fp_X8_put_r33_c1 h0 h → jX m_X8_put 1 0 0 38 [] [] h 0 0 Q := by
  intro  h    J Sm
  refine x_vret rfl rfl ?_
  exact hQ _ J Sm
set_option maxRecDepth 100000 in
set_option maxHeartbeats 4000000 in
theorem sf_X8_put_r33_c1 {Dy : jH → Prop} {h : jH} {Q : Option Value → jH → Prop} {a1 : Int32} {a3 : Int32} (y1 : 0 ≤ a1.toInt ∧ a1.toInt ≤ 199) (y3 : 0 ≤ a3.toInt ∧ a3.toInt ≤ 146399) (hD : jDk Dy) (J : jJ jSgX Dy h) (hQ : ∀ h', jJ jSgX Dy h' → jSm fp_X8_put_r33_c1 h h' → Q none h') : jC m_X8_put 1 0 0 [.ref 33, .int a1, .int 1, .int a3] h Q := by
  refine jC.of rfl k_X8_put rfl ?_
  have Sm := jSm_rf fp_X8_put_r33_c1 h
  show jX m_X8_put 1 0 0 0 [(0, .ref 33), (1, .int a1), (2, .int 1), (3, .int a3)] [] _ 0 0 _
  refine x_iloadn (x := a1) rfl rfl ?_
  refine x_iflt (tgt := 38) rfl rfl (ti_lt rfl jk_0 (br_f (by omega) ?_))
  refine x_iloadn (x := a1) rfl rfl ?_
  refine x_aloadn (x := 33) rfl rfl ?_
  refine z_getI (N := 4) 8 3 rfl f_8_7 rfl J rfl sg_33_3_4_1_0_1 (fun v1 qv1 ev1 => ?_)
  refine x_icge (tgt := 38) rfl rfl (ti_ge rfl rfl ⟨fun c2 => ?_, fun c2 => ?_⟩)
  ·
    exact jX.sub jsb_n (ct_X8_put_r33_c1_38 hD hQ  h J Sm)
  ·
    refine x_iloadn (x := 1) rfl rfl ?_
    refine x_iflt (tgt := 38) rfl rfl (ti_lt jk_1 jk_0 (br_f (by omega) ?_))
    refine x_iloadn (x := 1) rfl rfl ?_
    refine x_aloadn (x := 33) rfl rfl ?_
    refine z_getC (N := 4) (v := 6) 8 0 rfl f_8_19 rfl J rfl sg_33_0_1_1_0_1 jk_6 ?_
    refine x_icge (tgt := 38) rfl rfl (ti_ge jk_1 jk_6 (br_f (by omega) ?_))
    refine x_aloadn (x := 33) rfl rfl ?_
    refine z_getR (N := 4) (b := 34) 8 2 rfl f_8_25 rfl J rfl 4226 ⟨rfl, rfl⟩ rfl ?_
    refine x_iloadn (x := a1) rfl rfl ?_
    refine x_aloadn (x := 33) rfl rfl ?_
    refine z_getC (N := 4) (v := 6) 8 0 rfl f_8_19 rfl J rfl sg_33_0_1_1_0_1 jk_6 ?_
    refine z_imul rfl rfl jk_6 (by omega) (fun v3 ev3 => ?_)
    refine x_iloadn (x := 1) rfl rfl ?_
    refine z_iadd rfl rfl jk_1 (by omega) (fun v4 ev4 => ?_)
    refine x_iloadn (x := a3) rfl rfl ?_
    refine z_iast (N := 1200) (l := 0) (u := 1200) (w := a3.toInt) rfl hD J Sm rfl rfl rfl (by omega) rfl (wr_34 (fun q1 q2 q3 q4 => by omega) (fun q1 q2 q3 q4 => by omega) (fun q1 q2 q3 q4 => by omega) (fun q1 q2 q3 q4 => by omega) (fun q1 q2 q3 q4 => by omega)) rfl (fun h w5 J Sm => ?_)
    exact jX.sub jsb_n (ct_X8_put_r33_c1_38 hD hQ  h J Sm)
def fp_X8_put_r33_c2 : jFp := [(34, 0, 1200)]
set_option maxRecDepth 100000 in
set_option maxHeartbeats 4000000 in
theorem ct_X8_put_r33_c2_38 {Dy : jH → Prop} {h0 : jH} {Q : Option Value → jH → Prop} (hD : jDk Dy) (hQ : ∀ h', jJ jSgX Dy h' → jSm fp_X8_put_r33_c2 h0 h' → Q none h') : ∀ (h : jH), jJ jSgX Dy h → jSm fp_X8_put_r33_c2 h0 h → jX m_X8_put 1 0 0 38 [] [] h 0 0 Q := by
  intro  h    J Sm
  refine x_vret rfl rfl ?_
  exact hQ _ J Sm
set_option maxRecDepth 100000 in
set_option maxHeartbeats 4000000 in
theorem sf_X8_put_r33_c2 {Dy : jH → Prop} {h : jH} {Q : Option Value → jH → Prop} {a1 : Int32} {a3 : Int32} (y1 : 0 ≤ a1.toInt ∧ a1.toInt ≤ 199) (y3 : 0 ≤ a3.toInt ∧ a3.toInt ≤ 5) (hD : jDk Dy) (J : jJ jSgX Dy h) (hQ : ∀ h', jJ jSgX Dy h' → jSm fp_X8_put_r33_c2 h h' → Q none h') : jC m_X8_put 1 0 0 [.ref 33, .int a1, .int 2, .int a3] h Q := by
  refine jC.of rfl k_X8_put rfl ?_
  have Sm := jSm_rf fp_X8_put_r33_c2 h
  show jX m_X8_put 1 0 0 0 [(0, .ref 33), (1, .int a1), (2, .int 2), (3, .int a3)] [] _ 0 0 _
  refine x_iloadn (x := a1) rfl rfl ?_
  refine x_iflt (tgt := 38) rfl rfl (ti_lt rfl jk_0 (br_f (by omega) ?_))
  refine x_iloadn (x := a1) rfl rfl ?_
  refine x_aloadn (x := 33) rfl rfl ?_
  refine z_getI (N := 4) 8 3 rfl f_8_7 rfl J rfl sg_33_3_4_1_0_1 (fun v1 qv1 ev1 => ?_)
  refine x_icge (tgt := 38) rfl rfl (ti_ge rfl rfl ⟨fun c2 => ?_, fun c2 => ?_⟩)
  ·
    exact jX.sub jsb_n (ct_X8_put_r33_c2_38 hD hQ  h J Sm)
  ·
    refine x_iloadn (x := 2) rfl rfl ?_
    refine x_iflt (tgt := 38) rfl rfl (ti_lt jk_2 jk_0 (br_f (by omega) ?_))
    refine x_iloadn (x := 2) rfl rfl ?_
    refine x_aloadn (x := 33) rfl rfl ?_
    refine z_getC (N := 4) (v := 6) 8 0 rfl f_8_19 rfl J rfl sg_33_0_1_1_0_1 jk_6 ?_
    refine x_icge (tgt := 38) rfl rfl (ti_ge jk_2 jk_6 (br_f (by omega) ?_))
    refine x_aloadn (x := 33) rfl rfl ?_
    refine z_getR (N := 4) (b := 34) 8 2 rfl f_8_25 rfl J rfl 4226 ⟨rfl, rfl⟩ rfl ?_
    refine x_iloadn (x := a1) rfl rfl ?_
    refine x_aloadn (x := 33) rfl rfl ?_
    refine z_getC (N := 4) (v := 6) 8 0 rfl f_8_19 rfl J rfl sg_33_0_1_1_0_1 jk_6 ?_
    refine z_imul rfl rfl jk_6 (by omega) (fun v3 ev3 => ?_)
    refine x_iloadn (x := 2) rfl rfl ?_
    refine z_iadd rfl rfl jk_2 (by omega) (fun v4 ev4 => ?_)
    refine x_iloadn (x := a3) rfl rfl ?_
    refine z_iast (N := 1200) (l := 0) (u := 1200) (w := a3.toInt) rfl hD J Sm rfl rfl rfl (by omega) rfl (wr_34 (fun q1 q2 q3 q4 => by omega) (fun q1 q2 q3 q4 => by omega) (fun q1 q2 q3 q4 => by omega) (fun q1 q2 q3 q4 => by omega) (fun q1 q2 q3 q4 => by omega)) rfl (fun h w5 J Sm => ?_)
    exact jX.sub jsb_n (ct_X8_put_r33_c2_38 hD hQ  h J Sm)
def fp_X8_put_r33_c3 : jFp := [(34, 0, 1200)]
set_option maxRecDepth 100000 in
set_option maxHeartbeats 4000000 in
theorem ct_X8_put_r33_c3_38 {Dy : jH → Prop} {h0 : jH} {Q : Option Value → jH → Prop} (hD : jDk Dy) (hQ : ∀ h', jJ jSgX Dy h' → jSm fp_X8_put_r33_c3 h0 h' → Q none h') : ∀ (h : jH), jJ jSgX Dy h → jSm fp_X8_put_r33_c3 h0 h → jX m_X8_put 1 0 0 38 [] [] h 0 0 Q := by
  intro  h    J Sm
  refine x_vret rfl rfl ?_
  exact hQ _ J Sm
set_option maxRecDepth 100000 in
set_option maxHeartbeats 4000000 in
theorem sf_X8_put_r33_c3 {Dy : jH → Prop} {h : jH} {Q : Option Value → jH → Prop} {a1 : Int32} {a3 : Int32} (y1 : 0 ≤ a1.toInt ∧ a1.toInt ≤ 199) (y3 : 0 ≤ a3.toInt ∧ a3.toInt ≤ 15) (hD : jDk Dy) (J : jJ jSgX Dy h) (hQ : ∀ h', jJ jSgX Dy h' → jSm fp_X8_put_r33_c3 h h' → Q none h') : jC m_X8_put 1 0 0 [.ref 33, .int a1, .int 3, .int a3] h Q := by
  refine jC.of rfl k_X8_put rfl ?_
  have Sm := jSm_rf fp_X8_put_r33_c3 h
  show jX m_X8_put 1 0 0 0 [(0, .ref 33), (1, .int a1), (2, .int 3), (3, .int a3)] [] _ 0 0 _
  refine x_iloadn (x := a1) rfl rfl ?_
  refine x_iflt (tgt := 38) rfl rfl (ti_lt rfl jk_0 (br_f (by omega) ?_))
  refine x_iloadn (x := a1) rfl rfl ?_
  refine x_aloadn (x := 33) rfl rfl ?_
  refine z_getI (N := 4) 8 3 rfl f_8_7 rfl J rfl sg_33_3_4_1_0_1 (fun v1 qv1 ev1 => ?_)
  refine x_icge (tgt := 38) rfl rfl (ti_ge rfl rfl ⟨fun c2 => ?_, fun c2 => ?_⟩)
  ·
    exact jX.sub jsb_n (ct_X8_put_r33_c3_38 hD hQ  h J Sm)
  ·
    refine x_iloadn (x := 3) rfl rfl ?_
    refine x_iflt (tgt := 38) rfl rfl (ti_lt jk_3 jk_0 (br_f (by omega) ?_))
    refine x_iloadn (x := 3) rfl rfl ?_
    refine x_aloadn (x := 33) rfl rfl ?_
    refine z_getC (N := 4) (v := 6) 8 0 rfl f_8_19 rfl J rfl sg_33_0_1_1_0_1 jk_6 ?_
    refine x_icge (tgt := 38) rfl rfl (ti_ge jk_3 jk_6 (br_f (by omega) ?_))
    refine x_aloadn (x := 33) rfl rfl ?_
    refine z_getR (N := 4) (b := 34) 8 2 rfl f_8_25 rfl J rfl 4226 ⟨rfl, rfl⟩ rfl ?_
    refine x_iloadn (x := a1) rfl rfl ?_
    refine x_aloadn (x := 33) rfl rfl ?_
    refine z_getC (N := 4) (v := 6) 8 0 rfl f_8_19 rfl J rfl sg_33_0_1_1_0_1 jk_6 ?_
    refine z_imul rfl rfl jk_6 (by omega) (fun v3 ev3 => ?_)
    refine x_iloadn (x := 3) rfl rfl ?_
    refine z_iadd rfl rfl jk_3 (by omega) (fun v4 ev4 => ?_)
    refine x_iloadn (x := a3) rfl rfl ?_
    refine z_iast (N := 1200) (l := 0) (u := 1200) (w := a3.toInt) rfl hD J Sm rfl rfl rfl (by omega) rfl (wr_34 (fun q1 q2 q3 q4 => by omega) (fun q1 q2 q3 q4 => by omega) (fun q1 q2 q3 q4 => by omega) (fun q1 q2 q3 q4 => by omega) (fun q1 q2 q3 q4 => by omega)) rfl (fun h w5 J Sm => ?_)
    exact jX.sub jsb_n (ct_X8_put_r33_c3_38 hD hQ  h J Sm)
def fp_X8_put_r33_c5 : jFp := [(34, 0, 1200)]
set_option maxRecDepth 100000 in
set_option maxHeartbeats 4000000 in
theorem ct_X8_put_r33_c5_38 {Dy : jH → Prop} {h0 : jH} {Q : Option Value → jH → Prop} (hD : jDk Dy) (hQ : ∀ h', jJ jSgX Dy h' → jSm fp_X8_put_r33_c5 h0 h' → Q none h') : ∀ (h : jH), jJ jSgX Dy h → jSm fp_X8_put_r33_c5 h0 h → jX m_X8_put 1 0 0 38 [] [] h 0 0 Q := by
  intro  h    J Sm
  refine x_vret rfl rfl ?_
  exact hQ _ J Sm
set_option maxRecDepth 100000 in
set_option maxHeartbeats 4000000 in
theorem sf_X8_put_r33_c5 {Dy : jH → Prop} {h : jH} {Q : Option Value → jH → Prop} {a1 : Int32} {a3 : Int32} (y1 : 0 ≤ a1.toInt ∧ a1.toInt ≤ 199) (y3 : 0 ≤ a3.toInt ∧ a3.toInt ≤ 1) (hD : jDk Dy) (J : jJ jSgX Dy h) (hQ : ∀ h', jJ jSgX Dy h' → jSm fp_X8_put_r33_c5 h h' → Q none h') : jC m_X8_put 1 0 0 [.ref 33, .int a1, .int 5, .int a3] h Q := by
  refine jC.of rfl k_X8_put rfl ?_
  have Sm := jSm_rf fp_X8_put_r33_c5 h
  show jX m_X8_put 1 0 0 0 [(0, .ref 33), (1, .int a1), (2, .int 5), (3, .int a3)] [] _ 0 0 _
  refine x_iloadn (x := a1) rfl rfl ?_
  refine x_iflt (tgt := 38) rfl rfl (ti_lt rfl jk_0 (br_f (by omega) ?_))
  refine x_iloadn (x := a1) rfl rfl ?_
  refine x_aloadn (x := 33) rfl rfl ?_
  refine z_getI (N := 4) 8 3 rfl f_8_7 rfl J rfl sg_33_3_4_1_0_1 (fun v1 qv1 ev1 => ?_)
  refine x_icge (tgt := 38) rfl rfl (ti_ge rfl rfl ⟨fun c2 => ?_, fun c2 => ?_⟩)
  ·
    exact jX.sub jsb_n (ct_X8_put_r33_c5_38 hD hQ  h J Sm)
  ·
    refine x_iloadn (x := 5) rfl rfl ?_
    refine x_iflt (tgt := 38) rfl rfl (ti_lt jk_5 jk_0 (br_f (by omega) ?_))
    refine x_iloadn (x := 5) rfl rfl ?_
    refine x_aloadn (x := 33) rfl rfl ?_
    refine z_getC (N := 4) (v := 6) 8 0 rfl f_8_19 rfl J rfl sg_33_0_1_1_0_1 jk_6 ?_
    refine x_icge (tgt := 38) rfl rfl (ti_ge jk_5 jk_6 (br_f (by omega) ?_))
    refine x_aloadn (x := 33) rfl rfl ?_
    refine z_getR (N := 4) (b := 34) 8 2 rfl f_8_25 rfl J rfl 4226 ⟨rfl, rfl⟩ rfl ?_
    refine x_iloadn (x := a1) rfl rfl ?_
    refine x_aloadn (x := 33) rfl rfl ?_
    refine z_getC (N := 4) (v := 6) 8 0 rfl f_8_19 rfl J rfl sg_33_0_1_1_0_1 jk_6 ?_
    refine z_imul rfl rfl jk_6 (by omega) (fun v3 ev3 => ?_)
    refine x_iloadn (x := 5) rfl rfl ?_
    refine z_iadd rfl rfl jk_5 (by omega) (fun v4 ev4 => ?_)
    refine x_iloadn (x := a3) rfl rfl ?_
    refine z_iast (N := 1200) (l := 0) (u := 1200) (w := a3.toInt) rfl hD J Sm rfl rfl rfl (by omega) rfl (wr_34 (fun q1 q2 q3 q4 => by omega) (fun q1 q2 q3 q4 => by omega) (fun q1 q2 q3 q4 => by omega) (fun q1 q2 q3 q4 => by omega) (fun q1 q2 q3 q4 => by omega)) rfl (fun h w5 J Sm => ?_)
    exact jX.sub jsb_n (ct_X8_put_r33_c5_38 hD hQ  h J Sm)
def fp_X8_add_r33 : jFp := [(33, 3, 4), (34, 0, 1200)]
set_option maxRecDepth 100000 in
set_option maxHeartbeats 4000000 in
theorem sf_X8_add_r33 {Dy : jH → Prop} {h : jH} {Q : Option Value → jH → Prop} {a1 : Int32} {a2 : Int32} {a3 : Int32} {a4 : Int32} {a5 : Int32} {a6 : Int32} (y1 : 0 ≤ a1.toInt ∧ a1.toInt ≤ 146399) (y2 : 0 ≤ a2.toInt ∧ a2.toInt ≤ 146399) (y3 : 0 ≤ a3.toInt ∧ a3.toInt ≤ 5) (y4 : 0 ≤ a4.toInt ∧ a4.toInt ≤ 15) (y5 : (-1) ≤ a5.toInt ∧ a5.toInt ≤ 100000) (y6 : 0 ≤ a6.toInt ∧ a6.toInt ≤ 1) (hD : jDk Dy) (J : jJ jSgX Dy h) (hQ : ∀ h', jJ jSgX Dy h' → jSm fp_X8_add_r33 h h' → Q none h') : jC m_X8_add 2 0 0 [.ref 33, .int a1, .int a2, .int a3, .int a4, .int a5, .int a6] h Q := by
  refine jC.of rfl k_X8_add rfl ?_
  have Sm := jSm_rf fp_X8_add_r33 h
  show jX m_X8_add 2 0 0 0 [(0, .ref 33), (1, .int a1), (2, .int a2), (3, .int a3), (4, .int a4), (5, .int a5), (6, .int a6)] [] _ 0 0 _
  refine x_aloadn (x := 33) rfl rfl ?_
  refine z_getI (N := 4) 8 3 rfl f_8_7 rfl J rfl sg_33_3_4_1_0_1 (fun v1 qv1 ev1 => ?_)
  refine x_aloadn (x := 33) rfl rfl ?_
  refine z_getC (N := 4) (v := 200) 8 1 rfl f_8_22 rfl J rfl sg_33_1_2_1_0_1 jk_200 ?_
  refine x_iclt (tgt := 12) rfl rfl (ti_lt rfl jk_200 ⟨fun c2 => ?_, fun c2 => ?_⟩)
  ·
    refine x_aloadn (x := 33) rfl rfl ?_
    refine z_getM (N := 4) (v := v1) 8 3 rfl f_8_7 rfl J rfl qv1 ?_
    refine x_istore (ls' := [(7, .int v1), (0, .ref 33), (1, .int a1), (2, .int a2), (3, .int a3), (4, .int a4), (5, .int a5), (6, .int a6)]) rfl rfl rfl ?_
    refine x_aloadn (x := 33) rfl rfl ?_
    refine x_iload (x := v1) rfl rfl ?_
    refine x_iconst (v := 1) rfl ki_1 ?_
    refine z_iadd rfl rfl jk_1 (by omega) (fun v3 ev3 => ?_)
    refine z_putI (N := 4) (w := v3.toInt) 8 3 rfl f_8_7 rfl (jfin_no TX8 RX8 4 rfl rfl) hD J Sm rfl rfl rfl (pw_33_3 (by omega)) rfl (fun h w4 J Sm => ?_)
    refine x_aloadn (x := 33) rfl rfl ?_
    refine x_iload (x := v1) rfl rfl ?_
    refine x_iconst (v := 0) rfl ki_0 ?_
    refine x_iloadn (x := a1) rfl rfl ?_
    refine x_inv (N := m_X8_put) (As := [.int v1, .int 0, .int a1]) (b := 33) (st := []) (d' := 1) (mc := 0) (ms := 0) (host := "") 8 rfl t_X8_put ⟨Or.inl q_8_29, i_X8_put.1, i_X8_put.2⟩ ⟨by decide, rfl⟩ (congrArg Prod.fst (J.1.1 33 (8, 4) rfl)) rfl (by decide) rfl rfl ⟨by decide, by decide⟩ (sf_X8_put_r33_c0 (jr_of rfl (by omega)) (jr_of rfl (by omega)) hD J  (fun h J S5 => ?_))
    have Sm := jSm_tr rfl Sm S5
    show jX m_X8_add 2 0 0 34 [(7, .int v1), (0, .ref 33), (1, .int a1), (2, .int a2), (3, .int a3), (4, .int a4), (5, .int a5), (6, .int a6)] [] _ 0 0 _
    refine x_aloadn (x := 33) rfl rfl ?_
    refine x_iload (x := v1) rfl rfl ?_
    refine x_iconst (v := 1) rfl ki_1 ?_
    refine x_iloadn (x := a2) rfl rfl ?_
    refine x_inv (N := m_X8_put) (As := [.int v1, .int 1, .int a2]) (b := 33) (st := []) (d' := 1) (mc := 0) (ms := 0) (host := "") 8 rfl t_X8_put ⟨Or.inl q_8_29, i_X8_put.1, i_X8_put.2⟩ ⟨by decide, rfl⟩ (congrArg Prod.fst (J.1.1 33 (8, 4) rfl)) rfl (by decide) rfl rfl ⟨by decide, by decide⟩ (sf_X8_put_r33_c1 (jr_of rfl (by omega)) (jr_of rfl (by omega)) hD J  (fun h J S6 => ?_))
    have Sm := jSm_tr rfl Sm S6
    show jX m_X8_add 2 0 0 42 [(7, .int v1), (0, .ref 33), (1, .int a1), (2, .int a2), (3, .int a3), (4, .int a4), (5, .int a5), (6, .int a6)] [] _ 0 0 _
    refine x_aloadn (x := 33) rfl rfl ?_
    refine x_iload (x := v1) rfl rfl ?_
    refine x_iconst (v := 2) rfl ki_2 ?_
    refine x_iloadn (x := a3) rfl rfl ?_
    refine x_inv (N := m_X8_put) (As := [.int v1, .int 2, .int a3]) (b := 33) (st := []) (d' := 1) (mc := 0) (ms := 0) (host := "") 8 rfl t_X8_put ⟨Or.inl q_8_29, i_X8_put.1, i_X8_put.2⟩ ⟨by decide, rfl⟩ (congrArg Prod.fst (J.1.1 33 (8, 4) rfl)) rfl (by decide) rfl rfl ⟨by decide, by decide⟩ (sf_X8_put_r33_c2 (jr_of rfl (by omega)) (jr_of rfl (by omega)) hD J  (fun h J S7 => ?_))
    have Sm := jSm_tr rfl Sm S7
    show jX m_X8_add 2 0 0 50 [(7, .int v1), (0, .ref 33), (1, .int a1), (2, .int a2), (3, .int a3), (4, .int a4), (5, .int a5), (6, .int a6)] [] _ 0 0 _
    refine x_aloadn (x := 33) rfl rfl ?_
    refine x_iload (x := v1) rfl rfl ?_
    refine x_iconst (v := 3) rfl ki_3 ?_
    refine x_iload (x := a4) rfl rfl ?_
    refine x_inv (N := m_X8_put) (As := [.int v1, .int 3, .int a4]) (b := 33) (st := []) (d' := 1) (mc := 0) (ms := 0) (host := "") 8 rfl t_X8_put ⟨Or.inl q_8_29, i_X8_put.1, i_X8_put.2⟩ ⟨by decide, rfl⟩ (congrArg Prod.fst (J.1.1 33 (8, 4) rfl)) rfl (by decide) rfl rfl ⟨by decide, by decide⟩ (sf_X8_put_r33_c3 (jr_of rfl (by omega)) (jr_of rfl (by omega)) hD J  (fun h J S8 => ?_))
    have Sm := jSm_tr rfl Sm S8
    show jX m_X8_add 2 0 0 59 [(7, .int v1), (0, .ref 33), (1, .int a1), (2, .int a2), (3, .int a3), (4, .int a4), (5, .int a5), (6, .int a6)] [] _ 0 0 _
    refine x_aloadn (x := 33) rfl rfl ?_
    refine x_iload (x := v1) rfl rfl ?_
    refine x_iconst (v := 4) rfl ki_4 ?_
    refine x_iload (x := a5) rfl rfl ?_
    refine x_inv (N := m_X8_put) (As := [.int v1, .int 4, .int a5]) (b := 33) (st := []) (d' := 1) (mc := 0) (ms := 0) (host := "") 8 rfl t_X8_put ⟨Or.inl q_8_29, i_X8_put.1, i_X8_put.2⟩ ⟨by decide, rfl⟩ (congrArg Prod.fst (J.1.1 33 (8, 4) rfl)) rfl (by decide) rfl rfl ⟨by decide, by decide⟩ (sf_X8_put_r33_c4 (jr_of rfl (by omega)) hD J  (fun h J S9 => ?_))
    have Sm := jSm_tr rfl Sm S9
    show jX m_X8_add 2 0 0 68 [(7, .int v1), (0, .ref 33), (1, .int a1), (2, .int a2), (3, .int a3), (4, .int a4), (5, .int a5), (6, .int a6)] [] _ 0 0 _
    refine x_aloadn (x := 33) rfl rfl ?_
    refine x_iload (x := v1) rfl rfl ?_
    refine x_iconst (v := 5) rfl ki_5 ?_
    refine x_iload (x := a6) rfl rfl ?_
    refine x_inv (N := m_X8_put) (As := [.int v1, .int 5, .int a6]) (b := 33) (st := []) (d' := 1) (mc := 0) (ms := 0) (host := "") 8 rfl t_X8_put ⟨Or.inl q_8_29, i_X8_put.1, i_X8_put.2⟩ ⟨by decide, rfl⟩ (congrArg Prod.fst (J.1.1 33 (8, 4) rfl)) rfl (by decide) rfl rfl ⟨by decide, by decide⟩ (sf_X8_put_r33_c5 (jr_of rfl (by omega)) (jr_of rfl (by omega)) hD J  (fun h J S10 => ?_))
    have Sm := jSm_tr rfl Sm S10
    show jX m_X8_add 2 0 0 77 [(7, .int v1), (0, .ref 33), (1, .int a1), (2, .int a2), (3, .int a3), (4, .int a4), (5, .int a5), (6, .int a6)] [] _ 0 0 _
    refine x_vret rfl rfl ?_
    exact hQ _ J Sm
  ·
    refine x_vret rfl rfl ?_
    exact hQ _ J Sm
def fp_X8_isFull_r33 : jFp := []
set_option maxRecDepth 100000 in
set_option maxHeartbeats 4000000 in
theorem ct_X8_isFull_r33_16 {Dy : jH → Prop} {h0 : jH} {Q : Option Value → jH → Prop} (hD : jDk Dy) (hQ : ∀ (v : Int32) h', 0 ≤ v.toInt ∧ v.toInt ≤ 1 → jJ jSgX Dy h' → jSm fp_X8_isFull_r33 h0 h' → Q (some (.int v)) h') : ∀ (s0 : Int32) (h : jH), 0 ≤ s0.toInt ∧ s0.toInt ≤ 1 → jJ jSgX Dy h → jSm fp_X8_isFull_r33 h0 h → jX m_X8_isFull 1 0 0 16 [] [.int s0] h 0 0 Q := by
  intro s0 h y0   J Sm
  refine x_zret rfl rfl (jz01 (by omega)) ?_
  exact hQ _ _ (jr_of rfl (by omega)) J Sm
set_option maxRecDepth 100000 in
set_option maxHeartbeats 4000000 in
theorem sf_X8_isFull_r33 {Dy : jH → Prop} {h : jH} {Q : Option Value → jH → Prop} (hD : jDk Dy) (J : jJ jSgX Dy h) (hQ : ∀ (v : Int32) h', 0 ≤ v.toInt ∧ v.toInt ≤ 1 → jJ jSgX Dy h' → jSm fp_X8_isFull_r33 h h' → Q (some (.int v)) h') : jC m_X8_isFull 1 0 0 [.ref 33] h Q := by
  refine jC.of rfl k_X8_isFull rfl ?_
  have Sm := jSm_rf fp_X8_isFull_r33 h
  show jX m_X8_isFull 1 0 0 0 [(0, .ref 33)] [] _ 0 0 _
  refine x_aloadn (x := 33) rfl rfl ?_
  refine z_getI (N := 4) 8 3 rfl f_8_7 rfl J rfl sg_33_3_4_1_0_1 (fun v1 qv1 ev1 => ?_)
  refine x_aloadn (x := 33) rfl rfl ?_
  refine z_getC (N := 4) (v := 200) 8 1 rfl f_8_22 rfl J rfl sg_33_1_2_1_0_1 jk_200 ?_
  refine x_iclt (tgt := 15) rfl rfl (ti_lt rfl jk_200 ⟨fun c2 => ?_, fun c2 => ?_⟩)
  ·
    refine x_iconst (v := 0) rfl ki_0 ?_
    exact jX.sub jsb_n (ct_X8_isFull_r33_16 hD hQ  0 h (jr_of jk_0 (by omega)) J Sm)
  ·
    refine x_iconst (v := 1) rfl ki_1 ?_
    refine x_goto (tgt := 16) rfl rfl ?_
    exact jX.sub jsb_n (ct_X8_isFull_r33_16 hD hQ  1 h (jr_of jk_1 (by omega)) J Sm)
def fp_X7_mentionOf_r78 : jFp := []
set_option maxRecDepth 100000 in
set_option maxHeartbeats 4000000 in
theorem ct_X7_mentionOf_r78_41 {Dy : jH → Prop} {h0 : jH} {Q : Option Value → jH → Prop} (hD : jDk Dy) (hQ : ∀ (v : Int32) h', (-1) ≤ v.toInt ∧ v.toInt ≤ 599 → jJ jSgX Dy h' → jSm fp_X7_mentionOf_r78 h0 h' → Q (some (.int v)) h') : ∀ (h : jH), jJ jSgX Dy h → jSm fp_X7_mentionOf_r78 h0 h → jX m_X7_mentionOf 1 0 0 41 [] [] h 0 0 Q := by
  intro  h    J Sm
  refine x_iconst (v := (-1)) rfl ki_m1 ?_
  refine x_iret rfl rfl ?_
  exact hQ _ _ (jr_of jk_m1 (by omega)) J Sm
set_option maxRecDepth 100000 in
set_option maxHeartbeats 4000000 in
theorem ct_X7_mentionOf_r78_5 {Dy : jH → Prop} {h0 : jH} {Q : Option Value → jH → Prop} (hD : jDk Dy) (hQ : ∀ (v : Int32) h', (-1) ≤ v.toInt ∧ v.toInt ≤ 599 → jJ jSgX Dy h' → jSm fp_X7_mentionOf_r78 h0 h' → Q (some (.int v)) h') : ∀ r : Nat, ∀ (l2 : Int32) (l3 : Int32) (l4 : Int32) (h : jH), 600 - l3.toInt < (r : Int) → 0 ≤ l3.toInt ∧ l3.toInt ≤ 600 → (-1) ≤ l4.toInt ∧ l4.toInt ≤ 599 → jJ jSgX Dy h → jSm fp_X7_mentionOf_r78 h0 h → jX m_X7_mentionOf 1 0 0 5 [(0, .ref 78), (2, .int l2), (3, .int l3), (4, .int l4)] [] h 0 0 Q := by
  intro r
  induction r with
  | zero =>
    intro l2 l3 l4 h hm y0 y1   J Sm
    exfalso
    omega
  | succ r ih =>
    intro l2 l3 l4 h hm y0 y1   J Sm
    have el2 := jfull l2
    refine x_iload (x := l4) rfl rfl ?_
    refine x_iconst (v := (-1)) rfl ki_m1 ?_
    refine x_iceq (tgt := 41) rfl rfl (ti_eq rfl jk_m1 ⟨fun c1 => ?_, fun c1 => ?_⟩)
    ·
      exact jX.sub jsb_n (ct_X7_mentionOf_r78_41 hD hQ  h J Sm)
    ·
      refine x_iloadn (x := l3) rfl rfl ?_
      refine x_sipush (v := 600) rfl ks_600 ?_
      refine x_icge (tgt := 41) rfl rfl (ti_ge rfl jk_600 ⟨fun c2 => ?_, fun c2 => ?_⟩)
      ·
        exact jX.sub jsb_n (ct_X7_mentionOf_r78_41 hD hQ  h J Sm)
      ·
        refine x_iloadn (x := l3) rfl rfl ?_
        refine x_iloadn (x := l2) rfl rfl ?_
        refine x_icne (tgt := 26) rfl rfl (ti_ne rfl rfl ⟨fun c3 => ?_, fun c3 => ?_⟩)
        ·
          refine z_iinc (x := l3) (ls' := fun v4 => [(3, .int v4), (0, .ref 78), (2, .int l2), (4, .int l4)]) rfl rfl rfl jko_1 (by omega) rfl (fun _ => rfl) (fun v4 ev4 => ?_)
          refine x_aloadn (x := 78) rfl rfl ?_
          refine z_getR (N := 16) (b := 83) 7 11 rfl f_7_40 rfl J rfl 9995 ⟨rfl, rfl⟩ rfl ?_
          refine x_iload (x := l4) rfl rfl ?_
          refine z_iald (N := 600) rfl J rfl sg_83_0_600_1_0_1 rfl (by omega) (fun v5 qv5 ev5 => ?_)
          refine x_istore (ls' := [(4, .int v5), (3, .int v4), (0, .ref 78), (2, .int l2)]) rfl rfl rfl ?_
          refine x_goto (tgt := 5) rfl rfl ?_
          exact jX.sub (jsb_c rfl (jsb_c rfl (jsb_c rfl (jsb_c rfl jsb_n)))) (ih l2 v4 v5 h (by omega) (jr_of rfl (by omega)) (jr_of rfl (by omega)) J Sm)
        ·
          refine x_iload (x := l4) rfl rfl ?_
          refine x_iret rfl rfl ?_
          exact hQ _ _ (jr_of rfl (by omega)) J Sm
set_option maxRecDepth 100000 in
set_option maxHeartbeats 4000000 in
theorem sf_X7_mentionOf_r78 {Dy : jH → Prop} {h : jH} {Q : Option Value → jH → Prop} {a1 : Int32} {a2 : Int32} (y1 : 0 ≤ a1.toInt ∧ a1.toInt ≤ 599) (hD : jDk Dy) (J : jJ jSgX Dy h) (hQ : ∀ (v : Int32) h', (-1) ≤ v.toInt ∧ v.toInt ≤ 599 → jJ jSgX Dy h' → jSm fp_X7_mentionOf_r78 h h' → Q (some (.int v)) h') : jC m_X7_mentionOf 1 0 0 [.ref 78, .int a1, .int a2] h Q := by
  refine jC.of rfl k_X7_mentionOf rfl ?_
  have Sm := jSm_rf fp_X7_mentionOf_r78 h
  have ea2 := jfull a2
  show jX m_X7_mentionOf 1 0 0 0 [(0, .ref 78), (1, .int a1), (2, .int a2)] [] _ 0 0 _
  refine x_iconst (v := 0) rfl ki_0 ?_
  refine x_istoren (ls' := [(3, .int 0), (0, .ref 78), (1, .int a1), (2, .int a2)]) rfl rfl rfl ?_
  refine x_iloadn (x := a1) rfl rfl ?_
  refine x_istore (ls' := [(4, .int a1), (3, .int 0), (0, .ref 78), (1, .int a1), (2, .int a2)]) rfl rfl rfl ?_
  exact jX.sub (jsb_c rfl (jsb_c rfl (jsb_c rfl (jsb_c rfl jsb_n)))) (ct_X7_mentionOf_r78_5 hD hQ  601 a2 0 a1 h (by have := jk_0; omega) (jr_of jk_0 (by omega)) (jr_of rfl (by omega)) J Sm)
def fp_X7_sizeOf_r78 : jFp := []
set_option maxRecDepth 100000 in
set_option maxHeartbeats 4000000 in
theorem ct_X7_sizeOf_r78_29 {Dy : jH → Prop} {h0 : jH} {Q : Option Value → jH → Prop} (hD : jDk Dy) (hQ : ∀ (v : Int32) h', 0 ≤ v.toInt ∧ v.toInt ≤ 600 → jJ jSgX Dy h' → jSm fp_X7_sizeOf_r78 h0 h' → Q (some (.int v)) h') : ∀ (l2 : Int32) (h : jH), 0 ≤ l2.toInt ∧ l2.toInt ≤ 600 → jJ jSgX Dy h → jSm fp_X7_sizeOf_r78 h0 h → jX m_X7_sizeOf 1 0 0 29 [(2, .int l2)] [] h 0 0 Q := by
  intro l2 h y0   J Sm
  refine x_iloadn (x := l2) rfl rfl ?_
  refine x_iret rfl rfl ?_
  exact hQ _ _ (jr_of rfl (by omega)) J Sm
set_option maxRecDepth 100000 in
set_option maxHeartbeats 4000000 in
theorem ct_X7_sizeOf_r78_4 {Dy : jH → Prop} {h0 : jH} {Q : Option Value → jH → Prop} (hD : jDk Dy) (hQ : ∀ (v : Int32) h', 0 ≤ v.toInt ∧ v.toInt ≤ 600 → jJ jSgX Dy h' → jSm fp_X7_sizeOf_r78 h0 h' → Q (some (.int v)) h') : ∀ r : Nat, ∀ (l2 : Int32) (l3 : Int32) (h : jH), 600 - l2.toInt < (r : Int) → 0 ≤ l2.toInt ∧ l2.toInt ≤ 600 → (-1) ≤ l3.toInt ∧ l3.toInt ≤ 599 → jJ jSgX Dy h → jSm fp_X7_sizeOf_r78 h0 h → jX m_X7_sizeOf 1 0 0 4 [(0, .ref 78), (2, .int l2), (3, .int l3)] [] h 0 0 Q := by
  intro r
  induction r with
  | zero =>
    intro l2 l3 h hm y0 y1   J Sm
    exfalso
    omega
  | succ r ih =>
    intro l2 l3 h hm y0 y1   J Sm
    refine x_iloadn (x := l3) rfl rfl ?_
    refine x_iconst (v := (-1)) rfl ki_m1 ?_
    refine x_iceq (tgt := 29) rfl rfl (ti_eq rfl jk_m1 ⟨fun c1 => ?_, fun c1 => ?_⟩)
    ·
      exact jX.sub (jsb_c rfl jsb_n) (ct_X7_sizeOf_r78_29 hD hQ  l2 h (jr_of rfl (by omega)) J Sm)
    ·
      refine x_iloadn (x := l2) rfl rfl ?_
      refine x_sipush (v := 600) rfl ks_600 ?_
      refine x_icge (tgt := 29) rfl rfl (ti_ge rfl jk_600 ⟨fun c2 => ?_, fun c2 => ?_⟩)
      ·
        exact jX.sub (jsb_c rfl jsb_n) (ct_X7_sizeOf_r78_29 hD hQ  l2 h (jr_of rfl (by omega)) J Sm)
      ·
        refine z_iinc (x := l2) (ls' := fun v3 => [(2, .int v3), (0, .ref 78), (3, .int l3)]) rfl rfl rfl jko_1 (by omega) rfl (fun _ => rfl) (fun v3 ev3 => ?_)
        refine x_aloadn (x := 78) rfl rfl ?_
        refine z_getR (N := 16) (b := 83) 7 11 rfl f_7_40 rfl J rfl 9995 ⟨rfl, rfl⟩ rfl ?_
        refine x_iloadn (x := l3) rfl rfl ?_
        refine z_iald (N := 600) rfl J rfl sg_83_0_600_1_0_1 rfl (by omega) (fun v4 qv4 ev4 => ?_)
        refine x_istoren (ls' := [(3, .int v4), (2, .int v3), (0, .ref 78)]) rfl rfl rfl ?_
        refine x_goto (tgt := 4) rfl rfl ?_
        exact jX.sub (jsb_c rfl (jsb_c rfl (jsb_c rfl jsb_n))) (ih v3 v4 h (by omega) (jr_of rfl (by omega)) (jr_of rfl (by omega)) J Sm)
set_option maxRecDepth 100000 in
set_option maxHeartbeats 4000000 in
theorem sf_X7_sizeOf_r78 {Dy : jH → Prop} {h : jH} {Q : Option Value → jH → Prop} {a1 : Int32} (y1 : 0 ≤ a1.toInt ∧ a1.toInt ≤ 599) (hD : jDk Dy) (J : jJ jSgX Dy h) (hQ : ∀ (v : Int32) h', 0 ≤ v.toInt ∧ v.toInt ≤ 600 → jJ jSgX Dy h' → jSm fp_X7_sizeOf_r78 h h' → Q (some (.int v)) h') : jC m_X7_sizeOf 1 0 0 [.ref 78, .int a1] h Q := by
  refine jC.of rfl k_X7_sizeOf rfl ?_
  have Sm := jSm_rf fp_X7_sizeOf_r78 h
  show jX m_X7_sizeOf 1 0 0 0 [(0, .ref 78), (1, .int a1)] [] _ 0 0 _
  refine x_iconst (v := 0) rfl ki_0 ?_
  refine x_istoren (ls' := [(2, .int 0), (0, .ref 78), (1, .int a1)]) rfl rfl rfl ?_
  refine x_iloadn (x := a1) rfl rfl ?_
  refine x_istoren (ls' := [(3, .int a1), (2, .int 0), (0, .ref 78), (1, .int a1)]) rfl rfl rfl ?_
  exact jX.sub (jsb_c rfl (jsb_c rfl (jsb_c rfl jsb_n))) (ct_X7_sizeOf_r78_4 hD hQ  601 0 a1 h (by have := jk_0; omega) (jr_of jk_0 (by omega)) (jr_of rfl (by omega)) J Sm)
def fp_X11_mentions_r31 : jFp := [(78, 13, 14), (82, 0, 600), (83, 0, 600), (84, 0, 200), (86, 0, 3)]
set_option maxRecDepth 100000 in
set_option maxHeartbeats 4000000 in
theorem ct_X11_mentions_r31_50 {Dy : jH → Prop} {h0 : jH} {Q : Option Value → jH → Prop} (hD : jDk Dy) (hQ : ∀ (v : Int32) h', (-1) ≤ v.toInt ∧ v.toInt ≤ 600 → jJ jSgX Dy h' → jSm fp_X11_mentions_r31 h0 h' → Q (some (.int v)) h') : ∀ (s0 : Int32) (h : jH), (-1) ≤ s0.toInt ∧ s0.toInt ≤ 599 → jJ jSgX Dy h → jSm fp_X11_mentions_r31 h0 h → jX m_X11_mentions 8 0 0 50 [] [.int s0] h 0 0 Q := by
  intro s0 h y0   J Sm
  refine x_iret rfl rfl ?_
  exact hQ _ _ (jr_of rfl (by omega)) J Sm
set_option maxRecDepth 100000 in
set_option maxHeartbeats 4000000 in
theorem sf_X11_mentions_r31 {Dy : jH → Prop} {h : jH} {Q : Option Value → jH → Prop} {a1 : Int32} {a2 : Int32} {a3 : Int32} {a4 : Int32} (hD : jDk Dy) (J : jJ jSgX Dy h) (hQ : ∀ (v : Int32) h', (-1) ≤ v.toInt ∧ v.toInt ≤ 600 → jJ jSgX Dy h' → jSm fp_X11_mentions_r31 h h' → Q (some (.int v)) h') : jC m_X11_mentions 8 0 0 [.ref 31, .int a1, .int a2, .int a3, .int a4] h Q := by
  refine jC.of rfl k_X11_mentions rfl ?_
  have Sm := jSm_rf fp_X11_mentions_r31 h
  have ea1 := jfull a1
  have ea2 := jfull a2
  have ea3 := jfull a3
  have ea4 := jfull a4
  show jX m_X11_mentions 8 0 0 0 [(0, .ref 31), (1, .int a1), (2, .int a2), (3, .int a3), (4, .int a4)] [] _ 0 0 _
  refine x_aloadn (x := 31) rfl rfl ?_
  refine x_iloadn (x := a1) rfl rfl ?_
  refine x_iloadn (x := a2) rfl rfl ?_
  refine x_inv (N := m_X11_soulOn) (As := [.int a1, .int a2]) (b := 31) (st := []) (d' := 7) (mc := 0) (ms := 0) (host := "") 11 rfl t_X11_soulOn ⟨Or.inl q_11_234, i_X11_soulOn.1, i_X11_soulOn.2⟩ ⟨by decide, rfl⟩ (congrArg Prod.fst (J.1.1 31 (11, 13) rfl)) rfl (by decide) rfl rfl ⟨by decide, by decide⟩ (jC.of rfl k_X11_soulOn rfl ?_)
  show jX m_X11_soulOn 7 0 0 0 [(0, .ref 31), (1, .int a1), (2, .int a2)] [] _ 0 0 _
  refine x_iloadn (x := a2) rfl rfl ?_
  refine x_inst (N := m_X11_isDay) (As := [.int a2]) (st := []) (d' := 1) (mc := 0) (ms := 0) (host := "") rfl t_X11_isDay ⟨Or.inl q_11_115, s_X11_isDay⟩ rfl (by decide) rfl rfl ⟨by decide, by decide⟩ (zc_X11_isDay rfl (fun v1 ev1 => ?_))
  show jX m_X11_soulOn 7 0 0 4 [(0, .ref 31), (1, .int a1), (2, .int a2)] [.int v1] _ 0 0 _
  refine x_ifeq (tgt := 18) rfl rfl (ti_eq rfl jk_0 ⟨fun c2 => ?_, fun c2 => ?_⟩)
  ·
    refine x_iconst (v := (-1)) rfl ki_m1 ?_
    refine x_iret rfl rfl ?_
    show jX m_X11_mentions 8 0 0 6 [(0, .ref 31), (1, .int a1), (2, .int a2), (3, .int a3), (4, .int a4)] [.int (-1)] _ 0 0 _
    refine x_istore (ls' := [(5, .int (-1)), (0, .ref 31), (1, .int a1), (2, .int a2), (3, .int a3), (4, .int a4)]) rfl rfl rfl ?_
    refine x_iload (x := (-1)) rfl rfl ?_
    refine x_iconst (v := (-1)) rfl ki_m1 ?_
    refine x_icne (tgt := 16) rfl rfl (ti_ne jk_m1 jk_m1 (bn_f (by omega) ?_))
    refine x_iconst (v := (-1)) rfl ki_m1 ?_
    refine x_iret rfl rfl ?_
    exact hQ _ _ (jr_of jk_m1 (by omega)) J Sm
  ·
    refine x_aloadn (x := 31) rfl rfl ?_
    refine z_getR (N := 13) (b := 78) 11 4 rfl f_11_41 rfl J rfl 3972 ⟨rfl, rfl⟩ rfl ?_
    refine x_iloadn (x := a1) rfl rfl ?_
    refine x_inv (N := m_X7_isMention) (As := [.int a1]) (b := 78) (st := []) (d' := 6) (mc := 0) (ms := 0) (host := "") 7 rfl t_X7_isMention ⟨Or.inl q_11_187, i_X7_isMention.1, i_X7_isMention.2⟩ ⟨by decide, rfl⟩ (congrArg Prod.fst (J.1.1 78 (7, 16) rfl)) rfl (by decide) rfl rfl ⟨by decide, by decide⟩ (jC.of rfl k_X7_isMention rfl ?_)
    show jX m_X7_isMention 6 0 0 0 [(0, .ref 78), (1, .int a1)] [] _ 0 0 _
    refine x_iloadn (x := a1) rfl rfl ?_
    refine x_iflt (tgt := 41) rfl rfl (ti_lt rfl jk_0 ⟨fun c3 => ?_, fun c3 => ?_⟩)
    ·
      refine x_iconst (v := 0) rfl ki_0 ?_
      refine x_zret rfl rfl (by decide) ?_
      show jX m_X11_soulOn 7 0 0 15 [(0, .ref 31), (1, .int a1), (2, .int a2)] [.int 0] _ 0 0 _
      refine x_ifne (tgt := 20) rfl rfl (ti_ne jk_0 jk_0 (bn_f (by omega) ?_))
      refine x_iconst (v := (-1)) rfl ki_m1 ?_
      refine x_iret rfl rfl ?_
      show jX m_X11_mentions 8 0 0 6 [(0, .ref 31), (1, .int a1), (2, .int a2), (3, .int a3), (4, .int a4)] [.int (-1)] _ 0 0 _
      refine x_istore (ls' := [(5, .int (-1)), (0, .ref 31), (1, .int a1), (2, .int a2), (3, .int a3), (4, .int a4)]) rfl rfl rfl ?_
      refine x_iload (x := (-1)) rfl rfl ?_
      refine x_iconst (v := (-1)) rfl ki_m1 ?_
      refine x_icne (tgt := 16) rfl rfl (ti_ne jk_m1 jk_m1 (bn_f (by omega) ?_))
      refine x_iconst (v := (-1)) rfl ki_m1 ?_
      refine x_iret rfl rfl ?_
      exact hQ _ _ (jr_of jk_m1 (by omega)) J Sm
    ·
      refine x_iloadn (x := a1) rfl rfl ?_
      refine x_sipush (v := 600) rfl ks_600 ?_
      refine x_icge (tgt := 41) rfl rfl (ti_ge rfl jk_600 ⟨fun c4 => ?_, fun c4 => ?_⟩)
      ·
        refine x_iconst (v := 0) rfl ki_0 ?_
        refine x_zret rfl rfl (by decide) ?_
        show jX m_X11_soulOn 7 0 0 15 [(0, .ref 31), (1, .int a1), (2, .int a2)] [.int 0] _ 0 0 _
        refine x_ifne (tgt := 20) rfl rfl (ti_ne jk_0 jk_0 (bn_f (by omega) ?_))
        refine x_iconst (v := (-1)) rfl ki_m1 ?_
        refine x_iret rfl rfl ?_
        show jX m_X11_mentions 8 0 0 6 [(0, .ref 31), (1, .int a1), (2, .int a2), (3, .int a3), (4, .int a4)] [.int (-1)] _ 0 0 _
        refine x_istore (ls' := [(5, .int (-1)), (0, .ref 31), (1, .int a1), (2, .int a2), (3, .int a3), (4, .int a4)]) rfl rfl rfl ?_
        refine x_iload (x := (-1)) rfl rfl ?_
        refine x_iconst (v := (-1)) rfl ki_m1 ?_
        refine x_icne (tgt := 16) rfl rfl (ti_ne jk_m1 jk_m1 (bn_f (by omega) ?_))
        refine x_iconst (v := (-1)) rfl ki_m1 ?_
        refine x_iret rfl rfl ?_
        exact hQ _ _ (jr_of jk_m1 (by omega)) J Sm
      ·
        refine x_iloadn (x := a1) rfl rfl ?_
        refine x_iconst (v := 3) rfl ki_3 ?_
        refine z_idiv rfl rfl jk_3 (by omega) (by omega) (fun v5 ev5 => ?_)
        refine x_aloadn (x := 78) rfl rfl ?_
        refine z_getR (N := 16) (b := 32) 7 0 rfl f_7_55 rfl J rfl 9984 ⟨rfl, rfl⟩ rfl ?_
        refine z_getR (N := 20) (b := 33) 1 0 rfl f_7_63 rfl J rfl 4096 ⟨rfl, rfl⟩ rfl ?_
        refine z_getI (N := 4) 8 3 rfl f_7_85 rfl J rfl sg_33_3_4_1_0_1 (fun v6 qv6 ev6 => ?_)
        refine x_icge (tgt := 41) rfl rfl (ti_ge rfl rfl ⟨fun c7 => ?_, fun c7 => ?_⟩)
        ·
          refine x_iconst (v := 0) rfl ki_0 ?_
          refine x_zret rfl rfl (by decide) ?_
          show jX m_X11_soulOn 7 0 0 15 [(0, .ref 31), (1, .int a1), (2, .int a2)] [.int 0] _ 0 0 _
          refine x_ifne (tgt := 20) rfl rfl (ti_ne jk_0 jk_0 (bn_f (by omega) ?_))
          refine x_iconst (v := (-1)) rfl ki_m1 ?_
          refine x_iret rfl rfl ?_
          show jX m_X11_mentions 8 0 0 6 [(0, .ref 31), (1, .int a1), (2, .int a2), (3, .int a3), (4, .int a4)] [.int (-1)] _ 0 0 _
          refine x_istore (ls' := [(5, .int (-1)), (0, .ref 31), (1, .int a1), (2, .int a2), (3, .int a3), (4, .int a4)]) rfl rfl rfl ?_
          refine x_iload (x := (-1)) rfl rfl ?_
          refine x_iconst (v := (-1)) rfl ki_m1 ?_
          refine x_icne (tgt := 16) rfl rfl (ti_ne jk_m1 jk_m1 (bn_f (by omega) ?_))
          refine x_iconst (v := (-1)) rfl ki_m1 ?_
          refine x_iret rfl rfl ?_
          exact hQ _ _ (jr_of jk_m1 (by omega)) J Sm
        ·
          refine x_aloadn (x := 78) rfl rfl ?_
          refine z_getR (N := 16) (b := 79) 7 7 rfl f_7_27 rfl J rfl 9991 ⟨rfl, rfl⟩ rfl ?_
          refine x_iloadn (x := a1) rfl rfl ?_
          refine z_iald (N := 600) rfl J rfl sg_79_0_600_1_0_1 rfl (by omega) (fun v8 qv8 ev8 => ?_)
          refine x_iconst (v := (-1)) rfl ki_m1 ?_
          refine x_iceq (tgt := 41) rfl rfl (ti_eq rfl jk_m1 ⟨fun c9 => ?_, fun c9 => ?_⟩)
          ·
            refine x_iconst (v := 0) rfl ki_0 ?_
            refine x_zret rfl rfl (by decide) ?_
            show jX m_X11_soulOn 7 0 0 15 [(0, .ref 31), (1, .int a1), (2, .int a2)] [.int 0] _ 0 0 _
            refine x_ifne (tgt := 20) rfl rfl (ti_ne jk_0 jk_0 (bn_f (by omega) ?_))
            refine x_iconst (v := (-1)) rfl ki_m1 ?_
            refine x_iret rfl rfl ?_
            show jX m_X11_mentions 8 0 0 6 [(0, .ref 31), (1, .int a1), (2, .int a2), (3, .int a3), (4, .int a4)] [.int (-1)] _ 0 0 _
            refine x_istore (ls' := [(5, .int (-1)), (0, .ref 31), (1, .int a1), (2, .int a2), (3, .int a3), (4, .int a4)]) rfl rfl rfl ?_
            refine x_iload (x := (-1)) rfl rfl ?_
            refine x_iconst (v := (-1)) rfl ki_m1 ?_
            refine x_icne (tgt := 16) rfl rfl (ti_ne jk_m1 jk_m1 (bn_f (by omega) ?_))
            refine x_iconst (v := (-1)) rfl ki_m1 ?_
            refine x_iret rfl rfl ?_
            exact hQ _ _ (jr_of jk_m1 (by omega)) J Sm
          ·
            refine x_iconst (v := 1) rfl ki_1 ?_
            refine x_goto (tgt := 42) rfl rfl ?_
            refine x_zret rfl rfl (by decide) ?_
            show jX m_X11_soulOn 7 0 0 15 [(0, .ref 31), (1, .int a1), (2, .int a2)] [.int 1] _ 0 0 _
            refine x_ifne (tgt := 20) rfl rfl (ti_ne jk_1 jk_0 (bn_t (by omega) ?_))
            refine x_aloadn (x := 31) rfl rfl ?_
            refine z_getR (N := 13) (b := 78) 11 4 rfl f_11_41 rfl J rfl 3972 ⟨rfl, rfl⟩ rfl ?_
            refine x_iloadn (x := a2) rfl rfl ?_
            refine x_inv (N := m_X7_asKnown) (As := [.int a2]) (b := 78) (st := []) (d' := 6) (mc := 0) (ms := 0) (host := "") 7 rfl t_X7_asKnown ⟨Or.inl q_11_240, i_X7_asKnown.1, i_X7_asKnown.2⟩ ⟨by decide, rfl⟩ (congrArg Prod.fst (J.1.1 78 (7, 16) rfl)) rfl (by decide) rfl rfl ⟨by decide, by decide⟩ (sf_X7_asKnown_r78 (jr_of rfl (by omega)) hD J  (fun h J S10 => ?_))
            have Sm := jSm_tr rfl Sm S10
            show jX m_X11_soulOn 7 0 0 28 [(0, .ref 31), (1, .int a1), (2, .int a2)] [] _ 0 0 _
            refine x_aloadn (x := 31) rfl rfl ?_
            refine z_getR (N := 13) (b := 78) 11 4 rfl f_11_41 rfl J rfl 3972 ⟨rfl, rfl⟩ rfl ?_
            refine z_getR (N := 16) (b := 82) 7 10 rfl f_11_537 rfl J rfl 9994 ⟨rfl, rfl⟩ rfl ?_
            refine x_iloadn (x := a1) rfl rfl ?_
            refine z_iald (N := 600) rfl J rfl sg_82_0_600_1_0_1 rfl (by omega) (fun v11 qv11 ev11 => ?_)
            refine x_iret rfl rfl ?_
            show jX m_X11_mentions 8 0 0 6 [(0, .ref 31), (1, .int a1), (2, .int a2), (3, .int a3), (4, .int a4)] [.int v11] _ 0 0 _
            refine x_istore (ls' := [(5, .int v11), (0, .ref 31), (1, .int a1), (2, .int a2), (3, .int a3), (4, .int a4)]) rfl rfl rfl ?_
            refine x_iload (x := v11) rfl rfl ?_
            refine x_iconst (v := (-1)) rfl ki_m1 ?_
            refine x_icne (tgt := 16) rfl rfl (ti_ne rfl jk_m1 ⟨fun c12 => ?_, fun c12 => ?_⟩)
            ·
              refine x_iloadn (x := a3) rfl rfl ?_
              refine x_ifne (tgt := 30) rfl rfl (ti_ne rfl jk_0 ⟨fun c13 => ?_, fun c13 => ?_⟩)
              ·
                refine x_iloadn (x := a3) rfl rfl ?_
                refine x_iconst (v := 1) rfl ki_1 ?_
                refine x_icne (tgt := 49) rfl rfl (ti_ne rfl jk_1 ⟨fun c14 => ?_, fun c14 => ?_⟩)
                ·
                  refine x_iconst (v := (-1)) rfl ki_m1 ?_
                  exact jX.sub jsb_n (ct_X11_mentions_r31_50 hD hQ  (-1) h (jr_of jk_m1 (by omega)) J Sm)
                ·
                  refine x_aloadn (x := 31) rfl rfl ?_
                  refine z_getR (N := 13) (b := 78) 11 4 rfl f_11_41 rfl J rfl 3972 ⟨rfl, rfl⟩ rfl ?_
                  refine x_iload (x := v11) rfl rfl ?_
                  refine x_iload (x := a4) rfl rfl ?_
                  refine x_inv (N := m_X7_mentionOf) (As := [.int v11, .int a4]) (b := 78) (st := []) (d' := 1) (mc := 0) (ms := 0) (host := "") 7 rfl t_X7_mentionOf ⟨Or.inl q_11_252, i_X7_mentionOf.1, i_X7_mentionOf.2⟩ ⟨by decide, rfl⟩ (congrArg Prod.fst (J.1.1 78 (7, 16) rfl)) rfl (by decide) rfl rfl ⟨by decide, by decide⟩ (sf_X7_mentionOf_r78 (jr_of rfl (by omega)) hD J  (fun v16 h ev16 J S15 => ?_))
                  have Sm := jSm_tr rfl Sm S15
                  show jX m_X11_mentions 8 0 0 46 [(5, .int v11), (0, .ref 31), (1, .int a1), (2, .int a2), (3, .int a3), (4, .int a4)] [.int v16] _ 0 0 _
                  refine x_goto (tgt := 50) rfl rfl ?_
                  exact jX.sub jsb_n (ct_X11_mentions_r31_50 hD hQ  v16 h (jr_of rfl (by omega)) J Sm)
              ·
                refine x_aloadn (x := 31) rfl rfl ?_
                refine z_getR (N := 13) (b := 78) 11 4 rfl f_11_41 rfl J rfl 3972 ⟨rfl, rfl⟩ rfl ?_
                refine x_iload (x := v11) rfl rfl ?_
                refine x_inv (N := m_X7_sizeOf) (As := [.int v11]) (b := 78) (st := []) (d' := 1) (mc := 0) (ms := 0) (host := "") 7 rfl t_X7_sizeOf ⟨Or.inl q_11_249, i_X7_sizeOf.1, i_X7_sizeOf.2⟩ ⟨by decide, rfl⟩ (congrArg Prod.fst (J.1.1 78 (7, 16) rfl)) rfl (by decide) rfl rfl ⟨by decide, by decide⟩ (sf_X7_sizeOf_r78 (jr_of rfl (by omega)) hD J  (fun v18 h ev18 J S17 => ?_))
                have Sm := jSm_tr rfl Sm S17
                show jX m_X11_mentions 8 0 0 29 [(5, .int v11), (0, .ref 31), (1, .int a1), (2, .int a2), (3, .int a3), (4, .int a4)] [.int v18] _ 0 0 _
                refine x_iret rfl rfl ?_
                exact hQ _ _ (jr_of rfl (by omega)) J Sm
            ·
              refine x_iconst (v := (-1)) rfl ki_m1 ?_
              refine x_iret rfl rfl ?_
              exact hQ _ _ (jr_of jk_m1 (by omega)) J Sm
def fp_X11_name_r31 : jFp := []
set_option maxRecDepth 100000 in
set_option maxHeartbeats 4000000 in
theorem ct_X11_name_r31_25 {Dy : jH → Prop} {h0 : jH} {Q : Option Value → jH → Prop} (hD : jDk Dy) (hQ : ∀ (v : Int32) h', (-1) ≤ v.toInt ∧ v.toInt ≤ 0 → jJ jSgX Dy h' → jSm fp_X11_name_r31 h0 h' → Q (some (.int v)) h') : ∀ (h : jH), jJ jSgX Dy h → jSm fp_X11_name_r31 h0 h → jX m_X11_name 2 0 0 25 [] [] h 0 0 Q := by
  intro  h    J Sm
  refine x_iconst (v := (-1)) rfl ki_m1 ?_
  refine x_iret rfl rfl ?_
  exact hQ _ _ (jr_of jk_m1 (by omega)) J Sm
set_option maxRecDepth 100000 in
set_option maxHeartbeats 4000000 in
theorem ct_X11_name_r31_70 {Dy : jH → Prop} {h0 : jH} {Q : Option Value → jH → Prop} (hD : jDk Dy) (hQ : ∀ (v : Int32) h', (-1) ≤ v.toInt ∧ v.toInt ≤ 0 → jJ jSgX Dy h' → jSm fp_X11_name_r31 h0 h' → Q (some (.int v)) h') : ∀ (s0 : Int32) (h : jH), (-1) ≤ s0.toInt ∧ s0.toInt ≤ (-1) → jJ jSgX Dy h → jSm fp_X11_name_r31 h0 h → jX m_X11_name 2 0 0 70 [] [.int s0] h 0 0 Q := by
  intro s0 h y0   J Sm
  refine x_iret rfl rfl ?_
  exact hQ _ _ (jr_of rfl (by omega)) J Sm
set_option maxRecDepth 100000 in
set_option maxHeartbeats 4000000 in
theorem sf_X11_name_r31 {Dy : jH → Prop} {h : jH} {Q : Option Value → jH → Prop} {a1 : Int32} {a2 : Int32} {a3 : Int32} (hD : jDk Dy) (J : jJ jSgX Dy h) (hQ : ∀ (v : Int32) h', (-1) ≤ v.toInt ∧ v.toInt ≤ 0 → jJ jSgX Dy h' → jSm fp_X11_name_r31 h h' → Q (some (.int v)) h') : jC m_X11_name 2 0 0 [.ref 31, .int a1, .int a2, .int a3] h Q := by
  refine jC.of rfl k_X11_name rfl ?_
  have Sm := jSm_rf fp_X11_name_r31 h
  have ea1 := jfull a1
  have ea2 := jfull a2
  have ea3 := jfull a3
  show jX m_X11_name 2 0 0 0 [(0, .ref 31), (1, .int a1), (2, .int a2), (3, .int a3)] [] _ 0 0 _
  refine x_aloadn (x := 31) rfl rfl ?_
  refine z_getR (N := 13) (b := 78) 11 4 rfl f_11_41 rfl J rfl 3972 ⟨rfl, rfl⟩ rfl ?_
  refine x_iloadn (x := a1) rfl rfl ?_
  refine x_inv (N := m_X7_isMention) (As := [.int a1]) (b := 78) (st := []) (d' := 1) (mc := 0) (ms := 0) (host := "") 7 rfl t_X7_isMention ⟨Or.inl q_11_187, i_X7_isMention.1, i_X7_isMention.2⟩ ⟨by decide, rfl⟩ (congrArg Prod.fst (J.1.1 78 (7, 16) rfl)) rfl (by decide) rfl rfl ⟨by decide, by decide⟩ (jC.of rfl k_X7_isMention rfl ?_)
  show jX m_X7_isMention 1 0 0 0 [(0, .ref 78), (1, .int a1)] [] _ 0 0 _
  refine x_iloadn (x := a1) rfl rfl ?_
  refine x_iflt (tgt := 41) rfl rfl (ti_lt rfl jk_0 ⟨fun c1 => ?_, fun c1 => ?_⟩)
  ·
    refine x_iconst (v := 0) rfl ki_0 ?_
    refine x_zret rfl rfl (by decide) ?_
    show jX m_X11_name 2 0 0 8 [(0, .ref 31), (1, .int a1), (2, .int a2), (3, .int a3)] [.int 0] _ 0 0 _
    refine x_ifeq (tgt := 25) rfl rfl (ti_eq jk_0 jk_0 (br_t (by omega) ?_))
    exact jX.sub jsb_n (ct_X11_name_r31_25 hD hQ  h J Sm)
  ·
    refine x_iloadn (x := a1) rfl rfl ?_
    refine x_sipush (v := 600) rfl ks_600 ?_
    refine x_icge (tgt := 41) rfl rfl (ti_ge rfl jk_600 ⟨fun c2 => ?_, fun c2 => ?_⟩)
    ·
      refine x_iconst (v := 0) rfl ki_0 ?_
      refine x_zret rfl rfl (by decide) ?_
      show jX m_X11_name 2 0 0 8 [(0, .ref 31), (1, .int a1), (2, .int a2), (3, .int a3)] [.int 0] _ 0 0 _
      refine x_ifeq (tgt := 25) rfl rfl (ti_eq jk_0 jk_0 (br_t (by omega) ?_))
      exact jX.sub jsb_n (ct_X11_name_r31_25 hD hQ  h J Sm)
    ·
      refine x_iloadn (x := a1) rfl rfl ?_
      refine x_iconst (v := 3) rfl ki_3 ?_
      refine z_idiv rfl rfl jk_3 (by omega) (by omega) (fun v3 ev3 => ?_)
      refine x_aloadn (x := 78) rfl rfl ?_
      refine z_getR (N := 16) (b := 32) 7 0 rfl f_7_55 rfl J rfl 9984 ⟨rfl, rfl⟩ rfl ?_
      refine z_getR (N := 20) (b := 33) 1 0 rfl f_7_63 rfl J rfl 4096 ⟨rfl, rfl⟩ rfl ?_
      refine z_getI (N := 4) 8 3 rfl f_7_85 rfl J rfl sg_33_3_4_1_0_1 (fun v4 qv4 ev4 => ?_)
      refine x_icge (tgt := 41) rfl rfl (ti_ge rfl rfl ⟨fun c5 => ?_, fun c5 => ?_⟩)
      ·
        refine x_iconst (v := 0) rfl ki_0 ?_
        refine x_zret rfl rfl (by decide) ?_
        show jX m_X11_name 2 0 0 8 [(0, .ref 31), (1, .int a1), (2, .int a2), (3, .int a3)] [.int 0] _ 0 0 _
        refine x_ifeq (tgt := 25) rfl rfl (ti_eq jk_0 jk_0 (br_t (by omega) ?_))
        exact jX.sub jsb_n (ct_X11_name_r31_25 hD hQ  h J Sm)
      ·
        refine x_aloadn (x := 78) rfl rfl ?_
        refine z_getR (N := 16) (b := 79) 7 7 rfl f_7_27 rfl J rfl 9991 ⟨rfl, rfl⟩ rfl ?_
        refine x_iloadn (x := a1) rfl rfl ?_
        refine z_iald (N := 600) rfl J rfl sg_79_0_600_1_0_1 rfl (by omega) (fun v6 qv6 ev6 => ?_)
        refine x_iconst (v := (-1)) rfl ki_m1 ?_
        refine x_iceq (tgt := 41) rfl rfl (ti_eq rfl jk_m1 ⟨fun c7 => ?_, fun c7 => ?_⟩)
        ·
          refine x_iconst (v := 0) rfl ki_0 ?_
          refine x_zret rfl rfl (by decide) ?_
          show jX m_X11_name 2 0 0 8 [(0, .ref 31), (1, .int a1), (2, .int a2), (3, .int a3)] [.int 0] _ 0 0 _
          refine x_ifeq (tgt := 25) rfl rfl (ti_eq jk_0 jk_0 (br_t (by omega) ?_))
          exact jX.sub jsb_n (ct_X11_name_r31_25 hD hQ  h J Sm)
        ·
          refine x_iconst (v := 1) rfl ki_1 ?_
          refine x_goto (tgt := 42) rfl rfl ?_
          refine x_zret rfl rfl (by decide) ?_
          show jX m_X11_name 2 0 0 8 [(0, .ref 31), (1, .int a1), (2, .int a2), (3, .int a3)] [.int 1] _ 0 0 _
          refine x_ifeq (tgt := 25) rfl rfl (ti_eq jk_1 jk_0 (br_f (by omega) ?_))
          refine x_iloadn (x := a2) rfl rfl ?_
          refine x_iflt (tgt := 25) rfl rfl (ti_lt rfl jk_0 ⟨fun c8 => ?_, fun c8 => ?_⟩)
          ·
            exact jX.sub jsb_n (ct_X11_name_r31_25 hD hQ  h J Sm)
          ·
            refine x_iloadn (x := a2) rfl rfl ?_
            refine x_iconst (v := 1) rfl ki_1 ?_
            refine x_icgt (tgt := 25) rfl rfl (ti_gt rfl jk_1 ⟨fun c9 => ?_, fun c9 => ?_⟩)
            ·
              exact jX.sub jsb_n (ct_X11_name_r31_25 hD hQ  h J Sm)
            ·
              refine x_iloadn (x := a3) rfl rfl ?_
              refine x_iconst (v := (-1)) rfl ki_m1 ?_
              refine x_icge (tgt := 27) rfl rfl (ti_ge rfl jk_m1 ⟨fun c10 => ?_, fun c10 => ?_⟩)
              ·
                refine x_iconst (v := 0) rfl ki_0 ?_
                refine x_aloadn (x := 31) rfl rfl ?_
                refine z_getR (N := 13) (b := 70) 11 3 rfl f_11_32 rfl J rfl 3971 ⟨rfl, rfl⟩ rfl ?_
                refine x_iloadn (x := a1) rfl rfl ?_
                refine x_iloadn (x := a2) rfl rfl ?_
                refine x_inv (N := m_X5_lengthOf) (As := [.int a1, .int a2]) (b := 70) (st := [.int 0]) (d' := 1) (mc := 0) (ms := 0) (host := "") 5 rfl t_X5_lengthOf ⟨Or.inl q_11_190, i_X5_lengthOf.1, i_X5_lengthOf.2⟩ ⟨by decide, rfl⟩ (congrArg Prod.fst (J.1.1 70 (5, 9) rfl)) rfl (by decide) rfl rfl ⟨by decide, by decide⟩ (jC.of rfl k_X5_lengthOf rfl ?_)
                show jX m_X5_lengthOf 1 0 0 0 [(0, .ref 70), (1, .int a1), (2, .int a2)] [] _ 0 0 _
                refine x_iloadn (x := a1) rfl rfl ?_
                refine x_iconst (v := 2) rfl ki_2 ?_
                refine z_imul rfl rfl jk_2 (by omega) (fun v11 ev11 => ?_)
                refine x_iloadn (x := a2) rfl rfl ?_
                refine z_iadd rfl rfl rfl (by omega) (fun v12 ev12 => ?_)
                refine x_istoren (ls' := [(3, .int v12), (0, .ref 70), (1, .int a1), (2, .int a2)]) rfl rfl rfl ?_
                refine x_iloadn (x := v12) rfl rfl ?_
                refine x_iflt (tgt := 26) rfl rfl (ti_lt rfl jk_0 (br_f (by omega) ?_))
                refine x_iloadn (x := v12) rfl rfl ?_
                refine x_sipush (v := 1200) rfl ks_1200 ?_
                refine x_icge (tgt := 26) rfl rfl (ti_ge rfl jk_1200 (br_f (by omega) ?_))
                refine x_aloadn (x := 70) rfl rfl ?_
                refine z_getR (N := 9) (b := 76) 5 7 rfl f_5_28 rfl J rfl 8967 ⟨rfl, rfl⟩ rfl ?_
                refine x_iloadn (x := v12) rfl rfl ?_
                refine z_iald (N := 1200) rfl J rfl sg_76_0_1200_1_0_1 rfl (by omega) (fun v13 qv13 ev13 => ?_)
                refine x_goto (tgt := 27) rfl rfl ?_
                refine x_iret rfl rfl ?_
                show jX m_X11_name 2 0 0 37 [(0, .ref 31), (1, .int a1), (2, .int a2), (3, .int a3)] [.int v13, .int 0] _ 0 0 _
                refine z_mmax rfl q_11_193 (by decide) rfl jk_0 rfl (fun v14 ev14 => ?_)
                refine x_istore (ls' := [(4, .int v14), (0, .ref 31), (1, .int a1), (2, .int a2), (3, .int a3)]) rfl rfl rfl ?_
                refine x_iloadn (x := a3) rfl rfl ?_
                refine x_iconst (v := (-1)) rfl ki_m1 ?_
                refine x_icne (tgt := 50) rfl rfl (ti_ne rfl jk_m1 ⟨fun c15 => ?_, fun c15 => ?_⟩)
                ·
                  refine x_iloadn (x := a3) rfl rfl ?_
                  refine x_iload (x := v14) rfl rfl ?_
                  refine x_icge (tgt := 69) rfl rfl (ti_ge rfl rfl (br_t (by omega) ?_))
                  refine x_iconst (v := (-1)) rfl ki_m1 ?_
                  exact jX.sub jsb_n (ct_X11_name_r31_70 hD hQ  (-1) h (jr_of jk_m1 (by omega)) J Sm)
                ·
                  refine x_iload (x := v14) rfl rfl ?_
                  refine x_iret rfl rfl ?_
                  exact hQ _ _ (jr_of rfl (by omega)) J Sm
              ·
                exact jX.sub jsb_n (ct_X11_name_r31_25 hD hQ  h J Sm)
def fp_X8_at_r33_c3 : jFp := []
set_option maxRecDepth 100000 in
set_option maxHeartbeats 4000000 in
theorem ct_X8_at_r33_c3_24 {Dy : jH → Prop} {h0 : jH} {Q : Option Value → jH → Prop} (hD : jDk Dy) (hQ : ∀ (v : Int32) h', 0 ≤ v.toInt ∧ v.toInt ≤ 15 → jJ jSgX Dy h' → jSm fp_X8_at_r33_c3 h0 h' → Q (some (.int v)) h') : ∀ (h : jH), jJ jSgX Dy h → jSm fp_X8_at_r33_c3 h0 h → jX m_X8_at 1 0 0 24 [] [] h 0 0 Q := by
  intro  h    J Sm
  refine x_iconst (v := 0) rfl ki_0 ?_
  refine x_iret rfl rfl ?_
  exact hQ _ _ (jr_of jk_0 (by omega)) J Sm
set_option maxRecDepth 100000 in
set_option maxHeartbeats 4000000 in
theorem sf_X8_at_r33_c3 {Dy : jH → Prop} {h : jH} {Q : Option Value → jH → Prop} {a1 : Int32} (y1 : 0 ≤ a1.toInt ∧ a1.toInt ≤ 199) (hD : jDk Dy) (J : jJ jSgX Dy h) (hQ : ∀ (v : Int32) h', 0 ≤ v.toInt ∧ v.toInt ≤ 15 → jJ jSgX Dy h' → jSm fp_X8_at_r33_c3 h h' → Q (some (.int v)) h') : jC m_X8_at 1 0 0 [.ref 33, .int a1, .int 3] h Q := by
  refine jC.of rfl k_X8_at rfl ?_
  have Sm := jSm_rf fp_X8_at_r33_c3 h
  show jX m_X8_at 1 0 0 0 [(0, .ref 33), (1, .int a1), (2, .int 3)] [] _ 0 0 _
  refine x_iloadn (x := a1) rfl rfl ?_
  refine x_iflt (tgt := 24) rfl rfl (ti_lt rfl jk_0 (br_f (by omega) ?_))
  refine x_iloadn (x := a1) rfl rfl ?_
  refine x_aloadn (x := 33) rfl rfl ?_
  refine z_getI (N := 4) 8 3 rfl f_8_7 rfl J rfl sg_33_3_4_1_0_1 (fun v1 qv1 ev1 => ?_)
  refine x_icge (tgt := 24) rfl rfl (ti_ge rfl rfl ⟨fun c2 => ?_, fun c2 => ?_⟩)
  ·
    exact jX.sub jsb_n (ct_X8_at_r33_c3_24 hD hQ  h J Sm)
  ·
    refine x_iloadn (x := 3) rfl rfl ?_
    refine x_iflt (tgt := 24) rfl rfl (ti_lt jk_3 jk_0 (br_f (by omega) ?_))
    refine x_iloadn (x := 3) rfl rfl ?_
    refine x_aloadn (x := 33) rfl rfl ?_
    refine z_getC (N := 4) (v := 6) 8 0 rfl f_8_19 rfl J rfl sg_33_0_1_1_0_1 jk_6 ?_
    refine x_iclt (tgt := 26) rfl rfl (ti_lt jk_3 jk_6 (br_t (by omega) ?_))
    refine x_aloadn (x := 33) rfl rfl ?_
    refine z_getR (N := 4) (b := 34) 8 2 rfl f_8_25 rfl J rfl 4226 ⟨rfl, rfl⟩ rfl ?_
    refine x_iloadn (x := a1) rfl rfl ?_
    refine x_aloadn (x := 33) rfl rfl ?_
    refine z_getC (N := 4) (v := 6) 8 0 rfl f_8_19 rfl J rfl sg_33_0_1_1_0_1 jk_6 ?_
    refine z_imul rfl rfl jk_6 (by omega) (fun v3 ev3 => ?_)
    refine x_iloadn (x := 3) rfl rfl ?_
    refine z_iadd rfl rfl jk_3 (by omega) (fun v4 ev4 => ?_)
    refine z_iald (N := 1200) rfl J rfl sg_34_0_1200_6_3_4 rfl (by omega) (fun v5 qv5 ev5 => ?_)
    refine x_iret rfl rfl ?_
    exact hQ _ _ (jr_of rfl (by omega)) J Sm
def fp_X8_at_r33_c5 : jFp := []
set_option maxRecDepth 100000 in
set_option maxHeartbeats 4000000 in
theorem ct_X8_at_r33_c5_24 {Dy : jH → Prop} {h0 : jH} {Q : Option Value → jH → Prop} (hD : jDk Dy) (hQ : ∀ (v : Int32) h', 0 ≤ v.toInt ∧ v.toInt ≤ 1 → jJ jSgX Dy h' → jSm fp_X8_at_r33_c5 h0 h' → Q (some (.int v)) h') : ∀ (h : jH), jJ jSgX Dy h → jSm fp_X8_at_r33_c5 h0 h → jX m_X8_at 1 0 0 24 [] [] h 0 0 Q := by
  intro  h    J Sm
  refine x_iconst (v := 0) rfl ki_0 ?_
  refine x_iret rfl rfl ?_
  exact hQ _ _ (jr_of jk_0 (by omega)) J Sm
set_option maxRecDepth 100000 in
set_option maxHeartbeats 4000000 in
theorem sf_X8_at_r33_c5 {Dy : jH → Prop} {h : jH} {Q : Option Value → jH → Prop} {a1 : Int32} (y1 : 0 ≤ a1.toInt ∧ a1.toInt ≤ 199) (hD : jDk Dy) (J : jJ jSgX Dy h) (hQ : ∀ (v : Int32) h', 0 ≤ v.toInt ∧ v.toInt ≤ 1 → jJ jSgX Dy h' → jSm fp_X8_at_r33_c5 h h' → Q (some (.int v)) h') : jC m_X8_at 1 0 0 [.ref 33, .int a1, .int 5] h Q := by
  refine jC.of rfl k_X8_at rfl ?_
  have Sm := jSm_rf fp_X8_at_r33_c5 h
  show jX m_X8_at 1 0 0 0 [(0, .ref 33), (1, .int a1), (2, .int 5)] [] _ 0 0 _
  refine x_iloadn (x := a1) rfl rfl ?_
  refine x_iflt (tgt := 24) rfl rfl (ti_lt rfl jk_0 (br_f (by omega) ?_))
  refine x_iloadn (x := a1) rfl rfl ?_
  refine x_aloadn (x := 33) rfl rfl ?_
  refine z_getI (N := 4) 8 3 rfl f_8_7 rfl J rfl sg_33_3_4_1_0_1 (fun v1 qv1 ev1 => ?_)
  refine x_icge (tgt := 24) rfl rfl (ti_ge rfl rfl ⟨fun c2 => ?_, fun c2 => ?_⟩)
  ·
    exact jX.sub jsb_n (ct_X8_at_r33_c5_24 hD hQ  h J Sm)
  ·
    refine x_iloadn (x := 5) rfl rfl ?_
    refine x_iflt (tgt := 24) rfl rfl (ti_lt jk_5 jk_0 (br_f (by omega) ?_))
    refine x_iloadn (x := 5) rfl rfl ?_
    refine x_aloadn (x := 33) rfl rfl ?_
    refine z_getC (N := 4) (v := 6) 8 0 rfl f_8_19 rfl J rfl sg_33_0_1_1_0_1 jk_6 ?_
    refine x_iclt (tgt := 26) rfl rfl (ti_lt jk_5 jk_6 (br_t (by omega) ?_))
    refine x_aloadn (x := 33) rfl rfl ?_
    refine z_getR (N := 4) (b := 34) 8 2 rfl f_8_25 rfl J rfl 4226 ⟨rfl, rfl⟩ rfl ?_
    refine x_iloadn (x := a1) rfl rfl ?_
    refine x_aloadn (x := 33) rfl rfl ?_
    refine z_getC (N := 4) (v := 6) 8 0 rfl f_8_19 rfl J rfl sg_33_0_1_1_0_1 jk_6 ?_
    refine z_imul rfl rfl jk_6 (by omega) (fun v3 ev3 => ?_)
    refine x_iloadn (x := 5) rfl rfl ?_
    refine z_iadd rfl rfl jk_5 (by omega) (fun v4 ev4 => ?_)
    refine z_iald (N := 1200) rfl J rfl sg_34_0_1200_6_5_6 rfl (by omega) (fun v5 qv5 ev5 => ?_)
    refine x_iret rfl rfl ?_
    exact hQ _ _ (jr_of rfl (by omega)) J Sm
def fp_X11_of_r31 : jFp := []
set_option maxRecDepth 100000 in
set_option maxHeartbeats 4000000 in
theorem sf_X11_of_r31 {Dy : jH → Prop} {h : jH} {Q : Option Value → jH → Prop} {a1 : Int32} {a2 : Int32} (hD : jDk Dy) (J : jJ jSgX Dy h) (hQ : ∀ (v : Int32) h', jJ jSgX Dy h' → jSm fp_X11_of_r31 h h' → Q (some (.int v)) h') : jC m_X11_of 3 0 0 [.ref 31, .int a1, .int a2] h Q := by
  refine jC.of rfl k_X11_of rfl ?_
  have Sm := jSm_rf fp_X11_of_r31 h
  have ea1 := jfull a1
  have ea2 := jfull a2
  show jX m_X11_of 3 0 0 0 [(0, .ref 31), (1, .int a1), (2, .int a2)] [] _ 0 0 _
  refine x_aloadn (x := 31) rfl rfl ?_
  refine x_iloadn (x := a1) rfl rfl ?_
  refine x_inv (N := m_X11_isLine) (As := [.int a1]) (b := 31) (st := []) (d' := 2) (mc := 0) (ms := 0) (host := "") 11 rfl t_X11_isLine ⟨Or.inl q_11_168, i_X11_isLine.1, i_X11_isLine.2⟩ ⟨by decide, rfl⟩ (congrArg Prod.fst (J.1.1 31 (11, 13) rfl)) rfl (by decide) rfl rfl ⟨by decide, by decide⟩ (jC.of rfl k_X11_isLine rfl ?_)
  show jX m_X11_isLine 2 0 0 0 [(0, .ref 31), (1, .int a1)] [] _ 0 0 _
  refine x_iloadn (x := a1) rfl rfl ?_
  refine x_iflt (tgt := 22) rfl rfl (ti_lt rfl jk_0 ⟨fun c1 => ?_, fun c1 => ?_⟩)
  ·
    refine x_iconst (v := 0) rfl ki_0 ?_
    refine x_zret rfl rfl (by decide) ?_
    show jX m_X11_of 3 0 0 5 [(0, .ref 31), (1, .int a1), (2, .int a2)] [.int 0] _ 0 0 _
    refine x_ifne (tgt := 11) rfl rfl (ti_ne jk_0 jk_0 (bn_f (by omega) ?_))
    refine x_bipush (v := (-2)) rfl kb_m2 ?_
    refine x_iret rfl rfl ?_
    exact hQ _ _ J Sm
  ·
    refine x_iloadn (x := a1) rfl rfl ?_
    refine x_aloadn (x := 31) rfl rfl ?_
    refine z_getR (N := 13) (b := 32) 11 0 rfl f_11_10 rfl J rfl 3968 ⟨rfl, rfl⟩ rfl ?_
    refine z_getR (N := 20) (b := 33) 1 0 rfl f_11_126 rfl J rfl 4096 ⟨rfl, rfl⟩ rfl ?_
    refine z_getI (N := 4) 8 3 rfl f_11_142 rfl J rfl sg_33_3_4_1_0_1 (fun v2 qv2 ev2 => ?_)
    refine x_icge (tgt := 22) rfl rfl (ti_ge rfl rfl ⟨fun c3 => ?_, fun c3 => ?_⟩)
    ·
      refine x_iconst (v := 0) rfl ki_0 ?_
      refine x_zret rfl rfl (by decide) ?_
      show jX m_X11_of 3 0 0 5 [(0, .ref 31), (1, .int a1), (2, .int a2)] [.int 0] _ 0 0 _
      refine x_ifne (tgt := 11) rfl rfl (ti_ne jk_0 jk_0 (bn_f (by omega) ?_))
      refine x_bipush (v := (-2)) rfl kb_m2 ?_
      refine x_iret rfl rfl ?_
      exact hQ _ _ J Sm
    ·
      refine x_iconst (v := 1) rfl ki_1 ?_
      refine x_goto (tgt := 23) rfl rfl ?_
      refine x_zret rfl rfl (by decide) ?_
      show jX m_X11_of 3 0 0 5 [(0, .ref 31), (1, .int a1), (2, .int a2)] [.int 1] _ 0 0 _
      refine x_ifne (tgt := 11) rfl rfl (ti_ne jk_1 jk_0 (bn_t (by omega) ?_))
      refine x_iloadn (x := a2) rfl rfl ?_
      by_cases c4 : a2.toInt = 0
      ·
        refine x_tableIn (tgt := 52) 0 rfl c4 (by decide) (by decide) rfl rfl ?_
        refine x_aloadn (x := 31) rfl rfl ?_
        refine z_getR (N := 13) (b := 32) 11 0 rfl f_11_10 rfl J rfl 3968 ⟨rfl, rfl⟩ rfl ?_
        refine z_getR (N := 20) (b := 33) 1 0 rfl f_11_126 rfl J rfl 4096 ⟨rfl, rfl⟩ rfl ?_
        refine x_iloadn (x := a1) rfl rfl ?_
        refine x_iconst (v := 2) rfl ki_2 ?_
        refine x_inv (N := m_X8_at) (As := [.int a1, .int 2]) (b := 33) (st := []) (d' := 1) (mc := 0) (ms := 0) (host := "") 8 rfl t_X8_at ⟨Or.inl q_11_171, i_X8_at.1, i_X8_at.2⟩ ⟨by decide, rfl⟩ (congrArg Prod.fst (J.1.1 33 (8, 4) rfl)) rfl (by decide) rfl rfl ⟨by decide, by decide⟩ (sf_X8_at_r33_c2  hD J  (fun v6 h ev6 J S5 => ?_))
        have Sm := jSm_tr rfl Sm S5
        show jX m_X11_of 3 0 0 64 [(0, .ref 31), (1, .int a1), (2, .int a2)] [.int v6] _ 0 0 _
        refine x_iret rfl rfl ?_
        exact hQ _ _ J Sm
      by_cases c7 : a2.toInt = 1
      ·
        refine x_tableIn (tgt := 65) 1 rfl c7 (by decide) (by decide) rfl rfl ?_
        refine x_aloadn (x := 31) rfl rfl ?_
        refine z_getR (N := 13) (b := 32) 11 0 rfl f_11_10 rfl J rfl 3968 ⟨rfl, rfl⟩ rfl ?_
        refine z_getR (N := 20) (b := 33) 1 0 rfl f_11_126 rfl J rfl 4096 ⟨rfl, rfl⟩ rfl ?_
        refine x_iloadn (x := a1) rfl rfl ?_
        refine x_iconst (v := 3) rfl ki_3 ?_
        refine x_inv (N := m_X8_at) (As := [.int a1, .int 3]) (b := 33) (st := []) (d' := 1) (mc := 0) (ms := 0) (host := "") 8 rfl t_X8_at ⟨Or.inl q_11_171, i_X8_at.1, i_X8_at.2⟩ ⟨by decide, rfl⟩ (congrArg Prod.fst (J.1.1 33 (8, 4) rfl)) rfl (by decide) rfl rfl ⟨by decide, by decide⟩ (sf_X8_at_r33_c3 (jr_of rfl (by omega)) hD J  (fun v9 h ev9 J S8 => ?_))
        have Sm := jSm_tr rfl Sm S8
        show jX m_X11_of 3 0 0 77 [(0, .ref 31), (1, .int a1), (2, .int a2)] [.int v9] _ 0 0 _
        refine x_iret rfl rfl ?_
        exact hQ _ _ J Sm
      by_cases c10 : a2.toInt = 2
      ·
        refine x_tableIn (tgt := 78) 2 rfl c10 (by decide) (by decide) rfl rfl ?_
        refine x_aloadn (x := 31) rfl rfl ?_
        refine z_getR (N := 13) (b := 32) 11 0 rfl f_11_10 rfl J rfl 3968 ⟨rfl, rfl⟩ rfl ?_
        refine z_getR (N := 20) (b := 33) 1 0 rfl f_11_126 rfl J rfl 4096 ⟨rfl, rfl⟩ rfl ?_
        refine x_iloadn (x := a1) rfl rfl ?_
        refine x_iconst (v := 1) rfl ki_1 ?_
        refine x_inv (N := m_X8_at) (As := [.int a1, .int 1]) (b := 33) (st := []) (d' := 1) (mc := 0) (ms := 0) (host := "") 8 rfl t_X8_at ⟨Or.inl q_11_171, i_X8_at.1, i_X8_at.2⟩ ⟨by decide, rfl⟩ (congrArg Prod.fst (J.1.1 33 (8, 4) rfl)) rfl (by decide) rfl rfl ⟨by decide, by decide⟩ (sf_X8_at_r33_c1  hD J  (fun v12 h ev12 J S11 => ?_))
        have Sm := jSm_tr rfl Sm S11
        show jX m_X11_of 3 0 0 90 [(0, .ref 31), (1, .int a1), (2, .int a2)] [.int v12] _ 0 0 _
        refine x_iret rfl rfl ?_
        exact hQ _ _ J Sm
      by_cases c13 : a2.toInt = 3
      ·
        refine x_tableIn (tgt := 91) 3 rfl c13 (by decide) (by decide) rfl rfl ?_
        refine x_aloadn (x := 31) rfl rfl ?_
        refine z_getR (N := 13) (b := 32) 11 0 rfl f_11_10 rfl J rfl 3968 ⟨rfl, rfl⟩ rfl ?_
        refine z_getR (N := 20) (b := 33) 1 0 rfl f_11_126 rfl J rfl 4096 ⟨rfl, rfl⟩ rfl ?_
        refine x_iloadn (x := a1) rfl rfl ?_
        refine x_iconst (v := 4) rfl ki_4 ?_
        refine x_inv (N := m_X8_at) (As := [.int a1, .int 4]) (b := 33) (st := []) (d' := 1) (mc := 0) (ms := 0) (host := "") 8 rfl t_X8_at ⟨Or.inl q_11_171, i_X8_at.1, i_X8_at.2⟩ ⟨by decide, rfl⟩ (congrArg Prod.fst (J.1.1 33 (8, 4) rfl)) rfl (by decide) rfl rfl ⟨by decide, by decide⟩ (sf_X8_at_r33_c4  hD J  (fun v15 h J S14 => ?_))
        have ev15 := jfull v15
        have Sm := jSm_tr rfl Sm S14
        show jX m_X11_of 3 0 0 103 [(0, .ref 31), (1, .int a1), (2, .int a2)] [.int v15] _ 0 0 _
        refine x_iret rfl rfl ?_
        exact hQ _ _ J Sm
      by_cases c16 : a2.toInt = 4
      ·
        refine x_tableIn (tgt := 104) 4 rfl c16 (by decide) (by decide) rfl rfl ?_
        refine x_aloadn (x := 31) rfl rfl ?_
        refine z_getR (N := 13) (b := 32) 11 0 rfl f_11_10 rfl J rfl 3968 ⟨rfl, rfl⟩ rfl ?_
        refine z_getR (N := 20) (b := 33) 1 0 rfl f_11_126 rfl J rfl 4096 ⟨rfl, rfl⟩ rfl ?_
        refine x_iloadn (x := a1) rfl rfl ?_
        refine x_iconst (v := 5) rfl ki_5 ?_
        refine x_inv (N := m_X8_at) (As := [.int a1, .int 5]) (b := 33) (st := []) (d' := 1) (mc := 0) (ms := 0) (host := "") 8 rfl t_X8_at ⟨Or.inl q_11_171, i_X8_at.1, i_X8_at.2⟩ ⟨by decide, rfl⟩ (congrArg Prod.fst (J.1.1 33 (8, 4) rfl)) rfl (by decide) rfl rfl ⟨by decide, by decide⟩ (sf_X8_at_r33_c5 (jr_of rfl (by omega)) hD J  (fun v18 h ev18 J S17 => ?_))
        have Sm := jSm_tr rfl Sm S17
        show jX m_X11_of 3 0 0 116 [(0, .ref 31), (1, .int a1), (2, .int a2)] [.int v18] _ 0 0 _
        refine x_iret rfl rfl ?_
        exact hQ _ _ J Sm
      by_cases c19 : a2.toInt = 5
      ·
        refine x_tableIn (tgt := 117) 5 rfl c19 (by decide) (by decide) rfl rfl ?_
        refine x_aloadn (x := 31) rfl rfl ?_
        refine x_iloadn (x := a1) rfl rfl ?_
        refine x_inv (N := m_X11_rolesOf) (As := [.int a1]) (b := 31) (st := []) (d' := 2) (mc := 0) (ms := 0) (host := "") 11 rfl t_X11_rolesOf ⟨Or.inl q_11_175, i_X11_rolesOf.1, i_X11_rolesOf.2⟩ ⟨by decide, rfl⟩ (congrArg Prod.fst (J.1.1 31 (11, 13) rfl)) rfl (by decide) rfl rfl ⟨by decide, by decide⟩ (jC.of rfl k_X11_rolesOf rfl ?_)
        show jX m_X11_rolesOf 2 0 0 0 [(0, .ref 31), (1, .int a1)] [] _ 0 0 _
        refine x_aloadn (x := 31) rfl rfl ?_
        refine z_getR (N := 13) (b := 32) 11 0 rfl f_11_10 rfl J rfl 3968 ⟨rfl, rfl⟩ rfl ?_
        refine z_getR (N := 20) (b := 33) 1 0 rfl f_11_126 rfl J rfl 4096 ⟨rfl, rfl⟩ rfl ?_
        refine x_iloadn (x := a1) rfl rfl ?_
        refine x_iconst (v := 2) rfl ki_2 ?_
        refine x_inv (N := m_X8_at) (As := [.int a1, .int 2]) (b := 33) (st := []) (d' := 1) (mc := 0) (ms := 0) (host := "") 8 rfl t_X8_at ⟨Or.inl q_11_171, i_X8_at.1, i_X8_at.2⟩ ⟨by decide, rfl⟩ (congrArg Prod.fst (J.1.1 33 (8, 4) rfl)) rfl (by decide) rfl rfl ⟨by decide, by decide⟩ (sf_X8_at_r33_c2  hD J  (fun v21 h ev21 J S20 => ?_))
        have Sm := jSm_tr rfl Sm S20
        show jX m_X11_rolesOf 2 0 0 12 [(0, .ref 31), (1, .int a1)] [.int v21] _ 0 0 _
        refine x_istoren (ls' := [(2, .int v21), (0, .ref 31), (1, .int a1)]) rfl rfl rfl ?_
        refine x_iloadn (x := v21) rfl rfl ?_
        refine x_inst (N := m_X11_isBook) (As := [.int v21]) (st := []) (d' := 1) (mc := 0) (ms := 0) (host := "") rfl t_X11_isBook ⟨Or.inl q_11_112, s_X11_isBook⟩ rfl (by decide) rfl rfl ⟨by decide, by decide⟩ (zc_X11_isBook rfl (fun v22 ev22 => ?_))
        show jX m_X11_rolesOf 2 0 0 17 [(2, .int v21), (0, .ref 31), (1, .int a1)] [.int v22] _ 0 0 _
        refine x_ifeq (tgt := 28) rfl rfl (ti_eq rfl jk_0 ⟨fun c23 => ?_, fun c23 => ?_⟩)
        ·
          refine x_iconst (v := 0) rfl ki_0 ?_
          refine x_iret rfl rfl ?_
          show jX m_X11_of 3 0 0 122 [(0, .ref 31), (1, .int a1), (2, .int a2)] [.int 0] _ 0 0 _
          refine x_iret rfl rfl ?_
          exact hQ _ _ J Sm
        ·
          refine x_gets jst_1 rfl (by decide +kernel) u_11_136 ?_
          show jX m_X11_rolesOf 2 0 0 23 [(2, .int v21), (0, .ref 31), (1, .int a1)] [.ref 1] _ 0 0 _
          refine x_iloadn (x := v21) rfl rfl ?_
          refine z_iald (N := 6) rfl J rfl sg_1_0_6_1_0_1 rfl (by omega) (fun v24 qv24 ev24 => ?_)
          refine x_goto (tgt := 29) rfl rfl ?_
          refine x_iret rfl rfl ?_
          show jX m_X11_of 3 0 0 122 [(0, .ref 31), (1, .int a1), (2, .int a2)] [.int v24] _ 0 0 _
          refine x_iret rfl rfl ?_
          exact hQ _ _ J Sm
      refine x_tableOut (tgt := 123) rfl (by omega) rfl ?_
      refine x_bipush (v := (-2)) rfl kb_m2 ?_
      refine x_iret rfl rfl ?_
      exact hQ _ _ J Sm
def fp_X8_at_r45_c1 : jFp := []
set_option maxRecDepth 100000 in
set_option maxHeartbeats 4000000 in
theorem ct_X8_at_r45_c1_24 {Dy : jH → Prop} {h0 : jH} {Q : Option Value → jH → Prop} (hD : jDk Dy) (hQ : ∀ (v : Int32) h', 0 ≤ v.toInt ∧ v.toInt ≤ 146399 → jJ jSgX Dy h' → jSm fp_X8_at_r45_c1 h0 h' → Q (some (.int v)) h') : ∀ (h : jH), jJ jSgX Dy h → jSm fp_X8_at_r45_c1 h0 h → jX m_X8_at 1 0 0 24 [] [] h 0 0 Q := by
  intro  h    J Sm
  refine x_iconst (v := 0) rfl ki_0 ?_
  refine x_iret rfl rfl ?_
  exact hQ _ _ (jr_of jk_0 (by omega)) J Sm
set_option maxRecDepth 100000 in
set_option maxHeartbeats 4000000 in
theorem sf_X8_at_r45_c1 {Dy : jH → Prop} {h : jH} {Q : Option Value → jH → Prop} {a1 : Int32} (y1 : 0 ≤ a1.toInt ∧ a1.toInt ≤ 39) (hD : jDk Dy) (J : jJ jSgX Dy h) (hQ : ∀ (v : Int32) h', 0 ≤ v.toInt ∧ v.toInt ≤ 146399 → jJ jSgX Dy h' → jSm fp_X8_at_r45_c1 h h' → Q (some (.int v)) h') : jC m_X8_at 1 0 0 [.ref 45, .int a1, .int 1] h Q := by
  refine jC.of rfl k_X8_at rfl ?_
  have Sm := jSm_rf fp_X8_at_r45_c1 h
  show jX m_X8_at 1 0 0 0 [(0, .ref 45), (1, .int a1), (2, .int 1)] [] _ 0 0 _
  refine x_iloadn (x := a1) rfl rfl ?_
  refine x_iflt (tgt := 24) rfl rfl (ti_lt rfl jk_0 (br_f (by omega) ?_))
  refine x_iloadn (x := a1) rfl rfl ?_
  refine x_aloadn (x := 45) rfl rfl ?_
  refine z_getI (N := 4) 8 3 rfl f_8_7 rfl J rfl sg_45_3_4_1_0_1 (fun v1 qv1 ev1 => ?_)
  refine x_icge (tgt := 24) rfl rfl (ti_ge rfl rfl ⟨fun c2 => ?_, fun c2 => ?_⟩)
  ·
    exact jX.sub jsb_n (ct_X8_at_r45_c1_24 hD hQ  h J Sm)
  ·
    refine x_iloadn (x := 1) rfl rfl ?_
    refine x_iflt (tgt := 24) rfl rfl (ti_lt jk_1 jk_0 (br_f (by omega) ?_))
    refine x_iloadn (x := 1) rfl rfl ?_
    refine x_aloadn (x := 45) rfl rfl ?_
    refine z_getC (N := 4) (v := 3) 8 0 rfl f_8_19 rfl J rfl sg_45_0_1_1_0_1 jk_3 ?_
    refine x_iclt (tgt := 26) rfl rfl (ti_lt jk_1 jk_3 (br_t (by omega) ?_))
    refine x_aloadn (x := 45) rfl rfl ?_
    refine z_getR (N := 4) (b := 46) 8 2 rfl f_8_25 rfl J rfl 5762 ⟨rfl, rfl⟩ rfl ?_
    refine x_iloadn (x := a1) rfl rfl ?_
    refine x_aloadn (x := 45) rfl rfl ?_
    refine z_getC (N := 4) (v := 3) 8 0 rfl f_8_19 rfl J rfl sg_45_0_1_1_0_1 jk_3 ?_
    refine z_imul rfl rfl jk_3 (by omega) (fun v3 ev3 => ?_)
    refine x_iloadn (x := 1) rfl rfl ?_
    refine z_iadd rfl rfl jk_1 (by omega) (fun v4 ev4 => ?_)
    refine z_iald (N := 120) rfl J rfl sg_46_0_120_3_1_2 rfl (by omega) (fun v5 qv5 ev5 => ?_)
    refine x_iret rfl rfl ?_
    exact hQ _ _ (jr_of rfl (by omega)) J Sm
def fp_X11_order_r31 : jFp := [(78, 13, 14), (82, 0, 600), (83, 0, 600), (84, 0, 200), (86, 0, 3), (98, 10, 11), (98, 11, 12), (101, 0, 3), (102, 0, 40), (103, 0, 40), (104, 0, 40), (105, 0, 3), (120, 5, 6), (120, 6, 7), (120, 7, 8)]
set_option maxRecDepth 100000 in
set_option maxHeartbeats 4000000 in
theorem ct_X11_order_r31_34 {Dy : jH → Prop} {h0 : jH} {Q : Option Value → jH → Prop} (hD : jDk Dy) (hQ : ∀ (v : Int32) h', jJ jSgX Dy h' → jSm fp_X11_order_r31 h0 h' → Q (some (.int v)) h') : ∀ (h : jH), jJ jSgX Dy h → jSm fp_X11_order_r31 h0 h → jX m_X11_order 8 0 0 34 [] [] h 0 0 Q := by
  intro  h    J Sm
  refine x_iconst (v := (-1)) rfl ki_m1 ?_
  refine x_iret rfl rfl ?_
  exact hQ _ _ J Sm
set_option maxRecDepth 100000 in
set_option maxHeartbeats 4000000 in
theorem ct_X11_order_r31_90 {Dy : jH → Prop} {h0 : jH} {Q : Option Value → jH → Prop} (hD : jDk Dy) (hQ : ∀ (v : Int32) h', jJ jSgX Dy h' → jSm fp_X11_order_r31 h0 h' → Q (some (.int v)) h') : ∀ (h : jH), jJ jSgX Dy h → jSm fp_X11_order_r31 h0 h → jX m_X11_order 8 0 0 90 [] [] h 0 0 Q := by
  intro  h    J Sm
  refine x_iconst (v := 0) rfl ki_0 ?_
  refine x_iret rfl rfl ?_
  exact hQ _ _ J Sm
set_option maxRecDepth 100000 in
set_option maxHeartbeats 4000000 in
theorem ct_X11_order_r31_70 {Dy : jH → Prop} {h0 : jH} {Q : Option Value → jH → Prop} (hD : jDk Dy) (hQ : ∀ (v : Int32) h', jJ jSgX Dy h' → jSm fp_X11_order_r31 h0 h' → Q (some (.int v)) h') : ∀ (s0 : Int32) (h : jH), 0 ≤ s0.toInt ∧ s0.toInt ≤ 1 → jJ jSgX Dy h → jSm fp_X11_order_r31 h0 h → jX m_X11_order 8 0 0 70 [] [.int s0] h 0 0 Q := by
  intro s0 h y0   J Sm
  refine x_iret rfl rfl ?_
  exact hQ _ _ J Sm
set_option maxRecDepth 100000 in
set_option maxHeartbeats 4000000 in
theorem sf_X11_order_r31 {Dy : jH → Prop} {h : jH} {Q : Option Value → jH → Prop} {a1 : Int32} {a2 : Int32} {a3 : Int32} (hD : jDk Dy) (J : jJ jSgX Dy h) (hQ : ∀ (v : Int32) h', jJ jSgX Dy h' → jSm fp_X11_order_r31 h h' → Q (some (.int v)) h') : jC m_X11_order 8 0 0 [.ref 31, .int a1, .int a2, .int a3] h Q := by
  refine jC.of rfl k_X11_order rfl ?_
  have Sm := jSm_rf fp_X11_order_r31 h
  have ea1 := jfull a1
  have ea2 := jfull a2
  have ea3 := jfull a3
  show jX m_X11_order 8 0 0 0 [(0, .ref 31), (1, .int a1), (2, .int a2), (3, .int a3)] [] _ 0 0 _
  refine x_aloadn (x := 31) rfl rfl ?_
  refine x_iloadn (x := a1) rfl rfl ?_
  refine x_iloadn (x := a2) rfl rfl ?_
  refine x_inv (N := m_X11_isKnownLine) (As := [.int a1, .int a2]) (b := 31) (st := []) (d' := 7) (mc := 0) (ms := 0) (host := "") 11 rfl t_X11_isKnownLine ⟨Or.inl q_11_393, i_X11_isKnownLine.1, i_X11_isKnownLine.2⟩ ⟨by decide, rfl⟩ (congrArg Prod.fst (J.1.1 31 (11, 13) rfl)) rfl (by decide) rfl rfl ⟨by decide, by decide⟩ (jC.of rfl k_X11_isKnownLine rfl ?_)
  show jX m_X11_isKnownLine 7 0 0 0 [(0, .ref 31), (1, .int a1), (2, .int a2)] [] _ 0 0 _
  refine x_iloadn (x := a2) rfl rfl ?_
  refine x_inst (N := m_X11_isDay) (As := [.int a2]) (st := []) (d' := 1) (mc := 0) (ms := 0) (host := "") rfl t_X11_isDay ⟨Or.inl q_11_115, s_X11_isDay⟩ rfl (by decide) rfl rfl ⟨by decide, by decide⟩ (zc_X11_isDay rfl (fun v1 ev1 => ?_))
  show jX m_X11_isKnownLine 7 0 0 4 [(0, .ref 31), (1, .int a1), (2, .int a2)] [.int v1] _ 0 0 _
  refine x_ifeq (tgt := 26) rfl rfl (ti_eq rfl jk_0 ⟨fun c2 => ?_, fun c2 => ?_⟩)
  ·
    refine x_iconst (v := 0) rfl ki_0 ?_
    refine x_zret rfl rfl (by decide) ?_
    show jX m_X11_order 8 0 0 6 [(0, .ref 31), (1, .int a1), (2, .int a2), (3, .int a3)] [.int 0] _ 0 0 _
    refine x_ifeq (tgt := 34) rfl rfl (ti_eq jk_0 jk_0 (br_t (by omega) ?_))
    exact jX.sub jsb_n (ct_X11_order_r31_34 hD hQ  h J Sm)
  ·
    refine x_aloadn (x := 31) rfl rfl ?_
    refine z_getR (N := 13) (b := 32) 11 0 rfl f_11_10 rfl J rfl 3968 ⟨rfl, rfl⟩ rfl ?_
    refine z_getR (N := 20) (b := 33) 1 0 rfl f_11_126 rfl J rfl 4096 ⟨rfl, rfl⟩ rfl ?_
    refine x_iloadn (x := a1) rfl rfl ?_
    refine x_iloadn (x := a2) rfl rfl ?_
    refine x_inv (N := m_X8_isKnown) (As := [.int a1, .int a2]) (b := 33) (st := []) (d' := 1) (mc := 0) (ms := 0) (host := "") 8 rfl t_X8_isKnown ⟨Or.inl q_11_440, i_X8_isKnown.1, i_X8_isKnown.2⟩ ⟨by decide, rfl⟩ (congrArg Prod.fst (J.1.1 33 (8, 4) rfl)) rfl (by decide) rfl rfl ⟨by decide, by decide⟩ (sf_X8_isKnown_r33 (jr_of rfl (by omega)) hD J  (fun v4 h ev4 J S3 => ?_))
    have Sm := jSm_tr rfl Sm S3
    show jX m_X11_isKnownLine 7 0 0 19 [(0, .ref 31), (1, .int a1), (2, .int a2)] [.int v4] _ 0 0 _
    refine x_ifeq (tgt := 26) rfl rfl (ti_eq rfl jk_0 ⟨fun c5 => ?_, fun c5 => ?_⟩)
    ·
      refine x_iconst (v := 0) rfl ki_0 ?_
      refine x_zret rfl rfl (by decide) ?_
      show jX m_X11_order 8 0 0 6 [(0, .ref 31), (1, .int a1), (2, .int a2), (3, .int a3)] [.int 0] _ 0 0 _
      refine x_ifeq (tgt := 34) rfl rfl (ti_eq jk_0 jk_0 (br_t (by omega) ?_))
      exact jX.sub jsb_n (ct_X11_order_r31_34 hD hQ  h J Sm)
    ·
      refine x_iconst (v := 1) rfl ki_1 ?_
      refine x_goto (tgt := 27) rfl rfl ?_
      refine x_zret rfl rfl (by decide) ?_
      show jX m_X11_order 8 0 0 6 [(0, .ref 31), (1, .int a1), (2, .int a2), (3, .int a3)] [.int 1] _ 0 0 _
      refine x_ifeq (tgt := 34) rfl rfl (ti_eq jk_1 jk_0 (br_f (by omega) ?_))
      refine x_aloadn (x := 31) rfl rfl ?_
      refine z_getR (N := 13) (b := 32) 11 0 rfl f_11_10 rfl J rfl 3968 ⟨rfl, rfl⟩ rfl ?_
      refine z_getR (N := 20) (b := 33) 1 0 rfl f_11_126 rfl J rfl 4096 ⟨rfl, rfl⟩ rfl ?_
      refine x_iloadn (x := a1) rfl rfl ?_
      refine x_iconst (v := 2) rfl ki_2 ?_
      refine x_inv (N := m_X8_at) (As := [.int a1, .int 2]) (b := 33) (st := []) (d' := 1) (mc := 0) (ms := 0) (host := "") 8 rfl t_X8_at ⟨Or.inl q_11_171, i_X8_at.1, i_X8_at.2⟩ ⟨by decide, rfl⟩ (congrArg Prod.fst (J.1.1 33 (8, 4) rfl)) rfl (by decide) rfl rfl ⟨by decide, by decide⟩ (sf_X8_at_r33_c2  hD J  (fun v7 h ev7 J S6 => ?_))
      have Sm := jSm_tr rfl Sm S6
      show jX m_X11_order 8 0 0 21 [(0, .ref 31), (1, .int a1), (2, .int a2), (3, .int a3)] [.int v7] _ 0 0 _
      refine x_iconst (v := 5) rfl ki_5 ?_
      refine x_icne (tgt := 34) rfl rfl (ti_ne rfl jk_5 ⟨fun c8 => ?_, fun c8 => ?_⟩)
      ·
        exact jX.sub jsb_n (ct_X11_order_r31_34 hD hQ  h J Sm)
      ·
        refine x_iloadn (x := a3) rfl rfl ?_
        refine x_iflt (tgt := 34) rfl rfl (ti_lt rfl jk_0 ⟨fun c9 => ?_, fun c9 => ?_⟩)
        ·
          exact jX.sub jsb_n (ct_X11_order_r31_34 hD hQ  h J Sm)
        ·
          refine x_iloadn (x := a3) rfl rfl ?_
          refine x_iconst (v := 2) rfl ki_2 ?_
          refine x_icle (tgt := 36) rfl rfl (ti_le rfl jk_2 ⟨fun c10 => ?_, fun c10 => ?_⟩)
          ·
            refine x_aloadn (x := 31) rfl rfl ?_
            refine x_iloadn (x := a1) rfl rfl ?_
            refine x_iconst (v := 3) rfl ki_3 ?_
            refine z_imul0 rfl (fun v11 => ?_)
            have ev11 := jfull v11
            refine x_iloadn (x := a2) rfl rfl ?_
            refine x_inv (N := m_X11_soulOn) (As := [.int v11, .int a2]) (b := 31) (st := []) (d' := 7) (mc := 0) (ms := 0) (host := "") 11 rfl t_X11_soulOn ⟨Or.inl q_11_234, i_X11_soulOn.1, i_X11_soulOn.2⟩ ⟨by decide, rfl⟩ (congrArg Prod.fst (J.1.1 31 (11, 13) rfl)) rfl (by decide) rfl rfl ⟨by decide, by decide⟩ (jC.of rfl k_X11_soulOn rfl ?_)
            show jX m_X11_soulOn 7 0 0 0 [(0, .ref 31), (1, .int v11), (2, .int a2)] [] _ 0 0 _
            refine x_iloadn (x := a2) rfl rfl ?_
            refine x_inst (N := m_X11_isDay) (As := [.int a2]) (st := []) (d' := 1) (mc := 0) (ms := 0) (host := "") rfl t_X11_isDay ⟨Or.inl q_11_115, s_X11_isDay⟩ rfl (by decide) rfl rfl ⟨by decide, by decide⟩ (zc_X11_isDay rfl (fun v12 ev12 => ?_))
            show jX m_X11_soulOn 7 0 0 4 [(0, .ref 31), (1, .int v11), (2, .int a2)] [.int v12] _ 0 0 _
            refine x_ifeq (tgt := 18) rfl rfl (ti_eq rfl jk_0 ⟨fun c13 => ?_, fun c13 => ?_⟩)
            ·
              refine x_iconst (v := (-1)) rfl ki_m1 ?_
              refine x_iret rfl rfl ?_
              show jX m_X11_order 8 0 0 44 [(0, .ref 31), (1, .int a1), (2, .int a2), (3, .int a3)] [.int (-1)] _ 0 0 _
              refine x_istore (ls' := [(4, .int (-1)), (0, .ref 31), (1, .int a1), (2, .int a2), (3, .int a3)]) rfl rfl rfl ?_
              refine x_aloadn (x := 31) rfl rfl ?_
              refine x_iloadn (x := a1) rfl rfl ?_
              refine x_iload (x := (-1)) rfl rfl ?_
              refine x_iloadn (x := a2) rfl rfl ?_
              refine x_inv (N := m_X11_isGood) (As := [.int a1, .int (-1), .int a2]) (b := 31) (st := []) (d' := 6) (mc := 0) (ms := 0) (host := "") 11 rfl t_X11_isGood ⟨Or.inl q_11_396, i_X11_isGood.1, i_X11_isGood.2⟩ ⟨by decide, rfl⟩ (congrArg Prod.fst (J.1.1 31 (11, 13) rfl)) rfl (by decide) rfl rfl ⟨by decide, by decide⟩ (sf_X11_isGood_r31 (jr_of jk_m1 (by omega)) (jr_of rfl (by omega)) hD J  (fun v15 h ev15 J S14 => ?_))
              have Sm := jSm_tr rfl Sm S14
              show jX m_X11_order 8 0 0 54 [(4, .int (-1)), (0, .ref 31), (1, .int a1), (2, .int a2), (3, .int a3)] [.int v15] _ 0 0 _
              refine x_istore (ls' := [(5, .int v15), (4, .int (-1)), (0, .ref 31), (1, .int a1), (2, .int a2), (3, .int a3)]) rfl rfl rfl ?_
              refine x_iloadn (x := a3) rfl rfl ?_
              refine x_ifne (tgt := 71) rfl rfl (ti_ne rfl jk_0 ⟨fun c16 => ?_, fun c16 => ?_⟩)
              ·
                refine x_aloadn (x := 31) rfl rfl ?_
                refine x_iloadn (x := a1) rfl rfl ?_
                refine x_iloadn (x := a2) rfl rfl ?_
                refine x_inv (N := m_X11_firstAppeal) (As := [.int a1, .int a2]) (b := 31) (st := []) (d' := 2) (mc := 0) (ms := 0) (host := "") 11 rfl t_X11_firstAppeal ⟨Or.inl q_11_399, i_X11_firstAppeal.1, i_X11_firstAppeal.2⟩ ⟨by decide, rfl⟩ (congrArg Prod.fst (J.1.1 31 (11, 13) rfl)) rfl (by decide) rfl rfl ⟨by decide, by decide⟩ (sf_X11_firstAppeal_r31 (jr_of rfl (by omega)) hD J  (fun v18 h ev18 J S17 => ?_))
                have Sm := jSm_tr rfl Sm S17
                show jX m_X11_order 8 0 0 77 [(5, .int v15), (4, .int (-1)), (0, .ref 31), (1, .int a1), (2, .int a2), (3, .int a3)] [.int v18] _ 0 0 _
                refine x_istore (ls' := [(6, .int v18), (5, .int v15), (4, .int (-1)), (0, .ref 31), (1, .int a1), (2, .int a2), (3, .int a3)]) rfl rfl rfl ?_
                refine x_iload (x := v15) rfl rfl ?_
                refine x_ifne (tgt := 90) rfl rfl (ti_ne rfl jk_0 ⟨fun c19 => ?_, fun c19 => ?_⟩)
                ·
                  exact jX.sub jsb_n (ct_X11_order_r31_90 hD hQ  h J Sm)
                ·
                  refine x_iload (x := v18) rfl rfl ?_
                  refine x_iconst (v := (-1)) rfl ki_m1 ?_
                  refine x_icne (tgt := 92) rfl rfl (ti_ne rfl jk_m1 ⟨fun c20 => ?_, fun c20 => ?_⟩)
                  ·
                    refine x_iloadn (x := a3) rfl rfl ?_
                    refine x_iconst (v := 1) rfl ki_1 ?_
                    refine x_icne (tgt := 99) rfl rfl (ti_ne rfl jk_1 ⟨fun c21 => ?_, fun c21 => ?_⟩)
                    ·
                      refine x_aloadn (x := 31) rfl rfl ?_
                      refine z_getR (N := 13) (b := 78) 11 4 rfl f_11_41 rfl J rfl 3972 ⟨rfl, rfl⟩ rfl ?_
                      refine x_iload (x := (-1)) rfl rfl ?_
                      refine x_aloadn (x := 31) rfl rfl ?_
                      refine z_getR (N := 13) (b := 32) 11 0 rfl f_11_10 rfl J rfl 3968 ⟨rfl, rfl⟩ rfl ?_
                      refine z_getR (N := 20) (b := 33) 1 0 rfl f_11_126 rfl J rfl 4096 ⟨rfl, rfl⟩ rfl ?_
                      refine x_iloadn (x := a1) rfl rfl ?_
                      refine x_iconst (v := 1) rfl ki_1 ?_
                      refine x_inv (N := m_X8_at) (As := [.int a1, .int 1]) (b := 33) (st := [.int (-1), .ref 78]) (d' := 1) (mc := 0) (ms := 0) (host := "") 8 rfl t_X8_at ⟨Or.inl q_11_171, i_X8_at.1, i_X8_at.2⟩ ⟨by decide, rfl⟩ (congrArg Prod.fst (J.1.1 33 (8, 4) rfl)) rfl (by decide) rfl rfl ⟨by decide, by decide⟩ (sf_X8_at_r33_c1  hD J  (fun v23 h ev23 J S22 => ?_))
                      have Sm := jSm_tr rfl Sm S22
                      show jX m_X11_order 8 0 0 117 [(6, .int v18), (5, .int v15), (4, .int (-1)), (0, .ref 31), (1, .int a1), (2, .int a2), (3, .int a3)] [.int v23, .int (-1), .ref 78] _ 0 0 _
                      refine x_aloadn (x := 31) rfl rfl ?_
                      refine z_getR (N := 13) (b := 32) 11 0 rfl f_11_10 rfl J rfl 3968 ⟨rfl, rfl⟩ rfl ?_
                      refine z_getR (N := 20) (b := 45) 1 6 rfl f_11_402 rfl J rfl 4102 ⟨rfl, rfl⟩ rfl ?_
                      refine x_iload (x := v18) rfl rfl ?_
                      refine x_iconst (v := 1) rfl ki_1 ?_
                      refine x_inv (N := m_X8_at) (As := [.int v18, .int 1]) (b := 45) (st := [.int v23, .int (-1), .ref 78]) (d' := 1) (mc := 0) (ms := 0) (host := "") 8 rfl t_X8_at ⟨Or.inl q_11_171, i_X8_at.1, i_X8_at.2⟩ ⟨by decide, rfl⟩ (congrArg Prod.fst (J.1.1 45 (8, 4) rfl)) rfl (by decide) rfl rfl ⟨by decide, by decide⟩ (sf_X8_at_r45_c1 (jr_of rfl (by omega)) hD J  (fun v25 h ev25 J S24 => ?_))
                      have Sm := jSm_tr rfl Sm S24
                      show jX m_X11_order 8 0 0 130 [(6, .int v18), (5, .int v15), (4, .int (-1)), (0, .ref 31), (1, .int a1), (2, .int a2), (3, .int a3)] [.int v25, .int v23, .int (-1), .ref 78] _ 0 0 _
                      refine x_inv (N := m_X7_reliefOf) (As := [.int (-1), .int v23, .int v25]) (b := 78) (st := []) (d' := 1) (mc := 0) (ms := 0) (host := "") 7 rfl t_X7_reliefOf ⟨Or.inl q_11_405, i_X7_reliefOf.1, i_X7_reliefOf.2⟩ ⟨by decide, rfl⟩ (congrArg Prod.fst (J.1.1 78 (7, 16) rfl)) rfl (by decide) rfl rfl ⟨by decide, by decide⟩ (sf_X7_reliefOf_r78 (jr_of jk_m1 (by omega)) (jr_of rfl (by omega)) (jr_of rfl (by omega)) hD J  (fun v27 h J S26 => ?_))
                      have ev27 := jfull v27
                      have Sm := jSm_tr rfl Sm S26
                      show jX m_X11_order 8 0 0 133 [(6, .int v18), (5, .int v15), (4, .int (-1)), (0, .ref 31), (1, .int a1), (2, .int a2), (3, .int a3)] [.int v27] _ 0 0 _
                      refine x_iret rfl rfl ?_
                      exact hQ _ _ J Sm
                    ·
                      refine x_iconst (v := 1) rfl ki_1 ?_
                      refine x_iret rfl rfl ?_
                      exact hQ _ _ J Sm
                  ·
                    exact jX.sub jsb_n (ct_X11_order_r31_90 hD hQ  h J Sm)
              ·
                refine x_iload (x := v15) rfl rfl ?_
                refine x_ifeq (tgt := 69) rfl rfl (ti_eq rfl jk_0 ⟨fun c28 => ?_, fun c28 => ?_⟩)
                ·
                  refine x_iconst (v := 0) rfl ki_0 ?_
                  exact jX.sub jsb_n (ct_X11_order_r31_70 hD hQ  0 h (jr_of jk_0 (by omega)) J Sm)
                ·
                  refine x_iconst (v := 1) rfl ki_1 ?_
                  refine x_goto (tgt := 70) rfl rfl ?_
                  exact jX.sub jsb_n (ct_X11_order_r31_70 hD hQ  1 h (jr_of jk_1 (by omega)) J Sm)
            ·
              refine x_aloadn (x := 31) rfl rfl ?_
              refine z_getR (N := 13) (b := 78) 11 4 rfl f_11_41 rfl J rfl 3972 ⟨rfl, rfl⟩ rfl ?_
              refine x_iloadn (x := v11) rfl rfl ?_
              refine x_inv (N := m_X7_isMention) (As := [.int v11]) (b := 78) (st := []) (d' := 6) (mc := 0) (ms := 0) (host := "") 7 rfl t_X7_isMention ⟨Or.inl q_11_187, i_X7_isMention.1, i_X7_isMention.2⟩ ⟨by decide, rfl⟩ (congrArg Prod.fst (J.1.1 78 (7, 16) rfl)) rfl (by decide) rfl rfl ⟨by decide, by decide⟩ (jC.of rfl k_X7_isMention rfl ?_)
              show jX m_X7_isMention 6 0 0 0 [(0, .ref 78), (1, .int v11)] [] _ 0 0 _
              refine x_iloadn (x := v11) rfl rfl ?_
              refine x_iflt (tgt := 41) rfl rfl (ti_lt rfl jk_0 ⟨fun c29 => ?_, fun c29 => ?_⟩)
              ·
                refine x_iconst (v := 0) rfl ki_0 ?_
                refine x_zret rfl rfl (by decide) ?_
                show jX m_X11_soulOn 7 0 0 15 [(0, .ref 31), (1, .int v11), (2, .int a2)] [.int 0] _ 0 0 _
                refine x_ifne (tgt := 20) rfl rfl (ti_ne jk_0 jk_0 (bn_f (by omega) ?_))
                refine x_iconst (v := (-1)) rfl ki_m1 ?_
                refine x_iret rfl rfl ?_
                show jX m_X11_order 8 0 0 44 [(0, .ref 31), (1, .int a1), (2, .int a2), (3, .int a3)] [.int (-1)] _ 0 0 _
                refine x_istore (ls' := [(4, .int (-1)), (0, .ref 31), (1, .int a1), (2, .int a2), (3, .int a3)]) rfl rfl rfl ?_
                refine x_aloadn (x := 31) rfl rfl ?_
                refine x_iloadn (x := a1) rfl rfl ?_
                refine x_iload (x := (-1)) rfl rfl ?_
                refine x_iloadn (x := a2) rfl rfl ?_
                refine x_inv (N := m_X11_isGood) (As := [.int a1, .int (-1), .int a2]) (b := 31) (st := []) (d' := 6) (mc := 0) (ms := 0) (host := "") 11 rfl t_X11_isGood ⟨Or.inl q_11_396, i_X11_isGood.1, i_X11_isGood.2⟩ ⟨by decide, rfl⟩ (congrArg Prod.fst (J.1.1 31 (11, 13) rfl)) rfl (by decide) rfl rfl ⟨by decide, by decide⟩ (sf_X11_isGood_r31 (jr_of jk_m1 (by omega)) (jr_of rfl (by omega)) hD J  (fun v31 h ev31 J S30 => ?_))
                have Sm := jSm_tr rfl Sm S30
                show jX m_X11_order 8 0 0 54 [(4, .int (-1)), (0, .ref 31), (1, .int a1), (2, .int a2), (3, .int a3)] [.int v31] _ 0 0 _
                refine x_istore (ls' := [(5, .int v31), (4, .int (-1)), (0, .ref 31), (1, .int a1), (2, .int a2), (3, .int a3)]) rfl rfl rfl ?_
                refine x_iloadn (x := a3) rfl rfl ?_
                refine x_ifne (tgt := 71) rfl rfl (ti_ne rfl jk_0 ⟨fun c32 => ?_, fun c32 => ?_⟩)
                ·
                  refine x_aloadn (x := 31) rfl rfl ?_
                  refine x_iloadn (x := a1) rfl rfl ?_
                  refine x_iloadn (x := a2) rfl rfl ?_
                  refine x_inv (N := m_X11_firstAppeal) (As := [.int a1, .int a2]) (b := 31) (st := []) (d' := 2) (mc := 0) (ms := 0) (host := "") 11 rfl t_X11_firstAppeal ⟨Or.inl q_11_399, i_X11_firstAppeal.1, i_X11_firstAppeal.2⟩ ⟨by decide, rfl⟩ (congrArg Prod.fst (J.1.1 31 (11, 13) rfl)) rfl (by decide) rfl rfl ⟨by decide, by decide⟩ (sf_X11_firstAppeal_r31 (jr_of rfl (by omega)) hD J  (fun v34 h ev34 J S33 => ?_))
                  have Sm := jSm_tr rfl Sm S33
                  show jX m_X11_order 8 0 0 77 [(5, .int v31), (4, .int (-1)), (0, .ref 31), (1, .int a1), (2, .int a2), (3, .int a3)] [.int v34] _ 0 0 _
                  refine x_istore (ls' := [(6, .int v34), (5, .int v31), (4, .int (-1)), (0, .ref 31), (1, .int a1), (2, .int a2), (3, .int a3)]) rfl rfl rfl ?_
                  refine x_iload (x := v31) rfl rfl ?_
                  refine x_ifne (tgt := 90) rfl rfl (ti_ne rfl jk_0 ⟨fun c35 => ?_, fun c35 => ?_⟩)
                  ·
                    exact jX.sub jsb_n (ct_X11_order_r31_90 hD hQ  h J Sm)
                  ·
                    refine x_iload (x := v34) rfl rfl ?_
                    refine x_iconst (v := (-1)) rfl ki_m1 ?_
                    refine x_icne (tgt := 92) rfl rfl (ti_ne rfl jk_m1 ⟨fun c36 => ?_, fun c36 => ?_⟩)
                    ·
                      refine x_iloadn (x := a3) rfl rfl ?_
                      refine x_iconst (v := 1) rfl ki_1 ?_
                      refine x_icne (tgt := 99) rfl rfl (ti_ne rfl jk_1 ⟨fun c37 => ?_, fun c37 => ?_⟩)
                      ·
                        refine x_aloadn (x := 31) rfl rfl ?_
                        refine z_getR (N := 13) (b := 78) 11 4 rfl f_11_41 rfl J rfl 3972 ⟨rfl, rfl⟩ rfl ?_
                        refine x_iload (x := (-1)) rfl rfl ?_
                        refine x_aloadn (x := 31) rfl rfl ?_
                        refine z_getR (N := 13) (b := 32) 11 0 rfl f_11_10 rfl J rfl 3968 ⟨rfl, rfl⟩ rfl ?_
                        refine z_getR (N := 20) (b := 33) 1 0 rfl f_11_126 rfl J rfl 4096 ⟨rfl, rfl⟩ rfl ?_
                        refine x_iloadn (x := a1) rfl rfl ?_
                        refine x_iconst (v := 1) rfl ki_1 ?_
                        refine x_inv (N := m_X8_at) (As := [.int a1, .int 1]) (b := 33) (st := [.int (-1), .ref 78]) (d' := 1) (mc := 0) (ms := 0) (host := "") 8 rfl t_X8_at ⟨Or.inl q_11_171, i_X8_at.1, i_X8_at.2⟩ ⟨by decide, rfl⟩ (congrArg Prod.fst (J.1.1 33 (8, 4) rfl)) rfl (by decide) rfl rfl ⟨by decide, by decide⟩ (sf_X8_at_r33_c1  hD J  (fun v39 h ev39 J S38 => ?_))
                        have Sm := jSm_tr rfl Sm S38
                        show jX m_X11_order 8 0 0 117 [(6, .int v34), (5, .int v31), (4, .int (-1)), (0, .ref 31), (1, .int a1), (2, .int a2), (3, .int a3)] [.int v39, .int (-1), .ref 78] _ 0 0 _
                        refine x_aloadn (x := 31) rfl rfl ?_
                        refine z_getR (N := 13) (b := 32) 11 0 rfl f_11_10 rfl J rfl 3968 ⟨rfl, rfl⟩ rfl ?_
                        refine z_getR (N := 20) (b := 45) 1 6 rfl f_11_402 rfl J rfl 4102 ⟨rfl, rfl⟩ rfl ?_
                        refine x_iload (x := v34) rfl rfl ?_
                        refine x_iconst (v := 1) rfl ki_1 ?_
                        refine x_inv (N := m_X8_at) (As := [.int v34, .int 1]) (b := 45) (st := [.int v39, .int (-1), .ref 78]) (d' := 1) (mc := 0) (ms := 0) (host := "") 8 rfl t_X8_at ⟨Or.inl q_11_171, i_X8_at.1, i_X8_at.2⟩ ⟨by decide, rfl⟩ (congrArg Prod.fst (J.1.1 45 (8, 4) rfl)) rfl (by decide) rfl rfl ⟨by decide, by decide⟩ (sf_X8_at_r45_c1 (jr_of rfl (by omega)) hD J  (fun v41 h ev41 J S40 => ?_))
                        have Sm := jSm_tr rfl Sm S40
                        show jX m_X11_order 8 0 0 130 [(6, .int v34), (5, .int v31), (4, .int (-1)), (0, .ref 31), (1, .int a1), (2, .int a2), (3, .int a3)] [.int v41, .int v39, .int (-1), .ref 78] _ 0 0 _
                        refine x_inv (N := m_X7_reliefOf) (As := [.int (-1), .int v39, .int v41]) (b := 78) (st := []) (d' := 1) (mc := 0) (ms := 0) (host := "") 7 rfl t_X7_reliefOf ⟨Or.inl q_11_405, i_X7_reliefOf.1, i_X7_reliefOf.2⟩ ⟨by decide, rfl⟩ (congrArg Prod.fst (J.1.1 78 (7, 16) rfl)) rfl (by decide) rfl rfl ⟨by decide, by decide⟩ (sf_X7_reliefOf_r78 (jr_of jk_m1 (by omega)) (jr_of rfl (by omega)) (jr_of rfl (by omega)) hD J  (fun v43 h J S42 => ?_))
                        have ev43 := jfull v43
                        have Sm := jSm_tr rfl Sm S42
                        show jX m_X11_order 8 0 0 133 [(6, .int v34), (5, .int v31), (4, .int (-1)), (0, .ref 31), (1, .int a1), (2, .int a2), (3, .int a3)] [.int v43] _ 0 0 _
                        refine x_iret rfl rfl ?_
                        exact hQ _ _ J Sm
                      ·
                        refine x_iconst (v := 1) rfl ki_1 ?_
                        refine x_iret rfl rfl ?_
                        exact hQ _ _ J Sm
                    ·
                      exact jX.sub jsb_n (ct_X11_order_r31_90 hD hQ  h J Sm)
                ·
                  refine x_iload (x := v31) rfl rfl ?_
                  refine x_ifeq (tgt := 69) rfl rfl (ti_eq rfl jk_0 ⟨fun c44 => ?_, fun c44 => ?_⟩)
                  ·
                    refine x_iconst (v := 0) rfl ki_0 ?_
                    exact jX.sub jsb_n (ct_X11_order_r31_70 hD hQ  0 h (jr_of jk_0 (by omega)) J Sm)
                  ·
                    refine x_iconst (v := 1) rfl ki_1 ?_
                    refine x_goto (tgt := 70) rfl rfl ?_
                    exact jX.sub jsb_n (ct_X11_order_r31_70 hD hQ  1 h (jr_of jk_1 (by omega)) J Sm)
              ·
                refine x_iloadn (x := v11) rfl rfl ?_
                refine x_sipush (v := 600) rfl ks_600 ?_
                refine x_icge (tgt := 41) rfl rfl (ti_ge rfl jk_600 ⟨fun c45 => ?_, fun c45 => ?_⟩)
                ·
                  refine x_iconst (v := 0) rfl ki_0 ?_
                  refine x_zret rfl rfl (by decide) ?_
                  show jX m_X11_soulOn 7 0 0 15 [(0, .ref 31), (1, .int v11), (2, .int a2)] [.int 0] _ 0 0 _
                  refine x_ifne (tgt := 20) rfl rfl (ti_ne jk_0 jk_0 (bn_f (by omega) ?_))
                  refine x_iconst (v := (-1)) rfl ki_m1 ?_
                  refine x_iret rfl rfl ?_
                  show jX m_X11_order 8 0 0 44 [(0, .ref 31), (1, .int a1), (2, .int a2), (3, .int a3)] [.int (-1)] _ 0 0 _
                  refine x_istore (ls' := [(4, .int (-1)), (0, .ref 31), (1, .int a1), (2, .int a2), (3, .int a3)]) rfl rfl rfl ?_
                  refine x_aloadn (x := 31) rfl rfl ?_
                  refine x_iloadn (x := a1) rfl rfl ?_
                  refine x_iload (x := (-1)) rfl rfl ?_
                  refine x_iloadn (x := a2) rfl rfl ?_
                  refine x_inv (N := m_X11_isGood) (As := [.int a1, .int (-1), .int a2]) (b := 31) (st := []) (d' := 6) (mc := 0) (ms := 0) (host := "") 11 rfl t_X11_isGood ⟨Or.inl q_11_396, i_X11_isGood.1, i_X11_isGood.2⟩ ⟨by decide, rfl⟩ (congrArg Prod.fst (J.1.1 31 (11, 13) rfl)) rfl (by decide) rfl rfl ⟨by decide, by decide⟩ (sf_X11_isGood_r31 (jr_of jk_m1 (by omega)) (jr_of rfl (by omega)) hD J  (fun v47 h ev47 J S46 => ?_))
                  have Sm := jSm_tr rfl Sm S46
                  show jX m_X11_order 8 0 0 54 [(4, .int (-1)), (0, .ref 31), (1, .int a1), (2, .int a2), (3, .int a3)] [.int v47] _ 0 0 _
                  refine x_istore (ls' := [(5, .int v47), (4, .int (-1)), (0, .ref 31), (1, .int a1), (2, .int a2), (3, .int a3)]) rfl rfl rfl ?_
                  refine x_iloadn (x := a3) rfl rfl ?_
                  refine x_ifne (tgt := 71) rfl rfl (ti_ne rfl jk_0 ⟨fun c48 => ?_, fun c48 => ?_⟩)
                  ·
                    refine x_aloadn (x := 31) rfl rfl ?_
                    refine x_iloadn (x := a1) rfl rfl ?_
                    refine x_iloadn (x := a2) rfl rfl ?_
                    refine x_inv (N := m_X11_firstAppeal) (As := [.int a1, .int a2]) (b := 31) (st := []) (d' := 2) (mc := 0) (ms := 0) (host := "") 11 rfl t_X11_firstAppeal ⟨Or.inl q_11_399, i_X11_firstAppeal.1, i_X11_firstAppeal.2⟩ ⟨by decide, rfl⟩ (congrArg Prod.fst (J.1.1 31 (11, 13) rfl)) rfl (by decide) rfl rfl ⟨by decide, by decide⟩ (sf_X11_firstAppeal_r31 (jr_of rfl (by omega)) hD J  (fun v50 h ev50 J S49 => ?_))
                    have Sm := jSm_tr rfl Sm S49
                    show jX m_X11_order 8 0 0 77 [(5, .int v47), (4, .int (-1)), (0, .ref 31), (1, .int a1), (2, .int a2), (3, .int a3)] [.int v50] _ 0 0 _
                    refine x_istore (ls' := [(6, .int v50), (5, .int v47), (4, .int (-1)), (0, .ref 31), (1, .int a1), (2, .int a2), (3, .int a3)]) rfl rfl rfl ?_
                    refine x_iload (x := v47) rfl rfl ?_
                    refine x_ifne (tgt := 90) rfl rfl (ti_ne rfl jk_0 ⟨fun c51 => ?_, fun c51 => ?_⟩)
                    ·
                      exact jX.sub jsb_n (ct_X11_order_r31_90 hD hQ  h J Sm)
                    ·
                      refine x_iload (x := v50) rfl rfl ?_
                      refine x_iconst (v := (-1)) rfl ki_m1 ?_
                      refine x_icne (tgt := 92) rfl rfl (ti_ne rfl jk_m1 ⟨fun c52 => ?_, fun c52 => ?_⟩)
                      ·
                        refine x_iloadn (x := a3) rfl rfl ?_
                        refine x_iconst (v := 1) rfl ki_1 ?_
                        refine x_icne (tgt := 99) rfl rfl (ti_ne rfl jk_1 ⟨fun c53 => ?_, fun c53 => ?_⟩)
                        ·
                          refine x_aloadn (x := 31) rfl rfl ?_
                          refine z_getR (N := 13) (b := 78) 11 4 rfl f_11_41 rfl J rfl 3972 ⟨rfl, rfl⟩ rfl ?_
                          refine x_iload (x := (-1)) rfl rfl ?_
                          refine x_aloadn (x := 31) rfl rfl ?_
                          refine z_getR (N := 13) (b := 32) 11 0 rfl f_11_10 rfl J rfl 3968 ⟨rfl, rfl⟩ rfl ?_
                          refine z_getR (N := 20) (b := 33) 1 0 rfl f_11_126 rfl J rfl 4096 ⟨rfl, rfl⟩ rfl ?_
                          refine x_iloadn (x := a1) rfl rfl ?_
                          refine x_iconst (v := 1) rfl ki_1 ?_
                          refine x_inv (N := m_X8_at) (As := [.int a1, .int 1]) (b := 33) (st := [.int (-1), .ref 78]) (d' := 1) (mc := 0) (ms := 0) (host := "") 8 rfl t_X8_at ⟨Or.inl q_11_171, i_X8_at.1, i_X8_at.2⟩ ⟨by decide, rfl⟩ (congrArg Prod.fst (J.1.1 33 (8, 4) rfl)) rfl (by decide) rfl rfl ⟨by decide, by decide⟩ (sf_X8_at_r33_c1  hD J  (fun v55 h ev55 J S54 => ?_))
                          have Sm := jSm_tr rfl Sm S54
                          show jX m_X11_order 8 0 0 117 [(6, .int v50), (5, .int v47), (4, .int (-1)), (0, .ref 31), (1, .int a1), (2, .int a2), (3, .int a3)] [.int v55, .int (-1), .ref 78] _ 0 0 _
                          refine x_aloadn (x := 31) rfl rfl ?_
                          refine z_getR (N := 13) (b := 32) 11 0 rfl f_11_10 rfl J rfl 3968 ⟨rfl, rfl⟩ rfl ?_
                          refine z_getR (N := 20) (b := 45) 1 6 rfl f_11_402 rfl J rfl 4102 ⟨rfl, rfl⟩ rfl ?_
                          refine x_iload (x := v50) rfl rfl ?_
                          refine x_iconst (v := 1) rfl ki_1 ?_
                          refine x_inv (N := m_X8_at) (As := [.int v50, .int 1]) (b := 45) (st := [.int v55, .int (-1), .ref 78]) (d' := 1) (mc := 0) (ms := 0) (host := "") 8 rfl t_X8_at ⟨Or.inl q_11_171, i_X8_at.1, i_X8_at.2⟩ ⟨by decide, rfl⟩ (congrArg Prod.fst (J.1.1 45 (8, 4) rfl)) rfl (by decide) rfl rfl ⟨by decide, by decide⟩ (sf_X8_at_r45_c1 (jr_of rfl (by omega)) hD J  (fun v57 h ev57 J S56 => ?_))
                          have Sm := jSm_tr rfl Sm S56
                          show jX m_X11_order 8 0 0 130 [(6, .int v50), (5, .int v47), (4, .int (-1)), (0, .ref 31), (1, .int a1), (2, .int a2), (3, .int a3)] [.int v57, .int v55, .int (-1), .ref 78] _ 0 0 _
                          refine x_inv (N := m_X7_reliefOf) (As := [.int (-1), .int v55, .int v57]) (b := 78) (st := []) (d' := 1) (mc := 0) (ms := 0) (host := "") 7 rfl t_X7_reliefOf ⟨Or.inl q_11_405, i_X7_reliefOf.1, i_X7_reliefOf.2⟩ ⟨by decide, rfl⟩ (congrArg Prod.fst (J.1.1 78 (7, 16) rfl)) rfl (by decide) rfl rfl ⟨by decide, by decide⟩ (sf_X7_reliefOf_r78 (jr_of jk_m1 (by omega)) (jr_of rfl (by omega)) (jr_of rfl (by omega)) hD J  (fun v59 h J S58 => ?_))
                          have ev59 := jfull v59
                          have Sm := jSm_tr rfl Sm S58
                          show jX m_X11_order 8 0 0 133 [(6, .int v50), (5, .int v47), (4, .int (-1)), (0, .ref 31), (1, .int a1), (2, .int a2), (3, .int a3)] [.int v59] _ 0 0 _
                          refine x_iret rfl rfl ?_
                          exact hQ _ _ J Sm
                        ·
                          refine x_iconst (v := 1) rfl ki_1 ?_
                          refine x_iret rfl rfl ?_
                          exact hQ _ _ J Sm
                      ·
                        exact jX.sub jsb_n (ct_X11_order_r31_90 hD hQ  h J Sm)
                  ·
                    refine x_iload (x := v47) rfl rfl ?_
                    refine x_ifeq (tgt := 69) rfl rfl (ti_eq rfl jk_0 ⟨fun c60 => ?_, fun c60 => ?_⟩)
                    ·
                      refine x_iconst (v := 0) rfl ki_0 ?_
                      exact jX.sub jsb_n (ct_X11_order_r31_70 hD hQ  0 h (jr_of jk_0 (by omega)) J Sm)
                    ·
                      refine x_iconst (v := 1) rfl ki_1 ?_
                      refine x_goto (tgt := 70) rfl rfl ?_
                      exact jX.sub jsb_n (ct_X11_order_r31_70 hD hQ  1 h (jr_of jk_1 (by omega)) J Sm)
                ·
                  refine x_iloadn (x := v11) rfl rfl ?_
                  refine x_iconst (v := 3) rfl ki_3 ?_
                  refine z_idiv rfl rfl jk_3 (by omega) (by omega) (fun v61 ev61 => ?_)
                  refine x_aloadn (x := 78) rfl rfl ?_
                  refine z_getR (N := 16) (b := 32) 7 0 rfl f_7_55 rfl J rfl 9984 ⟨rfl, rfl⟩ rfl ?_
                  refine z_getR (N := 20) (b := 33) 1 0 rfl f_7_63 rfl J rfl 4096 ⟨rfl, rfl⟩ rfl ?_
                  refine z_getI (N := 4) 8 3 rfl f_7_85 rfl J rfl sg_33_3_4_1_0_1 (fun v62 qv62 ev62 => ?_)
                  refine x_icge (tgt := 41) rfl rfl (ti_ge rfl rfl ⟨fun c63 => ?_, fun c63 => ?_⟩)
                  ·
                    refine x_iconst (v := 0) rfl ki_0 ?_
                    refine x_zret rfl rfl (by decide) ?_
                    show jX m_X11_soulOn 7 0 0 15 [(0, .ref 31), (1, .int v11), (2, .int a2)] [.int 0] _ 0 0 _
                    refine x_ifne (tgt := 20) rfl rfl (ti_ne jk_0 jk_0 (bn_f (by omega) ?_))
                    refine x_iconst (v := (-1)) rfl ki_m1 ?_
                    refine x_iret rfl rfl ?_
                    show jX m_X11_order 8 0 0 44 [(0, .ref 31), (1, .int a1), (2, .int a2), (3, .int a3)] [.int (-1)] _ 0 0 _
                    refine x_istore (ls' := [(4, .int (-1)), (0, .ref 31), (1, .int a1), (2, .int a2), (3, .int a3)]) rfl rfl rfl ?_
                    refine x_aloadn (x := 31) rfl rfl ?_
                    refine x_iloadn (x := a1) rfl rfl ?_
                    refine x_iload (x := (-1)) rfl rfl ?_
                    refine x_iloadn (x := a2) rfl rfl ?_
                    refine x_inv (N := m_X11_isGood) (As := [.int a1, .int (-1), .int a2]) (b := 31) (st := []) (d' := 6) (mc := 0) (ms := 0) (host := "") 11 rfl t_X11_isGood ⟨Or.inl q_11_396, i_X11_isGood.1, i_X11_isGood.2⟩ ⟨by decide, rfl⟩ (congrArg Prod.fst (J.1.1 31 (11, 13) rfl)) rfl (by decide) rfl rfl ⟨by decide, by decide⟩ (sf_X11_isGood_r31 (jr_of jk_m1 (by omega)) (jr_of rfl (by omega)) hD J  (fun v65 h ev65 J S64 => ?_))
                    have Sm := jSm_tr rfl Sm S64
                    show jX m_X11_order 8 0 0 54 [(4, .int (-1)), (0, .ref 31), (1, .int a1), (2, .int a2), (3, .int a3)] [.int v65] _ 0 0 _
                    refine x_istore (ls' := [(5, .int v65), (4, .int (-1)), (0, .ref 31), (1, .int a1), (2, .int a2), (3, .int a3)]) rfl rfl rfl ?_
                    refine x_iloadn (x := a3) rfl rfl ?_
                    refine x_ifne (tgt := 71) rfl rfl (ti_ne rfl jk_0 ⟨fun c66 => ?_, fun c66 => ?_⟩)
                    ·
                      refine x_aloadn (x := 31) rfl rfl ?_
                      refine x_iloadn (x := a1) rfl rfl ?_
                      refine x_iloadn (x := a2) rfl rfl ?_
                      refine x_inv (N := m_X11_firstAppeal) (As := [.int a1, .int a2]) (b := 31) (st := []) (d' := 2) (mc := 0) (ms := 0) (host := "") 11 rfl t_X11_firstAppeal ⟨Or.inl q_11_399, i_X11_firstAppeal.1, i_X11_firstAppeal.2⟩ ⟨by decide, rfl⟩ (congrArg Prod.fst (J.1.1 31 (11, 13) rfl)) rfl (by decide) rfl rfl ⟨by decide, by decide⟩ (sf_X11_firstAppeal_r31 (jr_of rfl (by omega)) hD J  (fun v68 h ev68 J S67 => ?_))
                      have Sm := jSm_tr rfl Sm S67
                      show jX m_X11_order 8 0 0 77 [(5, .int v65), (4, .int (-1)), (0, .ref 31), (1, .int a1), (2, .int a2), (3, .int a3)] [.int v68] _ 0 0 _
                      refine x_istore (ls' := [(6, .int v68), (5, .int v65), (4, .int (-1)), (0, .ref 31), (1, .int a1), (2, .int a2), (3, .int a3)]) rfl rfl rfl ?_
                      refine x_iload (x := v65) rfl rfl ?_
                      refine x_ifne (tgt := 90) rfl rfl (ti_ne rfl jk_0 ⟨fun c69 => ?_, fun c69 => ?_⟩)
                      ·
                        exact jX.sub jsb_n (ct_X11_order_r31_90 hD hQ  h J Sm)
                      ·
                        refine x_iload (x := v68) rfl rfl ?_
                        refine x_iconst (v := (-1)) rfl ki_m1 ?_
                        refine x_icne (tgt := 92) rfl rfl (ti_ne rfl jk_m1 ⟨fun c70 => ?_, fun c70 => ?_⟩)
                        ·
                          refine x_iloadn (x := a3) rfl rfl ?_
                          refine x_iconst (v := 1) rfl ki_1 ?_
                          refine x_icne (tgt := 99) rfl rfl (ti_ne rfl jk_1 ⟨fun c71 => ?_, fun c71 => ?_⟩)
                          ·
                            refine x_aloadn (x := 31) rfl rfl ?_
                            refine z_getR (N := 13) (b := 78) 11 4 rfl f_11_41 rfl J rfl 3972 ⟨rfl, rfl⟩ rfl ?_
                            refine x_iload (x := (-1)) rfl rfl ?_
                            refine x_aloadn (x := 31) rfl rfl ?_
                            refine z_getR (N := 13) (b := 32) 11 0 rfl f_11_10 rfl J rfl 3968 ⟨rfl, rfl⟩ rfl ?_
                            refine z_getR (N := 20) (b := 33) 1 0 rfl f_11_126 rfl J rfl 4096 ⟨rfl, rfl⟩ rfl ?_
                            refine x_iloadn (x := a1) rfl rfl ?_
                            refine x_iconst (v := 1) rfl ki_1 ?_
                            refine x_inv (N := m_X8_at) (As := [.int a1, .int 1]) (b := 33) (st := [.int (-1), .ref 78]) (d' := 1) (mc := 0) (ms := 0) (host := "") 8 rfl t_X8_at ⟨Or.inl q_11_171, i_X8_at.1, i_X8_at.2⟩ ⟨by decide, rfl⟩ (congrArg Prod.fst (J.1.1 33 (8, 4) rfl)) rfl (by decide) rfl rfl ⟨by decide, by decide⟩ (sf_X8_at_r33_c1  hD J  (fun v73 h ev73 J S72 => ?_))
                            have Sm := jSm_tr rfl Sm S72
                            show jX m_X11_order 8 0 0 117 [(6, .int v68), (5, .int v65), (4, .int (-1)), (0, .ref 31), (1, .int a1), (2, .int a2), (3, .int a3)] [.int v73, .int (-1), .ref 78] _ 0 0 _
                            refine x_aloadn (x := 31) rfl rfl ?_
                            refine z_getR (N := 13) (b := 32) 11 0 rfl f_11_10 rfl J rfl 3968 ⟨rfl, rfl⟩ rfl ?_
                            refine z_getR (N := 20) (b := 45) 1 6 rfl f_11_402 rfl J rfl 4102 ⟨rfl, rfl⟩ rfl ?_
                            refine x_iload (x := v68) rfl rfl ?_
                            refine x_iconst (v := 1) rfl ki_1 ?_
                            refine x_inv (N := m_X8_at) (As := [.int v68, .int 1]) (b := 45) (st := [.int v73, .int (-1), .ref 78]) (d' := 1) (mc := 0) (ms := 0) (host := "") 8 rfl t_X8_at ⟨Or.inl q_11_171, i_X8_at.1, i_X8_at.2⟩ ⟨by decide, rfl⟩ (congrArg Prod.fst (J.1.1 45 (8, 4) rfl)) rfl (by decide) rfl rfl ⟨by decide, by decide⟩ (sf_X8_at_r45_c1 (jr_of rfl (by omega)) hD J  (fun v75 h ev75 J S74 => ?_))
                            have Sm := jSm_tr rfl Sm S74
                            show jX m_X11_order 8 0 0 130 [(6, .int v68), (5, .int v65), (4, .int (-1)), (0, .ref 31), (1, .int a1), (2, .int a2), (3, .int a3)] [.int v75, .int v73, .int (-1), .ref 78] _ 0 0 _
                            refine x_inv (N := m_X7_reliefOf) (As := [.int (-1), .int v73, .int v75]) (b := 78) (st := []) (d' := 1) (mc := 0) (ms := 0) (host := "") 7 rfl t_X7_reliefOf ⟨Or.inl q_11_405, i_X7_reliefOf.1, i_X7_reliefOf.2⟩ ⟨by decide, rfl⟩ (congrArg Prod.fst (J.1.1 78 (7, 16) rfl)) rfl (by decide) rfl rfl ⟨by decide, by decide⟩ (sf_X7_reliefOf_r78 (jr_of jk_m1 (by omega)) (jr_of rfl (by omega)) (jr_of rfl (by omega)) hD J  (fun v77 h J S76 => ?_))
                            have ev77 := jfull v77
                            have Sm := jSm_tr rfl Sm S76
                            show jX m_X11_order 8 0 0 133 [(6, .int v68), (5, .int v65), (4, .int (-1)), (0, .ref 31), (1, .int a1), (2, .int a2), (3, .int a3)] [.int v77] _ 0 0 _
                            refine x_iret rfl rfl ?_
                            exact hQ _ _ J Sm
                          ·
                            refine x_iconst (v := 1) rfl ki_1 ?_
                            refine x_iret rfl rfl ?_
                            exact hQ _ _ J Sm
                        ·
                          exact jX.sub jsb_n (ct_X11_order_r31_90 hD hQ  h J Sm)
                    ·
                      refine x_iload (x := v65) rfl rfl ?_
                      refine x_ifeq (tgt := 69) rfl rfl (ti_eq rfl jk_0 ⟨fun c78 => ?_, fun c78 => ?_⟩)
                      ·
                        refine x_iconst (v := 0) rfl ki_0 ?_
                        exact jX.sub jsb_n (ct_X11_order_r31_70 hD hQ  0 h (jr_of jk_0 (by omega)) J Sm)
                      ·
                        refine x_iconst (v := 1) rfl ki_1 ?_
                        refine x_goto (tgt := 70) rfl rfl ?_
                        exact jX.sub jsb_n (ct_X11_order_r31_70 hD hQ  1 h (jr_of jk_1 (by omega)) J Sm)
                  ·
                    refine x_aloadn (x := 78) rfl rfl ?_
                    refine z_getR (N := 16) (b := 79) 7 7 rfl f_7_27 rfl J rfl 9991 ⟨rfl, rfl⟩ rfl ?_
                    refine x_iloadn (x := v11) rfl rfl ?_
                    refine z_iald (N := 600) rfl J rfl sg_79_0_600_1_0_1 rfl (by omega) (fun v79 qv79 ev79 => ?_)
                    refine x_iconst (v := (-1)) rfl ki_m1 ?_
                    refine x_iceq (tgt := 41) rfl rfl (ti_eq rfl jk_m1 ⟨fun c80 => ?_, fun c80 => ?_⟩)
                    ·
                      refine x_iconst (v := 0) rfl ki_0 ?_
                      refine x_zret rfl rfl (by decide) ?_
                      show jX m_X11_soulOn 7 0 0 15 [(0, .ref 31), (1, .int v11), (2, .int a2)] [.int 0] _ 0 0 _
                      refine x_ifne (tgt := 20) rfl rfl (ti_ne jk_0 jk_0 (bn_f (by omega) ?_))
                      refine x_iconst (v := (-1)) rfl ki_m1 ?_
                      refine x_iret rfl rfl ?_
                      show jX m_X11_order 8 0 0 44 [(0, .ref 31), (1, .int a1), (2, .int a2), (3, .int a3)] [.int (-1)] _ 0 0 _
                      refine x_istore (ls' := [(4, .int (-1)), (0, .ref 31), (1, .int a1), (2, .int a2), (3, .int a3)]) rfl rfl rfl ?_
                      refine x_aloadn (x := 31) rfl rfl ?_
                      refine x_iloadn (x := a1) rfl rfl ?_
                      refine x_iload (x := (-1)) rfl rfl ?_
                      refine x_iloadn (x := a2) rfl rfl ?_
                      refine x_inv (N := m_X11_isGood) (As := [.int a1, .int (-1), .int a2]) (b := 31) (st := []) (d' := 6) (mc := 0) (ms := 0) (host := "") 11 rfl t_X11_isGood ⟨Or.inl q_11_396, i_X11_isGood.1, i_X11_isGood.2⟩ ⟨by decide, rfl⟩ (congrArg Prod.fst (J.1.1 31 (11, 13) rfl)) rfl (by decide) rfl rfl ⟨by decide, by decide⟩ (sf_X11_isGood_r31 (jr_of jk_m1 (by omega)) (jr_of rfl (by omega)) hD J  (fun v82 h ev82 J S81 => ?_))
                      have Sm := jSm_tr rfl Sm S81
                      show jX m_X11_order 8 0 0 54 [(4, .int (-1)), (0, .ref 31), (1, .int a1), (2, .int a2), (3, .int a3)] [.int v82] _ 0 0 _
                      refine x_istore (ls' := [(5, .int v82), (4, .int (-1)), (0, .ref 31), (1, .int a1), (2, .int a2), (3, .int a3)]) rfl rfl rfl ?_
                      refine x_iloadn (x := a3) rfl rfl ?_
                      refine x_ifne (tgt := 71) rfl rfl (ti_ne rfl jk_0 ⟨fun c83 => ?_, fun c83 => ?_⟩)
                      ·
                        refine x_aloadn (x := 31) rfl rfl ?_
                        refine x_iloadn (x := a1) rfl rfl ?_
                        refine x_iloadn (x := a2) rfl rfl ?_
                        refine x_inv (N := m_X11_firstAppeal) (As := [.int a1, .int a2]) (b := 31) (st := []) (d' := 2) (mc := 0) (ms := 0) (host := "") 11 rfl t_X11_firstAppeal ⟨Or.inl q_11_399, i_X11_firstAppeal.1, i_X11_firstAppeal.2⟩ ⟨by decide, rfl⟩ (congrArg Prod.fst (J.1.1 31 (11, 13) rfl)) rfl (by decide) rfl rfl ⟨by decide, by decide⟩ (sf_X11_firstAppeal_r31 (jr_of rfl (by omega)) hD J  (fun v85 h ev85 J S84 => ?_))
                        have Sm := jSm_tr rfl Sm S84
                        show jX m_X11_order 8 0 0 77 [(5, .int v82), (4, .int (-1)), (0, .ref 31), (1, .int a1), (2, .int a2), (3, .int a3)] [.int v85] _ 0 0 _
                        refine x_istore (ls' := [(6, .int v85), (5, .int v82), (4, .int (-1)), (0, .ref 31), (1, .int a1), (2, .int a2), (3, .int a3)]) rfl rfl rfl ?_
                        refine x_iload (x := v82) rfl rfl ?_
                        refine x_ifne (tgt := 90) rfl rfl (ti_ne rfl jk_0 ⟨fun c86 => ?_, fun c86 => ?_⟩)
                        ·
                          exact jX.sub jsb_n (ct_X11_order_r31_90 hD hQ  h J Sm)
                        ·
                          refine x_iload (x := v85) rfl rfl ?_
                          refine x_iconst (v := (-1)) rfl ki_m1 ?_
                          refine x_icne (tgt := 92) rfl rfl (ti_ne rfl jk_m1 ⟨fun c87 => ?_, fun c87 => ?_⟩)
                          ·
                            refine x_iloadn (x := a3) rfl rfl ?_
                            refine x_iconst (v := 1) rfl ki_1 ?_
                            refine x_icne (tgt := 99) rfl rfl (ti_ne rfl jk_1 ⟨fun c88 => ?_, fun c88 => ?_⟩)
                            ·
                              refine x_aloadn (x := 31) rfl rfl ?_
                              refine z_getR (N := 13) (b := 78) 11 4 rfl f_11_41 rfl J rfl 3972 ⟨rfl, rfl⟩ rfl ?_
                              refine x_iload (x := (-1)) rfl rfl ?_
                              refine x_aloadn (x := 31) rfl rfl ?_
                              refine z_getR (N := 13) (b := 32) 11 0 rfl f_11_10 rfl J rfl 3968 ⟨rfl, rfl⟩ rfl ?_
                              refine z_getR (N := 20) (b := 33) 1 0 rfl f_11_126 rfl J rfl 4096 ⟨rfl, rfl⟩ rfl ?_
                              refine x_iloadn (x := a1) rfl rfl ?_
                              refine x_iconst (v := 1) rfl ki_1 ?_
                              refine x_inv (N := m_X8_at) (As := [.int a1, .int 1]) (b := 33) (st := [.int (-1), .ref 78]) (d' := 1) (mc := 0) (ms := 0) (host := "") 8 rfl t_X8_at ⟨Or.inl q_11_171, i_X8_at.1, i_X8_at.2⟩ ⟨by decide, rfl⟩ (congrArg Prod.fst (J.1.1 33 (8, 4) rfl)) rfl (by decide) rfl rfl ⟨by decide, by decide⟩ (sf_X8_at_r33_c1  hD J  (fun v90 h ev90 J S89 => ?_))
                              have Sm := jSm_tr rfl Sm S89
                              show jX m_X11_order 8 0 0 117 [(6, .int v85), (5, .int v82), (4, .int (-1)), (0, .ref 31), (1, .int a1), (2, .int a2), (3, .int a3)] [.int v90, .int (-1), .ref 78] _ 0 0 _
                              refine x_aloadn (x := 31) rfl rfl ?_
                              refine z_getR (N := 13) (b := 32) 11 0 rfl f_11_10 rfl J rfl 3968 ⟨rfl, rfl⟩ rfl ?_
                              refine z_getR (N := 20) (b := 45) 1 6 rfl f_11_402 rfl J rfl 4102 ⟨rfl, rfl⟩ rfl ?_
                              refine x_iload (x := v85) rfl rfl ?_
                              refine x_iconst (v := 1) rfl ki_1 ?_
                              refine x_inv (N := m_X8_at) (As := [.int v85, .int 1]) (b := 45) (st := [.int v90, .int (-1), .ref 78]) (d' := 1) (mc := 0) (ms := 0) (host := "") 8 rfl t_X8_at ⟨Or.inl q_11_171, i_X8_at.1, i_X8_at.2⟩ ⟨by decide, rfl⟩ (congrArg Prod.fst (J.1.1 45 (8, 4) rfl)) rfl (by decide) rfl rfl ⟨by decide, by decide⟩ (sf_X8_at_r45_c1 (jr_of rfl (by omega)) hD J  (fun v92 h ev92 J S91 => ?_))
                              have Sm := jSm_tr rfl Sm S91
                              show jX m_X11_order 8 0 0 130 [(6, .int v85), (5, .int v82), (4, .int (-1)), (0, .ref 31), (1, .int a1), (2, .int a2), (3, .int a3)] [.int v92, .int v90, .int (-1), .ref 78] _ 0 0 _
                              refine x_inv (N := m_X7_reliefOf) (As := [.int (-1), .int v90, .int v92]) (b := 78) (st := []) (d' := 1) (mc := 0) (ms := 0) (host := "") 7 rfl t_X7_reliefOf ⟨Or.inl q_11_405, i_X7_reliefOf.1, i_X7_reliefOf.2⟩ ⟨by decide, rfl⟩ (congrArg Prod.fst (J.1.1 78 (7, 16) rfl)) rfl (by decide) rfl rfl ⟨by decide, by decide⟩ (sf_X7_reliefOf_r78 (jr_of jk_m1 (by omega)) (jr_of rfl (by omega)) (jr_of rfl (by omega)) hD J  (fun v94 h J S93 => ?_))
                              have ev94 := jfull v94
                              have Sm := jSm_tr rfl Sm S93
                              show jX m_X11_order 8 0 0 133 [(6, .int v85), (5, .int v82), (4, .int (-1)), (0, .ref 31), (1, .int a1), (2, .int a2), (3, .int a3)] [.int v94] _ 0 0 _
                              refine x_iret rfl rfl ?_
                              exact hQ _ _ J Sm
                            ·
                              refine x_iconst (v := 1) rfl ki_1 ?_
                              refine x_iret rfl rfl ?_
                              exact hQ _ _ J Sm
                          ·
                            exact jX.sub jsb_n (ct_X11_order_r31_90 hD hQ  h J Sm)
                      ·
                        refine x_iload (x := v82) rfl rfl ?_
                        refine x_ifeq (tgt := 69) rfl rfl (ti_eq rfl jk_0 ⟨fun c95 => ?_, fun c95 => ?_⟩)
                        ·
                          refine x_iconst (v := 0) rfl ki_0 ?_
                          exact jX.sub jsb_n (ct_X11_order_r31_70 hD hQ  0 h (jr_of jk_0 (by omega)) J Sm)
                        ·
                          refine x_iconst (v := 1) rfl ki_1 ?_
                          refine x_goto (tgt := 70) rfl rfl ?_
                          exact jX.sub jsb_n (ct_X11_order_r31_70 hD hQ  1 h (jr_of jk_1 (by omega)) J Sm)
                    ·
                      refine x_iconst (v := 1) rfl ki_1 ?_
                      refine x_goto (tgt := 42) rfl rfl ?_
                      refine x_zret rfl rfl (by decide) ?_
                      show jX m_X11_soulOn 7 0 0 15 [(0, .ref 31), (1, .int v11), (2, .int a2)] [.int 1] _ 0 0 _
                      refine x_ifne (tgt := 20) rfl rfl (ti_ne jk_1 jk_0 (bn_t (by omega) ?_))
                      refine x_aloadn (x := 31) rfl rfl ?_
                      refine z_getR (N := 13) (b := 78) 11 4 rfl f_11_41 rfl J rfl 3972 ⟨rfl, rfl⟩ rfl ?_
                      refine x_iloadn (x := a2) rfl rfl ?_
                      refine x_inv (N := m_X7_asKnown) (As := [.int a2]) (b := 78) (st := []) (d' := 6) (mc := 0) (ms := 0) (host := "") 7 rfl t_X7_asKnown ⟨Or.inl q_11_240, i_X7_asKnown.1, i_X7_asKnown.2⟩ ⟨by decide, rfl⟩ (congrArg Prod.fst (J.1.1 78 (7, 16) rfl)) rfl (by decide) rfl rfl ⟨by decide, by decide⟩ (sf_X7_asKnown_r78 (jr_of rfl (by omega)) hD J  (fun h J S96 => ?_))
                      have Sm := jSm_tr rfl Sm S96
                      show jX m_X11_soulOn 7 0 0 28 [(0, .ref 31), (1, .int v11), (2, .int a2)] [] _ 0 0 _
                      refine x_aloadn (x := 31) rfl rfl ?_
                      refine z_getR (N := 13) (b := 78) 11 4 rfl f_11_41 rfl J rfl 3972 ⟨rfl, rfl⟩ rfl ?_
                      refine z_getR (N := 16) (b := 82) 7 10 rfl f_11_537 rfl J rfl 9994 ⟨rfl, rfl⟩ rfl ?_
                      refine x_iloadn (x := v11) rfl rfl ?_
                      refine z_iald (N := 600) rfl J rfl sg_82_0_600_1_0_1 rfl (by omega) (fun v97 qv97 ev97 => ?_)
                      refine x_iret rfl rfl ?_
                      show jX m_X11_order 8 0 0 44 [(0, .ref 31), (1, .int a1), (2, .int a2), (3, .int a3)] [.int v97] _ 0 0 _
                      refine x_istore (ls' := [(4, .int v97), (0, .ref 31), (1, .int a1), (2, .int a2), (3, .int a3)]) rfl rfl rfl ?_
                      refine x_aloadn (x := 31) rfl rfl ?_
                      refine x_iloadn (x := a1) rfl rfl ?_
                      refine x_iload (x := v97) rfl rfl ?_
                      refine x_iloadn (x := a2) rfl rfl ?_
                      refine x_inv (N := m_X11_isGood) (As := [.int a1, .int v97, .int a2]) (b := 31) (st := []) (d' := 6) (mc := 0) (ms := 0) (host := "") 11 rfl t_X11_isGood ⟨Or.inl q_11_396, i_X11_isGood.1, i_X11_isGood.2⟩ ⟨by decide, rfl⟩ (congrArg Prod.fst (J.1.1 31 (11, 13) rfl)) rfl (by decide) rfl rfl ⟨by decide, by decide⟩ (sf_X11_isGood_r31 (jr_of rfl (by omega)) (jr_of rfl (by omega)) hD J  (fun v99 h ev99 J S98 => ?_))
                      have Sm := jSm_tr rfl Sm S98
                      show jX m_X11_order 8 0 0 54 [(4, .int v97), (0, .ref 31), (1, .int a1), (2, .int a2), (3, .int a3)] [.int v99] _ 0 0 _
                      refine x_istore (ls' := [(5, .int v99), (4, .int v97), (0, .ref 31), (1, .int a1), (2, .int a2), (3, .int a3)]) rfl rfl rfl ?_
                      refine x_iloadn (x := a3) rfl rfl ?_
                      refine x_ifne (tgt := 71) rfl rfl (ti_ne rfl jk_0 ⟨fun c100 => ?_, fun c100 => ?_⟩)
                      ·
                        refine x_aloadn (x := 31) rfl rfl ?_
                        refine x_iloadn (x := a1) rfl rfl ?_
                        refine x_iloadn (x := a2) rfl rfl ?_
                        refine x_inv (N := m_X11_firstAppeal) (As := [.int a1, .int a2]) (b := 31) (st := []) (d' := 2) (mc := 0) (ms := 0) (host := "") 11 rfl t_X11_firstAppeal ⟨Or.inl q_11_399, i_X11_firstAppeal.1, i_X11_firstAppeal.2⟩ ⟨by decide, rfl⟩ (congrArg Prod.fst (J.1.1 31 (11, 13) rfl)) rfl (by decide) rfl rfl ⟨by decide, by decide⟩ (sf_X11_firstAppeal_r31 (jr_of rfl (by omega)) hD J  (fun v102 h ev102 J S101 => ?_))
                        have Sm := jSm_tr rfl Sm S101
                        show jX m_X11_order 8 0 0 77 [(5, .int v99), (4, .int v97), (0, .ref 31), (1, .int a1), (2, .int a2), (3, .int a3)] [.int v102] _ 0 0 _
                        refine x_istore (ls' := [(6, .int v102), (5, .int v99), (4, .int v97), (0, .ref 31), (1, .int a1), (2, .int a2), (3, .int a3)]) rfl rfl rfl ?_
                        refine x_iload (x := v99) rfl rfl ?_
                        refine x_ifne (tgt := 90) rfl rfl (ti_ne rfl jk_0 ⟨fun c103 => ?_, fun c103 => ?_⟩)
                        ·
                          exact jX.sub jsb_n (ct_X11_order_r31_90 hD hQ  h J Sm)
                        ·
                          refine x_iload (x := v102) rfl rfl ?_
                          refine x_iconst (v := (-1)) rfl ki_m1 ?_
                          refine x_icne (tgt := 92) rfl rfl (ti_ne rfl jk_m1 ⟨fun c104 => ?_, fun c104 => ?_⟩)
                          ·
                            refine x_iloadn (x := a3) rfl rfl ?_
                            refine x_iconst (v := 1) rfl ki_1 ?_
                            refine x_icne (tgt := 99) rfl rfl (ti_ne rfl jk_1 ⟨fun c105 => ?_, fun c105 => ?_⟩)
                            ·
                              refine x_aloadn (x := 31) rfl rfl ?_
                              refine z_getR (N := 13) (b := 78) 11 4 rfl f_11_41 rfl J rfl 3972 ⟨rfl, rfl⟩ rfl ?_
                              refine x_iload (x := v97) rfl rfl ?_
                              refine x_aloadn (x := 31) rfl rfl ?_
                              refine z_getR (N := 13) (b := 32) 11 0 rfl f_11_10 rfl J rfl 3968 ⟨rfl, rfl⟩ rfl ?_
                              refine z_getR (N := 20) (b := 33) 1 0 rfl f_11_126 rfl J rfl 4096 ⟨rfl, rfl⟩ rfl ?_
                              refine x_iloadn (x := a1) rfl rfl ?_
                              refine x_iconst (v := 1) rfl ki_1 ?_
                              refine x_inv (N := m_X8_at) (As := [.int a1, .int 1]) (b := 33) (st := [.int v97, .ref 78]) (d' := 1) (mc := 0) (ms := 0) (host := "") 8 rfl t_X8_at ⟨Or.inl q_11_171, i_X8_at.1, i_X8_at.2⟩ ⟨by decide, rfl⟩ (congrArg Prod.fst (J.1.1 33 (8, 4) rfl)) rfl (by decide) rfl rfl ⟨by decide, by decide⟩ (sf_X8_at_r33_c1  hD J  (fun v107 h ev107 J S106 => ?_))
                              have Sm := jSm_tr rfl Sm S106
                              show jX m_X11_order 8 0 0 117 [(6, .int v102), (5, .int v99), (4, .int v97), (0, .ref 31), (1, .int a1), (2, .int a2), (3, .int a3)] [.int v107, .int v97, .ref 78] _ 0 0 _
                              refine x_aloadn (x := 31) rfl rfl ?_
                              refine z_getR (N := 13) (b := 32) 11 0 rfl f_11_10 rfl J rfl 3968 ⟨rfl, rfl⟩ rfl ?_
                              refine z_getR (N := 20) (b := 45) 1 6 rfl f_11_402 rfl J rfl 4102 ⟨rfl, rfl⟩ rfl ?_
                              refine x_iload (x := v102) rfl rfl ?_
                              refine x_iconst (v := 1) rfl ki_1 ?_
                              refine x_inv (N := m_X8_at) (As := [.int v102, .int 1]) (b := 45) (st := [.int v107, .int v97, .ref 78]) (d' := 1) (mc := 0) (ms := 0) (host := "") 8 rfl t_X8_at ⟨Or.inl q_11_171, i_X8_at.1, i_X8_at.2⟩ ⟨by decide, rfl⟩ (congrArg Prod.fst (J.1.1 45 (8, 4) rfl)) rfl (by decide) rfl rfl ⟨by decide, by decide⟩ (sf_X8_at_r45_c1 (jr_of rfl (by omega)) hD J  (fun v109 h ev109 J S108 => ?_))
                              have Sm := jSm_tr rfl Sm S108
                              show jX m_X11_order 8 0 0 130 [(6, .int v102), (5, .int v99), (4, .int v97), (0, .ref 31), (1, .int a1), (2, .int a2), (3, .int a3)] [.int v109, .int v107, .int v97, .ref 78] _ 0 0 _
                              refine x_inv (N := m_X7_reliefOf) (As := [.int v97, .int v107, .int v109]) (b := 78) (st := []) (d' := 1) (mc := 0) (ms := 0) (host := "") 7 rfl t_X7_reliefOf ⟨Or.inl q_11_405, i_X7_reliefOf.1, i_X7_reliefOf.2⟩ ⟨by decide, rfl⟩ (congrArg Prod.fst (J.1.1 78 (7, 16) rfl)) rfl (by decide) rfl rfl ⟨by decide, by decide⟩ (sf_X7_reliefOf_r78 (jr_of rfl (by omega)) (jr_of rfl (by omega)) (jr_of rfl (by omega)) hD J  (fun v111 h J S110 => ?_))
                              have ev111 := jfull v111
                              have Sm := jSm_tr rfl Sm S110
                              show jX m_X11_order 8 0 0 133 [(6, .int v102), (5, .int v99), (4, .int v97), (0, .ref 31), (1, .int a1), (2, .int a2), (3, .int a3)] [.int v111] _ 0 0 _
                              refine x_iret rfl rfl ?_
                              exact hQ _ _ J Sm
                            ·
                              refine x_iconst (v := 1) rfl ki_1 ?_
                              refine x_iret rfl rfl ?_
                              exact hQ _ _ J Sm
                          ·
                            exact jX.sub jsb_n (ct_X11_order_r31_90 hD hQ  h J Sm)
                      ·
                        refine x_iload (x := v99) rfl rfl ?_
                        refine x_ifeq (tgt := 69) rfl rfl (ti_eq rfl jk_0 ⟨fun c112 => ?_, fun c112 => ?_⟩)
                        ·
                          refine x_iconst (v := 0) rfl ki_0 ?_
                          exact jX.sub jsb_n (ct_X11_order_r31_70 hD hQ  0 h (jr_of jk_0 (by omega)) J Sm)
                        ·
                          refine x_iconst (v := 1) rfl ki_1 ?_
                          refine x_goto (tgt := 70) rfl rfl ?_
                          exact jX.sub jsb_n (ct_X11_order_r31_70 hD hQ  1 h (jr_of jk_1 (by omega)) J Sm)
          ·
            exact jX.sub jsb_n (ct_X11_order_r31_34 hD hQ  h J Sm)
def fp_X4_owedByAll_r107 : jFp := []
set_option maxRecDepth 100000 in
set_option maxHeartbeats 4000000 in
theorem ct_X4_owedByAll_r107_4 {Dy : jH → Prop} {h0 : jH} {Q : Option Value → jH → Prop} (hD : jDk Dy) (hQ : ∀ (v : Int32) h', jJ jSgX Dy h' → jSm fp_X4_owedByAll_r107 h0 h' → Q (some (.int v)) h') : ∀ r : Nat, ∀ (l1 : Int32) (l2 : Int32) (h : jH), 40 - l2.toInt < (r : Int) → 0 ≤ l2.toInt ∧ l2.toInt ≤ 40 → jJ jSgX Dy h → jSm fp_X4_owedByAll_r107 h0 h → jX m_X4_owedByAll 2 0 0 4 [(0, .ref 107), (1, .int l1), (2, .int l2)] [] h 0 0 Q := by
  intro r
  induction r with
  | zero =>
    intro l1 l2 h hm y0   J Sm
    exfalso
    omega
  | succ r ih =>
    intro l1 l2 h hm y0   J Sm
    have el1 := jfull l1
    refine x_iloadn (x := l2) rfl rfl ?_
    refine x_aloadn (x := 107) rfl rfl ?_
    refine x_inv (N := m_X4_houses) (As := []) (b := 107) (st := [.int l2]) (d' := 1) (mc := 0) (ms := 0) (host := "") 4 rfl t_X4_houses ⟨Or.inl q_4_107, i_X4_houses.1, i_X4_houses.2⟩ ⟨by decide, rfl⟩ (congrArg Prod.fst (J.1.1 107 (4, 18) rfl)) rfl (by decide) rfl rfl ⟨by decide, by decide⟩ (jC.of rfl k_X4_houses rfl ?_)
    show jX m_X4_houses 1 0 0 0 [(0, .ref 107)] [] _ 0 0 _
    refine x_bipush (v := 40) rfl kb_40 ?_
    refine x_aloadn (x := 107) rfl rfl ?_
    refine z_getR (N := 18) (b := 32) 4 0 rfl f_4_59 rfl J rfl 13696 ⟨rfl, rfl⟩ rfl ?_
    refine z_getR (N := 20) (b := 49) 1 8 rfl f_4_71 rfl J rfl 4104 ⟨rfl, rfl⟩ rfl ?_
    refine z_getI (N := 4) 8 3 rfl f_4_77 rfl J rfl sg_49_3_4_1_0_1 (fun v1 qv1 ev1 => ?_)
    refine z_mmin rfl q_4_82 (by decide) rfl jk_40 rfl (fun v2 ev2 => ?_)
    refine x_iret rfl rfl ?_
    show jX m_X4_owedByAll 2 0 0 9 [(0, .ref 107), (1, .int l1), (2, .int l2)] [.int v2, .int l2] _ 0 0 _
    refine x_icge (tgt := 27) rfl rfl (ti_ge rfl rfl ⟨fun c3 => ?_, fun c3 => ?_⟩)
    ·
      refine x_iloadn (x := l1) rfl rfl ?_
      refine x_iret rfl rfl ?_
      exact hQ _ _ J Sm
    ·
      refine x_iloadn (x := l1) rfl rfl ?_
      refine x_aloadn (x := 107) rfl rfl ?_
      refine z_getR (N := 18) (b := 108) 4 3 rfl f_4_9 rfl J rfl 13699 ⟨rfl, rfl⟩ rfl ?_
      refine x_iloadn (x := l2) rfl rfl ?_
      refine z_iald0 (N := 40) rfl J rfl rfl (by omega) (fun v4 qv4 => ?_)
      have ev4 := jfull v4
      refine z_iadd0 rfl (fun v5 => ?_)
      have ev5 := jfull v5
      refine x_istoren (ls' := [(1, .int v5), (0, .ref 107), (2, .int l2)]) rfl rfl rfl ?_
      refine z_iinc (x := l2) (ls' := fun v6 => [(2, .int v6), (1, .int v5), (0, .ref 107)]) rfl rfl rfl jko_1 (by omega) rfl (fun _ => rfl) (fun v6 ev6 => ?_)
      refine x_goto (tgt := 4) rfl rfl ?_
      exact jX.sub (jsb_c rfl (jsb_c rfl (jsb_c rfl jsb_n))) (ih v5 v6 h (by omega) (jr_of rfl (by omega)) J Sm)
set_option maxRecDepth 100000 in
set_option maxHeartbeats 4000000 in
theorem sf_X4_owedByAll_r107 {Dy : jH → Prop} {h : jH} {Q : Option Value → jH → Prop} (hD : jDk Dy) (J : jJ jSgX Dy h) (hQ : ∀ (v : Int32) h', jJ jSgX Dy h' → jSm fp_X4_owedByAll_r107 h h' → Q (some (.int v)) h') : jC m_X4_owedByAll 2 0 0 [.ref 107] h Q := by
  refine jC.of rfl k_X4_owedByAll rfl ?_
  have Sm := jSm_rf fp_X4_owedByAll_r107 h
  show jX m_X4_owedByAll 2 0 0 0 [(0, .ref 107)] [] _ 0 0 _
  refine x_iconst (v := 0) rfl ki_0 ?_
  refine x_istoren (ls' := [(1, .int 0), (0, .ref 107)]) rfl rfl rfl ?_
  refine x_iconst (v := 0) rfl ki_0 ?_
  refine x_istoren (ls' := [(2, .int 0), (1, .int 0), (0, .ref 107)]) rfl rfl rfl ?_
  exact jX.sub (jsb_c rfl (jsb_c rfl (jsb_c rfl jsb_n))) (ct_X4_owedByAll_r107_4 hD hQ  41 0 0 h (by have := jk_0; omega) (jr_of jk_0 (by omega)) J Sm)
def fp_X11_owe_r31 : jFp := [(78, 13, 14), (82, 0, 600), (83, 0, 600), (84, 0, 200), (86, 0, 3), (98, 10, 11), (98, 11, 12), (98, 13, 14), (98, 14, 15), (98, 15, 16), (101, 0, 3), (102, 0, 40), (103, 0, 40), (104, 0, 40), (105, 0, 3), (108, 0, 40), (109, 0, 40), (110, 0, 40), (111, 0, 3)]
set_option maxRecDepth 100000 in
set_option maxHeartbeats 4000000 in
theorem ct_X11_owe_r31_35 {Dy : jH → Prop} {h0 : jH} {Q : Option Value → jH → Prop} (hD : jDk Dy) (hQ : ∀ (v : Int32) h', jJ jSgX Dy h' → jSm fp_X11_owe_r31 h0 h' → Q (some (.int v)) h') : ∀ (h : jH), jJ jSgX Dy h → jSm fp_X11_owe_r31 h0 h → jX m_X11_owe 7 0 0 35 [] [] h 0 0 Q := by
  intro  h    J Sm
  refine x_iconst (v := (-1)) rfl ki_m1 ?_
  refine x_iret rfl rfl ?_
  exact hQ _ _ J Sm
set_option maxRecDepth 100000 in
set_option maxHeartbeats 4000000 in
theorem ct_X11_owe_r31_78 {Dy : jH → Prop} {h0 : jH} {Q : Option Value → jH → Prop} (hD : jDk Dy) (hQ : ∀ (v : Int32) h', jJ jSgX Dy h' → jSm fp_X11_owe_r31 h0 h' → Q (some (.int v)) h') : ∀ (s0 : Int32) (h : jH), jJ jSgX Dy h → jSm fp_X11_owe_r31 h0 h → jX m_X11_owe 7 0 0 78 [] [.int s0] h 0 0 Q := by
  intro s0 h    J Sm
  have es0 := jfull s0
  refine x_iret rfl rfl ?_
  exact hQ _ _ J Sm
set_option maxRecDepth 100000 in
set_option maxHeartbeats 4000000 in
theorem ct_X11_owe_r31_37 {Dy : jH → Prop} {h0 : jH} {Q : Option Value → jH → Prop} (hD : jDk Dy) (hQ : ∀ (v : Int32) h', jJ jSgX Dy h' → jSm fp_X11_owe_r31 h0 h' → Q (some (.int v)) h') : ∀ (l1 : Int32) (l2 : Int32) (l3 : Int32) (h : jH), (-1) ≤ l2.toInt ∧ l2.toInt ≤ 39 → 0 ≤ l3.toInt ∧ l3.toInt ≤ 146399 → jJ jSgX Dy h → jSm fp_X11_owe_r31 h0 h → jX m_X11_owe 7 0 0 37 [(0, .ref 31), (1, .int l1), (2, .int l2), (3, .int l3)] [] h 0 0 Q := by
  intro l1 l2 l3 h y0 y1   J Sm
  have el1 := jfull l1
  refine x_aloadn (x := 31) rfl rfl ?_
  refine z_getR (N := 13) (b := 78) 11 4 rfl f_11_41 rfl J rfl 3972 ⟨rfl, rfl⟩ rfl ?_
  refine x_iloadn (x := l3) rfl rfl ?_
  refine x_inv (N := m_X7_asKnown) (As := [.int l3]) (b := 78) (st := []) (d' := 6) (mc := 0) (ms := 0) (host := "") 7 rfl t_X7_asKnown ⟨Or.inl q_11_240, i_X7_asKnown.1, i_X7_asKnown.2⟩ ⟨by decide, rfl⟩ (congrArg Prod.fst (J.1.1 78 (7, 16) rfl)) rfl (by decide) rfl rfl ⟨by decide, by decide⟩ (sf_X7_asKnown_r78 (jr_of rfl (by omega)) hD J  (fun h J S1 => ?_))
  have Sm := jSm_tr rfl Sm S1
  show jX m_X11_owe 7 0 0 45 [(0, .ref 31), (1, .int l1), (2, .int l2), (3, .int l3)] [] _ 0 0 _
  refine x_aloadn (x := 31) rfl rfl ?_
  refine z_getR (N := 13) (b := 107) 11 8 rfl f_11_75 rfl J rfl 3976 ⟨rfl, rfl⟩ rfl ?_
  refine x_iloadn (x := l1) rfl rfl ?_
  refine x_iloadn (x := l3) rfl rfl ?_
  refine x_inv (N := m_X4_partOut) (As := [.int l1, .int l3]) (b := 107) (st := []) (d' := 5) (mc := 0) (ms := 0) (host := "") 4 rfl t_X4_partOut ⟨Or.inl q_11_443, i_X4_partOut.1, i_X4_partOut.2⟩ ⟨by decide, rfl⟩ (congrArg Prod.fst (J.1.1 107 (4, 18) rfl)) rfl (by decide) rfl rfl ⟨by decide, by decide⟩ (sf_X4_partOut_r107 (jr_of rfl (by omega)) hD J  (fun h J S2 => ?_))
  have Sm := jSm_tr rfl Sm S2
  show jX m_X11_owe 7 0 0 54 [(0, .ref 31), (1, .int l1), (2, .int l2), (3, .int l3)] [] _ 0 0 _
  refine x_iloadn (x := l2) rfl rfl ?_
  refine x_iconst (v := (-1)) rfl ki_m1 ?_
  refine x_icne (tgt := 69) rfl rfl (ti_ne rfl jk_m1 ⟨fun c3 => ?_, fun c3 => ?_⟩)
  ·
    refine x_aloadn (x := 31) rfl rfl ?_
    refine z_getR (N := 13) (b := 107) 11 8 rfl f_11_75 rfl J rfl 3976 ⟨rfl, rfl⟩ rfl ?_
    refine z_getR (N := 18) (b := 108) 4 3 rfl f_11_449 rfl J rfl 13699 ⟨rfl, rfl⟩ rfl ?_
    refine x_iloadn (x := l2) rfl rfl ?_
    refine z_iald0 (N := 40) rfl J rfl rfl (by omega) (fun v4 qv4 => ?_)
    have ev4 := jfull v4
    exact jX.sub jsb_n (ct_X11_owe_r31_78 hD hQ  v4 h J Sm)
  ·
    refine x_aloadn (x := 31) rfl rfl ?_
    refine z_getR (N := 13) (b := 107) 11 8 rfl f_11_75 rfl J rfl 3976 ⟨rfl, rfl⟩ rfl ?_
    refine x_inv (N := m_X4_owedByAll) (As := []) (b := 107) (st := []) (d' := 2) (mc := 0) (ms := 0) (host := "") 4 rfl t_X4_owedByAll ⟨Or.inl q_11_446, i_X4_owedByAll.1, i_X4_owedByAll.2⟩ ⟨by decide, rfl⟩ (congrArg Prod.fst (J.1.1 107 (4, 18) rfl)) rfl (by decide) rfl rfl ⟨by decide, by decide⟩ (sf_X4_owedByAll_r107  hD J  (fun v6 h J S5 => ?_))
    have ev6 := jfull v6
    have Sm := jSm_tr rfl Sm S5
    show jX m_X11_owe 7 0 0 66 [(0, .ref 31), (1, .int l1), (2, .int l2), (3, .int l3)] [.int v6] _ 0 0 _
    refine x_goto (tgt := 78) rfl rfl ?_
    exact jX.sub jsb_n (ct_X11_owe_r31_78 hD hQ  v6 h J Sm)
set_option maxRecDepth 100000 in
set_option maxHeartbeats 4000000 in
theorem sf_X11_owe_r31 {Dy : jH → Prop} {h : jH} {Q : Option Value → jH → Prop} {a1 : Int32} {a2 : Int32} {a3 : Int32} (hD : jDk Dy) (J : jJ jSgX Dy h) (hQ : ∀ (v : Int32) h', jJ jSgX Dy h' → jSm fp_X11_owe_r31 h h' → Q (some (.int v)) h') : jC m_X11_owe 7 0 0 [.ref 31, .int a1, .int a2, .int a3] h Q := by
  refine jC.of rfl k_X11_owe rfl ?_
  have Sm := jSm_rf fp_X11_owe_r31 h
  have ea1 := jfull a1
  have ea2 := jfull a2
  have ea3 := jfull a3
  show jX m_X11_owe 7 0 0 0 [(0, .ref 31), (1, .int a1), (2, .int a2), (3, .int a3)] [] _ 0 0 _
  refine x_iloadn (x := a3) rfl rfl ?_
  refine x_inst (N := m_X11_isDay) (As := [.int a3]) (st := []) (d' := 1) (mc := 0) (ms := 0) (host := "") rfl t_X11_isDay ⟨Or.inl q_11_115, s_X11_isDay⟩ rfl (by decide) rfl rfl ⟨by decide, by decide⟩ (zc_X11_isDay rfl (fun v1 ev1 => ?_))
  show jX m_X11_owe 7 0 0 4 [(0, .ref 31), (1, .int a1), (2, .int a2), (3, .int a3)] [.int v1] _ 0 0 _
  refine x_ifeq (tgt := 35) rfl rfl (ti_eq rfl jk_0 ⟨fun c2 => ?_, fun c2 => ?_⟩)
  ·
    exact jX.sub jsb_n (ct_X11_owe_r31_35 hD hQ  h J Sm)
  ·
    refine x_aloadn (x := 31) rfl rfl ?_
    refine z_getR (N := 13) (b := 32) 11 0 rfl f_11_10 rfl J rfl 3968 ⟨rfl, rfl⟩ rfl ?_
    refine z_getR (N := 20) (b := 53) 1 10 rfl f_11_437 rfl J rfl 4106 ⟨rfl, rfl⟩ rfl ?_
    refine x_iloadn (x := a1) rfl rfl ?_
    refine x_iloadn (x := a3) rfl rfl ?_
    refine x_inv (N := m_X8_isKnown) (As := [.int a1, .int a3]) (b := 53) (st := []) (d' := 1) (mc := 0) (ms := 0) (host := "") 8 rfl t_X8_isKnown ⟨Or.inl q_11_440, i_X8_isKnown.1, i_X8_isKnown.2⟩ ⟨by decide, rfl⟩ (congrArg Prod.fst (J.1.1 53 (8, 4) rfl)) rfl (by decide) rfl rfl ⟨by decide, by decide⟩ (sf_X8_isKnown_r53 (jr_of rfl (by omega)) hD J  (fun v4 h ev4 J S3 => ?_))
    have Sm := jSm_tr rfl Sm S3
    show jX m_X11_owe 7 0 0 19 [(0, .ref 31), (1, .int a1), (2, .int a2), (3, .int a3)] [.int v4] _ 0 0 _
    refine x_ifeq (tgt := 35) rfl rfl (ti_eq rfl jk_0 ⟨fun c5 => ?_, fun c5 => ?_⟩)
    ·
      exact jX.sub jsb_n (ct_X11_owe_r31_35 hD hQ  h J Sm)
    ·
      refine x_iloadn (x := a2) rfl rfl ?_
      refine x_iconst (v := (-1)) rfl ki_m1 ?_
      refine x_iceq (tgt := 37) rfl rfl (ti_eq rfl jk_m1 ⟨fun c6 => ?_, fun c6 => ?_⟩)
      ·
        exact jX.sub (jsb_c rfl (jsb_c rfl (jsb_c rfl (jsb_c rfl jsb_n)))) (ct_X11_owe_r31_37 hD hQ  a1 a2 a3 h (jr_of rfl (by omega)) (jr_of rfl (by omega)) J Sm)
      ·
        refine x_aloadn (x := 31) rfl rfl ?_
        refine x_iloadn (x := a2) rfl rfl ?_
        refine x_inv (N := m_X11_isHolding) (As := [.int a2]) (b := 31) (st := []) (d' := 6) (mc := 0) (ms := 0) (host := "") 11 rfl t_X11_isHolding ⟨Or.inl q_11_415, i_X11_isHolding.1, i_X11_isHolding.2⟩ ⟨by decide, rfl⟩ (congrArg Prod.fst (J.1.1 31 (11, 13) rfl)) rfl (by decide) rfl rfl ⟨by decide, by decide⟩ (jC.of rfl k_X11_isHolding rfl ?_)
        show jX m_X11_isHolding 6 0 0 0 [(0, .ref 31), (1, .int a2)] [] _ 0 0 _
        refine x_iloadn (x := a2) rfl rfl ?_
        refine x_iflt (tgt := 28) rfl rfl (ti_lt rfl jk_0 ⟨fun c7 => ?_, fun c7 => ?_⟩)
        ·
          refine x_iconst (v := 0) rfl ki_0 ?_
          refine x_zret rfl rfl (by decide) ?_
          show jX m_X11_owe 7 0 0 32 [(0, .ref 31), (1, .int a1), (2, .int a2), (3, .int a3)] [.int 0] _ 0 0 _
          refine x_ifne (tgt := 37) rfl rfl (ti_ne jk_0 jk_0 (bn_f (by omega) ?_))
          exact jX.sub jsb_n (ct_X11_owe_r31_35 hD hQ  h J Sm)
        ·
          refine x_iloadn (x := a2) rfl rfl ?_
          refine x_aloadn (x := 31) rfl rfl ?_
          refine z_getR (N := 13) (b := 32) 11 0 rfl f_11_10 rfl J rfl 3968 ⟨rfl, rfl⟩ rfl ?_
          refine z_getR (N := 20) (b := 49) 1 8 rfl f_11_408 rfl J rfl 4104 ⟨rfl, rfl⟩ rfl ?_
          refine z_getI (N := 4) 8 3 rfl f_11_142 rfl J rfl sg_49_3_4_1_0_1 (fun v8 qv8 ev8 => ?_)
          refine x_icge (tgt := 28) rfl rfl (ti_ge rfl rfl ⟨fun c9 => ?_, fun c9 => ?_⟩)
          ·
            refine x_iconst (v := 0) rfl ki_0 ?_
            refine x_zret rfl rfl (by decide) ?_
            show jX m_X11_owe 7 0 0 32 [(0, .ref 31), (1, .int a1), (2, .int a2), (3, .int a3)] [.int 0] _ 0 0 _
            refine x_ifne (tgt := 37) rfl rfl (ti_ne jk_0 jk_0 (bn_f (by omega) ?_))
            exact jX.sub jsb_n (ct_X11_owe_r31_35 hD hQ  h J Sm)
          ·
            refine x_iloadn (x := a2) rfl rfl ?_
            refine x_bipush (v := 40) rfl kb_40 ?_
            refine x_icge (tgt := 28) rfl rfl (ti_ge rfl jk_40 (br_f (by omega) ?_))
            refine x_iconst (v := 1) rfl ki_1 ?_
            refine x_goto (tgt := 29) rfl rfl ?_
            refine x_zret rfl rfl (by decide) ?_
            show jX m_X11_owe 7 0 0 32 [(0, .ref 31), (1, .int a1), (2, .int a2), (3, .int a3)] [.int 1] _ 0 0 _
            refine x_ifne (tgt := 37) rfl rfl (ti_ne jk_1 jk_0 (bn_t (by omega) ?_))
            exact jX.sub (jsb_c rfl (jsb_c rfl (jsb_c rfl (jsb_c rfl jsb_n)))) (ct_X11_owe_r31_37 hD hQ  a1 a2 a3 h (jr_of rfl (by omega)) (jr_of rfl (by omega)) J Sm)
def fp_X8_put_r55_c0 : jFp := [(56, 0, 500)]
set_option maxRecDepth 100000 in
set_option maxHeartbeats 4000000 in
theorem ct_X8_put_r55_c0_38 {Dy : jH → Prop} {h0 : jH} {Q : Option Value → jH → Prop} (hD : jDk Dy) (hQ : ∀ h', jJ jSgX Dy h' → jSm fp_X8_put_r55_c0 h0 h' → Q none h') : ∀ (h : jH), jJ jSgX Dy h → jSm fp_X8_put_r55_c0 h0 h → jX m_X8_put 1 0 0 38 [] [] h 0 0 Q := by
  intro  h    J Sm
  refine x_vret rfl rfl ?_
  exact hQ _ J Sm
set_option maxRecDepth 100000 in
set_option maxHeartbeats 4000000 in
theorem sf_X8_put_r55_c0 {Dy : jH → Prop} {h : jH} {Q : Option Value → jH → Prop} {a1 : Int32} {a3 : Int32} (y1 : 0 ≤ a1.toInt ∧ a1.toInt ≤ 99) (y3 : 0 ≤ a3.toInt ∧ a3.toInt ≤ 146399) (hD : jDk Dy) (J : jJ jSgX Dy h) (hQ : ∀ h', jJ jSgX Dy h' → jSm fp_X8_put_r55_c0 h h' → Q none h') : jC m_X8_put 1 0 0 [.ref 55, .int a1, .int 0, .int a3] h Q := by
  refine jC.of rfl k_X8_put rfl ?_
  have Sm := jSm_rf fp_X8_put_r55_c0 h
  show jX m_X8_put 1 0 0 0 [(0, .ref 55), (1, .int a1), (2, .int 0), (3, .int a3)] [] _ 0 0 _
  refine x_iloadn (x := a1) rfl rfl ?_
  refine x_iflt (tgt := 38) rfl rfl (ti_lt rfl jk_0 (br_f (by omega) ?_))
  refine x_iloadn (x := a1) rfl rfl ?_
  refine x_aloadn (x := 55) rfl rfl ?_
  refine z_getI (N := 4) 8 3 rfl f_8_7 rfl J rfl sg_55_3_4_1_0_1 (fun v1 qv1 ev1 => ?_)
  refine x_icge (tgt := 38) rfl rfl (ti_ge rfl rfl ⟨fun c2 => ?_, fun c2 => ?_⟩)
  ·
    exact jX.sub jsb_n (ct_X8_put_r55_c0_38 hD hQ  h J Sm)
  ·
    refine x_iloadn (x := 0) rfl rfl ?_
    refine x_iflt (tgt := 38) rfl rfl (ti_lt jk_0 jk_0 (br_f (by omega) ?_))
    refine x_iloadn (x := 0) rfl rfl ?_
    refine x_aloadn (x := 55) rfl rfl ?_
    refine z_getC (N := 4) (v := 5) 8 0 rfl f_8_19 rfl J rfl sg_55_0_1_1_0_1 jk_5 ?_
    refine x_icge (tgt := 38) rfl rfl (ti_ge jk_0 jk_5 (br_f (by omega) ?_))
    refine x_aloadn (x := 55) rfl rfl ?_
    refine z_getR (N := 4) (b := 56) 8 2 rfl f_8_25 rfl J rfl 7042 ⟨rfl, rfl⟩ rfl ?_
    refine x_iloadn (x := a1) rfl rfl ?_
    refine x_aloadn (x := 55) rfl rfl ?_
    refine z_getC (N := 4) (v := 5) 8 0 rfl f_8_19 rfl J rfl sg_55_0_1_1_0_1 jk_5 ?_
    refine z_imul rfl rfl jk_5 (by omega) (fun v3 ev3 => ?_)
    refine x_iloadn (x := 0) rfl rfl ?_
    refine z_iadd rfl rfl jk_0 (by omega) (fun v4 ev4 => ?_)
    refine x_iloadn (x := a3) rfl rfl ?_
    refine z_iast (N := 500) (l := 0) (u := 500) (w := a3.toInt) rfl hD J Sm rfl rfl rfl (by omega) rfl (wr_56 (fun q1 q2 q3 q4 => by omega) (fun q1 q2 q3 q4 => by omega) (fun q1 q2 q3 q4 => by omega) (fun q1 q2 q3 q4 => by omega) (fun q1 q2 q3 q4 => by omega)) rfl (fun h w5 J Sm => ?_)
    exact jX.sub jsb_n (ct_X8_put_r55_c0_38 hD hQ  h J Sm)
def fp_X8_put_r55_c1 : jFp := [(56, 0, 500)]
set_option maxRecDepth 100000 in
set_option maxHeartbeats 4000000 in
theorem ct_X8_put_r55_c1_38 {Dy : jH → Prop} {h0 : jH} {Q : Option Value → jH → Prop} (hD : jDk Dy) (hQ : ∀ h', jJ jSgX Dy h' → jSm fp_X8_put_r55_c1 h0 h' → Q none h') : ∀ (h : jH), jJ jSgX Dy h → jSm fp_X8_put_r55_c1 h0 h → jX m_X8_put 1 0 0 38 [] [] h 0 0 Q := by
  intro  h    J Sm
  refine x_vret rfl rfl ?_
  exact hQ _ J Sm
set_option maxRecDepth 100000 in
set_option maxHeartbeats 4000000 in
theorem sf_X8_put_r55_c1 {Dy : jH → Prop} {h : jH} {Q : Option Value → jH → Prop} {a1 : Int32} {a3 : Int32} (y1 : 0 ≤ a1.toInt ∧ a1.toInt ≤ 99) (y3 : 0 ≤ a3.toInt ∧ a3.toInt ≤ 146399) (hD : jDk Dy) (J : jJ jSgX Dy h) (hQ : ∀ h', jJ jSgX Dy h' → jSm fp_X8_put_r55_c1 h h' → Q none h') : jC m_X8_put 1 0 0 [.ref 55, .int a1, .int 1, .int a3] h Q := by
  refine jC.of rfl k_X8_put rfl ?_
  have Sm := jSm_rf fp_X8_put_r55_c1 h
  show jX m_X8_put 1 0 0 0 [(0, .ref 55), (1, .int a1), (2, .int 1), (3, .int a3)] [] _ 0 0 _
  refine x_iloadn (x := a1) rfl rfl ?_
  refine x_iflt (tgt := 38) rfl rfl (ti_lt rfl jk_0 (br_f (by omega) ?_))
  refine x_iloadn (x := a1) rfl rfl ?_
  refine x_aloadn (x := 55) rfl rfl ?_
  refine z_getI (N := 4) 8 3 rfl f_8_7 rfl J rfl sg_55_3_4_1_0_1 (fun v1 qv1 ev1 => ?_)
  refine x_icge (tgt := 38) rfl rfl (ti_ge rfl rfl ⟨fun c2 => ?_, fun c2 => ?_⟩)
  ·
    exact jX.sub jsb_n (ct_X8_put_r55_c1_38 hD hQ  h J Sm)
  ·
    refine x_iloadn (x := 1) rfl rfl ?_
    refine x_iflt (tgt := 38) rfl rfl (ti_lt jk_1 jk_0 (br_f (by omega) ?_))
    refine x_iloadn (x := 1) rfl rfl ?_
    refine x_aloadn (x := 55) rfl rfl ?_
    refine z_getC (N := 4) (v := 5) 8 0 rfl f_8_19 rfl J rfl sg_55_0_1_1_0_1 jk_5 ?_
    refine x_icge (tgt := 38) rfl rfl (ti_ge jk_1 jk_5 (br_f (by omega) ?_))
    refine x_aloadn (x := 55) rfl rfl ?_
    refine z_getR (N := 4) (b := 56) 8 2 rfl f_8_25 rfl J rfl 7042 ⟨rfl, rfl⟩ rfl ?_
    refine x_iloadn (x := a1) rfl rfl ?_
    refine x_aloadn (x := 55) rfl rfl ?_
    refine z_getC (N := 4) (v := 5) 8 0 rfl f_8_19 rfl J rfl sg_55_0_1_1_0_1 jk_5 ?_
    refine z_imul rfl rfl jk_5 (by omega) (fun v3 ev3 => ?_)
    refine x_iloadn (x := 1) rfl rfl ?_
    refine z_iadd rfl rfl jk_1 (by omega) (fun v4 ev4 => ?_)
    refine x_iloadn (x := a3) rfl rfl ?_
    refine z_iast (N := 500) (l := 0) (u := 500) (w := a3.toInt) rfl hD J Sm rfl rfl rfl (by omega) rfl (wr_56 (fun q1 q2 q3 q4 => by omega) (fun q1 q2 q3 q4 => by omega) (fun q1 q2 q3 q4 => by omega) (fun q1 q2 q3 q4 => by omega) (fun q1 q2 q3 q4 => by omega)) rfl (fun h w5 J Sm => ?_)
    exact jX.sub jsb_n (ct_X8_put_r55_c1_38 hD hQ  h J Sm)
