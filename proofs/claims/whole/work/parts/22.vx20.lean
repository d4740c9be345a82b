def fp_X11_line_r31d : jFp := [(31, 12, 13), (32, 19, 20), (33, 3, 4), (34, 0, 1200), (35, 3, 4), (36, 0, 16800), (63, 3, 4), (64, 0, 740), (68, 1, 2), (68, 2, 3), (68, 3, 4), (68, 4, 5), (68, 5, 6), (71, 0, 84), (75, 0, 43200), (76, 0, 1200), (77, 0, 1200), (79, 0, 600), (80, 0, 600), (81, 0, 600)]
set_option maxRecDepth 100000 in
set_option maxHeartbeats 4000000 in
theorem ct_X11_line_r31d_41 {Dy : jH → Prop} {h0 : jH} {Q : Option Value → jH → Prop} {dr : (Int × jW)} (hD : jDk Dy) (hQ : ∀ (v : Int32) hx9, (-6) ≤ v.toInt ∧ v.toInt ≤ 200 → jJ jSgX Dy hx9 → jSm fp_X11_line_r31d h0 hx9 → ∀ u0 u1 : Int32, jiv hx9 68 5 = u0 → jiv hx9 68 3 = u1 → (u0.toInt ≠ 3 ∨ u1.toInt ≤ 399) → dr.1 = v.toInt → dr.2 = vw hx9 → Q (some (.int v)) hx9) : ∀ (g0 : Int32) (g1 : Int32) (h : jH), 0 ≤ g0.toInt ∧ g0.toInt ≤ 400 → 0 ≤ g1.toInt ∧ g1.toInt ≤ 3 → (g1.toInt ≠ 3 ∨ g0.toInt ≤ 399) → jiv h 68 3 = g0 → jiv h 68 5 = g1 → jJ jSgX Dy h → jSm fp_X11_line_r31d h0 h → d_X11_line_r31d_41  (vw h) = dr → jX m_X11_line 6 0 0 41 [(0, .ref 31)] [] h 0 0 Q := by
  intro g0 g1 h y0 y1 y2 z0 z1  J Sm D
  unfold d_X11_line_r31d_41 at D
  try rw [vrf z0] at D
  try rw [vrf z1] at D
  refine x_aloadn (x := 31) rfl rfl ?_
  refine x_iconst (v := (-1)) rfl ki_m1 ?_
  refine x_inv (N := m_X11_refuseTape) (As := [.int (-1)]) (b := 31) (st := []) (dx9 := 5) (mc := 0) (ms := 0) (host := "") 11 rfl t_X11_refuseTape ⟨Or.inl q_11_122, i_X11_refuseTape.1, i_X11_refuseTape.2⟩ ⟨by decide, rfl⟩ (congrArg Prod.fst (J.1.1 31 (11, 13) rfl)) rfl (by decide) rfl rfl ⟨by decide, by decide⟩ (jC.of rfl k_X11_refuseTape rfl ?_)
  show jX m_X11_refuseTape 5 0 0 0 [(0, .ref 31), (1, .int (-1))] [] _ 0 0 _
  refine x_aloadn (x := 31) rfl rfl ?_
  refine z_getR (N := 13) (b := 68) 11 2 rfl f_11_23 rfl J rfl 3970 ⟨rfl, rfl⟩ rfl ?_
  refine x_iconst (v := 0) rfl ki_0 ?_
  refine z_putI (N := 6) (w := 0) 9 1 rfl f_11_106 rfl (jfin_no TX9 RX9 6 rfl rfl) hD J Sm rfl rfl jk_0 (pw_68_1 (by omega)) rfl (fun h w1 J Sm => ?_)
  rw [vwf w1 (show 0 = (0 : Int32).toInt from by have := jk_0; omega)] at D
  refine x_aloadn (x := 31) rfl rfl ?_
  refine x_iloadn (x := (-1)) rfl rfl ?_
  refine x_inv (N := m_X11_refuse) (As := [.int (-1)]) (b := 31) (st := []) (dx9 := 4) (mc := 0) (ms := 0) (host := "") 11 rfl t_X11_refuse ⟨Or.inl q_11_206, i_X11_refuse.1, i_X11_refuse.2⟩ ⟨by decide, rfl⟩ (congrArg Prod.fst (J.1.1 31 (11, 13) rfl)) rfl (by decide) rfl rfl ⟨by decide, by decide⟩ (jC.of rfl k_X11_refuse rfl ?_)
  show jX m_X11_refuse 4 0 0 0 [(0, .ref 31), (1, .int (-1))] [] _ 0 0 _
  refine x_aloadn (x := 31) rfl rfl ?_
  refine x_iloadn (x := (-1)) rfl rfl ?_
  refine z_putI (N := 13) (w := (-1)) 11 12 rfl f_11_94 rfl (jfin_no TX11 RX11 13 rfl rfl) hD J Sm rfl rfl jk_m1 (pw_31_12 (by omega)) rfl (fun h w2 J Sm => ?_)
  rw [vwf w2 (show (-1) = ((-1) : Int32).toInt from by have := jk_m1; omega)] at D
  refine x_iloadn (x := (-1)) rfl rfl ?_
  refine x_iret rfl rfl ?_
  show jX m_X11_refuseTape 5 0 0 13 [(0, .ref 31), (1, .int (-1))] [.int (-1)] _ 0 0 _
  refine x_iret rfl rfl ?_
  show jX m_X11_line 6 0 0 46 [(0, .ref 31)] [.int (-1)] _ 0 0 _
  refine x_iret rfl rfl ?_
  exact hQ _ _ (jr_of jk_m1 (by omega)) J Sm _ _ (jmo w2 rfl (jmo w1 rfl z1)) (jmo w2 rfl (jmo w1 rfl z0)) (by omega) ((congrArg Prod.fst D).symm.trans (show (-1) = ((-1) : Int32).toInt from by have := jk_m1; omega)) (congrArg Prod.snd D).symm
set_option maxRecDepth 100000 in
set_option maxHeartbeats 4000000 in
theorem ct_X11_line_r31d_136 {Dy : jH → Prop} {h0 : jH} {Q : Option Value → jH → Prop} {dr : (Int × jW)} (hD : jDk Dy) (hQ : ∀ (v : Int32) hx9, (-6) ≤ v.toInt ∧ v.toInt ≤ 200 → jJ jSgX Dy hx9 → jSm fp_X11_line_r31d h0 hx9 → ∀ u0 u1 : Int32, jiv hx9 68 5 = u0 → jiv hx9 68 3 = u1 → (u0.toInt ≠ 3 ∨ u1.toInt ≤ 399) → dr.1 = v.toInt → dr.2 = vw hx9 → Q (some (.int v)) hx9) : ∀ r : Nat, ∀ (l7 : Int32) (l8 : Int32) (g0 : Int32) (g1 : Int32) (h : jH), 6 - l8.toInt < (r : Int) → 0 ≤ l7.toInt ∧ l7.toInt ≤ 200 → 0 ≤ l8.toInt ∧ l8.toInt ≤ 6 → 0 ≤ g0.toInt ∧ g0.toInt ≤ 400 → 0 ≤ g1.toInt ∧ g1.toInt ≤ 3 → (g1.toInt ≠ 3 ∨ g0.toInt ≤ 399) → jiv h 68 3 = g0 → jiv h 68 5 = g1 → jJ jSgX Dy h → jSm fp_X11_line_r31d h0 h → d_X11_line_r31d_136 r l7.toInt l8.toInt (vw h) = dr → jX m_X11_line 6 0 0 136 [(0, .ref 31), (7, .int l7), (8, .int l8)] [] h 0 0 Q := by
  intro r
  induction r with
  | zero =>
    intro l7 l8 g0 g1 h hm y0 y1 y2 y3 y4 z0 z1  J Sm D
    exfalso
    omega
  | succ r ih =>
    intro l7 l8 g0 g1 h hm y0 y1 y2 y3 y4 z0 z1  J Sm D
    rw [d_X11_line_r31d_136.eq_2] at D
    try rw [vrf z0] at D
    try rw [vrf z1] at D
    refine x_iload (x := l8) rfl rfl ?_
    refine x_bipush (v := 6) rfl kb_6 ?_
    refine x_icge (tgt := 171) rfl rfl (ti_ge rfl jk_6 ⟨fun c1 => ?_, fun c1 => ?_⟩)
    ·
      rw [if_pos (by omega)] at D
      refine x_aloadn (x := 31) rfl rfl ?_
      refine z_getR (N := 13) (b := 32) 11 0 rfl f_11_10 rfl J rfl 3968 ⟨rfl, rfl⟩ rfl ?_
      refine z_getR (N := 20) (b := 63) 1 15 rfl f_11_159 rfl J rfl 4111 ⟨rfl, rfl⟩ rfl ?_
      refine x_iconst (v := 0) rfl ki_0 ?_
      refine x_iload (x := l7) rfl rfl ?_
      refine x_iconst (v := 0) rfl ki_0 ?_
      refine x_iconst (v := 0) rfl ki_0 ?_
      refine x_iconst (v := 0) rfl ki_0 ?_
      refine x_iconst (v := 0) rfl ki_0 ?_
      refine x_inv (N := m_X8_add) (As := [.int 0, .int l7, .int 0, .int 0, .int 0, .int 0]) (b := 63) (st := []) (dx9 := 2) (mc := 0) (ms := 0) (host := "") 8 rfl t_X8_add ⟨Or.inl q_11_145, i_X8_add.1, i_X8_add.2⟩ ⟨by decide, rfl⟩ (congrArg Prod.fst (J.1.1 63 (8, 4) rfl)) rfl (by decide) rfl rfl ⟨by decide, by decide⟩ (sf_X8_add_r63d (jr_of jk_0 (by omega)) (jr_of rfl (by omega)) (jr_of jk_0 (by omega)) (jr_of jk_0 (by omega)) (jr_of jk_0 (by omega)) (jr_of jk_0 (by omega)) hD J rfl  (fun h J S2 X3 => ?_))
      have Sm := jSm_tr rfl Sm S2
      try rw [jk_0] at X3
      rw [X3] at D
      show jX m_X11_line 6 0 0 188 [(0, .ref 31), (7, .int l7), (8, .int l8)] [] _ 0 0 _
      refine x_aloadn (x := 31) rfl rfl ?_
      refine x_iload (x := l7) rfl rfl ?_
      refine x_inv (N := m_X11_learn) (As := [.int l7]) (b := 31) (st := []) (dx9 := 5) (mc := 0) (ms := 0) (host := "") 11 rfl t_X11_learn ⟨Or.inl q_11_162, i_X11_learn.1, i_X11_learn.2⟩ ⟨by decide, rfl⟩ (congrArg Prod.fst (J.1.1 31 (11, 13) rfl)) rfl (by decide) rfl rfl ⟨by decide, by decide⟩ (jC.of rfl k_X11_learn rfl ?_)
      show jX m_X11_learn 5 0 0 0 [(0, .ref 31), (1, .int l7)] [] _ 0 0 _
      refine x_aloadn (x := 31) rfl rfl ?_
      refine z_getR (N := 13) (b := 70) 11 3 rfl f_11_32 rfl J rfl 3971 ⟨rfl, rfl⟩ rfl ?_
      refine x_iloadn (x := l7) rfl rfl ?_
      refine x_inv (N := m_X5_learn) (As := [.int l7]) (b := 70) (st := []) (dx9 := 4) (mc := 0) (ms := 0) (host := "") 5 rfl t_X5_learn ⟨Or.inl q_11_186, i_X5_learn.1, i_X5_learn.2⟩ ⟨by decide, rfl⟩ (congrArg Prod.fst (J.1.1 70 (5, 9) rfl)) rfl (by decide) rfl rfl ⟨by decide, by decide⟩ (sf_X5_learn_r70d (jr_of rfl (by omega)) hD J rfl  (fun h J S4 X5 => ?_))
      have Sm := jSm_tr rfl Sm S4
      rw [X5] at D
      show jX m_X11_learn 5 0 0 8 [(0, .ref 31), (1, .int l7)] [] _ 0 0 _
      refine x_aloadn (x := 31) rfl rfl ?_
      refine z_getR (N := 13) (b := 78) 11 4 rfl f_11_41 rfl J rfl 3972 ⟨rfl, rfl⟩ rfl ?_
      refine x_iloadn (x := l7) rfl rfl ?_
      refine x_inv (N := m_X7_learn) (As := [.int l7]) (b := 78) (st := []) (dx9 := 2) (mc := 0) (ms := 0) (host := "") 7 rfl t_X7_learn ⟨Or.inl q_11_520, i_X7_learn.1, i_X7_learn.2⟩ ⟨by decide, rfl⟩ (congrArg Prod.fst (J.1.1 78 (7, 16) rfl)) rfl (by decide) rfl rfl ⟨by decide, by decide⟩ (sf_X7_learn_r78d (jr_of rfl (by omega)) hD J rfl  (fun h J S6 X7 => ?_))
      have Sm := jSm_tr rfl Sm S6
      rw [X7] at D
      show jX m_X11_learn 5 0 0 16 [(0, .ref 31), (1, .int l7)] [] _ 0 0 _
      refine x_vret rfl rfl ?_
      show jX m_X11_line 6 0 0 194 [(0, .ref 31), (7, .int l7), (8, .int l8)] [] _ 0 0 _
      refine x_aloadn (x := 31) rfl rfl ?_
      refine x_iload (x := l7) rfl rfl ?_
      refine x_inv (N := m_X11_accept) (As := [.int l7]) (b := 31) (st := []) (dx9 := 5) (mc := 0) (ms := 0) (host := "") 11 rfl t_X11_accept ⟨Or.inl q_11_165, i_X11_accept.1, i_X11_accept.2⟩ ⟨by decide, rfl⟩ (congrArg Prod.fst (J.1.1 31 (11, 13) rfl)) rfl (by decide) rfl rfl ⟨by decide, by decide⟩ (jC.of rfl k_X11_accept rfl ?_)
      show jX m_X11_accept 5 0 0 0 [(0, .ref 31), (1, .int l7)] [] _ 0 0 _
      refine x_aloadn (x := 31) rfl rfl ?_
      refine x_iconst (v := 0) rfl ki_0 ?_
      refine z_putI (N := 13) (w := 0) 11 12 rfl f_11_94 rfl (jfin_no TX11 RX11 13 rfl rfl) hD J Sm rfl rfl jk_0 (pw_31_12 (by omega)) rfl (fun h w8 J Sm => ?_)
      rw [vwf w8 (show 0 = (0 : Int32).toInt from by have := jk_0; omega)] at D
      refine x_aloadn (x := 31) rfl rfl ?_
      refine z_getR (N := 13) (b := 32) 11 0 rfl f_11_10 rfl J rfl 3968 ⟨rfl, rfl⟩ rfl ?_
      refine x_dup rfl rfl ?_
      refine z_getI0 (N := 20) 1 19 rfl f_11_528 rfl J rfl (fun v9 qv9 => ?_)
      have ev9 := jfull v9
      try rw [vrf (jmb_c S2 (jmb_c S4 (jmb_c S6 (jmb_w w8 qv9 rfl) rfl) rfl) rfl)] at D
      refine x_iconst (v := 1) rfl ki_1 ?_
      refine z_iaddW rfl rfl jk_1 (fun v10 ev10 => ?_)
      have fv10 := jfull v10
      try rw [← ev10] at D
      refine z_putI (N := 20) (w := v10.toInt) 1 19 rfl f_11_528 rfl (jfin_no TX1 RX1 20 rfl rfl) hD J Sm rfl rfl rfl (pw_32_19 trivial) rfl (fun h w11 J Sm => ?_)
      rw [vwf w11 (show v10.toInt = v10.toInt from by omega)] at D
      refine x_iloadn (x := l7) rfl rfl ?_
      refine x_iret rfl rfl ?_
      show jX m_X11_line 6 0 0 200 [(0, .ref 31), (7, .int l7), (8, .int l8)] [.int l7] _ 0 0 _
      refine x_iret rfl rfl ?_
      exact hQ _ _ (jr_of rfl (by omega)) J Sm _ _ (jmo w11 rfl (jmo w8 rfl (jmc S6 rfl (jmc S4 rfl (jmc S2 rfl z1))))) (jmo w11 rfl (jmo w8 rfl (jmc S6 rfl (jmc S4 rfl (jmc S2 rfl z0))))) (by omega) ((congrArg Prod.fst D).symm.trans (show l7.toInt = l7.toInt from by omega)) (congrArg Prod.snd D).symm
    ·
      rw [if_neg (by omega)] at D
      refine x_aloadn (x := 31) rfl rfl ?_
      refine z_getR (N := 13) (b := 32) 11 0 rfl f_11_10 rfl J rfl 3968 ⟨rfl, rfl⟩ rfl ?_
      refine z_getR (N := 20) (b := 35) 1 1 rfl f_11_149 rfl J rfl 4097 ⟨rfl, rfl⟩ rfl ?_
      refine x_aloadn (x := 31) rfl rfl ?_
      refine z_getR (N := 13) (b := 70) 11 3 rfl f_11_32 rfl J rfl 3971 ⟨rfl, rfl⟩ rfl ?_
      refine z_getR (N := 9) (b := 71) 5 2 rfl f_11_152 rfl J rfl 8962 ⟨rfl, rfl⟩ rfl ?_
      refine x_iload (x := l8) rfl rfl ?_
      refine x_bipush (v := 14) rfl kb_14 ?_
      refine z_imul rfl rfl jk_14 (by omega) (fun v12 ev12 => ?_)
      try rw [show (l8.toInt * 14) = v12.toInt from by omega] at D
      refine x_inv (N := m_X8_addFrom) (As := [.ref 71, .int v12]) (b := 35) (st := []) (dx9 := 2) (mc := 0) (ms := 0) (host := "") 8 rfl t_X8_addFrom ⟨Or.inl q_11_155, i_X8_addFrom.1, i_X8_addFrom.2⟩ ⟨by decide, rfl⟩ (congrArg Prod.fst (J.1.1 35 (8, 4) rfl)) rfl (by decide) rfl rfl ⟨by decide, by decide⟩ (sf_X8_addFrom_r35_r71d (jr_of rfl (by omega)) (jr_mod rfl (by omega)) hD J rfl  (fun h J S13 X14 => ?_))
      have Sm := jSm_tr rfl Sm S13
      rw [X14] at D
      show jX m_X11_line 6 0 0 165 [(0, .ref 31), (7, .int l7), (8, .int l8)] [] _ 0 0 _
      refine z_iinc (x := l8) (lsx9 := fun v15 => [(8, .int v15), (0, .ref 31), (7, .int l7)]) rfl rfl rfl jko_1 (by omega) rfl (fun _ => rfl) (fun v15 ev15 => ?_)
      refine x_goto (tgt := 136) rfl rfl ?_
      try rw [show (l8.toInt + 1) = v15.toInt from by omega] at D
      exact jX.sub (jsb_c rfl (jsb_c rfl (jsb_c rfl jsb_n))) (ih l7 v15 g0 g1 h (by omega) (jr_of rfl (by omega)) (jr_of rfl (by omega)) (jr_of rfl (by omega)) (jr_of rfl (by omega)) (by omega) (jmc S13 rfl z0) (jmc S13 rfl z1) J Sm D)
set_option maxRecDepth 100000 in
set_option maxHeartbeats 4000000 in
theorem sf_X11_line_r31d {Dy : jH → Prop} {h : jH} {Q : Option Value → jH → Prop} {dr : (Int × jW)} {a1 : Int32} {a2 : Int32} {a3 : Int32} {a4 : Int32} {a5 : Int32} (hD : jDk Dy) (J : jJ jSgX Dy h) {p0 p1 : Int32} (zp0 : jiv h 68 5 = p0) (zp1 : jiv h 68 3 = p1) (rl_p0 : (p0.toInt ≠ 3 ∨ p1.toInt ≤ 399)) (D : d_X11_line_r31d a1.toInt a2.toInt a3.toInt a4.toInt a5.toInt (vw h) = dr) (hQ : ∀ (v : Int32) hx9, (-6) ≤ v.toInt ∧ v.toInt ≤ 200 → jJ jSgX Dy hx9 → jSm fp_X11_line_r31d h hx9 → ∀ u0 u1 : Int32, jiv hx9 68 5 = u0 → jiv hx9 68 3 = u1 → (u0.toInt ≠ 3 ∨ u1.toInt ≤ 399) → dr.1 = v.toInt → dr.2 = vw hx9 → Q (some (.int v)) hx9) : jC m_X11_line 6 0 0 [.ref 31, .int a1, .int a2, .int a3, .int a4, .int a5] h Q := by
  refine jC.of rfl k_X11_line rfl ?_
  have Sm := jSm_rf fp_X11_line_r31d h
  have ep0 := (show 0 ≤ p0.toInt ∧ p0.toInt ≤ 3 from zp0 ▸ jrg_f J sg_68_5_6_1_0_1)
  have ep1 := (show 0 ≤ p1.toInt ∧ p1.toInt ≤ 400 from zp1 ▸ jrg_f J sg_68_3_4_1_0_1)
  have ea1 := jfull a1
  have ea2 := jfull a2
  have ea3 := jfull a3
  have ea4 := jfull a4
  have ea5 := jfull a5
  show jX m_X11_line 6 0 0 0 [(0, .ref 31), (1, .int a1), (2, .int a2), (3, .int a3), (4, .int a4), (5, .int a5)] [] _ 0 0 _
  unfold d_X11_line_r31d at D
  try rw [vrf zp0] at D
  try rw [vrf zp1] at D
  refine x_iloadn (x := a1) rfl rfl ?_
  refine x_inst (N := m_X11_isBook) (As := [.int a1]) (st := []) (dx9 := 1) (mc := 0) (ms := 0) (host := "") rfl t_X11_isBook ⟨Or.inl q_11_112, s_X11_isBook⟩ rfl (by decide) rfl rfl ⟨by decide, by decide⟩ (zc_X11_isBook rfl (fun v1 ev1 => ?_))
  show jX m_X11_line 6 0 0 4 [(0, .ref 31), (1, .int a1), (2, .int a2), (3, .int a3), (4, .int a4), (5, .int a5)] [.int v1] _ 0 0 _
  refine x_ifeq (tgt := 41) rfl rfl (ti_eq rfl jk_0 ⟨fun c2 => ?_, fun c2 => ?_⟩)
  ·
    rw [if_neg (by omega)] at D
    exact jX.sub (jsb_c rfl jsb_n) (ct_X11_line_r31d_41 hD hQ  p1 p0 h (jr_of rfl (by omega)) (jr_of rfl (by omega)) (by omega) zp1 zp0 J Sm D)
  ·
    rw [if_pos (by omega)] at D
    refine x_iloadn (x := a2) rfl rfl ?_
    refine x_iflt (tgt := 41) rfl rfl (ti_lt rfl jk_0 ⟨fun c3 => ?_, fun c3 => ?_⟩)
    ·
      rw [if_pos (by omega)] at D
      exact jX.sub (jsb_c rfl jsb_n) (ct_X11_line_r31d_41 hD hQ  p1 p0 h (jr_of rfl (by omega)) (jr_of rfl (by omega)) (by omega) zp1 zp0 J Sm D)
    ·
      rw [if_neg (by omega)] at D
      refine x_iloadn (x := a2) rfl rfl ?_
      refine x_bipush (v := 15) rfl kb_15 ?_
      refine x_icgt (tgt := 41) rfl rfl (ti_gt rfl jk_15 ⟨fun c4 => ?_, fun c4 => ?_⟩)
      ·
        rw [if_pos (by omega)] at D
        exact jX.sub (jsb_c rfl jsb_n) (ct_X11_line_r31d_41 hD hQ  p1 p0 h (jr_of rfl (by omega)) (jr_of rfl (by omega)) (by omega) zp1 zp0 J Sm D)
      ·
        rw [if_neg (by omega)] at D
        refine x_iloadn (x := a3) rfl rfl ?_
        refine x_inst (N := m_X11_isDay) (As := [.int a3]) (st := []) (dx9 := 1) (mc := 0) (ms := 0) (host := "") rfl t_X11_isDay ⟨Or.inl q_11_115, s_X11_isDay⟩ rfl (by decide) rfl rfl ⟨by decide, by decide⟩ (zc_X11_isDay rfl (fun v5 ev5 => ?_))
        show jX m_X11_line 6 0 0 21 [(0, .ref 31), (1, .int a1), (2, .int a2), (3, .int a3), (4, .int a4), (5, .int a5)] [.int v5] _ 0 0 _
        refine x_ifeq (tgt := 41) rfl rfl (ti_eq rfl jk_0 ⟨fun c6 => ?_, fun c6 => ?_⟩)
        ·
          rw [if_neg (by omega)] at D
          exact jX.sub (jsb_c rfl jsb_n) (ct_X11_line_r31d_41 hD hQ  p1 p0 h (jr_of rfl (by omega)) (jr_of rfl (by omega)) (by omega) zp1 zp0 J Sm D)
        ·
          rw [if_pos (by omega)] at D
          refine x_iload (x := a4) rfl rfl ?_
          refine x_inst (N := m_X11_isDay) (As := [.int a4]) (st := []) (dx9 := 1) (mc := 0) (ms := 0) (host := "") rfl t_X11_isDay ⟨Or.inl q_11_115, s_X11_isDay⟩ rfl (by decide) rfl rfl ⟨by decide, by decide⟩ (zc_X11_isDay rfl (fun v7 ev7 => ?_))
          show jX m_X11_line 6 0 0 29 [(0, .ref 31), (1, .int a1), (2, .int a2), (3, .int a3), (4, .int a4), (5, .int a5)] [.int v7] _ 0 0 _
          refine x_ifeq (tgt := 41) rfl rfl (ti_eq rfl jk_0 ⟨fun c8 => ?_, fun c8 => ?_⟩)
          ·
            rw [if_neg (by omega)] at D
            exact jX.sub (jsb_c rfl jsb_n) (ct_X11_line_r31d_41 hD hQ  p1 p0 h (jr_of rfl (by omega)) (jr_of rfl (by omega)) (by omega) zp1 zp0 J Sm D)
          ·
            rw [if_pos (by omega)] at D
            refine x_iloadn (x := a1) rfl rfl ?_
            refine x_iload (x := a5) rfl rfl ?_
            refine x_inst (N := m_X11_fitsBook) (As := [.int a1, .int a5]) (st := []) (dx9 := 5) (mc := 0) (ms := 0) (host := "") rfl t_X11_fitsBook ⟨Or.inl q_11_118, s_X11_fitsBook⟩ rfl (by decide) rfl rfl ⟨by decide, by decide⟩ (jC.of rfl k_X11_fitsBook rfl ?_)
            show jX m_X11_fitsBook 5 0 0 0 [(0, .int a1), (1, .int a5)] [] _ 0 0 _
            refine x_iloadn (x := a1) rfl rfl ?_
            by_cases c9 : a1.toInt = 2
            ·
              refine x_tableIn (tgt := 32) 2 rfl c9 (by decide) (by decide) rfl rfl ?_
              rw [if_pos c9] at D
              refine x_iloadn (x := a5) rfl rfl ?_
              refine x_iconst (v := (-1)) rfl ki_m1 ?_
              refine x_bipush (v := 120) rfl kb_120 ?_
              refine x_inst (N := m_X11_isWithin) (As := [.int a5, .int (-1), .int 120]) (st := []) (dx9 := 1) (mc := 0) (ms := 0) (host := "") rfl t_X11_isWithin ⟨Or.inl q_11_202, s_X11_isWithin⟩ rfl (by decide) rfl rfl ⟨by decide, by decide⟩ (zc_X11_isWithin rfl jk_m1 jk_120 (fun v10 ev10 => ?_))
              show jX m_X11_fitsBook 5 0 0 39 [(0, .int a1), (1, .int a5)] [.int v10] _ 0 0 _
              refine x_zret rfl rfl (jz01 (by omega)) ?_
              show jX m_X11_line 6 0 0 38 [(0, .ref 31), (1, .int a1), (2, .int a2), (3, .int a3), (4, .int a4), (5, .int a5)] [.int v10] _ 0 0 _
              refine x_ifne (tgt := 47) rfl rfl (ti_ne rfl jk_0 ⟨fun c11 => ?_, fun c11 => ?_⟩)
              ·
                rw [if_pos (by omega)] at D
                refine x_aloadn (x := 31) rfl rfl ?_
                refine z_getR (N := 13) (b := 32) 11 0 rfl f_11_10 rfl J rfl 3968 ⟨rfl, rfl⟩ rfl ?_
                refine z_getR (N := 20) (b := 33) 1 0 rfl f_11_126 rfl J rfl 4096 ⟨rfl, rfl⟩ rfl ?_
                refine x_inv (N := m_X8_isFull) (As := []) (b := 33) (st := []) (dx9 := 1) (mc := 0) (ms := 0) (host := "") 8 rfl t_X8_isFull ⟨Or.inl q_11_130, i_X8_isFull.1, i_X8_isFull.2⟩ ⟨by decide, rfl⟩ (congrArg Prod.fst (J.1.1 33 (8, 4) rfl)) rfl (by decide) rfl rfl ⟨by decide, by decide⟩ (sf_X8_isFull_r33d  hD J rfl  (fun v15 h ev15 J S12 X13 X14 => ?_))
                have Sm := jSm_tr rfl Sm S12
                try rw [X13] at D
                try rw [← X14] at D
                show jX m_X11_line 6 0 0 57 [(0, .ref 31), (1, .int a1), (2, .int a2), (3, .int a3), (4, .int a4), (5, .int a5)] [.int v15] _ 0 0 _
                refine x_ifeq (tgt := 67) rfl rfl (ti_eq rfl jk_0 ⟨fun c16 => ?_, fun c16 => ?_⟩)
                ·
                  rw [if_pos (by omega)] at D
                  refine x_aloadn (x := 31) rfl rfl ?_
                  refine z_getR (N := 13) (b := 70) 11 3 rfl f_11_32 rfl J rfl 3971 ⟨rfl, rfl⟩ rfl ?_
                  refine x_gets jst_1 rfl (by decide +kernel) u_11_136 ?_
                  show jX m_X11_line 6 0 0 74 [(0, .ref 31), (1, .int a1), (2, .int a2), (3, .int a3), (4, .int a4), (5, .int a5)] [.ref 1, .ref 70] _ 0 0 _
                  refine x_iloadn (x := a1) rfl rfl ?_
                  refine z_iald (N := 6) rfl J rfl sg_1_0_6_1_0_1 rfl (by omega) (fun v17 qv17 ev17 => ?_)
                  try rw [vrd qv17 (show a1.toInt = a1.toInt from by omega)] at D
                  refine x_inv (N := m_X5_readLine) (As := [.int v17]) (b := 70) (st := []) (dx9 := 5) (mc := 0) (ms := 0) (host := "") 5 rfl t_X5_readLine ⟨Or.inl q_11_139, i_X5_readLine.1, i_X5_readLine.2⟩ ⟨by decide, rfl⟩ (congrArg Prod.fst (J.1.1 70 (5, 9) rfl)) rfl (by decide) rfl rfl ⟨by decide, by decide⟩ (sf_X5_readLine_r70d (jr_of rfl (by omega)) hD J (jmc S12 rfl zp0) (jmc S12 rfl zp1) (by omega) rfl  (fun v23 h ev23 J S18 u19 u20 qu19 qu20 ru19 X21 X22 => ?_))
                  have Sm := jSm_tr rfl Sm S18
                  try rw [X21] at D
                  try rw [X22] at D
                  have eu19 := (show 0 ≤ u19.toInt ∧ u19.toInt ≤ 3 from qu19 ▸ jrg_f J sg_68_5_6_1_0_1)
                  try rw [vrf qu19] at D
                  have eu20 := (show 0 ≤ u20.toInt ∧ u20.toInt ≤ 400 from qu20 ▸ jrg_f J sg_68_3_4_1_0_1)
                  try rw [vrf qu20] at D
                  show jX m_X11_line 6 0 0 79 [(0, .ref 31), (1, .int a1), (2, .int a2), (3, .int a3), (4, .int a4), (5, .int a5)] [.int v23] _ 0 0 _
                  refine x_istore (lsx9 := [(6, .int v23), (0, .ref 31), (1, .int a1), (2, .int a2), (3, .int a3), (4, .int a4), (5, .int a5)]) rfl rfl rfl ?_
                  refine x_iload (x := v23) rfl rfl ?_
                  refine x_iconst (v := (-1)) rfl ki_m1 ?_
                  refine x_icne (tgt := 94) rfl rfl (ti_ne rfl jk_m1 ⟨fun c24 => ?_, fun c24 => ?_⟩)
                  ·
                    rw [if_neg (by omega)] at D
                    refine x_aloadn (x := 31) rfl rfl ?_
                    refine z_getR (N := 13) (b := 68) 11 2 rfl f_11_23 rfl J rfl 3970 ⟨rfl, rfl⟩ rfl ?_
                    refine x_iconst (v := 0) rfl ki_0 ?_
                    refine z_putI (N := 6) (w := 0) 9 1 rfl f_11_106 rfl (jfin_no TX9 RX9 6 rfl rfl) hD J Sm rfl rfl jk_0 (pw_68_1 (by omega)) rfl (fun h w25 J Sm => ?_)
                    rw [vwf w25 (show 0 = (0 : Int32).toInt from by have := jk_0; omega)] at D
                    refine x_aloadn (x := 31) rfl rfl ?_
                    refine z_getR (N := 13) (b := 32) 11 0 rfl f_11_10 rfl J rfl 3968 ⟨rfl, rfl⟩ rfl ?_
                    refine z_getR (N := 20) (b := 33) 1 0 rfl f_11_126 rfl J rfl 4096 ⟨rfl, rfl⟩ rfl ?_
                    refine z_getI (N := 4) 8 3 rfl f_11_142 rfl J rfl sg_33_3_4_1_0_1 (fun v26 qv26 ev26 => ?_)
                    try rw [vrf (jmb_c S18 (jmb_w w25 qv26 rfl) rfl)] at D
                    refine x_istore (lsx9 := [(7, .int v26), (6, .int v23), (0, .ref 31), (1, .int a1), (2, .int a2), (3, .int a3), (4, .int a4), (5, .int a5)]) rfl rfl rfl ?_
                    refine x_aloadn (x := 31) rfl rfl ?_
                    refine z_getR (N := 13) (b := 32) 11 0 rfl f_11_10 rfl J rfl 3968 ⟨rfl, rfl⟩ rfl ?_
                    refine z_getR (N := 20) (b := 33) 1 0 rfl f_11_126 rfl J rfl 4096 ⟨rfl, rfl⟩ rfl ?_
                    refine x_iload (x := a4) rfl rfl ?_
                    refine x_iloadn (x := a3) rfl rfl ?_
                    refine x_iloadn (x := a1) rfl rfl ?_
                    refine x_iloadn (x := a2) rfl rfl ?_
                    refine x_iload (x := a5) rfl rfl ?_
                    refine x_iload (x := v23) rfl rfl ?_
                    refine x_inv (N := m_X8_add) (As := [.int a4, .int a3, .int a1, .int a2, .int a5, .int v23]) (b := 33) (st := []) (dx9 := 2) (mc := 0) (ms := 0) (host := "") 8 rfl t_X8_add ⟨Or.inl q_11_145, i_X8_add.1, i_X8_add.2⟩ ⟨by decide, rfl⟩ (congrArg Prod.fst (J.1.1 33 (8, 4) rfl)) rfl (by decide) rfl rfl ⟨by decide, by decide⟩ (sf_X8_add_r33d (jr_of rfl (by omega)) (jr_of rfl (by omega)) (jr_of rfl (by omega)) (jr_of rfl (by omega)) (jr_of rfl (by omega)) (jr_of rfl (by omega)) hD J rfl  (fun h J S27 X28 => ?_))
                    have Sm := jSm_tr rfl Sm S27
                    rw [X28] at D
                    show jX m_X11_line 6 0 0 133 [(7, .int v26), (6, .int v23), (0, .ref 31), (1, .int a1), (2, .int a2), (3, .int a3), (4, .int a4), (5, .int a5)] [] _ 0 0 _
                    refine x_iconst (v := 0) rfl ki_0 ?_
                    refine x_istore (lsx9 := [(8, .int 0), (7, .int v26), (6, .int v23), (0, .ref 31), (1, .int a1), (2, .int a2), (3, .int a3), (4, .int a4), (5, .int a5)]) rfl rfl rfl ?_
                    exact jX.sub (jsb_c rfl (jsb_c rfl (jsb_c rfl jsb_n))) (ct_X11_line_r31d_136 hD hQ  7 v26 0 u20 u19 h (by have := jk_0; omega) (jr_of rfl (by omega)) (jr_of jk_0 (by omega)) (jr_of rfl (by omega)) (jr_of rfl (by omega)) (by omega) (jmc S27 rfl (jmo w25 rfl qu20)) (jmc S27 rfl (jmo w25 rfl qu19)) J Sm (by rw [jk_0]; exact D))
                  ·
                    rw [if_pos (by omega)] at D
                    refine x_aloadn (x := 31) rfl rfl ?_
                    refine x_bipush (v := (-6)) rfl kb_m6 ?_
                    refine x_inv (N := m_X11_refuseTape) (As := [.int (-6)]) (b := 31) (st := []) (dx9 := 5) (mc := 0) (ms := 0) (host := "") 11 rfl t_X11_refuseTape ⟨Or.inl q_11_122, i_X11_refuseTape.1, i_X11_refuseTape.2⟩ ⟨by decide, rfl⟩ (congrArg Prod.fst (J.1.1 31 (11, 13) rfl)) rfl (by decide) rfl rfl ⟨by decide, by decide⟩ (jC.of rfl k_X11_refuseTape rfl ?_)
                    show jX m_X11_refuseTape 5 0 0 0 [(0, .ref 31), (1, .int (-6))] [] _ 0 0 _
                    refine x_aloadn (x := 31) rfl rfl ?_
                    refine z_getR (N := 13) (b := 68) 11 2 rfl f_11_23 rfl J rfl 3970 ⟨rfl, rfl⟩ rfl ?_
                    refine x_iconst (v := 0) rfl ki_0 ?_
                    refine z_putI (N := 6) (w := 0) 9 1 rfl f_11_106 rfl (jfin_no TX9 RX9 6 rfl rfl) hD J Sm rfl rfl jk_0 (pw_68_1 (by omega)) rfl (fun h w29 J Sm => ?_)
                    rw [vwf w29 (show 0 = (0 : Int32).toInt from by have := jk_0; omega)] at D
                    refine x_aloadn (x := 31) rfl rfl ?_
                    refine x_iloadn (x := (-6)) rfl rfl ?_
                    refine x_inv (N := m_X11_refuse) (As := [.int (-6)]) (b := 31) (st := []) (dx9 := 4) (mc := 0) (ms := 0) (host := "") 11 rfl t_X11_refuse ⟨Or.inl q_11_206, i_X11_refuse.1, i_X11_refuse.2⟩ ⟨by decide, rfl⟩ (congrArg Prod.fst (J.1.1 31 (11, 13) rfl)) rfl (by decide) rfl rfl ⟨by decide, by decide⟩ (jC.of rfl k_X11_refuse rfl ?_)
                    show jX m_X11_refuse 4 0 0 0 [(0, .ref 31), (1, .int (-6))] [] _ 0 0 _
                    refine x_aloadn (x := 31) rfl rfl ?_
                    refine x_iloadn (x := (-6)) rfl rfl ?_
                    refine z_putI (N := 13) (w := (-6)) 11 12 rfl f_11_94 rfl (jfin_no TX11 RX11 13 rfl rfl) hD J Sm rfl rfl jk_m6 (pw_31_12 (by omega)) rfl (fun h w30 J Sm => ?_)
                    rw [vwf w30 (show (-6) = ((-6) : Int32).toInt from by have := jk_m6; omega)] at D
                    refine x_iloadn (x := (-6)) rfl rfl ?_
                    refine x_iret rfl rfl ?_
                    show jX m_X11_refuseTape 5 0 0 13 [(0, .ref 31), (1, .int (-6))] [.int (-6)] _ 0 0 _
                    refine x_iret rfl rfl ?_
                    show jX m_X11_line 6 0 0 93 [(6, .int v23), (0, .ref 31), (1, .int a1), (2, .int a2), (3, .int a3), (4, .int a4), (5, .int a5)] [.int (-6)] _ 0 0 _
                    refine x_iret rfl rfl ?_
                    exact hQ _ _ (jr_of jk_m6 (by omega)) J Sm _ _ (jmo w30 rfl (jmo w29 rfl qu19)) (jmo w30 rfl (jmo w29 rfl qu20)) (by omega) ((congrArg Prod.fst D).symm.trans (show (-6) = ((-6) : Int32).toInt from by have := jk_m6; omega)) (congrArg Prod.snd D).symm
                ·
                  rw [if_neg (by omega)] at D
                  refine x_aloadn (x := 31) rfl rfl ?_
                  refine x_bipush (v := (-5)) rfl kb_m5 ?_
                  refine x_inv (N := m_X11_refuseTape) (As := [.int (-5)]) (b := 31) (st := []) (dx9 := 5) (mc := 0) (ms := 0) (host := "") 11 rfl t_X11_refuseTape ⟨Or.inl q_11_122, i_X11_refuseTape.1, i_X11_refuseTape.2⟩ ⟨by decide, rfl⟩ (congrArg Prod.fst (J.1.1 31 (11, 13) rfl)) rfl (by decide) rfl rfl ⟨by decide, by decide⟩ (jC.of rfl k_X11_refuseTape rfl ?_)
                  show jX m_X11_refuseTape 5 0 0 0 [(0, .ref 31), (1, .int (-5))] [] _ 0 0 _
                  refine x_aloadn (x := 31) rfl rfl ?_
                  refine z_getR (N := 13) (b := 68) 11 2 rfl f_11_23 rfl J rfl 3970 ⟨rfl, rfl⟩ rfl ?_
                  refine x_iconst (v := 0) rfl ki_0 ?_
                  refine z_putI (N := 6) (w := 0) 9 1 rfl f_11_106 rfl (jfin_no TX9 RX9 6 rfl rfl) hD J Sm rfl rfl jk_0 (pw_68_1 (by omega)) rfl (fun h w31 J Sm => ?_)
                  rw [vwf w31 (show 0 = (0 : Int32).toInt from by have := jk_0; omega)] at D
                  refine x_aloadn (x := 31) rfl rfl ?_
                  refine x_iloadn (x := (-5)) rfl rfl ?_
                  refine x_inv (N := m_X11_refuse) (As := [.int (-5)]) (b := 31) (st := []) (dx9 := 4) (mc := 0) (ms := 0) (host := "") 11 rfl t_X11_refuse ⟨Or.inl q_11_206, i_X11_refuse.1, i_X11_refuse.2⟩ ⟨by decide, rfl⟩ (congrArg Prod.fst (J.1.1 31 (11, 13) rfl)) rfl (by decide) rfl rfl ⟨by decide, by decide⟩ (jC.of rfl k_X11_refuse rfl ?_)
                  show jX m_X11_refuse 4 0 0 0 [(0, .ref 31), (1, .int (-5))] [] _ 0 0 _
                  refine x_aloadn (x := 31) rfl rfl ?_
                  refine x_iloadn (x := (-5)) rfl rfl ?_
                  refine z_putI (N := 13) (w := (-5)) 11 12 rfl f_11_94 rfl (jfin_no TX11 RX11 13 rfl rfl) hD J Sm rfl rfl jk_m5 (pw_31_12 (by omega)) rfl (fun h w32 J Sm => ?_)
                  rw [vwf w32 (show (-5) = ((-5) : Int32).toInt from by have := jk_m5; omega)] at D
                  refine x_iloadn (x := (-5)) rfl rfl ?_
                  refine x_iret rfl rfl ?_
                  show jX m_X11_refuseTape 5 0 0 13 [(0, .ref 31), (1, .int (-5))] [.int (-5)] _ 0 0 _
                  refine x_iret rfl rfl ?_
                  show jX m_X11_line 6 0 0 66 [(0, .ref 31), (1, .int a1), (2, .int a2), (3, .int a3), (4, .int a4), (5, .int a5)] [.int (-5)] _ 0 0 _
                  refine x_iret rfl rfl ?_
                  exact hQ _ _ (jr_of jk_m5 (by omega)) J Sm _ _ (jmo w32 rfl (jmo w31 rfl (jmc S12 rfl zp0))) (jmo w32 rfl (jmo w31 rfl (jmc S12 rfl zp1))) (by omega) ((congrArg Prod.fst D).symm.trans (show (-5) = ((-5) : Int32).toInt from by have := jk_m5; omega)) (congrArg Prod.snd D).symm
              ·
                rw [if_neg (by omega)] at D
                exact jX.sub (jsb_c rfl jsb_n) (ct_X11_line_r31d_41 hD hQ  p1 p0 h (jr_of rfl (by omega)) (jr_of rfl (by omega)) (by omega) zp1 zp0 J Sm D)
            rw [if_neg c9] at D
            by_cases c33 : a1.toInt = 3
            ·
              refine x_tableIn (tgt := 40) 3 rfl c33 (by decide) (by decide) rfl rfl ?_
              rw [if_pos c33] at D
              refine x_iloadn (x := a5) rfl rfl ?_
              refine x_iconst (v := 0) rfl ki_0 ?_
              refine x_ldcw (v := 100000) rfl z_11_531 ?_
              refine x_inst (N := m_X11_isWithin) (As := [.int a5, .int 0, .int 100000]) (st := []) (dx9 := 1) (mc := 0) (ms := 0) (host := "") rfl t_X11_isWithin ⟨Or.inl q_11_202, s_X11_isWithin⟩ rfl (by decide) rfl rfl ⟨by decide, by decide⟩ (zc_X11_isWithin rfl jk_0 jk_100000 (fun v34 ev34 => ?_))
              show jX m_X11_fitsBook 5 0 0 48 [(0, .int a1), (1, .int a5)] [.int v34] _ 0 0 _
              refine x_zret rfl rfl (jz01 (by omega)) ?_
              show jX m_X11_line 6 0 0 38 [(0, .ref 31), (1, .int a1), (2, .int a2), (3, .int a3), (4, .int a4), (5, .int a5)] [.int v34] _ 0 0 _
              refine x_ifne (tgt := 47) rfl rfl (ti_ne rfl jk_0 ⟨fun c35 => ?_, fun c35 => ?_⟩)
              ·
                rw [if_pos (by omega)] at D
                refine x_aloadn (x := 31) rfl rfl ?_
                refine z_getR (N := 13) (b := 32) 11 0 rfl f_11_10 rfl J rfl 3968 ⟨rfl, rfl⟩ rfl ?_
                refine z_getR (N := 20) (b := 33) 1 0 rfl f_11_126 rfl J rfl 4096 ⟨rfl, rfl⟩ rfl ?_
                refine x_inv (N := m_X8_isFull) (As := []) (b := 33) (st := []) (dx9 := 1) (mc := 0) (ms := 0) (host := "") 8 rfl t_X8_isFull ⟨Or.inl q_11_130, i_X8_isFull.1, i_X8_isFull.2⟩ ⟨by decide, rfl⟩ (congrArg Prod.fst (J.1.1 33 (8, 4) rfl)) rfl (by decide) rfl rfl ⟨by decide, by decide⟩ (sf_X8_isFull_r33d  hD J rfl  (fun v39 h ev39 J S36 X37 X38 => ?_))
                have Sm := jSm_tr rfl Sm S36
                try rw [X37] at D
                try rw [← X38] at D
                show jX m_X11_line 6 0 0 57 [(0, .ref 31), (1, .int a1), (2, .int a2), (3, .int a3), (4, .int a4), (5, .int a5)] [.int v39] _ 0 0 _
                refine x_ifeq (tgt := 67) rfl rfl (ti_eq rfl jk_0 ⟨fun c40 => ?_, fun c40 => ?_⟩)
                ·
                  rw [if_pos (by omega)] at D
                  refine x_aloadn (x := 31) rfl rfl ?_
                  refine z_getR (N := 13) (b := 70) 11 3 rfl f_11_32 rfl J rfl 3971 ⟨rfl, rfl⟩ rfl ?_
                  refine x_gets jst_1 rfl (by decide +kernel) u_11_136 ?_
                  show jX m_X11_line 6 0 0 74 [(0, .ref 31), (1, .int a1), (2, .int a2), (3, .int a3), (4, .int a4), (5, .int a5)] [.ref 1, .ref 70] _ 0 0 _
                  refine x_iloadn (x := a1) rfl rfl ?_
                  refine z_iald (N := 6) rfl J rfl sg_1_0_6_1_0_1 rfl (by omega) (fun v41 qv41 ev41 => ?_)
                  try rw [vrd qv41 (show a1.toInt = a1.toInt from by omega)] at D
                  refine x_inv (N := m_X5_readLine) (As := [.int v41]) (b := 70) (st := []) (dx9 := 5) (mc := 0) (ms := 0) (host := "") 5 rfl t_X5_readLine ⟨Or.inl q_11_139, i_X5_readLine.1, i_X5_readLine.2⟩ ⟨by decide, rfl⟩ (congrArg Prod.fst (J.1.1 70 (5, 9) rfl)) rfl (by decide) rfl rfl ⟨by decide, by decide⟩ (sf_X5_readLine_r70d (jr_of rfl (by omega)) hD J (jmc S36 rfl zp0) (jmc S36 rfl zp1) (by omega) rfl  (fun v47 h ev47 J S42 u43 u44 qu43 qu44 ru43 X45 X46 => ?_))
                  have Sm := jSm_tr rfl Sm S42
                  try rw [X45] at D
                  try rw [X46] at D
                  have eu43 := (show 0 ≤ u43.toInt ∧ u43.toInt ≤ 3 from qu43 ▸ jrg_f J sg_68_5_6_1_0_1)
                  try rw [vrf qu43] at D
                  have eu44 := (show 0 ≤ u44.toInt ∧ u44.toInt ≤ 400 from qu44 ▸ jrg_f J sg_68_3_4_1_0_1)
                  try rw [vrf qu44] at D
                  show jX m_X11_line 6 0 0 79 [(0, .ref 31), (1, .int a1), (2, .int a2), (3, .int a3), (4, .int a4), (5, .int a5)] [.int v47] _ 0 0 _
                  refine x_istore (lsx9 := [(6, .int v47), (0, .ref 31), (1, .int a1), (2, .int a2), (3, .int a3), (4, .int a4), (5, .int a5)]) rfl rfl rfl ?_
                  refine x_iload (x := v47) rfl rfl ?_
                  refine x_iconst (v := (-1)) rfl ki_m1 ?_
                  refine x_icne (tgt := 94) rfl rfl (ti_ne rfl jk_m1 ⟨fun c48 => ?_, fun c48 => ?_⟩)
                  ·
                    rw [if_neg (by omega)] at D
                    refine x_aloadn (x := 31) rfl rfl ?_
                    refine z_getR (N := 13) (b := 68) 11 2 rfl f_11_23 rfl J rfl 3970 ⟨rfl, rfl⟩ rfl ?_
                    refine x_iconst (v := 0) rfl ki_0 ?_
                    refine z_putI (N := 6) (w := 0) 9 1 rfl f_11_106 rfl (jfin_no TX9 RX9 6 rfl rfl) hD J Sm rfl rfl jk_0 (pw_68_1 (by omega)) rfl (fun h w49 J Sm => ?_)
                    rw [vwf w49 (show 0 = (0 : Int32).toInt from by have := jk_0; omega)] at D
                    refine x_aloadn (x := 31) rfl rfl ?_
                    refine z_getR (N := 13) (b := 32) 11 0 rfl f_11_10 rfl J rfl 3968 ⟨rfl, rfl⟩ rfl ?_
                    refine z_getR (N := 20) (b := 33) 1 0 rfl f_11_126 rfl J rfl 4096 ⟨rfl, rfl⟩ rfl ?_
                    refine z_getI (N := 4) 8 3 rfl f_11_142 rfl J rfl sg_33_3_4_1_0_1 (fun v50 qv50 ev50 => ?_)
                    try rw [vrf (jmb_c S42 (jmb_w w49 qv50 rfl) rfl)] at D
                    refine x_istore (lsx9 := [(7, .int v50), (6, .int v47), (0, .ref 31), (1, .int a1), (2, .int a2), (3, .int a3), (4, .int a4), (5, .int a5)]) rfl rfl rfl ?_
                    refine x_aloadn (x := 31) rfl rfl ?_
                    refine z_getR (N := 13) (b := 32) 11 0 rfl f_11_10 rfl J rfl 3968 ⟨rfl, rfl⟩ rfl ?_
                    refine z_getR (N := 20) (b := 33) 1 0 rfl f_11_126 rfl J rfl 4096 ⟨rfl, rfl⟩ rfl ?_
                    refine x_iload (x := a4) rfl rfl ?_
                    refine x_iloadn (x := a3) rfl rfl ?_
                    refine x_iloadn (x := a1) rfl rfl ?_
                    refine x_iloadn (x := a2) rfl rfl ?_
                    refine x_iload (x := a5) rfl rfl ?_
                    refine x_iload (x := v47) rfl rfl ?_
                    refine x_inv (N := m_X8_add) (As := [.int a4, .int a3, .int a1, .int a2, .int a5, .int v47]) (b := 33) (st := []) (dx9 := 2) (mc := 0) (ms := 0) (host := "") 8 rfl t_X8_add ⟨Or.inl q_11_145, i_X8_add.1, i_X8_add.2⟩ ⟨by decide, rfl⟩ (congrArg Prod.fst (J.1.1 33 (8, 4) rfl)) rfl (by decide) rfl rfl ⟨by decide, by decide⟩ (sf_X8_add_r33d (jr_of rfl (by omega)) (jr_of rfl (by omega)) (jr_of rfl (by omega)) (jr_of rfl (by omega)) (jr_of rfl (by omega)) (jr_of rfl (by omega)) hD J rfl  (fun h J S51 X52 => ?_))
                    have Sm := jSm_tr rfl Sm S51
                    rw [X52] at D
                    show jX m_X11_line 6 0 0 133 [(7, .int v50), (6, .int v47), (0, .ref 31), (1, .int a1), (2, .int a2), (3, .int a3), (4, .int a4), (5, .int a5)] [] _ 0 0 _
                    refine x_iconst (v := 0) rfl ki_0 ?_
                    refine x_istore (lsx9 := [(8, .int 0), (7, .int v50), (6, .int v47), (0, .ref 31), (1, .int a1), (2, .int a2), (3, .int a3), (4, .int a4), (5, .int a5)]) rfl rfl rfl ?_
                    exact jX.sub (jsb_c rfl (jsb_c rfl (jsb_c rfl jsb_n))) (ct_X11_line_r31d_136 hD hQ  7 v50 0 u44 u43 h (by have := jk_0; omega) (jr_of rfl (by omega)) (jr_of jk_0 (by omega)) (jr_of rfl (by omega)) (jr_of rfl (by omega)) (by omega) (jmc S51 rfl (jmo w49 rfl qu44)) (jmc S51 rfl (jmo w49 rfl qu43)) J Sm (by rw [jk_0]; exact D))
                  ·
                    rw [if_pos (by omega)] at D
                    refine x_aloadn (x := 31) rfl rfl ?_
                    refine x_bipush (v := (-6)) rfl kb_m6 ?_
                    refine x_inv (N := m_X11_refuseTape) (As := [.int (-6)]) (b := 31) (st := []) (dx9 := 5) (mc := 0) (ms := 0) (host := "") 11 rfl t_X11_refuseTape ⟨Or.inl q_11_122, i_X11_refuseTape.1, i_X11_refuseTape.2⟩ ⟨by decide, rfl⟩ (congrArg Prod.fst (J.1.1 31 (11, 13) rfl)) rfl (by decide) rfl rfl ⟨by decide, by decide⟩ (jC.of rfl k_X11_refuseTape rfl ?_)
                    show jX m_X11_refuseTape 5 0 0 0 [(0, .ref 31), (1, .int (-6))] [] _ 0 0 _
                    refine x_aloadn (x := 31) rfl rfl ?_
                    refine z_getR (N := 13) (b := 68) 11 2 rfl f_11_23 rfl J rfl 3970 ⟨rfl, rfl⟩ rfl ?_
                    refine x_iconst (v := 0) rfl ki_0 ?_
                    refine z_putI (N := 6) (w := 0) 9 1 rfl f_11_106 rfl (jfin_no TX9 RX9 6 rfl rfl) hD J Sm rfl rfl jk_0 (pw_68_1 (by omega)) rfl (fun h w53 J Sm => ?_)
                    rw [vwf w53 (show 0 = (0 : Int32).toInt from by have := jk_0; omega)] at D
                    refine x_aloadn (x := 31) rfl rfl ?_
                    refine x_iloadn (x := (-6)) rfl rfl ?_
                    refine x_inv (N := m_X11_refuse) (As := [.int (-6)]) (b := 31) (st := []) (dx9 := 4) (mc := 0) (ms := 0) (host := "") 11 rfl t_X11_refuse ⟨Or.inl q_11_206, i_X11_refuse.1, i_X11_refuse.2⟩ ⟨by decide, rfl⟩ (congrArg Prod.fst (J.1.1 31 (11, 13) rfl)) rfl (by decide) rfl rfl ⟨by decide, by decide⟩ (jC.of rfl k_X11_refuse rfl ?_)
                    show jX m_X11_refuse 4 0 0 0 [(0, .ref 31), (1, .int (-6))] [] _ 0 0 _
                    refine x_aloadn (x := 31) rfl rfl ?_
                    refine x_iloadn (x := (-6)) rfl rfl ?_
                    refine z_putI (N := 13) (w := (-6)) 11 12 rfl f_11_94 rfl (jfin_no TX11 RX11 13 rfl rfl) hD J Sm rfl rfl jk_m6 (pw_31_12 (by omega)) rfl (fun h w54 J Sm => ?_)
                    rw [vwf w54 (show (-6) = ((-6) : Int32).toInt from by have := jk_m6; omega)] at D
                    refine x_iloadn (x := (-6)) rfl rfl ?_
                    refine x_iret rfl rfl ?_
                    show jX m_X11_refuseTape 5 0 0 13 [(0, .ref 31), (1, .int (-6))] [.int (-6)] _ 0 0 _
                    refine x_iret rfl rfl ?_
                    show jX m_X11_line 6 0 0 93 [(6, .int v47), (0, .ref 31), (1, .int a1), (2, .int a2), (3, .int a3), (4, .int a4), (5, .int a5)] [.int (-6)] _ 0 0 _
                    refine x_iret rfl rfl ?_
                    exact hQ _ _ (jr_of jk_m6 (by omega)) J Sm _ _ (jmo w54 rfl (jmo w53 rfl qu43)) (jmo w54 rfl (jmo w53 rfl qu44)) (by omega) ((congrArg Prod.fst D).symm.trans (show (-6) = ((-6) : Int32).toInt from by have := jk_m6; omega)) (congrArg Prod.snd D).symm
                ·
                  rw [if_neg (by omega)] at D
                  refine x_aloadn (x := 31) rfl rfl ?_
                  refine x_bipush (v := (-5)) rfl kb_m5 ?_
                  refine x_inv (N := m_X11_refuseTape) (As := [.int (-5)]) (b := 31) (st := []) (dx9 := 5) (mc := 0) (ms := 0) (host := "") 11 rfl t_X11_refuseTape ⟨Or.inl q_11_122, i_X11_refuseTape.1, i_X11_refuseTape.2⟩ ⟨by decide, rfl⟩ (congrArg Prod.fst (J.1.1 31 (11, 13) rfl)) rfl (by decide) rfl rfl ⟨by decide, by decide⟩ (jC.of rfl k_X11_refuseTape rfl ?_)
                  show jX m_X11_refuseTape 5 0 0 0 [(0, .ref 31), (1, .int (-5))] [] _ 0 0 _
                  refine x_aloadn (x := 31) rfl rfl ?_
                  refine z_getR (N := 13) (b := 68) 11 2 rfl f_11_23 rfl J rfl 3970 ⟨rfl, rfl⟩ rfl ?_
                  refine x_iconst (v := 0) rfl ki_0 ?_
                  refine z_putI (N := 6) (w := 0) 9 1 rfl f_11_106 rfl (jfin_no TX9 RX9 6 rfl rfl) hD J Sm rfl rfl jk_0 (pw_68_1 (by omega)) rfl (fun h w55 J Sm => ?_)
                  rw [vwf w55 (show 0 = (0 : Int32).toInt from by have := jk_0; omega)] at D
                  refine x_aloadn (x := 31) rfl rfl ?_
                  refine x_iloadn (x := (-5)) rfl rfl ?_
                  refine x_inv (N := m_X11_refuse) (As := [.int (-5)]) (b := 31) (st := []) (dx9 := 4) (mc := 0) (ms := 0) (host := "") 11 rfl t_X11_refuse ⟨Or.inl q_11_206, i_X11_refuse.1, i_X11_refuse.2⟩ ⟨by decide, rfl⟩ (congrArg Prod.fst (J.1.1 31 (11, 13) rfl)) rfl (by decide) rfl rfl ⟨by decide, by decide⟩ (jC.of rfl k_X11_refuse rfl ?_)
                  show jX m_X11_refuse 4 0 0 0 [(0, .ref 31), (1, .int (-5))] [] _ 0 0 _
                  refine x_aloadn (x := 31) rfl rfl ?_
                  refine x_iloadn (x := (-5)) rfl rfl ?_
                  refine z_putI (N := 13) (w := (-5)) 11 12 rfl f_11_94 rfl (jfin_no TX11 RX11 13 rfl rfl) hD J Sm rfl rfl jk_m5 (pw_31_12 (by omega)) rfl (fun h w56 J Sm => ?_)
                  rw [vwf w56 (show (-5) = ((-5) : Int32).toInt from by have := jk_m5; omega)] at D
                  refine x_iloadn (x := (-5)) rfl rfl ?_
                  refine x_iret rfl rfl ?_
                  show jX m_X11_refuseTape 5 0 0 13 [(0, .ref 31), (1, .int (-5))] [.int (-5)] _ 0 0 _
                  refine x_iret rfl rfl ?_
                  show jX m_X11_line 6 0 0 66 [(0, .ref 31), (1, .int a1), (2, .int a2), (3, .int a3), (4, .int a4), (5, .int a5)] [.int (-5)] _ 0 0 _
                  refine x_iret rfl rfl ?_
                  exact hQ _ _ (jr_of jk_m5 (by omega)) J Sm _ _ (jmo w56 rfl (jmo w55 rfl (jmc S36 rfl zp0))) (jmo w56 rfl (jmo w55 rfl (jmc S36 rfl zp1))) (by omega) ((congrArg Prod.fst D).symm.trans (show (-5) = ((-5) : Int32).toInt from by have := jk_m5; omega)) (congrArg Prod.snd D).symm
              ·
                rw [if_neg (by omega)] at D
                exact jX.sub (jsb_c rfl jsb_n) (ct_X11_line_r31d_41 hD hQ  p1 p0 h (jr_of rfl (by omega)) (jr_of rfl (by omega)) (by omega) zp1 zp0 J Sm D)
            rw [if_neg c33] at D
            by_cases c57 : a1.toInt = 4
            ·
              refine x_tableIn (tgt := 40) 4 rfl c57 (by decide) (by decide) rfl rfl ?_
              rw [if_pos c57] at D
              refine x_iloadn (x := a5) rfl rfl ?_
              refine x_iconst (v := 0) rfl ki_0 ?_
              refine x_ldcw (v := 100000) rfl z_11_531 ?_
              refine x_inst (N := m_X11_isWithin) (As := [.int a5, .int 0, .int 100000]) (st := []) (dx9 := 1) (mc := 0) (ms := 0) (host := "") rfl t_X11_isWithin ⟨Or.inl q_11_202, s_X11_isWithin⟩ rfl (by decide) rfl rfl ⟨by decide, by decide⟩ (zc_X11_isWithin rfl jk_0 jk_100000 (fun v58 ev58 => ?_))
              show jX m_X11_fitsBook 5 0 0 48 [(0, .int a1), (1, .int a5)] [.int v58] _ 0 0 _
              refine x_zret rfl rfl (jz01 (by omega)) ?_
              show jX m_X11_line 6 0 0 38 [(0, .ref 31), (1, .int a1), (2, .int a2), (3, .int a3), (4, .int a4), (5, .int a5)] [.int v58] _ 0 0 _
              refine x_ifne (tgt := 47) rfl rfl (ti_ne rfl jk_0 ⟨fun c59 => ?_, fun c59 => ?_⟩)
              ·
                rw [if_pos (by omega)] at D
                refine x_aloadn (x := 31) rfl rfl ?_
                refine z_getR (N := 13) (b := 32) 11 0 rfl f_11_10 rfl J rfl 3968 ⟨rfl, rfl⟩ rfl ?_
                refine z_getR (N := 20) (b := 33) 1 0 rfl f_11_126 rfl J rfl 4096 ⟨rfl, rfl⟩ rfl ?_
                refine x_inv (N := m_X8_isFull) (As := []) (b := 33) (st := []) (dx9 := 1) (mc := 0) (ms := 0) (host := "") 8 rfl t_X8_isFull ⟨Or.inl q_11_130, i_X8_isFull.1, i_X8_isFull.2⟩ ⟨by decide, rfl⟩ (congrArg Prod.fst (J.1.1 33 (8, 4) rfl)) rfl (by decide) rfl rfl ⟨by decide, by decide⟩ (sf_X8_isFull_r33d  hD J rfl  (fun v63 h ev63 J S60 X61 X62 => ?_))
                have Sm := jSm_tr rfl Sm S60
                try rw [X61] at D
                try rw [← X62] at D
                show jX m_X11_line 6 0 0 57 [(0, .ref 31), (1, .int a1), (2, .int a2), (3, .int a3), (4, .int a4), (5, .int a5)] [.int v63] _ 0 0 _
                refine x_ifeq (tgt := 67) rfl rfl (ti_eq rfl jk_0 ⟨fun c64 => ?_, fun c64 => ?_⟩)
                ·
                  rw [if_pos (by omega)] at D
                  refine x_aloadn (x := 31) rfl rfl ?_
                  refine z_getR (N := 13) (b := 70) 11 3 rfl f_11_32 rfl J rfl 3971 ⟨rfl, rfl⟩ rfl ?_
                  refine x_gets jst_1 rfl (by decide +kernel) u_11_136 ?_
                  show jX m_X11_line 6 0 0 74 [(0, .ref 31), (1, .int a1), (2, .int a2), (3, .int a3), (4, .int a4), (5, .int a5)] [.ref 1, .ref 70] _ 0 0 _
                  refine x_iloadn (x := a1) rfl rfl ?_
                  refine z_iald (N := 6) rfl J rfl sg_1_0_6_1_0_1 rfl (by omega) (fun v65 qv65 ev65 => ?_)
                  try rw [vrd qv65 (show a1.toInt = a1.toInt from by omega)] at D
                  refine x_inv (N := m_X5_readLine) (As := [.int v65]) (b := 70) (st := []) (dx9 := 5) (mc := 0) (ms := 0) (host := "") 5 rfl t_X5_readLine ⟨Or.inl q_11_139, i_X5_readLine.1, i_X5_readLine.2⟩ ⟨by decide, rfl⟩ (congrArg Prod.fst (J.1.1 70 (5, 9) rfl)) rfl (by decide) rfl rfl ⟨by decide, by decide⟩ (sf_X5_readLine_r70d (jr_of rfl (by omega)) hD J (jmc S60 rfl zp0) (jmc S60 rfl zp1) (by omega) rfl  (fun v71 h ev71 J S66 u67 u68 qu67 qu68 ru67 X69 X70 => ?_))
                  have Sm := jSm_tr rfl Sm S66
                  try rw [X69] at D
                  try rw [X70] at D
                  have eu67 := (show 0 ≤ u67.toInt ∧ u67.toInt ≤ 3 from qu67 ▸ jrg_f J sg_68_5_6_1_0_1)
                  try rw [vrf qu67] at D
                  have eu68 := (show 0 ≤ u68.toInt ∧ u68.toInt ≤ 400 from qu68 ▸ jrg_f J sg_68_3_4_1_0_1)
                  try rw [vrf qu68] at D
                  show jX m_X11_line 6 0 0 79 [(0, .ref 31), (1, .int a1), (2, .int a2), (3, .int a3), (4, .int a4), (5, .int a5)] [.int v71] _ 0 0 _
                  refine x_istore (lsx9 := [(6, .int v71), (0, .ref 31), (1, .int a1), (2, .int a2), (3, .int a3), (4, .int a4), (5, .int a5)]) rfl rfl rfl ?_
                  refine x_iload (x := v71) rfl rfl ?_
                  refine x_iconst (v := (-1)) rfl ki_m1 ?_
                  refine x_icne (tgt := 94) rfl rfl (ti_ne rfl jk_m1 ⟨fun c72 => ?_, fun c72 => ?_⟩)
                  ·
                    rw [if_neg (by omega)] at D
                    refine x_aloadn (x := 31) rfl rfl ?_
                    refine z_getR (N := 13) (b := 68) 11 2 rfl f_11_23 rfl J rfl 3970 ⟨rfl, rfl⟩ rfl ?_
                    refine x_iconst (v := 0) rfl ki_0 ?_
                    refine z_putI (N := 6) (w := 0) 9 1 rfl f_11_106 rfl (jfin_no TX9 RX9 6 rfl rfl) hD J Sm rfl rfl jk_0 (pw_68_1 (by omega)) rfl (fun h w73 J Sm => ?_)
                    rw [vwf w73 (show 0 = (0 : Int32).toInt from by have := jk_0; omega)] at D
                    refine x_aloadn (x := 31) rfl rfl ?_
                    refine z_getR (N := 13) (b := 32) 11 0 rfl f_11_10 rfl J rfl 3968 ⟨rfl, rfl⟩ rfl ?_
                    refine z_getR (N := 20) (b := 33) 1 0 rfl f_11_126 rfl J rfl 4096 ⟨rfl, rfl⟩ rfl ?_
                    refine z_getI (N := 4) 8 3 rfl f_11_142 rfl J rfl sg_33_3_4_1_0_1 (fun v74 qv74 ev74 => ?_)
                    try rw [vrf (jmb_c S66 (jmb_w w73 qv74 rfl) rfl)] at D
                    refine x_istore (lsx9 := [(7, .int v74), (6, .int v71), (0, .ref 31), (1, .int a1), (2, .int a2), (3, .int a3), (4, .int a4), (5, .int a5)]) rfl rfl rfl ?_
                    refine x_aloadn (x := 31) rfl rfl ?_
                    refine z_getR (N := 13) (b := 32) 11 0 rfl f_11_10 rfl J rfl 3968 ⟨rfl, rfl⟩ rfl ?_
                    refine z_getR (N := 20) (b := 33) 1 0 rfl f_11_126 rfl J rfl 4096 ⟨rfl, rfl⟩ rfl ?_
                    refine x_iload (x := a4) rfl rfl ?_
                    refine x_iloadn (x := a3) rfl rfl ?_
                    refine x_iloadn (x := a1) rfl rfl ?_
                    refine x_iloadn (x := a2) rfl rfl ?_
                    refine x_iload (x := a5) rfl rfl ?_
                    refine x_iload (x := v71) rfl rfl ?_
                    refine x_inv (N := m_X8_add) (As := [.int a4, .int a3, .int a1, .int a2, .int a5, .int v71]) (b := 33) (st := []) (dx9 := 2) (mc := 0) (ms := 0) (host := "") 8 rfl t_X8_add ⟨Or.inl q_11_145, i_X8_add.1, i_X8_add.2⟩ ⟨by decide, rfl⟩ (congrArg Prod.fst (J.1.1 33 (8, 4) rfl)) rfl (by decide) rfl rfl ⟨by decide, by decide⟩ (sf_X8_add_r33d (jr_of rfl (by omega)) (jr_of rfl (by omega)) (jr_of rfl (by omega)) (jr_of rfl (by omega)) (jr_of rfl (by omega)) (jr_of rfl (by omega)) hD J rfl  (fun h J S75 X76 => ?_))
                    have Sm := jSm_tr rfl Sm S75
                    rw [X76] at D
                    show jX m_X11_line 6 0 0 133 [(7, .int v74), (6, .int v71), (0, .ref 31), (1, .int a1), (2, .int a2), (3, .int a3), (4, .int a4), (5, .int a5)] [] _ 0 0 _
                    refine x_iconst (v := 0) rfl ki_0 ?_
                    refine x_istore (lsx9 := [(8, .int 0), (7, .int v74), (6, .int v71), (0, .ref 31), (1, .int a1), (2, .int a2), (3, .int a3), (4, .int a4), (5, .int a5)]) rfl rfl rfl ?_
                    exact jX.sub (jsb_c rfl (jsb_c rfl (jsb_c rfl jsb_n))) (ct_X11_line_r31d_136 hD hQ  7 v74 0 u68 u67 h (by have := jk_0; omega) (jr_of rfl (by omega)) (jr_of jk_0 (by omega)) (jr_of rfl (by omega)) (jr_of rfl (by omega)) (by omega) (jmc S75 rfl (jmo w73 rfl qu68)) (jmc S75 rfl (jmo w73 rfl qu67)) J Sm (by rw [jk_0]; exact D))
                  ·
                    rw [if_pos (by omega)] at D
                    refine x_aloadn (x := 31) rfl rfl ?_
                    refine x_bipush (v := (-6)) rfl kb_m6 ?_
                    refine x_inv (N := m_X11_refuseTape) (As := [.int (-6)]) (b := 31) (st := []) (dx9 := 5) (mc := 0) (ms := 0) (host := "") 11 rfl t_X11_refuseTape ⟨Or.inl q_11_122, i_X11_refuseTape.1, i_X11_refuseTape.2⟩ ⟨by decide, rfl⟩ (congrArg Prod.fst (J.1.1 31 (11, 13) rfl)) rfl (by decide) rfl rfl ⟨by decide, by decide⟩ (jC.of rfl k_X11_refuseTape rfl ?_)
                    show jX m_X11_refuseTape 5 0 0 0 [(0, .ref 31), (1, .int (-6))] [] _ 0 0 _
                    refine x_aloadn (x := 31) rfl rfl ?_
                    refine z_getR (N := 13) (b := 68) 11 2 rfl f_11_23 rfl J rfl 3970 ⟨rfl, rfl⟩ rfl ?_
                    refine x_iconst (v := 0) rfl ki_0 ?_
                    refine z_putI (N := 6) (w := 0) 9 1 rfl f_11_106 rfl (jfin_no TX9 RX9 6 rfl rfl) hD J Sm rfl rfl jk_0 (pw_68_1 (by omega)) rfl (fun h w77 J Sm => ?_)
                    rw [vwf w77 (show 0 = (0 : Int32).toInt from by have := jk_0; omega)] at D
                    refine x_aloadn (x := 31) rfl rfl ?_
                    refine x_iloadn (x := (-6)) rfl rfl ?_
                    refine x_inv (N := m_X11_refuse) (As := [.int (-6)]) (b := 31) (st := []) (dx9 := 4) (mc := 0) (ms := 0) (host := "") 11 rfl t_X11_refuse ⟨Or.inl q_11_206, i_X11_refuse.1, i_X11_refuse.2⟩ ⟨by decide, rfl⟩ (congrArg Prod.fst (J.1.1 31 (11, 13) rfl)) rfl (by decide) rfl rfl ⟨by decide, by decide⟩ (jC.of rfl k_X11_refuse rfl ?_)
                    show jX m_X11_refuse 4 0 0 0 [(0, .ref 31), (1, .int (-6))] [] _ 0 0 _
                    refine x_aloadn (x := 31) rfl rfl ?_
                    refine x_iloadn (x := (-6)) rfl rfl ?_
                    refine z_putI (N := 13) (w := (-6)) 11 12 rfl f_11_94 rfl (jfin_no TX11 RX11 13 rfl rfl) hD J Sm rfl rfl jk_m6 (pw_31_12 (by omega)) rfl (fun h w78 J Sm => ?_)
                    rw [vwf w78 (show (-6) = ((-6) : Int32).toInt from by have := jk_m6; omega)] at D
                    refine x_iloadn (x := (-6)) rfl rfl ?_
                    refine x_iret rfl rfl ?_
                    show jX m_X11_refuseTape 5 0 0 13 [(0, .ref 31), (1, .int (-6))] [.int (-6)] _ 0 0 _
                    refine x_iret rfl rfl ?_
                    show jX m_X11_line 6 0 0 93 [(6, .int v71), (0, .ref 31), (1, .int a1), (2, .int a2), (3, .int a3), (4, .int a4), (5, .int a5)] [.int (-6)] _ 0 0 _
                    refine x_iret rfl rfl ?_
                    exact hQ _ _ (jr_of jk_m6 (by omega)) J Sm _ _ (jmo w78 rfl (jmo w77 rfl qu67)) (jmo w78 rfl (jmo w77 rfl qu68)) (by omega) ((congrArg Prod.fst D).symm.trans (show (-6) = ((-6) : Int32).toInt from by have := jk_m6; omega)) (congrArg Prod.snd D).symm
                ·
                  rw [if_neg (by omega)] at D
                  refine x_aloadn (x := 31) rfl rfl ?_
                  refine x_bipush (v := (-5)) rfl kb_m5 ?_
                  refine x_inv (N := m_X11_refuseTape) (As := [.int (-5)]) (b := 31) (st := []) (dx9 := 5) (mc := 0) (ms := 0) (host := "") 11 rfl t_X11_refuseTape ⟨Or.inl q_11_122, i_X11_refuseTape.1, i_X11_refuseTape.2⟩ ⟨by decide, rfl⟩ (congrArg Prod.fst (J.1.1 31 (11, 13) rfl)) rfl (by decide) rfl rfl ⟨by decide, by decide⟩ (jC.of rfl k_X11_refuseTape rfl ?_)
                  show jX m_X11_refuseTape 5 0 0 0 [(0, .ref 31), (1, .int (-5))] [] _ 0 0 _
                  refine x_aloadn (x := 31) rfl rfl ?_
                  refine z_getR (N := 13) (b := 68) 11 2 rfl f_11_23 rfl J rfl 3970 ⟨rfl, rfl⟩ rfl ?_
                  refine x_iconst (v := 0) rfl ki_0 ?_
                  refine z_putI (N := 6) (w := 0) 9 1 rfl f_11_106 rfl (jfin_no TX9 RX9 6 rfl rfl) hD J Sm rfl rfl jk_0 (pw_68_1 (by omega)) rfl (fun h w79 J Sm => ?_)
                  rw [vwf w79 (show 0 = (0 : Int32).toInt from by have := jk_0; omega)] at D
                  refine x_aloadn (x := 31) rfl rfl ?_
                  refine x_iloadn (x := (-5)) rfl rfl ?_
                  refine x_inv (N := m_X11_refuse) (As := [.int (-5)]) (b := 31) (st := []) (dx9 := 4) (mc := 0) (ms := 0) (host := "") 11 rfl t_X11_refuse ⟨Or.inl q_11_206, i_X11_refuse.1, i_X11_refuse.2⟩ ⟨by decide, rfl⟩ (congrArg Prod.fst (J.1.1 31 (11, 13) rfl)) rfl (by decide) rfl rfl ⟨by decide, by decide⟩ (jC.of rfl k_X11_refuse rfl ?_)
                  show jX m_X11_refuse 4 0 0 0 [(0, .ref 31), (1, .int (-5))] [] _ 0 0 _
                  refine x_aloadn (x := 31) rfl rfl ?_
                  refine x_iloadn (x := (-5)) rfl rfl ?_
                  refine z_putI (N := 13) (w := (-5)) 11 12 rfl f_11_94 rfl (jfin_no TX11 RX11 13 rfl rfl) hD J Sm rfl rfl jk_m5 (pw_31_12 (by omega)) rfl (fun h w80 J Sm => ?_)
                  rw [vwf w80 (show (-5) = ((-5) : Int32).toInt from by have := jk_m5; omega)] at D
                  refine x_iloadn (x := (-5)) rfl rfl ?_
                  refine x_iret rfl rfl ?_
                  show jX m_X11_refuseTape 5 0 0 13 [(0, .ref 31), (1, .int (-5))] [.int (-5)] _ 0 0 _
                  refine x_iret rfl rfl ?_
                  show jX m_X11_line 6 0 0 66 [(0, .ref 31), (1, .int a1), (2, .int a2), (3, .int a3), (4, .int a4), (5, .int a5)] [.int (-5)] _ 0 0 _
                  refine x_iret rfl rfl ?_
                  exact hQ _ _ (jr_of jk_m5 (by omega)) J Sm _ _ (jmo w80 rfl (jmo w79 rfl (jmc S60 rfl zp0))) (jmo w80 rfl (jmo w79 rfl (jmc S60 rfl zp1))) (by omega) ((congrArg Prod.fst D).symm.trans (show (-5) = ((-5) : Int32).toInt from by have := jk_m5; omega)) (congrArg Prod.snd D).symm
              ·
                rw [if_neg (by omega)] at D
                exact jX.sub (jsb_c rfl jsb_n) (ct_X11_line_r31d_41 hD hQ  p1 p0 h (jr_of rfl (by omega)) (jr_of rfl (by omega)) (by omega) zp1 zp0 J Sm D)
            rw [if_neg c57] at D
            by_cases c81 : a1.toInt = 5
            ·
              refine x_tableIn (tgt := 49) 5 rfl c81 (by decide) (by decide) rfl rfl ?_
              rw [if_pos c81] at D
              refine x_iloadn (x := a5) rfl rfl ?_
              refine x_iconst (v := 1) rfl ki_1 ?_
              refine x_bipush (v := 11) rfl kb_11 ?_
              refine x_inst (N := m_X11_isWithin) (As := [.int a5, .int 1, .int 11]) (st := []) (dx9 := 1) (mc := 0) (ms := 0) (host := "") rfl t_X11_isWithin ⟨Or.inl q_11_202, s_X11_isWithin⟩ rfl (by decide) rfl rfl ⟨by decide, by decide⟩ (zc_X11_isWithin rfl jk_1 jk_11 (fun v82 ev82 => ?_))
              show jX m_X11_fitsBook 5 0 0 56 [(0, .int a1), (1, .int a5)] [.int v82] _ 0 0 _
              refine x_zret rfl rfl (jz01 (by omega)) ?_
              show jX m_X11_line 6 0 0 38 [(0, .ref 31), (1, .int a1), (2, .int a2), (3, .int a3), (4, .int a4), (5, .int a5)] [.int v82] _ 0 0 _
              refine x_ifne (tgt := 47) rfl rfl (ti_ne rfl jk_0 ⟨fun c83 => ?_, fun c83 => ?_⟩)
              ·
                rw [if_pos (by omega)] at D
                refine x_aloadn (x := 31) rfl rfl ?_
                refine z_getR (N := 13) (b := 32) 11 0 rfl f_11_10 rfl J rfl 3968 ⟨rfl, rfl⟩ rfl ?_
                refine z_getR (N := 20) (b := 33) 1 0 rfl f_11_126 rfl J rfl 4096 ⟨rfl, rfl⟩ rfl ?_
                refine x_inv (N := m_X8_isFull) (As := []) (b := 33) (st := []) (dx9 := 1) (mc := 0) (ms := 0) (host := "") 8 rfl t_X8_isFull ⟨Or.inl q_11_130, i_X8_isFull.1, i_X8_isFull.2⟩ ⟨by decide, rfl⟩ (congrArg Prod.fst (J.1.1 33 (8, 4) rfl)) rfl (by decide) rfl rfl ⟨by decide, by decide⟩ (sf_X8_isFull_r33d  hD J rfl  (fun v87 h ev87 J S84 X85 X86 => ?_))
                have Sm := jSm_tr rfl Sm S84
                try rw [X85] at D
                try rw [← X86] at D
                show jX m_X11_line 6 0 0 57 [(0, .ref 31), (1, .int a1), (2, .int a2), (3, .int a3), (4, .int a4), (5, .int a5)] [.int v87] _ 0 0 _
                refine x_ifeq (tgt := 67) rfl rfl (ti_eq rfl jk_0 ⟨fun c88 => ?_, fun c88 => ?_⟩)
                ·
                  rw [if_pos (by omega)] at D
                  refine x_aloadn (x := 31) rfl rfl ?_
                  refine z_getR (N := 13) (b := 70) 11 3 rfl f_11_32 rfl J rfl 3971 ⟨rfl, rfl⟩ rfl ?_
                  refine x_gets jst_1 rfl (by decide +kernel) u_11_136 ?_
                  show jX m_X11_line 6 0 0 74 [(0, .ref 31), (1, .int a1), (2, .int a2), (3, .int a3), (4, .int a4), (5, .int a5)] [.ref 1, .ref 70] _ 0 0 _
                  refine x_iloadn (x := a1) rfl rfl ?_
                  refine z_iald (N := 6) rfl J rfl sg_1_0_6_1_0_1 rfl (by omega) (fun v89 qv89 ev89 => ?_)
                  try rw [vrd qv89 (show a1.toInt = a1.toInt from by omega)] at D
                  refine x_inv (N := m_X5_readLine) (As := [.int v89]) (b := 70) (st := []) (dx9 := 5) (mc := 0) (ms := 0) (host := "") 5 rfl t_X5_readLine ⟨Or.inl q_11_139, i_X5_readLine.1, i_X5_readLine.2⟩ ⟨by decide, rfl⟩ (congrArg Prod.fst (J.1.1 70 (5, 9) rfl)) rfl (by decide) rfl rfl ⟨by decide, by decide⟩ (sf_X5_readLine_r70d (jr_of rfl (by omega)) hD J (jmc S84 rfl zp0) (jmc S84 rfl zp1) (by omega) rfl  (fun v95 h ev95 J S90 u91 u92 qu91 qu92 ru91 X93 X94 => ?_))
                  have Sm := jSm_tr rfl Sm S90
                  try rw [X93] at D
                  try rw [X94] at D
                  have eu91 := (show 0 ≤ u91.toInt ∧ u91.toInt ≤ 3 from qu91 ▸ jrg_f J sg_68_5_6_1_0_1)
                  try rw [vrf qu91] at D
                  have eu92 := (show 0 ≤ u92.toInt ∧ u92.toInt ≤ 400 from qu92 ▸ jrg_f J sg_68_3_4_1_0_1)
                  try rw [vrf qu92] at D
                  show jX m_X11_line 6 0 0 79 [(0, .ref 31), (1, .int a1), (2, .int a2), (3, .int a3), (4, .int a4), (5, .int a5)] [.int v95] _ 0 0 _
                  refine x_istore (lsx9 := [(6, .int v95), (0, .ref 31), (1, .int a1), (2, .int a2), (3, .int a3), (4, .int a4), (5, .int a5)]) rfl rfl rfl ?_
                  refine x_iload (x := v95) rfl rfl ?_
                  refine x_iconst (v := (-1)) rfl ki_m1 ?_
                  refine x_icne (tgt := 94) rfl rfl (ti_ne rfl jk_m1 ⟨fun c96 => ?_, fun c96 => ?_⟩)
                  ·
                    rw [if_neg (by omega)] at D
                    refine x_aloadn (x := 31) rfl rfl ?_
                    refine z_getR (N := 13) (b := 68) 11 2 rfl f_11_23 rfl J rfl 3970 ⟨rfl, rfl⟩ rfl ?_
                    refine x_iconst (v := 0) rfl ki_0 ?_
                    refine z_putI (N := 6) (w := 0) 9 1 rfl f_11_106 rfl (jfin_no TX9 RX9 6 rfl rfl) hD J Sm rfl rfl jk_0 (pw_68_1 (by omega)) rfl (fun h w97 J Sm => ?_)
                    rw [vwf w97 (show 0 = (0 : Int32).toInt from by have := jk_0; omega)] at D
                    refine x_aloadn (x := 31) rfl rfl ?_
                    refine z_getR (N := 13) (b := 32) 11 0 rfl f_11_10 rfl J rfl 3968 ⟨rfl, rfl⟩ rfl ?_
                    refine z_getR (N := 20) (b := 33) 1 0 rfl f_11_126 rfl J rfl 4096 ⟨rfl, rfl⟩ rfl ?_
                    refine z_getI (N := 4) 8 3 rfl f_11_142 rfl J rfl sg_33_3_4_1_0_1 (fun v98 qv98 ev98 => ?_)
                    try rw [vrf (jmb_c S90 (jmb_w w97 qv98 rfl) rfl)] at D
                    refine x_istore (lsx9 := [(7, .int v98), (6, .int v95), (0, .ref 31), (1, .int a1), (2, .int a2), (3, .int a3), (4, .int a4), (5, .int a5)]) rfl rfl rfl ?_
                    refine x_aloadn (x := 31) rfl rfl ?_
                    refine z_getR (N := 13) (b := 32) 11 0 rfl f_11_10 rfl J rfl 3968 ⟨rfl, rfl⟩ rfl ?_
                    refine z_getR (N := 20) (b := 33) 1 0 rfl f_11_126 rfl J rfl 4096 ⟨rfl, rfl⟩ rfl ?_
                    refine x_iload (x := a4) rfl rfl ?_
                    refine x_iloadn (x := a3) rfl rfl ?_
                    refine x_iloadn (x := a1) rfl rfl ?_
                    refine x_iloadn (x := a2) rfl rfl ?_
                    refine x_iload (x := a5) rfl rfl ?_
                    refine x_iload (x := v95) rfl rfl ?_
                    refine x_inv (N := m_X8_add) (As := [.int a4, .int a3, .int a1, .int a2, .int a5, .int v95]) (b := 33) (st := []) (dx9 := 2) (mc := 0) (ms := 0) (host := "") 8 rfl t_X8_add ⟨Or.inl q_11_145, i_X8_add.1, i_X8_add.2⟩ ⟨by decide, rfl⟩ (congrArg Prod.fst (J.1.1 33 (8, 4) rfl)) rfl (by decide) rfl rfl ⟨by decide, by decide⟩ (sf_X8_add_r33d (jr_of rfl (by omega)) (jr_of rfl (by omega)) (jr_of rfl (by omega)) (jr_of rfl (by omega)) (jr_of rfl (by omega)) (jr_of rfl (by omega)) hD J rfl  (fun h J S99 X100 => ?_))
                    have Sm := jSm_tr rfl Sm S99
                    rw [X100] at D
                    show jX m_X11_line 6 0 0 133 [(7, .int v98), (6, .int v95), (0, .ref 31), (1, .int a1), (2, .int a2), (3, .int a3), (4, .int a4), (5, .int a5)] [] _ 0 0 _
                    refine x_iconst (v := 0) rfl ki_0 ?_
                    refine x_istore (lsx9 := [(8, .int 0), (7, .int v98), (6, .int v95), (0, .ref 31), (1, .int a1), (2, .int a2), (3, .int a3), (4, .int a4), (5, .int a5)]) rfl rfl rfl ?_
                    exact jX.sub (jsb_c rfl (jsb_c rfl (jsb_c rfl jsb_n))) (ct_X11_line_r31d_136 hD hQ  7 v98 0 u92 u91 h (by have := jk_0; omega) (jr_of rfl (by omega)) (jr_of jk_0 (by omega)) (jr_of rfl (by omega)) (jr_of rfl (by omega)) (by omega) (jmc S99 rfl (jmo w97 rfl qu92)) (jmc S99 rfl (jmo w97 rfl qu91)) J Sm (by rw [jk_0]; exact D))
                  ·
                    rw [if_pos (by omega)] at D
                    refine x_aloadn (x := 31) rfl rfl ?_
                    refine x_bipush (v := (-6)) rfl kb_m6 ?_
                    refine x_inv (N := m_X11_refuseTape) (As := [.int (-6)]) (b := 31) (st := []) (dx9 := 5) (mc := 0) (ms := 0) (host := "") 11 rfl t_X11_refuseTape ⟨Or.inl q_11_122, i_X11_refuseTape.1, i_X11_refuseTape.2⟩ ⟨by decide, rfl⟩ (congrArg Prod.fst (J.1.1 31 (11, 13) rfl)) rfl (by decide) rfl rfl ⟨by decide, by decide⟩ (jC.of rfl k_X11_refuseTape rfl ?_)
                    show jX m_X11_refuseTape 5 0 0 0 [(0, .ref 31), (1, .int (-6))] [] _ 0 0 _
                    refine x_aloadn (x := 31) rfl rfl ?_
                    refine z_getR (N := 13) (b := 68) 11 2 rfl f_11_23 rfl J rfl 3970 ⟨rfl, rfl⟩ rfl ?_
                    refine x_iconst (v := 0) rfl ki_0 ?_
                    refine z_putI (N := 6) (w := 0) 9 1 rfl f_11_106 rfl (jfin_no TX9 RX9 6 rfl rfl) hD J Sm rfl rfl jk_0 (pw_68_1 (by omega)) rfl (fun h w101 J Sm => ?_)
                    rw [vwf w101 (show 0 = (0 : Int32).toInt from by have := jk_0; omega)] at D
                    refine x_aloadn (x := 31) rfl rfl ?_
                    refine x_iloadn (x := (-6)) rfl rfl ?_
                    refine x_inv (N := m_X11_refuse) (As := [.int (-6)]) (b := 31) (st := []) (dx9 := 4) (mc := 0) (ms := 0) (host := "") 11 rfl t_X11_refuse ⟨Or.inl q_11_206, i_X11_refuse.1, i_X11_refuse.2⟩ ⟨by decide, rfl⟩ (congrArg Prod.fst (J.1.1 31 (11, 13) rfl)) rfl (by decide) rfl rfl ⟨by decide, by decide⟩ (jC.of rfl k_X11_refuse rfl ?_)
                    show jX m_X11_refuse 4 0 0 0 [(0, .ref 31), (1, .int (-6))] [] _ 0 0 _
                    refine x_aloadn (x := 31) rfl rfl ?_
                    refine x_iloadn (x := (-6)) rfl rfl ?_
                    refine z_putI (N := 13) (w := (-6)) 11 12 rfl f_11_94 rfl (jfin_no TX11 RX11 13 rfl rfl) hD J Sm rfl rfl jk_m6 (pw_31_12 (by omega)) rfl (fun h w102 J Sm => ?_)
                    rw [vwf w102 (show (-6) = ((-6) : Int32).toInt from by have := jk_m6; omega)] at D
                    refine x_iloadn (x := (-6)) rfl rfl ?_
                    refine x_iret rfl rfl ?_
                    show jX m_X11_refuseTape 5 0 0 13 [(0, .ref 31), (1, .int (-6))] [.int (-6)] _ 0 0 _
                    refine x_iret rfl rfl ?_
                    show jX m_X11_line 6 0 0 93 [(6, .int v95), (0, .ref 31), (1, .int a1), (2, .int a2), (3, .int a3), (4, .int a4), (5, .int a5)] [.int (-6)] _ 0 0 _
                    refine x_iret rfl rfl ?_
                    exact hQ _ _ (jr_of jk_m6 (by omega)) J Sm _ _ (jmo w102 rfl (jmo w101 rfl qu91)) (jmo w102 rfl (jmo w101 rfl qu92)) (by omega) ((congrArg Prod.fst D).symm.trans (show (-6) = ((-6) : Int32).toInt from by have := jk_m6; omega)) (congrArg Prod.snd D).symm
                ·
                  rw [if_neg (by omega)] at D
                  refine x_aloadn (x := 31) rfl rfl ?_
                  refine x_bipush (v := (-5)) rfl kb_m5 ?_
                  refine x_inv (N := m_X11_refuseTape) (As := [.int (-5)]) (b := 31) (st := []) (dx9 := 5) (mc := 0) (ms := 0) (host := "") 11 rfl t_X11_refuseTape ⟨Or.inl q_11_122, i_X11_refuseTape.1, i_X11_refuseTape.2⟩ ⟨by decide, rfl⟩ (congrArg Prod.fst (J.1.1 31 (11, 13) rfl)) rfl (by decide) rfl rfl ⟨by decide, by decide⟩ (jC.of rfl k_X11_refuseTape rfl ?_)
                  show jX m_X11_refuseTape 5 0 0 0 [(0, .ref 31), (1, .int (-5))] [] _ 0 0 _
                  refine x_aloadn (x := 31) rfl rfl ?_
                  refine z_getR (N := 13) (b := 68) 11 2 rfl f_11_23 rfl J rfl 3970 ⟨rfl, rfl⟩ rfl ?_
                  refine x_iconst (v := 0) rfl ki_0 ?_
                  refine z_putI (N := 6) (w := 0) 9 1 rfl f_11_106 rfl (jfin_no TX9 RX9 6 rfl rfl) hD J Sm rfl rfl jk_0 (pw_68_1 (by omega)) rfl (fun h w103 J Sm => ?_)
                  rw [vwf w103 (show 0 = (0 : Int32).toInt from by have := jk_0; omega)] at D
                  refine x_aloadn (x := 31) rfl rfl ?_
                  refine x_iloadn (x := (-5)) rfl rfl ?_
                  refine x_inv (N := m_X11_refuse) (As := [.int (-5)]) (b := 31) (st := []) (dx9 := 4) (mc := 0) (ms := 0) (host := "") 11 rfl t_X11_refuse ⟨Or.inl q_11_206, i_X11_refuse.1, i_X11_refuse.2⟩ ⟨by decide, rfl⟩ (congrArg Prod.fst (J.1.1 31 (11, 13) rfl)) rfl (by decide) rfl rfl ⟨by decide, by decide⟩ (jC.of rfl k_X11_refuse rfl ?_)
                  show jX m_X11_refuse 4 0 0 0 [(0, .ref 31), (1, .int (-5))] [] _ 0 0 _
                  refine x_aloadn (x := 31) rfl rfl ?_
                  refine x_iloadn (x := (-5)) rfl rfl ?_
                  refine z_putI (N := 13) (w := (-5)) 11 12 rfl f_11_94 rfl (jfin_no TX11 RX11 13 rfl rfl) hD J Sm rfl rfl jk_m5 (pw_31_12 (by omega)) rfl (fun h w104 J Sm => ?_)
                  rw [vwf w104 (show (-5) = ((-5) : Int32).toInt from by have := jk_m5; omega)] at D
                  refine x_iloadn (x := (-5)) rfl rfl ?_
                  refine x_iret rfl rfl ?_
                  show jX m_X11_refuseTape 5 0 0 13 [(0, .ref 31), (1, .int (-5))] [.int (-5)] _ 0 0 _
                  refine x_iret rfl rfl ?_
                  show jX m_X11_line 6 0 0 66 [(0, .ref 31), (1, .int a1), (2, .int a2), (3, .int a3), (4, .int a4), (5, .int a5)] [.int (-5)] _ 0 0 _
                  refine x_iret rfl rfl ?_
                  exact hQ _ _ (jr_of jk_m5 (by omega)) J Sm _ _ (jmo w104 rfl (jmo w103 rfl (jmc S84 rfl zp0))) (jmo w104 rfl (jmo w103 rfl (jmc S84 rfl zp1))) (by omega) ((congrArg Prod.fst D).symm.trans (show (-5) = ((-5) : Int32).toInt from by have := jk_m5; omega)) (congrArg Prod.snd D).symm
              ·
                rw [if_neg (by omega)] at D
                exact jX.sub (jsb_c rfl jsb_n) (ct_X11_line_r31d_41 hD hQ  p1 p0 h (jr_of rfl (by omega)) (jr_of rfl (by omega)) (by omega) zp1 zp0 J Sm D)
            rw [if_neg c81] at D
            refine x_tableOut (tgt := 57) rfl (by omega) rfl ?_
            refine x_iloadn (x := a5) rfl rfl ?_
            refine x_iconst (v := (-1)) rfl ki_m1 ?_
            refine x_icne (tgt := 66) rfl rfl (ti_ne rfl jk_m1 ⟨fun c105 => ?_, fun c105 => ?_⟩)
            ·
              rw [if_neg (by omega)] at D
              refine x_iconst (v := 0) rfl ki_0 ?_
              refine x_zret rfl rfl (by decide) ?_
              show jX m_X11_line 6 0 0 38 [(0, .ref 31), (1, .int a1), (2, .int a2), (3, .int a3), (4, .int a4), (5, .int a5)] [.int 0] _ 0 0 _
              refine x_ifne (tgt := 47) rfl rfl (ti_ne jk_0 jk_0 (bn_f (by omega) ?_))
              exact jX.sub (jsb_c rfl jsb_n) (ct_X11_line_r31d_41 hD hQ  p1 p0 h (jr_of rfl (by omega)) (jr_of rfl (by omega)) (by omega) zp1 zp0 J Sm D)
            ·
              rw [if_pos (by omega)] at D
              refine x_iconst (v := 1) rfl ki_1 ?_
              refine x_goto (tgt := 67) rfl rfl ?_
              refine x_zret rfl rfl (by decide) ?_
              show jX m_X11_line 6 0 0 38 [(0, .ref 31), (1, .int a1), (2, .int a2), (3, .int a3), (4, .int a4), (5, .int a5)] [.int 1] _ 0 0 _
              refine x_ifne (tgt := 47) rfl rfl (ti_ne jk_1 jk_0 (bn_t (by omega) ?_))
              refine x_aloadn (x := 31) rfl rfl ?_
              refine z_getR (N := 13) (b := 32) 11 0 rfl f_11_10 rfl J rfl 3968 ⟨rfl, rfl⟩ rfl ?_
              refine z_getR (N := 20) (b := 33) 1 0 rfl f_11_126 rfl J rfl 4096 ⟨rfl, rfl⟩ rfl ?_
              refine x_inv (N := m_X8_isFull) (As := []) (b := 33) (st := []) (dx9 := 1) (mc := 0) (ms := 0) (host := "") 8 rfl t_X8_isFull ⟨Or.inl q_11_130, i_X8_isFull.1, i_X8_isFull.2⟩ ⟨by decide, rfl⟩ (congrArg Prod.fst (J.1.1 33 (8, 4) rfl)) rfl (by decide) rfl rfl ⟨by decide, by decide⟩ (sf_X8_isFull_r33d  hD J rfl  (fun v109 h ev109 J S106 X107 X108 => ?_))
              have Sm := jSm_tr rfl Sm S106
              try rw [X107] at D
              try rw [← X108] at D
              show jX m_X11_line 6 0 0 57 [(0, .ref 31), (1, .int a1), (2, .int a2), (3, .int a3), (4, .int a4), (5, .int a5)] [.int v109] _ 0 0 _
              refine x_ifeq (tgt := 67) rfl rfl (ti_eq rfl jk_0 ⟨fun c110 => ?_, fun c110 => ?_⟩)
              ·
                rw [if_pos (by omega)] at D
                refine x_aloadn (x := 31) rfl rfl ?_
                refine z_getR (N := 13) (b := 70) 11 3 rfl f_11_32 rfl J rfl 3971 ⟨rfl, rfl⟩ rfl ?_
                refine x_gets jst_1 rfl (by decide +kernel) u_11_136 ?_
                show jX m_X11_line 6 0 0 74 [(0, .ref 31), (1, .int a1), (2, .int a2), (3, .int a3), (4, .int a4), (5, .int a5)] [.ref 1, .ref 70] _ 0 0 _
                refine x_iloadn (x := a1) rfl rfl ?_
                refine z_iald (N := 6) rfl J rfl sg_1_0_6_1_0_1 rfl (by omega) (fun v111 qv111 ev111 => ?_)
                try rw [vrd qv111 (show a1.toInt = a1.toInt from by omega)] at D
                refine x_inv (N := m_X5_readLine) (As := [.int v111]) (b := 70) (st := []) (dx9 := 5) (mc := 0) (ms := 0) (host := "") 5 rfl t_X5_readLine ⟨Or.inl q_11_139, i_X5_readLine.1, i_X5_readLine.2⟩ ⟨by decide, rfl⟩ (congrArg Prod.fst (J.1.1 70 (5, 9) rfl)) rfl (by decide) rfl rfl ⟨by decide, by decide⟩ (sf_X5_readLine_r70d (jr_of rfl (by omega)) hD J (jmc S106 rfl zp0) (jmc S106 rfl zp1) (by omega) rfl  (fun v117 h ev117 J S112 u113 u114 qu113 qu114 ru113 X115 X116 => ?_))
                have Sm := jSm_tr rfl Sm S112
                try rw [X115] at D
                try rw [X116] at D
                have eu113 := (show 0 ≤ u113.toInt ∧ u113.toInt ≤ 3 from qu113 ▸ jrg_f J sg_68_5_6_1_0_1)
                try rw [vrf qu113] at D
                have eu114 := (show 0 ≤ u114.toInt ∧ u114.toInt ≤ 400 from qu114 ▸ jrg_f J sg_68_3_4_1_0_1)
                try rw [vrf qu114] at D
                show jX m_X11_line 6 0 0 79 [(0, .ref 31), (1, .int a1), (2, .int a2), (3, .int a3), (4, .int a4), (5, .int a5)] [.int v117] _ 0 0 _
                refine x_istore (lsx9 := [(6, .int v117), (0, .ref 31), (1, .int a1), (2, .int a2), (3, .int a3), (4, .int a4), (5, .int a5)]) rfl rfl rfl ?_
                refine x_iload (x := v117) rfl rfl ?_
                refine x_iconst (v := (-1)) rfl ki_m1 ?_
                refine x_icne (tgt := 94) rfl rfl (ti_ne rfl jk_m1 ⟨fun c118 => ?_, fun c118 => ?_⟩)
                ·
                  rw [if_neg (by omega)] at D
                  refine x_aloadn (x := 31) rfl rfl ?_
                  refine z_getR (N := 13) (b := 68) 11 2 rfl f_11_23 rfl J rfl 3970 ⟨rfl, rfl⟩ rfl ?_
                  refine x_iconst (v := 0) rfl ki_0 ?_
                  refine z_putI (N := 6) (w := 0) 9 1 rfl f_11_106 rfl (jfin_no TX9 RX9 6 rfl rfl) hD J Sm rfl rfl jk_0 (pw_68_1 (by omega)) rfl (fun h w119 J Sm => ?_)
                  rw [vwf w119 (show 0 = (0 : Int32).toInt from by have := jk_0; omega)] at D
                  refine x_aloadn (x := 31) rfl rfl ?_
                  refine z_getR (N := 13) (b := 32) 11 0 rfl f_11_10 rfl J rfl 3968 ⟨rfl, rfl⟩ rfl ?_
                  refine z_getR (N := 20) (b := 33) 1 0 rfl f_11_126 rfl J rfl 4096 ⟨rfl, rfl⟩ rfl ?_
                  refine z_getI (N := 4) 8 3 rfl f_11_142 rfl J rfl sg_33_3_4_1_0_1 (fun v120 qv120 ev120 => ?_)
                  try rw [vrf (jmb_c S112 (jmb_w w119 qv120 rfl) rfl)] at D
                  refine x_istore (lsx9 := [(7, .int v120), (6, .int v117), (0, .ref 31), (1, .int a1), (2, .int a2), (3, .int a3), (4, .int a4), (5, .int a5)]) rfl rfl rfl ?_
                  refine x_aloadn (x := 31) rfl rfl ?_
                  refine z_getR (N := 13) (b := 32) 11 0 rfl f_11_10 rfl J rfl 3968 ⟨rfl, rfl⟩ rfl ?_
                  refine z_getR (N := 20) (b := 33) 1 0 rfl f_11_126 rfl J rfl 4096 ⟨rfl, rfl⟩ rfl ?_
                  refine x_iload (x := a4) rfl rfl ?_
                  refine x_iloadn (x := a3) rfl rfl ?_
                  refine x_iloadn (x := a1) rfl rfl ?_
                  refine x_iloadn (x := a2) rfl rfl ?_
                  refine x_iload (x := a5) rfl rfl ?_
                  refine x_iload (x := v117) rfl rfl ?_
                  refine x_inv (N := m_X8_add) (As := [.int a4, .int a3, .int a1, .int a2, .int a5, .int v117]) (b := 33) (st := []) (dx9 := 2) (mc := 0) (ms := 0) (host := "") 8 rfl t_X8_add ⟨Or.inl q_11_145, i_X8_add.1, i_X8_add.2⟩ ⟨by decide, rfl⟩ (congrArg Prod.fst (J.1.1 33 (8, 4) rfl)) rfl (by decide) rfl rfl ⟨by decide, by decide⟩ (sf_X8_add_r33d (jr_of rfl (by omega)) (jr_of rfl (by omega)) (jr_of rfl (by omega)) (jr_of rfl (by omega)) (jr_of rfl (by omega)) (jr_of rfl (by omega)) hD J rfl  (fun h J S121 X122 => ?_))
                  have Sm := jSm_tr rfl Sm S121
                  rw [X122] at D
                  show jX m_X11_line 6 0 0 133 [(7, .int v120), (6, .int v117), (0, .ref 31), (1, .int a1), (2, .int a2), (3, .int a3), (4, .int a4), (5, .int a5)] [] _ 0 0 _
                  refine x_iconst (v := 0) rfl ki_0 ?_
                  refine x_istore (lsx9 := [(8, .int 0), (7, .int v120), (6, .int v117), (0, .ref 31), (1, .int a1), (2, .int a2), (3, .int a3), (4, .int a4), (5, .int a5)]) rfl rfl rfl ?_
                  exact jX.sub (jsb_c rfl (jsb_c rfl (jsb_c rfl jsb_n))) (ct_X11_line_r31d_136 hD hQ  7 v120 0 u114 u113 h (by have := jk_0; omega) (jr_of rfl (by omega)) (jr_of jk_0 (by omega)) (jr_of rfl (by omega)) (jr_of rfl (by omega)) (by omega) (jmc S121 rfl (jmo w119 rfl qu114)) (jmc S121 rfl (jmo w119 rfl qu113)) J Sm (by rw [jk_0]; exact D))
                ·
                  rw [if_pos (by omega)] at D
                  refine x_aloadn (x := 31) rfl rfl ?_
                  refine x_bipush (v := (-6)) rfl kb_m6 ?_
                  refine x_inv (N := m_X11_refuseTape) (As := [.int (-6)]) (b := 31) (st := []) (dx9 := 5) (mc := 0) (ms := 0) (host := "") 11 rfl t_X11_refuseTape ⟨Or.inl q_11_122, i_X11_refuseTape.1, i_X11_refuseTape.2⟩ ⟨by decide, rfl⟩ (congrArg Prod.fst (J.1.1 31 (11, 13) rfl)) rfl (by decide) rfl rfl ⟨by decide, by decide⟩ (jC.of rfl k_X11_refuseTape rfl ?_)
                  show jX m_X11_refuseTape 5 0 0 0 [(0, .ref 31), (1, .int (-6))] [] _ 0 0 _
                  refine x_aloadn (x := 31) rfl rfl ?_
                  refine z_getR (N := 13) (b := 68) 11 2 rfl f_11_23 rfl J rfl 3970 ⟨rfl, rfl⟩ rfl ?_
                  refine x_iconst (v := 0) rfl ki_0 ?_
                  refine z_putI (N := 6) (w := 0) 9 1 rfl f_11_106 rfl (jfin_no TX9 RX9 6 rfl rfl) hD J Sm rfl rfl jk_0 (pw_68_1 (by omega)) rfl (fun h w123 J Sm => ?_)
                  rw [vwf w123 (show 0 = (0 : Int32).toInt from by have := jk_0; omega)] at D
                  refine x_aloadn (x := 31) rfl rfl ?_
                  refine x_iloadn (x := (-6)) rfl rfl ?_
                  refine x_inv (N := m_X11_refuse) (As := [.int (-6)]) (b := 31) (st := []) (dx9 := 4) (mc := 0) (ms := 0) (host := "") 11 rfl t_X11_refuse ⟨Or.inl q_11_206, i_X11_refuse.1, i_X11_refuse.2⟩ ⟨by decide, rfl⟩ (congrArg Prod.fst (J.1.1 31 (11, 13) rfl)) rfl (by decide) rfl rfl ⟨by decide, by decide⟩ (jC.of rfl k_X11_refuse rfl ?_)
                  show jX m_X11_refuse 4 0 0 0 [(0, .ref 31), (1, .int (-6))] [] _ 0 0 _
                  refine x_aloadn (x := 31) rfl rfl ?_
                  refine x_iloadn (x := (-6)) rfl rfl ?_
                  refine z_putI (N := 13) (w := (-6)) 11 12 rfl f_11_94 rfl (jfin_no TX11 RX11 13 rfl rfl) hD J Sm rfl rfl jk_m6 (pw_31_12 (by omega)) rfl (fun h w124 J Sm => ?_)
                  rw [vwf w124 (show (-6) = ((-6) : Int32).toInt from by have := jk_m6; omega)] at D
                  refine x_iloadn (x := (-6)) rfl rfl ?_
                  refine x_iret rfl rfl ?_
                  show jX m_X11_refuseTape 5 0 0 13 [(0, .ref 31), (1, .int (-6))] [.int (-6)] _ 0 0 _
                  refine x_iret rfl rfl ?_
                  show jX m_X11_line 6 0 0 93 [(6, .int v117), (0, .ref 31), (1, .int a1), (2, .int a2), (3, .int a3), (4, .int a4), (5, .int a5)] [.int (-6)] _ 0 0 _
                  refine x_iret rfl rfl ?_
                  exact hQ _ _ (jr_of jk_m6 (by omega)) J Sm _ _ (jmo w124 rfl (jmo w123 rfl qu113)) (jmo w124 rfl (jmo w123 rfl qu114)) (by omega) ((congrArg Prod.fst D).symm.trans (show (-6) = ((-6) : Int32).toInt from by have := jk_m6; omega)) (congrArg Prod.snd D).symm
              ·
                rw [if_neg (by omega)] at D
                refine x_aloadn (x := 31) rfl rfl ?_
                refine x_bipush (v := (-5)) rfl kb_m5 ?_
                refine x_inv (N := m_X11_refuseTape) (As := [.int (-5)]) (b := 31) (st := []) (dx9 := 5) (mc := 0) (ms := 0) (host := "") 11 rfl t_X11_refuseTape ⟨Or.inl q_11_122, i_X11_refuseTape.1, i_X11_refuseTape.2⟩ ⟨by decide, rfl⟩ (congrArg Prod.fst (J.1.1 31 (11, 13) rfl)) rfl (by decide) rfl rfl ⟨by decide, by decide⟩ (jC.of rfl k_X11_refuseTape rfl ?_)
                show jX m_X11_refuseTape 5 0 0 0 [(0, .ref 31), (1, .int (-5))] [] _ 0 0 _
                refine x_aloadn (x := 31) rfl rfl ?_
                refine z_getR (N := 13) (b := 68) 11 2 rfl f_11_23 rfl J rfl 3970 ⟨rfl, rfl⟩ rfl ?_
                refine x_iconst (v := 0) rfl ki_0 ?_
                refine z_putI (N := 6) (w := 0) 9 1 rfl f_11_106 rfl (jfin_no TX9 RX9 6 rfl rfl) hD J Sm rfl rfl jk_0 (pw_68_1 (by omega)) rfl (fun h w125 J Sm => ?_)
                rw [vwf w125 (show 0 = (0 : Int32).toInt from by have := jk_0; omega)] at D
                refine x_aloadn (x := 31) rfl rfl ?_
                refine x_iloadn (x := (-5)) rfl rfl ?_
                refine x_inv (N := m_X11_refuse) (As := [.int (-5)]) (b := 31) (st := []) (dx9 := 4) (mc := 0) (ms := 0) (host := "") 11 rfl t_X11_refuse ⟨Or.inl q_11_206, i_X11_refuse.1, i_X11_refuse.2⟩ ⟨by decide, rfl⟩ (congrArg Prod.fst (J.1.1 31 (11, 13) rfl)) rfl (by decide) rfl rfl ⟨by decide, by decide⟩ (jC.of rfl k_X11_refuse rfl ?_)
                show jX m_X11_refuse 4 0 0 0 [(0, .ref 31), (1, .int (-5))] [] _ 0 0 _
                refine x_aloadn (x := 31) rfl rfl ?_
                refine x_iloadn (x := (-5)) rfl rfl ?_
                refine z_putI (N := 13) (w := (-5)) 11 12 rfl f_11_94 rfl (jfin_no TX11 RX11 13 rfl rfl) hD J Sm rfl rfl jk_m5 (pw_31_12 (by omega)) rfl (fun h w126 J Sm => ?_)
                rw [vwf w126 (show (-5) = ((-5) : Int32).toInt from by have := jk_m5; omega)] at D
                refine x_iloadn (x := (-5)) rfl rfl ?_
                refine x_iret rfl rfl ?_
                show jX m_X11_refuseTape 5 0 0 13 [(0, .ref 31), (1, .int (-5))] [.int (-5)] _ 0 0 _
                refine x_iret rfl rfl ?_
                show jX m_X11_line 6 0 0 66 [(0, .ref 31), (1, .int a1), (2, .int a2), (3, .int a3), (4, .int a4), (5, .int a5)] [.int (-5)] _ 0 0 _
                refine x_iret rfl rfl ?_
                exact hQ _ _ (jr_of jk_m5 (by omega)) J Sm _ _ (jmo w126 rfl (jmo w125 rfl (jmc S106 rfl zp0))) (jmo w126 rfl (jmo w125 rfl (jmc S106 rfl zp1))) (by omega) ((congrArg Prod.fst D).symm.trans (show (-5) = ((-5) : Int32).toInt from by have := jk_m5; omega)) (congrArg Prod.snd D).symm
def fp_X7_mentionOf_r78d : jFp := []
set_option maxRecDepth 100000 in
set_option maxHeartbeats 4000000 in
theorem ct_X7_mentionOf_r78d_41 {Dy : jH → Prop} {h0 : jH} {Q : Option Value → jH → Prop} {dr : Int} (hD : jDk Dy) (hQ : ∀ (v : Int32) hx9, (-1) ≤ v.toInt ∧ v.toInt ≤ 599 → jJ jSgX Dy hx9 → jSm fp_X7_mentionOf_r78d h0 hx9 → dr = v.toInt → vw hx9 = vw h0 → Q (some (.int v)) hx9) : ∀ (h : jH), jJ jSgX Dy h → jSm fp_X7_mentionOf_r78d h0 h → d_X7_mentionOf_r78d_41  (vw h) = dr → vw h = vw h0 → jX m_X7_mentionOf 1 0 0 41 [] [] h 0 0 Q := by
  intro  h    J Sm D EV
  unfold d_X7_mentionOf_r78d_41 at D
  refine x_iconst (v := (-1)) rfl ki_m1 ?_
  refine x_iret rfl rfl ?_
  exact hQ _ _ (jr_of jk_m1 (by omega)) J Sm (D.symm.trans (show (-1) = ((-1) : Int32).toInt from by have := jk_m1; omega)) EV
set_option maxRecDepth 100000 in
set_option maxHeartbeats 4000000 in
theorem ct_X7_mentionOf_r78d_5 {Dy : jH → Prop} {h0 : jH} {Q : Option Value → jH → Prop} {dr : Int} (hD : jDk Dy) (hQ : ∀ (v : Int32) hx9, (-1) ≤ v.toInt ∧ v.toInt ≤ 599 → jJ jSgX Dy hx9 → jSm fp_X7_mentionOf_r78d h0 hx9 → dr = v.toInt → vw hx9 = vw h0 → Q (some (.int v)) hx9) : ∀ r : Nat, ∀ (l2 : Int32) (l3 : Int32) (l4 : Int32) (h : jH), 600 - l3.toInt < (r : Int) → 0 ≤ l3.toInt ∧ l3.toInt ≤ 600 → (-1) ≤ l4.toInt ∧ l4.toInt ≤ 599 → jJ jSgX Dy h → jSm fp_X7_mentionOf_r78d h0 h → d_X7_mentionOf_r78d_5 r l2.toInt l3.toInt l4.toInt (vw h) = dr → vw h = vw h0 → jX m_X7_mentionOf 1 0 0 5 [(0, .ref 78), (2, .int l2), (3, .int l3), (4, .int l4)] [] h 0 0 Q := by
  intro r
  induction r with
  | zero =>
    intro l2 l3 l4 h hm y0 y1   J Sm D EV
    exfalso
    have el2 := jfull l2
    omega
  | succ r ih =>
    intro l2 l3 l4 h hm y0 y1   J Sm D EV
    have el2 := jfull l2
    rw [d_X7_mentionOf_r78d_5.eq_2] at D
    refine x_iload (x := l4) rfl rfl ?_
    refine x_iconst (v := (-1)) rfl ki_m1 ?_
    refine x_iceq (tgt := 41) rfl rfl (ti_eq rfl jk_m1 ⟨fun c1 => ?_, fun c1 => ?_⟩)
    ·
      rw [if_pos (by omega)] at D
      exact jX.sub jsb_n (ct_X7_mentionOf_r78d_41 hD hQ  h J Sm D EV)
    ·
      rw [if_neg (by omega)] at D
      refine x_iloadn (x := l3) rfl rfl ?_
      refine x_sipush (v := 600) rfl ks_600 ?_
      refine x_icge (tgt := 41) rfl rfl (ti_ge rfl jk_600 ⟨fun c2 => ?_, fun c2 => ?_⟩)
      ·
        rw [if_pos (by omega)] at D
        exact jX.sub jsb_n (ct_X7_mentionOf_r78d_41 hD hQ  h J Sm D EV)
      ·
        rw [if_neg (by omega)] at D
        refine x_iloadn (x := l3) rfl rfl ?_
        refine x_iloadn (x := l2) rfl rfl ?_
        refine x_icne (tgt := 26) rfl rfl (ti_ne rfl rfl ⟨fun c3 => ?_, fun c3 => ?_⟩)
        ·
          rw [if_neg (by omega)] at D
          refine z_iinc (x := l3) (lsx9 := fun v4 => [(3, .int v4), (0, .ref 78), (2, .int l2), (4, .int l4)]) rfl rfl rfl jko_1 (by omega) rfl (fun _ => rfl) (fun v4 ev4 => ?_)
          refine x_aloadn (x := 78) rfl rfl ?_
          refine z_getR (N := 16) (b := 83) 7 11 rfl f_7_40 rfl J rfl 9995 ⟨rfl, rfl⟩ rfl ?_
          refine x_iload (x := l4) rfl rfl ?_
          refine z_iald (N := 600) rfl J rfl sg_83_0_600_1_0_1 rfl (by omega) (fun v5 qv5 ev5 => ?_)
          try rw [vrd qv5 (show l4.toInt = l4.toInt from by omega)] at D
          refine x_istore (lsx9 := [(4, .int v5), (3, .int v4), (0, .ref 78), (2, .int l2)]) rfl rfl rfl ?_
          refine x_goto (tgt := 5) rfl rfl ?_
          try rw [show (l3.toInt + 1) = v4.toInt from by omega] at D
          exact jX.sub (jsb_c rfl (jsb_c rfl (jsb_c rfl (jsb_c rfl jsb_n)))) (ih l2 v4 v5 h (by omega) (jr_of rfl (by omega)) (jr_of rfl (by omega)) J Sm D EV)
        ·
          rw [if_pos (by omega)] at D
          refine x_iload (x := l4) rfl rfl ?_
          refine x_iret rfl rfl ?_
          exact hQ _ _ (jr_of rfl (by omega)) J Sm (D.symm.trans (show l4.toInt = l4.toInt from by omega)) EV
set_option maxRecDepth 100000 in
set_option maxHeartbeats 4000000 in
theorem sf_X7_mentionOf_r78d {Dy : jH → Prop} {h : jH} {Q : Option Value → jH → Prop} {dr : Int} {a1 : Int32} {a2 : Int32} (y1 : 0 ≤ a1.toInt ∧ a1.toInt ≤ 599) (hD : jDk Dy) (J : jJ jSgX Dy h) (D : d_X7_mentionOf_r78d a1.toInt a2.toInt (vw h) = dr) (hQ : ∀ (v : Int32) hx9, (-1) ≤ v.toInt ∧ v.toInt ≤ 599 → jJ jSgX Dy hx9 → jSm fp_X7_mentionOf_r78d h hx9 → dr = v.toInt → vw hx9 = vw h → Q (some (.int v)) hx9) : jC m_X7_mentionOf 1 0 0 [.ref 78, .int a1, .int a2] h Q := by
  refine jC.of rfl k_X7_mentionOf rfl ?_
  have Sm := jSm_rf fp_X7_mentionOf_r78d h
  have ea2 := jfull a2
  show jX m_X7_mentionOf 1 0 0 0 [(0, .ref 78), (1, .int a1), (2, .int a2)] [] _ 0 0 _
  unfold d_X7_mentionOf_r78d at D
  have EV : vw h = vw h := rfl
  refine x_iconst (v := 0) rfl ki_0 ?_
  refine x_istoren (lsx9 := [(3, .int 0), (0, .ref 78), (1, .int a1), (2, .int a2)]) rfl rfl rfl ?_
  refine x_iloadn (x := a1) rfl rfl ?_
  refine x_istore (lsx9 := [(4, .int a1), (3, .int 0), (0, .ref 78), (1, .int a1), (2, .int a2)]) rfl rfl rfl ?_
  exact jX.sub (jsb_c rfl (jsb_c rfl (jsb_c rfl (jsb_c rfl jsb_n)))) (ct_X7_mentionOf_r78d_5 hD hQ  601 a2 0 a1 h (by have := jk_0; omega) (jr_of jk_0 (by omega)) (jr_of rfl (by omega)) J Sm (by rw [jk_0]; exact D) EV)
def fp_X7_sizeOf_r78d : jFp := []
set_option maxRecDepth 100000 in
set_option maxHeartbeats 4000000 in
theorem ct_X7_sizeOf_r78d_29 {Dy : jH → Prop} {h0 : jH} {Q : Option Value → jH → Prop} {dr : Int} (hD : jDk Dy) (hQ : ∀ (v : Int32) hx9, 0 ≤ v.toInt ∧ v.toInt ≤ 600 → jJ jSgX Dy hx9 → jSm fp_X7_sizeOf_r78d h0 hx9 → dr = v.toInt → vw hx9 = vw h0 → Q (some (.int v)) hx9) : ∀ (l2 : Int32) (h : jH), 0 ≤ l2.toInt ∧ l2.toInt ≤ 600 → jJ jSgX Dy h → jSm fp_X7_sizeOf_r78d h0 h → d_X7_sizeOf_r78d_29  l2.toInt (vw h) = dr → vw h = vw h0 → jX m_X7_sizeOf 1 0 0 29 [(2, .int l2)] [] h 0 0 Q := by
  intro l2 h y0   J Sm D EV
  unfold d_X7_sizeOf_r78d_29 at D
  refine x_iloadn (x := l2) rfl rfl ?_
  refine x_iret rfl rfl ?_
  exact hQ _ _ (jr_of rfl (by omega)) J Sm (D.symm.trans (show l2.toInt = l2.toInt from by omega)) EV
set_option maxRecDepth 100000 in
set_option maxHeartbeats 4000000 in
theorem ct_X7_sizeOf_r78d_4 {Dy : jH → Prop} {h0 : jH} {Q : Option Value → jH → Prop} {dr : Int} (hD : jDk Dy) (hQ : ∀ (v : Int32) hx9, 0 ≤ v.toInt ∧ v.toInt ≤ 600 → jJ jSgX Dy hx9 → jSm fp_X7_sizeOf_r78d h0 hx9 → dr = v.toInt → vw hx9 = vw h0 → Q (some (.int v)) hx9) : ∀ r : Nat, ∀ (l2 : Int32) (l3 : Int32) (h : jH), 600 - l2.toInt < (r : Int) → 0 ≤ l2.toInt ∧ l2.toInt ≤ 600 → (-1) ≤ l3.toInt ∧ l3.toInt ≤ 599 → jJ jSgX Dy h → jSm fp_X7_sizeOf_r78d h0 h → d_X7_sizeOf_r78d_4 r l2.toInt l3.toInt (vw h) = dr → vw h = vw h0 → jX m_X7_sizeOf 1 0 0 4 [(0, .ref 78), (2, .int l2), (3, .int l3)] [] h 0 0 Q := by
  intro r
  induction r with
  | zero =>
    intro l2 l3 h hm y0 y1   J Sm D EV
    exfalso
    omega
  | succ r ih =>
    intro l2 l3 h hm y0 y1   J Sm D EV
    rw [d_X7_sizeOf_r78d_4.eq_2] at D
    refine x_iloadn (x := l3) rfl rfl ?_
    refine x_iconst (v := (-1)) rfl ki_m1 ?_
    refine x_iceq (tgt := 29) rfl rfl (ti_eq rfl jk_m1 ⟨fun c1 => ?_, fun c1 => ?_⟩)
    ·
      rw [if_pos (by omega)] at D
      exact jX.sub (jsb_c rfl jsb_n) (ct_X7_sizeOf_r78d_29 hD hQ  l2 h (jr_of rfl (by omega)) J Sm D EV)
    ·
      rw [if_neg (by omega)] at D
      refine x_iloadn (x := l2) rfl rfl ?_
      refine x_sipush (v := 600) rfl ks_600 ?_
      refine x_icge (tgt := 29) rfl rfl (ti_ge rfl jk_600 ⟨fun c2 => ?_, fun c2 => ?_⟩)
      ·
        rw [if_pos (by omega)] at D
        exact jX.sub (jsb_c rfl jsb_n) (ct_X7_sizeOf_r78d_29 hD hQ  l2 h (jr_of rfl (by omega)) J Sm D EV)
      ·
        rw [if_neg (by omega)] at D
        refine z_iinc (x := l2) (lsx9 := fun v3 => [(2, .int v3), (0, .ref 78), (3, .int l3)]) rfl rfl rfl jko_1 (by omega) rfl (fun _ => rfl) (fun v3 ev3 => ?_)
        refine x_aloadn (x := 78) rfl rfl ?_
        refine z_getR (N := 16) (b := 83) 7 11 rfl f_7_40 rfl J rfl 9995 ⟨rfl, rfl⟩ rfl ?_
        refine x_iloadn (x := l3) rfl rfl ?_
        refine z_iald (N := 600) rfl J rfl sg_83_0_600_1_0_1 rfl (by omega) (fun v4 qv4 ev4 => ?_)
        try rw [vrd qv4 (show l3.toInt = l3.toInt from by omega)] at D
        refine x_istoren (lsx9 := [(3, .int v4), (2, .int v3), (0, .ref 78)]) rfl rfl rfl ?_
        refine x_goto (tgt := 4) rfl rfl ?_
        try rw [show (l2.toInt + 1) = v3.toInt from by omega] at D
        exact jX.sub (jsb_c rfl (jsb_c rfl (jsb_c rfl jsb_n))) (ih v3 v4 h (by omega) (jr_of rfl (by omega)) (jr_of rfl (by omega)) J Sm D EV)
set_option maxRecDepth 100000 in
set_option maxHeartbeats 4000000 in
theorem sf_X7_sizeOf_r78d {Dy : jH → Prop} {h : jH} {Q : Option Value → jH → Prop} {dr : Int} {a1 : Int32} (y1 : 0 ≤ a1.toInt ∧ a1.toInt ≤ 599) (hD : jDk Dy) (J : jJ jSgX Dy h) (D : d_X7_sizeOf_r78d a1.toInt (vw h) = dr) (hQ : ∀ (v : Int32) hx9, 0 ≤ v.toInt ∧ v.toInt ≤ 600 → jJ jSgX Dy hx9 → jSm fp_X7_sizeOf_r78d h hx9 → dr = v.toInt → vw hx9 = vw h → Q (some (.int v)) hx9) : jC m_X7_sizeOf 1 0 0 [.ref 78, .int a1] h Q := by
  refine jC.of rfl k_X7_sizeOf rfl ?_
  have Sm := jSm_rf fp_X7_sizeOf_r78d h
  show jX m_X7_sizeOf 1 0 0 0 [(0, .ref 78), (1, .int a1)] [] _ 0 0 _
  unfold d_X7_sizeOf_r78d at D
  have EV : vw h = vw h := rfl
  refine x_iconst (v := 0) rfl ki_0 ?_
  refine x_istoren (lsx9 := [(2, .int 0), (0, .ref 78), (1, .int a1)]) rfl rfl rfl ?_
  refine x_iloadn (x := a1) rfl rfl ?_
  refine x_istoren (lsx9 := [(3, .int a1), (2, .int 0), (0, .ref 78), (1, .int a1)]) rfl rfl rfl ?_
  exact jX.sub (jsb_c rfl (jsb_c rfl (jsb_c rfl jsb_n))) (ct_X7_sizeOf_r78d_4 hD hQ  601 0 a1 h (by have := jk_0; omega) (jr_of jk_0 (by omega)) (jr_of rfl (by omega)) J Sm (by rw [jk_0]; exact D) EV)
def fp_X11_mentions_r31d : jFp := [(78, 13, 14), (82, 0, 600), (83, 0, 600), (84, 0, 200), (86, 0, 3)]
set_option maxRecDepth 100000 in
set_option maxHeartbeats 4000000 in
theorem ct_X11_mentions_r31d_100050 {Dy : jH → Prop} {h0 : jH} {Q : Option Value → jH → Prop} {dr : (Int × jW)} (hD : jDk Dy) (hQ : ∀ (v : Int32) hx9, (-1) ≤ v.toInt ∧ v.toInt ≤ 600 → jJ jSgX Dy hx9 → jSm fp_X11_mentions_r31d h0 hx9 → dr.1 = v.toInt → dr.2 = vw hx9 → Q (some (.int v)) hx9) : ∀ (h : jH), jJ jSgX Dy h → jSm fp_X11_mentions_r31d h0 h → d_X11_mentions_r31d_100050  (vw h) = dr → jX m_X11_mentions 8 0 0 50 [] [.int (-1)] h 0 0 Q := by
  intro  h    J Sm D
  unfold d_X11_mentions_r31d_100050 at D
  refine x_iret rfl rfl ?_
  exact hQ _ _ (jr_of jk_m1 (by omega)) J Sm ((congrArg Prod.fst D).symm.trans (show (-1) = ((-1) : Int32).toInt from by have := jk_m1; omega)) (congrArg Prod.snd D).symm
set_option maxRecDepth 100000 in
set_option maxHeartbeats 4000000 in
theorem ct_X11_mentions_r31d_50 {Dy : jH → Prop} {h0 : jH} {Q : Option Value → jH → Prop} {dr : (Int × jW)} (hD : jDk Dy) (hQ : ∀ (v : Int32) hx9, (-1) ≤ v.toInt ∧ v.toInt ≤ 600 → jJ jSgX Dy hx9 → jSm fp_X11_mentions_r31d h0 hx9 → dr.1 = v.toInt → dr.2 = vw hx9 → Q (some (.int v)) hx9) : ∀ (s0 : Int32) (h : jH), (-1) ≤ s0.toInt ∧ s0.toInt ≤ 599 → jJ jSgX Dy h → jSm fp_X11_mentions_r31d h0 h → d_X11_mentions_r31d_50  s0.toInt (vw h) = dr → jX m_X11_mentions 8 0 0 50 [] [.int s0] h 0 0 Q := by
  intro s0 h y0   J Sm D
  unfold d_X11_mentions_r31d_50 at D
  refine x_iret rfl rfl ?_
  exact hQ _ _ (jr_of rfl (by omega)) J Sm ((congrArg Prod.fst D).symm.trans (show s0.toInt = s0.toInt from by omega)) (congrArg Prod.snd D).symm
set_option maxRecDepth 100000 in
set_option maxHeartbeats 4000000 in
theorem sf_X11_mentions_r31d {Dy : jH → Prop} {h : jH} {Q : Option Value → jH → Prop} {dr : (Int × jW)} {a1 : Int32} {a2 : Int32} {a3 : Int32} {a4 : Int32} (hD : jDk Dy) (J : jJ jSgX Dy h) (D : d_X11_mentions_r31d a1.toInt a2.toInt a3.toInt a4.toInt (vw h) = dr) (hQ : ∀ (v : Int32) hx9, (-1) ≤ v.toInt ∧ v.toInt ≤ 600 → jJ jSgX Dy hx9 → jSm fp_X11_mentions_r31d h hx9 → dr.1 = v.toInt → dr.2 = vw hx9 → Q (some (.int v)) hx9) : jC m_X11_mentions 8 0 0 [.ref 31, .int a1, .int a2, .int a3, .int a4] h Q := by
  refine jC.of rfl k_X11_mentions rfl ?_
  have Sm := jSm_rf fp_X11_mentions_r31d h
  have ea1 := jfull a1
  have ea2 := jfull a2
  have ea3 := jfull a3
  have ea4 := jfull a4
  show jX m_X11_mentions 8 0 0 0 [(0, .ref 31), (1, .int a1), (2, .int a2), (3, .int a3), (4, .int a4)] [] _ 0 0 _
  unfold d_X11_mentions_r31d at D
  refine x_aloadn (x := 31) rfl rfl ?_
  refine x_iloadn (x := a1) rfl rfl ?_
  refine x_iloadn (x := a2) rfl rfl ?_
  refine x_inv (N := m_X11_soulOn) (As := [.int a1, .int a2]) (b := 31) (st := []) (dx9 := 7) (mc := 0) (ms := 0) (host := "") 11 rfl t_X11_soulOn ⟨Or.inl q_11_234, i_X11_soulOn.1, i_X11_soulOn.2⟩ ⟨by decide, rfl⟩ (congrArg Prod.fst (J.1.1 31 (11, 13) rfl)) rfl (by decide) rfl rfl ⟨by decide, by decide⟩ (jC.of rfl k_X11_soulOn rfl ?_)
  show jX m_X11_soulOn 7 0 0 0 [(0, .ref 31), (1, .int a1), (2, .int a2)] [] _ 0 0 _
  refine x_iloadn (x := a2) rfl rfl ?_
  refine x_inst (N := m_X11_isDay) (As := [.int a2]) (st := []) (dx9 := 1) (mc := 0) (ms := 0) (host := "") rfl t_X11_isDay ⟨Or.inl q_11_115, s_X11_isDay⟩ rfl (by decide) rfl rfl ⟨by decide, by decide⟩ (zc_X11_isDay rfl (fun v1 ev1 => ?_))
  show jX m_X11_soulOn 7 0 0 4 [(0, .ref 31), (1, .int a1), (2, .int a2)] [.int v1] _ 0 0 _
  refine x_ifeq (tgt := 18) rfl rfl (ti_eq rfl jk_0 ⟨fun c2 => ?_, fun c2 => ?_⟩)
  ·
    rw [if_neg (by omega)] at D
    refine x_iconst (v := (-1)) rfl ki_m1 ?_
    refine x_iret rfl rfl ?_
    show jX m_X11_mentions 8 0 0 6 [(0, .ref 31), (1, .int a1), (2, .int a2), (3, .int a3), (4, .int a4)] [.int (-1)] _ 0 0 _
    refine x_istore (lsx9 := [(5, .int (-1)), (0, .ref 31), (1, .int a1), (2, .int a2), (3, .int a3), (4, .int a4)]) rfl rfl rfl ?_
    refine x_iload (x := (-1)) rfl rfl ?_
    refine x_iconst (v := (-1)) rfl ki_m1 ?_
    refine x_icne (tgt := 16) rfl rfl (ti_ne jk_m1 jk_m1 (bn_f (by omega) ?_))
    refine x_iconst (v := (-1)) rfl ki_m1 ?_
    refine x_iret rfl rfl ?_
    exact hQ _ _ (jr_of jk_m1 (by omega)) J Sm ((congrArg Prod.fst D).symm.trans (show (-1) = ((-1) : Int32).toInt from by have := jk_m1; omega)) (congrArg Prod.snd D).symm
  ·
    rw [if_pos (by omega)] at D
    refine x_aloadn (x := 31) rfl rfl ?_
    refine z_getR (N := 13) (b := 78) 11 4 rfl f_11_41 rfl J rfl 3972 ⟨rfl, rfl⟩ rfl ?_
    refine x_iloadn (x := a1) rfl rfl ?_
    refine x_inv (N := m_X7_isMention) (As := [.int a1]) (b := 78) (st := []) (dx9 := 6) (mc := 0) (ms := 0) (host := "") 7 rfl t_X7_isMention ⟨Or.inl q_11_187, i_X7_isMention.1, i_X7_isMention.2⟩ ⟨by decide, rfl⟩ (congrArg Prod.fst (J.1.1 78 (7, 16) rfl)) rfl (by decide) rfl rfl ⟨by decide, by decide⟩ (jC.of rfl k_X7_isMention rfl ?_)
    show jX m_X7_isMention 6 0 0 0 [(0, .ref 78), (1, .int a1)] [] _ 0 0 _
    refine x_iloadn (x := a1) rfl rfl ?_
    refine x_iflt (tgt := 41) rfl rfl (ti_lt rfl jk_0 ⟨fun c3 => ?_, fun c3 => ?_⟩)
    ·
      rw [if_pos (by omega)] at D
      refine x_iconst (v := 0) rfl ki_0 ?_
      refine x_zret rfl rfl (by decide) ?_
      show jX m_X11_soulOn 7 0 0 15 [(0, .ref 31), (1, .int a1), (2, .int a2)] [.int 0] _ 0 0 _
      refine x_ifne (tgt := 20) rfl rfl (ti_ne jk_0 jk_0 (bn_f (by omega) ?_))
      refine x_iconst (v := (-1)) rfl ki_m1 ?_
      refine x_iret rfl rfl ?_
      show jX m_X11_mentions 8 0 0 6 [(0, .ref 31), (1, .int a1), (2, .int a2), (3, .int a3), (4, .int a4)] [.int (-1)] _ 0 0 _
      refine x_istore (lsx9 := [(5, .int (-1)), (0, .ref 31), (1, .int a1), (2, .int a2), (3, .int a3), (4, .int a4)]) rfl rfl rfl ?_
      refine x_iload (x := (-1)) rfl rfl ?_
      refine x_iconst (v := (-1)) rfl ki_m1 ?_
      refine x_icne (tgt := 16) rfl rfl (ti_ne jk_m1 jk_m1 (bn_f (by omega) ?_))
      refine x_iconst (v := (-1)) rfl ki_m1 ?_
      refine x_iret rfl rfl ?_
      exact hQ _ _ (jr_of jk_m1 (by omega)) J Sm ((congrArg Prod.fst D).symm.trans (show (-1) = ((-1) : Int32).toInt from by have := jk_m1; omega)) (congrArg Prod.snd D).symm
    ·
      rw [if_neg (by omega)] at D
      refine x_iloadn (x := a1) rfl rfl ?_
      refine x_sipush (v := 600) rfl ks_600 ?_
      refine x_icge (tgt := 41) rfl rfl (ti_ge rfl jk_600 ⟨fun c4 => ?_, fun c4 => ?_⟩)
      ·
        rw [if_pos (by omega)] at D
        refine x_iconst (v := 0) rfl ki_0 ?_
        refine x_zret rfl rfl (by decide) ?_
        show jX m_X11_soulOn 7 0 0 15 [(0, .ref 31), (1, .int a1), (2, .int a2)] [.int 0] _ 0 0 _
        refine x_ifne (tgt := 20) rfl rfl (ti_ne jk_0 jk_0 (bn_f (by omega) ?_))
        refine x_iconst (v := (-1)) rfl ki_m1 ?_
        refine x_iret rfl rfl ?_
        show jX m_X11_mentions 8 0 0 6 [(0, .ref 31), (1, .int a1), (2, .int a2), (3, .int a3), (4, .int a4)] [.int (-1)] _ 0 0 _
        refine x_istore (lsx9 := [(5, .int (-1)), (0, .ref 31), (1, .int a1), (2, .int a2), (3, .int a3), (4, .int a4)]) rfl rfl rfl ?_
        refine x_iload (x := (-1)) rfl rfl ?_
        refine x_iconst (v := (-1)) rfl ki_m1 ?_
        refine x_icne (tgt := 16) rfl rfl (ti_ne jk_m1 jk_m1 (bn_f (by omega) ?_))
        refine x_iconst (v := (-1)) rfl ki_m1 ?_
        refine x_iret rfl rfl ?_
        exact hQ _ _ (jr_of jk_m1 (by omega)) J Sm ((congrArg Prod.fst D).symm.trans (show (-1) = ((-1) : Int32).toInt from by have := jk_m1; omega)) (congrArg Prod.snd D).symm
      ·
        rw [if_neg (by omega)] at D
        refine x_iloadn (x := a1) rfl rfl ?_
        refine x_iconst (v := 3) rfl ki_3 ?_
        refine z_idiv rfl rfl jk_3 (by omega) (by omega) (fun v5 ev5 => ?_)
        refine x_aloadn (x := 78) rfl rfl ?_
        refine z_getR (N := 16) (b := 32) 7 0 rfl f_7_55 rfl J rfl 9984 ⟨rfl, rfl⟩ rfl ?_
        refine z_getR (N := 20) (b := 33) 1 0 rfl f_7_63 rfl J rfl 4096 ⟨rfl, rfl⟩ rfl ?_
        refine z_getI (N := 4) 8 3 rfl f_7_85 rfl J rfl sg_33_3_4_1_0_1 (fun v6 qv6 ev6 => ?_)
        try rw [vrf qv6] at D
        refine x_icge (tgt := 41) rfl rfl (ti_ge rfl rfl ⟨fun c7 => ?_, fun c7 => ?_⟩)
        ·
          rw [if_pos (by omega)] at D
          refine x_iconst (v := 0) rfl ki_0 ?_
          refine x_zret rfl rfl (by decide) ?_
          show jX m_X11_soulOn 7 0 0 15 [(0, .ref 31), (1, .int a1), (2, .int a2)] [.int 0] _ 0 0 _
          refine x_ifne (tgt := 20) rfl rfl (ti_ne jk_0 jk_0 (bn_f (by omega) ?_))
          refine x_iconst (v := (-1)) rfl ki_m1 ?_
          refine x_iret rfl rfl ?_
          show jX m_X11_mentions 8 0 0 6 [(0, .ref 31), (1, .int a1), (2, .int a2), (3, .int a3), (4, .int a4)] [.int (-1)] _ 0 0 _
          refine x_istore (lsx9 := [(5, .int (-1)), (0, .ref 31), (1, .int a1), (2, .int a2), (3, .int a3), (4, .int a4)]) rfl rfl rfl ?_
          refine x_iload (x := (-1)) rfl rfl ?_
          refine x_iconst (v := (-1)) rfl ki_m1 ?_
          refine x_icne (tgt := 16) rfl rfl (ti_ne jk_m1 jk_m1 (bn_f (by omega) ?_))
          refine x_iconst (v := (-1)) rfl ki_m1 ?_
          refine x_iret rfl rfl ?_
          exact hQ _ _ (jr_of jk_m1 (by omega)) J Sm ((congrArg Prod.fst D).symm.trans (show (-1) = ((-1) : Int32).toInt from by have := jk_m1; omega)) (congrArg Prod.snd D).symm
        ·
          rw [if_neg (by omega)] at D
          refine x_aloadn (x := 78) rfl rfl ?_
          refine z_getR (N := 16) (b := 79) 7 7 rfl f_7_27 rfl J rfl 9991 ⟨rfl, rfl⟩ rfl ?_
          refine x_iloadn (x := a1) rfl rfl ?_
          refine z_iald (N := 600) rfl J rfl sg_79_0_600_1_0_1 rfl (by omega) (fun v8 qv8 ev8 => ?_)
          try rw [vrd qv8 (show a1.toInt = a1.toInt from by omega)] at D
          refine x_iconst (v := (-1)) rfl ki_m1 ?_
          refine x_iceq (tgt := 41) rfl rfl (ti_eq rfl jk_m1 ⟨fun c9 => ?_, fun c9 => ?_⟩)
          ·
            rw [if_pos (by omega)] at D
            refine x_iconst (v := 0) rfl ki_0 ?_
            refine x_zret rfl rfl (by decide) ?_
            show jX m_X11_soulOn 7 0 0 15 [(0, .ref 31), (1, .int a1), (2, .int a2)] [.int 0] _ 0 0 _
            refine x_ifne (tgt := 20) rfl rfl (ti_ne jk_0 jk_0 (bn_f (by omega) ?_))
            refine x_iconst (v := (-1)) rfl ki_m1 ?_
            refine x_iret rfl rfl ?_
            show jX m_X11_mentions 8 0 0 6 [(0, .ref 31), (1, .int a1), (2, .int a2), (3, .int a3), (4, .int a4)] [.int (-1)] _ 0 0 _
            refine x_istore (lsx9 := [(5, .int (-1)), (0, .ref 31), (1, .int a1), (2, .int a2), (3, .int a3), (4, .int a4)]) rfl rfl rfl ?_
            refine x_iload (x := (-1)) rfl rfl ?_
            refine x_iconst (v := (-1)) rfl ki_m1 ?_
            refine x_icne (tgt := 16) rfl rfl (ti_ne jk_m1 jk_m1 (bn_f (by omega) ?_))
            refine x_iconst (v := (-1)) rfl ki_m1 ?_
            refine x_iret rfl rfl ?_
            exact hQ _ _ (jr_of jk_m1 (by omega)) J Sm ((congrArg Prod.fst D).symm.trans (show (-1) = ((-1) : Int32).toInt from by have := jk_m1; omega)) (congrArg Prod.snd D).symm
          ·
            rw [if_neg (by omega)] at D
            refine x_iconst (v := 1) rfl ki_1 ?_
            refine x_goto (tgt := 42) rfl rfl ?_
            refine x_zret rfl rfl (by decide) ?_
            show jX m_X11_soulOn 7 0 0 15 [(0, .ref 31), (1, .int a1), (2, .int a2)] [.int 1] _ 0 0 _
            refine x_ifne (tgt := 20) rfl rfl (ti_ne jk_1 jk_0 (bn_t (by omega) ?_))
            refine x_aloadn (x := 31) rfl rfl ?_
            refine z_getR (N := 13) (b := 78) 11 4 rfl f_11_41 rfl J rfl 3972 ⟨rfl, rfl⟩ rfl ?_
            refine x_iloadn (x := a2) rfl rfl ?_
            refine x_inv (N := m_X7_asKnown) (As := [.int a2]) (b := 78) (st := []) (dx9 := 6) (mc := 0) (ms := 0) (host := "") 7 rfl t_X7_asKnown ⟨Or.inl q_11_240, i_X7_asKnown.1, i_X7_asKnown.2⟩ ⟨by decide, rfl⟩ (congrArg Prod.fst (J.1.1 78 (7, 16) rfl)) rfl (by decide) rfl rfl ⟨by decide, by decide⟩ (sf_X7_asKnown_r78d (jr_of rfl (by omega)) hD J rfl  (fun h J S10 X11 => ?_))
            have Sm := jSm_tr rfl Sm S10
            rw [X11] at D
            show jX m_X11_soulOn 7 0 0 28 [(0, .ref 31), (1, .int a1), (2, .int a2)] [] _ 0 0 _
            refine x_aloadn (x := 31) rfl rfl ?_
            refine z_getR (N := 13) (b := 78) 11 4 rfl f_11_41 rfl J rfl 3972 ⟨rfl, rfl⟩ rfl ?_
            refine z_getR (N := 16) (b := 82) 7 10 rfl f_11_537 rfl J rfl 9994 ⟨rfl, rfl⟩ rfl ?_
            refine x_iloadn (x := a1) rfl rfl ?_
            refine z_iald (N := 600) rfl J rfl sg_82_0_600_1_0_1 rfl (by omega) (fun v12 qv12 ev12 => ?_)
            try rw [vrd qv12 (show a1.toInt = a1.toInt from by omega)] at D
            refine x_iret rfl rfl ?_
            show jX m_X11_mentions 8 0 0 6 [(0, .ref 31), (1, .int a1), (2, .int a2), (3, .int a3), (4, .int a4)] [.int v12] _ 0 0 _
            refine x_istore (lsx9 := [(5, .int v12), (0, .ref 31), (1, .int a1), (2, .int a2), (3, .int a3), (4, .int a4)]) rfl rfl rfl ?_
            refine x_iload (x := v12) rfl rfl ?_
            refine x_iconst (v := (-1)) rfl ki_m1 ?_
            refine x_icne (tgt := 16) rfl rfl (ti_ne rfl jk_m1 ⟨fun c13 => ?_, fun c13 => ?_⟩)
            ·
              rw [if_neg (by omega)] at D
              refine x_iloadn (x := a3) rfl rfl ?_
              refine x_ifne (tgt := 30) rfl rfl (ti_ne rfl jk_0 ⟨fun c14 => ?_, fun c14 => ?_⟩)
              ·
                rw [if_neg (by omega)] at D
                refine x_iloadn (x := a3) rfl rfl ?_
                refine x_iconst (v := 1) rfl ki_1 ?_
                refine x_icne (tgt := 49) rfl rfl (ti_ne rfl jk_1 ⟨fun c15 => ?_, fun c15 => ?_⟩)
                ·
                  rw [if_neg (by omega)] at D
                  refine x_iconst (v := (-1)) rfl ki_m1 ?_
                  exact jX.sub jsb_n (ct_X11_mentions_r31d_100050 hD hQ  h J Sm D)
                ·
                  rw [if_pos (by omega)] at D
                  refine x_aloadn (x := 31) rfl rfl ?_
                  refine z_getR (N := 13) (b := 78) 11 4 rfl f_11_41 rfl J rfl 3972 ⟨rfl, rfl⟩ rfl ?_
                  refine x_iload (x := v12) rfl rfl ?_
                  refine x_iload (x := a4) rfl rfl ?_
                  refine x_inv (N := m_X7_mentionOf) (As := [.int v12, .int a4]) (b := 78) (st := []) (dx9 := 1) (mc := 0) (ms := 0) (host := "") 7 rfl t_X7_mentionOf ⟨Or.inl q_11_252, i_X7_mentionOf.1, i_X7_mentionOf.2⟩ ⟨by decide, rfl⟩ (congrArg Prod.fst (J.1.1 78 (7, 16) rfl)) rfl (by decide) rfl rfl ⟨by decide, by decide⟩ (sf_X7_mentionOf_r78d (jr_of rfl (by omega)) hD J rfl  (fun v19 h ev19 J S16 X17 X18 => ?_))
                  have Sm := jSm_tr rfl Sm S16
                  try rw [X17] at D
                  try rw [← X18] at D
                  show jX m_X11_mentions 8 0 0 46 [(5, .int v12), (0, .ref 31), (1, .int a1), (2, .int a2), (3, .int a3), (4, .int a4)] [.int v19] _ 0 0 _
                  refine x_goto (tgt := 50) rfl rfl ?_
                  exact jX.sub jsb_n (ct_X11_mentions_r31d_50 hD hQ  v19 h (jr_of rfl (by omega)) J Sm D)
              ·
                rw [if_pos (by omega)] at D
                refine x_aloadn (x := 31) rfl rfl ?_
                refine z_getR (N := 13) (b := 78) 11 4 rfl f_11_41 rfl J rfl 3972 ⟨rfl, rfl⟩ rfl ?_
                refine x_iload (x := v12) rfl rfl ?_
                refine x_inv (N := m_X7_sizeOf) (As := [.int v12]) (b := 78) (st := []) (dx9 := 1) (mc := 0) (ms := 0) (host := "") 7 rfl t_X7_sizeOf ⟨Or.inl q_11_249, i_X7_sizeOf.1, i_X7_sizeOf.2⟩ ⟨by decide, rfl⟩ (congrArg Prod.fst (J.1.1 78 (7, 16) rfl)) rfl (by decide) rfl rfl ⟨by decide, by decide⟩ (sf_X7_sizeOf_r78d (jr_of rfl (by omega)) hD J rfl  (fun v23 h ev23 J S20 X21 X22 => ?_))
                have Sm := jSm_tr rfl Sm S20
                try rw [X21] at D
                try rw [← X22] at D
                show jX m_X11_mentions 8 0 0 29 [(5, .int v12), (0, .ref 31), (1, .int a1), (2, .int a2), (3, .int a3), (4, .int a4)] [.int v23] _ 0 0 _
                refine x_iret rfl rfl ?_
                exact hQ _ _ (jr_of rfl (by omega)) J Sm ((congrArg Prod.fst D).symm.trans (show v23.toInt = v23.toInt from by omega)) (congrArg Prod.snd D).symm
            ·
              rw [if_pos (by omega)] at D
              refine x_iconst (v := (-1)) rfl ki_m1 ?_
              refine x_iret rfl rfl ?_
              exact hQ _ _ (jr_of jk_m1 (by omega)) J Sm ((congrArg Prod.fst D).symm.trans (show (-1) = ((-1) : Int32).toInt from by have := jk_m1; omega)) (congrArg Prod.snd D).symm
def fp_X11_name_r31d : jFp := []
set_option maxRecDepth 100000 in
set_option maxHeartbeats 4000000 in
theorem ct_X11_name_r31d_25 {Dy : jH → Prop} {h0 : jH} {Q : Option Value → jH → Prop} {dr : Int} (hD : jDk Dy) (hQ : ∀ (v : Int32) hx9, jJ jSgX Dy hx9 → jSm fp_X11_name_r31d h0 hx9 → dr = v.toInt → vw hx9 = vw h0 → Q (some (.int v)) hx9) : ∀ (h : jH), jJ jSgX Dy h → jSm fp_X11_name_r31d h0 h → d_X11_name_r31d_25  (vw h) = dr → vw h = vw h0 → jX m_X11_name 2 0 0 25 [] [] h 0 0 Q := by
  intro  h    J Sm D EV
  unfold d_X11_name_r31d_25 at D
  refine x_iconst (v := (-1)) rfl ki_m1 ?_
  refine x_iret rfl rfl ?_
  exact hQ _ _ J Sm (D.symm.trans (show (-1) = ((-1) : Int32).toInt from by have := jk_m1; omega)) EV
set_option maxRecDepth 100000 in
set_option maxHeartbeats 4000000 in
theorem ct_X11_name_r31d_100070 {Dy : jH → Prop} {h0 : jH} {Q : Option Value → jH → Prop} {dr : Int} (hD : jDk Dy) (hQ : ∀ (v : Int32) hx9, jJ jSgX Dy hx9 → jSm fp_X11_name_r31d h0 hx9 → dr = v.toInt → vw hx9 = vw h0 → Q (some (.int v)) hx9) : ∀ (h : jH), jJ jSgX Dy h → jSm fp_X11_name_r31d h0 h → d_X11_name_r31d_100070  (vw h) = dr → vw h = vw h0 → jX m_X11_name 2 0 0 70 [] [.int (-1)] h 0 0 Q := by
  intro  h    J Sm D EV
  unfold d_X11_name_r31d_100070 at D
  refine x_iret rfl rfl ?_
  exact hQ _ _ J Sm (D.symm.trans (show (-1) = ((-1) : Int32).toInt from by have := jk_m1; omega)) EV
set_option maxRecDepth 100000 in
set_option maxHeartbeats 4000000 in
theorem ct_X11_name_r31d_70 {Dy : jH → Prop} {h0 : jH} {Q : Option Value → jH → Prop} {dr : Int} (hD : jDk Dy) (hQ : ∀ (v : Int32) hx9, jJ jSgX Dy hx9 → jSm fp_X11_name_r31d h0 hx9 → dr = v.toInt → vw hx9 = vw h0 → Q (some (.int v)) hx9) : ∀ (s0 : Int32) (h : jH), jJ jSgX Dy h → jSm fp_X11_name_r31d h0 h → d_X11_name_r31d_70  s0.toInt (vw h) = dr → vw h = vw h0 → jX m_X11_name 2 0 0 70 [] [.int s0] h 0 0 Q := by
  intro s0 h    J Sm D EV
  have es0 := jfull s0
  unfold d_X11_name_r31d_70 at D
  refine x_iret rfl rfl ?_
  exact hQ _ _ J Sm (D.symm.trans (show s0.toInt = s0.toInt from by omega)) EV
set_option maxRecDepth 100000 in
set_option maxHeartbeats 4000000 in
theorem sf_X11_name_r31d {Dy : jH → Prop} {h : jH} {Q : Option Value → jH → Prop} {dr : Int} {a1 : Int32} {a2 : Int32} {a3 : Int32} (hD : jDk Dy) (J : jJ jSgX Dy h) (D : d_X11_name_r31d a1.toInt a2.toInt a3.toInt (vw h) = dr) (hQ : ∀ (v : Int32) hx9, jJ jSgX Dy hx9 → jSm fp_X11_name_r31d h hx9 → dr = v.toInt → vw hx9 = vw h → Q (some (.int v)) hx9) : jC m_X11_name 2 0 0 [.ref 31, .int a1, .int a2, .int a3] h Q := by
  refine jC.of rfl k_X11_name rfl ?_
  have Sm := jSm_rf fp_X11_name_r31d h
  have ea1 := jfull a1
  have ea2 := jfull a2
  have ea3 := jfull a3
  show jX m_X11_name 2 0 0 0 [(0, .ref 31), (1, .int a1), (2, .int a2), (3, .int a3)] [] _ 0 0 _
  unfold d_X11_name_r31d at D
  have EV : vw h = vw h := rfl
  refine x_aloadn (x := 31) rfl rfl ?_
  refine z_getR (N := 13) (b := 78) 11 4 rfl f_11_41 rfl J rfl 3972 ⟨rfl, rfl⟩ rfl ?_
  refine x_iloadn (x := a1) rfl rfl ?_
  refine x_inv (N := m_X7_isMention) (As := [.int a1]) (b := 78) (st := []) (dx9 := 1) (mc := 0) (ms := 0) (host := "") 7 rfl t_X7_isMention ⟨Or.inl q_11_187, i_X7_isMention.1, i_X7_isMention.2⟩ ⟨by decide, rfl⟩ (congrArg Prod.fst (J.1.1 78 (7, 16) rfl)) rfl (by decide) rfl rfl ⟨by decide, by decide⟩ (jC.of rfl k_X7_isMention rfl ?_)
  show jX m_X7_isMention 1 0 0 0 [(0, .ref 78), (1, .int a1)] [] _ 0 0 _
  refine x_iloadn (x := a1) rfl rfl ?_
  refine x_iflt (tgt := 41) rfl rfl (ti_lt rfl jk_0 ⟨fun c1 => ?_, fun c1 => ?_⟩)
  ·
    rw [if_pos (by omega)] at D
    refine x_iconst (v := 0) rfl ki_0 ?_
    refine x_zret rfl rfl (by decide) ?_
    show jX m_X11_name 2 0 0 8 [(0, .ref 31), (1, .int a1), (2, .int a2), (3, .int a3)] [.int 0] _ 0 0 _
    refine x_ifeq (tgt := 25) rfl rfl (ti_eq jk_0 jk_0 (br_t (by omega) ?_))
    exact jX.sub jsb_n (ct_X11_name_r31d_25 hD hQ  h J Sm D EV)
  ·
    rw [if_neg (by omega)] at D
    refine x_iloadn (x := a1) rfl rfl ?_
    refine x_sipush (v := 600) rfl ks_600 ?_
    refine x_icge (tgt := 41) rfl rfl (ti_ge rfl jk_600 ⟨fun c2 => ?_, fun c2 => ?_⟩)
    ·
      rw [if_pos (by omega)] at D
      refine x_iconst (v := 0) rfl ki_0 ?_
      refine x_zret rfl rfl (by decide) ?_
      show jX m_X11_name 2 0 0 8 [(0, .ref 31), (1, .int a1), (2, .int a2), (3, .int a3)] [.int 0] _ 0 0 _
      refine x_ifeq (tgt := 25) rfl rfl (ti_eq jk_0 jk_0 (br_t (by omega) ?_))
      exact jX.sub jsb_n (ct_X11_name_r31d_25 hD hQ  h J Sm D EV)
    ·
      rw [if_neg (by omega)] at D
      refine x_iloadn (x := a1) rfl rfl ?_
      refine x_iconst (v := 3) rfl ki_3 ?_
      refine z_idiv rfl rfl jk_3 (by omega) (by omega) (fun v3 ev3 => ?_)
      refine x_aloadn (x := 78) rfl rfl ?_
      refine z_getR (N := 16) (b := 32) 7 0 rfl f_7_55 rfl J rfl 9984 ⟨rfl, rfl⟩ rfl ?_
      refine z_getR (N := 20) (b := 33) 1 0 rfl f_7_63 rfl J rfl 4096 ⟨rfl, rfl⟩ rfl ?_
      refine z_getI (N := 4) 8 3 rfl f_7_85 rfl J rfl sg_33_3_4_1_0_1 (fun v4 qv4 ev4 => ?_)
      try rw [vrf qv4] at D
      refine x_icge (tgt := 41) rfl rfl (ti_ge rfl rfl ⟨fun c5 => ?_, fun c5 => ?_⟩)
      ·
        rw [if_pos (by omega)] at D
        refine x_iconst (v := 0) rfl ki_0 ?_
        refine x_zret rfl rfl (by decide) ?_
        show jX m_X11_name 2 0 0 8 [(0, .ref 31), (1, .int a1), (2, .int a2), (3, .int a3)] [.int 0] _ 0 0 _
        refine x_ifeq (tgt := 25) rfl rfl (ti_eq jk_0 jk_0 (br_t (by omega) ?_))
        exact jX.sub jsb_n (ct_X11_name_r31d_25 hD hQ  h J Sm D EV)
      ·
        rw [if_neg (by omega)] at D
        refine x_aloadn (x := 78) rfl rfl ?_
        refine z_getR (N := 16) (b := 79) 7 7 rfl f_7_27 rfl J rfl 9991 ⟨rfl, rfl⟩ rfl ?_
        refine x_iloadn (x := a1) rfl rfl ?_
        refine z_iald (N := 600) rfl J rfl sg_79_0_600_1_0_1 rfl (by omega) (fun v6 qv6 ev6 => ?_)
        try rw [vrd qv6 (show a1.toInt = a1.toInt from by omega)] at D
        refine x_iconst (v := (-1)) rfl ki_m1 ?_
        refine x_iceq (tgt := 41) rfl rfl (ti_eq rfl jk_m1 ⟨fun c7 => ?_, fun c7 => ?_⟩)
        ·
          rw [if_pos (by omega)] at D
          refine x_iconst (v := 0) rfl ki_0 ?_
          refine x_zret rfl rfl (by decide) ?_
          show jX m_X11_name 2 0 0 8 [(0, .ref 31), (1, .int a1), (2, .int a2), (3, .int a3)] [.int 0] _ 0 0 _
          refine x_ifeq (tgt := 25) rfl rfl (ti_eq jk_0 jk_0 (br_t (by omega) ?_))
          exact jX.sub jsb_n (ct_X11_name_r31d_25 hD hQ  h J Sm D EV)
        ·
          rw [if_neg (by omega)] at D
          refine x_iconst (v := 1) rfl ki_1 ?_
          refine x_goto (tgt := 42) rfl rfl ?_
          refine x_zret rfl rfl (by decide) ?_
          show jX m_X11_name 2 0 0 8 [(0, .ref 31), (1, .int a1), (2, .int a2), (3, .int a3)] [.int 1] _ 0 0 _
          refine x_ifeq (tgt := 25) rfl rfl (ti_eq jk_1 jk_0 (br_f (by omega) ?_))
          refine x_iloadn (x := a2) rfl rfl ?_
          refine x_iflt (tgt := 25) rfl rfl (ti_lt rfl jk_0 ⟨fun c8 => ?_, fun c8 => ?_⟩)
          ·
            rw [if_pos (by omega)] at D
            exact jX.sub jsb_n (ct_X11_name_r31d_25 hD hQ  h J Sm D EV)
          ·
            rw [if_neg (by omega)] at D
            refine x_iloadn (x := a2) rfl rfl ?_
            refine x_iconst (v := 1) rfl ki_1 ?_
            refine x_icgt (tgt := 25) rfl rfl (ti_gt rfl jk_1 ⟨fun c9 => ?_, fun c9 => ?_⟩)
            ·
              rw [if_pos (by omega)] at D
              exact jX.sub jsb_n (ct_X11_name_r31d_25 hD hQ  h J Sm D EV)
            ·
              rw [if_neg (by omega)] at D
              refine x_iloadn (x := a3) rfl rfl ?_
              refine x_iconst (v := (-1)) rfl ki_m1 ?_
              refine x_icge (tgt := 27) rfl rfl (ti_ge rfl jk_m1 ⟨fun c10 => ?_, fun c10 => ?_⟩)
              ·
                rw [if_pos (by omega)] at D
                refine x_iconst (v := 0) rfl ki_0 ?_
                refine x_aloadn (x := 31) rfl rfl ?_
                refine z_getR (N := 13) (b := 70) 11 3 rfl f_11_32 rfl J rfl 3971 ⟨rfl, rfl⟩ rfl ?_
                refine x_iloadn (x := a1) rfl rfl ?_
                refine x_iloadn (x := a2) rfl rfl ?_
                refine x_inv (N := m_X5_lengthOf) (As := [.int a1, .int a2]) (b := 70) (st := [.int 0]) (dx9 := 1) (mc := 0) (ms := 0) (host := "") 5 rfl t_X5_lengthOf ⟨Or.inl q_11_190, i_X5_lengthOf.1, i_X5_lengthOf.2⟩ ⟨by decide, rfl⟩ (congrArg Prod.fst (J.1.1 70 (5, 9) rfl)) rfl (by decide) rfl rfl ⟨by decide, by decide⟩ (jC.of rfl k_X5_lengthOf rfl ?_)
                show jX m_X5_lengthOf 1 0 0 0 [(0, .ref 70), (1, .int a1), (2, .int a2)] [] _ 0 0 _
                refine x_iloadn (x := a1) rfl rfl ?_
                refine x_iconst (v := 2) rfl ki_2 ?_
                refine z_imul rfl rfl jk_2 (by omega) (fun v11 ev11 => ?_)
                refine x_iloadn (x := a2) rfl rfl ?_
                refine z_iadd rfl rfl rfl (by omega) (fun v12 ev12 => ?_)
                refine x_istoren (lsx9 := [(3, .int v12), (0, .ref 70), (1, .int a1), (2, .int a2)]) rfl rfl rfl ?_
                refine x_iloadn (x := v12) rfl rfl ?_
                refine x_iflt (tgt := 26) rfl rfl (ti_lt rfl jk_0 (br_f (by omega) ?_))
                refine x_iloadn (x := v12) rfl rfl ?_
                refine x_sipush (v := 1200) rfl ks_1200 ?_
                refine x_icge (tgt := 26) rfl rfl (ti_ge rfl jk_1200 (br_f (by omega) ?_))
                refine x_aloadn (x := 70) rfl rfl ?_
                refine z_getR (N := 9) (b := 76) 5 7 rfl f_5_28 rfl J rfl 8967 ⟨rfl, rfl⟩ rfl ?_
                refine x_iloadn (x := v12) rfl rfl ?_
                refine z_iald (N := 1200) rfl J rfl sg_76_0_1200_1_0_1 rfl (by omega) (fun v13 qv13 ev13 => ?_)
                try rw [vrd qv13 (show ((a1.toInt * 2) + a2.toInt) = v12.toInt from by omega)] at D
                refine x_goto (tgt := 27) rfl rfl ?_
                refine x_iret rfl rfl ?_
                show jX m_X11_name 2 0 0 37 [(0, .ref 31), (1, .int a1), (2, .int a2), (3, .int a3)] [.int v13, .int 0] _ 0 0 _
                refine z_mmax rfl q_11_193 (by decide) rfl jk_0 rfl (fun v14 ev14 => ?_)
                refine x_istore (lsx9 := [(4, .int v14), (0, .ref 31), (1, .int a1), (2, .int a2), (3, .int a3)]) rfl rfl rfl ?_
                refine x_iloadn (x := a3) rfl rfl ?_
                refine x_iconst (v := (-1)) rfl ki_m1 ?_
                refine x_icne (tgt := 50) rfl rfl (ti_ne rfl jk_m1 ⟨fun c15 => ?_, fun c15 => ?_⟩)
                ·
                  rw [if_neg (by omega)] at D
                  refine x_iloadn (x := a3) rfl rfl ?_
                  refine x_iload (x := v14) rfl rfl ?_
                  refine x_icge (tgt := 69) rfl rfl (ti_ge rfl rfl ⟨fun c16 => ?_, fun c16 => ?_⟩)
                  ·
                    rw [if_pos (by omega)] at D
                    refine x_iconst (v := (-1)) rfl ki_m1 ?_
                    exact jX.sub jsb_n (ct_X11_name_r31d_100070 hD hQ  h J Sm D EV)
                  ·
                    rw [if_neg (by omega)] at D
                    refine x_aloadn (x := 31) rfl rfl ?_
                    refine z_getR (N := 13) (b := 70) 11 3 rfl f_11_32 rfl J rfl 3971 ⟨rfl, rfl⟩ rfl ?_
                    refine x_iloadn (x := a1) rfl rfl ?_
                    refine x_iloadn (x := a2) rfl rfl ?_
                    refine x_iloadn (x := a3) rfl rfl ?_
                    refine x_inv (N := m_X5_letterOf) (As := [.int a1, .int a2, .int a3]) (b := 70) (st := []) (dx9 := 1) (mc := 0) (ms := 0) (host := "") 5 rfl t_X5_letterOf ⟨Or.inl q_11_198, i_X5_letterOf.1, i_X5_letterOf.2⟩ ⟨by decide, rfl⟩ (congrArg Prod.fst (J.1.1 70 (5, 9) rfl)) rfl (by decide) rfl rfl ⟨by decide, by decide⟩ (jC.of rfl k_X5_letterOf rfl ?_)
                    show jX m_X5_letterOf 1 0 0 0 [(0, .ref 70), (1, .int a1), (2, .int a2), (3, .int a3)] [] _ 0 0 _
                    refine x_iloadn (x := a1) rfl rfl ?_
                    refine x_iconst (v := 2) rfl ki_2 ?_
                    refine z_imul rfl rfl jk_2 (by omega) (fun v17 ev17 => ?_)
                    refine x_iloadn (x := a2) rfl rfl ?_
                    refine z_iadd rfl rfl rfl (by omega) (fun v18 ev18 => ?_)
                    refine x_istore (lsx9 := [(4, .int v18), (0, .ref 70), (1, .int a1), (2, .int a2), (3, .int a3)]) rfl rfl rfl ?_
                    refine x_iload (x := v18) rfl rfl ?_
                    refine x_iflt (tgt := 45) rfl rfl (ti_lt rfl jk_0 (br_f (by omega) ?_))
                    refine x_iload (x := v18) rfl rfl ?_
                    refine x_sipush (v := 1200) rfl ks_1200 ?_
                    refine x_icge (tgt := 45) rfl rfl (ti_ge rfl jk_1200 (br_f (by omega) ?_))
                    refine x_iloadn (x := a3) rfl rfl ?_
                    refine x_iflt (tgt := 45) rfl rfl (ti_lt rfl jk_0 (br_f (by omega) ?_))
                    refine x_iloadn (x := a3) rfl rfl ?_
                    refine x_bipush (v := 36) rfl kb_36 ?_
                    refine x_icge (tgt := 45) rfl rfl (ti_ge rfl jk_36 (br_f (by omega) ?_))
                    refine x_aloadn (x := 70) rfl rfl ?_
                    refine z_getR (N := 9) (b := 75) 5 6 rfl f_5_25 rfl J rfl 8966 ⟨rfl, rfl⟩ rfl ?_
                    refine x_iload (x := v18) rfl rfl ?_
                    refine x_bipush (v := 36) rfl kb_36 ?_
                    refine z_imul rfl rfl jk_36 (by omega) (fun v19 ev19 => ?_)
                    refine x_iloadn (x := a3) rfl rfl ?_
                    refine z_iadd rfl rfl rfl (by omega) (fun v20 ev20 => ?_)
                    refine z_iald0 (N := 43200) rfl J rfl rfl (by omega) (fun v21 qv21 => ?_)
                    have ev21 := jfull v21
                    try rw [vrd qv21 (show ((((a1.toInt * 2) + a2.toInt) * 36) + a3.toInt) = v20.toInt from by omega)] at D
                    refine x_goto (tgt := 46) rfl rfl ?_
                    refine x_iret rfl rfl ?_
                    show jX m_X11_name 2 0 0 66 [(4, .int v14), (0, .ref 31), (1, .int a1), (2, .int a2), (3, .int a3)] [.int v21] _ 0 0 _
                    refine x_goto (tgt := 70) rfl rfl ?_
                    exact jX.sub jsb_n (ct_X11_name_r31d_70 hD hQ  v21 h J Sm D EV)
                ·
                  rw [if_pos (by omega)] at D
                  refine x_iload (x := v14) rfl rfl ?_
                  refine x_iret rfl rfl ?_
                  try rw [show (max 0 v13.toInt) = v14.toInt from by omega] at D
                  exact hQ _ _ J Sm (D.symm.trans (show v14.toInt = v14.toInt from by omega)) EV
              ·
                rw [if_neg (by omega)] at D
                exact jX.sub jsb_n (ct_X11_name_r31d_25 hD hQ  h J Sm D EV)
def fp_X8_at_r33_c5d : jFp := []
set_option maxRecDepth 100000 in
set_option maxHeartbeats 4000000 in
theorem ct_X8_at_r33_c5d_24 {Dy : jH → Prop} {h0 : jH} {Q : Option Value → jH → Prop} {dr : Int} (hD : jDk Dy) (hQ : ∀ (v : Int32) hx9, 0 ≤ v.toInt ∧ v.toInt ≤ 1 → jJ jSgX Dy hx9 → jSm fp_X8_at_r33_c5d h0 hx9 → dr = v.toInt → vw hx9 = vw h0 → Q (some (.int v)) hx9) : ∀ (h : jH), jJ jSgX Dy h → jSm fp_X8_at_r33_c5d h0 h → d_X8_at_r33_c5d_24  (vw h) = dr → vw h = vw h0 → jX m_X8_at 1 0 0 24 [] [] h 0 0 Q := by
  intro  h    J Sm D EV
  unfold d_X8_at_r33_c5d_24 at D
  refine x_iconst (v := 0) rfl ki_0 ?_
  refine x_iret rfl rfl ?_
  exact hQ _ _ (jr_of jk_0 (by omega)) J Sm (D.symm.trans (show 0 = (0 : Int32).toInt from by have := jk_0; omega)) EV
set_option maxRecDepth 100000 in
set_option maxHeartbeats 4000000 in
theorem sf_X8_at_r33_c5d {Dy : jH → Prop} {h : jH} {Q : Option Value → jH → Prop} {dr : Int} {a1 : Int32} (y1 : 0 ≤ a1.toInt ∧ a1.toInt ≤ 199) (hD : jDk Dy) (J : jJ jSgX Dy h) (D : d_X8_at_r33_c5d a1.toInt (vw h) = dr) (hQ : ∀ (v : Int32) hx9, 0 ≤ v.toInt ∧ v.toInt ≤ 1 → jJ jSgX Dy hx9 → jSm fp_X8_at_r33_c5d h hx9 → dr = v.toInt → vw hx9 = vw h → Q (some (.int v)) hx9) : jC m_X8_at 1 0 0 [.ref 33, .int a1, .int 5] h Q := by
  refine jC.of rfl k_X8_at rfl ?_
  have Sm := jSm_rf fp_X8_at_r33_c5d h
  show jX m_X8_at 1 0 0 0 [(0, .ref 33), (1, .int a1), (2, .int 5)] [] _ 0 0 _
  unfold d_X8_at_r33_c5d at D
  have EV : vw h = vw h := rfl
  refine x_iloadn (x := a1) rfl rfl ?_
  refine x_iflt (tgt := 24) rfl rfl (ti_lt rfl jk_0 (br_f (by omega) ?_))
  refine x_iloadn (x := a1) rfl rfl ?_
  refine x_aloadn (x := 33) rfl rfl ?_
  refine z_getI (N := 4) 8 3 rfl f_8_7 rfl J rfl sg_33_3_4_1_0_1 (fun v1 qv1 ev1 => ?_)
  try rw [vrf qv1] at D
  refine x_icge (tgt := 24) rfl rfl (ti_ge rfl rfl ⟨fun c2 => ?_, fun c2 => ?_⟩)
  ·
    rw [if_pos (by omega)] at D
    exact jX.sub jsb_n (ct_X8_at_r33_c5d_24 hD hQ  h J Sm D EV)
  ·
    rw [if_neg (by omega)] at D
    refine x_iloadn (x := 5) rfl rfl ?_
    refine x_iflt (tgt := 24) rfl rfl (ti_lt jk_5 jk_0 (br_f (by omega) ?_))
    refine x_iloadn (x := 5) rfl rfl ?_
    refine x_aloadn (x := 33) rfl rfl ?_
    refine z_getC (N := 4) (v := 6) 8 0 rfl f_8_19 rfl J rfl sg_33_0_1_1_0_1 jk_6 ?_
    refine x_iclt (tgt := 26) rfl rfl (ti_lt jk_5 jk_6 (br_t (by omega) ?_))
    refine x_aloadn (x := 33) rfl rfl ?_
    refine z_getR (N := 4) (b := 34) 8 2 rfl f_8_25 rfl J rfl 4226 ⟨rfl, rfl⟩ rfl ?_
    refine x_iloadn (x := a1) rfl rfl ?_
    refine x_aloadn (x := 33) rfl rfl ?_
    refine z_getC (N := 4) (v := 6) 8 0 rfl f_8_19 rfl J rfl sg_33_0_1_1_0_1 jk_6 ?_
    refine z_imul rfl rfl jk_6 (by omega) (fun v3 ev3 => ?_)
    refine x_iloadn (x := 5) rfl rfl ?_
    refine z_iadd rfl rfl jk_5 (by omega) (fun v4 ev4 => ?_)
    refine z_iald (N := 1200) rfl J rfl sg_34_0_1200_6_5_6 rfl (by omega) (fun v5 qv5 ev5 => ?_)
    try rw [vrd qv5 (show ((a1.toInt * 6) + 5) = v4.toInt from by omega)] at D
    refine x_iret rfl rfl ?_
    exact hQ _ _ (jr_of rfl (by omega)) J Sm (D.symm.trans (show v5.toInt = v5.toInt from by omega)) EV
def fp_X11_of_r31d : jFp := []
set_option maxRecDepth 100000 in
set_option maxHeartbeats 4000000 in
theorem sf_X11_of_r31d {Dy : jH → Prop} {h : jH} {Q : Option Value → jH → Prop} {dr : Int} {a1 : Int32} {a2 : Int32} (hD : jDk Dy) (J : jJ jSgX Dy h) (D : d_X11_of_r31d a1.toInt a2.toInt (vw h) = dr) (hQ : ∀ (v : Int32) hx9, jJ jSgX Dy hx9 → jSm fp_X11_of_r31d h hx9 → dr = v.toInt → vw hx9 = vw h → Q (some (.int v)) hx9) : jC m_X11_of 3 0 0 [.ref 31, .int a1, .int a2] h Q := by
  refine jC.of rfl k_X11_of rfl ?_
  have Sm := jSm_rf fp_X11_of_r31d h
  have ea1 := jfull a1
  have ea2 := jfull a2
  show jX m_X11_of 3 0 0 0 [(0, .ref 31), (1, .int a1), (2, .int a2)] [] _ 0 0 _
  unfold d_X11_of_r31d at D
  have EV : vw h = vw h := rfl
  refine x_aloadn (x := 31) rfl rfl ?_
  refine x_iloadn (x := a1) rfl rfl ?_
  refine x_inv (N := m_X11_isLine) (As := [.int a1]) (b := 31) (st := []) (dx9 := 2) (mc := 0) (ms := 0) (host := "") 11 rfl t_X11_isLine ⟨Or.inl q_11_168, i_X11_isLine.1, i_X11_isLine.2⟩ ⟨by decide, rfl⟩ (congrArg Prod.fst (J.1.1 31 (11, 13) rfl)) rfl (by decide) rfl rfl ⟨by decide, by decide⟩ (jC.of rfl k_X11_isLine rfl ?_)
  show jX m_X11_isLine 2 0 0 0 [(0, .ref 31), (1, .int a1)] [] _ 0 0 _
  refine x_iloadn (x := a1) rfl rfl ?_
  refine x_iflt (tgt := 22) rfl rfl (ti_lt rfl jk_0 ⟨fun c1 => ?_, fun c1 => ?_⟩)
  ·
    rw [if_pos (by omega)] at D
    refine x_iconst (v := 0) rfl ki_0 ?_
    refine x_zret rfl rfl (by decide) ?_
    show jX m_X11_of 3 0 0 5 [(0, .ref 31), (1, .int a1), (2, .int a2)] [.int 0] _ 0 0 _
    refine x_ifne (tgt := 11) rfl rfl (ti_ne jk_0 jk_0 (bn_f (by omega) ?_))
    refine x_bipush (v := (-2)) rfl kb_m2 ?_
    refine x_iret rfl rfl ?_
    exact hQ _ _ J Sm (D.symm.trans (show (-2) = ((-2) : Int32).toInt from by have := jk_m2; omega)) EV
  ·
    rw [if_neg (by omega)] at D
    refine x_iloadn (x := a1) rfl rfl ?_
    refine x_aloadn (x := 31) rfl rfl ?_
    refine z_getR (N := 13) (b := 32) 11 0 rfl f_11_10 rfl J rfl 3968 ⟨rfl, rfl⟩ rfl ?_
    refine z_getR (N := 20) (b := 33) 1 0 rfl f_11_126 rfl J rfl 4096 ⟨rfl, rfl⟩ rfl ?_
    refine z_getI (N := 4) 8 3 rfl f_11_142 rfl J rfl sg_33_3_4_1_0_1 (fun v2 qv2 ev2 => ?_)
    try rw [vrf qv2] at D
    refine x_icge (tgt := 22) rfl rfl (ti_ge rfl rfl ⟨fun c3 => ?_, fun c3 => ?_⟩)
    ·
      rw [if_pos (by omega)] at D
      refine x_iconst (v := 0) rfl ki_0 ?_
      refine x_zret rfl rfl (by decide) ?_
      show jX m_X11_of 3 0 0 5 [(0, .ref 31), (1, .int a1), (2, .int a2)] [.int 0] _ 0 0 _
      refine x_ifne (tgt := 11) rfl rfl (ti_ne jk_0 jk_0 (bn_f (by omega) ?_))
      refine x_bipush (v := (-2)) rfl kb_m2 ?_
      refine x_iret rfl rfl ?_
      exact hQ _ _ J Sm (D.symm.trans (show (-2) = ((-2) : Int32).toInt from by have := jk_m2; omega)) EV
    ·
      rw [if_neg (by omega)] at D
      refine x_iconst (v := 1) rfl ki_1 ?_
      refine x_goto (tgt := 23) rfl rfl ?_
      refine x_zret rfl rfl (by decide) ?_
      show jX m_X11_of 3 0 0 5 [(0, .ref 31), (1, .int a1), (2, .int a2)] [.int 1] _ 0 0 _
      refine x_ifne (tgt := 11) rfl rfl (ti_ne jk_1 jk_0 (bn_t (by omega) ?_))
      refine x_iloadn (x := a2) rfl rfl ?_
      by_cases c4 : a2.toInt = 0
      ·
        refine x_tableIn (tgt := 52) 0 rfl c4 (by decide) (by decide) rfl rfl ?_
        rw [if_pos c4] at D
        refine x_aloadn (x := 31) rfl rfl ?_
        refine z_getR (N := 13) (b := 32) 11 0 rfl f_11_10 rfl J rfl 3968 ⟨rfl, rfl⟩ rfl ?_
        refine z_getR (N := 20) (b := 33) 1 0 rfl f_11_126 rfl J rfl 4096 ⟨rfl, rfl⟩ rfl ?_
        refine x_iloadn (x := a1) rfl rfl ?_
        refine x_iconst (v := 2) rfl ki_2 ?_
        refine x_inv (N := m_X8_at) (As := [.int a1, .int 2]) (b := 33) (st := []) (dx9 := 1) (mc := 0) (ms := 0) (host := "") 8 rfl t_X8_at ⟨Or.inl q_11_171, i_X8_at.1, i_X8_at.2⟩ ⟨by decide, rfl⟩ (congrArg Prod.fst (J.1.1 33 (8, 4) rfl)) rfl (by decide) rfl rfl ⟨by decide, by decide⟩ (sf_X8_at_r33_c2d  hD J rfl  (fun v8 h ev8 J S5 X6 X7 => ?_))
        have Sm := jSm_tr rfl Sm S5
        try rw [X6] at D
        try rw [← X7] at D
        have EV := X7.trans EV
        show jX m_X11_of 3 0 0 64 [(0, .ref 31), (1, .int a1), (2, .int a2)] [.int v8] _ 0 0 _
        refine x_iret rfl rfl ?_
        exact hQ _ _ J Sm (D.symm.trans (show v8.toInt = v8.toInt from by omega)) EV
      rw [if_neg c4] at D
      by_cases c9 : a2.toInt = 1
      ·
        refine x_tableIn (tgt := 65) 1 rfl c9 (by decide) (by decide) rfl rfl ?_
        rw [if_pos c9] at D
        refine x_aloadn (x := 31) rfl rfl ?_
        refine z_getR (N := 13) (b := 32) 11 0 rfl f_11_10 rfl J rfl 3968 ⟨rfl, rfl⟩ rfl ?_
        refine z_getR (N := 20) (b := 33) 1 0 rfl f_11_126 rfl J rfl 4096 ⟨rfl, rfl⟩ rfl ?_
        refine x_iloadn (x := a1) rfl rfl ?_
        refine x_iconst (v := 3) rfl ki_3 ?_
        refine x_inv (N := m_X8_at) (As := [.int a1, .int 3]) (b := 33) (st := []) (dx9 := 1) (mc := 0) (ms := 0) (host := "") 8 rfl t_X8_at ⟨Or.inl q_11_171, i_X8_at.1, i_X8_at.2⟩ ⟨by decide, rfl⟩ (congrArg Prod.fst (J.1.1 33 (8, 4) rfl)) rfl (by decide) rfl rfl ⟨by decide, by decide⟩ (sf_X8_at_r33_c3d (jr_of rfl (by omega)) hD J rfl  (fun v13 h ev13 J S10 X11 X12 => ?_))
        have Sm := jSm_tr rfl Sm S10
        try rw [X11] at D
        try rw [← X12] at D
        have EV := X12.trans EV
        show jX m_X11_of 3 0 0 77 [(0, .ref 31), (1, .int a1), (2, .int a2)] [.int v13] _ 0 0 _
        refine x_iret rfl rfl ?_
        exact hQ _ _ J Sm (D.symm.trans (show v13.toInt = v13.toInt from by omega)) EV
      rw [if_neg c9] at D
      by_cases c14 : a2.toInt = 2
      ·
        refine x_tableIn (tgt := 78) 2 rfl c14 (by decide) (by decide) rfl rfl ?_
        rw [if_pos c14] at D
        refine x_aloadn (x := 31) rfl rfl ?_
        refine z_getR (N := 13) (b := 32) 11 0 rfl f_11_10 rfl J rfl 3968 ⟨rfl, rfl⟩ rfl ?_
        refine z_getR (N := 20) (b := 33) 1 0 rfl f_11_126 rfl J rfl 4096 ⟨rfl, rfl⟩ rfl ?_
        refine x_iloadn (x := a1) rfl rfl ?_
        refine x_iconst (v := 1) rfl ki_1 ?_
        refine x_inv (N := m_X8_at) (As := [.int a1, .int 1]) (b := 33) (st := []) (dx9 := 1) (mc := 0) (ms := 0) (host := "") 8 rfl t_X8_at ⟨Or.inl q_11_171, i_X8_at.1, i_X8_at.2⟩ ⟨by decide, rfl⟩ (congrArg Prod.fst (J.1.1 33 (8, 4) rfl)) rfl (by decide) rfl rfl ⟨by decide, by decide⟩ (sf_X8_at_r33_c1d  hD J rfl  (fun v18 h ev18 J S15 X16 X17 => ?_))
        have Sm := jSm_tr rfl Sm S15
        try rw [X16] at D
        try rw [← X17] at D
        have EV := X17.trans EV
        show jX m_X11_of 3 0 0 90 [(0, .ref 31), (1, .int a1), (2, .int a2)] [.int v18] _ 0 0 _
        refine x_iret rfl rfl ?_
        exact hQ _ _ J Sm (D.symm.trans (show v18.toInt = v18.toInt from by omega)) EV
      rw [if_neg c14] at D
      by_cases c19 : a2.toInt = 3
      ·
        refine x_tableIn (tgt := 91) 3 rfl c19 (by decide) (by decide) rfl rfl ?_
        rw [if_pos c19] at D
        refine x_aloadn (x := 31) rfl rfl ?_
        refine z_getR (N := 13) (b := 32) 11 0 rfl f_11_10 rfl J rfl 3968 ⟨rfl, rfl⟩ rfl ?_
        refine z_getR (N := 20) (b := 33) 1 0 rfl f_11_126 rfl J rfl 4096 ⟨rfl, rfl⟩ rfl ?_
        refine x_iloadn (x := a1) rfl rfl ?_
        refine x_iconst (v := 4) rfl ki_4 ?_
        refine x_inv (N := m_X8_at) (As := [.int a1, .int 4]) (b := 33) (st := []) (dx9 := 1) (mc := 0) (ms := 0) (host := "") 8 rfl t_X8_at ⟨Or.inl q_11_171, i_X8_at.1, i_X8_at.2⟩ ⟨by decide, rfl⟩ (congrArg Prod.fst (J.1.1 33 (8, 4) rfl)) rfl (by decide) rfl rfl ⟨by decide, by decide⟩ (sf_X8_at_r33_c4d  hD J rfl  (fun v23 h J S20 X21 X22 => ?_))
        have ev23 := jfull v23
        have Sm := jSm_tr rfl Sm S20
        try rw [X21] at D
        try rw [← X22] at D
        have EV := X22.trans EV
        show jX m_X11_of 3 0 0 103 [(0, .ref 31), (1, .int a1), (2, .int a2)] [.int v23] _ 0 0 _
        refine x_iret rfl rfl ?_
        exact hQ _ _ J Sm (D.symm.trans (show v23.toInt = v23.toInt from by omega)) EV
      rw [if_neg c19] at D
      by_cases c24 : a2.toInt = 4
      ·
        refine x_tableIn (tgt := 104) 4 rfl c24 (by decide) (by decide) rfl rfl ?_
        rw [if_pos c24] at D
        refine x_aloadn (x := 31) rfl rfl ?_
        refine z_getR (N := 13) (b := 32) 11 0 rfl f_11_10 rfl J rfl 3968 ⟨rfl, rfl⟩ rfl ?_
        refine z_getR (N := 20) (b := 33) 1 0 rfl f_11_126 rfl J rfl 4096 ⟨rfl, rfl⟩ rfl ?_
        refine x_iloadn (x := a1) rfl rfl ?_
        refine x_iconst (v := 5) rfl ki_5 ?_
        refine x_inv (N := m_X8_at) (As := [.int a1, .int 5]) (b := 33) (st := []) (dx9 := 1) (mc := 0) (ms := 0) (host := "") 8 rfl t_X8_at ⟨Or.inl q_11_171, i_X8_at.1, i_X8_at.2⟩ ⟨by decide, rfl⟩ (congrArg Prod.fst (J.1.1 33 (8, 4) rfl)) rfl (by decide) rfl rfl ⟨by decide, by decide⟩ (sf_X8_at_r33_c5d (jr_of rfl (by omega)) hD J rfl  (fun v28 h ev28 J S25 X26 X27 => ?_))
        have Sm := jSm_tr rfl Sm S25
        try rw [X26] at D
        try rw [← X27] at D
        have EV := X27.trans EV
        show jX m_X11_of 3 0 0 116 [(0, .ref 31), (1, .int a1), (2, .int a2)] [.int v28] _ 0 0 _
        refine x_iret rfl rfl ?_
        exact hQ _ _ J Sm (D.symm.trans (show v28.toInt = v28.toInt from by omega)) EV
      rw [if_neg c24] at D
      by_cases c29 : a2.toInt = 5
      ·
        refine x_tableIn (tgt := 117) 5 rfl c29 (by decide) (by decide) rfl rfl ?_
        rw [if_pos c29] at D
        refine x_aloadn (x := 31) rfl rfl ?_
        refine x_iloadn (x := a1) rfl rfl ?_
        refine x_inv (N := m_X11_rolesOf) (As := [.int a1]) (b := 31) (st := []) (dx9 := 2) (mc := 0) (ms := 0) (host := "") 11 rfl t_X11_rolesOf ⟨Or.inl q_11_175, i_X11_rolesOf.1, i_X11_rolesOf.2⟩ ⟨by decide, rfl⟩ (congrArg Prod.fst (J.1.1 31 (11, 13) rfl)) rfl (by decide) rfl rfl ⟨by decide, by decide⟩ (jC.of rfl k_X11_rolesOf rfl ?_)
        show jX m_X11_rolesOf 2 0 0 0 [(0, .ref 31), (1, .int a1)] [] _ 0 0 _
        refine x_aloadn (x := 31) rfl rfl ?_
        refine z_getR (N := 13) (b := 32) 11 0 rfl f_11_10 rfl J rfl 3968 ⟨rfl, rfl⟩ rfl ?_
        refine z_getR (N := 20) (b := 33) 1 0 rfl f_11_126 rfl J rfl 4096 ⟨rfl, rfl⟩ rfl ?_
        refine x_iloadn (x := a1) rfl rfl ?_
        refine x_iconst (v := 2) rfl ki_2 ?_
        refine x_inv (N := m_X8_at) (As := [.int a1, .int 2]) (b := 33) (st := []) (dx9 := 1) (mc := 0) (ms := 0) (host := "") 8 rfl t_X8_at ⟨Or.inl q_11_171, i_X8_at.1, i_X8_at.2⟩ ⟨by decide, rfl⟩ (congrArg Prod.fst (J.1.1 33 (8, 4) rfl)) rfl (by decide) rfl rfl ⟨by decide, by decide⟩ (sf_X8_at_r33_c2d  hD J rfl  (fun v33 h ev33 J S30 X31 X32 => ?_))
        have Sm := jSm_tr rfl Sm S30
        try rw [X31] at D
        try rw [← X32] at D
        have EV := X32.trans EV
        show jX m_X11_rolesOf 2 0 0 12 [(0, .ref 31), (1, .int a1)] [.int v33] _ 0 0 _
        refine x_istoren (lsx9 := [(2, .int v33), (0, .ref 31), (1, .int a1)]) rfl rfl rfl ?_
        refine x_iloadn (x := v33) rfl rfl ?_
        refine x_inst (N := m_X11_isBook) (As := [.int v33]) (st := []) (dx9 := 1) (mc := 0) (ms := 0) (host := "") rfl t_X11_isBook ⟨Or.inl q_11_112, s_X11_isBook⟩ rfl (by decide) rfl rfl ⟨by decide, by decide⟩ (zc_X11_isBook rfl (fun v34 ev34 => ?_))
        show jX m_X11_rolesOf 2 0 0 17 [(2, .int v33), (0, .ref 31), (1, .int a1)] [.int v34] _ 0 0 _
        refine x_ifeq (tgt := 28) rfl rfl (ti_eq rfl jk_0 ⟨fun c35 => ?_, fun c35 => ?_⟩)
        ·
          rw [if_neg (by omega)] at D
          refine x_iconst (v := 0) rfl ki_0 ?_
          refine x_iret rfl rfl ?_
          show jX m_X11_of 3 0 0 122 [(0, .ref 31), (1, .int a1), (2, .int a2)] [.int 0] _ 0 0 _
          refine x_iret rfl rfl ?_
          exact hQ _ _ J Sm (D.symm.trans (show 0 = (0 : Int32).toInt from by have := jk_0; omega)) EV
        ·
          rw [if_pos (by omega)] at D
          refine x_gets jst_1 rfl (by decide +kernel) u_11_136 ?_
          show jX m_X11_rolesOf 2 0 0 23 [(2, .int v33), (0, .ref 31), (1, .int a1)] [.ref 1] _ 0 0 _
          refine x_iloadn (x := v33) rfl rfl ?_
          refine z_iald (N := 6) rfl J rfl sg_1_0_6_1_0_1 rfl (by omega) (fun v36 qv36 ev36 => ?_)
          try rw [vrd qv36 (show v33.toInt = v33.toInt from by omega)] at D
          refine x_goto (tgt := 29) rfl rfl ?_
          refine x_iret rfl rfl ?_
          show jX m_X11_of 3 0 0 122 [(0, .ref 31), (1, .int a1), (2, .int a2)] [.int v36] _ 0 0 _
          refine x_iret rfl rfl ?_
          exact hQ _ _ J Sm (D.symm.trans (show v36.toInt = v36.toInt from by omega)) EV
      rw [if_neg c29] at D
      refine x_tableOut (tgt := 123) rfl (by omega) rfl ?_
      refine x_bipush (v := (-2)) rfl kb_m2 ?_
      refine x_iret rfl rfl ?_
      exact hQ _ _ J Sm (D.symm.trans (show (-2) = ((-2) : Int32).toInt from by have := jk_m2; omega)) EV
def fp_X8_at_r45_c1d : jFp := []
set_option maxRecDepth 100000 in
set_option maxHeartbeats 4000000 in
theorem ct_X8_at_r45_c1d_24 {Dy : jH → Prop} {h0 : jH} {Q : Option Value → jH → Prop} {dr : Int} (hD : jDk Dy) (hQ : ∀ (v : Int32) hx9, 0 ≤ v.toInt ∧ v.toInt ≤ 146399 → jJ jSgX Dy hx9 → jSm fp_X8_at_r45_c1d h0 hx9 → dr = v.toInt → vw hx9 = vw h0 → Q (some (.int v)) hx9) : ∀ (h : jH), jJ jSgX Dy h → jSm fp_X8_at_r45_c1d h0 h → d_X8_at_r45_c1d_24  (vw h) = dr → vw h = vw h0 → jX m_X8_at 1 0 0 24 [] [] h 0 0 Q := by
  intro  h    J Sm D EV
  unfold d_X8_at_r45_c1d_24 at D
  refine x_iconst (v := 0) rfl ki_0 ?_
  refine x_iret rfl rfl ?_
  exact hQ _ _ (jr_of jk_0 (by omega)) J Sm (D.symm.trans (show 0 = (0 : Int32).toInt from by have := jk_0; omega)) EV
set_option maxRecDepth 100000 in
set_option maxHeartbeats 4000000 in
theorem sf_X8_at_r45_c1d {Dy : jH → Prop} {h : jH} {Q : Option Value → jH → Prop} {dr : Int} {a1 : Int32} (y1 : 0 ≤ a1.toInt ∧ a1.toInt ≤ 39) (hD : jDk Dy) (J : jJ jSgX Dy h) (D : d_X8_at_r45_c1d a1.toInt (vw h) = dr) (hQ : ∀ (v : Int32) hx9, 0 ≤ v.toInt ∧ v.toInt ≤ 146399 → jJ jSgX Dy hx9 → jSm fp_X8_at_r45_c1d h hx9 → dr = v.toInt → vw hx9 = vw h → Q (some (.int v)) hx9) : jC m_X8_at 1 0 0 [.ref 45, .int a1, .int 1] h Q := by
  refine jC.of rfl k_X8_at rfl ?_
  have Sm := jSm_rf fp_X8_at_r45_c1d h
  show jX m_X8_at 1 0 0 0 [(0, .ref 45), (1, .int a1), (2, .int 1)] [] _ 0 0 _
  unfold d_X8_at_r45_c1d at D
  have EV : vw h = vw h := rfl
  refine x_iloadn (x := a1) rfl rfl ?_
  refine x_iflt (tgt := 24) rfl rfl (ti_lt rfl jk_0 (br_f (by omega) ?_))
  refine x_iloadn (x := a1) rfl rfl ?_
  refine x_aloadn (x := 45) rfl rfl ?_
  refine z_getI (N := 4) 8 3 rfl f_8_7 rfl J rfl sg_45_3_4_1_0_1 (fun v1 qv1 ev1 => ?_)
  try rw [vrf qv1] at D
  refine x_icge (tgt := 24) rfl rfl (ti_ge rfl rfl ⟨fun c2 => ?_, fun c2 => ?_⟩)
  ·
    rw [if_pos (by omega)] at D
    exact jX.sub jsb_n (ct_X8_at_r45_c1d_24 hD hQ  h J Sm D EV)
  ·
    rw [if_neg (by omega)] at D
    refine x_iloadn (x := 1) rfl rfl ?_
    refine x_iflt (tgt := 24) rfl rfl (ti_lt jk_1 jk_0 (br_f (by omega) ?_))
    refine x_iloadn (x := 1) rfl rfl ?_
    refine x_aloadn (x := 45) rfl rfl ?_
    refine z_getC (N := 4) (v := 3) 8 0 rfl f_8_19 rfl J rfl sg_45_0_1_1_0_1 jk_3 ?_
    refine x_iclt (tgt := 26) rfl rfl (ti_lt jk_1 jk_3 (br_t (by omega) ?_))
    refine x_aloadn (x := 45) rfl rfl ?_
    refine z_getR (N := 4) (b := 46) 8 2 rfl f_8_25 rfl J rfl 5762 ⟨rfl, rfl⟩ rfl ?_
    refine x_iloadn (x := a1) rfl rfl ?_
    refine x_aloadn (x := 45) rfl rfl ?_
    refine z_getC (N := 4) (v := 3) 8 0 rfl f_8_19 rfl J rfl sg_45_0_1_1_0_1 jk_3 ?_
    refine z_imul rfl rfl jk_3 (by omega) (fun v3 ev3 => ?_)
    refine x_iloadn (x := 1) rfl rfl ?_
    refine z_iadd rfl rfl jk_1 (by omega) (fun v4 ev4 => ?_)
    refine z_iald (N := 120) rfl J rfl sg_46_0_120_3_1_2 rfl (by omega) (fun v5 qv5 ev5 => ?_)
    try rw [vrd qv5 (show ((a1.toInt * 3) + 1) = v4.toInt from by omega)] at D
    refine x_iret rfl rfl ?_
    exact hQ _ _ (jr_of rfl (by omega)) J Sm (D.symm.trans (show v5.toInt = v5.toInt from by omega)) EV
def fp_X11_order_r31d : jFp := [(78, 13, 14), (82, 0, 600), (83, 0, 600), (84, 0, 200), (85, 0, 4), (86, 0, 3), (98, 10, 11), (98, 11, 12), (98, 12, 13), (99, 0, 30), (100, 0, 30), (101, 0, 3), (102, 0, 40), (103, 0, 40), (104, 0, 40), (105, 0, 3), (106, 0, 100), (120, 5, 6), (120, 6, 7), (120, 7, 8), (121, 0, 42), (122, 0, 42)]
set_option maxRecDepth 100000 in
set_option maxHeartbeats 4000000 in
theorem ct_X11_order_r31d_34 {Dy : jH → Prop} {h0 : jH} {Q : Option Value → jH → Prop} {dr : (Int × jW)} (hD : jDk Dy) (hQ : ∀ (v : Int32) hx9, jJ jSgX Dy hx9 → jSm fp_X11_order_r31d h0 hx9 → dr.1 = v.toInt → dr.2 = vw hx9 → Q (some (.int v)) hx9) : ∀ (h : jH), jJ jSgX Dy h → jSm fp_X11_order_r31d h0 h → d_X11_order_r31d_34  (vw h) = dr → jX m_X11_order 26 0 0 34 [] [] h 0 0 Q := by
  intro  h    J Sm D
  unfold d_X11_order_r31d_34 at D
  refine x_iconst (v := (-1)) rfl ki_m1 ?_
  refine x_iret rfl rfl ?_
  exact hQ _ _ J Sm ((congrArg Prod.fst D).symm.trans (show (-1) = ((-1) : Int32).toInt from by have := jk_m1; omega)) (congrArg Prod.snd D).symm
set_option maxRecDepth 100000 in
set_option maxHeartbeats 4000000 in
theorem ct_X11_order_r31d_90 {Dy : jH → Prop} {h0 : jH} {Q : Option Value → jH → Prop} {dr : (Int × jW)} (hD : jDk Dy) (hQ : ∀ (v : Int32) hx9, jJ jSgX Dy hx9 → jSm fp_X11_order_r31d h0 hx9 → dr.1 = v.toInt → dr.2 = vw hx9 → Q (some (.int v)) hx9) : ∀ (h : jH), jJ jSgX Dy h → jSm fp_X11_order_r31d h0 h → d_X11_order_r31d_90  (vw h) = dr → jX m_X11_order 26 0 0 90 [] [] h 0 0 Q := by
  intro  h    J Sm D
  unfold d_X11_order_r31d_90 at D
  refine x_iconst (v := 0) rfl ki_0 ?_
  refine x_iret rfl rfl ?_
  exact hQ _ _ J Sm ((congrArg Prod.fst D).symm.trans (show 0 = (0 : Int32).toInt from by have := jk_0; omega)) (congrArg Prod.snd D).symm
set_option maxRecDepth 100000 in
set_option maxHeartbeats 4000000 in
theorem ct_X11_order_r31d_200070 {Dy : jH → Prop} {h0 : jH} {Q : Option Value → jH → Prop} {dr : (Int × jW)} (hD : jDk Dy) (hQ : ∀ (v : Int32) hx9, jJ jSgX Dy hx9 → jSm fp_X11_order_r31d h0 hx9 → dr.1 = v.toInt → dr.2 = vw hx9 → Q (some (.int v)) hx9) : ∀ (h : jH), jJ jSgX Dy h → jSm fp_X11_order_r31d h0 h → d_X11_order_r31d_200070  (vw h) = dr → jX m_X11_order 26 0 0 70 [] [.int 0] h 0 0 Q := by
  intro  h    J Sm D
  unfold d_X11_order_r31d_200070 at D
  refine x_iret rfl rfl ?_
  exact hQ _ _ J Sm ((congrArg Prod.fst D).symm.trans (show 0 = (0 : Int32).toInt from by have := jk_0; omega)) (congrArg Prod.snd D).symm
set_option maxRecDepth 100000 in
set_option maxHeartbeats 4000000 in
theorem ct_X11_order_r31d_300070 {Dy : jH → Prop} {h0 : jH} {Q : Option Value → jH → Prop} {dr : (Int × jW)} (hD : jDk Dy) (hQ : ∀ (v : Int32) hx9, jJ jSgX Dy hx9 → jSm fp_X11_order_r31d h0 hx9 → dr.1 = v.toInt → dr.2 = vw hx9 → Q (some (.int v)) hx9) : ∀ (h : jH), jJ jSgX Dy h → jSm fp_X11_order_r31d h0 h → d_X11_order_r31d_300070  (vw h) = dr → jX m_X11_order 26 0 0 70 [] [.int 1] h 0 0 Q := by
  intro  h    J Sm D
  unfold d_X11_order_r31d_300070 at D
  refine x_iret rfl rfl ?_
  exact hQ _ _ J Sm ((congrArg Prod.fst D).symm.trans (show 1 = (1 : Int32).toInt from by have := jk_1; omega)) (congrArg Prod.snd D).symm
set_option maxRecDepth 100000 in
set_option maxHeartbeats 4000000 in
theorem sf_X11_order_r31d {Dy : jH → Prop} {h : jH} {Q : Option Value → jH → Prop} {dr : (Int × jW)} {a1 : Int32} {a2 : Int32} {a3 : Int32} (hD : jDk Dy) (J : jJ jSgX Dy h) (D : d_X11_order_r31d a1.toInt a2.toInt a3.toInt (vw h) = dr) (hQ : ∀ (v : Int32) hx9, jJ jSgX Dy hx9 → jSm fp_X11_order_r31d h hx9 → dr.1 = v.toInt → dr.2 = vw hx9 → Q (some (.int v)) hx9) : jC m_X11_order 26 0 0 [.ref 31, .int a1, .int a2, .int a3] h Q := by
  refine jC.of rfl k_X11_order rfl ?_
  have Sm := jSm_rf fp_X11_order_r31d h
  have ea1 := jfull a1
  have ea2 := jfull a2
  have ea3 := jfull a3
  show jX m_X11_order 26 0 0 0 [(0, .ref 31), (1, .int a1), (2, .int a2), (3, .int a3)] [] _ 0 0 _
  unfold d_X11_order_r31d at D
  refine x_aloadn (x := 31) rfl rfl ?_
  refine x_iloadn (x := a1) rfl rfl ?_
  refine x_iloadn (x := a2) rfl rfl ?_
  refine x_inv (N := m_X11_isKnownLine) (As := [.int a1, .int a2]) (b := 31) (st := []) (dx9 := 25) (mc := 0) (ms := 0) (host := "") 11 rfl t_X11_isKnownLine ⟨Or.inl q_11_393, i_X11_isKnownLine.1, i_X11_isKnownLine.2⟩ ⟨by decide, rfl⟩ (congrArg Prod.fst (J.1.1 31 (11, 13) rfl)) rfl (by decide) rfl rfl ⟨by decide, by decide⟩ (jC.of rfl k_X11_isKnownLine rfl ?_)
  show jX m_X11_isKnownLine 25 0 0 0 [(0, .ref 31), (1, .int a1), (2, .int a2)] [] _ 0 0 _
  refine x_iloadn (x := a2) rfl rfl ?_
  refine x_inst (N := m_X11_isDay) (As := [.int a2]) (st := []) (dx9 := 1) (mc := 0) (ms := 0) (host := "") rfl t_X11_isDay ⟨Or.inl q_11_115, s_X11_isDay⟩ rfl (by decide) rfl rfl ⟨by decide, by decide⟩ (zc_X11_isDay rfl (fun v1 ev1 => ?_))
  show jX m_X11_isKnownLine 25 0 0 4 [(0, .ref 31), (1, .int a1), (2, .int a2)] [.int v1] _ 0 0 _
  refine x_ifeq (tgt := 26) rfl rfl (ti_eq rfl jk_0 ⟨fun c2 => ?_, fun c2 => ?_⟩)
  ·
    rw [if_neg (by omega)] at D
    refine x_iconst (v := 0) rfl ki_0 ?_
    refine x_zret rfl rfl (by decide) ?_
    show jX m_X11_order 26 0 0 6 [(0, .ref 31), (1, .int a1), (2, .int a2), (3, .int a3)] [.int 0] _ 0 0 _
    refine x_ifeq (tgt := 34) rfl rfl (ti_eq jk_0 jk_0 (br_t (by omega) ?_))
    exact jX.sub jsb_n (ct_X11_order_r31d_34 hD hQ  h J Sm D)
  ·
    rw [if_pos (by omega)] at D
    refine x_aloadn (x := 31) rfl rfl ?_
    refine z_getR (N := 13) (b := 32) 11 0 rfl f_11_10 rfl J rfl 3968 ⟨rfl, rfl⟩ rfl ?_
    refine z_getR (N := 20) (b := 33) 1 0 rfl f_11_126 rfl J rfl 4096 ⟨rfl, rfl⟩ rfl ?_
    refine x_iloadn (x := a1) rfl rfl ?_
    refine x_iloadn (x := a2) rfl rfl ?_
    refine x_inv (N := m_X8_isKnown) (As := [.int a1, .int a2]) (b := 33) (st := []) (dx9 := 1) (mc := 0) (ms := 0) (host := "") 8 rfl t_X8_isKnown ⟨Or.inl q_11_440, i_X8_isKnown.1, i_X8_isKnown.2⟩ ⟨by decide, rfl⟩ (congrArg Prod.fst (J.1.1 33 (8, 4) rfl)) rfl (by decide) rfl rfl ⟨by decide, by decide⟩ (sf_X8_isKnown_r33d (jr_of rfl (by omega)) hD J rfl  (fun v6 h ev6 J S3 X4 X5 => ?_))
    have Sm := jSm_tr rfl Sm S3
    try rw [X4] at D
    try rw [← X5] at D
    show jX m_X11_isKnownLine 25 0 0 19 [(0, .ref 31), (1, .int a1), (2, .int a2)] [.int v6] _ 0 0 _
    refine x_ifeq (tgt := 26) rfl rfl (ti_eq rfl jk_0 ⟨fun c7 => ?_, fun c7 => ?_⟩)
    ·
      rw [if_pos (by omega)] at D
      refine x_iconst (v := 0) rfl ki_0 ?_
      refine x_zret rfl rfl (by decide) ?_
      show jX m_X11_order 26 0 0 6 [(0, .ref 31), (1, .int a1), (2, .int a2), (3, .int a3)] [.int 0] _ 0 0 _
      refine x_ifeq (tgt := 34) rfl rfl (ti_eq jk_0 jk_0 (br_t (by omega) ?_))
      exact jX.sub jsb_n (ct_X11_order_r31d_34 hD hQ  h J Sm D)
    ·
      rw [if_neg (by omega)] at D
      refine x_iconst (v := 1) rfl ki_1 ?_
      refine x_goto (tgt := 27) rfl rfl ?_
      refine x_zret rfl rfl (by decide) ?_
      show jX m_X11_order 26 0 0 6 [(0, .ref 31), (1, .int a1), (2, .int a2), (3, .int a3)] [.int 1] _ 0 0 _
      refine x_ifeq (tgt := 34) rfl rfl (ti_eq jk_1 jk_0 (br_f (by omega) ?_))
      refine x_aloadn (x := 31) rfl rfl ?_
      refine z_getR (N := 13) (b := 32) 11 0 rfl f_11_10 rfl J rfl 3968 ⟨rfl, rfl⟩ rfl ?_
      refine z_getR (N := 20) (b := 33) 1 0 rfl f_11_126 rfl J rfl 4096 ⟨rfl, rfl⟩ rfl ?_
      refine x_iloadn (x := a1) rfl rfl ?_
      refine x_iconst (v := 2) rfl ki_2 ?_
      refine x_inv (N := m_X8_at) (As := [.int a1, .int 2]) (b := 33) (st := []) (dx9 := 1) (mc := 0) (ms := 0) (host := "") 8 rfl t_X8_at ⟨Or.inl q_11_171, i_X8_at.1, i_X8_at.2⟩ ⟨by decide, rfl⟩ (congrArg Prod.fst (J.1.1 33 (8, 4) rfl)) rfl (by decide) rfl rfl ⟨by decide, by decide⟩ (sf_X8_at_r33_c2d  hD J rfl  (fun v11 h ev11 J S8 X9 X10 => ?_))
      have Sm := jSm_tr rfl Sm S8
      try rw [X9] at D
      try rw [← X10] at D
      show jX m_X11_order 26 0 0 21 [(0, .ref 31), (1, .int a1), (2, .int a2), (3, .int a3)] [.int v11] _ 0 0 _
      refine x_iconst (v := 5) rfl ki_5 ?_
      refine x_icne (tgt := 34) rfl rfl (ti_ne rfl jk_5 ⟨fun c12 => ?_, fun c12 => ?_⟩)
      ·
        rw [if_neg (by omega)] at D
        exact jX.sub jsb_n (ct_X11_order_r31d_34 hD hQ  h J Sm D)
      ·
        rw [if_pos (by omega)] at D
        refine x_iloadn (x := a3) rfl rfl ?_
        refine x_iflt (tgt := 34) rfl rfl (ti_lt rfl jk_0 ⟨fun c13 => ?_, fun c13 => ?_⟩)
        ·
          rw [if_pos (by omega)] at D
          exact jX.sub jsb_n (ct_X11_order_r31d_34 hD hQ  h J Sm D)
        ·
          rw [if_neg (by omega)] at D
          refine x_iloadn (x := a3) rfl rfl ?_
          refine x_iconst (v := 2) rfl ki_2 ?_
          refine x_icle (tgt := 36) rfl rfl (ti_le rfl jk_2 ⟨fun c14 => ?_, fun c14 => ?_⟩)
          ·
            rw [if_pos (by omega)] at D
            refine x_aloadn (x := 31) rfl rfl ?_
            refine x_iloadn (x := a1) rfl rfl ?_
            refine x_iconst (v := 3) rfl ki_3 ?_
            refine z_imulW rfl rfl jk_3 (fun v15 ev15 => ?_)
            have fv15 := jfull v15
            try rw [← ev15] at D
            refine x_iloadn (x := a2) rfl rfl ?_
            refine x_inv (N := m_X11_soulOn) (As := [.int v15, .int a2]) (b := 31) (st := []) (dx9 := 25) (mc := 0) (ms := 0) (host := "") 11 rfl t_X11_soulOn ⟨Or.inl q_11_234, i_X11_soulOn.1, i_X11_soulOn.2⟩ ⟨by decide, rfl⟩ (congrArg Prod.fst (J.1.1 31 (11, 13) rfl)) rfl (by decide) rfl rfl ⟨by decide, by decide⟩ (jC.of rfl k_X11_soulOn rfl ?_)
            show jX m_X11_soulOn 25 0 0 0 [(0, .ref 31), (1, .int v15), (2, .int a2)] [] _ 0 0 _
            refine x_iloadn (x := a2) rfl rfl ?_
            refine x_inst (N := m_X11_isDay) (As := [.int a2]) (st := []) (dx9 := 1) (mc := 0) (ms := 0) (host := "") rfl t_X11_isDay ⟨Or.inl q_11_115, s_X11_isDay⟩ rfl (by decide) rfl rfl ⟨by decide, by decide⟩ (zc_X11_isDay rfl (fun v16 ev16 => ?_))
            show jX m_X11_soulOn 25 0 0 4 [(0, .ref 31), (1, .int v15), (2, .int a2)] [.int v16] _ 0 0 _
            refine x_ifeq (tgt := 18) rfl rfl (ti_eq rfl jk_0 ⟨fun c17 => ?_, fun c17 => ?_⟩)
            ·
              rw [if_neg (by omega)] at D
              refine x_iconst (v := (-1)) rfl ki_m1 ?_
              refine x_iret rfl rfl ?_
              show jX m_X11_order 26 0 0 44 [(0, .ref 31), (1, .int a1), (2, .int a2), (3, .int a3)] [.int (-1)] _ 0 0 _
              refine x_istore (lsx9 := [(4, .int (-1)), (0, .ref 31), (1, .int a1), (2, .int a2), (3, .int a3)]) rfl rfl rfl ?_
              refine x_aloadn (x := 31) rfl rfl ?_
              refine x_iloadn (x := a1) rfl rfl ?_
              refine x_iload (x := (-1)) rfl rfl ?_
              refine x_iloadn (x := a2) rfl rfl ?_
              refine x_inv (N := m_X11_isGood) (As := [.int a1, .int (-1), .int a2]) (b := 31) (st := []) (dx9 := 25) (mc := 0) (ms := 0) (host := "") 11 rfl t_X11_isGood ⟨Or.inl q_11_396, i_X11_isGood.1, i_X11_isGood.2⟩ ⟨by decide, rfl⟩ (congrArg Prod.fst (J.1.1 31 (11, 13) rfl)) rfl (by decide) rfl rfl ⟨by decide, by decide⟩ (sf_X11_isGood_r31d (jr_of jk_m1 (by omega)) (jr_of rfl (by omega)) hD J rfl  (fun v21 h ev21 J S18 X19 X20 => ?_))
              have Sm := jSm_tr rfl Sm S18
              try rw [jk_m1] at X19
              try rw [jk_m1] at X20
              try rw [X19] at D
              try rw [X20] at D
              show jX m_X11_order 26 0 0 54 [(4, .int (-1)), (0, .ref 31), (1, .int a1), (2, .int a2), (3, .int a3)] [.int v21] _ 0 0 _
              refine x_istore (lsx9 := [(5, .int v21), (4, .int (-1)), (0, .ref 31), (1, .int a1), (2, .int a2), (3, .int a3)]) rfl rfl rfl ?_
              refine x_iloadn (x := a3) rfl rfl ?_
              refine x_ifne (tgt := 71) rfl rfl (ti_ne rfl jk_0 ⟨fun c22 => ?_, fun c22 => ?_⟩)
              ·
                rw [if_neg (by omega)] at D
                refine x_aloadn (x := 31) rfl rfl ?_
                refine x_iloadn (x := a1) rfl rfl ?_
                refine x_iloadn (x := a2) rfl rfl ?_
                refine x_inv (N := m_X11_firstAppeal) (As := [.int a1, .int a2]) (b := 31) (st := []) (dx9 := 2) (mc := 0) (ms := 0) (host := "") 11 rfl t_X11_firstAppeal ⟨Or.inl q_11_399, i_X11_firstAppeal.1, i_X11_firstAppeal.2⟩ ⟨by decide, rfl⟩ (congrArg Prod.fst (J.1.1 31 (11, 13) rfl)) rfl (by decide) rfl rfl ⟨by decide, by decide⟩ (sf_X11_firstAppeal_r31d (jr_of rfl (by omega)) hD J rfl  (fun v26 h ev26 J S23 X24 X25 => ?_))
                have Sm := jSm_tr rfl Sm S23
                try rw [X24] at D
                try rw [← X25] at D
                show jX m_X11_order 26 0 0 77 [(5, .int v21), (4, .int (-1)), (0, .ref 31), (1, .int a1), (2, .int a2), (3, .int a3)] [.int v26] _ 0 0 _
                refine x_istore (lsx9 := [(6, .int v26), (5, .int v21), (4, .int (-1)), (0, .ref 31), (1, .int a1), (2, .int a2), (3, .int a3)]) rfl rfl rfl ?_
                refine x_iload (x := v21) rfl rfl ?_
                refine x_ifne (tgt := 90) rfl rfl (ti_ne rfl jk_0 ⟨fun c27 => ?_, fun c27 => ?_⟩)
                ·
                  rw [if_neg (by omega)] at D
                  exact jX.sub jsb_n (ct_X11_order_r31d_90 hD hQ  h J Sm D)
                ·
                  rw [if_pos (by omega)] at D
                  refine x_iload (x := v26) rfl rfl ?_
                  refine x_iconst (v := (-1)) rfl ki_m1 ?_
                  refine x_icne (tgt := 92) rfl rfl (ti_ne rfl jk_m1 ⟨fun c28 => ?_, fun c28 => ?_⟩)
                  ·
                    rw [if_neg (by omega)] at D
                    refine x_iloadn (x := a3) rfl rfl ?_
                    refine x_iconst (v := 1) rfl ki_1 ?_
                    refine x_icne (tgt := 99) rfl rfl (ti_ne rfl jk_1 ⟨fun c29 => ?_, fun c29 => ?_⟩)
                    ·
                      rw [if_neg (by omega)] at D
                      refine x_aloadn (x := 31) rfl rfl ?_
                      refine z_getR (N := 13) (b := 78) 11 4 rfl f_11_41 rfl J rfl 3972 ⟨rfl, rfl⟩ rfl ?_
                      refine x_iload (x := (-1)) rfl rfl ?_
                      refine x_aloadn (x := 31) rfl rfl ?_
                      refine z_getR (N := 13) (b := 32) 11 0 rfl f_11_10 rfl J rfl 3968 ⟨rfl, rfl⟩ rfl ?_
                      refine z_getR (N := 20) (b := 33) 1 0 rfl f_11_126 rfl J rfl 4096 ⟨rfl, rfl⟩ rfl ?_
                      refine x_iloadn (x := a1) rfl rfl ?_
                      refine x_iconst (v := 1) rfl ki_1 ?_
                      refine x_inv (N := m_X8_at) (As := [.int a1, .int 1]) (b := 33) (st := [.int (-1), .ref 78]) (dx9 := 1) (mc := 0) (ms := 0) (host := "") 8 rfl t_X8_at ⟨Or.inl q_11_171, i_X8_at.1, i_X8_at.2⟩ ⟨by decide, rfl⟩ (congrArg Prod.fst (J.1.1 33 (8, 4) rfl)) rfl (by decide) rfl rfl ⟨by decide, by decide⟩ (sf_X8_at_r33_c1d  hD J rfl  (fun v33 h ev33 J S30 X31 X32 => ?_))
                      have Sm := jSm_tr rfl Sm S30
                      try rw [X31] at D
                      try rw [← X32] at D
                      show jX m_X11_order 26 0 0 117 [(6, .int v26), (5, .int v21), (4, .int (-1)), (0, .ref 31), (1, .int a1), (2, .int a2), (3, .int a3)] [.int v33, .int (-1), .ref 78] _ 0 0 _
                      refine x_aloadn (x := 31) rfl rfl ?_
                      refine z_getR (N := 13) (b := 32) 11 0 rfl f_11_10 rfl J rfl 3968 ⟨rfl, rfl⟩ rfl ?_
                      refine z_getR (N := 20) (b := 45) 1 6 rfl f_11_402 rfl J rfl 4102 ⟨rfl, rfl⟩ rfl ?_
                      refine x_iload (x := v26) rfl rfl ?_
                      refine x_iconst (v := 1) rfl ki_1 ?_
                      refine x_inv (N := m_X8_at) (As := [.int v26, .int 1]) (b := 45) (st := [.int v33, .int (-1), .ref 78]) (dx9 := 1) (mc := 0) (ms := 0) (host := "") 8 rfl t_X8_at ⟨Or.inl q_11_171, i_X8_at.1, i_X8_at.2⟩ ⟨by decide, rfl⟩ (congrArg Prod.fst (J.1.1 45 (8, 4) rfl)) rfl (by decide) rfl rfl ⟨by decide, by decide⟩ (sf_X8_at_r45_c1d (jr_of rfl (by omega)) hD J rfl  (fun v37 h ev37 J S34 X35 X36 => ?_))
                      have Sm := jSm_tr rfl Sm S34
                      try rw [X35] at D
                      try rw [← X36] at D
                      show jX m_X11_order 26 0 0 130 [(6, .int v26), (5, .int v21), (4, .int (-1)), (0, .ref 31), (1, .int a1), (2, .int a2), (3, .int a3)] [.int v37, .int v33, .int (-1), .ref 78] _ 0 0 _
                      refine x_inv (N := m_X7_reliefOf) (As := [.int (-1), .int v33, .int v37]) (b := 78) (st := []) (dx9 := 1) (mc := 0) (ms := 0) (host := "") 7 rfl t_X7_reliefOf ⟨Or.inl q_11_405, i_X7_reliefOf.1, i_X7_reliefOf.2⟩ ⟨by decide, rfl⟩ (congrArg Prod.fst (J.1.1 78 (7, 16) rfl)) rfl (by decide) rfl rfl ⟨by decide, by decide⟩ (sf_X7_reliefOf_r78d (jr_of jk_m1 (by omega)) (jr_of rfl (by omega)) (jr_of rfl (by omega)) hD J rfl  (fun v41 h J S38 X39 X40 => ?_))
                      have ev41 := jfull v41
                      have Sm := jSm_tr rfl Sm S38
                      try rw [jk_m1] at X39
                      try rw [X39] at D
                      try rw [← X40] at D
                      show jX m_X11_order 26 0 0 133 [(6, .int v26), (5, .int v21), (4, .int (-1)), (0, .ref 31), (1, .int a1), (2, .int a2), (3, .int a3)] [.int v41] _ 0 0 _
                      refine x_iret rfl rfl ?_
                      exact hQ _ _ J Sm ((congrArg Prod.fst D).symm.trans (show v41.toInt = v41.toInt from by omega)) (congrArg Prod.snd D).symm
                    ·
                      rw [if_pos (by omega)] at D
                      refine x_iconst (v := 1) rfl ki_1 ?_
                      refine x_iret rfl rfl ?_
                      exact hQ _ _ J Sm ((congrArg Prod.fst D).symm.trans (show 1 = (1 : Int32).toInt from by have := jk_1; omega)) (congrArg Prod.snd D).symm
                  ·
                    rw [if_pos (by omega)] at D
                    exact jX.sub jsb_n (ct_X11_order_r31d_90 hD hQ  h J Sm D)
              ·
                rw [if_pos (by omega)] at D
                refine x_iload (x := v21) rfl rfl ?_
                refine x_ifeq (tgt := 69) rfl rfl (ti_eq rfl jk_0 ⟨fun c42 => ?_, fun c42 => ?_⟩)
                ·
                  rw [if_pos (by omega)] at D
                  refine x_iconst (v := 0) rfl ki_0 ?_
                  exact jX.sub jsb_n (ct_X11_order_r31d_200070 hD hQ  h J Sm D)
                ·
                  rw [if_neg (by omega)] at D
                  refine x_iconst (v := 1) rfl ki_1 ?_
                  refine x_goto (tgt := 70) rfl rfl ?_
                  exact jX.sub jsb_n (ct_X11_order_r31d_300070 hD hQ  h J Sm D)
            ·
              rw [if_pos (by omega)] at D
              refine x_aloadn (x := 31) rfl rfl ?_
              refine z_getR (N := 13) (b := 78) 11 4 rfl f_11_41 rfl J rfl 3972 ⟨rfl, rfl⟩ rfl ?_
              refine x_iloadn (x := v15) rfl rfl ?_
              refine x_inv (N := m_X7_isMention) (As := [.int v15]) (b := 78) (st := []) (dx9 := 24) (mc := 0) (ms := 0) (host := "") 7 rfl t_X7_isMention ⟨Or.inl q_11_187, i_X7_isMention.1, i_X7_isMention.2⟩ ⟨by decide, rfl⟩ (congrArg Prod.fst (J.1.1 78 (7, 16) rfl)) rfl (by decide) rfl rfl ⟨by decide, by decide⟩ (jC.of rfl k_X7_isMention rfl ?_)
              show jX m_X7_isMention 24 0 0 0 [(0, .ref 78), (1, .int v15)] [] _ 0 0 _
              refine x_iloadn (x := v15) rfl rfl ?_
              refine x_iflt (tgt := 41) rfl rfl (ti_lt rfl jk_0 ⟨fun c43 => ?_, fun c43 => ?_⟩)
              ·
                rw [if_pos (by omega)] at D
                refine x_iconst (v := 0) rfl ki_0 ?_
                refine x_zret rfl rfl (by decide) ?_
                show jX m_X11_soulOn 25 0 0 15 [(0, .ref 31), (1, .int v15), (2, .int a2)] [.int 0] _ 0 0 _
                refine x_ifne (tgt := 20) rfl rfl (ti_ne jk_0 jk_0 (bn_f (by omega) ?_))
                refine x_iconst (v := (-1)) rfl ki_m1 ?_
                refine x_iret rfl rfl ?_
                show jX m_X11_order 26 0 0 44 [(0, .ref 31), (1, .int a1), (2, .int a2), (3, .int a3)] [.int (-1)] _ 0 0 _
                refine x_istore (lsx9 := [(4, .int (-1)), (0, .ref 31), (1, .int a1), (2, .int a2), (3, .int a3)]) rfl rfl rfl ?_
                refine x_aloadn (x := 31) rfl rfl ?_
                refine x_iloadn (x := a1) rfl rfl ?_
                refine x_iload (x := (-1)) rfl rfl ?_
                refine x_iloadn (x := a2) rfl rfl ?_
                refine x_inv (N := m_X11_isGood) (As := [.int a1, .int (-1), .int a2]) (b := 31) (st := []) (dx9 := 25) (mc := 0) (ms := 0) (host := "") 11 rfl t_X11_isGood ⟨Or.inl q_11_396, i_X11_isGood.1, i_X11_isGood.2⟩ ⟨by decide, rfl⟩ (congrArg Prod.fst (J.1.1 31 (11, 13) rfl)) rfl (by decide) rfl rfl ⟨by decide, by decide⟩ (sf_X11_isGood_r31d (jr_of jk_m1 (by omega)) (jr_of rfl (by omega)) hD J rfl  (fun v47 h ev47 J S44 X45 X46 => ?_))
                have Sm := jSm_tr rfl Sm S44
                try rw [jk_m1] at X45
                try rw [jk_m1] at X46
                try rw [X45] at D
                try rw [X46] at D
                show jX m_X11_order 26 0 0 54 [(4, .int (-1)), (0, .ref 31), (1, .int a1), (2, .int a2), (3, .int a3)] [.int v47] _ 0 0 _
                refine x_istore (lsx9 := [(5, .int v47), (4, .int (-1)), (0, .ref 31), (1, .int a1), (2, .int a2), (3, .int a3)]) rfl rfl rfl ?_
                refine x_iloadn (x := a3) rfl rfl ?_
                refine x_ifne (tgt := 71) rfl rfl (ti_ne rfl jk_0 ⟨fun c48 => ?_, fun c48 => ?_⟩)
                ·
                  rw [if_neg (by omega)] at D
                  refine x_aloadn (x := 31) rfl rfl ?_
                  refine x_iloadn (x := a1) rfl rfl ?_
                  refine x_iloadn (x := a2) rfl rfl ?_
                  refine x_inv (N := m_X11_firstAppeal) (As := [.int a1, .int a2]) (b := 31) (st := []) (dx9 := 2) (mc := 0) (ms := 0) (host := "") 11 rfl t_X11_firstAppeal ⟨Or.inl q_11_399, i_X11_firstAppeal.1, i_X11_firstAppeal.2⟩ ⟨by decide, rfl⟩ (congrArg Prod.fst (J.1.1 31 (11, 13) rfl)) rfl (by decide) rfl rfl ⟨by decide, by decide⟩ (sf_X11_firstAppeal_r31d (jr_of rfl (by omega)) hD J rfl  (fun v52 h ev52 J S49 X50 X51 => ?_))
                  have Sm := jSm_tr rfl Sm S49
                  try rw [X50] at D
                  try rw [← X51] at D
                  show jX m_X11_order 26 0 0 77 [(5, .int v47), (4, .int (-1)), (0, .ref 31), (1, .int a1), (2, .int a2), (3, .int a3)] [.int v52] _ 0 0 _
                  refine x_istore (lsx9 := [(6, .int v52), (5, .int v47), (4, .int (-1)), (0, .ref 31), (1, .int a1), (2, .int a2), (3, .int a3)]) rfl rfl rfl ?_
                  refine x_iload (x := v47) rfl rfl ?_
                  refine x_ifne (tgt := 90) rfl rfl (ti_ne rfl jk_0 ⟨fun c53 => ?_, fun c53 => ?_⟩)
                  ·
                    rw [if_neg (by omega)] at D
                    exact jX.sub jsb_n (ct_X11_order_r31d_90 hD hQ  h J Sm D)
                  ·
                    rw [if_pos (by omega)] at D
                    refine x_iload (x := v52) rfl rfl ?_
                    refine x_iconst (v := (-1)) rfl ki_m1 ?_
                    refine x_icne (tgt := 92) rfl rfl (ti_ne rfl jk_m1 ⟨fun c54 => ?_, fun c54 => ?_⟩)
                    ·
                      rw [if_neg (by omega)] at D
                      refine x_iloadn (x := a3) rfl rfl ?_
                      refine x_iconst (v := 1) rfl ki_1 ?_
                      refine x_icne (tgt := 99) rfl rfl (ti_ne rfl jk_1 ⟨fun c55 => ?_, fun c55 => ?_⟩)
                      ·
                        rw [if_neg (by omega)] at D
                        refine x_aloadn (x := 31) rfl rfl ?_
                        refine z_getR (N := 13) (b := 78) 11 4 rfl f_11_41 rfl J rfl 3972 ⟨rfl, rfl⟩ rfl ?_
                        refine x_iload (x := (-1)) rfl rfl ?_
                        refine x_aloadn (x := 31) rfl rfl ?_
                        refine z_getR (N := 13) (b := 32) 11 0 rfl f_11_10 rfl J rfl 3968 ⟨rfl, rfl⟩ rfl ?_
                        refine z_getR (N := 20) (b := 33) 1 0 rfl f_11_126 rfl J rfl 4096 ⟨rfl, rfl⟩ rfl ?_
                        refine x_iloadn (x := a1) rfl rfl ?_
                        refine x_iconst (v := 1) rfl ki_1 ?_
                        refine x_inv (N := m_X8_at) (As := [.int a1, .int 1]) (b := 33) (st := [.int (-1), .ref 78]) (dx9 := 1) (mc := 0) (ms := 0) (host := "") 8 rfl t_X8_at ⟨Or.inl q_11_171, i_X8_at.1, i_X8_at.2⟩ ⟨by decide, rfl⟩ (congrArg Prod.fst (J.1.1 33 (8, 4) rfl)) rfl (by decide) rfl rfl ⟨by decide, by decide⟩ (sf_X8_at_r33_c1d  hD J rfl  (fun v59 h ev59 J S56 X57 X58 => ?_))
                        have Sm := jSm_tr rfl Sm S56
                        try rw [X57] at D
                        try rw [← X58] at D
                        show jX m_X11_order 26 0 0 117 [(6, .int v52), (5, .int v47), (4, .int (-1)), (0, .ref 31), (1, .int a1), (2, .int a2), (3, .int a3)] [.int v59, .int (-1), .ref 78] _ 0 0 _
                        refine x_aloadn (x := 31) rfl rfl ?_
                        refine z_getR (N := 13) (b := 32) 11 0 rfl f_11_10 rfl J rfl 3968 ⟨rfl, rfl⟩ rfl ?_
                        refine z_getR (N := 20) (b := 45) 1 6 rfl f_11_402 rfl J rfl 4102 ⟨rfl, rfl⟩ rfl ?_
                        refine x_iload (x := v52) rfl rfl ?_
                        refine x_iconst (v := 1) rfl ki_1 ?_
                        refine x_inv (N := m_X8_at) (As := [.int v52, .int 1]) (b := 45) (st := [.int v59, .int (-1), .ref 78]) (dx9 := 1) (mc := 0) (ms := 0) (host := "") 8 rfl t_X8_at ⟨Or.inl q_11_171, i_X8_at.1, i_X8_at.2⟩ ⟨by decide, rfl⟩ (congrArg Prod.fst (J.1.1 45 (8, 4) rfl)) rfl (by decide) rfl rfl ⟨by decide, by decide⟩ (sf_X8_at_r45_c1d (jr_of rfl (by omega)) hD J rfl  (fun v63 h ev63 J S60 X61 X62 => ?_))
                        have Sm := jSm_tr rfl Sm S60
                        try rw [X61] at D
                        try rw [← X62] at D
                        show jX m_X11_order 26 0 0 130 [(6, .int v52), (5, .int v47), (4, .int (-1)), (0, .ref 31), (1, .int a1), (2, .int a2), (3, .int a3)] [.int v63, .int v59, .int (-1), .ref 78] _ 0 0 _
                        refine x_inv (N := m_X7_reliefOf) (As := [.int (-1), .int v59, .int v63]) (b := 78) (st := []) (dx9 := 1) (mc := 0) (ms := 0) (host := "") 7 rfl t_X7_reliefOf ⟨Or.inl q_11_405, i_X7_reliefOf.1, i_X7_reliefOf.2⟩ ⟨by decide, rfl⟩ (congrArg Prod.fst (J.1.1 78 (7, 16) rfl)) rfl (by decide) rfl rfl ⟨by decide, by decide⟩ (sf_X7_reliefOf_r78d (jr_of jk_m1 (by omega)) (jr_of rfl (by omega)) (jr_of rfl (by omega)) hD J rfl  (fun v67 h J S64 X65 X66 => ?_))
                        have ev67 := jfull v67
                        have Sm := jSm_tr rfl Sm S64
                        try rw [jk_m1] at X65
                        try rw [X65] at D
                        try rw [← X66] at D
                        show jX m_X11_order 26 0 0 133 [(6, .int v52), (5, .int v47), (4, .int (-1)), (0, .ref 31), (1, .int a1), (2, .int a2), (3, .int a3)] [.int v67] _ 0 0 _
                        refine x_iret rfl rfl ?_
                        exact hQ _ _ J Sm ((congrArg Prod.fst D).symm.trans (show v67.toInt = v67.toInt from by omega)) (congrArg Prod.snd D).symm
                      ·
                        rw [if_pos (by omega)] at D
                        refine x_iconst (v := 1) rfl ki_1 ?_
                        refine x_iret rfl rfl ?_
                        exact hQ _ _ J Sm ((congrArg Prod.fst D).symm.trans (show 1 = (1 : Int32).toInt from by have := jk_1; omega)) (congrArg Prod.snd D).symm
                    ·
                      rw [if_pos (by omega)] at D
                      exact jX.sub jsb_n (ct_X11_order_r31d_90 hD hQ  h J Sm D)
                ·
                  rw [if_pos (by omega)] at D
                  refine x_iload (x := v47) rfl rfl ?_
                  refine x_ifeq (tgt := 69) rfl rfl (ti_eq rfl jk_0 ⟨fun c68 => ?_, fun c68 => ?_⟩)
                  ·
                    rw [if_pos (by omega)] at D
                    refine x_iconst (v := 0) rfl ki_0 ?_
                    exact jX.sub jsb_n (ct_X11_order_r31d_200070 hD hQ  h J Sm D)
                  ·
                    rw [if_neg (by omega)] at D
                    refine x_iconst (v := 1) rfl ki_1 ?_
                    refine x_goto (tgt := 70) rfl rfl ?_
                    exact jX.sub jsb_n (ct_X11_order_r31d_300070 hD hQ  h J Sm D)
              ·
                rw [if_neg (by omega)] at D
                refine x_iloadn (x := v15) rfl rfl ?_
                refine x_sipush (v := 600) rfl ks_600 ?_
                refine x_icge (tgt := 41) rfl rfl (ti_ge rfl jk_600 ⟨fun c69 => ?_, fun c69 => ?_⟩)
                ·
                  rw [if_pos (by omega)] at D
                  refine x_iconst (v := 0) rfl ki_0 ?_
                  refine x_zret rfl rfl (by decide) ?_
                  show jX m_X11_soulOn 25 0 0 15 [(0, .ref 31), (1, .int v15), (2, .int a2)] [.int 0] _ 0 0 _
                  refine x_ifne (tgt := 20) rfl rfl (ti_ne jk_0 jk_0 (bn_f (by omega) ?_))
                  refine x_iconst (v := (-1)) rfl ki_m1 ?_
                  refine x_iret rfl rfl ?_
                  show jX m_X11_order 26 0 0 44 [(0, .ref 31), (1, .int a1), (2, .int a2), (3, .int a3)] [.int (-1)] _ 0 0 _
                  refine x_istore (lsx9 := [(4, .int (-1)), (0, .ref 31), (1, .int a1), (2, .int a2), (3, .int a3)]) rfl rfl rfl ?_
                  refine x_aloadn (x := 31) rfl rfl ?_
                  refine x_iloadn (x := a1) rfl rfl ?_
                  refine x_iload (x := (-1)) rfl rfl ?_
                  refine x_iloadn (x := a2) rfl rfl ?_
                  refine x_inv (N := m_X11_isGood) (As := [.int a1, .int (-1), .int a2]) (b := 31) (st := []) (dx9 := 25) (mc := 0) (ms := 0) (host := "") 11 rfl t_X11_isGood ⟨Or.inl q_11_396, i_X11_isGood.1, i_X11_isGood.2⟩ ⟨by decide, rfl⟩ (congrArg Prod.fst (J.1.1 31 (11, 13) rfl)) rfl (by decide) rfl rfl ⟨by decide, by decide⟩ (sf_X11_isGood_r31d (jr_of jk_m1 (by omega)) (jr_of rfl (by omega)) hD J rfl  (fun v73 h ev73 J S70 X71 X72 => ?_))
                  have Sm := jSm_tr rfl Sm S70
                  try rw [jk_m1] at X71
                  try rw [jk_m1] at X72
                  try rw [X71] at D
                  try rw [X72] at D
                  show jX m_X11_order 26 0 0 54 [(4, .int (-1)), (0, .ref 31), (1, .int a1), (2, .int a2), (3, .int a3)] [.int v73] _ 0 0 _
                  refine x_istore (lsx9 := [(5, .int v73), (4, .int (-1)), (0, .ref 31), (1, .int a1), (2, .int a2), (3, .int a3)]) rfl rfl rfl ?_
                  refine x_iloadn (x := a3) rfl rfl ?_
                  refine x_ifne (tgt := 71) rfl rfl (ti_ne rfl jk_0 ⟨fun c74 => ?_, fun c74 => ?_⟩)
                  ·
                    rw [if_neg (by omega)] at D
                    refine x_aloadn (x := 31) rfl rfl ?_
                    refine x_iloadn (x := a1) rfl rfl ?_
                    refine x_iloadn (x := a2) rfl rfl ?_
                    refine x_inv (N := m_X11_firstAppeal) (As := [.int a1, .int a2]) (b := 31) (st := []) (dx9 := 2) (mc := 0) (ms := 0) (host := "") 11 rfl t_X11_firstAppeal ⟨Or.inl q_11_399, i_X11_firstAppeal.1, i_X11_firstAppeal.2⟩ ⟨by decide, rfl⟩ (congrArg Prod.fst (J.1.1 31 (11, 13) rfl)) rfl (by decide) rfl rfl ⟨by decide, by decide⟩ (sf_X11_firstAppeal_r31d (jr_of rfl (by omega)) hD J rfl  (fun v78 h ev78 J S75 X76 X77 => ?_))
                    have Sm := jSm_tr rfl Sm S75
                    try rw [X76] at D
                    try rw [← X77] at D
                    show jX m_X11_order 26 0 0 77 [(5, .int v73), (4, .int (-1)), (0, .ref 31), (1, .int a1), (2, .int a2), (3, .int a3)] [.int v78] _ 0 0 _
                    refine x_istore (lsx9 := [(6, .int v78), (5, .int v73), (4, .int (-1)), (0, .ref 31), (1, .int a1), (2, .int a2), (3, .int a3)]) rfl rfl rfl ?_
                    refine x_iload (x := v73) rfl rfl ?_
                    refine x_ifne (tgt := 90) rfl rfl (ti_ne rfl jk_0 ⟨fun c79 => ?_, fun c79 => ?_⟩)
                    ·
                      rw [if_neg (by omega)] at D
                      exact jX.sub jsb_n (ct_X11_order_r31d_90 hD hQ  h J Sm D)
                    ·
                      rw [if_pos (by omega)] at D
                      refine x_iload (x := v78) rfl rfl ?_
                      refine x_iconst (v := (-1)) rfl ki_m1 ?_
                      refine x_icne (tgt := 92) rfl rfl (ti_ne rfl jk_m1 ⟨fun c80 => ?_, fun c80 => ?_⟩)
                      ·
                        rw [if_neg (by omega)] at D
                        refine x_iloadn (x := a3) rfl rfl ?_
                        refine x_iconst (v := 1) rfl ki_1 ?_
                        refine x_icne (tgt := 99) rfl rfl (ti_ne rfl jk_1 ⟨fun c81 => ?_, fun c81 => ?_⟩)
                        ·
                          rw [if_neg (by omega)] at D
                          refine x_aloadn (x := 31) rfl rfl ?_
                          refine z_getR (N := 13) (b := 78) 11 4 rfl f_11_41 rfl J rfl 3972 ⟨rfl, rfl⟩ rfl ?_
                          refine x_iload (x := (-1)) rfl rfl ?_
                          refine x_aloadn (x := 31) rfl rfl ?_
                          refine z_getR (N := 13) (b := 32) 11 0 rfl f_11_10 rfl J rfl 3968 ⟨rfl, rfl⟩ rfl ?_
                          refine z_getR (N := 20) (b := 33) 1 0 rfl f_11_126 rfl J rfl 4096 ⟨rfl, rfl⟩ rfl ?_
                          refine x_iloadn (x := a1) rfl rfl ?_
                          refine x_iconst (v := 1) rfl ki_1 ?_
                          refine x_inv (N := m_X8_at) (As := [.int a1, .int 1]) (b := 33) (st := [.int (-1), .ref 78]) (dx9 := 1) (mc := 0) (ms := 0) (host := "") 8 rfl t_X8_at ⟨Or.inl q_11_171, i_X8_at.1, i_X8_at.2⟩ ⟨by decide, rfl⟩ (congrArg Prod.fst (J.1.1 33 (8, 4) rfl)) rfl (by decide) rfl rfl ⟨by decide, by decide⟩ (sf_X8_at_r33_c1d  hD J rfl  (fun v85 h ev85 J S82 X83 X84 => ?_))
                          have Sm := jSm_tr rfl Sm S82
                          try rw [X83] at D
                          try rw [← X84] at D
                          show jX m_X11_order 26 0 0 117 [(6, .int v78), (5, .int v73), (4, .int (-1)), (0, .ref 31), (1, .int a1), (2, .int a2), (3, .int a3)] [.int v85, .int (-1), .ref 78] _ 0 0 _
                          refine x_aloadn (x := 31) rfl rfl ?_
                          refine z_getR (N := 13) (b := 32) 11 0 rfl f_11_10 rfl J rfl 3968 ⟨rfl, rfl⟩ rfl ?_
                          refine z_getR (N := 20) (b := 45) 1 6 rfl f_11_402 rfl J rfl 4102 ⟨rfl, rfl⟩ rfl ?_
                          refine x_iload (x := v78) rfl rfl ?_
                          refine x_iconst (v := 1) rfl ki_1 ?_
                          refine x_inv (N := m_X8_at) (As := [.int v78, .int 1]) (b := 45) (st := [.int v85, .int (-1), .ref 78]) (dx9 := 1) (mc := 0) (ms := 0) (host := "") 8 rfl t_X8_at ⟨Or.inl q_11_171, i_X8_at.1, i_X8_at.2⟩ ⟨by decide, rfl⟩ (congrArg Prod.fst (J.1.1 45 (8, 4) rfl)) rfl (by decide) rfl rfl ⟨by decide, by decide⟩ (sf_X8_at_r45_c1d (jr_of rfl (by omega)) hD J rfl  (fun v89 h ev89 J S86 X87 X88 => ?_))
                          have Sm := jSm_tr rfl Sm S86
                          try rw [X87] at D
                          try rw [← X88] at D
                          show jX m_X11_order 26 0 0 130 [(6, .int v78), (5, .int v73), (4, .int (-1)), (0, .ref 31), (1, .int a1), (2, .int a2), (3, .int a3)] [.int v89, .int v85, .int (-1), .ref 78] _ 0 0 _
                          refine x_inv (N := m_X7_reliefOf) (As := [.int (-1), .int v85, .int v89]) (b := 78) (st := []) (dx9 := 1) (mc := 0) (ms := 0) (host := "") 7 rfl t_X7_reliefOf ⟨Or.inl q_11_405, i_X7_reliefOf.1, i_X7_reliefOf.2⟩ ⟨by decide, rfl⟩ (congrArg Prod.fst (J.1.1 78 (7, 16) rfl)) rfl (by decide) rfl rfl ⟨by decide, by decide⟩ (sf_X7_reliefOf_r78d (jr_of jk_m1 (by omega)) (jr_of rfl (by omega)) (jr_of rfl (by omega)) hD J rfl  (fun v93 h J S90 X91 X92 => ?_))
                          have ev93 := jfull v93
                          have Sm := jSm_tr rfl Sm S90
                          try rw [jk_m1] at X91
                          try rw [X91] at D
                          try rw [← X92] at D
                          show jX m_X11_order 26 0 0 133 [(6, .int v78), (5, .int v73), (4, .int (-1)), (0, .ref 31), (1, .int a1), (2, .int a2), (3, .int a3)] [.int v93] _ 0 0 _
                          refine x_iret rfl rfl ?_
                          exact hQ _ _ J Sm ((congrArg Prod.fst D).symm.trans (show v93.toInt = v93.toInt from by omega)) (congrArg Prod.snd D).symm
                        ·
                          rw [if_pos (by omega)] at D
                          refine x_iconst (v := 1) rfl ki_1 ?_
                          refine x_iret rfl rfl ?_
                          exact hQ _ _ J Sm ((congrArg Prod.fst D).symm.trans (show 1 = (1 : Int32).toInt from by have := jk_1; omega)) (congrArg Prod.snd D).symm
                      ·
                        rw [if_pos (by omega)] at D
                        exact jX.sub jsb_n (ct_X11_order_r31d_90 hD hQ  h J Sm D)
                  ·
                    rw [if_pos (by omega)] at D
                    refine x_iload (x := v73) rfl rfl ?_
                    refine x_ifeq (tgt := 69) rfl rfl (ti_eq rfl jk_0 ⟨fun c94 => ?_, fun c94 => ?_⟩)
                    ·
                      rw [if_pos (by omega)] at D
                      refine x_iconst (v := 0) rfl ki_0 ?_
                      exact jX.sub jsb_n (ct_X11_order_r31d_200070 hD hQ  h J Sm D)
                    ·
                      rw [if_neg (by omega)] at D
                      refine x_iconst (v := 1) rfl ki_1 ?_
                      refine x_goto (tgt := 70) rfl rfl ?_
                      exact jX.sub jsb_n (ct_X11_order_r31d_300070 hD hQ  h J Sm D)
                ·
                  rw [if_neg (by omega)] at D
                  refine x_iloadn (x := v15) rfl rfl ?_
                  refine x_iconst (v := 3) rfl ki_3 ?_
                  refine z_idiv rfl rfl jk_3 (by omega) (by omega) (fun v95 ev95 => ?_)
                  refine x_aloadn (x := 78) rfl rfl ?_
                  refine z_getR (N := 16) (b := 32) 7 0 rfl f_7_55 rfl J rfl 9984 ⟨rfl, rfl⟩ rfl ?_
                  refine z_getR (N := 20) (b := 33) 1 0 rfl f_7_63 rfl J rfl 4096 ⟨rfl, rfl⟩ rfl ?_
                  refine z_getI (N := 4) 8 3 rfl f_7_85 rfl J rfl sg_33_3_4_1_0_1 (fun v96 qv96 ev96 => ?_)
                  try rw [vrf qv96] at D
                  refine x_icge (tgt := 41) rfl rfl (ti_ge rfl rfl ⟨fun c97 => ?_, fun c97 => ?_⟩)
                  ·
                    rw [if_pos (by omega)] at D
                    refine x_iconst (v := 0) rfl ki_0 ?_
                    refine x_zret rfl rfl (by decide) ?_
                    show jX m_X11_soulOn 25 0 0 15 [(0, .ref 31), (1, .int v15), (2, .int a2)] [.int 0] _ 0 0 _
                    refine x_ifne (tgt := 20) rfl rfl (ti_ne jk_0 jk_0 (bn_f (by omega) ?_))
                    refine x_iconst (v := (-1)) rfl ki_m1 ?_
                    refine x_iret rfl rfl ?_
                    show jX m_X11_order 26 0 0 44 [(0, .ref 31), (1, .int a1), (2, .int a2), (3, .int a3)] [.int (-1)] _ 0 0 _
                    refine x_istore (lsx9 := [(4, .int (-1)), (0, .ref 31), (1, .int a1), (2, .int a2), (3, .int a3)]) rfl rfl rfl ?_
                    refine x_aloadn (x := 31) rfl rfl ?_
                    refine x_iloadn (x := a1) rfl rfl ?_
                    refine x_iload (x := (-1)) rfl rfl ?_
                    refine x_iloadn (x := a2) rfl rfl ?_
                    refine x_inv (N := m_X11_isGood) (As := [.int a1, .int (-1), .int a2]) (b := 31) (st := []) (dx9 := 25) (mc := 0) (ms := 0) (host := "") 11 rfl t_X11_isGood ⟨Or.inl q_11_396, i_X11_isGood.1, i_X11_isGood.2⟩ ⟨by decide, rfl⟩ (congrArg Prod.fst (J.1.1 31 (11, 13) rfl)) rfl (by decide) rfl rfl ⟨by decide, by decide⟩ (sf_X11_isGood_r31d (jr_of jk_m1 (by omega)) (jr_of rfl (by omega)) hD J rfl  (fun v101 h ev101 J S98 X99 X100 => ?_))
                    have Sm := jSm_tr rfl Sm S98
                    try rw [jk_m1] at X99
                    try rw [jk_m1] at X100
                    try rw [X99] at D
                    try rw [X100] at D
                    show jX m_X11_order 26 0 0 54 [(4, .int (-1)), (0, .ref 31), (1, .int a1), (2, .int a2), (3, .int a3)] [.int v101] _ 0 0 _
                    refine x_istore (lsx9 := [(5, .int v101), (4, .int (-1)), (0, .ref 31), (1, .int a1), (2, .int a2), (3, .int a3)]) rfl rfl rfl ?_
                    refine x_iloadn (x := a3) rfl rfl ?_
                    refine x_ifne (tgt := 71) rfl rfl (ti_ne rfl jk_0 ⟨fun c102 => ?_, fun c102 => ?_⟩)
                    ·
                      rw [if_neg (by omega)] at D
                      refine x_aloadn (x := 31) rfl rfl ?_
                      refine x_iloadn (x := a1) rfl rfl ?_
                      refine x_iloadn (x := a2) rfl rfl ?_
                      refine x_inv (N := m_X11_firstAppeal) (As := [.int a1, .int a2]) (b := 31) (st := []) (dx9 := 2) (mc := 0) (ms := 0) (host := "") 11 rfl t_X11_firstAppeal ⟨Or.inl q_11_399, i_X11_firstAppeal.1, i_X11_firstAppeal.2⟩ ⟨by decide, rfl⟩ (congrArg Prod.fst (J.1.1 31 (11, 13) rfl)) rfl (by decide) rfl rfl ⟨by decide, by decide⟩ (sf_X11_firstAppeal_r31d (jr_of rfl (by omega)) hD J rfl  (fun v106 h ev106 J S103 X104 X105 => ?_))
                      have Sm := jSm_tr rfl Sm S103
                      try rw [X104] at D
                      try rw [← X105] at D
                      show jX m_X11_order 26 0 0 77 [(5, .int v101), (4, .int (-1)), (0, .ref 31), (1, .int a1), (2, .int a2), (3, .int a3)] [.int v106] _ 0 0 _
                      refine x_istore (lsx9 := [(6, .int v106), (5, .int v101), (4, .int (-1)), (0, .ref 31), (1, .int a1), (2, .int a2), (3, .int a3)]) rfl rfl rfl ?_
                      refine x_iload (x := v101) rfl rfl ?_
                      refine x_ifne (tgt := 90) rfl rfl (ti_ne rfl jk_0 ⟨fun c107 => ?_, fun c107 => ?_⟩)
                      ·
                        rw [if_neg (by omega)] at D
                        exact jX.sub jsb_n (ct_X11_order_r31d_90 hD hQ  h J Sm D)
                      ·
                        rw [if_pos (by omega)] at D
                        refine x_iload (x := v106) rfl rfl ?_
                        refine x_iconst (v := (-1)) rfl ki_m1 ?_
                        refine x_icne (tgt := 92) rfl rfl (ti_ne rfl jk_m1 ⟨fun c108 => ?_, fun c108 => ?_⟩)
                        ·
                          rw [if_neg (by omega)] at D
                          refine x_iloadn (x := a3) rfl rfl ?_
                          refine x_iconst (v := 1) rfl ki_1 ?_
                          refine x_icne (tgt := 99) rfl rfl (ti_ne rfl jk_1 ⟨fun c109 => ?_, fun c109 => ?_⟩)
                          ·
                            rw [if_neg (by omega)] at D
                            refine x_aloadn (x := 31) rfl rfl ?_
                            refine z_getR (N := 13) (b := 78) 11 4 rfl f_11_41 rfl J rfl 3972 ⟨rfl, rfl⟩ rfl ?_
                            refine x_iload (x := (-1)) rfl rfl ?_
                            refine x_aloadn (x := 31) rfl rfl ?_
                            refine z_getR (N := 13) (b := 32) 11 0 rfl f_11_10 rfl J rfl 3968 ⟨rfl, rfl⟩ rfl ?_
                            refine z_getR (N := 20) (b := 33) 1 0 rfl f_11_126 rfl J rfl 4096 ⟨rfl, rfl⟩ rfl ?_
                            refine x_iloadn (x := a1) rfl rfl ?_
                            refine x_iconst (v := 1) rfl ki_1 ?_
                            refine x_inv (N := m_X8_at) (As := [.int a1, .int 1]) (b := 33) (st := [.int (-1), .ref 78]) (dx9 := 1) (mc := 0) (ms := 0) (host := "") 8 rfl t_X8_at ⟨Or.inl q_11_171, i_X8_at.1, i_X8_at.2⟩ ⟨by decide, rfl⟩ (congrArg Prod.fst (J.1.1 33 (8, 4) rfl)) rfl (by decide) rfl rfl ⟨by decide, by decide⟩ (sf_X8_at_r33_c1d  hD J rfl  (fun v113 h ev113 J S110 X111 X112 => ?_))
                            have Sm := jSm_tr rfl Sm S110
                            try rw [X111] at D
                            try rw [← X112] at D
                            show jX m_X11_order 26 0 0 117 [(6, .int v106), (5, .int v101), (4, .int (-1)), (0, .ref 31), (1, .int a1), (2, .int a2), (3, .int a3)] [.int v113, .int (-1), .ref 78] _ 0 0 _
                            refine x_aloadn (x := 31) rfl rfl ?_
                            refine z_getR (N := 13) (b := 32) 11 0 rfl f_11_10 rfl J rfl 3968 ⟨rfl, rfl⟩ rfl ?_
                            refine z_getR (N := 20) (b := 45) 1 6 rfl f_11_402 rfl J rfl 4102 ⟨rfl, rfl⟩ rfl ?_
                            refine x_iload (x := v106) rfl rfl ?_
                            refine x_iconst (v := 1) rfl ki_1 ?_
                            refine x_inv (N := m_X8_at) (As := [.int v106, .int 1]) (b := 45) (st := [.int v113, .int (-1), .ref 78]) (dx9 := 1) (mc := 0) (ms := 0) (host := "") 8 rfl t_X8_at ⟨Or.inl q_11_171, i_X8_at.1, i_X8_at.2⟩ ⟨by decide, rfl⟩ (congrArg Prod.fst (J.1.1 45 (8, 4) rfl)) rfl (by decide) rfl rfl ⟨by decide, by decide⟩ (sf_X8_at_r45_c1d (jr_of rfl (by omega)) hD J rfl  (fun v117 h ev117 J S114 X115 X116 => ?_))
                            have Sm := jSm_tr rfl Sm S114
                            try rw [X115] at D
                            try rw [← X116] at D
                            show jX m_X11_order 26 0 0 130 [(6, .int v106), (5, .int v101), (4, .int (-1)), (0, .ref 31), (1, .int a1), (2, .int a2), (3, .int a3)] [.int v117, .int v113, .int (-1), .ref 78] _ 0 0 _
                            refine x_inv (N := m_X7_reliefOf) (As := [.int (-1), .int v113, .int v117]) (b := 78) (st := []) (dx9 := 1) (mc := 0) (ms := 0) (host := "") 7 rfl t_X7_reliefOf ⟨Or.inl q_11_405, i_X7_reliefOf.1, i_X7_reliefOf.2⟩ ⟨by decide, rfl⟩ (congrArg Prod.fst (J.1.1 78 (7, 16) rfl)) rfl (by decide) rfl rfl ⟨by decide, by decide⟩ (sf_X7_reliefOf_r78d (jr_of jk_m1 (by omega)) (jr_of rfl (by omega)) (jr_of rfl (by omega)) hD J rfl  (fun v121 h J S118 X119 X120 => ?_))
                            have ev121 := jfull v121
                            have Sm := jSm_tr rfl Sm S118
                            try rw [jk_m1] at X119
                            try rw [X119] at D
                            try rw [← X120] at D
                            show jX m_X11_order 26 0 0 133 [(6, .int v106), (5, .int v101), (4, .int (-1)), (0, .ref 31), (1, .int a1), (2, .int a2), (3, .int a3)] [.int v121] _ 0 0 _
                            refine x_iret rfl rfl ?_
                            exact hQ _ _ J Sm ((congrArg Prod.fst D).symm.trans (show v121.toInt = v121.toInt from by omega)) (congrArg Prod.snd D).symm
                          ·
                            rw [if_pos (by omega)] at D
                            refine x_iconst (v := 1) rfl ki_1 ?_
                            refine x_iret rfl rfl ?_
                            exact hQ _ _ J Sm ((congrArg Prod.fst D).symm.trans (show 1 = (1 : Int32).toInt from by have := jk_1; omega)) (congrArg Prod.snd D).symm
                        ·
                          rw [if_pos (by omega)] at D
                          exact jX.sub jsb_n (ct_X11_order_r31d_90 hD hQ  h J Sm D)
                    ·
                      rw [if_pos (by omega)] at D
                      refine x_iload (x := v101) rfl rfl ?_
                      refine x_ifeq (tgt := 69) rfl rfl (ti_eq rfl jk_0 ⟨fun c122 => ?_, fun c122 => ?_⟩)
                      ·
                        rw [if_pos (by omega)] at D
                        refine x_iconst (v := 0) rfl ki_0 ?_
                        exact jX.sub jsb_n (ct_X11_order_r31d_200070 hD hQ  h J Sm D)
                      ·
                        rw [if_neg (by omega)] at D
                        refine x_iconst (v := 1) rfl ki_1 ?_
                        refine x_goto (tgt := 70) rfl rfl ?_
                        exact jX.sub jsb_n (ct_X11_order_r31d_300070 hD hQ  h J Sm D)
                  ·
                    rw [if_neg (by omega)] at D
                    refine x_aloadn (x := 78) rfl rfl ?_
                    refine z_getR (N := 16) (b := 79) 7 7 rfl f_7_27 rfl J rfl 9991 ⟨rfl, rfl⟩ rfl ?_
                    refine x_iloadn (x := v15) rfl rfl ?_
                    refine z_iald (N := 600) rfl J rfl sg_79_0_600_1_0_1 rfl (by omega) (fun v123 qv123 ev123 => ?_)
                    try rw [vrd qv123 (show v15.toInt = v15.toInt from by omega)] at D
                    refine x_iconst (v := (-1)) rfl ki_m1 ?_
                    refine x_iceq (tgt := 41) rfl rfl (ti_eq rfl jk_m1 ⟨fun c124 => ?_, fun c124 => ?_⟩)
                    ·
                      rw [if_pos (by omega)] at D
                      refine x_iconst (v := 0) rfl ki_0 ?_
                      refine x_zret rfl rfl (by decide) ?_
                      show jX m_X11_soulOn 25 0 0 15 [(0, .ref 31), (1, .int v15), (2, .int a2)] [.int 0] _ 0 0 _
                      refine x_ifne (tgt := 20) rfl rfl (ti_ne jk_0 jk_0 (bn_f (by omega) ?_))
                      refine x_iconst (v := (-1)) rfl ki_m1 ?_
                      refine x_iret rfl rfl ?_
                      show jX m_X11_order 26 0 0 44 [(0, .ref 31), (1, .int a1), (2, .int a2), (3, .int a3)] [.int (-1)] _ 0 0 _
                      refine x_istore (lsx9 := [(4, .int (-1)), (0, .ref 31), (1, .int a1), (2, .int a2), (3, .int a3)]) rfl rfl rfl ?_
                      refine x_aloadn (x := 31) rfl rfl ?_
                      refine x_iloadn (x := a1) rfl rfl ?_
                      refine x_iload (x := (-1)) rfl rfl ?_
                      refine x_iloadn (x := a2) rfl rfl ?_
                      refine x_inv (N := m_X11_isGood) (As := [.int a1, .int (-1), .int a2]) (b := 31) (st := []) (dx9 := 25) (mc := 0) (ms := 0) (host := "") 11 rfl t_X11_isGood ⟨Or.inl q_11_396, i_X11_isGood.1, i_X11_isGood.2⟩ ⟨by decide, rfl⟩ (congrArg Prod.fst (J.1.1 31 (11, 13) rfl)) rfl (by decide) rfl rfl ⟨by decide, by decide⟩ (sf_X11_isGood_r31d (jr_of jk_m1 (by omega)) (jr_of rfl (by omega)) hD J rfl  (fun v128 h ev128 J S125 X126 X127 => ?_))
                      have Sm := jSm_tr rfl Sm S125
                      try rw [jk_m1] at X126
                      try rw [jk_m1] at X127
                      try rw [X126] at D
                      try rw [X127] at D
                      show jX m_X11_order 26 0 0 54 [(4, .int (-1)), (0, .ref 31), (1, .int a1), (2, .int a2), (3, .int a3)] [.int v128] _ 0 0 _
                      refine x_istore (lsx9 := [(5, .int v128), (4, .int (-1)), (0, .ref 31), (1, .int a1), (2, .int a2), (3, .int a3)]) rfl rfl rfl ?_
                      refine x_iloadn (x := a3) rfl rfl ?_
                      refine x_ifne (tgt := 71) rfl rfl (ti_ne rfl jk_0 ⟨fun c129 => ?_, fun c129 => ?_⟩)
                      ·
                        rw [if_neg (by omega)] at D
                        refine x_aloadn (x := 31) rfl rfl ?_
                        refine x_iloadn (x := a1) rfl rfl ?_
                        refine x_iloadn (x := a2) rfl rfl ?_
                        refine x_inv (N := m_X11_firstAppeal) (As := [.int a1, .int a2]) (b := 31) (st := []) (dx9 := 2) (mc := 0) (ms := 0) (host := "") 11 rfl t_X11_firstAppeal ⟨Or.inl q_11_399, i_X11_firstAppeal.1, i_X11_firstAppeal.2⟩ ⟨by decide, rfl⟩ (congrArg Prod.fst (J.1.1 31 (11, 13) rfl)) rfl (by decide) rfl rfl ⟨by decide, by decide⟩ (sf_X11_firstAppeal_r31d (jr_of rfl (by omega)) hD J rfl  (fun v133 h ev133 J S130 X131 X132 => ?_))
                        have Sm := jSm_tr rfl Sm S130
                        try rw [X131] at D
                        try rw [← X132] at D
                        show jX m_X11_order 26 0 0 77 [(5, .int v128), (4, .int (-1)), (0, .ref 31), (1, .int a1), (2, .int a2), (3, .int a3)] [.int v133] _ 0 0 _
                        refine x_istore (lsx9 := [(6, .int v133), (5, .int v128), (4, .int (-1)), (0, .ref 31), (1, .int a1), (2, .int a2), (3, .int a3)]) rfl rfl rfl ?_
                        refine x_iload (x := v128) rfl rfl ?_
                        refine x_ifne (tgt := 90) rfl rfl (ti_ne rfl jk_0 ⟨fun c134 => ?_, fun c134 => ?_⟩)
                        ·
                          rw [if_neg (by omega)] at D
                          exact jX.sub jsb_n (ct_X11_order_r31d_90 hD hQ  h J Sm D)
                        ·
                          rw [if_pos (by omega)] at D
                          refine x_iload (x := v133) rfl rfl ?_
                          refine x_iconst (v := (-1)) rfl ki_m1 ?_
                          refine x_icne (tgt := 92) rfl rfl (ti_ne rfl jk_m1 ⟨fun c135 => ?_, fun c135 => ?_⟩)
                          ·
                            rw [if_neg (by omega)] at D
                            refine x_iloadn (x := a3) rfl rfl ?_
                            refine x_iconst (v := 1) rfl ki_1 ?_
                            refine x_icne (tgt := 99) rfl rfl (ti_ne rfl jk_1 ⟨fun c136 => ?_, fun c136 => ?_⟩)
                            ·
                              rw [if_neg (by omega)] at D
                              refine x_aloadn (x := 31) rfl rfl ?_
                              refine z_getR (N := 13) (b := 78) 11 4 rfl f_11_41 rfl J rfl 3972 ⟨rfl, rfl⟩ rfl ?_
                              refine x_iload (x := (-1)) rfl rfl ?_
                              refine x_aloadn (x := 31) rfl rfl ?_
                              refine z_getR (N := 13) (b := 32) 11 0 rfl f_11_10 rfl J rfl 3968 ⟨rfl, rfl⟩ rfl ?_
                              refine z_getR (N := 20) (b := 33) 1 0 rfl f_11_126 rfl J rfl 4096 ⟨rfl, rfl⟩ rfl ?_
                              refine x_iloadn (x := a1) rfl rfl ?_
                              refine x_iconst (v := 1) rfl ki_1 ?_
                              refine x_inv (N := m_X8_at) (As := [.int a1, .int 1]) (b := 33) (st := [.int (-1), .ref 78]) (dx9 := 1) (mc := 0) (ms := 0) (host := "") 8 rfl t_X8_at ⟨Or.inl q_11_171, i_X8_at.1, i_X8_at.2⟩ ⟨by decide, rfl⟩ (congrArg Prod.fst (J.1.1 33 (8, 4) rfl)) rfl (by decide) rfl rfl ⟨by decide, by decide⟩ (sf_X8_at_r33_c1d  hD J rfl  (fun v140 h ev140 J S137 X138 X139 => ?_))
                              have Sm := jSm_tr rfl Sm S137
                              try rw [X138] at D
                              try rw [← X139] at D
                              show jX m_X11_order 26 0 0 117 [(6, .int v133), (5, .int v128), (4, .int (-1)), (0, .ref 31), (1, .int a1), (2, .int a2), (3, .int a3)] [.int v140, .int (-1), .ref 78] _ 0 0 _
                              refine x_aloadn (x := 31) rfl rfl ?_
                              refine z_getR (N := 13) (b := 32) 11 0 rfl f_11_10 rfl J rfl 3968 ⟨rfl, rfl⟩ rfl ?_
                              refine z_getR (N := 20) (b := 45) 1 6 rfl f_11_402 rfl J rfl 4102 ⟨rfl, rfl⟩ rfl ?_
                              refine x_iload (x := v133) rfl rfl ?_
                              refine x_iconst (v := 1) rfl ki_1 ?_
                              refine x_inv (N := m_X8_at) (As := [.int v133, .int 1]) (b := 45) (st := [.int v140, .int (-1), .ref 78]) (dx9 := 1) (mc := 0) (ms := 0) (host := "") 8 rfl t_X8_at ⟨Or.inl q_11_171, i_X8_at.1, i_X8_at.2⟩ ⟨by decide, rfl⟩ (congrArg Prod.fst (J.1.1 45 (8, 4) rfl)) rfl (by decide) rfl rfl ⟨by decide, by decide⟩ (sf_X8_at_r45_c1d (jr_of rfl (by omega)) hD J rfl  (fun v144 h ev144 J S141 X142 X143 => ?_))
                              have Sm := jSm_tr rfl Sm S141
                              try rw [X142] at D
                              try rw [← X143] at D
                              show jX m_X11_order 26 0 0 130 [(6, .int v133), (5, .int v128), (4, .int (-1)), (0, .ref 31), (1, .int a1), (2, .int a2), (3, .int a3)] [.int v144, .int v140, .int (-1), .ref 78] _ 0 0 _
                              refine x_inv (N := m_X7_reliefOf) (As := [.int (-1), .int v140, .int v144]) (b := 78) (st := []) (dx9 := 1) (mc := 0) (ms := 0) (host := "") 7 rfl t_X7_reliefOf ⟨Or.inl q_11_405, i_X7_reliefOf.1, i_X7_reliefOf.2⟩ ⟨by decide, rfl⟩ (congrArg Prod.fst (J.1.1 78 (7, 16) rfl)) rfl (by decide) rfl rfl ⟨by decide, by decide⟩ (sf_X7_reliefOf_r78d (jr_of jk_m1 (by omega)) (jr_of rfl (by omega)) (jr_of rfl (by omega)) hD J rfl  (fun v148 h J S145 X146 X147 => ?_))
                              have ev148 := jfull v148
                              have Sm := jSm_tr rfl Sm S145
                              try rw [jk_m1] at X146
                              try rw [X146] at D
                              try rw [← X147] at D
                              show jX m_X11_order 26 0 0 133 [(6, .int v133), (5, .int v128), (4, .int (-1)), (0, .ref 31), (1, .int a1), (2, .int a2), (3, .int a3)] [.int v148] _ 0 0 _
                              refine x_iret rfl rfl ?_
                              exact hQ _ _ J Sm ((congrArg Prod.fst D).symm.trans (show v148.toInt = v148.toInt from by omega)) (congrArg Prod.snd D).symm
                            ·
                              rw [if_pos (by omega)] at D
                              refine x_iconst (v := 1) rfl ki_1 ?_
                              refine x_iret rfl rfl ?_
                              exact hQ _ _ J Sm ((congrArg Prod.fst D).symm.trans (show 1 = (1 : Int32).toInt from by have := jk_1; omega)) (congrArg Prod.snd D).symm
                          ·
                            rw [if_pos (by omega)] at D
                            exact jX.sub jsb_n (ct_X11_order_r31d_90 hD hQ  h J Sm D)
                      ·
                        rw [if_pos (by omega)] at D
                        refine x_iload (x := v128) rfl rfl ?_
                        refine x_ifeq (tgt := 69) rfl rfl (ti_eq rfl jk_0 ⟨fun c149 => ?_, fun c149 => ?_⟩)
                        ·
                          rw [if_pos (by omega)] at D
                          refine x_iconst (v := 0) rfl ki_0 ?_
                          exact jX.sub jsb_n (ct_X11_order_r31d_200070 hD hQ  h J Sm D)
                        ·
                          rw [if_neg (by omega)] at D
                          refine x_iconst (v := 1) rfl ki_1 ?_
                          refine x_goto (tgt := 70) rfl rfl ?_
                          exact jX.sub jsb_n (ct_X11_order_r31d_300070 hD hQ  h J Sm D)
                    ·
                      rw [if_neg (by omega)] at D
                      refine x_iconst (v := 1) rfl ki_1 ?_
                      refine x_goto (tgt := 42) rfl rfl ?_
                      refine x_zret rfl rfl (by decide) ?_
                      show jX m_X11_soulOn 25 0 0 15 [(0, .ref 31), (1, .int v15), (2, .int a2)] [.int 1] _ 0 0 _
                      refine x_ifne (tgt := 20) rfl rfl (ti_ne jk_1 jk_0 (bn_t (by omega) ?_))
                      refine x_aloadn (x := 31) rfl rfl ?_
                      refine z_getR (N := 13) (b := 78) 11 4 rfl f_11_41 rfl J rfl 3972 ⟨rfl, rfl⟩ rfl ?_
                      refine x_iloadn (x := a2) rfl rfl ?_
                      refine x_inv (N := m_X7_asKnown) (As := [.int a2]) (b := 78) (st := []) (dx9 := 6) (mc := 0) (ms := 0) (host := "") 7 rfl t_X7_asKnown ⟨Or.inl q_11_240, i_X7_asKnown.1, i_X7_asKnown.2⟩ ⟨by decide, rfl⟩ (congrArg Prod.fst (J.1.1 78 (7, 16) rfl)) rfl (by decide) rfl rfl ⟨by decide, by decide⟩ (sf_X7_asKnown_r78d (jr_of rfl (by omega)) hD J rfl  (fun h J S150 X151 => ?_))
                      have Sm := jSm_tr rfl Sm S150
                      rw [X151] at D
                      show jX m_X11_soulOn 25 0 0 28 [(0, .ref 31), (1, .int v15), (2, .int a2)] [] _ 0 0 _
                      refine x_aloadn (x := 31) rfl rfl ?_
                      refine z_getR (N := 13) (b := 78) 11 4 rfl f_11_41 rfl J rfl 3972 ⟨rfl, rfl⟩ rfl ?_
                      refine z_getR (N := 16) (b := 82) 7 10 rfl f_11_537 rfl J rfl 9994 ⟨rfl, rfl⟩ rfl ?_
                      refine x_iloadn (x := v15) rfl rfl ?_
                      refine z_iald (N := 600) rfl J rfl sg_82_0_600_1_0_1 rfl (by omega) (fun v152 qv152 ev152 => ?_)
                      try rw [vrd qv152 (show v15.toInt = v15.toInt from by omega)] at D
                      refine x_iret rfl rfl ?_
                      show jX m_X11_order 26 0 0 44 [(0, .ref 31), (1, .int a1), (2, .int a2), (3, .int a3)] [.int v152] _ 0 0 _
                      refine x_istore (lsx9 := [(4, .int v152), (0, .ref 31), (1, .int a1), (2, .int a2), (3, .int a3)]) rfl rfl rfl ?_
                      refine x_aloadn (x := 31) rfl rfl ?_
                      refine x_iloadn (x := a1) rfl rfl ?_
                      refine x_iload (x := v152) rfl rfl ?_
                      refine x_iloadn (x := a2) rfl rfl ?_
                      refine x_inv (N := m_X11_isGood) (As := [.int a1, .int v152, .int a2]) (b := 31) (st := []) (dx9 := 25) (mc := 0) (ms := 0) (host := "") 11 rfl t_X11_isGood ⟨Or.inl q_11_396, i_X11_isGood.1, i_X11_isGood.2⟩ ⟨by decide, rfl⟩ (congrArg Prod.fst (J.1.1 31 (11, 13) rfl)) rfl (by decide) rfl rfl ⟨by decide, by decide⟩ (sf_X11_isGood_r31d (jr_of rfl (by omega)) (jr_of rfl (by omega)) hD J rfl  (fun v156 h ev156 J S153 X154 X155 => ?_))
                      have Sm := jSm_tr rfl Sm S153
                      try rw [X154] at D
                      try rw [X155] at D
                      show jX m_X11_order 26 0 0 54 [(4, .int v152), (0, .ref 31), (1, .int a1), (2, .int a2), (3, .int a3)] [.int v156] _ 0 0 _
                      refine x_istore (lsx9 := [(5, .int v156), (4, .int v152), (0, .ref 31), (1, .int a1), (2, .int a2), (3, .int a3)]) rfl rfl rfl ?_
                      refine x_iloadn (x := a3) rfl rfl ?_
                      refine x_ifne (tgt := 71) rfl rfl (ti_ne rfl jk_0 ⟨fun c157 => ?_, fun c157 => ?_⟩)
                      ·
                        rw [if_neg (by omega)] at D
                        refine x_aloadn (x := 31) rfl rfl ?_
                        refine x_iloadn (x := a1) rfl rfl ?_
                        refine x_iloadn (x := a2) rfl rfl ?_
                        refine x_inv (N := m_X11_firstAppeal) (As := [.int a1, .int a2]) (b := 31) (st := []) (dx9 := 2) (mc := 0) (ms := 0) (host := "") 11 rfl t_X11_firstAppeal ⟨Or.inl q_11_399, i_X11_firstAppeal.1, i_X11_firstAppeal.2⟩ ⟨by decide, rfl⟩ (congrArg Prod.fst (J.1.1 31 (11, 13) rfl)) rfl (by decide) rfl rfl ⟨by decide, by decide⟩ (sf_X11_firstAppeal_r31d (jr_of rfl (by omega)) hD J rfl  (fun v161 h ev161 J S158 X159 X160 => ?_))
                        have Sm := jSm_tr rfl Sm S158
                        try rw [X159] at D
                        try rw [← X160] at D
                        show jX m_X11_order 26 0 0 77 [(5, .int v156), (4, .int v152), (0, .ref 31), (1, .int a1), (2, .int a2), (3, .int a3)] [.int v161] _ 0 0 _
                        refine x_istore (lsx9 := [(6, .int v161), (5, .int v156), (4, .int v152), (0, .ref 31), (1, .int a1), (2, .int a2), (3, .int a3)]) rfl rfl rfl ?_
                        refine x_iload (x := v156) rfl rfl ?_
                        refine x_ifne (tgt := 90) rfl rfl (ti_ne rfl jk_0 ⟨fun c162 => ?_, fun c162 => ?_⟩)
                        ·
                          rw [if_neg (by omega)] at D
                          exact jX.sub jsb_n (ct_X11_order_r31d_90 hD hQ  h J Sm D)
                        ·
                          rw [if_pos (by omega)] at D
                          refine x_iload (x := v161) rfl rfl ?_
                          refine x_iconst (v := (-1)) rfl ki_m1 ?_
                          refine x_icne (tgt := 92) rfl rfl (ti_ne rfl jk_m1 ⟨fun c163 => ?_, fun c163 => ?_⟩)
                          ·
                            rw [if_neg (by omega)] at D
                            refine x_iloadn (x := a3) rfl rfl ?_
                            refine x_iconst (v := 1) rfl ki_1 ?_
                            refine x_icne (tgt := 99) rfl rfl (ti_ne rfl jk_1 ⟨fun c164 => ?_, fun c164 => ?_⟩)
                            ·
                              rw [if_neg (by omega)] at D
                              refine x_aloadn (x := 31) rfl rfl ?_
                              refine z_getR (N := 13) (b := 78) 11 4 rfl f_11_41 rfl J rfl 3972 ⟨rfl, rfl⟩ rfl ?_
                              refine x_iload (x := v152) rfl rfl ?_
                              refine x_aloadn (x := 31) rfl rfl ?_
                              refine z_getR (N := 13) (b := 32) 11 0 rfl f_11_10 rfl J rfl 3968 ⟨rfl, rfl⟩ rfl ?_
                              refine z_getR (N := 20) (b := 33) 1 0 rfl f_11_126 rfl J rfl 4096 ⟨rfl, rfl⟩ rfl ?_
                              refine x_iloadn (x := a1) rfl rfl ?_
                              refine x_iconst (v := 1) rfl ki_1 ?_
                              refine x_inv (N := m_X8_at) (As := [.int a1, .int 1]) (b := 33) (st := [.int v152, .ref 78]) (dx9 := 1) (mc := 0) (ms := 0) (host := "") 8 rfl t_X8_at ⟨Or.inl q_11_171, i_X8_at.1, i_X8_at.2⟩ ⟨by decide, rfl⟩ (congrArg Prod.fst (J.1.1 33 (8, 4) rfl)) rfl (by decide) rfl rfl ⟨by decide, by decide⟩ (sf_X8_at_r33_c1d  hD J rfl  (fun v168 h ev168 J S165 X166 X167 => ?_))
                              have Sm := jSm_tr rfl Sm S165
                              try rw [X166] at D
                              try rw [← X167] at D
                              show jX m_X11_order 26 0 0 117 [(6, .int v161), (5, .int v156), (4, .int v152), (0, .ref 31), (1, .int a1), (2, .int a2), (3, .int a3)] [.int v168, .int v152, .ref 78] _ 0 0 _
                              refine x_aloadn (x := 31) rfl rfl ?_
                              refine z_getR (N := 13) (b := 32) 11 0 rfl f_11_10 rfl J rfl 3968 ⟨rfl, rfl⟩ rfl ?_
                              refine z_getR (N := 20) (b := 45) 1 6 rfl f_11_402 rfl J rfl 4102 ⟨rfl, rfl⟩ rfl ?_
                              refine x_iload (x := v161) rfl rfl ?_
                              refine x_iconst (v := 1) rfl ki_1 ?_
                              refine x_inv (N := m_X8_at) (As := [.int v161, .int 1]) (b := 45) (st := [.int v168, .int v152, .ref 78]) (dx9 := 1) (mc := 0) (ms := 0) (host := "") 8 rfl t_X8_at ⟨Or.inl q_11_171, i_X8_at.1, i_X8_at.2⟩ ⟨by decide, rfl⟩ (congrArg Prod.fst (J.1.1 45 (8, 4) rfl)) rfl (by decide) rfl rfl ⟨by decide, by decide⟩ (sf_X8_at_r45_c1d (jr_of rfl (by omega)) hD J rfl  (fun v172 h ev172 J S169 X170 X171 => ?_))
                              have Sm := jSm_tr rfl Sm S169
                              try rw [X170] at D
                              try rw [← X171] at D
                              show jX m_X11_order 26 0 0 130 [(6, .int v161), (5, .int v156), (4, .int v152), (0, .ref 31), (1, .int a1), (2, .int a2), (3, .int a3)] [.int v172, .int v168, .int v152, .ref 78] _ 0 0 _
                              refine x_inv (N := m_X7_reliefOf) (As := [.int v152, .int v168, .int v172]) (b := 78) (st := []) (dx9 := 1) (mc := 0) (ms := 0) (host := "") 7 rfl t_X7_reliefOf ⟨Or.inl q_11_405, i_X7_reliefOf.1, i_X7_reliefOf.2⟩ ⟨by decide, rfl⟩ (congrArg Prod.fst (J.1.1 78 (7, 16) rfl)) rfl (by decide) rfl rfl ⟨by decide, by decide⟩ (sf_X7_reliefOf_r78d (jr_of rfl (by omega)) (jr_of rfl (by omega)) (jr_of rfl (by omega)) hD J rfl  (fun v176 h J S173 X174 X175 => ?_))
                              have ev176 := jfull v176
                              have Sm := jSm_tr rfl Sm S173
                              try rw [X174] at D
                              try rw [← X175] at D
                              show jX m_X11_order 26 0 0 133 [(6, .int v161), (5, .int v156), (4, .int v152), (0, .ref 31), (1, .int a1), (2, .int a2), (3, .int a3)] [.int v176] _ 0 0 _
                              refine x_iret rfl rfl ?_
                              exact hQ _ _ J Sm ((congrArg Prod.fst D).symm.trans (show v176.toInt = v176.toInt from by omega)) (congrArg Prod.snd D).symm
                            ·
                              rw [if_pos (by omega)] at D
                              refine x_iconst (v := 1) rfl ki_1 ?_
                              refine x_iret rfl rfl ?_
                              exact hQ _ _ J Sm ((congrArg Prod.fst D).symm.trans (show 1 = (1 : Int32).toInt from by have := jk_1; omega)) (congrArg Prod.snd D).symm
                          ·
                            rw [if_pos (by omega)] at D
                            exact jX.sub jsb_n (ct_X11_order_r31d_90 hD hQ  h J Sm D)
                      ·
                        rw [if_pos (by omega)] at D
                        refine x_iload (x := v156) rfl rfl ?_
                        refine x_ifeq (tgt := 69) rfl rfl (ti_eq rfl jk_0 ⟨fun c177 => ?_, fun c177 => ?_⟩)
                        ·
                          rw [if_pos (by omega)] at D
                          refine x_iconst (v := 0) rfl ki_0 ?_
                          exact jX.sub jsb_n (ct_X11_order_r31d_200070 hD hQ  h J Sm D)
                        ·
                          rw [if_neg (by omega)] at D
                          refine x_iconst (v := 1) rfl ki_1 ?_
                          refine x_goto (tgt := 70) rfl rfl ?_
                          exact jX.sub jsb_n (ct_X11_order_r31d_300070 hD hQ  h J Sm D)
          ·
            rw [if_neg (by omega)] at D
            exact jX.sub jsb_n (ct_X11_order_r31d_34 hD hQ  h J Sm D)
def fp_X4_owedByAll_r107d : jFp := []
set_option maxRecDepth 100000 in
set_option maxHeartbeats 4000000 in
theorem ct_X4_owedByAll_r107d_4 {Dy : jH → Prop} {h0 : jH} {Q : Option Value → jH → Prop} {dr : Int} (hD : jDk Dy) (hQ : ∀ (v : Int32) hx9, jJ jSgX Dy hx9 → jSm fp_X4_owedByAll_r107d h0 hx9 → dr = v.toInt → vw hx9 = vw h0 → Q (some (.int v)) hx9) : ∀ r : Nat, ∀ (l1 : Int32) (l2 : Int32) (h : jH), 40 - l2.toInt < (r : Int) → 0 ≤ l2.toInt ∧ l2.toInt ≤ 40 → jJ jSgX Dy h → jSm fp_X4_owedByAll_r107d h0 h → d_X4_owedByAll_r107d_4 r l1.toInt l2.toInt (vw h) = dr → vw h = vw h0 → jX m_X4_owedByAll 2 0 0 4 [(0, .ref 107), (1, .int l1), (2, .int l2)] [] h 0 0 Q := by
  intro r
  induction r with
  | zero =>
    intro l1 l2 h hm y0   J Sm D EV
    exfalso
    have el1 := jfull l1
    omega
  | succ r ih =>
    intro l1 l2 h hm y0   J Sm D EV
    have el1 := jfull l1
    rw [d_X4_owedByAll_r107d_4.eq_2] at D
    refine x_iloadn (x := l2) rfl rfl ?_
    refine x_aloadn (x := 107) rfl rfl ?_
    refine x_inv (N := m_X4_houses) (As := []) (b := 107) (st := [.int l2]) (dx9 := 1) (mc := 0) (ms := 0) (host := "") 4 rfl t_X4_houses ⟨Or.inl q_4_107, i_X4_houses.1, i_X4_houses.2⟩ ⟨by decide, rfl⟩ (congrArg Prod.fst (J.1.1 107 (4, 18) rfl)) rfl (by decide) rfl rfl ⟨by decide, by decide⟩ (jC.of rfl k_X4_houses rfl ?_)
    show jX m_X4_houses 1 0 0 0 [(0, .ref 107)] [] _ 0 0 _
    refine x_bipush (v := 40) rfl kb_40 ?_
    refine x_aloadn (x := 107) rfl rfl ?_
    refine z_getR (N := 18) (b := 32) 4 0 rfl f_4_59 rfl J rfl 13696 ⟨rfl, rfl⟩ rfl ?_
    refine z_getR (N := 20) (b := 49) 1 8 rfl f_4_71 rfl J rfl 4104 ⟨rfl, rfl⟩ rfl ?_
    refine z_getI (N := 4) 8 3 rfl f_4_77 rfl J rfl sg_49_3_4_1_0_1 (fun v1 qv1 ev1 => ?_)
    try rw [vrf qv1] at D
    refine z_mmin rfl q_4_82 (by decide) rfl jk_40 rfl (fun v2 ev2 => ?_)
    refine x_iret rfl rfl ?_
    show jX m_X4_owedByAll 2 0 0 9 [(0, .ref 107), (1, .int l1), (2, .int l2)] [.int v2, .int l2] _ 0 0 _
    refine x_icge (tgt := 27) rfl rfl (ti_ge rfl rfl ⟨fun c3 => ?_, fun c3 => ?_⟩)
    ·
      rw [if_pos (by omega)] at D
      refine x_iloadn (x := l1) rfl rfl ?_
      refine x_iret rfl rfl ?_
      exact hQ _ _ J Sm (D.symm.trans (show l1.toInt = l1.toInt from by omega)) EV
    ·
      rw [if_neg (by omega)] at D
      refine x_iloadn (x := l1) rfl rfl ?_
      refine x_aloadn (x := 107) rfl rfl ?_
      refine z_getR (N := 18) (b := 108) 4 3 rfl f_4_9 rfl J rfl 13699 ⟨rfl, rfl⟩ rfl ?_
      refine x_iloadn (x := l2) rfl rfl ?_
      refine z_iald0 (N := 40) rfl J rfl rfl (by omega) (fun v4 qv4 => ?_)
      have ev4 := jfull v4
      try rw [vrd qv4 (show l2.toInt = l2.toInt from by omega)] at D
      refine z_iaddW rfl rfl rfl (fun v5 ev5 => ?_)
      have fv5 := jfull v5
      try rw [← ev5] at D
      refine x_istoren (lsx9 := [(1, .int v5), (0, .ref 107), (2, .int l2)]) rfl rfl rfl ?_
      refine z_iinc (x := l2) (lsx9 := fun v6 => [(2, .int v6), (1, .int v5), (0, .ref 107)]) rfl rfl rfl jko_1 (by omega) rfl (fun _ => rfl) (fun v6 ev6 => ?_)
      refine x_goto (tgt := 4) rfl rfl ?_
      try rw [show (l2.toInt + 1) = v6.toInt from by omega] at D
      exact jX.sub (jsb_c rfl (jsb_c rfl (jsb_c rfl jsb_n))) (ih v5 v6 h (by omega) (jr_of rfl (by omega)) J Sm D EV)
set_option maxRecDepth 100000 in
set_option maxHeartbeats 4000000 in
theorem sf_X4_owedByAll_r107d {Dy : jH → Prop} {h : jH} {Q : Option Value → jH → Prop} {dr : Int} (hD : jDk Dy) (J : jJ jSgX Dy h) (D : d_X4_owedByAll_r107d (vw h) = dr) (hQ : ∀ (v : Int32) hx9, jJ jSgX Dy hx9 → jSm fp_X4_owedByAll_r107d h hx9 → dr = v.toInt → vw hx9 = vw h → Q (some (.int v)) hx9) : jC m_X4_owedByAll 2 0 0 [.ref 107] h Q := by
  refine jC.of rfl k_X4_owedByAll rfl ?_
  have Sm := jSm_rf fp_X4_owedByAll_r107d h
  show jX m_X4_owedByAll 2 0 0 0 [(0, .ref 107)] [] _ 0 0 _
  unfold d_X4_owedByAll_r107d at D
  have EV : vw h = vw h := rfl
  refine x_iconst (v := 0) rfl ki_0 ?_
  refine x_istoren (lsx9 := [(1, .int 0), (0, .ref 107)]) rfl rfl rfl ?_
  refine x_iconst (v := 0) rfl ki_0 ?_
  refine x_istoren (lsx9 := [(2, .int 0), (1, .int 0), (0, .ref 107)]) rfl rfl rfl ?_
  exact jX.sub (jsb_c rfl (jsb_c rfl (jsb_c rfl jsb_n))) (ct_X4_owedByAll_r107d_4 hD hQ  41 0 0 h (by have := jk_0; omega) (jr_of jk_0 (by omega)) J Sm (by rw [jk_0]; exact D) EV)
def fp_X11_owe_r31d : jFp := [(78, 13, 14), (82, 0, 600), (83, 0, 600), (84, 0, 200), (85, 0, 4), (86, 0, 3), (98, 10, 11), (98, 11, 12), (98, 12, 13), (98, 13, 14), (98, 14, 15), (98, 15, 16), (99, 0, 30), (100, 0, 30), (101, 0, 3), (102, 0, 40), (103, 0, 40), (104, 0, 40), (105, 0, 3), (106, 0, 100), (108, 0, 40), (109, 0, 40), (110, 0, 40), (111, 0, 3)]
set_option maxRecDepth 100000 in
set_option maxHeartbeats 4000000 in
theorem ct_X11_owe_r31d_35 {Dy : jH → Prop} {h0 : jH} {Q : Option Value → jH → Prop} {dr : (Int × jW)} (hD : jDk Dy) (hQ : ∀ (v : Int32) hx9, jJ jSgX Dy hx9 → jSm fp_X11_owe_r31d h0 hx9 → dr.1 = v.toInt → dr.2 = vw hx9 → Q (some (.int v)) hx9) : ∀ (h : jH), jJ jSgX Dy h → jSm fp_X11_owe_r31d h0 h → d_X11_owe_r31d_35  (vw h) = dr → jX m_X11_owe 8 0 0 35 [] [] h 0 0 Q := by
  intro  h    J Sm D
  unfold d_X11_owe_r31d_35 at D
  refine x_iconst (v := (-1)) rfl ki_m1 ?_
  refine x_iret rfl rfl ?_
  exact hQ _ _ J Sm ((congrArg Prod.fst D).symm.trans (show (-1) = ((-1) : Int32).toInt from by have := jk_m1; omega)) (congrArg Prod.snd D).symm
set_option maxRecDepth 100000 in
set_option maxHeartbeats 4000000 in
theorem ct_X11_owe_r31d_78 {Dy : jH → Prop} {h0 : jH} {Q : Option Value → jH → Prop} {dr : (Int × jW)} (hD : jDk Dy) (hQ : ∀ (v : Int32) hx9, jJ jSgX Dy hx9 → jSm fp_X11_owe_r31d h0 hx9 → dr.1 = v.toInt → dr.2 = vw hx9 → Q (some (.int v)) hx9) : ∀ (s0 : Int32) (h : jH), jJ jSgX Dy h → jSm fp_X11_owe_r31d h0 h → d_X11_owe_r31d_78  s0.toInt (vw h) = dr → jX m_X11_owe 8 0 0 78 [] [.int s0] h 0 0 Q := by
  intro s0 h    J Sm D
  have es0 := jfull s0
  unfold d_X11_owe_r31d_78 at D
  refine x_iret rfl rfl ?_
  exact hQ _ _ J Sm ((congrArg Prod.fst D).symm.trans (show s0.toInt = s0.toInt from by omega)) (congrArg Prod.snd D).symm
set_option maxRecDepth 100000 in
set_option maxHeartbeats 4000000 in
theorem ct_X11_owe_r31d_37 {Dy : jH → Prop} {h0 : jH} {Q : Option Value → jH → Prop} {dr : (Int × jW)} (hD : jDk Dy) (hQ : ∀ (v : Int32) hx9, jJ jSgX Dy hx9 → jSm fp_X11_owe_r31d h0 hx9 → dr.1 = v.toInt → dr.2 = vw hx9 → Q (some (.int v)) hx9) : ∀ (l1 : Int32) (l2 : Int32) (l3 : Int32) (h : jH), (-1) ≤ l2.toInt ∧ l2.toInt ≤ 39 → 0 ≤ l3.toInt ∧ l3.toInt ≤ 146399 → jJ jSgX Dy h → jSm fp_X11_owe_r31d h0 h → d_X11_owe_r31d_37  l1.toInt l2.toInt l3.toInt (vw h) = dr → jX m_X11_owe 8 0 0 37 [(0, .ref 31), (1, .int l1), (2, .int l2), (3, .int l3)] [] h 0 0 Q := by
  intro l1 l2 l3 h y0 y1   J Sm D
  have el1 := jfull l1
  unfold d_X11_owe_r31d_37 at D
  refine x_aloadn (x := 31) rfl rfl ?_
  refine z_getR (N := 13) (b := 78) 11 4 rfl f_11_41 rfl J rfl 3972 ⟨rfl, rfl⟩ rfl ?_
  refine x_iloadn (x := l3) rfl rfl ?_
  refine x_inv (N := m_X7_asKnown) (As := [.int l3]) (b := 78) (st := []) (dx9 := 6) (mc := 0) (ms := 0) (host := "") 7 rfl t_X7_asKnown ⟨Or.inl q_11_240, i_X7_asKnown.1, i_X7_asKnown.2⟩ ⟨by decide, rfl⟩ (congrArg Prod.fst (J.1.1 78 (7, 16) rfl)) rfl (by decide) rfl rfl ⟨by decide, by decide⟩ (sf_X7_asKnown_r78d (jr_of rfl (by omega)) hD J rfl  (fun h J S1 X2 => ?_))
  have Sm := jSm_tr rfl Sm S1
  rw [X2] at D
  show jX m_X11_owe 8 0 0 45 [(0, .ref 31), (1, .int l1), (2, .int l2), (3, .int l3)] [] _ 0 0 _
  refine x_aloadn (x := 31) rfl rfl ?_
  refine z_getR (N := 13) (b := 107) 11 8 rfl f_11_75 rfl J rfl 3976 ⟨rfl, rfl⟩ rfl ?_
  refine x_iloadn (x := l1) rfl rfl ?_
  refine x_iloadn (x := l3) rfl rfl ?_
  refine x_inv (N := m_X4_partOut) (As := [.int l1, .int l3]) (b := 107) (st := []) (dx9 := 7) (mc := 0) (ms := 0) (host := "") 4 rfl t_X4_partOut ⟨Or.inl q_11_443, i_X4_partOut.1, i_X4_partOut.2⟩ ⟨by decide, rfl⟩ (congrArg Prod.fst (J.1.1 107 (4, 18) rfl)) rfl (by decide) rfl rfl ⟨by decide, by decide⟩ (sf_X4_partOut_r107d (jr_of rfl (by omega)) hD J rfl  (fun h J S3 X4 => ?_))
  have Sm := jSm_tr rfl Sm S3
  rw [X4] at D
  show jX m_X11_owe 8 0 0 54 [(0, .ref 31), (1, .int l1), (2, .int l2), (3, .int l3)] [] _ 0 0 _
  refine x_iloadn (x := l2) rfl rfl ?_
  refine x_iconst (v := (-1)) rfl ki_m1 ?_
  refine x_icne (tgt := 69) rfl rfl (ti_ne rfl jk_m1 ⟨fun c5 => ?_, fun c5 => ?_⟩)
  ·
    rw [if_neg (by omega)] at D
    refine x_aloadn (x := 31) rfl rfl ?_
    refine z_getR (N := 13) (b := 107) 11 8 rfl f_11_75 rfl J rfl 3976 ⟨rfl, rfl⟩ rfl ?_
    refine z_getR (N := 18) (b := 108) 4 3 rfl f_11_449 rfl J rfl 13699 ⟨rfl, rfl⟩ rfl ?_
    refine x_iloadn (x := l2) rfl rfl ?_
    refine z_iald0 (N := 40) rfl J rfl rfl (by omega) (fun v6 qv6 => ?_)
    have ev6 := jfull v6
    try rw [vrd qv6 (show l2.toInt = l2.toInt from by omega)] at D
    exact jX.sub jsb_n (ct_X11_owe_r31d_78 hD hQ  v6 h J Sm D)
  ·
    rw [if_pos (by omega)] at D
    refine x_aloadn (x := 31) rfl rfl ?_
    refine z_getR (N := 13) (b := 107) 11 8 rfl f_11_75 rfl J rfl 3976 ⟨rfl, rfl⟩ rfl ?_
    refine x_inv (N := m_X4_owedByAll) (As := []) (b := 107) (st := []) (dx9 := 2) (mc := 0) (ms := 0) (host := "") 4 rfl t_X4_owedByAll ⟨Or.inl q_11_446, i_X4_owedByAll.1, i_X4_owedByAll.2⟩ ⟨by decide, rfl⟩ (congrArg Prod.fst (J.1.1 107 (4, 18) rfl)) rfl (by decide) rfl rfl ⟨by decide, by decide⟩ (sf_X4_owedByAll_r107d  hD J rfl  (fun v10 h J S7 X8 X9 => ?_))
    have ev10 := jfull v10
    have Sm := jSm_tr rfl Sm S7
    try rw [X8] at D
    try rw [← X9] at D
    show jX m_X11_owe 8 0 0 66 [(0, .ref 31), (1, .int l1), (2, .int l2), (3, .int l3)] [.int v10] _ 0 0 _
    refine x_goto (tgt := 78) rfl rfl ?_
    exact jX.sub jsb_n (ct_X11_owe_r31d_78 hD hQ  v10 h J Sm D)
set_option maxRecDepth 100000 in
set_option maxHeartbeats 4000000 in
theorem sf_X11_owe_r31d {Dy : jH → Prop} {h : jH} {Q : Option Value → jH → Prop} {dr : (Int × jW)} {a1 : Int32} {a2 : Int32} {a3 : Int32} (hD : jDk Dy) (J : jJ jSgX Dy h) (D : d_X11_owe_r31d a1.toInt a2.toInt a3.toInt (vw h) = dr) (hQ : ∀ (v : Int32) hx9, jJ jSgX Dy hx9 → jSm fp_X11_owe_r31d h hx9 → dr.1 = v.toInt → dr.2 = vw hx9 → Q (some (.int v)) hx9) : jC m_X11_owe 8 0 0 [.ref 31, .int a1, .int a2, .int a3] h Q := by
  refine jC.of rfl k_X11_owe rfl ?_
  have Sm := jSm_rf fp_X11_owe_r31d h
  have ea1 := jfull a1
  have ea2 := jfull a2
  have ea3 := jfull a3
  show jX m_X11_owe 8 0 0 0 [(0, .ref 31), (1, .int a1), (2, .int a2), (3, .int a3)] [] _ 0 0 _
  unfold d_X11_owe_r31d at D
  refine x_iloadn (x := a3) rfl rfl ?_
  refine x_inst (N := m_X11_isDay) (As := [.int a3]) (st := []) (dx9 := 1) (mc := 0) (ms := 0) (host := "") rfl t_X11_isDay ⟨Or.inl q_11_115, s_X11_isDay⟩ rfl (by decide) rfl rfl ⟨by decide, by decide⟩ (zc_X11_isDay rfl (fun v1 ev1 => ?_))
  show jX m_X11_owe 8 0 0 4 [(0, .ref 31), (1, .int a1), (2, .int a2), (3, .int a3)] [.int v1] _ 0 0 _
  refine x_ifeq (tgt := 35) rfl rfl (ti_eq rfl jk_0 ⟨fun c2 => ?_, fun c2 => ?_⟩)
  ·
    rw [if_neg (by omega)] at D
    exact jX.sub jsb_n (ct_X11_owe_r31d_35 hD hQ  h J Sm D)
  ·
    rw [if_pos (by omega)] at D
    refine x_aloadn (x := 31) rfl rfl ?_
    refine z_getR (N := 13) (b := 32) 11 0 rfl f_11_10 rfl J rfl 3968 ⟨rfl, rfl⟩ rfl ?_
    refine z_getR (N := 20) (b := 53) 1 10 rfl f_11_437 rfl J rfl 4106 ⟨rfl, rfl⟩ rfl ?_
    refine x_iloadn (x := a1) rfl rfl ?_
    refine x_iloadn (x := a3) rfl rfl ?_
    refine x_inv (N := m_X8_isKnown) (As := [.int a1, .int a3]) (b := 53) (st := []) (dx9 := 1) (mc := 0) (ms := 0) (host := "") 8 rfl t_X8_isKnown ⟨Or.inl q_11_440, i_X8_isKnown.1, i_X8_isKnown.2⟩ ⟨by decide, rfl⟩ (congrArg Prod.fst (J.1.1 53 (8, 4) rfl)) rfl (by decide) rfl rfl ⟨by decide, by decide⟩ (sf_X8_isKnown_r53d (jr_of rfl (by omega)) hD J rfl  (fun v6 h ev6 J S3 X4 X5 => ?_))
    have Sm := jSm_tr rfl Sm S3
    try rw [X4] at D
    try rw [← X5] at D
    show jX m_X11_owe 8 0 0 19 [(0, .ref 31), (1, .int a1), (2, .int a2), (3, .int a3)] [.int v6] _ 0 0 _
    refine x_ifeq (tgt := 35) rfl rfl (ti_eq rfl jk_0 ⟨fun c7 => ?_, fun c7 => ?_⟩)
    ·
      rw [if_pos (by omega)] at D
      exact jX.sub jsb_n (ct_X11_owe_r31d_35 hD hQ  h J Sm D)
    ·
      rw [if_neg (by omega)] at D
      refine x_iloadn (x := a2) rfl rfl ?_
      refine x_iconst (v := (-1)) rfl ki_m1 ?_
      refine x_iceq (tgt := 37) rfl rfl (ti_eq rfl jk_m1 ⟨fun c8 => ?_, fun c8 => ?_⟩)
      ·
        rw [if_pos (by omega)] at D
        exact jX.sub (jsb_c rfl (jsb_c rfl (jsb_c rfl (jsb_c rfl jsb_n)))) (ct_X11_owe_r31d_37 hD hQ  a1 a2 a3 h (jr_of rfl (by omega)) (jr_of rfl (by omega)) J Sm D)
      ·
        rw [if_neg (by omega)] at D
        refine x_aloadn (x := 31) rfl rfl ?_
        refine x_iloadn (x := a2) rfl rfl ?_
        refine x_inv (N := m_X11_isHolding) (As := [.int a2]) (b := 31) (st := []) (dx9 := 7) (mc := 0) (ms := 0) (host := "") 11 rfl t_X11_isHolding ⟨Or.inl q_11_415, i_X11_isHolding.1, i_X11_isHolding.2⟩ ⟨by decide, rfl⟩ (congrArg Prod.fst (J.1.1 31 (11, 13) rfl)) rfl (by decide) rfl rfl ⟨by decide, by decide⟩ (jC.of rfl k_X11_isHolding rfl ?_)
        show jX m_X11_isHolding 7 0 0 0 [(0, .ref 31), (1, .int a2)] [] _ 0 0 _
        refine x_iloadn (x := a2) rfl rfl ?_
        refine x_iflt (tgt := 28) rfl rfl (ti_lt rfl jk_0 ⟨fun c9 => ?_, fun c9 => ?_⟩)
        ·
          rw [if_pos (by omega)] at D
          refine x_iconst (v := 0) rfl ki_0 ?_
          refine x_zret rfl rfl (by decide) ?_
          show jX m_X11_owe 8 0 0 32 [(0, .ref 31), (1, .int a1), (2, .int a2), (3, .int a3)] [.int 0] _ 0 0 _
          refine x_ifne (tgt := 37) rfl rfl (ti_ne jk_0 jk_0 (bn_f (by omega) ?_))
          exact jX.sub jsb_n (ct_X11_owe_r31d_35 hD hQ  h J Sm D)
        ·
          rw [if_neg (by omega)] at D
          refine x_iloadn (x := a2) rfl rfl ?_
          refine x_aloadn (x := 31) rfl rfl ?_
          refine z_getR (N := 13) (b := 32) 11 0 rfl f_11_10 rfl J rfl 3968 ⟨rfl, rfl⟩ rfl ?_
          refine z_getR (N := 20) (b := 49) 1 8 rfl f_11_408 rfl J rfl 4104 ⟨rfl, rfl⟩ rfl ?_
          refine z_getI (N := 4) 8 3 rfl f_11_142 rfl J rfl sg_49_3_4_1_0_1 (fun v10 qv10 ev10 => ?_)
          try rw [vrf qv10] at D
          refine x_icge (tgt := 28) rfl rfl (ti_ge rfl rfl ⟨fun c11 => ?_, fun c11 => ?_⟩)
          ·
            rw [if_pos (by omega)] at D
            refine x_iconst (v := 0) rfl ki_0 ?_
            refine x_zret rfl rfl (by decide) ?_
            show jX m_X11_owe 8 0 0 32 [(0, .ref 31), (1, .int a1), (2, .int a2), (3, .int a3)] [.int 0] _ 0 0 _
            refine x_ifne (tgt := 37) rfl rfl (ti_ne jk_0 jk_0 (bn_f (by omega) ?_))
            exact jX.sub jsb_n (ct_X11_owe_r31d_35 hD hQ  h J Sm D)
          ·
            rw [if_neg (by omega)] at D
            refine x_iloadn (x := a2) rfl rfl ?_
            refine x_bipush (v := 40) rfl kb_40 ?_
            refine x_icge (tgt := 28) rfl rfl (ti_ge rfl jk_40 (br_f (by omega) ?_))
            refine x_iconst (v := 1) rfl ki_1 ?_
            refine x_goto (tgt := 29) rfl rfl ?_
            refine x_zret rfl rfl (by decide) ?_
            show jX m_X11_owe 8 0 0 32 [(0, .ref 31), (1, .int a1), (2, .int a2), (3, .int a3)] [.int 1] _ 0 0 _
            refine x_ifne (tgt := 37) rfl rfl (ti_ne jk_1 jk_0 (bn_t (by omega) ?_))
            exact jX.sub (jsb_c rfl (jsb_c rfl (jsb_c rfl (jsb_c rfl jsb_n)))) (ct_X11_owe_r31d_37 hD hQ  a1 a2 a3 h (jr_of rfl (by omega)) (jr_of rfl (by omega)) J Sm D)
def fp_X8_put_r55_c0d : jFp := [(56, 0, 500)]
set_option maxRecDepth 100000 in
set_option maxHeartbeats 4000000 in
theorem ct_X8_put_r55_c0d_38 {Dy : jH → Prop} {h0 : jH} {Q : Option Value → jH → Prop} {dr : jW} (hD : jDk Dy) (hQ : ∀ hx9, jJ jSgX Dy hx9 → jSm fp_X8_put_r55_c0d h0 hx9 → dr = vw hx9 → Q none hx9) : ∀ (h : jH), jJ jSgX Dy h → jSm fp_X8_put_r55_c0d h0 h → d_X8_put_r55_c0d_38  (vw h) = dr → jX m_X8_put 1 0 0 38 [] [] h 0 0 Q := by
  intro  h    J Sm D
  unfold d_X8_put_r55_c0d_38 at D
  refine x_vret rfl rfl ?_
  exact hQ _ J Sm D.symm
set_option maxRecDepth 100000 in
set_option maxHeartbeats 4000000 in
theorem sf_X8_put_r55_c0d {Dy : jH → Prop} {h : jH} {Q : Option Value → jH → Prop} {dr : jW} {a1 : Int32} {a3 : Int32} (y1 : 0 ≤ a1.toInt ∧ a1.toInt ≤ 99) (y3 : 0 ≤ a3.toInt ∧ a3.toInt ≤ 146399) (hD : jDk Dy) (J : jJ jSgX Dy h) (D : d_X8_put_r55_c0d a1.toInt a3.toInt (vw h) = dr) (hQ : ∀ hx9, jJ jSgX Dy hx9 → jSm fp_X8_put_r55_c0d h hx9 → dr = vw hx9 → Q none hx9) : jC m_X8_put 1 0 0 [.ref 55, .int a1, .int 0, .int a3] h Q := by
  refine jC.of rfl k_X8_put rfl ?_
  have Sm := jSm_rf fp_X8_put_r55_c0d h
  show jX m_X8_put 1 0 0 0 [(0, .ref 55), (1, .int a1), (2, .int 0), (3, .int a3)] [] _ 0 0 _
  unfold d_X8_put_r55_c0d at D
  refine x_iloadn (x := a1) rfl rfl ?_
  refine x_iflt (tgt := 38) rfl rfl (ti_lt rfl jk_0 (br_f (by omega) ?_))
  refine x_iloadn (x := a1) rfl rfl ?_
  refine x_aloadn (x := 55) rfl rfl ?_
  refine z_getI (N := 4) 8 3 rfl f_8_7 rfl J rfl sg_55_3_4_1_0_1 (fun v1 qv1 ev1 => ?_)
  try rw [vrf qv1] at D
  refine x_icge (tgt := 38) rfl rfl (ti_ge rfl rfl ⟨fun c2 => ?_, fun c2 => ?_⟩)
  ·
    rw [if_pos (by omega)] at D
    exact jX.sub jsb_n (ct_X8_put_r55_c0d_38 hD hQ  h J Sm D)
  ·
    rw [if_neg (by omega)] at D
    refine x_iloadn (x := 0) rfl rfl ?_
    refine x_iflt (tgt := 38) rfl rfl (ti_lt jk_0 jk_0 (br_f (by omega) ?_))
    refine x_iloadn (x := 0) rfl rfl ?_
    refine x_aloadn (x := 55) rfl rfl ?_
    refine z_getC (N := 4) (v := 5) 8 0 rfl f_8_19 rfl J rfl sg_55_0_1_1_0_1 jk_5 ?_
    refine x_icge (tgt := 38) rfl rfl (ti_ge jk_0 jk_5 (br_f (by omega) ?_))
    refine x_aloadn (x := 55) rfl rfl ?_
    refine z_getR (N := 4) (b := 56) 8 2 rfl f_8_25 rfl J rfl 7042 ⟨rfl, rfl⟩ rfl ?_
    refine x_iloadn (x := a1) rfl rfl ?_
    refine x_aloadn (x := 55) rfl rfl ?_
    refine z_getC (N := 4) (v := 5) 8 0 rfl f_8_19 rfl J rfl sg_55_0_1_1_0_1 jk_5 ?_
    refine z_imul rfl rfl jk_5 (by omega) (fun v3 ev3 => ?_)
    refine x_iloadn (x := 0) rfl rfl ?_
    refine z_iadd rfl rfl jk_0 (by omega) (fun v4 ev4 => ?_)
    refine x_iloadn (x := a3) rfl rfl ?_
    refine z_iast (N := 500) (l := 0) (u := 500) (w := a3.toInt) rfl hD J Sm rfl rfl rfl (by omega) rfl (wr_56 (fun q1 q2 q3 q4 => by omega) (fun q1 q2 q3 q4 => by omega) (fun q1 q2 q3 q4 => by omega) (fun q1 q2 q3 q4 => by omega) (fun q1 q2 q3 q4 => by omega)) rfl (fun h w5 J Sm => ?_)
    rw [vww w5 (show ((a1.toInt * 5) + 0) = v4.toInt from by omega) (show a3.toInt = a3.toInt from by omega)] at D
    exact jX.sub jsb_n (ct_X8_put_r55_c0d_38 hD hQ  h J Sm D)
def fp_X8_put_r55_c1d : jFp := [(56, 0, 500)]
set_option maxRecDepth 100000 in
set_option maxHeartbeats 4000000 in
theorem ct_X8_put_r55_c1d_38 {Dy : jH → Prop} {h0 : jH} {Q : Option Value → jH → Prop} {dr : jW} (hD : jDk Dy) (hQ : ∀ hx9, jJ jSgX Dy hx9 → jSm fp_X8_put_r55_c1d h0 hx9 → dr = vw hx9 → Q none hx9) : ∀ (h : jH), jJ jSgX Dy h → jSm fp_X8_put_r55_c1d h0 h → d_X8_put_r55_c1d_38  (vw h) = dr → jX m_X8_put 1 0 0 38 [] [] h 0 0 Q := by
  intro  h    J Sm D
  unfold d_X8_put_r55_c1d_38 at D
  refine x_vret rfl rfl ?_
  exact hQ _ J Sm D.symm
set_option maxRecDepth 100000 in
set_option maxHeartbeats 4000000 in
theorem sf_X8_put_r55_c1d {Dy : jH → Prop} {h : jH} {Q : Option Value → jH → Prop} {dr : jW} {a1 : Int32} {a3 : Int32} (y1 : 0 ≤ a1.toInt ∧ a1.toInt ≤ 99) (y3 : 0 ≤ a3.toInt ∧ a3.toInt ≤ 146399) (hD : jDk Dy) (J : jJ jSgX Dy h) (D : d_X8_put_r55_c1d a1.toInt a3.toInt (vw h) = dr) (hQ : ∀ hx9, jJ jSgX Dy hx9 → jSm fp_X8_put_r55_c1d h hx9 → dr = vw hx9 → Q none hx9) : jC m_X8_put 1 0 0 [.ref 55, .int a1, .int 1, .int a3] h Q := by
  refine jC.of rfl k_X8_put rfl ?_
  have Sm := jSm_rf fp_X8_put_r55_c1d h
  show jX m_X8_put 1 0 0 0 [(0, .ref 55), (1, .int a1), (2, .int 1), (3, .int a3)] [] _ 0 0 _
  unfold d_X8_put_r55_c1d at D
  refine x_iloadn (x := a1) rfl rfl ?_
  refine x_iflt (tgt := 38) rfl rfl (ti_lt rfl jk_0 (br_f (by omega) ?_))
  refine x_iloadn (x := a1) rfl rfl ?_
  refine x_aloadn (x := 55) rfl rfl ?_
  refine z_getI (N := 4) 8 3 rfl f_8_7 rfl J rfl sg_55_3_4_1_0_1 (fun v1 qv1 ev1 => ?_)
  try rw [vrf qv1] at D
  refine x_icge (tgt := 38) rfl rfl (ti_ge rfl rfl ⟨fun c2 => ?_, fun c2 => ?_⟩)
  ·
    rw [if_pos (by omega)] at D
    exact jX.sub jsb_n (ct_X8_put_r55_c1d_38 hD hQ  h J Sm D)
  ·
    rw [if_neg (by omega)] at D
    refine x_iloadn (x := 1) rfl rfl ?_
    refine x_iflt (tgt := 38) rfl rfl (ti_lt jk_1 jk_0 (br_f (by omega) ?_))
    refine x_iloadn (x := 1) rfl rfl ?_
    refine x_aloadn (x := 55) rfl rfl ?_
    refine z_getC (N := 4) (v := 5) 8 0 rfl f_8_19 rfl J rfl sg_55_0_1_1_0_1 jk_5 ?_
    refine x_icge (tgt := 38) rfl rfl (ti_ge jk_1 jk_5 (br_f (by omega) ?_))
    refine x_aloadn (x := 55) rfl rfl ?_
    refine z_getR (N := 4) (b := 56) 8 2 rfl f_8_25 rfl J rfl 7042 ⟨rfl, rfl⟩ rfl ?_
    refine x_iloadn (x := a1) rfl rfl ?_
    refine x_aloadn (x := 55) rfl rfl ?_
    refine z_getC (N := 4) (v := 5) 8 0 rfl f_8_19 rfl J rfl sg_55_0_1_1_0_1 jk_5 ?_
    refine z_imul rfl rfl jk_5 (by omega) (fun v3 ev3 => ?_)
    refine x_iloadn (x := 1) rfl rfl ?_
    refine z_iadd rfl rfl jk_1 (by omega) (fun v4 ev4 => ?_)
    refine x_iloadn (x := a3) rfl rfl ?_
    refine z_iast (N := 500) (l := 0) (u := 500) (w := a3.toInt) rfl hD J Sm rfl rfl rfl (by omega) rfl (wr_56 (fun q1 q2 q3 q4 => by omega) (fun q1 q2 q3 q4 => by omega) (fun q1 q2 q3 q4 => by omega) (fun q1 q2 q3 q4 => by omega) (fun q1 q2 q3 q4 => by omega)) rfl (fun h w5 J Sm => ?_)
    rw [vww w5 (show ((a1.toInt * 5) + 1) = v4.toInt from by omega) (show a3.toInt = a3.toInt from by omega)] at D
    exact jX.sub jsb_n (ct_X8_put_r55_c1d_38 hD hQ  h J Sm D)
def fp_X8_put_r55_c2d : jFp := [(56, 0, 500)]
set_option maxRecDepth 100000 in
set_option maxHeartbeats 4000000 in
theorem ct_X8_put_r55_c2d_38 {Dy : jH → Prop} {h0 : jH} {Q : Option Value → jH → Prop} {dr : jW} (hD : jDk Dy) (hQ : ∀ hx9, jJ jSgX Dy hx9 → jSm fp_X8_put_r55_c2d h0 hx9 → dr = vw hx9 → Q none hx9) : ∀ (h : jH), jJ jSgX Dy h → jSm fp_X8_put_r55_c2d h0 h → d_X8_put_r55_c2d_38  (vw h) = dr → jX m_X8_put 1 0 0 38 [] [] h 0 0 Q := by
  intro  h    J Sm D
  unfold d_X8_put_r55_c2d_38 at D
  refine x_vret rfl rfl ?_
  exact hQ _ J Sm D.symm
set_option maxRecDepth 100000 in
set_option maxHeartbeats 4000000 in
theorem sf_X8_put_r55_c2d {Dy : jH → Prop} {h : jH} {Q : Option Value → jH → Prop} {dr : jW} {a1 : Int32} {a3 : Int32} (y1 : 0 ≤ a1.toInt ∧ a1.toInt ≤ 99) (y3 : 0 ≤ a3.toInt ∧ a3.toInt ≤ 39) (hD : jDk Dy) (J : jJ jSgX Dy h) (D : d_X8_put_r55_c2d a1.toInt a3.toInt (vw h) = dr) (hQ : ∀ hx9, jJ jSgX Dy hx9 → jSm fp_X8_put_r55_c2d h hx9 → dr = vw hx9 → Q none hx9) : jC m_X8_put 1 0 0 [.ref 55, .int a1, .int 2, .int a3] h Q := by
  refine jC.of rfl k_X8_put rfl ?_
  have Sm := jSm_rf fp_X8_put_r55_c2d h
  show jX m_X8_put 1 0 0 0 [(0, .ref 55), (1, .int a1), (2, .int 2), (3, .int a3)] [] _ 0 0 _
  unfold d_X8_put_r55_c2d at D
  refine x_iloadn (x := a1) rfl rfl ?_
  refine x_iflt (tgt := 38) rfl rfl (ti_lt rfl jk_0 (br_f (by omega) ?_))
  refine x_iloadn (x := a1) rfl rfl ?_
  refine x_aloadn (x := 55) rfl rfl ?_
  refine z_getI (N := 4) 8 3 rfl f_8_7 rfl J rfl sg_55_3_4_1_0_1 (fun v1 qv1 ev1 => ?_)
  try rw [vrf qv1] at D
  refine x_icge (tgt := 38) rfl rfl (ti_ge rfl rfl ⟨fun c2 => ?_, fun c2 => ?_⟩)
  ·
    rw [if_pos (by omega)] at D
    exact jX.sub jsb_n (ct_X8_put_r55_c2d_38 hD hQ  h J Sm D)
  ·
    rw [if_neg (by omega)] at D
    refine x_iloadn (x := 2) rfl rfl ?_
    refine x_iflt (tgt := 38) rfl rfl (ti_lt jk_2 jk_0 (br_f (by omega) ?_))
    refine x_iloadn (x := 2) rfl rfl ?_
    refine x_aloadn (x := 55) rfl rfl ?_
    refine z_getC (N := 4) (v := 5) 8 0 rfl f_8_19 rfl J rfl sg_55_0_1_1_0_1 jk_5 ?_
    refine x_icge (tgt := 38) rfl rfl (ti_ge jk_2 jk_5 (br_f (by omega) ?_))
    refine x_aloadn (x := 55) rfl rfl ?_
    refine z_getR (N := 4) (b := 56) 8 2 rfl f_8_25 rfl J rfl 7042 ⟨rfl, rfl⟩ rfl ?_
    refine x_iloadn (x := a1) rfl rfl ?_
    refine x_aloadn (x := 55) rfl rfl ?_
    refine z_getC (N := 4) (v := 5) 8 0 rfl f_8_19 rfl J rfl sg_55_0_1_1_0_1 jk_5 ?_
    refine z_imul rfl rfl jk_5 (by omega) (fun v3 ev3 => ?_)
    refine x_iloadn (x := 2) rfl rfl ?_
    refine z_iadd rfl rfl jk_2 (by omega) (fun v4 ev4 => ?_)
    refine x_iloadn (x := a3) rfl rfl ?_
    refine z_iast (N := 500) (l := 0) (u := 500) (w := a3.toInt) rfl hD J Sm rfl rfl rfl (by omega) rfl (wr_56 (fun q1 q2 q3 q4 => by omega) (fun q1 q2 q3 q4 => by omega) (fun q1 q2 q3 q4 => by omega) (fun q1 q2 q3 q4 => by omega) (fun q1 q2 q3 q4 => by omega)) rfl (fun h w5 J Sm => ?_)
    rw [vww w5 (show ((a1.toInt * 5) + 2) = v4.toInt from by omega) (show a3.toInt = a3.toInt from by omega)] at D
    exact jX.sub jsb_n (ct_X8_put_r55_c2d_38 hD hQ  h J Sm D)
def fp_X8_put_r55_c3d : jFp := [(56, 0, 500)]
set_option maxRecDepth 100000 in
set_option maxHeartbeats 4000000 in
theorem ct_X8_put_r55_c3d_38 {Dy : jH → Prop} {h0 : jH} {Q : Option Value → jH → Prop} {dr : jW} (hD : jDk Dy) (hQ : ∀ hx9, jJ jSgX Dy hx9 → jSm fp_X8_put_r55_c3d h0 hx9 → dr = vw hx9 → Q none hx9) : ∀ (h : jH), jJ jSgX Dy h → jSm fp_X8_put_r55_c3d h0 h → d_X8_put_r55_c3d_38  (vw h) = dr → jX m_X8_put 1 0 0 38 [] [] h 0 0 Q := by
  intro  h    J Sm D
  unfold d_X8_put_r55_c3d_38 at D
  refine x_vret rfl rfl ?_
  exact hQ _ J Sm D.symm
set_option maxRecDepth 100000 in
set_option maxHeartbeats 4000000 in
theorem sf_X8_put_r55_c3d {Dy : jH → Prop} {h : jH} {Q : Option Value → jH → Prop} {dr : jW} {a1 : Int32} {a3 : Int32} (y1 : 0 ≤ a1.toInt ∧ a1.toInt ≤ 99) (y3 : 0 ≤ a3.toInt ∧ a3.toInt ≤ 39) (hD : jDk Dy) (J : jJ jSgX Dy h) (D : d_X8_put_r55_c3d a1.toInt a3.toInt (vw h) = dr) (hQ : ∀ hx9, jJ jSgX Dy hx9 → jSm fp_X8_put_r55_c3d h hx9 → dr = vw hx9 → Q none hx9) : jC m_X8_put 1 0 0 [.ref 55, .int a1, .int 3, .int a3] h Q := by
  refine jC.of rfl k_X8_put rfl ?_
  have Sm := jSm_rf fp_X8_put_r55_c3d h
  show jX m_X8_put 1 0 0 0 [(0, .ref 55), (1, .int a1), (2, .int 3), (3, .int a3)] [] _ 0 0 _
  unfold d_X8_put_r55_c3d at D
  refine x_iloadn (x := a1) rfl rfl ?_
  refine x_iflt (tgt := 38) rfl rfl (ti_lt rfl jk_0 (br_f (by omega) ?_))
  refine x_iloadn (x := a1) rfl rfl ?_
  refine x_aloadn (x := 55) rfl rfl ?_
  refine z_getI (N := 4) 8 3 rfl f_8_7 rfl J rfl sg_55_3_4_1_0_1 (fun v1 qv1 ev1 => ?_)
  try rw [vrf qv1] at D
  refine x_icge (tgt := 38) rfl rfl (ti_ge rfl rfl ⟨fun c2 => ?_, fun c2 => ?_⟩)
  ·
    rw [if_pos (by omega)] at D
    exact jX.sub jsb_n (ct_X8_put_r55_c3d_38 hD hQ  h J Sm D)
  ·
    rw [if_neg (by omega)] at D
    refine x_iloadn (x := 3) rfl rfl ?_
    refine x_iflt (tgt := 38) rfl rfl (ti_lt jk_3 jk_0 (br_f (by omega) ?_))
    refine x_iloadn (x := 3) rfl rfl ?_
    refine x_aloadn (x := 55) rfl rfl ?_
    refine z_getC (N := 4) (v := 5) 8 0 rfl f_8_19 rfl J rfl sg_55_0_1_1_0_1 jk_5 ?_
    refine x_icge (tgt := 38) rfl rfl (ti_ge jk_3 jk_5 (br_f (by omega) ?_))
    refine x_aloadn (x := 55) rfl rfl ?_
    refine z_getR (N := 4) (b := 56) 8 2 rfl f_8_25 rfl J rfl 7042 ⟨rfl, rfl⟩ rfl ?_
    refine x_iloadn (x := a1) rfl rfl ?_
    refine x_aloadn (x := 55) rfl rfl ?_
    refine z_getC (N := 4) (v := 5) 8 0 rfl f_8_19 rfl J rfl sg_55_0_1_1_0_1 jk_5 ?_
    refine z_imul rfl rfl jk_5 (by omega) (fun v3 ev3 => ?_)
    refine x_iloadn (x := 3) rfl rfl ?_
    refine z_iadd rfl rfl jk_3 (by omega) (fun v4 ev4 => ?_)
    refine x_iloadn (x := a3) rfl rfl ?_
    refine z_iast (N := 500) (l := 0) (u := 500) (w := a3.toInt) rfl hD J Sm rfl rfl rfl (by omega) rfl (wr_56 (fun q1 q2 q3 q4 => by omega) (fun q1 q2 q3 q4 => by omega) (fun q1 q2 q3 q4 => by omega) (fun q1 q2 q3 q4 => by omega) (fun q1 q2 q3 q4 => by omega)) rfl (fun h w5 J Sm => ?_)
    rw [vww w5 (show ((a1.toInt * 5) + 3) = v4.toInt from by omega) (show a3.toInt = a3.toInt from by omega)] at D
    exact jX.sub jsb_n (ct_X8_put_r55_c3d_38 hD hQ  h J Sm D)
def fp_X8_put_r55_c4d : jFp := [(56, 0, 500)]
set_option maxRecDepth 100000 in
set_option maxHeartbeats 4000000 in
theorem ct_X8_put_r55_c4d_38 {Dy : jH → Prop} {h0 : jH} {Q : Option Value → jH → Prop} {dr : jW} (hD : jDk Dy) (hQ : ∀ hx9, jJ jSgX Dy hx9 → jSm fp_X8_put_r55_c4d h0 hx9 → dr = vw hx9 → Q none hx9) : ∀ (h : jH), jJ jSgX Dy h → jSm fp_X8_put_r55_c4d h0 h → d_X8_put_r55_c4d_38  (vw h) = dr → jX m_X8_put 1 0 0 38 [] [] h 0 0 Q := by
  intro  h    J Sm D
  unfold d_X8_put_r55_c4d_38 at D
  refine x_vret rfl rfl ?_
  exact hQ _ J Sm D.symm
set_option maxRecDepth 100000 in
set_option maxHeartbeats 4000000 in
theorem sf_X8_put_r55_c4d {Dy : jH → Prop} {h : jH} {Q : Option Value → jH → Prop} {dr : jW} {a1 : Int32} {a3 : Int32} (y1 : 0 ≤ a1.toInt ∧ a1.toInt ≤ 99) (y3 : 1 ≤ a3.toInt ∧ a3.toInt ≤ 1000000) (hD : jDk Dy) (J : jJ jSgX Dy h) (D : d_X8_put_r55_c4d a1.toInt a3.toInt (vw h) = dr) (hQ : ∀ hx9, jJ jSgX Dy hx9 → jSm fp_X8_put_r55_c4d h hx9 → dr = vw hx9 → Q none hx9) : jC m_X8_put 1 0 0 [.ref 55, .int a1, .int 4, .int a3] h Q := by
  refine jC.of rfl k_X8_put rfl ?_
  have Sm := jSm_rf fp_X8_put_r55_c4d h
  show jX m_X8_put 1 0 0 0 [(0, .ref 55), (1, .int a1), (2, .int 4), (3, .int a3)] [] _ 0 0 _
  unfold d_X8_put_r55_c4d at D
  refine x_iloadn (x := a1) rfl rfl ?_
  refine x_iflt (tgt := 38) rfl rfl (ti_lt rfl jk_0 (br_f (by omega) ?_))
  refine x_iloadn (x := a1) rfl rfl ?_
  refine x_aloadn (x := 55) rfl rfl ?_
  refine z_getI (N := 4) 8 3 rfl f_8_7 rfl J rfl sg_55_3_4_1_0_1 (fun v1 qv1 ev1 => ?_)
  try rw [vrf qv1] at D
  refine x_icge (tgt := 38) rfl rfl (ti_ge rfl rfl ⟨fun c2 => ?_, fun c2 => ?_⟩)
  ·
    rw [if_pos (by omega)] at D
    exact jX.sub jsb_n (ct_X8_put_r55_c4d_38 hD hQ  h J Sm D)
  ·
    rw [if_neg (by omega)] at D
    refine x_iloadn (x := 4) rfl rfl ?_
    refine x_iflt (tgt := 38) rfl rfl (ti_lt jk_4 jk_0 (br_f (by omega) ?_))
    refine x_iloadn (x := 4) rfl rfl ?_
    refine x_aloadn (x := 55) rfl rfl ?_
    refine z_getC (N := 4) (v := 5) 8 0 rfl f_8_19 rfl J rfl sg_55_0_1_1_0_1 jk_5 ?_
    refine x_icge (tgt := 38) rfl rfl (ti_ge jk_4 jk_5 (br_f (by omega) ?_))
    refine x_aloadn (x := 55) rfl rfl ?_
    refine z_getR (N := 4) (b := 56) 8 2 rfl f_8_25 rfl J rfl 7042 ⟨rfl, rfl⟩ rfl ?_
    refine x_iloadn (x := a1) rfl rfl ?_
    refine x_aloadn (x := 55) rfl rfl ?_
    refine z_getC (N := 4) (v := 5) 8 0 rfl f_8_19 rfl J rfl sg_55_0_1_1_0_1 jk_5 ?_
    refine z_imul rfl rfl jk_5 (by omega) (fun v3 ev3 => ?_)
    refine x_iloadn (x := 4) rfl rfl ?_
    refine z_iadd rfl rfl jk_4 (by omega) (fun v4 ev4 => ?_)
    refine x_iloadn (x := a3) rfl rfl ?_
    refine z_iast (N := 500) (l := 0) (u := 500) (w := a3.toInt) rfl hD J Sm rfl rfl rfl (by omega) rfl (wr_56 (fun q1 q2 q3 q4 => by omega) (fun q1 q2 q3 q4 => by omega) (fun q1 q2 q3 q4 => by omega) (fun q1 q2 q3 q4 => by omega) (fun q1 q2 q3 q4 => by omega)) rfl (fun h w5 J Sm => ?_)
    rw [vww w5 (show ((a1.toInt * 5) + 4) = v4.toInt from by omega) (show a3.toInt = a3.toInt from by omega)] at D
    exact jX.sub jsb_n (ct_X8_put_r55_c4d_38 hD hQ  h J Sm D)
def fp_X8_put_r55_c5d : jFp := []
set_option maxRecDepth 100000 in
set_option maxHeartbeats 4000000 in
theorem ct_X8_put_r55_c5d_38 {Dy : jH → Prop} {h0 : jH} {Q : Option Value → jH → Prop} {dr : jW} (hD : jDk Dy) (hQ : ∀ hx9, jJ jSgX Dy hx9 → jSm fp_X8_put_r55_c5d h0 hx9 → dr = vw hx9 → Q none hx9) : ∀ (h : jH), jJ jSgX Dy h → jSm fp_X8_put_r55_c5d h0 h → d_X8_put_r55_c5d_38  (vw h) = dr → jX m_X8_put 1 0 0 38 [] [] h 0 0 Q := by
  intro  h    J Sm D
  unfold d_X8_put_r55_c5d_38 at D
  refine x_vret rfl rfl ?_
  exact hQ _ J Sm D.symm
set_option maxRecDepth 100000 in
set_option maxHeartbeats 4000000 in
theorem sf_X8_put_r55_c5d {Dy : jH → Prop} {h : jH} {Q : Option Value → jH → Prop} {dr : jW} {a1 : Int32} {a3 : Int32} (y1 : 0 ≤ a1.toInt ∧ a1.toInt ≤ 99) (y3 : 0 ≤ a3.toInt ∧ a3.toInt ≤ 0) (hD : jDk Dy) (J : jJ jSgX Dy h) (D : d_X8_put_r55_c5d a1.toInt a3.toInt (vw h) = dr) (hQ : ∀ hx9, jJ jSgX Dy hx9 → jSm fp_X8_put_r55_c5d h hx9 → dr = vw hx9 → Q none hx9) : jC m_X8_put 1 0 0 [.ref 55, .int a1, .int 5, .int a3] h Q := by
  refine jC.of rfl k_X8_put rfl ?_
  have Sm := jSm_rf fp_X8_put_r55_c5d h
  show jX m_X8_put 1 0 0 0 [(0, .ref 55), (1, .int a1), (2, .int 5), (3, .int a3)] [] _ 0 0 _
  unfold d_X8_put_r55_c5d at D
  refine x_iloadn (x := a1) rfl rfl ?_
  refine x_iflt (tgt := 38) rfl rfl (ti_lt rfl jk_0 (br_f (by omega) ?_))
  refine x_iloadn (x := a1) rfl rfl ?_
  refine x_aloadn (x := 55) rfl rfl ?_
  refine z_getI (N := 4) 8 3 rfl f_8_7 rfl J rfl sg_55_3_4_1_0_1 (fun v1 qv1 ev1 => ?_)
  try rw [vrf qv1] at D
  refine x_icge (tgt := 38) rfl rfl (ti_ge rfl rfl ⟨fun c2 => ?_, fun c2 => ?_⟩)
  ·
    rw [if_pos (by omega)] at D
    exact jX.sub jsb_n (ct_X8_put_r55_c5d_38 hD hQ  h J Sm D)
  ·
    rw [if_neg (by omega)] at D
    refine x_iloadn (x := 5) rfl rfl ?_
    refine x_iflt (tgt := 38) rfl rfl (ti_lt jk_5 jk_0 (br_f (by omega) ?_))
    refine x_iloadn (x := 5) rfl rfl ?_
    refine x_aloadn (x := 55) rfl rfl ?_
    refine z_getC (N := 4) (v := 5) 8 0 rfl f_8_19 rfl J rfl sg_55_0_1_1_0_1 jk_5 ?_
    refine x_icge (tgt := 38) rfl rfl (ti_ge jk_5 jk_5 (br_t (by omega) ?_))
    exact jX.sub jsb_n (ct_X8_put_r55_c5d_38 hD hQ  h J Sm D)
def fp_X8_add_r55d : jFp := [(55, 3, 4), (56, 0, 500)]
set_option maxRecDepth 100000 in
set_option maxHeartbeats 4000000 in
theorem sf_X8_add_r55d {Dy : jH → Prop} {h : jH} {Q : Option Value → jH → Prop} {dr : jW} {a1 : Int32} {a2 : Int32} {a3 : Int32} {a4 : Int32} {a5 : Int32} {a6 : Int32} (y1 : 0 ≤ a1.toInt ∧ a1.toInt ≤ 146399) (y2 : 0 ≤ a2.toInt ∧ a2.toInt ≤ 146399) (y3 : 0 ≤ a3.toInt ∧ a3.toInt ≤ 39) (y4 : 0 ≤ a4.toInt ∧ a4.toInt ≤ 39) (y5 : 1 ≤ a5.toInt ∧ a5.toInt ≤ 1000000) (y6 : 0 ≤ a6.toInt ∧ a6.toInt ≤ 0) (hD : jDk Dy) (J : jJ jSgX Dy h) (D : d_X8_add_r55d a1.toInt a2.toInt a3.toInt a4.toInt a5.toInt a6.toInt (vw h) = dr) (hQ : ∀ hx9, jJ jSgX Dy hx9 → jSm fp_X8_add_r55d h hx9 → dr = vw hx9 → Q none hx9) : jC m_X8_add 2 0 0 [.ref 55, .int a1, .int a2, .int a3, .int a4, .int a5, .int a6] h Q := by
  refine jC.of rfl k_X8_add rfl ?_
  have Sm := jSm_rf fp_X8_add_r55d h
  show jX m_X8_add 2 0 0 0 [(0, .ref 55), (1, .int a1), (2, .int a2), (3, .int a3), (4, .int a4), (5, .int a5), (6, .int a6)] [] _ 0 0 _
  unfold d_X8_add_r55d at D
  refine x_aloadn (x := 55) rfl rfl ?_
  refine z_getI (N := 4) 8 3 rfl f_8_7 rfl J rfl sg_55_3_4_1_0_1 (fun v1 qv1 ev1 => ?_)
  try rw [vrf qv1] at D
  refine x_aloadn (x := 55) rfl rfl ?_
  refine z_getC (N := 4) (v := 100) 8 1 rfl f_8_22 rfl J rfl sg_55_1_2_1_0_1 jk_100 ?_
  refine x_iclt (tgt := 12) rfl rfl (ti_lt rfl jk_100 ⟨fun c2 => ?_, fun c2 => ?_⟩)
  ·
    rw [if_pos (by omega)] at D
    refine x_aloadn (x := 55) rfl rfl ?_
    refine z_getM (N := 4) (v := v1) 8 3 rfl f_8_7 rfl J rfl qv1 ?_
    refine x_istore (lsx9 := [(7, .int v1), (0, .ref 55), (1, .int a1), (2, .int a2), (3, .int a3), (4, .int a4), (5, .int a5), (6, .int a6)]) rfl rfl rfl ?_
    refine x_aloadn (x := 55) rfl rfl ?_
    refine x_iload (x := v1) rfl rfl ?_
    refine x_iconst (v := 1) rfl ki_1 ?_
    refine z_iadd rfl rfl jk_1 (by omega) (fun v3 ev3 => ?_)
    refine z_putI (N := 4) (w := v3.toInt) 8 3 rfl f_8_7 rfl (jfin_no TX8 RX8 4 rfl rfl) hD J Sm rfl rfl rfl (pw_55_3 (by omega)) rfl (fun h w4 J Sm => ?_)
    rw [vwf w4 (show (v1.toInt + 1) = v3.toInt from by omega)] at D
    refine x_aloadn (x := 55) rfl rfl ?_
    refine x_iload (x := v1) rfl rfl ?_
    refine x_iconst (v := 0) rfl ki_0 ?_
    refine x_iloadn (x := a1) rfl rfl ?_
    refine x_inv (N := m_X8_put) (As := [.int v1, .int 0, .int a1]) (b := 55) (st := []) (dx9 := 1) (mc := 0) (ms := 0) (host := "") 8 rfl t_X8_put ⟨Or.inl q_8_29, i_X8_put.1, i_X8_put.2⟩ ⟨by decide, rfl⟩ (congrArg Prod.fst (J.1.1 55 (8, 4) rfl)) rfl (by decide) rfl rfl ⟨by decide, by decide⟩ (sf_X8_put_r55_c0d (jr_of rfl (by omega)) (jr_of rfl (by omega)) hD J rfl  (fun h J S5 X6 => ?_))
    have Sm := jSm_tr rfl Sm S5
    rw [X6] at D
    show jX m_X8_add 2 0 0 34 [(7, .int v1), (0, .ref 55), (1, .int a1), (2, .int a2), (3, .int a3), (4, .int a4), (5, .int a5), (6, .int a6)] [] _ 0 0 _
    refine x_aloadn (x := 55) rfl rfl ?_
    refine x_iload (x := v1) rfl rfl ?_
    refine x_iconst (v := 1) rfl ki_1 ?_
    refine x_iloadn (x := a2) rfl rfl ?_
    refine x_inv (N := m_X8_put) (As := [.int v1, .int 1, .int a2]) (b := 55) (st := []) (dx9 := 1) (mc := 0) (ms := 0) (host := "") 8 rfl t_X8_put ⟨Or.inl q_8_29, i_X8_put.1, i_X8_put.2⟩ ⟨by decide, rfl⟩ (congrArg Prod.fst (J.1.1 55 (8, 4) rfl)) rfl (by decide) rfl rfl ⟨by decide, by decide⟩ (sf_X8_put_r55_c1d (jr_of rfl (by omega)) (jr_of rfl (by omega)) hD J rfl  (fun h J S7 X8 => ?_))
    have Sm := jSm_tr rfl Sm S7
    rw [X8] at D
    show jX m_X8_add 2 0 0 42 [(7, .int v1), (0, .ref 55), (1, .int a1), (2, .int a2), (3, .int a3), (4, .int a4), (5, .int a5), (6, .int a6)] [] _ 0 0 _
    refine x_aloadn (x := 55) rfl rfl ?_
    refine x_iload (x := v1) rfl rfl ?_
    refine x_iconst (v := 2) rfl ki_2 ?_
    refine x_iloadn (x := a3) rfl rfl ?_
    refine x_inv (N := m_X8_put) (As := [.int v1, .int 2, .int a3]) (b := 55) (st := []) (dx9 := 1) (mc := 0) (ms := 0) (host := "") 8 rfl t_X8_put ⟨Or.inl q_8_29, i_X8_put.1, i_X8_put.2⟩ ⟨by decide, rfl⟩ (congrArg Prod.fst (J.1.1 55 (8, 4) rfl)) rfl (by decide) rfl rfl ⟨by decide, by decide⟩ (sf_X8_put_r55_c2d (jr_of rfl (by omega)) (jr_of rfl (by omega)) hD J rfl  (fun h J S9 X10 => ?_))
    have Sm := jSm_tr rfl Sm S9
    rw [X10] at D
    show jX m_X8_add 2 0 0 50 [(7, .int v1), (0, .ref 55), (1, .int a1), (2, .int a2), (3, .int a3), (4, .int a4), (5, .int a5), (6, .int a6)] [] _ 0 0 _
    refine x_aloadn (x := 55) rfl rfl ?_
    refine x_iload (x := v1) rfl rfl ?_
    refine x_iconst (v := 3) rfl ki_3 ?_
    refine x_iload (x := a4) rfl rfl ?_
    refine x_inv (N := m_X8_put) (As := [.int v1, .int 3, .int a4]) (b := 55) (st := []) (dx9 := 1) (mc := 0) (ms := 0) (host := "") 8 rfl t_X8_put ⟨Or.inl q_8_29, i_X8_put.1, i_X8_put.2⟩ ⟨by decide, rfl⟩ (congrArg Prod.fst (J.1.1 55 (8, 4) rfl)) rfl (by decide) rfl rfl ⟨by decide, by decide⟩ (sf_X8_put_r55_c3d (jr_of rfl (by omega)) (jr_of rfl (by omega)) hD J rfl  (fun h J S11 X12 => ?_))
    have Sm := jSm_tr rfl Sm S11
    rw [X12] at D
    show jX m_X8_add 2 0 0 59 [(7, .int v1), (0, .ref 55), (1, .int a1), (2, .int a2), (3, .int a3), (4, .int a4), (5, .int a5), (6, .int a6)] [] _ 0 0 _
    refine x_aloadn (x := 55) rfl rfl ?_
    refine x_iload (x := v1) rfl rfl ?_
    refine x_iconst (v := 4) rfl ki_4 ?_
    refine x_iload (x := a5) rfl rfl ?_
    refine x_inv (N := m_X8_put) (As := [.int v1, .int 4, .int a5]) (b := 55) (st := []) (dx9 := 1) (mc := 0) (ms := 0) (host := "") 8 rfl t_X8_put ⟨Or.inl q_8_29, i_X8_put.1, i_X8_put.2⟩ ⟨by decide, rfl⟩ (congrArg Prod.fst (J.1.1 55 (8, 4) rfl)) rfl (by decide) rfl rfl ⟨by decide, by decide⟩ (sf_X8_put_r55_c4d (jr_of rfl (by omega)) (jr_of rfl (by omega)) hD J rfl  (fun h J S13 X14 => ?_))
    have Sm := jSm_tr rfl Sm S13
    rw [X14] at D
    show jX m_X8_add 2 0 0 68 [(7, .int v1), (0, .ref 55), (1, .int a1), (2, .int a2), (3, .int a3), (4, .int a4), (5, .int a5), (6, .int a6)] [] _ 0 0 _
    refine x_aloadn (x := 55) rfl rfl ?_
    refine x_iload (x := v1) rfl rfl ?_
    refine x_iconst (v := 5) rfl ki_5 ?_
    refine x_iload (x := a6) rfl rfl ?_
    refine x_inv (N := m_X8_put) (As := [.int v1, .int 5, .int a6]) (b := 55) (st := []) (dx9 := 1) (mc := 0) (ms := 0) (host := "") 8 rfl t_X8_put ⟨Or.inl q_8_29, i_X8_put.1, i_X8_put.2⟩ ⟨by decide, rfl⟩ (congrArg Prod.fst (J.1.1 55 (8, 4) rfl)) rfl (by decide) rfl rfl ⟨by decide, by decide⟩ (sf_X8_put_r55_c5d (jr_of rfl (by omega)) (jr_of rfl (by omega)) hD J rfl  (fun h J S15 X16 => ?_))
    have Sm := jSm_tr rfl Sm S15
    rw [X16] at D
    show jX m_X8_add 2 0 0 77 [(7, .int v1), (0, .ref 55), (1, .int a1), (2, .int a2), (3, .int a3), (4, .int a4), (5, .int a5), (6, .int a6)] [] _ 0 0 _
    refine x_vret rfl rfl ?_
    exact hQ _ J Sm D.symm
  ·
    rw [if_neg (by omega)] at D
    refine x_vret rfl rfl ?_
    exact hQ _ J Sm D.symm
def fp_X8_isFull_r55d : jFp := []
set_option maxRecDepth 100000 in
set_option maxHeartbeats 4000000 in
theorem ct_X8_isFull_r55d_200016 {Dy : jH → Prop} {h0 : jH} {Q : Option Value → jH → Prop} {dr : Int} (hD : jDk Dy) (hQ : ∀ (v : Int32) hx9, 0 ≤ v.toInt ∧ v.toInt ≤ 1 → jJ jSgX Dy hx9 → jSm fp_X8_isFull_r55d h0 hx9 → dr = v.toInt → vw hx9 = vw h0 → Q (some (.int v)) hx9) : ∀ (h : jH), jJ jSgX Dy h → jSm fp_X8_isFull_r55d h0 h → d_X8_isFull_r55d_200016  (vw h) = dr → vw h = vw h0 → jX m_X8_isFull 1 0 0 16 [] [.int 0] h 0 0 Q := by
  intro  h    J Sm D EV
  unfold d_X8_isFull_r55d_200016 at D
  refine x_zret rfl rfl (by decide) ?_
  exact hQ _ _ (jr_of jk_0 (by omega)) J Sm (D.symm.trans (show 0 = (0 : Int32).toInt from by have := jk_0; omega)) EV
set_option maxRecDepth 100000 in
set_option maxHeartbeats 4000000 in
theorem ct_X8_isFull_r55d_300016 {Dy : jH → Prop} {h0 : jH} {Q : Option Value → jH → Prop} {dr : Int} (hD : jDk Dy) (hQ : ∀ (v : Int32) hx9, 0 ≤ v.toInt ∧ v.toInt ≤ 1 → jJ jSgX Dy hx9 → jSm fp_X8_isFull_r55d h0 hx9 → dr = v.toInt → vw hx9 = vw h0 → Q (some (.int v)) hx9) : ∀ (h : jH), jJ jSgX Dy h → jSm fp_X8_isFull_r55d h0 h → d_X8_isFull_r55d_300016  (vw h) = dr → vw h = vw h0 → jX m_X8_isFull 1 0 0 16 [] [.int 1] h 0 0 Q := by
  intro  h    J Sm D EV
  unfold d_X8_isFull_r55d_300016 at D
  refine x_zret rfl rfl (by decide) ?_
  exact hQ _ _ (jr_of jk_1 (by omega)) J Sm (D.symm.trans (show 1 = (1 : Int32).toInt from by have := jk_1; omega)) EV
set_option maxRecDepth 100000 in
set_option maxHeartbeats 4000000 in
theorem sf_X8_isFull_r55d {Dy : jH → Prop} {h : jH} {Q : Option Value → jH → Prop} {dr : Int} (hD : jDk Dy) (J : jJ jSgX Dy h) (D : d_X8_isFull_r55d (vw h) = dr) (hQ : ∀ (v : Int32) hx9, 0 ≤ v.toInt ∧ v.toInt ≤ 1 → jJ jSgX Dy hx9 → jSm fp_X8_isFull_r55d h hx9 → dr = v.toInt → vw hx9 = vw h → Q (some (.int v)) hx9) : jC m_X8_isFull 1 0 0 [.ref 55] h Q := by
  refine jC.of rfl k_X8_isFull rfl ?_
  have Sm := jSm_rf fp_X8_isFull_r55d h
  show jX m_X8_isFull 1 0 0 0 [(0, .ref 55)] [] _ 0 0 _
  unfold d_X8_isFull_r55d at D
  have EV : vw h = vw h := rfl
  refine x_aloadn (x := 55) rfl rfl ?_
  refine z_getI (N := 4) 8 3 rfl f_8_7 rfl J rfl sg_55_3_4_1_0_1 (fun v1 qv1 ev1 => ?_)
  try rw [vrf qv1] at D
  refine x_aloadn (x := 55) rfl rfl ?_
  refine z_getC (N := 4) (v := 100) 8 1 rfl f_8_22 rfl J rfl sg_55_1_2_1_0_1 jk_100 ?_
  refine x_iclt (tgt := 15) rfl rfl (ti_lt rfl jk_100 ⟨fun c2 => ?_, fun c2 => ?_⟩)
  ·
    rw [if_pos (by omega)] at D
    refine x_iconst (v := 0) rfl ki_0 ?_
    exact jX.sub jsb_n (ct_X8_isFull_r55d_200016 hD hQ  h J Sm D EV)
  ·
    rw [if_neg (by omega)] at D
    refine x_iconst (v := 1) rfl ki_1 ?_
    refine x_goto (tgt := 16) rfl rfl ?_
    exact jX.sub jsb_n (ct_X8_isFull_r55d_300016 hD hQ  h J Sm D EV)
def fp_X11_pay_r31d : jFp := [(31, 12, 13), (32, 19, 20), (55, 3, 4), (56, 0, 500)]
set_option maxRecDepth 100000 in
set_option maxHeartbeats 4000000 in
theorem ct_X11_pay_r31d_27 {Dy : jH → Prop} {h0 : jH} {Q : Option Value → jH → Prop} {dr : (Int × jW)} (hD : jDk Dy) (hQ : ∀ (v : Int32) hx9, (-366) ≤ v.toInt ∧ v.toInt ≤ 100 → jJ jSgX Dy hx9 → jSm fp_X11_pay_r31d h0 hx9 → dr.1 = v.toInt → dr.2 = vw hx9 → Q (some (.int v)) hx9) : ∀ (h : jH), jJ jSgX Dy h → jSm fp_X11_pay_r31d h0 h → d_X11_pay_r31d_27  (vw h) = dr → jX m_X11_pay 3 0 0 27 [(0, .ref 31)] [] h 0 0 Q := by
  intro  h    J Sm D
  unfold d_X11_pay_r31d_27 at D
  refine x_aloadn (x := 31) rfl rfl ?_
  refine x_iconst (v := (-1)) rfl ki_m1 ?_
  refine x_inv (N := m_X11_refuse) (As := [.int (-1)]) (b := 31) (st := []) (dx9 := 2) (mc := 0) (ms := 0) (host := "") 11 rfl t_X11_refuse ⟨Or.inl q_11_206, i_X11_refuse.1, i_X11_refuse.2⟩ ⟨by decide, rfl⟩ (congrArg Prod.fst (J.1.1 31 (11, 13) rfl)) rfl (by decide) rfl rfl ⟨by decide, by decide⟩ (jC.of rfl k_X11_refuse rfl ?_)
  show jX m_X11_refuse 2 0 0 0 [(0, .ref 31), (1, .int (-1))] [] _ 0 0 _
  refine x_aloadn (x := 31) rfl rfl ?_
  refine x_iloadn (x := (-1)) rfl rfl ?_
  refine z_putI (N := 13) (w := (-1)) 11 12 rfl f_11_94 rfl (jfin_no TX11 RX11 13 rfl rfl) hD J Sm rfl rfl jk_m1 (pw_31_12 (by omega)) rfl (fun h w1 J Sm => ?_)
  rw [vwf w1 (show (-1) = ((-1) : Int32).toInt from by have := jk_m1; omega)] at D
  refine x_iloadn (x := (-1)) rfl rfl ?_
  refine x_iret rfl rfl ?_
  show jX m_X11_pay 3 0 0 32 [(0, .ref 31)] [.int (-1)] _ 0 0 _
  refine x_iret rfl rfl ?_
  exact hQ _ _ (jr_of jk_m1 (by omega)) J Sm ((congrArg Prod.fst D).symm.trans (show (-1) = ((-1) : Int32).toInt from by have := jk_m1; omega)) (congrArg Prod.snd D).symm
set_option maxRecDepth 100000 in
set_option maxHeartbeats 4000000 in
theorem ct_X11_pay_r31d_59 {Dy : jH → Prop} {h0 : jH} {Q : Option Value → jH → Prop} {dr : (Int × jW)} (hD : jDk Dy) (hQ : ∀ (v : Int32) hx9, (-366) ≤ v.toInt ∧ v.toInt ≤ 100 → jJ jSgX Dy hx9 → jSm fp_X11_pay_r31d h0 hx9 → dr.1 = v.toInt → dr.2 = vw hx9 → Q (some (.int v)) hx9) : ∀ (h : jH), jJ jSgX Dy h → jSm fp_X11_pay_r31d h0 h → d_X11_pay_r31d_59  (vw h) = dr → jX m_X11_pay 3 0 0 59 [(0, .ref 31)] [] h 0 0 Q := by
  intro  h    J Sm D
  unfold d_X11_pay_r31d_59 at D
  refine x_aloadn (x := 31) rfl rfl ?_
  refine x_bipush (v := (-2)) rfl kb_m2 ?_
  refine x_inv (N := m_X11_refuse) (As := [.int (-2)]) (b := 31) (st := []) (dx9 := 2) (mc := 0) (ms := 0) (host := "") 11 rfl t_X11_refuse ⟨Or.inl q_11_206, i_X11_refuse.1, i_X11_refuse.2⟩ ⟨by decide, rfl⟩ (congrArg Prod.fst (J.1.1 31 (11, 13) rfl)) rfl (by decide) rfl rfl ⟨by decide, by decide⟩ (jC.of rfl k_X11_refuse rfl ?_)
  show jX m_X11_refuse 2 0 0 0 [(0, .ref 31), (1, .int (-2))] [] _ 0 0 _
  refine x_aloadn (x := 31) rfl rfl ?_
  refine x_iloadn (x := (-2)) rfl rfl ?_
  refine z_putI (N := 13) (w := (-2)) 11 12 rfl f_11_94 rfl (jfin_no TX11 RX11 13 rfl rfl) hD J Sm rfl rfl jk_m2 (pw_31_12 (by omega)) rfl (fun h w1 J Sm => ?_)
  rw [vwf w1 (show (-2) = ((-2) : Int32).toInt from by have := jk_m2; omega)] at D
  refine x_iloadn (x := (-2)) rfl rfl ?_
  refine x_iret rfl rfl ?_
  show jX m_X11_pay 3 0 0 65 [(0, .ref 31)] [.int (-2)] _ 0 0 _
  refine x_iret rfl rfl ?_
  exact hQ _ _ (jr_of jk_m2 (by omega)) J Sm ((congrArg Prod.fst D).symm.trans (show (-2) = ((-2) : Int32).toInt from by have := jk_m2; omega)) (congrArg Prod.snd D).symm
set_option maxRecDepth 100000 in
set_option maxHeartbeats 4000000 in
theorem sf_X11_pay_r31d {Dy : jH → Prop} {h : jH} {Q : Option Value → jH → Prop} {dr : (Int × jW)} {a1 : Int32} {a2 : Int32} {a3 : Int32} {a4 : Int32} {a5 : Int32} (hD : jDk Dy) (J : jJ jSgX Dy h) (D : d_X11_pay_r31d a1.toInt a2.toInt a3.toInt a4.toInt a5.toInt (vw h) = dr) (hQ : ∀ (v : Int32) hx9, (-366) ≤ v.toInt ∧ v.toInt ≤ 100 → jJ jSgX Dy hx9 → jSm fp_X11_pay_r31d h hx9 → dr.1 = v.toInt → dr.2 = vw hx9 → Q (some (.int v)) hx9) : jC m_X11_pay 3 0 0 [.ref 31, .int a1, .int a2, .int a3, .int a4, .int a5] h Q := by
  refine jC.of rfl k_X11_pay rfl ?_
  have Sm := jSm_rf fp_X11_pay_r31d h
  have ea1 := jfull a1
  have ea2 := jfull a2
  have ea3 := jfull a3
  have ea4 := jfull a4
  have ea5 := jfull a5
  show jX m_X11_pay 3 0 0 0 [(0, .ref 31), (1, .int a1), (2, .int a2), (3, .int a3), (4, .int a4), (5, .int a5)] [] _ 0 0 _
  unfold d_X11_pay_r31d at D
  refine x_iloadn (x := a3) rfl rfl ?_
  refine x_iconst (v := 1) rfl ki_1 ?_
  refine x_ldcw (v := 1000000) rfl z_11_436 ?_
  refine x_inst (N := m_X11_isWithin) (As := [.int a3, .int 1, .int 1000000]) (st := []) (dx9 := 1) (mc := 0) (ms := 0) (host := "") rfl t_X11_isWithin ⟨Or.inl q_11_202, s_X11_isWithin⟩ rfl (by decide) rfl rfl ⟨by decide, by decide⟩ (zc_X11_isWithin rfl jk_1 jk_1000000 (fun v1 ev1 => ?_))
  show jX m_X11_pay 3 0 0 8 [(0, .ref 31), (1, .int a1), (2, .int a2), (3, .int a3), (4, .int a4), (5, .int a5)] [.int v1] _ 0 0 _
  refine x_ifeq (tgt := 27) rfl rfl (ti_eq rfl jk_0 ⟨fun c2 => ?_, fun c2 => ?_⟩)
  ·
    rw [if_neg (by omega)] at D
    exact jX.sub (jsb_c rfl jsb_n) (ct_X11_pay_r31d_27 hD hQ  h J Sm D)
  ·
    rw [if_pos (by omega)] at D
    refine x_iload (x := a4) rfl rfl ?_
    refine x_inst (N := m_X11_isDay) (As := [.int a4]) (st := []) (dx9 := 1) (mc := 0) (ms := 0) (host := "") rfl t_X11_isDay ⟨Or.inl q_11_115, s_X11_isDay⟩ rfl (by decide) rfl rfl ⟨by decide, by decide⟩ (zc_X11_isDay rfl (fun v3 ev3 => ?_))
    show jX m_X11_pay 3 0 0 16 [(0, .ref 31), (1, .int a1), (2, .int a2), (3, .int a3), (4, .int a4), (5, .int a5)] [.int v3] _ 0 0 _
    refine x_ifeq (tgt := 27) rfl rfl (ti_eq rfl jk_0 ⟨fun c4 => ?_, fun c4 => ?_⟩)
    ·
      rw [if_neg (by omega)] at D
      exact jX.sub (jsb_c rfl jsb_n) (ct_X11_pay_r31d_27 hD hQ  h J Sm D)
    ·
      rw [if_pos (by omega)] at D
      refine x_iload (x := a5) rfl rfl ?_
      refine x_inst (N := m_X11_isDay) (As := [.int a5]) (st := []) (dx9 := 1) (mc := 0) (ms := 0) (host := "") rfl t_X11_isDay ⟨Or.inl q_11_115, s_X11_isDay⟩ rfl (by decide) rfl rfl ⟨by decide, by decide⟩ (zc_X11_isDay rfl (fun v5 ev5 => ?_))
      show jX m_X11_pay 3 0 0 24 [(0, .ref 31), (1, .int a1), (2, .int a2), (3, .int a3), (4, .int a4), (5, .int a5)] [.int v5] _ 0 0 _
      refine x_ifne (tgt := 33) rfl rfl (ti_ne rfl jk_0 ⟨fun c6 => ?_, fun c6 => ?_⟩)
      ·
        rw [if_pos (by omega)] at D
        refine x_iloadn (x := a1) rfl rfl ?_
        refine x_iflt (tgt := 59) rfl rfl (ti_lt rfl jk_0 ⟨fun c7 => ?_, fun c7 => ?_⟩)
        ·
          rw [if_pos (by omega)] at D
          exact jX.sub (jsb_c rfl jsb_n) (ct_X11_pay_r31d_59 hD hQ  h J Sm D)
        ·
          rw [if_neg (by omega)] at D
          refine x_iloadn (x := a1) rfl rfl ?_
          refine x_aloadn (x := 31) rfl rfl ?_
          refine z_getR (N := 13) (b := 32) 11 0 rfl f_11_10 rfl J rfl 3968 ⟨rfl, rfl⟩ rfl ?_
          refine z_getR (N := 20) (b := 53) 1 10 rfl f_11_437 rfl J rfl 4106 ⟨rfl, rfl⟩ rfl ?_
          refine z_getI (N := 4) 8 3 rfl f_11_142 rfl J rfl sg_53_3_4_1_0_1 (fun v8 qv8 ev8 => ?_)
          try rw [vrf qv8] at D
          refine x_icge (tgt := 59) rfl rfl (ti_ge rfl rfl ⟨fun c9 => ?_, fun c9 => ?_⟩)
          ·
            rw [if_pos (by omega)] at D
            exact jX.sub (jsb_c rfl jsb_n) (ct_X11_pay_r31d_59 hD hQ  h J Sm D)
          ·
            rw [if_neg (by omega)] at D
            refine x_aloadn (x := 31) rfl rfl ?_
            refine x_iloadn (x := a2) rfl rfl ?_
            refine x_inv (N := m_X11_isHolding) (As := [.int a2]) (b := 31) (st := []) (dx9 := 2) (mc := 0) (ms := 0) (host := "") 11 rfl t_X11_isHolding ⟨Or.inl q_11_415, i_X11_isHolding.1, i_X11_isHolding.2⟩ ⟨by decide, rfl⟩ (congrArg Prod.fst (J.1.1 31 (11, 13) rfl)) rfl (by decide) rfl rfl ⟨by decide, by decide⟩ (jC.of rfl k_X11_isHolding rfl ?_)
            show jX m_X11_isHolding 2 0 0 0 [(0, .ref 31), (1, .int a2)] [] _ 0 0 _
            refine x_iloadn (x := a2) rfl rfl ?_
            refine x_iflt (tgt := 28) rfl rfl (ti_lt rfl jk_0 ⟨fun c10 => ?_, fun c10 => ?_⟩)
            ·
              rw [if_pos (by omega)] at D
              refine x_iconst (v := 0) rfl ki_0 ?_
              refine x_zret rfl rfl (by decide) ?_
              show jX m_X11_pay 3 0 0 56 [(0, .ref 31), (1, .int a1), (2, .int a2), (3, .int a3), (4, .int a4), (5, .int a5)] [.int 0] _ 0 0 _
              refine x_ifne (tgt := 66) rfl rfl (ti_ne jk_0 jk_0 (bn_f (by omega) ?_))
              exact jX.sub (jsb_c rfl jsb_n) (ct_X11_pay_r31d_59 hD hQ  h J Sm D)
            ·
              rw [if_neg (by omega)] at D
              refine x_iloadn (x := a2) rfl rfl ?_
              refine x_aloadn (x := 31) rfl rfl ?_
              refine z_getR (N := 13) (b := 32) 11 0 rfl f_11_10 rfl J rfl 3968 ⟨rfl, rfl⟩ rfl ?_
              refine z_getR (N := 20) (b := 49) 1 8 rfl f_11_408 rfl J rfl 4104 ⟨rfl, rfl⟩ rfl ?_
              refine z_getI (N := 4) 8 3 rfl f_11_142 rfl J rfl sg_49_3_4_1_0_1 (fun v11 qv11 ev11 => ?_)
              try rw [vrf qv11] at D
              refine x_icge (tgt := 28) rfl rfl (ti_ge rfl rfl ⟨fun c12 => ?_, fun c12 => ?_⟩)
              ·
                rw [if_pos (by omega)] at D
                refine x_iconst (v := 0) rfl ki_0 ?_
                refine x_zret rfl rfl (by decide) ?_
                show jX m_X11_pay 3 0 0 56 [(0, .ref 31), (1, .int a1), (2, .int a2), (3, .int a3), (4, .int a4), (5, .int a5)] [.int 0] _ 0 0 _
                refine x_ifne (tgt := 66) rfl rfl (ti_ne jk_0 jk_0 (bn_f (by omega) ?_))
                exact jX.sub (jsb_c rfl jsb_n) (ct_X11_pay_r31d_59 hD hQ  h J Sm D)
              ·
                rw [if_neg (by omega)] at D
                refine x_iloadn (x := a2) rfl rfl ?_
                refine x_bipush (v := 40) rfl kb_40 ?_
                refine x_icge (tgt := 28) rfl rfl (ti_ge rfl jk_40 (br_f (by omega) ?_))
                refine x_iconst (v := 1) rfl ki_1 ?_
                refine x_goto (tgt := 29) rfl rfl ?_
                refine x_zret rfl rfl (by decide) ?_
                show jX m_X11_pay 3 0 0 56 [(0, .ref 31), (1, .int a1), (2, .int a2), (3, .int a3), (4, .int a4), (5, .int a5)] [.int 1] _ 0 0 _
                refine x_ifne (tgt := 66) rfl rfl (ti_ne jk_1 jk_0 (bn_t (by omega) ?_))
                refine x_aloadn (x := 31) rfl rfl ?_
                refine z_getR (N := 13) (b := 32) 11 0 rfl f_11_10 rfl J rfl 3968 ⟨rfl, rfl⟩ rfl ?_
                refine z_getR (N := 20) (b := 55) 1 11 rfl f_11_452 rfl J rfl 4107 ⟨rfl, rfl⟩ rfl ?_
                refine x_inv (N := m_X8_isFull) (As := []) (b := 55) (st := []) (dx9 := 1) (mc := 0) (ms := 0) (host := "") 8 rfl t_X8_isFull ⟨Or.inl q_11_130, i_X8_isFull.1, i_X8_isFull.2⟩ ⟨by decide, rfl⟩ (congrArg Prod.fst (J.1.1 55 (8, 4) rfl)) rfl (by decide) rfl rfl ⟨by decide, by decide⟩ (sf_X8_isFull_r55d  hD J rfl  (fun v16 h ev16 J S13 X14 X15 => ?_))
                have Sm := jSm_tr rfl Sm S13
                try rw [X14] at D
                try rw [← X15] at D
                show jX m_X11_pay 3 0 0 76 [(0, .ref 31), (1, .int a1), (2, .int a2), (3, .int a3), (4, .int a4), (5, .int a5)] [.int v16] _ 0 0 _
                refine x_ifeq (tgt := 86) rfl rfl (ti_eq rfl jk_0 ⟨fun c17 => ?_, fun c17 => ?_⟩)
                ·
                  rw [if_pos (by omega)] at D
                  refine x_aloadn (x := 31) rfl rfl ?_
                  refine z_getR (N := 13) (b := 32) 11 0 rfl f_11_10 rfl J rfl 3968 ⟨rfl, rfl⟩ rfl ?_
                  refine z_getR (N := 20) (b := 55) 1 11 rfl f_11_452 rfl J rfl 4107 ⟨rfl, rfl⟩ rfl ?_
                  refine x_iload (x := a5) rfl rfl ?_
                  refine x_iload (x := a4) rfl rfl ?_
                  refine x_iloadn (x := a2) rfl rfl ?_
                  refine x_iloadn (x := a1) rfl rfl ?_
                  refine x_iloadn (x := a3) rfl rfl ?_
                  refine x_iconst (v := 0) rfl ki_0 ?_
                  refine x_inv (N := m_X8_add) (As := [.int a5, .int a4, .int a2, .int a1, .int a3, .int 0]) (b := 55) (st := []) (dx9 := 2) (mc := 0) (ms := 0) (host := "") 8 rfl t_X8_add ⟨Or.inl q_11_145, i_X8_add.1, i_X8_add.2⟩ ⟨by decide, rfl⟩ (congrArg Prod.fst (J.1.1 55 (8, 4) rfl)) rfl (by decide) rfl rfl ⟨by decide, by decide⟩ (sf_X8_add_r55d (jr_of rfl (by omega)) (jr_of rfl (by omega)) (jr_of rfl (by omega)) (jr_of rfl (by omega)) (jr_of rfl (by omega)) (jr_of jk_0 (by omega)) hD J rfl  (fun h J S18 X19 => ?_))
                  have Sm := jSm_tr rfl Sm S18
                  try rw [jk_0] at X19
                  rw [X19] at D
                  show jX m_X11_pay 3 0 0 104 [(0, .ref 31), (1, .int a1), (2, .int a2), (3, .int a3), (4, .int a4), (5, .int a5)] [] _ 0 0 _
                  refine x_aloadn (x := 31) rfl rfl ?_
                  refine x_aloadn (x := 31) rfl rfl ?_
                  refine z_getR (N := 13) (b := 32) 11 0 rfl f_11_10 rfl J rfl 3968 ⟨rfl, rfl⟩ rfl ?_
                  refine z_getR (N := 20) (b := 55) 1 11 rfl f_11_452 rfl J rfl 4107 ⟨rfl, rfl⟩ rfl ?_
                  refine z_getI (N := 4) 8 3 rfl f_11_142 rfl J rfl sg_55_3_4_1_0_1 (fun v20 qv20 ev20 => ?_)
                  try rw [vrf qv20] at D
                  refine x_inv (N := m_X11_accept) (As := [.int v20]) (b := 31) (st := []) (dx9 := 2) (mc := 0) (ms := 0) (host := "") 11 rfl t_X11_accept ⟨Or.inl q_11_165, i_X11_accept.1, i_X11_accept.2⟩ ⟨by decide, rfl⟩ (congrArg Prod.fst (J.1.1 31 (11, 13) rfl)) rfl (by decide) rfl rfl ⟨by decide, by decide⟩ (jC.of rfl k_X11_accept rfl ?_)
                  show jX m_X11_accept 2 0 0 0 [(0, .ref 31), (1, .int v20)] [] _ 0 0 _
                  refine x_aloadn (x := 31) rfl rfl ?_
                  refine x_iconst (v := 0) rfl ki_0 ?_
                  refine z_putI (N := 13) (w := 0) 11 12 rfl f_11_94 rfl (jfin_no TX11 RX11 13 rfl rfl) hD J Sm rfl rfl jk_0 (pw_31_12 (by omega)) rfl (fun h w21 J Sm => ?_)
                  rw [vwf w21 (show 0 = (0 : Int32).toInt from by have := jk_0; omega)] at D
                  refine x_aloadn (x := 31) rfl rfl ?_
                  refine z_getR (N := 13) (b := 32) 11 0 rfl f_11_10 rfl J rfl 3968 ⟨rfl, rfl⟩ rfl ?_
                  refine x_dup rfl rfl ?_
                  refine z_getI0 (N := 20) 1 19 rfl f_11_528 rfl J rfl (fun v22 qv22 => ?_)
                  have ev22 := jfull v22
                  try rw [vrf (jmb_c S18 (jmb_w w21 qv22 rfl) rfl)] at D
                  refine x_iconst (v := 1) rfl ki_1 ?_
                  refine z_iaddW rfl rfl jk_1 (fun v23 ev23 => ?_)
                  have fv23 := jfull v23
                  try rw [← ev23] at D
                  refine z_putI (N := 20) (w := v23.toInt) 1 19 rfl f_11_528 rfl (jfin_no TX1 RX1 20 rfl rfl) hD J Sm rfl rfl rfl (pw_32_19 trivial) rfl (fun h w24 J Sm => ?_)
                  rw [vwf w24 (show v23.toInt = v23.toInt from by omega)] at D
                  refine x_iloadn (x := v20) rfl rfl ?_
                  refine x_iret rfl rfl ?_
                  show jX m_X11_pay 3 0 0 118 [(0, .ref 31), (1, .int a1), (2, .int a2), (3, .int a3), (4, .int a4), (5, .int a5)] [.int v20] _ 0 0 _
                  refine x_iret rfl rfl ?_
                  exact hQ _ _ (jr_of rfl (by omega)) J Sm ((congrArg Prod.fst D).symm.trans (show v20.toInt = v20.toInt from by omega)) (congrArg Prod.snd D).symm
                ·
                  rw [if_neg (by omega)] at D
                  refine x_aloadn (x := 31) rfl rfl ?_
                  refine x_bipush (v := (-5)) rfl kb_m5 ?_
                  refine x_inv (N := m_X11_refuse) (As := [.int (-5)]) (b := 31) (st := []) (dx9 := 2) (mc := 0) (ms := 0) (host := "") 11 rfl t_X11_refuse ⟨Or.inl q_11_206, i_X11_refuse.1, i_X11_refuse.2⟩ ⟨by decide, rfl⟩ (congrArg Prod.fst (J.1.1 31 (11, 13) rfl)) rfl (by decide) rfl rfl ⟨by decide, by decide⟩ (jC.of rfl k_X11_refuse rfl ?_)
                  show jX m_X11_refuse 2 0 0 0 [(0, .ref 31), (1, .int (-5))] [] _ 0 0 _
                  refine x_aloadn (x := 31) rfl rfl ?_
                  refine x_iloadn (x := (-5)) rfl rfl ?_
                  refine z_putI (N := 13) (w := (-5)) 11 12 rfl f_11_94 rfl (jfin_no TX11 RX11 13 rfl rfl) hD J Sm rfl rfl jk_m5 (pw_31_12 (by omega)) rfl (fun h w25 J Sm => ?_)
                  rw [vwf w25 (show (-5) = ((-5) : Int32).toInt from by have := jk_m5; omega)] at D
                  refine x_iloadn (x := (-5)) rfl rfl ?_
                  refine x_iret rfl rfl ?_
                  show jX m_X11_pay 3 0 0 85 [(0, .ref 31), (1, .int a1), (2, .int a2), (3, .int a3), (4, .int a4), (5, .int a5)] [.int (-5)] _ 0 0 _
                  refine x_iret rfl rfl ?_
                  exact hQ _ _ (jr_of jk_m5 (by omega)) J Sm ((congrArg Prod.fst D).symm.trans (show (-5) = ((-5) : Int32).toInt from by have := jk_m5; omega)) (congrArg Prod.snd D).symm
      ·
        rw [if_neg (by omega)] at D
        exact jX.sub (jsb_c rfl jsb_n) (ct_X11_pay_r31d_27 hD hQ  h J Sm D)
def fp_X11_piece_r31d : jFp := []
set_option maxRecDepth 100000 in
set_option maxHeartbeats 4000000 in
theorem ct_X11_piece_r31d_12 {Dy : jH → Prop} {h0 : jH} {Q : Option Value → jH → Prop} {dr : Int} (hD : jDk Dy) (hQ : ∀ (v : Int32) hx9, jJ jSgX Dy hx9 → jSm fp_X11_piece_r31d h0 hx9 → dr = v.toInt → vw hx9 = vw h0 → Q (some (.int v)) hx9) : ∀ (h : jH), jJ jSgX Dy h → jSm fp_X11_piece_r31d h0 h → d_X11_piece_r31d_12  (vw h) = dr → vw h = vw h0 → jX m_X11_piece 2 0 0 12 [] [] h 0 0 Q := by
  intro  h    J Sm D EV
  unfold d_X11_piece_r31d_12 at D
  refine x_iconst (v := (-1)) rfl ki_m1 ?_
  refine x_iret rfl rfl ?_
  exact hQ _ _ J Sm (D.symm.trans (show (-1) = ((-1) : Int32).toInt from by have := jk_m1; omega)) EV
set_option maxRecDepth 100000 in
set_option maxHeartbeats 4000000 in
theorem ct_X11_piece_r31d_34 {Dy : jH → Prop} {h0 : jH} {Q : Option Value → jH → Prop} {dr : Int} (hD : jDk Dy) (hQ : ∀ (v : Int32) hx9, jJ jSgX Dy hx9 → jSm fp_X11_piece_r31d h0 hx9 → dr = v.toInt → vw hx9 = vw h0 → Q (some (.int v)) hx9) : ∀ (h : jH), jJ jSgX Dy h → jSm fp_X11_piece_r31d h0 h → d_X11_piece_r31d_34  (vw h) = dr → vw h = vw h0 → jX m_X11_piece 2 0 0 34 [] [] h 0 0 Q := by
  intro  h    J Sm D EV
  unfold d_X11_piece_r31d_34 at D
  refine x_bipush (v := (-2)) rfl kb_m2 ?_
  refine x_iret rfl rfl ?_
  exact hQ _ _ J Sm (D.symm.trans (show (-2) = ((-2) : Int32).toInt from by have := jk_m2; omega)) EV
set_option maxRecDepth 100000 in
set_option maxHeartbeats 4000000 in
theorem ct_X11_piece_r31d_86 {Dy : jH → Prop} {h0 : jH} {Q : Option Value → jH → Prop} {dr : Int} (hD : jDk Dy) (hQ : ∀ (v : Int32) hx9, jJ jSgX Dy hx9 → jSm fp_X11_piece_r31d h0 hx9 → dr = v.toInt → vw hx9 = vw h0 → Q (some (.int v)) hx9) : ∀ (h : jH), jJ jSgX Dy h → jSm fp_X11_piece_r31d h0 h → d_X11_piece_r31d_86  (vw h) = dr → vw h = vw h0 → jX m_X11_piece 2 0 0 86 [] [] h 0 0 Q := by
  intro  h    J Sm D EV
  unfold d_X11_piece_r31d_86 at D
  refine x_bipush (v := (-3)) rfl kb_m3 ?_
  refine x_iret rfl rfl ?_
  exact hQ _ _ J Sm (D.symm.trans (show (-3) = ((-3) : Int32).toInt from by have := jk_m3; omega)) EV
set_option maxRecDepth 100000 in
set_option maxHeartbeats 4000000 in
theorem ct_X11_piece_r31d_95 {Dy : jH → Prop} {h0 : jH} {Q : Option Value → jH → Prop} {dr : Int} (hD : jDk Dy) (hQ : ∀ (v : Int32) hx9, jJ jSgX Dy hx9 → jSm fp_X11_piece_r31d h0 hx9 → dr = v.toInt → vw hx9 = vw h0 → Q (some (.int v)) hx9) : ∀ r : Nat, ∀ (l3 : Int32) (l4 : Int32) (l5 : Int32) (l7 : Int32) (l8 : Int32) (h : jH), 6 - l8.toInt < (r : Int) → 0 ≤ l3.toInt ∧ l3.toInt ≤ 12 → 0 ≤ l4.toInt ∧ l4.toInt ≤ 6 → 0 ≤ l5.toInt ∧ l5.toInt ≤ 1199 → 0 ≤ l8.toInt ∧ l8.toInt ≤ 6 → jJ jSgX Dy h → jSm fp_X11_piece_r31d h0 h → d_X11_piece_r31d_95 r l3.toInt l4.toInt l5.toInt l7.toInt l8.toInt (vw h) = dr → vw h = vw h0 → jX m_X11_piece 2 0 0 95 [(0, .ref 31), (3, .int l3), (4, .int l4), (5, .int l5), (7, .int l7), (8, .int l8)] [] h 0 0 Q := by
  intro r
  induction r with
  | zero =>
    intro l3 l4 l5 l7 l8 h hm y0 y1 y2 y3   J Sm D EV
    exfalso
    have el7 := jfull l7
    omega
  | succ r ih =>
    intro l3 l4 l5 l7 l8 h hm y0 y1 y2 y3   J Sm D EV
    have el7 := jfull l7
    rw [d_X11_piece_r31d_95.eq_2] at D
    refine x_iload (x := l8) rfl rfl ?_
    refine x_iload (x := l4) rfl rfl ?_
    refine x_icge (tgt := 139) rfl rfl (ti_ge rfl rfl ⟨fun c1 => ?_, fun c1 => ?_⟩)
    ·
      rw [if_pos (by omega)] at D
      refine x_iload (x := l7) rfl rfl ?_
      refine x_iret rfl rfl ?_
      exact hQ _ _ J Sm (D.symm.trans (show l7.toInt = l7.toInt from by omega)) EV
    ·
      rw [if_neg (by omega)] at D
      refine x_iload (x := l7) rfl rfl ?_
      refine x_bipush (v := 27) rfl kb_27 ?_
      refine z_imulW rfl rfl jk_27 (fun v2 ev2 => ?_)
      have fv2 := jfull v2
      try rw [← ev2] at D
      refine x_aloadn (x := 31) rfl rfl ?_
      refine z_getR (N := 13) (b := 32) 11 0 rfl f_11_10 rfl J rfl 3968 ⟨rfl, rfl⟩ rfl ?_
      refine z_getR (N := 20) (b := 35) 1 1 rfl f_11_149 rfl J rfl 4097 ⟨rfl, rfl⟩ rfl ?_
      refine x_iload (x := l5) rfl rfl ?_
      refine x_iconst (v := 2) rfl ki_2 ?_
      refine x_iloadn (x := l3) rfl rfl ?_
      refine z_iadd rfl jk_2 rfl (by omega) (fun v3 ev3 => ?_)
      refine x_iload (x := l8) rfl rfl ?_
      refine z_iadd rfl rfl rfl (by omega) (fun v4 ev4 => ?_)
      try rw [show ((2 + l3.toInt) + l8.toInt) = v4.toInt from by omega] at D
      refine x_inv (N := m_X8_at) (As := [.int l5, .int v4]) (b := 35) (st := [.int v2]) (dx9 := 1) (mc := 0) (ms := 0) (host := "") 8 rfl t_X8_at ⟨Or.inl q_11_171, i_X8_at.1, i_X8_at.2⟩ ⟨by decide, rfl⟩ (congrArg Prod.fst (J.1.1 35 (8, 4) rfl)) rfl (by decide) rfl rfl ⟨by decide, by decide⟩ (sf_X8_at_r35d (jr_of rfl (by omega)) (jr_of rfl (by omega)) hD J rfl  (fun v8 h J S5 X6 X7 => ?_))
      have ev8 := jfull v8
      have Sm := jSm_tr rfl Sm S5
      try rw [X6] at D
      try rw [← X7] at D
      have EV := X7.trans EV
      show jX m_X11_piece 2 0 0 125 [(0, .ref 31), (3, .int l3), (4, .int l4), (5, .int l5), (7, .int l7), (8, .int l8)] [.int v8, .int v2] _ 0 0 _
      refine z_iaddW rfl rfl rfl (fun v9 ev9 => ?_)
      have fv9 := jfull v9
      try rw [← ev9] at D
      refine x_bipush (v := 97) rfl kb_97 ?_
      refine z_isubW rfl rfl jk_97 (fun v10 ev10 => ?_)
      have fv10 := jfull v10
      try rw [← ev10] at D
      refine x_iconst (v := 1) rfl ki_1 ?_
      refine z_iaddW rfl rfl jk_1 (fun v11 ev11 => ?_)
      have fv11 := jfull v11
      try rw [← ev11] at D
      refine x_istore (lsx9 := [(7, .int v11), (0, .ref 31), (3, .int l3), (4, .int l4), (5, .int l5), (8, .int l8)]) rfl rfl rfl ?_
      refine z_iinc (x := l8) (lsx9 := fun v12 => [(8, .int v12), (7, .int v11), (0, .ref 31), (3, .int l3), (4, .int l4), (5, .int l5)]) rfl rfl rfl jko_1 (by omega) rfl (fun _ => rfl) (fun v12 ev12 => ?_)
      refine x_goto (tgt := 95) rfl rfl ?_
      try rw [show (l8.toInt + 1) = v12.toInt from by omega] at D
      exact jX.sub (jsb_c rfl (jsb_c rfl (jsb_c rfl (jsb_c rfl (jsb_c rfl (jsb_c rfl jsb_n)))))) (ih l3 l4 l5 v11 v12 h (by omega) (jr_of rfl (by omega)) (jr_of rfl (by omega)) (jr_of rfl (by omega)) (jr_of rfl (by omega)) J Sm D EV)
set_option maxRecDepth 100000 in
set_option maxHeartbeats 4000000 in
theorem sf_X11_piece_r31d {Dy : jH → Prop} {h : jH} {Q : Option Value → jH → Prop} {dr : Int} {a1 : Int32} {a2 : Int32} {a3 : Int32} {a4 : Int32} (hD : jDk Dy) (J : jJ jSgX Dy h) (D : d_X11_piece_r31d a1.toInt a2.toInt a3.toInt a4.toInt (vw h) = dr) (hQ : ∀ (v : Int32) hx9, jJ jSgX Dy hx9 → jSm fp_X11_piece_r31d h hx9 → dr = v.toInt → vw hx9 = vw h → Q (some (.int v)) hx9) : jC m_X11_piece 2 0 0 [.ref 31, .int a1, .int a2, .int a3, .int a4] h Q := by
  refine jC.of rfl k_X11_piece rfl ?_
  have Sm := jSm_rf fp_X11_piece_r31d h
  have ea1 := jfull a1
  have ea2 := jfull a2
  have ea3 := jfull a3
  have ea4 := jfull a4
  show jX m_X11_piece 2 0 0 0 [(0, .ref 31), (1, .int a1), (2, .int a2), (3, .int a3), (4, .int a4)] [] _ 0 0 _
  unfold d_X11_piece_r31d at D
  have EV : vw h = vw h := rfl
  refine x_iload (x := a4) rfl rfl ?_
  refine x_iflt (tgt := 12) rfl rfl (ti_lt rfl jk_0 ⟨fun c1 => ?_, fun c1 => ?_⟩)
  ·
    rw [if_pos (by omega)] at D
    exact jX.sub jsb_n (ct_X11_piece_r31d_12 hD hQ  h J Sm D EV)
  ·
    rw [if_neg (by omega)] at D
    refine x_iload (x := a4) rfl rfl ?_
    refine x_bipush (v := 6) rfl kb_6 ?_
    refine x_icle (tgt := 14) rfl rfl (ti_le rfl jk_6 ⟨fun c2 => ?_, fun c2 => ?_⟩)
    ·
      rw [if_pos (by omega)] at D
      refine x_aloadn (x := 31) rfl rfl ?_
      refine z_getR (N := 13) (b := 78) 11 4 rfl f_11_41 rfl J rfl 3972 ⟨rfl, rfl⟩ rfl ?_
      refine x_iloadn (x := a1) rfl rfl ?_
      refine x_inv (N := m_X7_isMention) (As := [.int a1]) (b := 78) (st := []) (dx9 := 1) (mc := 0) (ms := 0) (host := "") 7 rfl t_X7_isMention ⟨Or.inl q_11_187, i_X7_isMention.1, i_X7_isMention.2⟩ ⟨by decide, rfl⟩ (congrArg Prod.fst (J.1.1 78 (7, 16) rfl)) rfl (by decide) rfl rfl ⟨by decide, by decide⟩ (jC.of rfl k_X7_isMention rfl ?_)
      show jX m_X7_isMention 1 0 0 0 [(0, .ref 78), (1, .int a1)] [] _ 0 0 _
      refine x_iloadn (x := a1) rfl rfl ?_
      refine x_iflt (tgt := 41) rfl rfl (ti_lt rfl jk_0 ⟨fun c3 => ?_, fun c3 => ?_⟩)
      ·
        rw [if_pos (by omega)] at D
        refine x_iconst (v := 0) rfl ki_0 ?_
        refine x_zret rfl rfl (by decide) ?_
        show jX m_X11_piece 2 0 0 22 [(0, .ref 31), (1, .int a1), (2, .int a2), (3, .int a3), (4, .int a4)] [.int 0] _ 0 0 _
        refine x_ifeq (tgt := 34) rfl rfl (ti_eq jk_0 jk_0 (br_t (by omega) ?_))
        exact jX.sub jsb_n (ct_X11_piece_r31d_34 hD hQ  h J Sm D EV)
      ·
        rw [if_neg (by omega)] at D
        refine x_iloadn (x := a1) rfl rfl ?_
        refine x_sipush (v := 600) rfl ks_600 ?_
        refine x_icge (tgt := 41) rfl rfl (ti_ge rfl jk_600 ⟨fun c4 => ?_, fun c4 => ?_⟩)
        ·
          rw [if_pos (by omega)] at D
          refine x_iconst (v := 0) rfl ki_0 ?_
          refine x_zret rfl rfl (by decide) ?_
          show jX m_X11_piece 2 0 0 22 [(0, .ref 31), (1, .int a1), (2, .int a2), (3, .int a3), (4, .int a4)] [.int 0] _ 0 0 _
          refine x_ifeq (tgt := 34) rfl rfl (ti_eq jk_0 jk_0 (br_t (by omega) ?_))
          exact jX.sub jsb_n (ct_X11_piece_r31d_34 hD hQ  h J Sm D EV)
        ·
          rw [if_neg (by omega)] at D
          refine x_iloadn (x := a1) rfl rfl ?_
          refine x_iconst (v := 3) rfl ki_3 ?_
          refine z_idiv rfl rfl jk_3 (by omega) (by omega) (fun v5 ev5 => ?_)
          refine x_aloadn (x := 78) rfl rfl ?_
          refine z_getR (N := 16) (b := 32) 7 0 rfl f_7_55 rfl J rfl 9984 ⟨rfl, rfl⟩ rfl ?_
          refine z_getR (N := 20) (b := 33) 1 0 rfl f_7_63 rfl J rfl 4096 ⟨rfl, rfl⟩ rfl ?_
          refine z_getI (N := 4) 8 3 rfl f_7_85 rfl J rfl sg_33_3_4_1_0_1 (fun v6 qv6 ev6 => ?_)
          try rw [vrf qv6] at D
          refine x_icge (tgt := 41) rfl rfl (ti_ge rfl rfl ⟨fun c7 => ?_, fun c7 => ?_⟩)
          ·
            rw [if_pos (by omega)] at D
            refine x_iconst (v := 0) rfl ki_0 ?_
            refine x_zret rfl rfl (by decide) ?_
            show jX m_X11_piece 2 0 0 22 [(0, .ref 31), (1, .int a1), (2, .int a2), (3, .int a3), (4, .int a4)] [.int 0] _ 0 0 _
            refine x_ifeq (tgt := 34) rfl rfl (ti_eq jk_0 jk_0 (br_t (by omega) ?_))
            exact jX.sub jsb_n (ct_X11_piece_r31d_34 hD hQ  h J Sm D EV)
          ·
            rw [if_neg (by omega)] at D
            refine x_aloadn (x := 78) rfl rfl ?_
            refine z_getR (N := 16) (b := 79) 7 7 rfl f_7_27 rfl J rfl 9991 ⟨rfl, rfl⟩ rfl ?_
            refine x_iloadn (x := a1) rfl rfl ?_
            refine z_iald (N := 600) rfl J rfl sg_79_0_600_1_0_1 rfl (by omega) (fun v8 qv8 ev8 => ?_)
            try rw [vrd qv8 (show a1.toInt = a1.toInt from by omega)] at D
            refine x_iconst (v := (-1)) rfl ki_m1 ?_
            refine x_iceq (tgt := 41) rfl rfl (ti_eq rfl jk_m1 ⟨fun c9 => ?_, fun c9 => ?_⟩)
            ·
              rw [if_pos (by omega)] at D
              refine x_iconst (v := 0) rfl ki_0 ?_
              refine x_zret rfl rfl (by decide) ?_
              show jX m_X11_piece 2 0 0 22 [(0, .ref 31), (1, .int a1), (2, .int a2), (3, .int a3), (4, .int a4)] [.int 0] _ 0 0 _
              refine x_ifeq (tgt := 34) rfl rfl (ti_eq jk_0 jk_0 (br_t (by omega) ?_))
              exact jX.sub jsb_n (ct_X11_piece_r31d_34 hD hQ  h J Sm D EV)
            ·
              rw [if_neg (by omega)] at D
              refine x_iconst (v := 1) rfl ki_1 ?_
              refine x_goto (tgt := 42) rfl rfl ?_
              refine x_zret rfl rfl (by decide) ?_
              show jX m_X11_piece 2 0 0 22 [(0, .ref 31), (1, .int a1), (2, .int a2), (3, .int a3), (4, .int a4)] [.int 1] _ 0 0 _
              refine x_ifeq (tgt := 34) rfl rfl (ti_eq jk_1 jk_0 (br_f (by omega) ?_))
              refine x_iloadn (x := a2) rfl rfl ?_
              refine x_iflt (tgt := 34) rfl rfl (ti_lt rfl jk_0 ⟨fun c10 => ?_, fun c10 => ?_⟩)
              ·
                rw [if_pos (by omega)] at D
                exact jX.sub jsb_n (ct_X11_piece_r31d_34 hD hQ  h J Sm D EV)
              ·
                rw [if_neg (by omega)] at D
                refine x_iloadn (x := a2) rfl rfl ?_
                refine x_iconst (v := 1) rfl ki_1 ?_
                refine x_icle (tgt := 37) rfl rfl (ti_le rfl jk_1 ⟨fun c11 => ?_, fun c11 => ?_⟩)
                ·
                  rw [if_pos (by omega)] at D
                  refine x_iloadn (x := a1) rfl rfl ?_
                  refine x_iconst (v := 2) rfl ki_2 ?_
                  refine z_imul rfl rfl jk_2 (by omega) (fun v12 ev12 => ?_)
                  refine x_iloadn (x := a2) rfl rfl ?_
                  refine z_iadd rfl rfl rfl (by omega) (fun v13 ev13 => ?_)
                  refine x_istore (lsx9 := [(5, .int v13), (0, .ref 31), (1, .int a1), (2, .int a2), (3, .int a3), (4, .int a4)]) rfl rfl rfl ?_
                  refine x_aloadn (x := 31) rfl rfl ?_
                  refine z_getR (N := 13) (b := 32) 11 0 rfl f_11_10 rfl J rfl 3968 ⟨rfl, rfl⟩ rfl ?_
                  refine z_getR (N := 20) (b := 35) 1 1 rfl f_11_149 rfl J rfl 4097 ⟨rfl, rfl⟩ rfl ?_
                  refine x_iload (x := v13) rfl rfl ?_
                  refine x_iconst (v := 0) rfl ki_0 ?_
                  try rw [show ((a1.toInt * 2) + a2.toInt) = v13.toInt from by omega] at D
                  refine x_inv (N := m_X8_at) (As := [.int v13, .int 0]) (b := 35) (st := []) (dx9 := 1) (mc := 0) (ms := 0) (host := "") 8 rfl t_X8_at ⟨Or.inl q_11_171, i_X8_at.1, i_X8_at.2⟩ ⟨by decide, rfl⟩ (congrArg Prod.fst (J.1.1 35 (8, 4) rfl)) rfl (by decide) rfl rfl ⟨by decide, by decide⟩ (sf_X8_at_r35_c0d (jr_of rfl (by omega)) hD J rfl  (fun v17 h ev17 J S14 X15 X16 => ?_))
                  have Sm := jSm_tr rfl Sm S14
                  try rw [X15] at D
                  try rw [← X16] at D
                  have EV := X16.trans EV
                  show jX m_X11_piece 2 0 0 57 [(5, .int v13), (0, .ref 31), (1, .int a1), (2, .int a2), (3, .int a3), (4, .int a4)] [.int v17] _ 0 0 _
                  refine x_istore (lsx9 := [(6, .int v17), (5, .int v13), (0, .ref 31), (1, .int a1), (2, .int a2), (3, .int a3), (4, .int a4)]) rfl rfl rfl ?_
                  refine x_iload (x := v17) rfl rfl ?_
                  refine x_ifne (tgt := 67) rfl rfl (ti_ne rfl jk_0 ⟨fun c18 => ?_, fun c18 => ?_⟩)
                  ·
                    rw [if_neg (by omega)] at D
                    refine x_iloadn (x := a3) rfl rfl ?_
                    refine x_iflt (tgt := 86) rfl rfl (ti_lt rfl jk_0 ⟨fun c19 => ?_, fun c19 => ?_⟩)
                    ·
                      rw [if_pos (by omega)] at D
                      exact jX.sub jsb_n (ct_X11_piece_r31d_86 hD hQ  h J Sm D EV)
                    ·
                      rw [if_neg (by omega)] at D
                      refine x_iloadn (x := a3) rfl rfl ?_
                      refine x_iload (x := v17) rfl rfl ?_
                      refine x_icgt (tgt := 86) rfl rfl (ti_gt rfl rfl ⟨fun c20 => ?_, fun c20 => ?_⟩)
                      ·
                        rw [if_pos (by omega)] at D
                        exact jX.sub jsb_n (ct_X11_piece_r31d_86 hD hQ  h J Sm D EV)
                      ·
                        rw [if_neg (by omega)] at D
                        refine x_iload (x := a4) rfl rfl ?_
                        refine x_iload (x := v17) rfl rfl ?_
                        refine x_iloadn (x := a3) rfl rfl ?_
                        refine z_isub rfl rfl rfl (by omega) (fun v21 ev21 => ?_)
                        refine x_icle (tgt := 89) rfl rfl (ti_le rfl rfl ⟨fun c22 => ?_, fun c22 => ?_⟩)
                        ·
                          rw [if_pos (by omega)] at D
                          refine x_iconst (v := 0) rfl ki_0 ?_
                          refine x_istore (lsx9 := [(7, .int 0), (6, .int v17), (5, .int v13), (0, .ref 31), (1, .int a1), (2, .int a2), (3, .int a3), (4, .int a4)]) rfl rfl rfl ?_
                          refine x_iconst (v := 0) rfl ki_0 ?_
                          refine x_istore (lsx9 := [(8, .int 0), (7, .int 0), (6, .int v17), (5, .int v13), (0, .ref 31), (1, .int a1), (2, .int a2), (3, .int a3), (4, .int a4)]) rfl rfl rfl ?_
                          exact jX.sub (jsb_c rfl (jsb_c rfl (jsb_c rfl (jsb_c rfl (jsb_c rfl (jsb_c rfl jsb_n)))))) (ct_X11_piece_r31d_95 hD hQ  7 a3 a4 v13 0 0 h (by have := jk_0; omega) (jr_of rfl (by omega)) (jr_of rfl (by omega)) (jr_of rfl (by omega)) (jr_of jk_0 (by omega)) J Sm (by rw [jk_0]; exact D) EV)
                        ·
                          rw [if_neg (by omega)] at D
                          exact jX.sub jsb_n (ct_X11_piece_r31d_86 hD hQ  h J Sm D EV)
                  ·
                    rw [if_pos (by omega)] at D
                    refine x_bipush (v := (-2)) rfl kb_m2 ?_
                    refine x_iret rfl rfl ?_
                    exact hQ _ _ J Sm (D.symm.trans (show (-2) = ((-2) : Int32).toInt from by have := jk_m2; omega)) EV
                ·
                  rw [if_neg (by omega)] at D
                  exact jX.sub jsb_n (ct_X11_piece_r31d_34 hD hQ  h J Sm D EV)
    ·
      rw [if_neg (by omega)] at D
      exact jX.sub jsb_n (ct_X11_piece_r31d_12 hD hQ  h J Sm D EV)
def fp_X8_put_r61_c0d : jFp := [(62, 0, 400)]
set_option maxRecDepth 100000 in
set_option maxHeartbeats 4000000 in
theorem ct_X8_put_r61_c0d_38 {Dy : jH → Prop} {h0 : jH} {Q : Option Value → jH → Prop} {dr : jW} (hD : jDk Dy) (hQ : ∀ hx9, jJ jSgX Dy hx9 → jSm fp_X8_put_r61_c0d h0 hx9 → dr = vw hx9 → Q none hx9) : ∀ (h : jH), jJ jSgX Dy h → jSm fp_X8_put_r61_c0d h0 h → d_X8_put_r61_c0d_38  (vw h) = dr → jX m_X8_put 1 0 0 38 [] [] h 0 0 Q := by
  intro  h    J Sm D
  unfold d_X8_put_r61_c0d_38 at D
  refine x_vret rfl rfl ?_
  exact hQ _ J Sm D.symm
set_option maxRecDepth 100000 in
set_option maxHeartbeats 4000000 in
theorem sf_X8_put_r61_c0d {Dy : jH → Prop} {h : jH} {Q : Option Value → jH → Prop} {dr : jW} {a1 : Int32} {a3 : Int32} (y1 : 0 ≤ a1.toInt ∧ a1.toInt ≤ 99) (y3 : 0 ≤ a3.toInt ∧ a3.toInt ≤ 146399) (hD : jDk Dy) (J : jJ jSgX Dy h) (D : d_X8_put_r61_c0d a1.toInt a3.toInt (vw h) = dr) (hQ : ∀ hx9, jJ jSgX Dy hx9 → jSm fp_X8_put_r61_c0d h hx9 → dr = vw hx9 → Q none hx9) : jC m_X8_put 1 0 0 [.ref 61, .int a1, .int 0, .int a3] h Q := by
  refine jC.of rfl k_X8_put rfl ?_
  have Sm := jSm_rf fp_X8_put_r61_c0d h
  show jX m_X8_put 1 0 0 0 [(0, .ref 61), (1, .int a1), (2, .int 0), (3, .int a3)] [] _ 0 0 _
  unfold d_X8_put_r61_c0d at D
  refine x_iloadn (x := a1) rfl rfl ?_
  refine x_iflt (tgt := 38) rfl rfl (ti_lt rfl jk_0 (br_f (by omega) ?_))
  refine x_iloadn (x := a1) rfl rfl ?_
  refine x_aloadn (x := 61) rfl rfl ?_
  refine z_getI (N := 4) 8 3 rfl f_8_7 rfl J rfl sg_61_3_4_1_0_1 (fun v1 qv1 ev1 => ?_)
  try rw [vrf qv1] at D
  refine x_icge (tgt := 38) rfl rfl (ti_ge rfl rfl ⟨fun c2 => ?_, fun c2 => ?_⟩)
  ·
    rw [if_pos (by omega)] at D
    exact jX.sub jsb_n (ct_X8_put_r61_c0d_38 hD hQ  h J Sm D)
  ·
    rw [if_neg (by omega)] at D
    refine x_iloadn (x := 0) rfl rfl ?_
    refine x_iflt (tgt := 38) rfl rfl (ti_lt jk_0 jk_0 (br_f (by omega) ?_))
    refine x_iloadn (x := 0) rfl rfl ?_
    refine x_aloadn (x := 61) rfl rfl ?_
    refine z_getC (N := 4) (v := 4) 8 0 rfl f_8_19 rfl J rfl sg_61_0_1_1_0_1 jk_4 ?_
    refine x_icge (tgt := 38) rfl rfl (ti_ge jk_0 jk_4 (br_f (by omega) ?_))
    refine x_aloadn (x := 61) rfl rfl ?_
    refine z_getR (N := 4) (b := 62) 8 2 rfl f_8_25 rfl J rfl 7810 ⟨rfl, rfl⟩ rfl ?_
    refine x_iloadn (x := a1) rfl rfl ?_
    refine x_aloadn (x := 61) rfl rfl ?_
    refine z_getC (N := 4) (v := 4) 8 0 rfl f_8_19 rfl J rfl sg_61_0_1_1_0_1 jk_4 ?_
    refine z_imul rfl rfl jk_4 (by omega) (fun v3 ev3 => ?_)
    refine x_iloadn (x := 0) rfl rfl ?_
    refine z_iadd rfl rfl jk_0 (by omega) (fun v4 ev4 => ?_)
    refine x_iloadn (x := a3) rfl rfl ?_
    refine z_iast (N := 400) (l := 0) (u := 400) (w := a3.toInt) rfl hD J Sm rfl rfl rfl (by omega) rfl (wr_62 (fun q1 q2 q3 q4 => by omega) (fun q1 q2 q3 q4 => by omega) (fun q1 q2 q3 q4 => by omega) (fun q1 q2 q3 q4 => by omega)) rfl (fun h w5 J Sm => ?_)
    rw [vww w5 (show ((a1.toInt * 4) + 0) = v4.toInt from by omega) (show a3.toInt = a3.toInt from by omega)] at D
    exact jX.sub jsb_n (ct_X8_put_r61_c0d_38 hD hQ  h J Sm D)
def fp_X8_put_r61_c1d : jFp := [(62, 0, 400)]
set_option maxRecDepth 100000 in
set_option maxHeartbeats 4000000 in
theorem ct_X8_put_r61_c1d_38 {Dy : jH → Prop} {h0 : jH} {Q : Option Value → jH → Prop} {dr : jW} (hD : jDk Dy) (hQ : ∀ hx9, jJ jSgX Dy hx9 → jSm fp_X8_put_r61_c1d h0 hx9 → dr = vw hx9 → Q none hx9) : ∀ (h : jH), jJ jSgX Dy h → jSm fp_X8_put_r61_c1d h0 h → d_X8_put_r61_c1d_38  (vw h) = dr → jX m_X8_put 1 0 0 38 [] [] h 0 0 Q := by
  intro  h    J Sm D
  unfold d_X8_put_r61_c1d_38 at D
  refine x_vret rfl rfl ?_
  exact hQ _ J Sm D.symm
set_option maxRecDepth 100000 in
set_option maxHeartbeats 4000000 in
theorem sf_X8_put_r61_c1d {Dy : jH → Prop} {h : jH} {Q : Option Value → jH → Prop} {dr : jW} {a1 : Int32} {a3 : Int32} (y1 : 0 ≤ a1.toInt ∧ a1.toInt ≤ 99) (y3 : 0 ≤ a3.toInt ∧ a3.toInt ≤ 399) (hD : jDk Dy) (J : jJ jSgX Dy h) (D : d_X8_put_r61_c1d a1.toInt a3.toInt (vw h) = dr) (hQ : ∀ hx9, jJ jSgX Dy hx9 → jSm fp_X8_put_r61_c1d h hx9 → dr = vw hx9 → Q none hx9) : jC m_X8_put 1 0 0 [.ref 61, .int a1, .int 1, .int a3] h Q := by
  refine jC.of rfl k_X8_put rfl ?_
  have Sm := jSm_rf fp_X8_put_r61_c1d h
  show jX m_X8_put 1 0 0 0 [(0, .ref 61), (1, .int a1), (2, .int 1), (3, .int a3)] [] _ 0 0 _
  unfold d_X8_put_r61_c1d at D
  refine x_iloadn (x := a1) rfl rfl ?_
  refine x_iflt (tgt := 38) rfl rfl (ti_lt rfl jk_0 (br_f (by omega) ?_))
  refine x_iloadn (x := a1) rfl rfl ?_
  refine x_aloadn (x := 61) rfl rfl ?_
  refine z_getI (N := 4) 8 3 rfl f_8_7 rfl J rfl sg_61_3_4_1_0_1 (fun v1 qv1 ev1 => ?_)
  try rw [vrf qv1] at D
  refine x_icge (tgt := 38) rfl rfl (ti_ge rfl rfl ⟨fun c2 => ?_, fun c2 => ?_⟩)
  ·
    rw [if_pos (by omega)] at D
    exact jX.sub jsb_n (ct_X8_put_r61_c1d_38 hD hQ  h J Sm D)
  ·
    rw [if_neg (by omega)] at D
    refine x_iloadn (x := 1) rfl rfl ?_
    refine x_iflt (tgt := 38) rfl rfl (ti_lt jk_1 jk_0 (br_f (by omega) ?_))
    refine x_iloadn (x := 1) rfl rfl ?_
    refine x_aloadn (x := 61) rfl rfl ?_
    refine z_getC (N := 4) (v := 4) 8 0 rfl f_8_19 rfl J rfl sg_61_0_1_1_0_1 jk_4 ?_
    refine x_icge (tgt := 38) rfl rfl (ti_ge jk_1 jk_4 (br_f (by omega) ?_))
    refine x_aloadn (x := 61) rfl rfl ?_
    refine z_getR (N := 4) (b := 62) 8 2 rfl f_8_25 rfl J rfl 7810 ⟨rfl, rfl⟩ rfl ?_
    refine x_iloadn (x := a1) rfl rfl ?_
    refine x_aloadn (x := 61) rfl rfl ?_
    refine z_getC (N := 4) (v := 4) 8 0 rfl f_8_19 rfl J rfl sg_61_0_1_1_0_1 jk_4 ?_
    refine z_imul rfl rfl jk_4 (by omega) (fun v3 ev3 => ?_)
    refine x_iloadn (x := 1) rfl rfl ?_
    refine z_iadd rfl rfl jk_1 (by omega) (fun v4 ev4 => ?_)
    refine x_iloadn (x := a3) rfl rfl ?_
    refine z_iast (N := 400) (l := 0) (u := 400) (w := a3.toInt) rfl hD J Sm rfl rfl rfl (by omega) rfl (wr_62 (fun q1 q2 q3 q4 => by omega) (fun q1 q2 q3 q4 => by omega) (fun q1 q2 q3 q4 => by omega) (fun q1 q2 q3 q4 => by omega)) rfl (fun h w5 J Sm => ?_)
    rw [vww w5 (show ((a1.toInt * 4) + 1) = v4.toInt from by omega) (show a3.toInt = a3.toInt from by omega)] at D
    exact jX.sub jsb_n (ct_X8_put_r61_c1d_38 hD hQ  h J Sm D)
def fp_X8_put_r61_c2d : jFp := [(62, 0, 400)]
set_option maxRecDepth 100000 in
set_option maxHeartbeats 4000000 in
theorem ct_X8_put_r61_c2d_38 {Dy : jH → Prop} {h0 : jH} {Q : Option Value → jH → Prop} {dr : jW} (hD : jDk Dy) (hQ : ∀ hx9, jJ jSgX Dy hx9 → jSm fp_X8_put_r61_c2d h0 hx9 → dr = vw hx9 → Q none hx9) : ∀ (h : jH), jJ jSgX Dy h → jSm fp_X8_put_r61_c2d h0 h → d_X8_put_r61_c2d_38  (vw h) = dr → jX m_X8_put 1 0 0 38 [] [] h 0 0 Q := by
  intro  h    J Sm D
  unfold d_X8_put_r61_c2d_38 at D
  refine x_vret rfl rfl ?_
  exact hQ _ J Sm D.symm
set_option maxRecDepth 100000 in
set_option maxHeartbeats 4000000 in
theorem sf_X8_put_r61_c2d {Dy : jH → Prop} {h : jH} {Q : Option Value → jH → Prop} {dr : jW} {a1 : Int32} {a3 : Int32} (y1 : 0 ≤ a1.toInt ∧ a1.toInt ≤ 99) (y3 : 0 ≤ a3.toInt ∧ a3.toInt ≤ 2) (hD : jDk Dy) (J : jJ jSgX Dy h) (D : d_X8_put_r61_c2d a1.toInt a3.toInt (vw h) = dr) (hQ : ∀ hx9, jJ jSgX Dy hx9 → jSm fp_X8_put_r61_c2d h hx9 → dr = vw hx9 → Q none hx9) : jC m_X8_put 1 0 0 [.ref 61, .int a1, .int 2, .int a3] h Q := by
  refine jC.of rfl k_X8_put rfl ?_
  have Sm := jSm_rf fp_X8_put_r61_c2d h
  show jX m_X8_put 1 0 0 0 [(0, .ref 61), (1, .int a1), (2, .int 2), (3, .int a3)] [] _ 0 0 _
  unfold d_X8_put_r61_c2d at D
  refine x_iloadn (x := a1) rfl rfl ?_
  refine x_iflt (tgt := 38) rfl rfl (ti_lt rfl jk_0 (br_f (by omega) ?_))
  refine x_iloadn (x := a1) rfl rfl ?_
  refine x_aloadn (x := 61) rfl rfl ?_
  refine z_getI (N := 4) 8 3 rfl f_8_7 rfl J rfl sg_61_3_4_1_0_1 (fun v1 qv1 ev1 => ?_)
  try rw [vrf qv1] at D
  refine x_icge (tgt := 38) rfl rfl (ti_ge rfl rfl ⟨fun c2 => ?_, fun c2 => ?_⟩)
  ·
    rw [if_pos (by omega)] at D
    exact jX.sub jsb_n (ct_X8_put_r61_c2d_38 hD hQ  h J Sm D)
  ·
    rw [if_neg (by omega)] at D
    refine x_iloadn (x := 2) rfl rfl ?_
    refine x_iflt (tgt := 38) rfl rfl (ti_lt jk_2 jk_0 (br_f (by omega) ?_))
    refine x_iloadn (x := 2) rfl rfl ?_
    refine x_aloadn (x := 61) rfl rfl ?_
    refine z_getC (N := 4) (v := 4) 8 0 rfl f_8_19 rfl J rfl sg_61_0_1_1_0_1 jk_4 ?_
    refine x_icge (tgt := 38) rfl rfl (ti_ge jk_2 jk_4 (br_f (by omega) ?_))
    refine x_aloadn (x := 61) rfl rfl ?_
    refine z_getR (N := 4) (b := 62) 8 2 rfl f_8_25 rfl J rfl 7810 ⟨rfl, rfl⟩ rfl ?_
    refine x_iloadn (x := a1) rfl rfl ?_
    refine x_aloadn (x := 61) rfl rfl ?_
    refine z_getC (N := 4) (v := 4) 8 0 rfl f_8_19 rfl J rfl sg_61_0_1_1_0_1 jk_4 ?_
    refine z_imul rfl rfl jk_4 (by omega) (fun v3 ev3 => ?_)
    refine x_iloadn (x := 2) rfl rfl ?_
    refine z_iadd rfl rfl jk_2 (by omega) (fun v4 ev4 => ?_)
    refine x_iloadn (x := a3) rfl rfl ?_
    refine z_iast (N := 400) (l := 0) (u := 400) (w := a3.toInt) rfl hD J Sm rfl rfl rfl (by omega) rfl (wr_62 (fun q1 q2 q3 q4 => by omega) (fun q1 q2 q3 q4 => by omega) (fun q1 q2 q3 q4 => by omega) (fun q1 q2 q3 q4 => by omega)) rfl (fun h w5 J Sm => ?_)
    rw [vww w5 (show ((a1.toInt * 4) + 2) = v4.toInt from by omega) (show a3.toInt = a3.toInt from by omega)] at D
    exact jX.sub jsb_n (ct_X8_put_r61_c2d_38 hD hQ  h J Sm D)
def fp_X8_put_r61_c3d : jFp := [(62, 0, 400)]
set_option maxRecDepth 100000 in
set_option maxHeartbeats 4000000 in
theorem ct_X8_put_r61_c3d_38 {Dy : jH → Prop} {h0 : jH} {Q : Option Value → jH → Prop} {dr : jW} (hD : jDk Dy) (hQ : ∀ hx9, jJ jSgX Dy hx9 → jSm fp_X8_put_r61_c3d h0 hx9 → dr = vw hx9 → Q none hx9) : ∀ (h : jH), jJ jSgX Dy h → jSm fp_X8_put_r61_c3d h0 h → d_X8_put_r61_c3d_38  (vw h) = dr → jX m_X8_put 1 0 0 38 [] [] h 0 0 Q := by
  intro  h    J Sm D
  unfold d_X8_put_r61_c3d_38 at D
  refine x_vret rfl rfl ?_
  exact hQ _ J Sm D.symm
set_option maxRecDepth 100000 in
set_option maxHeartbeats 4000000 in
theorem sf_X8_put_r61_c3d {Dy : jH → Prop} {h : jH} {Q : Option Value → jH → Prop} {dr : jW} {a1 : Int32} {a3 : Int32} (y1 : 0 ≤ a1.toInt ∧ a1.toInt ≤ 99) (y3 : 0 ≤ a3.toInt ∧ a3.toInt ≤ 10000) (hD : jDk Dy) (J : jJ jSgX Dy h) (D : d_X8_put_r61_c3d a1.toInt a3.toInt (vw h) = dr) (hQ : ∀ hx9, jJ jSgX Dy hx9 → jSm fp_X8_put_r61_c3d h hx9 → dr = vw hx9 → Q none hx9) : jC m_X8_put 1 0 0 [.ref 61, .int a1, .int 3, .int a3] h Q := by
  refine jC.of rfl k_X8_put rfl ?_
  have Sm := jSm_rf fp_X8_put_r61_c3d h
  show jX m_X8_put 1 0 0 0 [(0, .ref 61), (1, .int a1), (2, .int 3), (3, .int a3)] [] _ 0 0 _
  unfold d_X8_put_r61_c3d at D
  refine x_iloadn (x := a1) rfl rfl ?_
  refine x_iflt (tgt := 38) rfl rfl (ti_lt rfl jk_0 (br_f (by omega) ?_))
  refine x_iloadn (x := a1) rfl rfl ?_
  refine x_aloadn (x := 61) rfl rfl ?_
  refine z_getI (N := 4) 8 3 rfl f_8_7 rfl J rfl sg_61_3_4_1_0_1 (fun v1 qv1 ev1 => ?_)
  try rw [vrf qv1] at D
  refine x_icge (tgt := 38) rfl rfl (ti_ge rfl rfl ⟨fun c2 => ?_, fun c2 => ?_⟩)
  ·
    rw [if_pos (by omega)] at D
    exact jX.sub jsb_n (ct_X8_put_r61_c3d_38 hD hQ  h J Sm D)
  ·
    rw [if_neg (by omega)] at D
    refine x_iloadn (x := 3) rfl rfl ?_
    refine x_iflt (tgt := 38) rfl rfl (ti_lt jk_3 jk_0 (br_f (by omega) ?_))
    refine x_iloadn (x := 3) rfl rfl ?_
    refine x_aloadn (x := 61) rfl rfl ?_
    refine z_getC (N := 4) (v := 4) 8 0 rfl f_8_19 rfl J rfl sg_61_0_1_1_0_1 jk_4 ?_
    refine x_icge (tgt := 38) rfl rfl (ti_ge jk_3 jk_4 (br_f (by omega) ?_))
    refine x_aloadn (x := 61) rfl rfl ?_
    refine z_getR (N := 4) (b := 62) 8 2 rfl f_8_25 rfl J rfl 7810 ⟨rfl, rfl⟩ rfl ?_
    refine x_iloadn (x := a1) rfl rfl ?_
    refine x_aloadn (x := 61) rfl rfl ?_
    refine z_getC (N := 4) (v := 4) 8 0 rfl f_8_19 rfl J rfl sg_61_0_1_1_0_1 jk_4 ?_
    refine z_imul rfl rfl jk_4 (by omega) (fun v3 ev3 => ?_)
    refine x_iloadn (x := 3) rfl rfl ?_
    refine z_iadd rfl rfl jk_3 (by omega) (fun v4 ev4 => ?_)
    refine x_iloadn (x := a3) rfl rfl ?_
    refine z_iast (N := 400) (l := 0) (u := 400) (w := a3.toInt) rfl hD J Sm rfl rfl rfl (by omega) rfl (wr_62 (fun q1 q2 q3 q4 => by omega) (fun q1 q2 q3 q4 => by omega) (fun q1 q2 q3 q4 => by omega) (fun q1 q2 q3 q4 => by omega)) rfl (fun h w5 J Sm => ?_)
    rw [vww w5 (show ((a1.toInt * 4) + 3) = v4.toInt from by omega) (show a3.toInt = a3.toInt from by omega)] at D
    exact jX.sub jsb_n (ct_X8_put_r61_c3d_38 hD hQ  h J Sm D)
def fp_X8_put_r61_c4d : jFp := []
set_option maxRecDepth 100000 in
set_option maxHeartbeats 4000000 in
theorem ct_X8_put_r61_c4d_38 {Dy : jH → Prop} {h0 : jH} {Q : Option Value → jH → Prop} {dr : jW} (hD : jDk Dy) (hQ : ∀ hx9, jJ jSgX Dy hx9 → jSm fp_X8_put_r61_c4d h0 hx9 → dr = vw hx9 → Q none hx9) : ∀ (h : jH), jJ jSgX Dy h → jSm fp_X8_put_r61_c4d h0 h → d_X8_put_r61_c4d_38  (vw h) = dr → jX m_X8_put 1 0 0 38 [] [] h 0 0 Q := by
  intro  h    J Sm D
  unfold d_X8_put_r61_c4d_38 at D
  refine x_vret rfl rfl ?_
  exact hQ _ J Sm D.symm
set_option maxRecDepth 100000 in
set_option maxHeartbeats 4000000 in
theorem sf_X8_put_r61_c4d {Dy : jH → Prop} {h : jH} {Q : Option Value → jH → Prop} {dr : jW} {a1 : Int32} {a3 : Int32} (y1 : 0 ≤ a1.toInt ∧ a1.toInt ≤ 99) (y3 : 0 ≤ a3.toInt ∧ a3.toInt ≤ 0) (hD : jDk Dy) (J : jJ jSgX Dy h) (D : d_X8_put_r61_c4d a1.toInt a3.toInt (vw h) = dr) (hQ : ∀ hx9, jJ jSgX Dy hx9 → jSm fp_X8_put_r61_c4d h hx9 → dr = vw hx9 → Q none hx9) : jC m_X8_put 1 0 0 [.ref 61, .int a1, .int 4, .int a3] h Q := by
  refine jC.of rfl k_X8_put rfl ?_
  have Sm := jSm_rf fp_X8_put_r61_c4d h
  show jX m_X8_put 1 0 0 0 [(0, .ref 61), (1, .int a1), (2, .int 4), (3, .int a3)] [] _ 0 0 _
  unfold d_X8_put_r61_c4d at D
  refine x_iloadn (x := a1) rfl rfl ?_
  refine x_iflt (tgt := 38) rfl rfl (ti_lt rfl jk_0 (br_f (by omega) ?_))
  refine x_iloadn (x := a1) rfl rfl ?_
  refine x_aloadn (x := 61) rfl rfl ?_
  refine z_getI (N := 4) 8 3 rfl f_8_7 rfl J rfl sg_61_3_4_1_0_1 (fun v1 qv1 ev1 => ?_)
  try rw [vrf qv1] at D
  refine x_icge (tgt := 38) rfl rfl (ti_ge rfl rfl ⟨fun c2 => ?_, fun c2 => ?_⟩)
  ·
    rw [if_pos (by omega)] at D
    exact jX.sub jsb_n (ct_X8_put_r61_c4d_38 hD hQ  h J Sm D)
  ·
    rw [if_neg (by omega)] at D
    refine x_iloadn (x := 4) rfl rfl ?_
    refine x_iflt (tgt := 38) rfl rfl (ti_lt jk_4 jk_0 (br_f (by omega) ?_))
    refine x_iloadn (x := 4) rfl rfl ?_
    refine x_aloadn (x := 61) rfl rfl ?_
    refine z_getC (N := 4) (v := 4) 8 0 rfl f_8_19 rfl J rfl sg_61_0_1_1_0_1 jk_4 ?_
    refine x_icge (tgt := 38) rfl rfl (ti_ge jk_4 jk_4 (br_t (by omega) ?_))
    exact jX.sub jsb_n (ct_X8_put_r61_c4d_38 hD hQ  h J Sm D)
def fp_X8_put_r61_c5d : jFp := []
set_option maxRecDepth 100000 in
set_option maxHeartbeats 4000000 in
theorem ct_X8_put_r61_c5d_38 {Dy : jH → Prop} {h0 : jH} {Q : Option Value → jH → Prop} {dr : jW} (hD : jDk Dy) (hQ : ∀ hx9, jJ jSgX Dy hx9 → jSm fp_X8_put_r61_c5d h0 hx9 → dr = vw hx9 → Q none hx9) : ∀ (h : jH), jJ jSgX Dy h → jSm fp_X8_put_r61_c5d h0 h → d_X8_put_r61_c5d_38  (vw h) = dr → jX m_X8_put 1 0 0 38 [] [] h 0 0 Q := by
  intro  h    J Sm D
  unfold d_X8_put_r61_c5d_38 at D
  refine x_vret rfl rfl ?_
  exact hQ _ J Sm D.symm
set_option maxRecDepth 100000 in
set_option maxHeartbeats 4000000 in
theorem sf_X8_put_r61_c5d {Dy : jH → Prop} {h : jH} {Q : Option Value → jH → Prop} {dr : jW} {a1 : Int32} {a3 : Int32} (y1 : 0 ≤ a1.toInt ∧ a1.toInt ≤ 99) (y3 : 0 ≤ a3.toInt ∧ a3.toInt ≤ 0) (hD : jDk Dy) (J : jJ jSgX Dy h) (D : d_X8_put_r61_c5d a1.toInt a3.toInt (vw h) = dr) (hQ : ∀ hx9, jJ jSgX Dy hx9 → jSm fp_X8_put_r61_c5d h hx9 → dr = vw hx9 → Q none hx9) : jC m_X8_put 1 0 0 [.ref 61, .int a1, .int 5, .int a3] h Q := by
  refine jC.of rfl k_X8_put rfl ?_
  have Sm := jSm_rf fp_X8_put_r61_c5d h
  show jX m_X8_put 1 0 0 0 [(0, .ref 61), (1, .int a1), (2, .int 5), (3, .int a3)] [] _ 0 0 _
  unfold d_X8_put_r61_c5d at D
  refine x_iloadn (x := a1) rfl rfl ?_
  refine x_iflt (tgt := 38) rfl rfl (ti_lt rfl jk_0 (br_f (by omega) ?_))
  refine x_iloadn (x := a1) rfl rfl ?_
  refine x_aloadn (x := 61) rfl rfl ?_
  refine z_getI (N := 4) 8 3 rfl f_8_7 rfl J rfl sg_61_3_4_1_0_1 (fun v1 qv1 ev1 => ?_)
  try rw [vrf qv1] at D
  refine x_icge (tgt := 38) rfl rfl (ti_ge rfl rfl ⟨fun c2 => ?_, fun c2 => ?_⟩)
  ·
    rw [if_pos (by omega)] at D
    exact jX.sub jsb_n (ct_X8_put_r61_c5d_38 hD hQ  h J Sm D)
  ·
    rw [if_neg (by omega)] at D
    refine x_iloadn (x := 5) rfl rfl ?_
    refine x_iflt (tgt := 38) rfl rfl (ti_lt jk_5 jk_0 (br_f (by omega) ?_))
    refine x_iloadn (x := 5) rfl rfl ?_
    refine x_aloadn (x := 61) rfl rfl ?_
    refine z_getC (N := 4) (v := 4) 8 0 rfl f_8_19 rfl J rfl sg_61_0_1_1_0_1 jk_4 ?_
    refine x_icge (tgt := 38) rfl rfl (ti_ge jk_5 jk_4 (br_t (by omega) ?_))
    exact jX.sub jsb_n (ct_X8_put_r61_c5d_38 hD hQ  h J Sm D)
def fp_X8_add_r61d : jFp := [(61, 3, 4), (62, 0, 400)]
set_option maxRecDepth 100000 in
set_option maxHeartbeats 4000000 in
theorem sf_X8_add_r61d {Dy : jH → Prop} {h : jH} {Q : Option Value → jH → Prop} {dr : jW} {a1 : Int32} {a2 : Int32} {a3 : Int32} {a4 : Int32} {a5 : Int32} {a6 : Int32} (y1 : 0 ≤ a1.toInt ∧ a1.toInt ≤ 146399) (y2 : 0 ≤ a2.toInt ∧ a2.toInt ≤ 399) (y3 : 0 ≤ a3.toInt ∧ a3.toInt ≤ 2) (y4 : 0 ≤ a4.toInt ∧ a4.toInt ≤ 10000) (y5 : 0 ≤ a5.toInt ∧ a5.toInt ≤ 0) (y6 : 0 ≤ a6.toInt ∧ a6.toInt ≤ 0) (hD : jDk Dy) (J : jJ jSgX Dy h) (D : d_X8_add_r61d a1.toInt a2.toInt a3.toInt a4.toInt a5.toInt a6.toInt (vw h) = dr) (hQ : ∀ hx9, jJ jSgX Dy hx9 → jSm fp_X8_add_r61d h hx9 → dr = vw hx9 → Q none hx9) : jC m_X8_add 2 0 0 [.ref 61, .int a1, .int a2, .int a3, .int a4, .int a5, .int a6] h Q := by
  refine jC.of rfl k_X8_add rfl ?_
  have Sm := jSm_rf fp_X8_add_r61d h
  show jX m_X8_add 2 0 0 0 [(0, .ref 61), (1, .int a1), (2, .int a2), (3, .int a3), (4, .int a4), (5, .int a5), (6, .int a6)] [] _ 0 0 _
  unfold d_X8_add_r61d at D
  refine x_aloadn (x := 61) rfl rfl ?_
  refine z_getI (N := 4) 8 3 rfl f_8_7 rfl J rfl sg_61_3_4_1_0_1 (fun v1 qv1 ev1 => ?_)
  try rw [vrf qv1] at D
  refine x_aloadn (x := 61) rfl rfl ?_
  refine z_getC (N := 4) (v := 100) 8 1 rfl f_8_22 rfl J rfl sg_61_1_2_1_0_1 jk_100 ?_
  refine x_iclt (tgt := 12) rfl rfl (ti_lt rfl jk_100 ⟨fun c2 => ?_, fun c2 => ?_⟩)
  ·
    rw [if_pos (by omega)] at D
    refine x_aloadn (x := 61) rfl rfl ?_
    refine z_getM (N := 4) (v := v1) 8 3 rfl f_8_7 rfl J rfl qv1 ?_
    refine x_istore (lsx9 := [(7, .int v1), (0, .ref 61), (1, .int a1), (2, .int a2), (3, .int a3), (4, .int a4), (5, .int a5), (6, .int a6)]) rfl rfl rfl ?_
    refine x_aloadn (x := 61) rfl rfl ?_
    refine x_iload (x := v1) rfl rfl ?_
    refine x_iconst (v := 1) rfl ki_1 ?_
    refine z_iadd rfl rfl jk_1 (by omega) (fun v3 ev3 => ?_)
    refine z_putI (N := 4) (w := v3.toInt) 8 3 rfl f_8_7 rfl (jfin_no TX8 RX8 4 rfl rfl) hD J Sm rfl rfl rfl (pw_61_3 (by omega)) rfl (fun h w4 J Sm => ?_)
    rw [vwf w4 (show (v1.toInt + 1) = v3.toInt from by omega)] at D
    refine x_aloadn (x := 61) rfl rfl ?_
    refine x_iload (x := v1) rfl rfl ?_
    refine x_iconst (v := 0) rfl ki_0 ?_
    refine x_iloadn (x := a1) rfl rfl ?_
    refine x_inv (N := m_X8_put) (As := [.int v1, .int 0, .int a1]) (b := 61) (st := []) (dx9 := 1) (mc := 0) (ms := 0) (host := "") 8 rfl t_X8_put ⟨Or.inl q_8_29, i_X8_put.1, i_X8_put.2⟩ ⟨by decide, rfl⟩ (congrArg Prod.fst (J.1.1 61 (8, 4) rfl)) rfl (by decide) rfl rfl ⟨by decide, by decide⟩ (sf_X8_put_r61_c0d (jr_of rfl (by omega)) (jr_of rfl (by omega)) hD J rfl  (fun h J S5 X6 => ?_))
    have Sm := jSm_tr rfl Sm S5
    rw [X6] at D
    show jX m_X8_add 2 0 0 34 [(7, .int v1), (0, .ref 61), (1, .int a1), (2, .int a2), (3, .int a3), (4, .int a4), (5, .int a5), (6, .int a6)] [] _ 0 0 _
    refine x_aloadn (x := 61) rfl rfl ?_
    refine x_iload (x := v1) rfl rfl ?_
    refine x_iconst (v := 1) rfl ki_1 ?_
    refine x_iloadn (x := a2) rfl rfl ?_
    refine x_inv (N := m_X8_put) (As := [.int v1, .int 1, .int a2]) (b := 61) (st := []) (dx9 := 1) (mc := 0) (ms := 0) (host := "") 8 rfl t_X8_put ⟨Or.inl q_8_29, i_X8_put.1, i_X8_put.2⟩ ⟨by decide, rfl⟩ (congrArg Prod.fst (J.1.1 61 (8, 4) rfl)) rfl (by decide) rfl rfl ⟨by decide, by decide⟩ (sf_X8_put_r61_c1d (jr_of rfl (by omega)) (jr_of rfl (by omega)) hD J rfl  (fun h J S7 X8 => ?_))
    have Sm := jSm_tr rfl Sm S7
    rw [X8] at D
    show jX m_X8_add 2 0 0 42 [(7, .int v1), (0, .ref 61), (1, .int a1), (2, .int a2), (3, .int a3), (4, .int a4), (5, .int a5), (6, .int a6)] [] _ 0 0 _
    refine x_aloadn (x := 61) rfl rfl ?_
    refine x_iload (x := v1) rfl rfl ?_
    refine x_iconst (v := 2) rfl ki_2 ?_
    refine x_iloadn (x := a3) rfl rfl ?_
    refine x_inv (N := m_X8_put) (As := [.int v1, .int 2, .int a3]) (b := 61) (st := []) (dx9 := 1) (mc := 0) (ms := 0) (host := "") 8 rfl t_X8_put ⟨Or.inl q_8_29, i_X8_put.1, i_X8_put.2⟩ ⟨by decide, rfl⟩ (congrArg Prod.fst (J.1.1 61 (8, 4) rfl)) rfl (by decide) rfl rfl ⟨by decide, by decide⟩ (sf_X8_put_r61_c2d (jr_of rfl (by omega)) (jr_of rfl (by omega)) hD J rfl  (fun h J S9 X10 => ?_))
    have Sm := jSm_tr rfl Sm S9
    rw [X10] at D
    show jX m_X8_add 2 0 0 50 [(7, .int v1), (0, .ref 61), (1, .int a1), (2, .int a2), (3, .int a3), (4, .int a4), (5, .int a5), (6, .int a6)] [] _ 0 0 _
    refine x_aloadn (x := 61) rfl rfl ?_
    refine x_iload (x := v1) rfl rfl ?_
    refine x_iconst (v := 3) rfl ki_3 ?_
    refine x_iload (x := a4) rfl rfl ?_
    refine x_inv (N := m_X8_put) (As := [.int v1, .int 3, .int a4]) (b := 61) (st := []) (dx9 := 1) (mc := 0) (ms := 0) (host := "") 8 rfl t_X8_put ⟨Or.inl q_8_29, i_X8_put.1, i_X8_put.2⟩ ⟨by decide, rfl⟩ (congrArg Prod.fst (J.1.1 61 (8, 4) rfl)) rfl (by decide) rfl rfl ⟨by decide, by decide⟩ (sf_X8_put_r61_c3d (jr_of rfl (by omega)) (jr_of rfl (by omega)) hD J rfl  (fun h J S11 X12 => ?_))
    have Sm := jSm_tr rfl Sm S11
    rw [X12] at D
    show jX m_X8_add 2 0 0 59 [(7, .int v1), (0, .ref 61), (1, .int a1), (2, .int a2), (3, .int a3), (4, .int a4), (5, .int a5), (6, .int a6)] [] _ 0 0 _
    refine x_aloadn (x := 61) rfl rfl ?_
    refine x_iload (x := v1) rfl rfl ?_
    refine x_iconst (v := 4) rfl ki_4 ?_
    refine x_iload (x := a5) rfl rfl ?_
    refine x_inv (N := m_X8_put) (As := [.int v1, .int 4, .int a5]) (b := 61) (st := []) (dx9 := 1) (mc := 0) (ms := 0) (host := "") 8 rfl t_X8_put ⟨Or.inl q_8_29, i_X8_put.1, i_X8_put.2⟩ ⟨by decide, rfl⟩ (congrArg Prod.fst (J.1.1 61 (8, 4) rfl)) rfl (by decide) rfl rfl ⟨by decide, by decide⟩ (sf_X8_put_r61_c4d (jr_of rfl (by omega)) (jr_of rfl (by omega)) hD J rfl  (fun h J S13 X14 => ?_))
    have Sm := jSm_tr rfl Sm S13
    rw [X14] at D
    show jX m_X8_add 2 0 0 68 [(7, .int v1), (0, .ref 61), (1, .int a1), (2, .int a2), (3, .int a3), (4, .int a4), (5, .int a5), (6, .int a6)] [] _ 0 0 _
    refine x_aloadn (x := 61) rfl rfl ?_
    refine x_iload (x := v1) rfl rfl ?_
    refine x_iconst (v := 5) rfl ki_5 ?_
    refine x_iload (x := a6) rfl rfl ?_
    refine x_inv (N := m_X8_put) (As := [.int v1, .int 5, .int a6]) (b := 61) (st := []) (dx9 := 1) (mc := 0) (ms := 0) (host := "") 8 rfl t_X8_put ⟨Or.inl q_8_29, i_X8_put.1, i_X8_put.2⟩ ⟨by decide, rfl⟩ (congrArg Prod.fst (J.1.1 61 (8, 4) rfl)) rfl (by decide) rfl rfl ⟨by decide, by decide⟩ (sf_X8_put_r61_c5d (jr_of rfl (by omega)) (jr_of rfl (by omega)) hD J rfl  (fun h J S15 X16 => ?_))
    have Sm := jSm_tr rfl Sm S15
    rw [X16] at D
    show jX m_X8_add 2 0 0 77 [(7, .int v1), (0, .ref 61), (1, .int a1), (2, .int a2), (3, .int a3), (4, .int a4), (5, .int a5), (6, .int a6)] [] _ 0 0 _
    refine x_vret rfl rfl ?_
    exact hQ _ J Sm D.symm
  ·
    rw [if_neg (by omega)] at D
    refine x_vret rfl rfl ?_
    exact hQ _ J Sm D.symm
def fp_X8_isFull_r61d : jFp := []
set_option maxRecDepth 100000 in
set_option maxHeartbeats 4000000 in
theorem ct_X8_isFull_r61d_200016 {Dy : jH → Prop} {h0 : jH} {Q : Option Value → jH → Prop} {dr : Int} (hD : jDk Dy) (hQ : ∀ (v : Int32) hx9, 0 ≤ v.toInt ∧ v.toInt ≤ 1 → jJ jSgX Dy hx9 → jSm fp_X8_isFull_r61d h0 hx9 → dr = v.toInt → vw hx9 = vw h0 → Q (some (.int v)) hx9) : ∀ (h : jH), jJ jSgX Dy h → jSm fp_X8_isFull_r61d h0 h → d_X8_isFull_r61d_200016  (vw h) = dr → vw h = vw h0 → jX m_X8_isFull 1 0 0 16 [] [.int 0] h 0 0 Q := by
  intro  h    J Sm D EV
  unfold d_X8_isFull_r61d_200016 at D
  refine x_zret rfl rfl (by decide) ?_
  exact hQ _ _ (jr_of jk_0 (by omega)) J Sm (D.symm.trans (show 0 = (0 : Int32).toInt from by have := jk_0; omega)) EV
set_option maxRecDepth 100000 in
set_option maxHeartbeats 4000000 in
theorem ct_X8_isFull_r61d_300016 {Dy : jH → Prop} {h0 : jH} {Q : Option Value → jH → Prop} {dr : Int} (hD : jDk Dy) (hQ : ∀ (v : Int32) hx9, 0 ≤ v.toInt ∧ v.toInt ≤ 1 → jJ jSgX Dy hx9 → jSm fp_X8_isFull_r61d h0 hx9 → dr = v.toInt → vw hx9 = vw h0 → Q (some (.int v)) hx9) : ∀ (h : jH), jJ jSgX Dy h → jSm fp_X8_isFull_r61d h0 h → d_X8_isFull_r61d_300016  (vw h) = dr → vw h = vw h0 → jX m_X8_isFull 1 0 0 16 [] [.int 1] h 0 0 Q := by
  intro  h    J Sm D EV
  unfold d_X8_isFull_r61d_300016 at D
  refine x_zret rfl rfl (by decide) ?_
  exact hQ _ _ (jr_of jk_1 (by omega)) J Sm (D.symm.trans (show 1 = (1 : Int32).toInt from by have := jk_1; omega)) EV
set_option maxRecDepth 100000 in
set_option maxHeartbeats 4000000 in
theorem sf_X8_isFull_r61d {Dy : jH → Prop} {h : jH} {Q : Option Value → jH → Prop} {dr : Int} (hD : jDk Dy) (J : jJ jSgX Dy h) (D : d_X8_isFull_r61d (vw h) = dr) (hQ : ∀ (v : Int32) hx9, 0 ≤ v.toInt ∧ v.toInt ≤ 1 → jJ jSgX Dy hx9 → jSm fp_X8_isFull_r61d h hx9 → dr = v.toInt → vw hx9 = vw h → Q (some (.int v)) hx9) : jC m_X8_isFull 1 0 0 [.ref 61] h Q := by
  refine jC.of rfl k_X8_isFull rfl ?_
  have Sm := jSm_rf fp_X8_isFull_r61d h
  show jX m_X8_isFull 1 0 0 0 [(0, .ref 61)] [] _ 0 0 _
  unfold d_X8_isFull_r61d at D
  have EV : vw h = vw h := rfl
  refine x_aloadn (x := 61) rfl rfl ?_
  refine z_getI (N := 4) 8 3 rfl f_8_7 rfl J rfl sg_61_3_4_1_0_1 (fun v1 qv1 ev1 => ?_)
  try rw [vrf qv1] at D
  refine x_aloadn (x := 61) rfl rfl ?_
  refine z_getC (N := 4) (v := 100) 8 1 rfl f_8_22 rfl J rfl sg_61_1_2_1_0_1 jk_100 ?_
  refine x_iclt (tgt := 15) rfl rfl (ti_lt rfl jk_100 ⟨fun c2 => ?_, fun c2 => ?_⟩)
  ·
    rw [if_pos (by omega)] at D
    refine x_iconst (v := 0) rfl ki_0 ?_
    exact jX.sub jsb_n (ct_X8_isFull_r61d_200016 hD hQ  h J Sm D EV)
  ·
    rw [if_neg (by omega)] at D
    refine x_iconst (v := 1) rfl ki_1 ?_
    refine x_goto (tgt := 16) rfl rfl ?_
    exact jX.sub jsb_n (ct_X8_isFull_r61d_300016 hD hQ  h J Sm D EV)
def fp_X11_price_r31d : jFp := [(31, 12, 13), (32, 19, 20), (61, 3, 4), (62, 0, 400)]
set_option maxRecDepth 100000 in
set_option maxHeartbeats 4000000 in
theorem ct_X11_price_r31d_33 {Dy : jH → Prop} {h0 : jH} {Q : Option Value → jH → Prop} {dr : (Int × jW)} (hD : jDk Dy) (hQ : ∀ (v : Int32) hx9, (-366) ≤ v.toInt ∧ v.toInt ≤ 100 → jJ jSgX Dy hx9 → jSm fp_X11_price_r31d h0 hx9 → dr.1 = v.toInt → dr.2 = vw hx9 → Q (some (.int v)) hx9) : ∀ (h : jH), jJ jSgX Dy h → jSm fp_X11_price_r31d h0 h → d_X11_price_r31d_33  (vw h) = dr → jX m_X11_price 3 0 0 33 [(0, .ref 31)] [] h 0 0 Q := by
  intro  h    J Sm D
  unfold d_X11_price_r31d_33 at D
  refine x_aloadn (x := 31) rfl rfl ?_
  refine x_iconst (v := (-1)) rfl ki_m1 ?_
  refine x_inv (N := m_X11_refuse) (As := [.int (-1)]) (b := 31) (st := []) (dx9 := 2) (mc := 0) (ms := 0) (host := "") 11 rfl t_X11_refuse ⟨Or.inl q_11_206, i_X11_refuse.1, i_X11_refuse.2⟩ ⟨by decide, rfl⟩ (congrArg Prod.fst (J.1.1 31 (11, 13) rfl)) rfl (by decide) rfl rfl ⟨by decide, by decide⟩ (jC.of rfl k_X11_refuse rfl ?_)
  show jX m_X11_refuse 2 0 0 0 [(0, .ref 31), (1, .int (-1))] [] _ 0 0 _
  refine x_aloadn (x := 31) rfl rfl ?_
  refine x_iloadn (x := (-1)) rfl rfl ?_
  refine z_putI (N := 13) (w := (-1)) 11 12 rfl f_11_94 rfl (jfin_no TX11 RX11 13 rfl rfl) hD J Sm rfl rfl jk_m1 (pw_31_12 (by omega)) rfl (fun h w1 J Sm => ?_)
  rw [vwf w1 (show (-1) = ((-1) : Int32).toInt from by have := jk_m1; omega)] at D
  refine x_iloadn (x := (-1)) rfl rfl ?_
  refine x_iret rfl rfl ?_
  show jX m_X11_price 3 0 0 38 [(0, .ref 31)] [.int (-1)] _ 0 0 _
  refine x_iret rfl rfl ?_
  exact hQ _ _ (jr_of jk_m1 (by omega)) J Sm ((congrArg Prod.fst D).symm.trans (show (-1) = ((-1) : Int32).toInt from by have := jk_m1; omega)) (congrArg Prod.snd D).symm
set_option maxRecDepth 100000 in
set_option maxHeartbeats 4000000 in
theorem sf_X11_price_r31d {Dy : jH → Prop} {h : jH} {Q : Option Value → jH → Prop} {dr : (Int × jW)} {a1 : Int32} {a2 : Int32} {a3 : Int32} {a4 : Int32} (hD : jDk Dy) (J : jJ jSgX Dy h) (D : d_X11_price_r31d a1.toInt a2.toInt a3.toInt a4.toInt (vw h) = dr) (hQ : ∀ (v : Int32) hx9, (-366) ≤ v.toInt ∧ v.toInt ≤ 100 → jJ jSgX Dy hx9 → jSm fp_X11_price_r31d h hx9 → dr.1 = v.toInt → dr.2 = vw hx9 → Q (some (.int v)) hx9) : jC m_X11_price 3 0 0 [.ref 31, .int a1, .int a2, .int a3, .int a4] h Q := by
  refine jC.of rfl k_X11_price rfl ?_
  have Sm := jSm_rf fp_X11_price_r31d h
  have ea1 := jfull a1
  have ea2 := jfull a2
  have ea3 := jfull a3
  have ea4 := jfull a4
  show jX m_X11_price 3 0 0 0 [(0, .ref 31), (1, .int a1), (2, .int a2), (3, .int a3), (4, .int a4)] [] _ 0 0 _
  unfold d_X11_price_r31d at D
  refine x_iloadn (x := a1) rfl rfl ?_
  refine x_inst (N := m_X11_isCrop) (As := [.int a1]) (st := []) (dx9 := 1) (mc := 0) (ms := 0) (host := "") rfl t_X11_isCrop ⟨Or.inl q_11_500, s_X11_isCrop⟩ rfl (by decide) rfl rfl ⟨by decide, by decide⟩ (zc_X11_isCrop rfl (fun v1 ev1 => ?_))
  show jX m_X11_price 3 0 0 4 [(0, .ref 31), (1, .int a1), (2, .int a2), (3, .int a3), (4, .int a4)] [.int v1] _ 0 0 _
  refine x_ifeq (tgt := 33) rfl rfl (ti_eq rfl jk_0 ⟨fun c2 => ?_, fun c2 => ?_⟩)
  ·
    rw [if_neg (by omega)] at D
    exact jX.sub (jsb_c rfl jsb_n) (ct_X11_price_r31d_33 hD hQ  h J Sm D)
  ·
    rw [if_pos (by omega)] at D
    refine x_iloadn (x := a2) rfl rfl ?_
    refine x_inst (N := m_X11_isYear) (As := [.int a2]) (st := []) (dx9 := 1) (mc := 0) (ms := 0) (host := "") rfl t_X11_isYear ⟨Or.inl q_11_433, s_X11_isYear⟩ rfl (by decide) rfl rfl ⟨by decide, by decide⟩ (zc_X11_isYear rfl (fun v3 ev3 => ?_))
    show jX m_X11_price 3 0 0 11 [(0, .ref 31), (1, .int a1), (2, .int a2), (3, .int a3), (4, .int a4)] [.int v3] _ 0 0 _
    refine x_ifeq (tgt := 33) rfl rfl (ti_eq rfl jk_0 ⟨fun c4 => ?_, fun c4 => ?_⟩)
    ·
      rw [if_neg (by omega)] at D
      exact jX.sub (jsb_c rfl jsb_n) (ct_X11_price_r31d_33 hD hQ  h J Sm D)
    ·
      rw [if_pos (by omega)] at D
      refine x_iloadn (x := a3) rfl rfl ?_
      refine x_iconst (v := 0) rfl ki_0 ?_
      refine x_sipush (v := 10000) rfl ks_10000 ?_
      refine x_inst (N := m_X11_isWithin) (As := [.int a3, .int 0, .int 10000]) (st := []) (dx9 := 1) (mc := 0) (ms := 0) (host := "") rfl t_X11_isWithin ⟨Or.inl q_11_202, s_X11_isWithin⟩ rfl (by decide) rfl rfl ⟨by decide, by decide⟩ (zc_X11_isWithin rfl jk_0 jk_10000 (fun v5 ev5 => ?_))
      show jX m_X11_price 3 0 0 22 [(0, .ref 31), (1, .int a1), (2, .int a2), (3, .int a3), (4, .int a4)] [.int v5] _ 0 0 _
      refine x_ifeq (tgt := 33) rfl rfl (ti_eq rfl jk_0 ⟨fun c6 => ?_, fun c6 => ?_⟩)
      ·
        rw [if_neg (by omega)] at D
        exact jX.sub (jsb_c rfl jsb_n) (ct_X11_price_r31d_33 hD hQ  h J Sm D)
      ·
        rw [if_pos (by omega)] at D
        refine x_iload (x := a4) rfl rfl ?_
        refine x_inst (N := m_X11_isDay) (As := [.int a4]) (st := []) (dx9 := 1) (mc := 0) (ms := 0) (host := "") rfl t_X11_isDay ⟨Or.inl q_11_115, s_X11_isDay⟩ rfl (by decide) rfl rfl ⟨by decide, by decide⟩ (zc_X11_isDay rfl (fun v7 ev7 => ?_))
        show jX m_X11_price 3 0 0 30 [(0, .ref 31), (1, .int a1), (2, .int a2), (3, .int a3), (4, .int a4)] [.int v7] _ 0 0 _
        refine x_ifne (tgt := 39) rfl rfl (ti_ne rfl jk_0 ⟨fun c8 => ?_, fun c8 => ?_⟩)
        ·
          rw [if_pos (by omega)] at D
          refine x_aloadn (x := 31) rfl rfl ?_
          refine z_getR (N := 13) (b := 32) 11 0 rfl f_11_10 rfl J rfl 3968 ⟨rfl, rfl⟩ rfl ?_
          refine z_getR (N := 20) (b := 61) 1 14 rfl f_11_503 rfl J rfl 4110 ⟨rfl, rfl⟩ rfl ?_
          refine x_inv (N := m_X8_isFull) (As := []) (b := 61) (st := []) (dx9 := 1) (mc := 0) (ms := 0) (host := "") 8 rfl t_X8_isFull ⟨Or.inl q_11_130, i_X8_isFull.1, i_X8_isFull.2⟩ ⟨by decide, rfl⟩ (congrArg Prod.fst (J.1.1 61 (8, 4) rfl)) rfl (by decide) rfl rfl ⟨by decide, by decide⟩ (sf_X8_isFull_r61d  hD J rfl  (fun v12 h ev12 J S9 X10 X11 => ?_))
          have Sm := jSm_tr rfl Sm S9
          try rw [X10] at D
          try rw [← X11] at D
          show jX m_X11_price 3 0 0 49 [(0, .ref 31), (1, .int a1), (2, .int a2), (3, .int a3), (4, .int a4)] [.int v12] _ 0 0 _
          refine x_ifeq (tgt := 59) rfl rfl (ti_eq rfl jk_0 ⟨fun c13 => ?_, fun c13 => ?_⟩)
          ·
            rw [if_pos (by omega)] at D
            refine x_aloadn (x := 31) rfl rfl ?_
            refine z_getR (N := 13) (b := 32) 11 0 rfl f_11_10 rfl J rfl 3968 ⟨rfl, rfl⟩ rfl ?_
            refine z_getR (N := 20) (b := 61) 1 14 rfl f_11_503 rfl J rfl 4110 ⟨rfl, rfl⟩ rfl ?_
            refine x_iload (x := a4) rfl rfl ?_
            refine x_iloadn (x := a2) rfl rfl ?_
            refine x_iloadn (x := a1) rfl rfl ?_
            refine x_iloadn (x := a3) rfl rfl ?_
            refine x_iconst (v := 0) rfl ki_0 ?_
            refine x_iconst (v := 0) rfl ki_0 ?_
            refine x_inv (N := m_X8_add) (As := [.int a4, .int a2, .int a1, .int a3, .int 0, .int 0]) (b := 61) (st := []) (dx9 := 2) (mc := 0) (ms := 0) (host := "") 8 rfl t_X8_add ⟨Or.inl q_11_145, i_X8_add.1, i_X8_add.2⟩ ⟨by decide, rfl⟩ (congrArg Prod.fst (J.1.1 61 (8, 4) rfl)) rfl (by decide) rfl rfl ⟨by decide, by decide⟩ (sf_X8_add_r61d (jr_of rfl (by omega)) (jr_of rfl (by omega)) (jr_of rfl (by omega)) (jr_of rfl (by omega)) (jr_of jk_0 (by omega)) (jr_of jk_0 (by omega)) hD J rfl  (fun h J S14 X15 => ?_))
            have Sm := jSm_tr rfl Sm S14
            try rw [jk_0] at X15
            rw [X15] at D
            show jX m_X11_price 3 0 0 76 [(0, .ref 31), (1, .int a1), (2, .int a2), (3, .int a3), (4, .int a4)] [] _ 0 0 _
            refine x_aloadn (x := 31) rfl rfl ?_
            refine x_aloadn (x := 31) rfl rfl ?_
            refine z_getR (N := 13) (b := 32) 11 0 rfl f_11_10 rfl J rfl 3968 ⟨rfl, rfl⟩ rfl ?_
            refine z_getR (N := 20) (b := 61) 1 14 rfl f_11_503 rfl J rfl 4110 ⟨rfl, rfl⟩ rfl ?_
            refine z_getI (N := 4) 8 3 rfl f_11_142 rfl J rfl sg_61_3_4_1_0_1 (fun v16 qv16 ev16 => ?_)
            try rw [vrf qv16] at D
            refine x_inv (N := m_X11_accept) (As := [.int v16]) (b := 31) (st := []) (dx9 := 2) (mc := 0) (ms := 0) (host := "") 11 rfl t_X11_accept ⟨Or.inl q_11_165, i_X11_accept.1, i_X11_accept.2⟩ ⟨by decide, rfl⟩ (congrArg Prod.fst (J.1.1 31 (11, 13) rfl)) rfl (by decide) rfl rfl ⟨by decide, by decide⟩ (jC.of rfl k_X11_accept rfl ?_)
            show jX m_X11_accept 2 0 0 0 [(0, .ref 31), (1, .int v16)] [] _ 0 0 _
            refine x_aloadn (x := 31) rfl rfl ?_
            refine x_iconst (v := 0) rfl ki_0 ?_
            refine z_putI (N := 13) (w := 0) 11 12 rfl f_11_94 rfl (jfin_no TX11 RX11 13 rfl rfl) hD J Sm rfl rfl jk_0 (pw_31_12 (by omega)) rfl (fun h w17 J Sm => ?_)
            rw [vwf w17 (show 0 = (0 : Int32).toInt from by have := jk_0; omega)] at D
            refine x_aloadn (x := 31) rfl rfl ?_
            refine z_getR (N := 13) (b := 32) 11 0 rfl f_11_10 rfl J rfl 3968 ⟨rfl, rfl⟩ rfl ?_
            refine x_dup rfl rfl ?_
            refine z_getI0 (N := 20) 1 19 rfl f_11_528 rfl J rfl (fun v18 qv18 => ?_)
            have ev18 := jfull v18
            try rw [vrf (jmb_c S14 (jmb_w w17 qv18 rfl) rfl)] at D
            refine x_iconst (v := 1) rfl ki_1 ?_
            refine z_iaddW rfl rfl jk_1 (fun v19 ev19 => ?_)
            have fv19 := jfull v19
            try rw [← ev19] at D
            refine z_putI (N := 20) (w := v19.toInt) 1 19 rfl f_11_528 rfl (jfin_no TX1 RX1 20 rfl rfl) hD J Sm rfl rfl rfl (pw_32_19 trivial) rfl (fun h w20 J Sm => ?_)
            rw [vwf w20 (show v19.toInt = v19.toInt from by omega)] at D
            refine x_iloadn (x := v16) rfl rfl ?_
            refine x_iret rfl rfl ?_
            show jX m_X11_price 3 0 0 90 [(0, .ref 31), (1, .int a1), (2, .int a2), (3, .int a3), (4, .int a4)] [.int v16] _ 0 0 _
            refine x_iret rfl rfl ?_
            exact hQ _ _ (jr_of rfl (by omega)) J Sm ((congrArg Prod.fst D).symm.trans (show v16.toInt = v16.toInt from by omega)) (congrArg Prod.snd D).symm
          ·
            rw [if_neg (by omega)] at D
            refine x_aloadn (x := 31) rfl rfl ?_
            refine x_bipush (v := (-5)) rfl kb_m5 ?_
            refine x_inv (N := m_X11_refuse) (As := [.int (-5)]) (b := 31) (st := []) (dx9 := 2) (mc := 0) (ms := 0) (host := "") 11 rfl t_X11_refuse ⟨Or.inl q_11_206, i_X11_refuse.1, i_X11_refuse.2⟩ ⟨by decide, rfl⟩ (congrArg Prod.fst (J.1.1 31 (11, 13) rfl)) rfl (by decide) rfl rfl ⟨by decide, by decide⟩ (jC.of rfl k_X11_refuse rfl ?_)
            show jX m_X11_refuse 2 0 0 0 [(0, .ref 31), (1, .int (-5))] [] _ 0 0 _
            refine x_aloadn (x := 31) rfl rfl ?_
            refine x_iloadn (x := (-5)) rfl rfl ?_
            refine z_putI (N := 13) (w := (-5)) 11 12 rfl f_11_94 rfl (jfin_no TX11 RX11 13 rfl rfl) hD J Sm rfl rfl jk_m5 (pw_31_12 (by omega)) rfl (fun h w21 J Sm => ?_)
            rw [vwf w21 (show (-5) = ((-5) : Int32).toInt from by have := jk_m5; omega)] at D
            refine x_iloadn (x := (-5)) rfl rfl ?_
            refine x_iret rfl rfl ?_
            show jX m_X11_price 3 0 0 58 [(0, .ref 31), (1, .int a1), (2, .int a2), (3, .int a3), (4, .int a4)] [.int (-5)] _ 0 0 _
            refine x_iret rfl rfl ?_
            exact hQ _ _ (jr_of jk_m5 (by omega)) J Sm ((congrArg Prod.fst D).symm.trans (show (-5) = ((-5) : Int32).toInt from by have := jk_m5; omega)) (congrArg Prod.snd D).symm
        ·
          rw [if_neg (by omega)] at D
          exact jX.sub (jsb_c rfl jsb_n) (ct_X11_price_r31d_33 hD hQ  h J Sm D)
def fp_X11_reason_r31d : jFp := []
set_option maxRecDepth 100000 in
set_option maxHeartbeats 4000000 in
theorem ct_X11_reason_r31d_22 {Dy : jH → Prop} {h0 : jH} {Q : Option Value → jH → Prop} {dr : Int} (hD : jDk Dy) (hQ : ∀ (v : Int32) hx9, (-1) ≤ v.toInt ∧ v.toInt ≤ 7 → jJ jSgX Dy hx9 → jSm fp_X11_reason_r31d h0 hx9 → dr = v.toInt → vw hx9 = vw h0 → Q (some (.int v)) hx9) : ∀ (h : jH), jJ jSgX Dy h → jSm fp_X11_reason_r31d h0 h → d_X11_reason_r31d_22  (vw h) = dr → vw h = vw h0 → jX m_X11_reason 4 0 0 22 [] [] h 0 0 Q := by
  intro  h    J Sm D EV
  unfold d_X11_reason_r31d_22 at D
  refine x_iconst (v := (-1)) rfl ki_m1 ?_
  refine x_iret rfl rfl ?_
  exact hQ _ _ (jr_of jk_m1 (by omega)) J Sm (D.symm.trans (show (-1) = ((-1) : Int32).toInt from by have := jk_m1; omega)) EV
set_option maxRecDepth 100000 in
set_option maxHeartbeats 4000000 in
theorem sf_X11_reason_r31d {Dy : jH → Prop} {h : jH} {Q : Option Value → jH → Prop} {dr : Int} {a1 : Int32} {a2 : Int32} (hD : jDk Dy) (J : jJ jSgX Dy h) (D : d_X11_reason_r31d a1.toInt a2.toInt (vw h) = dr) (hQ : ∀ (v : Int32) hx9, (-1) ≤ v.toInt ∧ v.toInt ≤ 7 → jJ jSgX Dy hx9 → jSm fp_X11_reason_r31d h hx9 → dr = v.toInt → vw hx9 = vw h → Q (some (.int v)) hx9) : jC m_X11_reason 4 0 0 [.ref 31, .int a1, .int a2] h Q := by
  refine jC.of rfl k_X11_reason rfl ?_
  have Sm := jSm_rf fp_X11_reason_r31d h
  have ea1 := jfull a1
  have ea2 := jfull a2
  show jX m_X11_reason 4 0 0 0 [(0, .ref 31), (1, .int a1), (2, .int a2)] [] _ 0 0 _
  unfold d_X11_reason_r31d at D
  have EV : vw h = vw h := rfl
  refine x_aloadn (x := 31) rfl rfl ?_
  refine z_getR (N := 13) (b := 78) 11 4 rfl f_11_41 rfl J rfl 3972 ⟨rfl, rfl⟩ rfl ?_
  refine x_iloadn (x := a1) rfl rfl ?_
  refine x_inv (N := m_X7_isMention) (As := [.int a1]) (b := 78) (st := []) (dx9 := 3) (mc := 0) (ms := 0) (host := "") 7 rfl t_X7_isMention ⟨Or.inl q_11_187, i_X7_isMention.1, i_X7_isMention.2⟩ ⟨by decide, rfl⟩ (congrArg Prod.fst (J.1.1 78 (7, 16) rfl)) rfl (by decide) rfl rfl ⟨by decide, by decide⟩ (jC.of rfl k_X7_isMention rfl ?_)
  show jX m_X7_isMention 3 0 0 0 [(0, .ref 78), (1, .int a1)] [] _ 0 0 _
  refine x_iloadn (x := a1) rfl rfl ?_
  refine x_iflt (tgt := 41) rfl rfl (ti_lt rfl jk_0 ⟨fun c1 => ?_, fun c1 => ?_⟩)
  ·
    rw [if_pos (by omega)] at D
    refine x_iconst (v := 0) rfl ki_0 ?_
    refine x_zret rfl rfl (by decide) ?_
    show jX m_X11_reason 4 0 0 8 [(0, .ref 31), (1, .int a1), (2, .int a2)] [.int 0] _ 0 0 _
    refine x_ifeq (tgt := 22) rfl rfl (ti_eq jk_0 jk_0 (br_t (by omega) ?_))
    exact jX.sub jsb_n (ct_X11_reason_r31d_22 hD hQ  h J Sm D EV)
  ·
    rw [if_neg (by omega)] at D
    refine x_iloadn (x := a1) rfl rfl ?_
    refine x_sipush (v := 600) rfl ks_600 ?_
    refine x_icge (tgt := 41) rfl rfl (ti_ge rfl jk_600 ⟨fun c2 => ?_, fun c2 => ?_⟩)
    ·
      rw [if_pos (by omega)] at D
      refine x_iconst (v := 0) rfl ki_0 ?_
      refine x_zret rfl rfl (by decide) ?_
      show jX m_X11_reason 4 0 0 8 [(0, .ref 31), (1, .int a1), (2, .int a2)] [.int 0] _ 0 0 _
      refine x_ifeq (tgt := 22) rfl rfl (ti_eq jk_0 jk_0 (br_t (by omega) ?_))
      exact jX.sub jsb_n (ct_X11_reason_r31d_22 hD hQ  h J Sm D EV)
    ·
      rw [if_neg (by omega)] at D
      refine x_iloadn (x := a1) rfl rfl ?_
      refine x_iconst (v := 3) rfl ki_3 ?_
      refine z_idiv rfl rfl jk_3 (by omega) (by omega) (fun v3 ev3 => ?_)
      refine x_aloadn (x := 78) rfl rfl ?_
      refine z_getR (N := 16) (b := 32) 7 0 rfl f_7_55 rfl J rfl 9984 ⟨rfl, rfl⟩ rfl ?_
      refine z_getR (N := 20) (b := 33) 1 0 rfl f_7_63 rfl J rfl 4096 ⟨rfl, rfl⟩ rfl ?_
      refine z_getI (N := 4) 8 3 rfl f_7_85 rfl J rfl sg_33_3_4_1_0_1 (fun v4 qv4 ev4 => ?_)
      try rw [vrf qv4] at D
      refine x_icge (tgt := 41) rfl rfl (ti_ge rfl rfl ⟨fun c5 => ?_, fun c5 => ?_⟩)
      ·
        rw [if_pos (by omega)] at D
        refine x_iconst (v := 0) rfl ki_0 ?_
        refine x_zret rfl rfl (by decide) ?_
        show jX m_X11_reason 4 0 0 8 [(0, .ref 31), (1, .int a1), (2, .int a2)] [.int 0] _ 0 0 _
        refine x_ifeq (tgt := 22) rfl rfl (ti_eq jk_0 jk_0 (br_t (by omega) ?_))
        exact jX.sub jsb_n (ct_X11_reason_r31d_22 hD hQ  h J Sm D EV)
      ·
        rw [if_neg (by omega)] at D
        refine x_aloadn (x := 78) rfl rfl ?_
        refine z_getR (N := 16) (b := 79) 7 7 rfl f_7_27 rfl J rfl 9991 ⟨rfl, rfl⟩ rfl ?_
        refine x_iloadn (x := a1) rfl rfl ?_
        refine z_iald (N := 600) rfl J rfl sg_79_0_600_1_0_1 rfl (by omega) (fun v6 qv6 ev6 => ?_)
        try rw [vrd qv6 (show a1.toInt = a1.toInt from by omega)] at D
        refine x_iconst (v := (-1)) rfl ki_m1 ?_
        refine x_iceq (tgt := 41) rfl rfl (ti_eq rfl jk_m1 ⟨fun c7 => ?_, fun c7 => ?_⟩)
        ·
          rw [if_pos (by omega)] at D
          refine x_iconst (v := 0) rfl ki_0 ?_
          refine x_zret rfl rfl (by decide) ?_
          show jX m_X11_reason 4 0 0 8 [(0, .ref 31), (1, .int a1), (2, .int a2)] [.int 0] _ 0 0 _
          refine x_ifeq (tgt := 22) rfl rfl (ti_eq jk_0 jk_0 (br_t (by omega) ?_))
          exact jX.sub jsb_n (ct_X11_reason_r31d_22 hD hQ  h J Sm D EV)
        ·
          rw [if_neg (by omega)] at D
          refine x_iconst (v := 1) rfl ki_1 ?_
          refine x_goto (tgt := 42) rfl rfl ?_
          refine x_zret rfl rfl (by decide) ?_
          show jX m_X11_reason 4 0 0 8 [(0, .ref 31), (1, .int a1), (2, .int a2)] [.int 1] _ 0 0 _
          refine x_ifeq (tgt := 22) rfl rfl (ti_eq jk_1 jk_0 (br_f (by omega) ?_))
          refine x_aloadn (x := 31) rfl rfl ?_
          refine z_getR (N := 13) (b := 78) 11 4 rfl f_11_41 rfl J rfl 3972 ⟨rfl, rfl⟩ rfl ?_
          refine x_iloadn (x := a2) rfl rfl ?_
          refine x_inv (N := m_X7_isMention) (As := [.int a2]) (b := 78) (st := []) (dx9 := 3) (mc := 0) (ms := 0) (host := "") 7 rfl t_X7_isMention ⟨Or.inl q_11_187, i_X7_isMention.1, i_X7_isMention.2⟩ ⟨by decide, rfl⟩ (congrArg Prod.fst (J.1.1 78 (7, 16) rfl)) rfl (by decide) rfl rfl ⟨by decide, by decide⟩ (jC.of rfl k_X7_isMention rfl ?_)
          show jX m_X7_isMention 3 0 0 0 [(0, .ref 78), (1, .int a2)] [] _ 0 0 _
          refine x_iloadn (x := a2) rfl rfl ?_
          refine x_iflt (tgt := 41) rfl rfl (ti_lt rfl jk_0 ⟨fun c8 => ?_, fun c8 => ?_⟩)
          ·
            rw [if_pos (by omega)] at D
            refine x_iconst (v := 0) rfl ki_0 ?_
            refine x_zret rfl rfl (by decide) ?_
            show jX m_X11_reason 4 0 0 19 [(0, .ref 31), (1, .int a1), (2, .int a2)] [.int 0] _ 0 0 _
            refine x_ifne (tgt := 24) rfl rfl (ti_ne jk_0 jk_0 (bn_f (by omega) ?_))
            exact jX.sub jsb_n (ct_X11_reason_r31d_22 hD hQ  h J Sm D EV)
          ·
            rw [if_neg (by omega)] at D
            refine x_iloadn (x := a2) rfl rfl ?_
            refine x_sipush (v := 600) rfl ks_600 ?_
            refine x_icge (tgt := 41) rfl rfl (ti_ge rfl jk_600 ⟨fun c9 => ?_, fun c9 => ?_⟩)
            ·
              rw [if_pos (by omega)] at D
              refine x_iconst (v := 0) rfl ki_0 ?_
              refine x_zret rfl rfl (by decide) ?_
              show jX m_X11_reason 4 0 0 19 [(0, .ref 31), (1, .int a1), (2, .int a2)] [.int 0] _ 0 0 _
              refine x_ifne (tgt := 24) rfl rfl (ti_ne jk_0 jk_0 (bn_f (by omega) ?_))
              exact jX.sub jsb_n (ct_X11_reason_r31d_22 hD hQ  h J Sm D EV)
            ·
              rw [if_neg (by omega)] at D
              refine x_iloadn (x := a2) rfl rfl ?_
              refine x_iconst (v := 3) rfl ki_3 ?_
              refine z_idiv rfl rfl jk_3 (by omega) (by omega) (fun v10 ev10 => ?_)
              refine x_aloadn (x := 78) rfl rfl ?_
              refine z_getR (N := 16) (b := 32) 7 0 rfl f_7_55 rfl J rfl 9984 ⟨rfl, rfl⟩ rfl ?_
              refine z_getR (N := 20) (b := 33) 1 0 rfl f_7_63 rfl J rfl 4096 ⟨rfl, rfl⟩ rfl ?_
              refine z_getM (N := 4) (v := v4) 8 3 rfl f_7_85 rfl J rfl qv4 ?_
              refine x_icge (tgt := 41) rfl rfl (ti_ge rfl rfl ⟨fun c11 => ?_, fun c11 => ?_⟩)
              ·
                rw [if_pos (by omega)] at D
                refine x_iconst (v := 0) rfl ki_0 ?_
                refine x_zret rfl rfl (by decide) ?_
                show jX m_X11_reason 4 0 0 19 [(0, .ref 31), (1, .int a1), (2, .int a2)] [.int 0] _ 0 0 _
                refine x_ifne (tgt := 24) rfl rfl (ti_ne jk_0 jk_0 (bn_f (by omega) ?_))
                exact jX.sub jsb_n (ct_X11_reason_r31d_22 hD hQ  h J Sm D EV)
              ·
                rw [if_neg (by omega)] at D
                refine x_aloadn (x := 78) rfl rfl ?_
                refine z_getR (N := 16) (b := 79) 7 7 rfl f_7_27 rfl J rfl 9991 ⟨rfl, rfl⟩ rfl ?_
                refine x_iloadn (x := a2) rfl rfl ?_
                refine z_iald (N := 600) rfl J rfl sg_79_0_600_1_0_1 rfl (by omega) (fun v12 qv12 ev12 => ?_)
                try rw [vrd qv12 (show a2.toInt = a2.toInt from by omega)] at D
                refine x_iconst (v := (-1)) rfl ki_m1 ?_
                refine x_iceq (tgt := 41) rfl rfl (ti_eq rfl jk_m1 ⟨fun c13 => ?_, fun c13 => ?_⟩)
                ·
                  rw [if_pos (by omega)] at D
                  refine x_iconst (v := 0) rfl ki_0 ?_
                  refine x_zret rfl rfl (by decide) ?_
                  show jX m_X11_reason 4 0 0 19 [(0, .ref 31), (1, .int a1), (2, .int a2)] [.int 0] _ 0 0 _
                  refine x_ifne (tgt := 24) rfl rfl (ti_ne jk_0 jk_0 (bn_f (by omega) ?_))
                  exact jX.sub jsb_n (ct_X11_reason_r31d_22 hD hQ  h J Sm D EV)
                ·
                  rw [if_neg (by omega)] at D
                  refine x_iconst (v := 1) rfl ki_1 ?_
                  refine x_goto (tgt := 42) rfl rfl ?_
                  refine x_zret rfl rfl (by decide) ?_
                  show jX m_X11_reason 4 0 0 19 [(0, .ref 31), (1, .int a1), (2, .int a2)] [.int 1] _ 0 0 _
                  refine x_ifne (tgt := 24) rfl rfl (ti_ne jk_1 jk_0 (bn_t (by omega) ?_))
                  refine x_aloadn (x := 31) rfl rfl ?_
                  refine z_getR (N := 13) (b := 78) 11 4 rfl f_11_41 rfl J rfl 3972 ⟨rfl, rfl⟩ rfl ?_
                  refine x_iloadn (x := a1) rfl rfl ?_
                  refine x_iloadn (x := a2) rfl rfl ?_
                  refine x_inv (N := m_X7_reasonFor) (As := [.int a1, .int a2]) (b := 78) (st := []) (dx9 := 3) (mc := 0) (ms := 0) (host := "") 7 rfl t_X7_reasonFor ⟨Or.inl q_11_224, i_X7_reasonFor.1, i_X7_reasonFor.2⟩ ⟨by decide, rfl⟩ (congrArg Prod.fst (J.1.1 78 (7, 16) rfl)) rfl (by decide) rfl rfl ⟨by decide, by decide⟩ (sf_X7_reasonFor_r78d (jr_of rfl (by omega)) (jr_of rfl (by omega)) hD J rfl  (fun v17 h ev17 J S14 X15 X16 => ?_))
                  have Sm := jSm_tr rfl Sm S14
                  try rw [X15] at D
                  try rw [← X16] at D
                  have EV := X16.trans EV
                  show jX m_X11_reason 4 0 0 33 [(0, .ref 31), (1, .int a1), (2, .int a2)] [.int v17] _ 0 0 _
                  refine x_iret rfl rfl ?_
                  exact hQ _ _ (jr_of rfl (by omega)) J Sm (D.symm.trans (show v17.toInt = v17.toInt from by omega)) EV
def fp_X11_sumYear_r31_r65d : jFp := [(65, 0, 1600)]
set_option maxRecDepth 100000 in
set_option maxHeartbeats 4000000 in
theorem ct_X11_sumYear_r31_r65d_90 {Dy : jH → Prop} {h0 : jH} {Q : Option Value → jH → Prop} {dr : jW} {K25 : Int → Int → Int → Int → Int → Int → jW → jW} {R25 : Int} (hD : jDk Dy) (hQ : ∀ hx9, jJ jSgX Dy hx9 → jSm fp_X11_sumYear_r31_r65d h0 hx9 → dr = vw hx9 → Q none hx9) (k25 : ∀ (l1 : Int32) (l3 : Int32) (l4 : Int64) (l6 : Int64) (l8 : Int64) (l10 : Int32) (h : jH), 200 - l10.toInt < R25 → 0 ≤ l1.toInt ∧ l1.toInt ≤ 399 → 0 ≤ l3.toInt ∧ l3.toInt ≤ 1596 → l3.toInt % 4 = 0 → 0 ≤ l10.toInt ∧ l10.toInt ≤ 200 → jJ jSgX Dy h → jSm fp_X11_sumYear_r31_r65d h0 h → K25 l1.toInt l3.toInt l4.toInt l6.toInt l8.toInt l10.toInt (vw h) = dr → jX m_X11_sumYear 3 0 0 25 [(0, .ref 31), (1, .int l1), (2, .ref 65), (3, .int l3), (4, .long l4), (6, .long l6), (8, .long l8), (10, .int l10)] [] h 0 0 Q) : ∀ (l1 : Int32) (l3 : Int32) (l4 : Int64) (l6 : Int64) (l8 : Int64) (l10 : Int32) (h : jH), 0 ≤ l1.toInt ∧ l1.toInt ≤ 399 → 0 ≤ l3.toInt ∧ l3.toInt ≤ 1596 → l3.toInt % 4 = 0 → 0 ≤ l10.toInt ∧ l10.toInt ≤ 199 → 200 - l10.toInt ≤ R25 → jJ jSgX Dy h → jSm fp_X11_sumYear_r31_r65d h0 h → d_X11_sumYear_r31_r65d_90 K25  l1.toInt l3.toInt l4.toInt l6.toInt l8.toInt l10.toInt (vw h) = dr → jX m_X11_sumYear 3 0 0 90 [(0, .ref 31), (1, .int l1), (2, .ref 65), (3, .int l3), (4, .long l4), (6, .long l6), (8, .long l8), (10, .int l10)] [] h 0 0 Q := by
  intro l1 l3 l4 l6 l8 l10 h y0 y1 y2 y3  m25 J Sm D
  have el4 := jfullL l4
  have el6 := jfullL l6
  have el8 := jfullL l8
  unfold d_X11_sumYear_r31_r65d_90 at D
  refine z_iinc (x := l10) (lsx9 := fun v1 => [(10, .int v1), (0, .ref 31), (1, .int l1), (2, .ref 65), (3, .int l3), (4, .long l4), (6, .long l6), (8, .long l8)]) rfl rfl rfl jko_1 (by omega) rfl (fun _ => rfl) (fun v1 ev1 => ?_)
  refine x_goto (tgt := 25) rfl rfl ?_
  try rw [show (l10.toInt + 1) = v1.toInt from by omega] at D
  exact jX.sub (jsb_c rfl (jsb_c rfl (jsb_c rfl (jsb_c rfl (jsb_c rfl (jsb_c rfl (jsb_c rfl (jsb_c rfl jsb_n)))))))) (k25 l1 l3 l4 l6 l8 v1 h (by omega) (jr_of rfl (by omega)) (jr_of rfl (by omega)) (jr_mod rfl (by omega)) (jr_of rfl (by omega)) J Sm D)
set_option maxRecDepth 100000 in
set_option maxHeartbeats 4000000 in
theorem ct_X11_sumYear_r31_r65d_25 {Dy : jH → Prop} {h0 : jH} {Q : Option Value → jH → Prop} {dr : jW} (hD : jDk Dy) (hQ : ∀ hx9, jJ jSgX Dy hx9 → jSm fp_X11_sumYear_r31_r65d h0 hx9 → dr = vw hx9 → Q none hx9) : ∀ r : Nat, ∀ (l1 : Int32) (l3 : Int32) (l4 : Int64) (l6 : Int64) (l8 : Int64) (l10 : Int32) (h : jH), 200 - l10.toInt < (r : Int) → 0 ≤ l1.toInt ∧ l1.toInt ≤ 399 → 0 ≤ l3.toInt ∧ l3.toInt ≤ 1596 → l3.toInt % 4 = 0 → 0 ≤ l10.toInt ∧ l10.toInt ≤ 200 → jJ jSgX Dy h → jSm fp_X11_sumYear_r31_r65d h0 h → d_X11_sumYear_r31_r65d_25 r l1.toInt l3.toInt l4.toInt l6.toInt l8.toInt l10.toInt (vw h) = dr → jX m_X11_sumYear 3 0 0 25 [(0, .ref 31), (1, .int l1), (2, .ref 65), (3, .int l3), (4, .long l4), (6, .long l6), (8, .long l8), (10, .int l10)] [] h 0 0 Q := by
  intro r
  induction r with
  | zero =>
    intro l1 l3 l4 l6 l8 l10 h hm y0 y1 y2 y3   J Sm D
    exfalso
    have el4 := jfullL l4
    have el6 := jfullL l6
    have el8 := jfullL l8
    omega
  | succ r ih =>
    intro l1 l3 l4 l6 l8 l10 h hm y0 y1 y2 y3   J Sm D
    have el4 := jfullL l4
    have el6 := jfullL l6
    have el8 := jfullL l8
    rw [d_X11_sumYear_r31_r65d_25.eq_2] at D
    refine x_iload (x := l10) rfl rfl ?_
    refine x_aloadn (x := 31) rfl rfl ?_
    refine z_getR (N := 13) (b := 32) 11 0 rfl f_11_10 rfl J rfl 3968 ⟨rfl, rfl⟩ rfl ?_
    refine z_getR (N := 20) (b := 33) 1 0 rfl f_11_126 rfl J rfl 4096 ⟨rfl, rfl⟩ rfl ?_
    refine z_getI (N := 4) 8 3 rfl f_11_142 rfl J rfl sg_33_3_4_1_0_1 (fun v1 qv1 ev1 => ?_)
    try rw [vrf qv1] at D
    refine x_icge (tgt := 96) rfl rfl (ti_ge rfl rfl ⟨fun c2 => ?_, fun c2 => ?_⟩)
    ·
      rw [if_pos (by omega)] at D
      refine x_aloadn (x := 65) rfl rfl ?_
      refine x_iloadn (x := l3) rfl rfl ?_
      refine x_lconst (v := 1) rfl kl_1 ?_
      refine z_last (N := 1600) (l := 0) (u := 1600) rfl hD J Sm rfl rfl rfl (by omega) rfl (fun h w3 J Sm => ?_)
      rw [vwwL w3 (show l3.toInt = l3.toInt from by omega) (show 1 = (1 : Int64).toInt from by have := jkl_1; omega)] at D
      refine x_aloadn (x := 65) rfl rfl ?_
      refine x_iloadn (x := l3) rfl rfl ?_
      refine x_iconst (v := 1) rfl ki_1 ?_
      refine z_iadd rfl rfl jk_1 (by omega) (fun v4 ev4 => ?_)
      refine x_lload (x := l4) rfl rfl ?_
      refine z_last (N := 1600) (l := 0) (u := 1600) rfl hD J Sm rfl rfl rfl (by omega) rfl (fun h w5 J Sm => ?_)
      rw [vwwL w5 (show (l3.toInt + 1) = v4.toInt from by omega) (show l4.toInt = l4.toInt from by omega)] at D
      refine x_aloadn (x := 65) rfl rfl ?_
      refine x_iloadn (x := l3) rfl rfl ?_
      refine x_iconst (v := 2) rfl ki_2 ?_
      refine z_iadd rfl rfl jk_2 (by omega) (fun v6 ev6 => ?_)
      refine x_lload (x := l6) rfl rfl ?_
      refine z_last (N := 1600) (l := 0) (u := 1600) rfl hD J Sm rfl rfl rfl (by omega) rfl (fun h w7 J Sm => ?_)
      rw [vwwL w7 (show (l3.toInt + 2) = v6.toInt from by omega) (show l6.toInt = l6.toInt from by omega)] at D
      refine x_aloadn (x := 65) rfl rfl ?_
      refine x_iloadn (x := l3) rfl rfl ?_
      refine x_iconst (v := 3) rfl ki_3 ?_
      refine z_iadd rfl rfl jk_3 (by omega) (fun v8 ev8 => ?_)
      refine x_lload (x := l8) rfl rfl ?_
      refine z_last (N := 1600) (l := 0) (u := 1600) rfl hD J Sm rfl rfl rfl (by omega) rfl (fun h w9 J Sm => ?_)
      rw [vwwL w9 (show (l3.toInt + 3) = v8.toInt from by omega) (show l8.toInt = l8.toInt from by omega)] at D
      refine x_vret rfl rfl ?_
      exact hQ _ J Sm D.symm
    ·
      rw [if_neg (by omega)] at D
      refine x_aloadn (x := 31) rfl rfl ?_
      refine x_iload (x := l10) rfl rfl ?_
      refine x_inv (N := m_X11_yearOf) (As := [.int l10]) (b := 31) (st := []) (dx9 := 2) (mc := 0) (ms := 0) (host := "") 11 rfl t_X11_yearOf ⟨Or.inl q_11_521, i_X11_yearOf.1, i_X11_yearOf.2⟩ ⟨by decide, rfl⟩ (congrArg Prod.fst (J.1.1 31 (11, 13) rfl)) rfl (by decide) rfl rfl ⟨by decide, by decide⟩ (jC.of rfl k_X11_yearOf rfl ?_)
      show jX m_X11_yearOf 2 0 0 0 [(0, .ref 31), (1, .int l10)] [] _ 0 0 _
      refine x_aloadn (x := 31) rfl rfl ?_
      refine z_getR (N := 13) (b := 32) 11 0 rfl f_11_10 rfl J rfl 3968 ⟨rfl, rfl⟩ rfl ?_
      refine z_getR (N := 20) (b := 33) 1 0 rfl f_11_126 rfl J rfl 4096 ⟨rfl, rfl⟩ rfl ?_
      refine x_iloadn (x := l10) rfl rfl ?_
      refine x_iconst (v := 1) rfl ki_1 ?_
      refine x_inv (N := m_X8_at) (As := [.int l10, .int 1]) (b := 33) (st := []) (dx9 := 1) (mc := 0) (ms := 0) (host := "") 8 rfl t_X8_at ⟨Or.inl q_11_171, i_X8_at.1, i_X8_at.2⟩ ⟨by decide, rfl⟩ (congrArg Prod.fst (J.1.1 33 (8, 4) rfl)) rfl (by decide) rfl rfl ⟨by decide, by decide⟩ (sf_X8_at_r33_c1d  hD J rfl  (fun v13 h ev13 J S10 X11 X12 => ?_))
      have Sm := jSm_tr rfl Sm S10
      try rw [X11] at D
      try rw [← X12] at D
      show jX m_X11_yearOf 2 0 0 12 [(0, .ref 31), (1, .int l10)] [.int v13] _ 0 0 _
      refine x_sipush (v := 366) rfl ks_366 ?_
      refine z_idiv rfl rfl jk_366 (by omega) (by omega) (fun v14 ev14 => ?_)
      refine x_iret rfl rfl ?_
      show jX m_X11_sumYear 3 0 0 46 [(0, .ref 31), (1, .int l1), (2, .ref 65), (3, .int l3), (4, .long l4), (6, .long l6), (8, .long l8), (10, .int l10)] [.int v14] _ 0 0 _
      refine x_iloadn (x := l1) rfl rfl ?_
      refine x_icne (tgt := 90) rfl rfl (ti_ne rfl rfl ⟨fun c15 => ?_, fun c15 => ?_⟩)
      ·
        rw [if_neg (by omega)] at D
        exact jX.sub (jsb_c rfl (jsb_c rfl (jsb_c rfl (jsb_c rfl (jsb_c rfl (jsb_c rfl (jsb_c rfl (jsb_c rfl jsb_n)))))))) (ct_X11_sumYear_r31_r65d_90 hD hQ ih l1 l3 l4 l6 l8 l10 h (jr_of rfl (by omega)) (jr_of rfl (by omega)) (jr_mod rfl (by omega)) (jr_of rfl (by omega)) (by omega) J Sm D)
      ·
        rw [if_pos (by omega)] at D
        refine x_aloadn (x := 31) rfl rfl ?_
        refine z_getR (N := 13) (b := 32) 11 0 rfl f_11_10 rfl J rfl 3968 ⟨rfl, rfl⟩ rfl ?_
        refine z_getR (N := 20) (b := 33) 1 0 rfl f_11_126 rfl J rfl 4096 ⟨rfl, rfl⟩ rfl ?_
        refine x_iload (x := l10) rfl rfl ?_
        refine x_iconst (v := 4) rfl ki_4 ?_
        refine x_inv (N := m_X8_at) (As := [.int l10, .int 4]) (b := 33) (st := []) (dx9 := 1) (mc := 0) (ms := 0) (host := "") 8 rfl t_X8_at ⟨Or.inl q_11_171, i_X8_at.1, i_X8_at.2⟩ ⟨by decide, rfl⟩ (congrArg Prod.fst (J.1.1 33 (8, 4) rfl)) rfl (by decide) rfl rfl ⟨by decide, by decide⟩ (sf_X8_at_r33_c4d  hD J rfl  (fun v19 h J S16 X17 X18 => ?_))
        have ev19 := jfull v19
        have Sm := jSm_tr rfl Sm S16
        try rw [X17] at D
        try rw [← X18] at D
        show jX m_X11_sumYear 3 0 0 63 [(0, .ref 31), (1, .int l1), (2, .ref 65), (3, .int l3), (4, .long l4), (6, .long l6), (8, .long l8), (10, .int l10)] [.int v19] _ 0 0 _
        refine x_istore (lsx9 := [(11, .int v19), (0, .ref 31), (1, .int l1), (2, .ref 65), (3, .int l3), (4, .long l4), (6, .long l6), (8, .long l8), (10, .int l10)]) rfl rfl rfl ?_
        refine x_lload (x := l4) rfl rfl ?_
        refine x_lconst (v := 1) rfl kl_1 ?_
        refine z_laddW rfl rfl jkl_1 (fun v20 ev20 => ?_)
        have fv20 := jfullL v20
        try rw [← ev20] at D
        refine x_lstore (lsx9 := [(4, .long v20), (11, .int v19), (0, .ref 31), (1, .int l1), (2, .ref 65), (3, .int l3), (6, .long l6), (8, .long l8), (10, .int l10)]) rfl rfl rfl ?_
        refine x_lload (x := l6) rfl rfl ?_
        refine x_iload (x := v19) rfl rfl ?_
        refine z_i2l rfl rfl (fun v21 ev21 => ?_)
        refine z_laddW rfl rfl rfl (fun v22 ev22 => ?_)
        have fv22 := jfullL v22
        try rw [show v19.toInt = v21.toInt from by omega] at D
        try rw [← ev22] at D
        refine x_lstore (lsx9 := [(6, .long v22), (4, .long v20), (11, .int v19), (0, .ref 31), (1, .int l1), (2, .ref 65), (3, .int l3), (8, .long l8), (10, .int l10)]) rfl rfl rfl ?_
        refine x_lload (x := l8) rfl rfl ?_
        refine x_lload (x := v20) rfl rfl ?_
        refine x_iload (x := v19) rfl rfl ?_
        refine z_i2l rfl rfl (fun v23 ev23 => ?_)
        refine z_lmulW rfl rfl rfl (fun v24 ev24 => ?_)
        have fv24 := jfullL v24
        try rw [show v21.toInt = v23.toInt from by omega] at D
        try rw [← ev24] at D
        refine z_laddW rfl rfl rfl (fun v25 ev25 => ?_)
        have fv25 := jfullL v25
        try rw [← ev25] at D
        refine x_lstore (lsx9 := [(8, .long v25), (6, .long v22), (4, .long v20), (11, .int v19), (0, .ref 31), (1, .int l1), (2, .ref 65), (3, .int l3), (10, .int l10)]) rfl rfl rfl ?_
        exact jX.sub (jsb_c rfl (jsb_c rfl (jsb_c rfl (jsb_c rfl (jsb_c rfl (jsb_c rfl (jsb_c rfl (jsb_c rfl jsb_n)))))))) (ct_X11_sumYear_r31_r65d_90 hD hQ ih l1 l3 v20 v22 v25 l10 h (jr_of rfl (by omega)) (jr_of rfl (by omega)) (jr_mod rfl (by omega)) (jr_of rfl (by omega)) (by omega) J Sm D)
set_option maxRecDepth 100000 in
set_option maxHeartbeats 4000000 in
theorem sf_X11_sumYear_r31_r65d {Dy : jH → Prop} {h : jH} {Q : Option Value → jH → Prop} {dr : jW} {a1 : Int32} {a2 : Int32} (y1 : 0 ≤ a1.toInt ∧ a1.toInt ≤ 399) (y2 : 0 ≤ a2.toInt ∧ a2.toInt ≤ 1596) (ym2 : a2.toInt % 4 = 0) (hD : jDk Dy) (J : jJ jSgX Dy h) (D : d_X11_sumYear_r31_r65d a1.toInt a2.toInt (vw h) = dr) (hQ : ∀ hx9, jJ jSgX Dy hx9 → jSm fp_X11_sumYear_r31_r65d h hx9 → dr = vw hx9 → Q none hx9) : jC m_X11_sumYear 3 0 0 [.ref 31, .int a1, .ref 65, .int a2] h Q := by
  refine jC.of rfl k_X11_sumYear rfl ?_
  have Sm := jSm_rf fp_X11_sumYear_r31_r65d h
  show jX m_X11_sumYear 3 0 0 0 [(0, .ref 31), (1, .int a1), (2, .ref 65), (3, .int a2)] [] _ 0 0 _
  unfold d_X11_sumYear_r31_r65d at D
  refine x_iloadn (x := a2) rfl rfl ?_
  refine x_iflt (tgt := 12) rfl rfl (ti_lt rfl jk_0 (br_f (by omega) ?_))
  refine x_iloadn (x := a2) rfl rfl ?_
  refine x_iconst (v := 3) rfl ki_3 ?_
  refine z_iadd rfl rfl jk_3 (by omega) (fun v1 ev1 => ?_)
  refine x_aloadn (x := 65) rfl rfl ?_
  refine z_alen (N := 1600) (v := 1600) rfl J rfl rfl (by decide) ?_
  refine x_iclt (tgt := 13) rfl rfl (ti_lt rfl jk_1600 (br_t (by omega) ?_))
  refine x_lconst (v := 0) rfl kl_0 ?_
  refine x_lstore (lsx9 := [(4, .long 0), (0, .ref 31), (1, .int a1), (2, .ref 65), (3, .int a2)]) rfl rfl rfl ?_
  refine x_lconst (v := 0) rfl kl_0 ?_
  refine x_lstore (lsx9 := [(6, .long 0), (4, .long 0), (0, .ref 31), (1, .int a1), (2, .ref 65), (3, .int a2)]) rfl rfl rfl ?_
  refine x_lconst (v := 0) rfl kl_0 ?_
  refine x_lstore (lsx9 := [(8, .long 0), (6, .long 0), (4, .long 0), (0, .ref 31), (1, .int a1), (2, .ref 65), (3, .int a2)]) rfl rfl rfl ?_
  refine x_iconst (v := 0) rfl ki_0 ?_
  refine x_istore (lsx9 := [(10, .int 0), (8, .long 0), (6, .long 0), (4, .long 0), (0, .ref 31), (1, .int a1), (2, .ref 65), (3, .int a2)]) rfl rfl rfl ?_
  exact jX.sub (jsb_c rfl (jsb_c rfl (jsb_c rfl (jsb_c rfl (jsb_c rfl (jsb_c rfl (jsb_c rfl (jsb_c rfl jsb_n)))))))) (ct_X11_sumYear_r31_r65d_25 hD hQ  201 a1 a2 0 0 0 0 h (by have := jk_0; omega) (jr_of rfl (by omega)) (jr_of rfl (by omega)) (jr_mod rfl (by omega)) (jr_of jk_0 (by omega)) J Sm (by rw [jkl_0, jk_0]; exact D))
def fp_X11_seal_r31d : jFp := [(31, 12, 13), (32, 19, 20), (65, 0, 1600)]
set_option maxRecDepth 100000 in
set_option maxHeartbeats 4000000 in
theorem sf_X11_seal_r31d {Dy : jH → Prop} {h : jH} {Q : Option Value → jH → Prop} {dr : (Int × jW)} {a1 : Int32} (hD : jDk Dy) (J : jJ jSgX Dy h) (D : d_X11_seal_r31d a1.toInt (vw h) = dr) (hQ : ∀ (v : Int32) hx9, jJ jSgX Dy hx9 → jSm fp_X11_seal_r31d h hx9 → dr.1 = v.toInt → dr.2 = vw hx9 → Q (some (.int v)) hx9) : jC m_X11_seal 4 0 0 [.ref 31, .int a1] h Q := by
  refine jC.of rfl k_X11_seal rfl ?_
  have Sm := jSm_rf fp_X11_seal_r31d h
  have ea1 := jfull a1
  show jX m_X11_seal 4 0 0 0 [(0, .ref 31), (1, .int a1)] [] _ 0 0 _
  unfold d_X11_seal_r31d at D
  refine x_iloadn (x := a1) rfl rfl ?_
  refine x_inst (N := m_X11_isYear) (As := [.int a1]) (st := []) (dx9 := 1) (mc := 0) (ms := 0) (host := "") rfl t_X11_isYear ⟨Or.inl q_11_433, s_X11_isYear⟩ rfl (by decide) rfl rfl ⟨by decide, by decide⟩ (zc_X11_isYear rfl (fun v1 ev1 => ?_))
  show jX m_X11_seal 4 0 0 4 [(0, .ref 31), (1, .int a1)] [.int v1] _ 0 0 _
  refine x_ifne (tgt := 13) rfl rfl (ti_ne rfl jk_0 ⟨fun c2 => ?_, fun c2 => ?_⟩)
  ·
    rw [if_pos (by omega)] at D
    refine x_aloadn (x := 31) rfl rfl ?_
    refine x_iloadn (x := a1) rfl rfl ?_
    refine x_aloadn (x := 31) rfl rfl ?_
    refine z_getR (N := 13) (b := 32) 11 0 rfl f_11_10 rfl J rfl 3968 ⟨rfl, rfl⟩ rfl ?_
    refine z_getR (N := 20) (b := 65) 1 16 rfl f_11_511 rfl J rfl 4112 ⟨rfl, rfl⟩ rfl ?_
    refine x_iloadn (x := a1) rfl rfl ?_
    refine x_iconst (v := 4) rfl ki_4 ?_
    refine z_imul rfl rfl jk_4 (by omega) (fun v3 ev3 => ?_)
    try rw [show (a1.toInt * 4) = v3.toInt from by omega] at D
    refine x_inv (N := m_X11_sumYear) (As := [.int a1, .ref 65, .int v3]) (b := 31) (st := []) (dx9 := 3) (mc := 0) (ms := 0) (host := "") 11 rfl t_X11_sumYear ⟨Or.inl q_11_514, i_X11_sumYear.1, i_X11_sumYear.2⟩ ⟨by decide, rfl⟩ (congrArg Prod.fst (J.1.1 31 (11, 13) rfl)) rfl (by decide) rfl rfl ⟨by decide, by decide⟩ (sf_X11_sumYear_r31_r65d (jr_of rfl (by omega)) (jr_of rfl (by omega)) (jr_mod rfl (by omega)) hD J rfl  (fun h J S4 X5 => ?_))
    have Sm := jSm_tr rfl Sm S4
    rw [X5] at D
    show jX m_X11_seal 4 0 0 28 [(0, .ref 31), (1, .int a1)] [] _ 0 0 _
    refine x_aloadn (x := 31) rfl rfl ?_
    refine x_aloadn (x := 31) rfl rfl ?_
    refine z_getR (N := 13) (b := 32) 11 0 rfl f_11_10 rfl J rfl 3968 ⟨rfl, rfl⟩ rfl ?_
    refine z_getR (N := 20) (b := 65) 1 16 rfl f_11_511 rfl J rfl 4112 ⟨rfl, rfl⟩ rfl ?_
    refine x_iloadn (x := a1) rfl rfl ?_
    refine x_iconst (v := 4) rfl ki_4 ?_
    refine z_imul rfl rfl jk_4 (by omega) (fun v6 ev6 => ?_)
    refine x_iconst (v := 1) rfl ki_1 ?_
    refine z_iadd rfl rfl jk_1 (by omega) (fun v7 ev7 => ?_)
    refine z_laldQ (N := 1600) rfl J rfl rfl (by omega) (fun v8 qv8 => ?_)
    have ev8 := jfullL v8
    try rw [vrdL qv8 (show (v3.toInt + 1) = v7.toInt from by omega)] at D
    refine z_l2iD rfl rfl (fun v9 ev9 => ?_)
    have fv9 := jfull v9
    try rw [← ev9] at D
    refine x_inv (N := m_X11_accept) (As := [.int v9]) (b := 31) (st := []) (dx9 := 3) (mc := 0) (ms := 0) (host := "") 11 rfl t_X11_accept ⟨Or.inl q_11_165, i_X11_accept.1, i_X11_accept.2⟩ ⟨by decide, rfl⟩ (congrArg Prod.fst (J.1.1 31 (11, 13) rfl)) rfl (by decide) rfl rfl ⟨by decide, by decide⟩ (jC.of rfl k_X11_accept rfl ?_)
    show jX m_X11_accept 3 0 0 0 [(0, .ref 31), (1, .int v9)] [] _ 0 0 _
    refine x_aloadn (x := 31) rfl rfl ?_
    refine x_iconst (v := 0) rfl ki_0 ?_
    refine z_putI (N := 13) (w := 0) 11 12 rfl f_11_94 rfl (jfin_no TX11 RX11 13 rfl rfl) hD J Sm rfl rfl jk_0 (pw_31_12 (by omega)) rfl (fun h w10 J Sm => ?_)
    rw [vwf w10 (show 0 = (0 : Int32).toInt from by have := jk_0; omega)] at D
    refine x_aloadn (x := 31) rfl rfl ?_
    refine z_getR (N := 13) (b := 32) 11 0 rfl f_11_10 rfl J rfl 3968 ⟨rfl, rfl⟩ rfl ?_
    refine x_dup rfl rfl ?_
    refine z_getI0 (N := 20) 1 19 rfl f_11_528 rfl J rfl (fun v11 qv11 => ?_)
    have ev11 := jfull v11
    try rw [vrf (jmb_c S4 (jmb_w w10 qv11 rfl) rfl)] at D
    refine x_iconst (v := 1) rfl ki_1 ?_
    refine z_iaddW rfl rfl jk_1 (fun v12 ev12 => ?_)
    have fv12 := jfull v12
    try rw [← ev12] at D
    refine z_putI (N := 20) (w := v12.toInt) 1 19 rfl f_11_528 rfl (jfin_no TX1 RX1 20 rfl rfl) hD J Sm rfl rfl rfl (pw_32_19 trivial) rfl (fun h w13 J Sm => ?_)
    rw [vwf w13 (show v12.toInt = v12.toInt from by omega)] at D
    refine x_iloadn (x := v9) rfl rfl ?_
    refine x_iret rfl rfl ?_
    show jX m_X11_seal 4 0 0 46 [(0, .ref 31), (1, .int a1)] [.int v9] _ 0 0 _
    refine x_iret rfl rfl ?_
    exact hQ _ _ J Sm ((congrArg Prod.fst D).symm.trans (show v9.toInt = v9.toInt from by omega)) (congrArg Prod.snd D).symm
  ·
    rw [if_neg (by omega)] at D
    refine x_aloadn (x := 31) rfl rfl ?_
    refine x_iconst (v := (-1)) rfl ki_m1 ?_
    refine x_inv (N := m_X11_refuse) (As := [.int (-1)]) (b := 31) (st := []) (dx9 := 3) (mc := 0) (ms := 0) (host := "") 11 rfl t_X11_refuse ⟨Or.inl q_11_206, i_X11_refuse.1, i_X11_refuse.2⟩ ⟨by decide, rfl⟩ (congrArg Prod.fst (J.1.1 31 (11, 13) rfl)) rfl (by decide) rfl rfl ⟨by decide, by decide⟩ (jC.of rfl k_X11_refuse rfl ?_)
    show jX m_X11_refuse 3 0 0 0 [(0, .ref 31), (1, .int (-1))] [] _ 0 0 _
    refine x_aloadn (x := 31) rfl rfl ?_
    refine x_iloadn (x := (-1)) rfl rfl ?_
    refine z_putI (N := 13) (w := (-1)) 11 12 rfl f_11_94 rfl (jfin_no TX11 RX11 13 rfl rfl) hD J Sm rfl rfl jk_m1 (pw_31_12 (by omega)) rfl (fun h w14 J Sm => ?_)
    rw [vwf w14 (show (-1) = ((-1) : Int32).toInt from by have := jk_m1; omega)] at D
    refine x_iloadn (x := (-1)) rfl rfl ?_
    refine x_iret rfl rfl ?_
    show jX m_X11_seal 4 0 0 12 [(0, .ref 31), (1, .int a1)] [.int (-1)] _ 0 0 _
    refine x_iret rfl rfl ?_
    exact hQ _ _ J Sm ((congrArg Prod.fst D).symm.trans (show (-1) = ((-1) : Int32).toInt from by have := jk_m1; omega)) (congrArg Prod.snd D).symm
def fp_X4_sitDown_r107d : jFp := [(107, 9, 10), (112, 0, 40), (113, 0, 40)]
set_option maxRecDepth 100000 in
set_option maxHeartbeats 4000000 in
theorem ct_X4_sitDown_r107d_103 {Dy : jH → Prop} {h0 : jH} {Q : Option Value → jH → Prop} {dr : jW} (hD : jDk Dy) (hQ : ∀ hx9, jJ jSgX Dy hx9 → jSm fp_X4_sitDown_r107d h0 hx9 → dr = vw hx9 → Q none hx9) : ∀ (h : jH), jJ jSgX Dy h → jSm fp_X4_sitDown_r107d h0 h → d_X4_sitDown_r107d_103  (vw h) = dr → jX m_X4_sitDown 1 0 0 103 [] [] h 0 0 Q := by
  intro  h    J Sm D
  unfold d_X4_sitDown_r107d_103 at D
  refine x_vret rfl rfl ?_
  exact hQ _ J Sm D.symm
set_option maxRecDepth 100000 in
set_option maxHeartbeats 4000000 in
theorem ct_X4_sitDown_r107d_70 {Dy : jH → Prop} {h0 : jH} {Q : Option Value → jH → Prop} {dr : jW} (hD : jDk Dy) (hQ : ∀ hx9, jJ jSgX Dy hx9 → jSm fp_X4_sitDown_r107d h0 hx9 → dr = vw hx9 → Q none hx9) : ∀ (l1 : Int32) (l2 : Int64) (l4 : Int32) (g0 : Int32) (h : jH), 0 ≤ l1.toInt ∧ l1.toInt ≤ 39 → 0 ≤ l4.toInt ∧ l4.toInt ≤ 40 → 0 ≤ g0.toInt ∧ g0.toInt ≤ 40 → (g0.toInt ≤ 39 ∨ 40 ≤ l4.toInt) → jiv h 107 9 = g0 → jJ jSgX Dy h → jSm fp_X4_sitDown_r107d h0 h → d_X4_sitDown_r107d_70  l1.toInt l2.toInt l4.toInt (vw h) = dr → jX m_X4_sitDown 1 0 0 70 [(0, .ref 107), (1, .int l1), (2, .long l2), (4, .int l4)] [] h 0 0 Q := by
  intro l1 l2 l4 g0 h y0 y1 y2 y3 z0  J Sm D
  have el2 := jfullL l2
  unfold d_X4_sitDown_r107d_70 at D
  try rw [vrf z0] at D
  refine x_iload (x := l4) rfl rfl ?_
  refine x_bipush (v := 40) rfl kb_40 ?_
  refine x_icge (tgt := 103) rfl rfl (ti_ge rfl jk_40 ⟨fun c1 => ?_, fun c1 => ?_⟩)
  ·
    rw [if_pos (by omega)] at D
    exact jX.sub jsb_n (ct_X4_sitDown_r107d_103 hD hQ  h J Sm D)
  ·
    rw [if_neg (by omega)] at D
    refine x_aloadn (x := 107) rfl rfl ?_
    refine z_getR (N := 18) (b := 112) 4 7 rfl f_4_25 rfl J rfl 13703 ⟨rfl, rfl⟩ rfl ?_
    refine x_iload (x := l4) rfl rfl ?_
    refine x_iloadn (x := l1) rfl rfl ?_
    refine z_iast (N := 40) (l := 0) (u := 40) (w := l1.toInt) rfl hD J Sm rfl rfl rfl (by omega) rfl (wr_112 (fun q1 q2 q3 q4 => by omega)) rfl (fun h w2 J Sm => ?_)
    rw [vww w2 (show l4.toInt = l4.toInt from by omega) (show l1.toInt = l1.toInt from by omega)] at D
    refine x_aloadn (x := 107) rfl rfl ?_
    refine z_getR (N := 18) (b := 113) 4 8 rfl f_4_28 rfl J rfl 13704 ⟨rfl, rfl⟩ rfl ?_
    refine x_iload (x := l4) rfl rfl ?_
    refine x_lloadn (x := l2) rfl rfl ?_
    refine z_last (N := 40) (l := 0) (u := 40) rfl hD J Sm rfl rfl rfl (by omega) rfl (fun h w3 J Sm => ?_)
    rw [vwwL w3 (show l4.toInt = l4.toInt from by omega) (show l2.toInt = l2.toInt from by omega)] at D
    refine x_aloadn (x := 107) rfl rfl ?_
    refine x_dup rfl rfl ?_
    refine z_getM (N := 18) (v := g0) 4 9 rfl f_4_31 rfl J rfl (jml w3 (jmo w2 rfl z0)) ?_
    refine x_iconst (v := 1) rfl ki_1 ?_
    refine z_iadd rfl rfl jk_1 (by omega) (fun v4 ev4 => ?_)
    refine z_putI (N := 18) (w := v4.toInt) 4 9 rfl f_4_31 rfl (jfin_no TX4 RX4 18 rfl rfl) hD J Sm rfl rfl rfl (pw_107_9 (by omega)) rfl (fun h w5 J Sm => ?_)
    rw [vwf w5 (show (g0.toInt + 1) = v4.toInt from by omega)] at D
    exact jX.sub jsb_n (ct_X4_sitDown_r107d_103 hD hQ  h J Sm D)
set_option maxRecDepth 100000 in
set_option maxHeartbeats 4000000 in
theorem ct_X4_sitDown_r107d_6 {Dy : jH → Prop} {h0 : jH} {Q : Option Value → jH → Prop} {dr : jW} (hD : jDk Dy) (hQ : ∀ hx9, jJ jSgX Dy hx9 → jSm fp_X4_sitDown_r107d h0 hx9 → dr = vw hx9 → Q none hx9) : ∀ r : Nat, ∀ (l1 : Int32) (l2 : Int64) (l4 : Int32) (g0 : Int32) (h : jH), l4.toInt - 0 < (r : Int) → 0 ≤ l1.toInt ∧ l1.toInt ≤ 39 → 0 ≤ l4.toInt ∧ l4.toInt ≤ 40 → 0 ≤ g0.toInt ∧ g0.toInt ≤ 40 → (g0.toInt ≤ 39 ∨ 40 ≤ l4.toInt) → jiv h 107 9 = g0 → jJ jSgX Dy h → jSm fp_X4_sitDown_r107d h0 h → d_X4_sitDown_r107d_6 r l1.toInt l2.toInt l4.toInt (vw h) = dr → jX m_X4_sitDown 1 0 0 6 [(0, .ref 107), (1, .int l1), (2, .long l2), (4, .int l4)] [] h 0 0 Q := by
  intro r
  induction r with
  | zero =>
    intro l1 l2 l4 g0 h hm y0 y1 y2 y3 z0  J Sm D
    exfalso
    have el2 := jfullL l2
    omega
  | succ r ih =>
    intro l1 l2 l4 g0 h hm y0 y1 y2 y3 z0  J Sm D
    have el2 := jfullL l2
    rw [d_X4_sitDown_r107d_6.eq_2] at D
    try rw [vrf z0] at D
    refine x_iload (x := l4) rfl rfl ?_
    refine x_ifle (tgt := 70) rfl rfl (ti_le rfl jk_0 ⟨fun c1 => ?_, fun c1 => ?_⟩)
    ·
      rw [if_pos (by omega)] at D
      exact jX.sub (jsb_c rfl (jsb_c rfl (jsb_c rfl (jsb_c rfl jsb_n)))) (ct_X4_sitDown_r107d_70 hD hQ  l1 l2 l4 g0 h (jr_of rfl (by omega)) (jr_of rfl (by omega)) (jr_of rfl (by omega)) (by omega) z0 J Sm D)
    ·
      rw [if_neg (by omega)] at D
      refine x_iload (x := l4) rfl rfl ?_
      refine x_bipush (v := 40) rfl kb_40 ?_
      refine x_icge (tgt := 70) rfl rfl (ti_ge rfl jk_40 ⟨fun c2 => ?_, fun c2 => ?_⟩)
      ·
        rw [if_pos (by omega)] at D
        exact jX.sub (jsb_c rfl (jsb_c rfl (jsb_c rfl (jsb_c rfl jsb_n)))) (ct_X4_sitDown_r107d_70 hD hQ  l1 l2 l4 g0 h (jr_of rfl (by omega)) (jr_of rfl (by omega)) (jr_of rfl (by omega)) (by omega) z0 J Sm D)
      ·
        rw [if_neg (by omega)] at D
        refine x_aloadn (x := 107) rfl rfl ?_
        refine z_getR (N := 18) (b := 113) 4 8 rfl f_4_28 rfl J rfl 13704 ⟨rfl, rfl⟩ rfl ?_
        refine x_iload (x := l4) rfl rfl ?_
        refine x_iconst (v := 1) rfl ki_1 ?_
        refine z_isub rfl rfl jk_1 (by omega) (fun v3 ev3 => ?_)
        refine z_laldQ (N := 40) rfl J rfl rfl (by omega) (fun v4 qv4 => ?_)
        have ev4 := jfullL v4
        try rw [vrdL qv4 (show (l4.toInt - 1) = v3.toInt from by omega)] at D
        refine x_lloadn (x := l2) rfl rfl ?_
        refine z_lcmp rfl rfl rfl (fun v5 ev5 => ?_)
        refine x_ifge (tgt := 70) rfl rfl (ti_ge rfl jk_0 ⟨fun c6 => ?_, fun c6 => ?_⟩)
        ·
          rw [if_pos (by omega)] at D
          exact jX.sub (jsb_c rfl (jsb_c rfl (jsb_c rfl (jsb_c rfl jsb_n)))) (ct_X4_sitDown_r107d_70 hD hQ  l1 l2 l4 g0 h (jr_of rfl (by omega)) (jr_of rfl (by omega)) (jr_of rfl (by omega)) (by omega) z0 J Sm D)
        ·
          rw [if_neg (by omega)] at D
          refine x_aloadn (x := 107) rfl rfl ?_
          refine z_getR (N := 18) (b := 112) 4 7 rfl f_4_25 rfl J rfl 13703 ⟨rfl, rfl⟩ rfl ?_
          refine x_iload (x := l4) rfl rfl ?_
          refine x_aloadn (x := 107) rfl rfl ?_
          refine z_getR (N := 18) (b := 112) 4 7 rfl f_4_25 rfl J rfl 13703 ⟨rfl, rfl⟩ rfl ?_
          refine x_iload (x := l4) rfl rfl ?_
          refine x_iconst (v := 1) rfl ki_1 ?_
          refine z_isub rfl rfl jk_1 (by omega) (fun v7 ev7 => ?_)
          refine z_iald (N := 40) rfl J rfl sg_112_0_40_1_0_1 rfl (by omega) (fun v8 qv8 ev8 => ?_)
          try rw [vrd qv8 (show (l4.toInt - 1) = v7.toInt from by omega)] at D
          refine z_iast (N := 40) (l := 0) (u := 40) (w := v8.toInt) rfl hD J Sm rfl rfl rfl (by omega) rfl (wr_112 (fun q1 q2 q3 q4 => by omega)) rfl (fun h w9 J Sm => ?_)
          rw [vww w9 (show l4.toInt = l4.toInt from by omega) (show v8.toInt = v8.toInt from by omega)] at D
          refine x_aloadn (x := 107) rfl rfl ?_
          refine z_getR (N := 18) (b := 113) 4 8 rfl f_4_28 rfl J rfl 13704 ⟨rfl, rfl⟩ rfl ?_
          refine x_iload (x := l4) rfl rfl ?_
          refine x_aloadn (x := 107) rfl rfl ?_
          refine z_getR (N := 18) (b := 113) 4 8 rfl f_4_28 rfl J rfl 13704 ⟨rfl, rfl⟩ rfl ?_
          refine x_iload (x := l4) rfl rfl ?_
          refine x_iconst (v := 1) rfl ki_1 ?_
          refine z_isub rfl rfl jk_1 (by omega) (fun v10 ev10 => ?_)
          refine z_laldQ (N := 40) rfl J rfl rfl (by omega) (fun v11 qv11 => ?_)
          have ev11 := jfullL v11
          try rw [vrdL qv11 (show (l4.toInt - 1) = v10.toInt from by omega)] at D
          refine z_last (N := 40) (l := 0) (u := 40) rfl hD J Sm rfl rfl rfl (by omega) rfl (fun h w12 J Sm => ?_)
          rw [vwwL w12 (show l4.toInt = l4.toInt from by omega) (show v11.toInt = v11.toInt from by omega)] at D
          refine z_iinc (x := l4) (lsx9 := fun v13 => [(4, .int v13), (0, .ref 107), (1, .int l1), (2, .long l2)]) rfl rfl rfl jko_m1 (by omega) rfl (fun _ => rfl) (fun v13 ev13 => ?_)
          refine x_goto (tgt := 6) rfl rfl ?_
          try rw [show (l4.toInt + (-1)) = v13.toInt from by omega] at D
          exact jX.sub (jsb_c rfl (jsb_c rfl (jsb_c rfl (jsb_c rfl jsb_n)))) (ih l1 l2 v13 g0 h (by omega) (jr_of rfl (by omega)) (jr_of rfl (by omega)) (jr_of rfl (by omega)) (by omega) (jml w12 (jmo w9 rfl z0)) J Sm D)
set_option maxRecDepth 100000 in
set_option maxHeartbeats 4000000 in
theorem sf_X4_sitDown_r107d {Dy : jH → Prop} {h : jH} {Q : Option Value → jH → Prop} {dr : jW} {a1 : Int32} {a2 : Int64} (y1 : 0 ≤ a1.toInt ∧ a1.toInt ≤ 39) (hD : jDk Dy) (J : jJ jSgX Dy h) (D : d_X4_sitDown_r107d a1.toInt a2.toInt (vw h) = dr) (hQ : ∀ hx9, jJ jSgX Dy hx9 → jSm fp_X4_sitDown_r107d h hx9 → dr = vw hx9 → Q none hx9) : jC m_X4_sitDown 1 0 0 [.ref 107, .int a1, .long a2] h Q := by
  refine jC.of rfl k_X4_sitDown rfl ?_
  have Sm := jSm_rf fp_X4_sitDown_r107d h
  have ea2 := jfullL a2
  show jX m_X4_sitDown 1 0 0 0 [(0, .ref 107), (1, .int a1), (2, .long a2)] [] _ 0 0 _
  unfold d_X4_sitDown_r107d at D
  refine x_aloadn (x := 107) rfl rfl ?_
  refine z_getI (N := 18) 4 9 rfl f_4_31 rfl J rfl sg_107_9_10_1_0_1 (fun v1 qv1 ev1 => ?_)
  try rw [vrf qv1] at D
  refine x_istore (lsx9 := [(4, .int v1), (0, .ref 107), (1, .int a1), (2, .long a2)]) rfl rfl rfl ?_
  exact jX.sub (jsb_c rfl (jsb_c rfl (jsb_c rfl (jsb_c rfl jsb_n)))) (ct_X4_sitDown_r107d_6 hD hQ  41 a1 a2 v1 v1 h (by omega) (jr_of rfl (by omega)) (jr_of rfl (by omega)) (jr_of rfl (by omega)) (by omega) qv1 J Sm D)
def fp_X4_seatAll_r107d : jFp := [(85, 0, 4), (98, 10, 11), (98, 11, 12), (98, 12, 13), (98, 13, 14), (98, 14, 15), (98, 15, 16), (99, 0, 30), (100, 0, 30), (101, 0, 3), (102, 0, 40), (103, 0, 40), (104, 0, 40), (105, 0, 3), (106, 0, 100), (107, 9, 10), (112, 0, 40), (113, 0, 40), (114, 0, 3)]
set_option maxRecDepth 100000 in
set_option maxHeartbeats 4000000 in
theorem ct_X4_seatAll_r107d_97 {Dy : jH → Prop} {h0 : jH} {Q : Option Value → jH → Prop} {dr : jW} {K36 : Int → jW → jW} {R36 : Int} (hD : jDk Dy) (hQ : ∀ hx9, jJ jSgX Dy hx9 → jSm fp_X4_seatAll_r107d h0 hx9 → dr = vw hx9 → Q none hx9) (k36 : ∀ (l3 : Int32) (h : jH), 40 - l3.toInt < R36 → 0 ≤ l3.toInt ∧ l3.toInt ≤ 40 → jJ jSgX Dy h → jSm fp_X4_seatAll_r107d h0 h → K36 l3.toInt (vw h) = dr → jX m_X4_seatAll 7 0 0 36 [(0, .ref 107), (3, .int l3)] [] h 0 0 Q) : ∀ (l3 : Int32) (h : jH), 0 ≤ l3.toInt ∧ l3.toInt ≤ 39 → 40 - l3.toInt ≤ R36 → jJ jSgX Dy h → jSm fp_X4_seatAll_r107d h0 h → d_X4_seatAll_r107d_97 K36  l3.toInt (vw h) = dr → jX m_X4_seatAll 7 0 0 97 [(0, .ref 107), (3, .int l3)] [] h 0 0 Q := by
  intro l3 h y0  m36 J Sm D
  unfold d_X4_seatAll_r107d_97 at D
  refine z_iinc (x := l3) (lsx9 := fun v1 => [(3, .int v1), (0, .ref 107)]) rfl rfl rfl jko_1 (by omega) rfl (fun _ => rfl) (fun v1 ev1 => ?_)
  refine x_goto (tgt := 36) rfl rfl ?_
  try rw [show (l3.toInt + 1) = v1.toInt from by omega] at D
  exact jX.sub (jsb_c rfl (jsb_c rfl jsb_n)) (k36 v1 h (by omega) (jr_of rfl (by omega)) J Sm D)
set_option maxRecDepth 100000 in
set_option maxHeartbeats 4000000 in
theorem ct_X4_seatAll_r107d_5000094 {Dy : jH → Prop} {h0 : jH} {Q : Option Value → jH → Prop} {dr : jW} {K36 : Int → jW → jW} {R36 : Int} (hD : jDk Dy) (hQ : ∀ hx9, jJ jSgX Dy hx9 → jSm fp_X4_seatAll_r107d h0 hx9 → dr = vw hx9 → Q none hx9) (k36 : ∀ (l3 : Int32) (h : jH), 40 - l3.toInt < R36 → 0 ≤ l3.toInt ∧ l3.toInt ≤ 40 → jJ jSgX Dy h → jSm fp_X4_seatAll_r107d h0 h → K36 l3.toInt (vw h) = dr → jX m_X4_seatAll 7 0 0 36 [(0, .ref 107), (3, .int l3)] [] h 0 0 Q) : ∀ (l3 : Int32) (s1 : Int32) (h : jH), 0 ≤ l3.toInt ∧ l3.toInt ≤ 39 → 0 ≤ s1.toInt ∧ s1.toInt ≤ 39 → 40 - l3.toInt ≤ R36 → jJ jSgX Dy h → jSm fp_X4_seatAll_r107d h0 h → d_X4_seatAll_r107d_5000094 K36  l3.toInt s1.toInt (vw h) = dr → jX m_X4_seatAll 7 0 0 94 [(0, .ref 107), (3, .int l3)] [.long (-2000000000000), .int s1, .ref 107] h 0 0 Q := by
  intro l3 s1 h y0 y1  m36 J Sm D
  unfold d_X4_seatAll_r107d_5000094 at D
  refine x_inv (N := m_X4_sitDown) (As := [.int s1, .long (-2000000000000)]) (b := 107) (st := []) (dx9 := 1) (mc := 0) (ms := 0) (host := "") 4 rfl t_X4_sitDown ⟨Or.inl q_4_144, i_X4_sitDown.1, i_X4_sitDown.2⟩ ⟨by decide, rfl⟩ (congrArg Prod.fst (J.1.1 107 (4, 18) rfl)) rfl (by decide) rfl rfl ⟨by decide, by decide⟩ (sf_X4_sitDown_r107d (jr_of rfl (by omega)) hD J rfl  (fun h J S1 X2 => ?_))
  have Sm := jSm_tr rfl Sm S1
  try rw [jkl_m2000000000000] at X2
  rw [X2] at D
  show jX m_X4_seatAll 7 0 0 97 [(0, .ref 107), (3, .int l3)] [] _ 0 0 _
  exact jX.sub (jsb_c rfl (jsb_c rfl jsb_n)) (ct_X4_seatAll_r107d_97 hD hQ k36 l3 h (jr_of rfl (by omega)) (by omega) J Sm D)
set_option maxRecDepth 100000 in
set_option maxHeartbeats 4000000 in
theorem ct_X4_seatAll_r107d_94 {Dy : jH → Prop} {h0 : jH} {Q : Option Value → jH → Prop} {dr : jW} {K36 : Int → jW → jW} {R36 : Int} (hD : jDk Dy) (hQ : ∀ hx9, jJ jSgX Dy hx9 → jSm fp_X4_seatAll_r107d h0 hx9 → dr = vw hx9 → Q none hx9) (k36 : ∀ (l3 : Int32) (h : jH), 40 - l3.toInt < R36 → 0 ≤ l3.toInt ∧ l3.toInt ≤ 40 → jJ jSgX Dy h → jSm fp_X4_seatAll_r107d h0 h → K36 l3.toInt (vw h) = dr → jX m_X4_seatAll 7 0 0 36 [(0, .ref 107), (3, .int l3)] [] h 0 0 Q) : ∀ (l3 : Int32) (s0 : Int64) (s1 : Int32) (h : jH), 0 ≤ l3.toInt ∧ l3.toInt ≤ 39 → 0 ≤ s1.toInt ∧ s1.toInt ≤ 39 → 40 - l3.toInt ≤ R36 → jJ jSgX Dy h → jSm fp_X4_seatAll_r107d h0 h → d_X4_seatAll_r107d_94 K36  l3.toInt s0.toInt s1.toInt (vw h) = dr → jX m_X4_seatAll 7 0 0 94 [(0, .ref 107), (3, .int l3)] [.long s0, .int s1, .ref 107] h 0 0 Q := by
  intro l3 s0 s1 h y0 y1  m36 J Sm D
  have es0 := jfullL s0
  unfold d_X4_seatAll_r107d_94 at D
  refine x_inv (N := m_X4_sitDown) (As := [.int s1, .long s0]) (b := 107) (st := []) (dx9 := 1) (mc := 0) (ms := 0) (host := "") 4 rfl t_X4_sitDown ⟨Or.inl q_4_144, i_X4_sitDown.1, i_X4_sitDown.2⟩ ⟨by decide, rfl⟩ (congrArg Prod.fst (J.1.1 107 (4, 18) rfl)) rfl (by decide) rfl rfl ⟨by decide, by decide⟩ (sf_X4_sitDown_r107d (jr_of rfl (by omega)) hD J rfl  (fun h J S1 X2 => ?_))
  have Sm := jSm_tr rfl Sm S1
  rw [X2] at D
  show jX m_X4_seatAll 7 0 0 97 [(0, .ref 107), (3, .int l3)] [] _ 0 0 _
  exact jX.sub (jsb_c rfl (jsb_c rfl jsb_n)) (ct_X4_seatAll_r107d_97 hD hQ k36 l3 h (jr_of rfl (by omega)) (by omega) J Sm D)
set_option maxRecDepth 100000 in
set_option maxHeartbeats 4000000 in
theorem ct_X4_seatAll_r107d_36 {Dy : jH → Prop} {h0 : jH} {Q : Option Value → jH → Prop} {dr : jW} (hD : jDk Dy) (hQ : ∀ hx9, jJ jSgX Dy hx9 → jSm fp_X4_seatAll_r107d h0 hx9 → dr = vw hx9 → Q none hx9) : ∀ r : Nat, ∀ (l3 : Int32) (h : jH), 40 - l3.toInt < (r : Int) → 0 ≤ l3.toInt ∧ l3.toInt ≤ 40 → jJ jSgX Dy h → jSm fp_X4_seatAll_r107d h0 h → d_X4_seatAll_r107d_36 r l3.toInt (vw h) = dr → jX m_X4_seatAll 7 0 0 36 [(0, .ref 107), (3, .int l3)] [] h 0 0 Q := by
  intro r
  induction r with
  | zero =>
    intro l3 h hm y0   J Sm D
    exfalso
    omega
  | succ r ih =>
    intro l3 h hm y0   J Sm D
    rw [d_X4_seatAll_r107d_36.eq_2] at D
    refine x_iloadn (x := l3) rfl rfl ?_
    refine x_aloadn (x := 107) rfl rfl ?_
    refine x_inv (N := m_X4_houses) (As := []) (b := 107) (st := [.int l3]) (dx9 := 6) (mc := 0) (ms := 0) (host := "") 4 rfl t_X4_houses ⟨Or.inl q_4_107, i_X4_houses.1, i_X4_houses.2⟩ ⟨by decide, rfl⟩ (congrArg Prod.fst (J.1.1 107 (4, 18) rfl)) rfl (by decide) rfl rfl ⟨by decide, by decide⟩ (jC.of rfl k_X4_houses rfl ?_)
    show jX m_X4_houses 6 0 0 0 [(0, .ref 107)] [] _ 0 0 _
    refine x_bipush (v := 40) rfl kb_40 ?_
    refine x_aloadn (x := 107) rfl rfl ?_
    refine z_getR (N := 18) (b := 32) 4 0 rfl f_4_59 rfl J rfl 13696 ⟨rfl, rfl⟩ rfl ?_
    refine z_getR (N := 20) (b := 49) 1 8 rfl f_4_71 rfl J rfl 4104 ⟨rfl, rfl⟩ rfl ?_
    refine z_getI (N := 4) 8 3 rfl f_4_77 rfl J rfl sg_49_3_4_1_0_1 (fun v1 qv1 ev1 => ?_)
    try rw [vrf qv1] at D
    refine z_mmin rfl q_4_82 (by decide) rfl jk_40 rfl (fun v2 ev2 => ?_)
    refine x_iret rfl rfl ?_
    show jX m_X4_seatAll 7 0 0 41 [(0, .ref 107), (3, .int l3)] [.int v2, .int l3] _ 0 0 _
    refine x_icge (tgt := 103) rfl rfl (ti_ge rfl rfl ⟨fun c3 => ?_, fun c3 => ?_⟩)
    ·
      rw [if_pos (by omega)] at D
      refine x_vret rfl rfl ?_
      exact hQ _ J Sm D.symm
    ·
      rw [if_neg (by omega)] at D
      refine x_aloadn (x := 107) rfl rfl ?_
      refine z_getR (N := 18) (b := 98) 4 2 rfl f_4_67 rfl J rfl 13698 ⟨rfl, rfl⟩ rfl ?_
      refine z_getR (N := 16) (b := 103) 0 6 rfl f_4_114 rfl J rfl 12550 ⟨rfl, rfl⟩ rfl ?_
      refine x_iloadn (x := l3) rfl rfl ?_
      refine z_iald (N := 40) rfl J rfl sg_103_0_40_1_0_1 rfl (by omega) (fun v4 qv4 ev4 => ?_)
      try rw [vrd qv4 (show l3.toInt = l3.toInt from by omega)] at D
      refine x_iconst (v := (-1)) rfl ki_m1 ?_
      refine x_iceq (tgt := 97) rfl rfl (ti_eq rfl jk_m1 ⟨fun c5 => ?_, fun c5 => ?_⟩)
      ·
        rw [if_pos (by omega)] at D
        exact jX.sub (jsb_c rfl (jsb_c rfl jsb_n)) (ct_X4_seatAll_r107d_97 hD hQ ih l3 h (jr_of rfl (by omega)) (by omega) J Sm D)
      ·
        rw [if_neg (by omega)] at D
        refine x_aloadn (x := 107) rfl rfl ?_
        refine x_iloadn (x := l3) rfl rfl ?_
        refine x_aloadn (x := 107) rfl rfl ?_
        refine z_getR (N := 18) (b := 98) 4 2 rfl f_4_67 rfl J rfl 13698 ⟨rfl, rfl⟩ rfl ?_
        refine x_bipush (v := 7) rfl kb_7 ?_
        refine x_iconst (v := 0) rfl ki_0 ?_
        refine x_aloadn (x := 107) rfl rfl ?_
        refine z_getR (N := 18) (b := 98) 4 2 rfl f_4_67 rfl J rfl 13698 ⟨rfl, rfl⟩ rfl ?_
        refine z_getR (N := 16) (b := 103) 0 6 rfl f_4_114 rfl J rfl 12550 ⟨rfl, rfl⟩ rfl ?_
        refine x_iloadn (x := l3) rfl rfl ?_
        refine z_ialdM (N := 40) (v := v4) rfl J rfl rfl (by omega) qv4 ?_
        refine x_inv (N := m_X0_weigh) (As := [.int 7, .int 0, .int v4]) (b := 98) (st := [.int l3, .ref 107]) (dx9 := 6) (mc := 0) (ms := 0) (host := "") 0 rfl t_X0_weigh ⟨Or.inl q_4_119, i_X0_weigh.1, i_X0_weigh.2⟩ ⟨by decide, rfl⟩ (congrArg Prod.fst (J.1.1 98 (0, 16) rfl)) rfl (by decide) rfl rfl ⟨by decide, by decide⟩ (sf_X0_weigh_r98d (jr_of jk_7 (by omega)) (jr_of jk_0 (by omega)) (jr_of rfl (by omega)) hD J rfl  (fun v9 h ev9 J S6 X7 X8 => ?_))
        have Sm := jSm_tr rfl Sm S6
        try rw [jk_7] at X7
        try rw [jk_0] at X7
        try rw [jk_7] at X8
        try rw [jk_0] at X8
        try rw [X7] at D
        try rw [X8] at D
        show jX m_X4_seatAll 7 0 0 78 [(0, .ref 107), (3, .int l3)] [.int v9, .int l3, .ref 107] _ 0 0 _
        refine x_ifeq (tgt := 91) rfl rfl (ti_eq rfl jk_0 ⟨fun c10 => ?_, fun c10 => ?_⟩)
        ·
          rw [if_pos (by omega)] at D
          refine x_ldc2 (v := (-2000000000000)) rfl z_4_142 ?_
          exact jX.sub (jsb_c rfl (jsb_c rfl jsb_n)) (ct_X4_seatAll_r107d_5000094 hD hQ ih l3 l3 h (jr_of rfl (by omega)) (jr_of rfl (by omega)) (by omega) J Sm D)
        ·
          rw [if_neg (by omega)] at D
          refine x_aloadn (x := 107) rfl rfl ?_
          refine z_getR (N := 18) (b := 98) 4 2 rfl f_4_67 rfl J rfl 13698 ⟨rfl, rfl⟩ rfl ?_
          refine z_getLQ (N := 16) 0 14 rfl f_4_127 rfl J rfl (fun v11 qv11 => ?_)
          have ev11 := jfullL v11
          try rw [vrfL qv11] at D
          refine x_goto (tgt := 94) rfl rfl ?_
          exact jX.sub (jsb_c rfl (jsb_c rfl jsb_n)) (ct_X4_seatAll_r107d_94 hD hQ ih l3 v11 l3 h (jr_of rfl (by omega)) (jr_of rfl (by omega)) (by omega) J Sm D)
set_option maxRecDepth 100000 in
set_option maxHeartbeats 4000000 in
theorem sf_X4_seatAll_r107d {Dy : jH → Prop} {h : jH} {Q : Option Value → jH → Prop} {dr : jW} {a1 : Int32} {a2 : Int32} (y1 : 0 ≤ a1.toInt ∧ a1.toInt ≤ 146399) (y2 : 0 ≤ a2.toInt ∧ a2.toInt ≤ 146399) (hD : jDk Dy) (J : jJ jSgX Dy h) (D : d_X4_seatAll_r107d a1.toInt a2.toInt (vw h) = dr) (hQ : ∀ hx9, jJ jSgX Dy hx9 → jSm fp_X4_seatAll_r107d h hx9 → dr = vw hx9 → Q none hx9) : jC m_X4_seatAll 7 0 0 [.ref 107, .int a1, .int a2] h Q := by
  refine jC.of rfl k_X4_seatAll rfl ?_
  have Sm := jSm_rf fp_X4_seatAll_r107d h
  show jX m_X4_seatAll 7 0 0 0 [(0, .ref 107), (1, .int a1), (2, .int a2)] [] _ 0 0 _
  unfold d_X4_seatAll_r107d at D
  refine x_aloadn (x := 107) rfl rfl ?_
  refine z_getR (N := 18) (b := 114) 4 10 rfl f_4_35 rfl J rfl 13706 ⟨rfl, rfl⟩ rfl ?_
  refine x_iloadn (x := a1) rfl rfl ?_
  refine x_iloadn (x := a2) rfl rfl ?_
  refine x_aloadn (x := 107) rfl rfl ?_
  refine z_getR (N := 18) (b := 32) 4 0 rfl f_4_59 rfl J rfl 13696 ⟨rfl, rfl⟩ rfl ?_
  refine z_getI0 (N := 20) 1 19 rfl f_4_88 rfl J rfl (fun v1 qv1 => ?_)
  have ev1 := jfull v1
  try rw [vrf qv1] at D
  refine x_inst (N := m_X11_isFresh) (As := [.ref 114, .int a1, .int a2, .int v1]) (st := []) (dx9 := 6) (mc := 0) (ms := 0) (host := "ParishChest") rfl t_X11_isFresh ⟨Or.inr q_4_91, s_X11_isFresh⟩ rfl (by decide) rfl rfl ⟨by decide, by decide⟩ (jC.of rfl k_X11_isFresh rfl ?_)
  show jX m_X11_isFresh 6 0 0 0 [(0, .ref 114), (1, .int a1), (2, .int a2), (3, .int v1)] [] _ 0 0 _
  refine x_aloadn (x := 114) rfl rfl ?_
  refine z_alen (N := 3) (v := 3) rfl J rfl rfl (by decide) ?_
  refine x_iconst (v := 3) rfl ki_3 ?_
  refine x_icge (tgt := 8) rfl rfl (ti_ge jk_3 jk_3 (br_t (by omega) ?_))
  refine x_aloadn (x := 114) rfl rfl ?_
  refine x_iconst (v := 0) rfl ki_0 ?_
  refine z_iald0 (N := 3) rfl J rfl jk_0 (by omega) (fun v2 qv2 => ?_)
  have ev2 := jfull v2
  try rw [vrn (n := 0) (by decide) qv2] at D
  refine x_iloadn (x := a1) rfl rfl ?_
  refine x_icne (tgt := 33) rfl rfl (ti_ne rfl rfl ⟨fun c3 => ?_, fun c3 => ?_⟩)
  ·
    rw [if_neg (by omega)] at D
    refine x_iconst (v := 0) rfl ki_0 ?_
    refine x_istore (lsx9 := [(4, .int 0), (0, .ref 114), (1, .int a1), (2, .int a2), (3, .int v1)]) rfl rfl rfl ?_
    refine x_aloadn (x := 114) rfl rfl ?_
    refine x_iconst (v := 0) rfl ki_0 ?_
    refine x_iloadn (x := a1) rfl rfl ?_
    refine z_iast (N := 3) (l := 0) (u := 3) (w := a1.toInt) rfl hD J Sm rfl rfl jk_0 (by omega) rfl (wr_114) rfl (fun h w4 J Sm => ?_)
    rw [vwn (n := 0) (by decide) w4 (show a1.toInt = a1.toInt from by omega)] at D
    refine x_aloadn (x := 114) rfl rfl ?_
    refine x_iconst (v := 1) rfl ki_1 ?_
    refine x_iloadn (x := a2) rfl rfl ?_
    refine z_iast (N := 3) (l := 0) (u := 3) (w := a2.toInt) rfl hD J Sm rfl rfl jk_1 (by omega) rfl (wr_114) rfl (fun h w5 J Sm => ?_)
    rw [vwn (n := 1) (by decide) w5 (show a2.toInt = a2.toInt from by omega)] at D
    refine x_aloadn (x := 114) rfl rfl ?_
    refine x_iconst (v := 2) rfl ki_2 ?_
    refine x_iloadn (x := v1) rfl rfl ?_
    refine z_iast (N := 3) (l := 0) (u := 3) (w := v1.toInt) rfl hD J Sm rfl rfl jk_2 (by omega) rfl (wr_114) rfl (fun h w6 J Sm => ?_)
    rw [vwn (n := 2) (by decide) w6 (show v1.toInt = v1.toInt from by omega)] at D
    refine x_iload (x := 0) rfl rfl ?_
    refine x_zret rfl rfl (by decide) ?_
    show jX m_X4_seatAll 7 0 0 16 [(0, .ref 107), (1, .int a1), (2, .int a2)] [.int 0] _ 0 0 _
    refine x_ifeq (tgt := 20) rfl rfl (ti_eq jk_0 jk_0 (br_t (by omega) ?_))
    refine x_aloadn (x := 107) rfl rfl ?_
    refine z_getR (N := 18) (b := 98) 4 2 rfl f_4_67 rfl J rfl 13698 ⟨rfl, rfl⟩ rfl ?_
    refine x_iloadn (x := a1) rfl rfl ?_
    refine x_iloadn (x := a2) rfl rfl ?_
    refine x_inv (N := m_X0_turnTo) (As := [.int a1, .int a2]) (b := 98) (st := []) (dx9 := 6) (mc := 0) (ms := 0) (host := "") 0 rfl t_X0_turnTo ⟨Or.inl q_4_101, i_X0_turnTo.1, i_X0_turnTo.2⟩ ⟨by decide, rfl⟩ (congrArg Prod.fst (J.1.1 98 (0, 16) rfl)) rfl (by decide) rfl rfl ⟨by decide, by decide⟩ (jC.of rfl k_X0_turnTo rfl ?_)
    show jX m_X0_turnTo 6 0 0 0 [(0, .ref 98), (1, .int a1), (2, .int a2)] [] _ 0 0 _
    refine x_aloadn (x := 98) rfl rfl ?_
    refine x_iloadn (x := a1) rfl rfl ?_
    refine x_iloadn (x := a2) rfl rfl ?_
    refine x_inv (N := m_X0_readLaws) (As := [.int a1, .int a2]) (b := 98) (st := []) (dx9 := 3) (mc := 0) (ms := 0) (host := "") 0 rfl t_X0_readLaws ⟨Or.inl q_0_65, i_X0_readLaws.1, i_X0_readLaws.2⟩ ⟨by decide, rfl⟩ (congrArg Prod.fst (J.1.1 98 (0, 16) rfl)) rfl (by decide) rfl rfl ⟨by decide, by decide⟩ (sf_X0_readLaws_r98d (jr_of rfl (by omega)) (jr_of rfl (by omega)) hD J rfl  (fun h J S7 X8 => ?_))
    have Sm := jSm_tr rfl Sm S7
    rw [X8] at D
    show jX m_X0_turnTo 6 0 0 6 [(0, .ref 98), (1, .int a1), (2, .int a2)] [] _ 0 0 _
    refine x_aloadn (x := 98) rfl rfl ?_
    refine x_iloadn (x := a1) rfl rfl ?_
    refine x_iloadn (x := a2) rfl rfl ?_
    refine x_inv (N := m_X0_readHouses) (As := [.int a1, .int a2]) (b := 98) (st := []) (dx9 := 3) (mc := 0) (ms := 0) (host := "") 0 rfl t_X0_readHouses ⟨Or.inl q_0_69, i_X0_readHouses.1, i_X0_readHouses.2⟩ ⟨by decide, rfl⟩ (congrArg Prod.fst (J.1.1 98 (0, 16) rfl)) rfl (by decide) rfl rfl ⟨by decide, by decide⟩ (sf_X0_readHouses_r98d (jr_of rfl (by omega)) (jr_of rfl (by omega)) hD J rfl  (fun h J S9 X10 => ?_))
    have Sm := jSm_tr rfl Sm S9
    rw [X10] at D
    show jX m_X0_turnTo 6 0 0 12 [(0, .ref 98), (1, .int a1), (2, .int a2)] [] _ 0 0 _
    refine x_vret rfl rfl ?_
    show jX m_X4_seatAll 7 0 0 29 [(0, .ref 107), (1, .int a1), (2, .int a2)] [] _ 0 0 _
    refine x_aloadn (x := 107) rfl rfl ?_
    refine x_iconst (v := 0) rfl ki_0 ?_
    refine z_putI (N := 18) (w := 0) 4 9 rfl f_4_31 rfl (jfin_no TX4 RX4 18 rfl rfl) hD J Sm rfl rfl jk_0 (pw_107_9 (by omega)) rfl (fun h w11 J Sm => ?_)
    rw [vwf w11 (show 0 = (0 : Int32).toInt from by have := jk_0; omega)] at D
    refine x_iconst (v := 0) rfl ki_0 ?_
    refine x_istoren (lsx9 := [(3, .int 0), (0, .ref 107), (1, .int a1), (2, .int a2)]) rfl rfl rfl ?_
    exact jX.sub (jsb_c rfl (jsb_c rfl jsb_n)) (ct_X4_seatAll_r107d_36 hD hQ  41 0 h (by have := jk_0; omega) (jr_of jk_0 (by omega)) J Sm (by rw [jk_0]; exact D))
  ·
    rw [if_pos (by omega)] at D
    refine x_aloadn (x := 114) rfl rfl ?_
    refine x_iconst (v := 1) rfl ki_1 ?_
    refine z_iald0 (N := 3) rfl J rfl jk_1 (by omega) (fun v12 qv12 => ?_)
    have ev12 := jfull v12
    try rw [vrn (n := 1) (by decide) qv12] at D
    refine x_iloadn (x := a2) rfl rfl ?_
    refine x_icne (tgt := 33) rfl rfl (ti_ne rfl rfl ⟨fun c13 => ?_, fun c13 => ?_⟩)
    ·
      rw [if_neg (by omega)] at D
      refine x_iconst (v := 0) rfl ki_0 ?_
      refine x_istore (lsx9 := [(4, .int 0), (0, .ref 114), (1, .int a1), (2, .int a2), (3, .int v1)]) rfl rfl rfl ?_
      refine x_aloadn (x := 114) rfl rfl ?_
      refine x_iconst (v := 0) rfl ki_0 ?_
      refine x_iloadn (x := a1) rfl rfl ?_
      refine z_iast (N := 3) (l := 0) (u := 3) (w := a1.toInt) rfl hD J Sm rfl rfl jk_0 (by omega) rfl (wr_114) rfl (fun h w14 J Sm => ?_)
      rw [vwn (n := 0) (by decide) w14 (show a1.toInt = a1.toInt from by omega)] at D
      refine x_aloadn (x := 114) rfl rfl ?_
      refine x_iconst (v := 1) rfl ki_1 ?_
      refine x_iloadn (x := a2) rfl rfl ?_
      refine z_iast (N := 3) (l := 0) (u := 3) (w := a2.toInt) rfl hD J Sm rfl rfl jk_1 (by omega) rfl (wr_114) rfl (fun h w15 J Sm => ?_)
      rw [vwn (n := 1) (by decide) w15 (show a2.toInt = a2.toInt from by omega)] at D
      refine x_aloadn (x := 114) rfl rfl ?_
      refine x_iconst (v := 2) rfl ki_2 ?_
      refine x_iloadn (x := v1) rfl rfl ?_
      refine z_iast (N := 3) (l := 0) (u := 3) (w := v1.toInt) rfl hD J Sm rfl rfl jk_2 (by omega) rfl (wr_114) rfl (fun h w16 J Sm => ?_)
      rw [vwn (n := 2) (by decide) w16 (show v1.toInt = v1.toInt from by omega)] at D
      refine x_iload (x := 0) rfl rfl ?_
      refine x_zret rfl rfl (by decide) ?_
      show jX m_X4_seatAll 7 0 0 16 [(0, .ref 107), (1, .int a1), (2, .int a2)] [.int 0] _ 0 0 _
      refine x_ifeq (tgt := 20) rfl rfl (ti_eq jk_0 jk_0 (br_t (by omega) ?_))
      refine x_aloadn (x := 107) rfl rfl ?_
      refine z_getR (N := 18) (b := 98) 4 2 rfl f_4_67 rfl J rfl 13698 ⟨rfl, rfl⟩ rfl ?_
      refine x_iloadn (x := a1) rfl rfl ?_
      refine x_iloadn (x := a2) rfl rfl ?_
      refine x_inv (N := m_X0_turnTo) (As := [.int a1, .int a2]) (b := 98) (st := []) (dx9 := 6) (mc := 0) (ms := 0) (host := "") 0 rfl t_X0_turnTo ⟨Or.inl q_4_101, i_X0_turnTo.1, i_X0_turnTo.2⟩ ⟨by decide, rfl⟩ (congrArg Prod.fst (J.1.1 98 (0, 16) rfl)) rfl (by decide) rfl rfl ⟨by decide, by decide⟩ (jC.of rfl k_X0_turnTo rfl ?_)
      show jX m_X0_turnTo 6 0 0 0 [(0, .ref 98), (1, .int a1), (2, .int a2)] [] _ 0 0 _
      refine x_aloadn (x := 98) rfl rfl ?_
      refine x_iloadn (x := a1) rfl rfl ?_
      refine x_iloadn (x := a2) rfl rfl ?_
      refine x_inv (N := m_X0_readLaws) (As := [.int a1, .int a2]) (b := 98) (st := []) (dx9 := 3) (mc := 0) (ms := 0) (host := "") 0 rfl t_X0_readLaws ⟨Or.inl q_0_65, i_X0_readLaws.1, i_X0_readLaws.2⟩ ⟨by decide, rfl⟩ (congrArg Prod.fst (J.1.1 98 (0, 16) rfl)) rfl (by decide) rfl rfl ⟨by decide, by decide⟩ (sf_X0_readLaws_r98d (jr_of rfl (by omega)) (jr_of rfl (by omega)) hD J rfl  (fun h J S17 X18 => ?_))
      have Sm := jSm_tr rfl Sm S17
      rw [X18] at D
      show jX m_X0_turnTo 6 0 0 6 [(0, .ref 98), (1, .int a1), (2, .int a2)] [] _ 0 0 _
      refine x_aloadn (x := 98) rfl rfl ?_
      refine x_iloadn (x := a1) rfl rfl ?_
      refine x_iloadn (x := a2) rfl rfl ?_
      refine x_inv (N := m_X0_readHouses) (As := [.int a1, .int a2]) (b := 98) (st := []) (dx9 := 3) (mc := 0) (ms := 0) (host := "") 0 rfl t_X0_readHouses ⟨Or.inl q_0_69, i_X0_readHouses.1, i_X0_readHouses.2⟩ ⟨by decide, rfl⟩ (congrArg Prod.fst (J.1.1 98 (0, 16) rfl)) rfl (by decide) rfl rfl ⟨by decide, by decide⟩ (sf_X0_readHouses_r98d (jr_of rfl (by omega)) (jr_of rfl (by omega)) hD J rfl  (fun h J S19 X20 => ?_))
      have Sm := jSm_tr rfl Sm S19
      rw [X20] at D
      show jX m_X0_turnTo 6 0 0 12 [(0, .ref 98), (1, .int a1), (2, .int a2)] [] _ 0 0 _
      refine x_vret rfl rfl ?_
      show jX m_X4_seatAll 7 0 0 29 [(0, .ref 107), (1, .int a1), (2, .int a2)] [] _ 0 0 _
      refine x_aloadn (x := 107) rfl rfl ?_
      refine x_iconst (v := 0) rfl ki_0 ?_
      refine z_putI (N := 18) (w := 0) 4 9 rfl f_4_31 rfl (jfin_no TX4 RX4 18 rfl rfl) hD J Sm rfl rfl jk_0 (pw_107_9 (by omega)) rfl (fun h w21 J Sm => ?_)
      rw [vwf w21 (show 0 = (0 : Int32).toInt from by have := jk_0; omega)] at D
      refine x_iconst (v := 0) rfl ki_0 ?_
      refine x_istoren (lsx9 := [(3, .int 0), (0, .ref 107), (1, .int a1), (2, .int a2)]) rfl rfl rfl ?_
      exact jX.sub (jsb_c rfl (jsb_c rfl jsb_n)) (ct_X4_seatAll_r107d_36 hD hQ  41 0 h (by have := jk_0; omega) (jr_of jk_0 (by omega)) J Sm (by rw [jk_0]; exact D))
    ·
      rw [if_pos (by omega)] at D
      refine x_aloadn (x := 114) rfl rfl ?_
      refine x_iconst (v := 2) rfl ki_2 ?_
      refine z_iald0 (N := 3) rfl J rfl jk_2 (by omega) (fun v22 qv22 => ?_)
      have ev22 := jfull v22
      try rw [vrn (n := 2) (by decide) qv22] at D
      refine x_iloadn (x := v1) rfl rfl ?_
      refine x_icne (tgt := 33) rfl rfl (ti_ne rfl rfl ⟨fun c23 => ?_, fun c23 => ?_⟩)
      ·
        rw [if_neg (by omega)] at D
        refine x_iconst (v := 0) rfl ki_0 ?_
        refine x_istore (lsx9 := [(4, .int 0), (0, .ref 114), (1, .int a1), (2, .int a2), (3, .int v1)]) rfl rfl rfl ?_
        refine x_aloadn (x := 114) rfl rfl ?_
        refine x_iconst (v := 0) rfl ki_0 ?_
        refine x_iloadn (x := a1) rfl rfl ?_
        refine z_iast (N := 3) (l := 0) (u := 3) (w := a1.toInt) rfl hD J Sm rfl rfl jk_0 (by omega) rfl (wr_114) rfl (fun h w24 J Sm => ?_)
        rw [vwn (n := 0) (by decide) w24 (show a1.toInt = a1.toInt from by omega)] at D
        refine x_aloadn (x := 114) rfl rfl ?_
        refine x_iconst (v := 1) rfl ki_1 ?_
        refine x_iloadn (x := a2) rfl rfl ?_
        refine z_iast (N := 3) (l := 0) (u := 3) (w := a2.toInt) rfl hD J Sm rfl rfl jk_1 (by omega) rfl (wr_114) rfl (fun h w25 J Sm => ?_)
        rw [vwn (n := 1) (by decide) w25 (show a2.toInt = a2.toInt from by omega)] at D
        refine x_aloadn (x := 114) rfl rfl ?_
        refine x_iconst (v := 2) rfl ki_2 ?_
        refine x_iloadn (x := v1) rfl rfl ?_
        refine z_iast (N := 3) (l := 0) (u := 3) (w := v1.toInt) rfl hD J Sm rfl rfl jk_2 (by omega) rfl (wr_114) rfl (fun h w26 J Sm => ?_)
        rw [vwn (n := 2) (by decide) w26 (show v1.toInt = v1.toInt from by omega)] at D
        refine x_iload (x := 0) rfl rfl ?_
        refine x_zret rfl rfl (by decide) ?_
        show jX m_X4_seatAll 7 0 0 16 [(0, .ref 107), (1, .int a1), (2, .int a2)] [.int 0] _ 0 0 _
        refine x_ifeq (tgt := 20) rfl rfl (ti_eq jk_0 jk_0 (br_t (by omega) ?_))
        refine x_aloadn (x := 107) rfl rfl ?_
        refine z_getR (N := 18) (b := 98) 4 2 rfl f_4_67 rfl J rfl 13698 ⟨rfl, rfl⟩ rfl ?_
        refine x_iloadn (x := a1) rfl rfl ?_
        refine x_iloadn (x := a2) rfl rfl ?_
        refine x_inv (N := m_X0_turnTo) (As := [.int a1, .int a2]) (b := 98) (st := []) (dx9 := 6) (mc := 0) (ms := 0) (host := "") 0 rfl t_X0_turnTo ⟨Or.inl q_4_101, i_X0_turnTo.1, i_X0_turnTo.2⟩ ⟨by decide, rfl⟩ (congrArg Prod.fst (J.1.1 98 (0, 16) rfl)) rfl (by decide) rfl rfl ⟨by decide, by decide⟩ (jC.of rfl k_X0_turnTo rfl ?_)
        show jX m_X0_turnTo 6 0 0 0 [(0, .ref 98), (1, .int a1), (2, .int a2)] [] _ 0 0 _
        refine x_aloadn (x := 98) rfl rfl ?_
        refine x_iloadn (x := a1) rfl rfl ?_
        refine x_iloadn (x := a2) rfl rfl ?_
        refine x_inv (N := m_X0_readLaws) (As := [.int a1, .int a2]) (b := 98) (st := []) (dx9 := 3) (mc := 0) (ms := 0) (host := "") 0 rfl t_X0_readLaws ⟨Or.inl q_0_65, i_X0_readLaws.1, i_X0_readLaws.2⟩ ⟨by decide, rfl⟩ (congrArg Prod.fst (J.1.1 98 (0, 16) rfl)) rfl (by decide) rfl rfl ⟨by decide, by decide⟩ (sf_X0_readLaws_r98d (jr_of rfl (by omega)) (jr_of rfl (by omega)) hD J rfl  (fun h J S27 X28 => ?_))
        have Sm := jSm_tr rfl Sm S27
        rw [X28] at D
        show jX m_X0_turnTo 6 0 0 6 [(0, .ref 98), (1, .int a1), (2, .int a2)] [] _ 0 0 _
        refine x_aloadn (x := 98) rfl rfl ?_
        refine x_iloadn (x := a1) rfl rfl ?_
        refine x_iloadn (x := a2) rfl rfl ?_
        refine x_inv (N := m_X0_readHouses) (As := [.int a1, .int a2]) (b := 98) (st := []) (dx9 := 3) (mc := 0) (ms := 0) (host := "") 0 rfl t_X0_readHouses ⟨Or.inl q_0_69, i_X0_readHouses.1, i_X0_readHouses.2⟩ ⟨by decide, rfl⟩ (congrArg Prod.fst (J.1.1 98 (0, 16) rfl)) rfl (by decide) rfl rfl ⟨by decide, by decide⟩ (sf_X0_readHouses_r98d (jr_of rfl (by omega)) (jr_of rfl (by omega)) hD J rfl  (fun h J S29 X30 => ?_))
        have Sm := jSm_tr rfl Sm S29
        rw [X30] at D
        show jX m_X0_turnTo 6 0 0 12 [(0, .ref 98), (1, .int a1), (2, .int a2)] [] _ 0 0 _
        refine x_vret rfl rfl ?_
        show jX m_X4_seatAll 7 0 0 29 [(0, .ref 107), (1, .int a1), (2, .int a2)] [] _ 0 0 _
        refine x_aloadn (x := 107) rfl rfl ?_
        refine x_iconst (v := 0) rfl ki_0 ?_
        refine z_putI (N := 18) (w := 0) 4 9 rfl f_4_31 rfl (jfin_no TX4 RX4 18 rfl rfl) hD J Sm rfl rfl jk_0 (pw_107_9 (by omega)) rfl (fun h w31 J Sm => ?_)
        rw [vwf w31 (show 0 = (0 : Int32).toInt from by have := jk_0; omega)] at D
        refine x_iconst (v := 0) rfl ki_0 ?_
        refine x_istoren (lsx9 := [(3, .int 0), (0, .ref 107), (1, .int a1), (2, .int a2)]) rfl rfl rfl ?_
        exact jX.sub (jsb_c rfl (jsb_c rfl jsb_n)) (ct_X4_seatAll_r107d_36 hD hQ  41 0 h (by have := jk_0; omega) (jr_of jk_0 (by omega)) J Sm (by rw [jk_0]; exact D))
      ·
        rw [if_pos (by omega)] at D
        refine x_iconst (v := 1) rfl ki_1 ?_
        refine x_goto (tgt := 34) rfl rfl ?_
        refine x_istore (lsx9 := [(4, .int 1), (0, .ref 114), (1, .int a1), (2, .int a2), (3, .int v1)]) rfl rfl rfl ?_
        refine x_aloadn (x := 114) rfl rfl ?_
        refine x_iconst (v := 0) rfl ki_0 ?_
        refine x_iloadn (x := a1) rfl rfl ?_
        refine z_iast (N := 3) (l := 0) (u := 3) (w := a1.toInt) rfl hD J Sm rfl rfl jk_0 (by omega) rfl (wr_114) rfl (fun h w32 J Sm => ?_)
        rw [vwn (n := 0) (by decide) w32 (show a1.toInt = a1.toInt from by omega)] at D
        refine x_aloadn (x := 114) rfl rfl ?_
        refine x_iconst (v := 1) rfl ki_1 ?_
        refine x_iloadn (x := a2) rfl rfl ?_
        refine z_iast (N := 3) (l := 0) (u := 3) (w := a2.toInt) rfl hD J Sm rfl rfl jk_1 (by omega) rfl (wr_114) rfl (fun h w33 J Sm => ?_)
        rw [vwn (n := 1) (by decide) w33 (show a2.toInt = a2.toInt from by omega)] at D
        refine x_aloadn (x := 114) rfl rfl ?_
        refine x_iconst (v := 2) rfl ki_2 ?_
        refine x_iloadn (x := v1) rfl rfl ?_
        refine z_iast (N := 3) (l := 0) (u := 3) (w := v1.toInt) rfl hD J Sm rfl rfl jk_2 (by omega) rfl (wr_114) rfl (fun h w34 J Sm => ?_)
        rw [vwn (n := 2) (by decide) w34 (show v1.toInt = v1.toInt from by omega)] at D
        refine x_iload (x := 1) rfl rfl ?_
        refine x_zret rfl rfl (by decide) ?_
        show jX m_X4_seatAll 7 0 0 16 [(0, .ref 107), (1, .int a1), (2, .int a2)] [.int 1] _ 0 0 _
        refine x_ifeq (tgt := 20) rfl rfl (ti_eq jk_1 jk_0 (br_f (by omega) ?_))
        refine x_vret rfl rfl ?_
        exact hQ _ J Sm D.symm
