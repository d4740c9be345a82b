set_option maxRecDepth 100000 in
set_option maxHeartbeats 4000000 in
theorem ct_X12_findTurns_r125d_14 {Dy : jH → Prop} {h0 : jH} {Q : Option Value → jH → Prop} {dr : jW} (hD : jDk Dy) (hQ : ∀ hx9, jJ jSgM Dy hx9 → jSm fp_X12_findTurns_r125d h0 hx9 → dr = vw hx9 → Q none hx9) : ∀ r : Nat, ∀ (l1 : Int32) (l2 : Int32) (l3 : Int32) (l4 : Int32) (l5 : Int32) (h : jH), 400 - l5.toInt < (r : Int) → 0 ≤ l1.toInt ∧ l1.toInt ≤ 3 → 0 ≤ l2.toInt ∧ l2.toInt ≤ 399 → 0 ≤ l3.toInt ∧ l3.toInt ≤ 40 → 0 ≤ l4.toInt ∧ l4.toInt ≤ 39 → 0 ≤ l5.toInt ∧ l5.toInt ≤ 400 → jJ jSgM Dy h → jSm fp_X12_findTurns_r125d h0 h → d_X12_findTurns_r125d_14 r l1.toInt l2.toInt l3.toInt l4.toInt l5.toInt (vw h) = dr → jX m_X12_findTurns 11 0 0 14 [(0, .ref 125), (1, .int l1), (2, .int l2), (3, .int l3), (4, .int l4), (5, .int l5)] [] h 0 0 Q := by
  intro r
  induction r with
  | zero =>
    intro l1 l2 l3 l4 l5 h hm y0 y1 y2 y3 y4   J Sm D
    exfalso
    omega
  | succ r ih =>
    intro l1 l2 l3 l4 l5 h hm y0 y1 y2 y3 y4   J Sm D
    rw [d_X12_findTurns_r125d_14.eq_2] at D
    refine x_iload (x := l5) rfl rfl ?_
    refine x_iloadn (x := l2) rfl rfl ?_
    refine x_icgt (tgt := 257) rfl rfl (ti_gt rfl rfl ⟨fun c1 => ?_, fun c1 => ?_⟩)
    ·
      rw [if_pos (by omega)] at D
      refine x_vret rfl rfl ?_
      exact hQ _ J Sm D.symm
    ·
      rw [if_neg (by omega)] at D
      refine x_iload (x := l5) rfl rfl ?_
      refine x_sipush (v := 366) rfl ks_366 ?_
      refine z_imul rfl rfl jk_366 (by omega) (fun v2 ev2 => ?_)
      refine x_istore (lsx9 := [(6, .int v2), (0, .ref 125), (1, .int l1), (2, .int l2), (3, .int l3), (4, .int l4), (5, .int l5)]) rfl rfl rfl ?_
      refine x_aloadn (x := 125) rfl rfl ?_
      refine x_iloadn (x := l1) rfl rfl ?_
      refine x_iload (x := v2) rfl rfl ?_
      try rw [show (l5.toInt * 366) = v2.toInt from by omega] at D
      refine x_inv (N := m_X12_turnClause) (As := [.int l1, .int v2]) (b := 125) (st := []) (dx9 := 5) (mc := 0) (ms := 0) (host := "") 12 rfl t_X12_turnClause ⟨Or.inl q_12_832, i_X12_turnClause.1, i_X12_turnClause.2⟩ ⟨by decide, rfl⟩ (congrArg Prod.fst (J.1.1 125 (12, 92) rfl)) rfl (by decide) rfl rfl ⟨by decide, by decide⟩ (sf_X12_turnClause_r125d (jr_of rfl (by omega)) (jr_of rfl (by omega)) (jr_mod rfl (by omega)) hD J rfl  (fun v7 h ev7 J S3 P4 X5 X6 => ?_))
      have Sm := jSm_tr rfl Sm S3
      try rw [X5] at D
      try rw [X6] at D
      show jX m_X12_findTurns 11 0 0 35 [(6, .int v2), (0, .ref 125), (1, .int l1), (2, .int l2), (3, .int l3), (4, .int l4), (5, .int l5)] [.int v7] _ 0 0 _
      refine x_istore (lsx9 := [(7, .int v7), (6, .int v2), (0, .ref 125), (1, .int l1), (2, .int l2), (3, .int l3), (4, .int l4), (5, .int l5)]) rfl rfl rfl ?_
      refine x_aloadn (x := 125) rfl rfl ?_
      refine z_getR (N := 92) (b := 168) 12 83 rfl f_12_162 rfl J rfl 16083 ⟨rfl, rfl⟩ rfl ?_
      refine x_iload (x := l5) rfl rfl ?_
      refine x_iconst (v := (-1)) rfl ki_m1 ?_
      refine z_iast (N := 400) (l := 0) (u := 400) (w := (-1)) rfl hD J Sm rfl rfl rfl (by omega) jk_m1 (wr_168 (fun q1 q2 q3 q4 => by omega)) rfl (fun h w8 J Sm => ?_)
      rw [vww w8 (show l5.toInt = l5.toInt from by omega) (show (-1) = ((-1) : Int32).toInt from by have := jk_m1; omega)] at D
      refine x_aloadn (x := 125) rfl rfl ?_
      refine z_getR (N := 92) (b := 169) 12 84 rfl f_12_165 rfl J rfl 16084 ⟨rfl, rfl⟩ rfl ?_
      refine x_iload (x := l5) rfl rfl ?_
      refine x_iconst (v := 0) rfl ki_0 ?_
      refine z_iast (N := 400) (l := 0) (u := 400) (w := 0) rfl hD J Sm rfl rfl rfl (by omega) jk_0 (wr_169) rfl (fun h w9 J Sm => ?_)
      rw [vww w9 (show l5.toInt = l5.toInt from by omega) (show 0 = (0 : Int32).toInt from by have := jk_0; omega)] at D
      refine x_iload (x := v7) rfl rfl ?_
      refine x_iconst (v := (-1)) rfl ki_m1 ?_
      refine x_icne (tgt := 62) rfl rfl (ti_ne rfl jk_m1 ⟨fun c10 => ?_, fun c10 => ?_⟩)
      ·
        rw [if_neg (by omega)] at D
        refine x_aloadn (x := 125) rfl rfl ?_
        refine x_iload (x := v2) rfl rfl ?_
        refine x_iconst (v := 1) rfl ki_1 ?_
        refine x_inv (N := m_X12_findHouses) (As := [.int v2, .int 1]) (b := 125) (st := []) (dx9 := 2) (mc := 0) (ms := 0) (host := "") 12 rfl t_X12_findHouses ⟨Or.inl q_12_694, i_X12_findHouses.1, i_X12_findHouses.2⟩ ⟨by decide, rfl⟩ (congrArg Prod.fst (J.1.1 125 (12, 92) rfl)) rfl (by decide) rfl rfl ⟨by decide, by decide⟩ (sf_X12_findHouses_r125_c1d (jr_of rfl (by omega)) hD J rfl  (fun h J S11 X12 => ?_))
        have Sm := jSm_tr rfl Sm S11
        rw [X12] at D
        show jX m_X12_findTurns 11 0 0 69 [(7, .int v7), (6, .int v2), (0, .ref 125), (1, .int l1), (2, .int l2), (3, .int l3), (4, .int l4), (5, .int l5)] [] _ 0 0 _
        refine x_iconst (v := 0) rfl ki_0 ?_
        refine x_istore (lsx9 := [(8, .int 0), (7, .int v7), (6, .int v2), (0, .ref 125), (1, .int l1), (2, .int l2), (3, .int l3), (4, .int l4), (5, .int l5)]) rfl rfl rfl ?_
        exact jX.sub (jsb_c rfl (jsb_c rfl (jsb_c rfl (jsb_c rfl (jsb_c rfl (jsb_c rfl (jsb_c rfl (jsb_c rfl (jsb_c rfl jsb_n))))))))) (ct_X12_findTurns_r125d_72 hD hQ ih 41 l1 l2 l3 l4 l5 v2 v7 0 (-1) h (by have := jk_0; omega) (jr_of rfl (by omega)) (jr_of rfl (by omega)) (jr_of rfl (by omega)) (jr_of rfl (by omega)) (jr_of rfl (by omega)) (jr_of rfl (by omega)) (jr_mod rfl (by omega)) (jr_of rfl (by omega)) (jr_of jk_0 (by omega)) (jr_of jk_m1 (by omega)) (jtc_e (jeq_c S11 rfl (jeq_o w9 rfl (jeq_o w8 rfl jeq_0))) P4) (by have := jk_m1; omega) (jmc S11 rfl (jmo w9 rfl (jmw w8))) (by omega) J Sm (by rw [jk_0]; exact D))
      ·
        rw [if_pos (by omega)] at D
        refine x_goto (tgt := 251) rfl rfl ?_
        exact jX.sub (jsb_c rfl (jsb_c rfl (jsb_c rfl (jsb_c rfl (jsb_c rfl (jsb_c rfl jsb_n)))))) (ct_X12_findTurns_r125d_251 hD hQ ih l1 l2 l3 l4 l5 (-1) h (jr_of rfl (by omega)) (jr_of rfl (by omega)) (jr_of rfl (by omega)) (jr_of rfl (by omega)) (jr_of rfl (by omega)) (jr_of jk_m1 (by omega)) (by have := jk_m1; omega) (jmo w9 rfl (jmw w8)) (by omega) J Sm D)
set_option maxRecDepth 100000 in
set_option maxHeartbeats 4000000 in
theorem sf_X12_findTurns_r125d {Dy : jH → Prop} {h : jH} {Q : Option Value → jH → Prop} {dr : jW} {a1 : Int32} {a2 : Int32} (y1 : 0 ≤ a1.toInt ∧ a1.toInt ≤ 3) (y2 : 0 ≤ a2.toInt ∧ a2.toInt ≤ 399) (hD : jDk Dy) (J : jJ jSgM Dy h) (D : d_X12_findTurns_r125d a1.toInt a2.toInt (vw h) = dr) (hQ : ∀ hx9, jJ jSgM Dy hx9 → jSm fp_X12_findTurns_r125d h hx9 → dr = vw hx9 → Q none hx9) : jC m_X12_findTurns 11 0 0 [.ref 125, .int a1, .int a2] h Q := by
  refine jC.of rfl k_X12_findTurns rfl ?_
  have Sm := jSm_rf fp_X12_findTurns_r125d h
  show jX m_X12_findTurns 11 0 0 0 [(0, .ref 125), (1, .int a1), (2, .int a2)] [] _ 0 0 _
  unfold d_X12_findTurns_r125d at D
  refine x_aloadn (x := 125) rfl rfl ?_
  refine z_getR (N := 92) (b := 126) 12 2 rfl f_12_8 rfl J rfl 16002 ⟨rfl, rfl⟩ rfl ?_
  refine x_bipush (v := 7) rfl kb_7 ?_
  refine z_iald (N := 50660) rfl J rfl sg_126_7_8_1_0_1 jk_7 (by omega) (fun v1 qv1 ev1 => ?_)
  try rw [vrn (n := 7) (by decide) qv1] at D
  refine x_istoren (lsx9 := [(3, .int v1), (0, .ref 125), (1, .int a1), (2, .int a2)]) rfl rfl rfl ?_
  refine x_iconst (v := 0) rfl ki_0 ?_
  refine x_istore (lsx9 := [(4, .int 0), (3, .int v1), (0, .ref 125), (1, .int a1), (2, .int a2)]) rfl rfl rfl ?_
  refine x_iconst (v := 0) rfl ki_0 ?_
  refine x_istore (lsx9 := [(5, .int 0), (4, .int 0), (3, .int v1), (0, .ref 125), (1, .int a1), (2, .int a2)]) rfl rfl rfl ?_
  exact jX.sub (jsb_c rfl (jsb_c rfl (jsb_c rfl (jsb_c rfl (jsb_c rfl (jsb_c rfl jsb_n)))))) (ct_X12_findTurns_r125d_14 hD hQ  401 a1 a2 v1 0 0 h (by have := jk_0; omega) (jr_of rfl (by omega)) (jr_of rfl (by omega)) (jr_of rfl (by omega)) (jr_of jk_0 (by omega)) (jr_of jk_0 (by omega)) J Sm (by rw [jk_0]; exact D))
def fp_X12_force_r125d : jFp := [(125, 0, 1), (125, 28, 29), (125, 31, 32), (125, 57, 58), (137, 0, 80), (138, 0, 2), (139, 0, 600), (140, 0, 200), (152, 0, 360), (153, 0, 30)]
set_option maxRecDepth 100000 in
set_option maxHeartbeats 4000000 in
theorem ct_X12_force_r125d_29 {Dy : jH → Prop} {h0 : jH} {Q : Option Value → jH → Prop} {dr : (Int × jW)} (hD : jDk Dy) (hQ : ∀ (v : Int32) hx9, (-1) ≤ v.toInt ∧ v.toInt ≤ 1 → jJ jSgM Dy hx9 → jSm fp_X12_force_r125d h0 hx9 → dr.1 = v.toInt → dr.2 = vw hx9 → Q (some (.int v)) hx9) : ∀ (h : jH), jJ jSgM Dy h → jSm fp_X12_force_r125d h0 h → d_X12_force_r125d_29  (vw h) = dr → jX m_X12_force 9 0 0 29 [] [] h 0 0 Q := by
  intro  h    J Sm D
  unfold d_X12_force_r125d_29 at D
  refine x_iconst (v := (-1)) rfl ki_m1 ?_
  refine x_iret rfl rfl ?_
  exact hQ _ _ (jr_of jk_m1 (by omega)) J Sm ((congrArg Prod.fst D).symm.trans (show (-1) = ((-1) : Int32).toInt from by have := jk_m1; omega)) (congrArg Prod.snd D).symm
set_option maxRecDepth 100000 in
set_option maxHeartbeats 4000000 in
theorem ct_X12_force_r125d_200052 {Dy : jH → Prop} {h0 : jH} {Q : Option Value → jH → Prop} {dr : (Int × jW)} (hD : jDk Dy) (hQ : ∀ (v : Int32) hx9, (-1) ≤ v.toInt ∧ v.toInt ≤ 1 → jJ jSgM Dy hx9 → jSm fp_X12_force_r125d h0 hx9 → dr.1 = v.toInt → dr.2 = vw hx9 → Q (some (.int v)) hx9) : ∀ (h : jH), jJ jSgM Dy h → jSm fp_X12_force_r125d h0 h → d_X12_force_r125d_200052  (vw h) = dr → jX m_X12_force 9 0 0 52 [] [.int 0] h 0 0 Q := by
  intro  h    J Sm D
  unfold d_X12_force_r125d_200052 at D
  refine x_iret rfl rfl ?_
  exact hQ _ _ (jr_of jk_0 (by omega)) J Sm ((congrArg Prod.fst D).symm.trans (show 0 = (0 : Int32).toInt from by have := jk_0; omega)) (congrArg Prod.snd D).symm
set_option maxRecDepth 100000 in
set_option maxHeartbeats 4000000 in
theorem ct_X12_force_r125d_300052 {Dy : jH → Prop} {h0 : jH} {Q : Option Value → jH → Prop} {dr : (Int × jW)} (hD : jDk Dy) (hQ : ∀ (v : Int32) hx9, (-1) ≤ v.toInt ∧ v.toInt ≤ 1 → jJ jSgM Dy hx9 → jSm fp_X12_force_r125d h0 hx9 → dr.1 = v.toInt → dr.2 = vw hx9 → Q (some (.int v)) hx9) : ∀ (h : jH), jJ jSgM Dy h → jSm fp_X12_force_r125d h0 h → d_X12_force_r125d_300052  (vw h) = dr → jX m_X12_force 9 0 0 52 [] [.int 1] h 0 0 Q := by
  intro  h    J Sm D
  unfold d_X12_force_r125d_300052 at D
  refine x_iret rfl rfl ?_
  exact hQ _ _ (jr_of jk_1 (by omega)) J Sm ((congrArg Prod.fst D).symm.trans (show 1 = (1 : Int32).toInt from by have := jk_1; omega)) (congrArg Prod.snd D).symm
set_option maxRecDepth 100000 in
set_option maxHeartbeats 4000000 in
theorem sf_X12_force_r125d {Dy : jH → Prop} {h : jH} {Q : Option Value → jH → Prop} {dr : (Int × jW)} {a1 : Int32} {a2 : Int32} {a3 : Int32} {a4 : Int32} (hD : jDk Dy) (J : jJ jSgM Dy h) (D : d_X12_force_r125d a1.toInt a2.toInt a3.toInt a4.toInt (vw h) = dr) (hQ : ∀ (v : Int32) hx9, (-1) ≤ v.toInt ∧ v.toInt ≤ 1 → jJ jSgM Dy hx9 → jSm fp_X12_force_r125d h hx9 → dr.1 = v.toInt → dr.2 = vw hx9 → Q (some (.int v)) hx9) : jC m_X12_force 9 0 0 [.ref 125, .int a1, .int a2, .int a3, .int a4] h Q := by
  refine jC.of rfl k_X12_force rfl ?_
  have Sm := jSm_rf fp_X12_force_r125d h
  have ea1 := jfull a1
  have ea2 := jfull a2
  have ea3 := jfull a3
  have ea4 := jfull a4
  show jX m_X12_force 9 0 0 0 [(0, .ref 125), (1, .int a1), (2, .int a2), (3, .int a3), (4, .int a4)] [] _ 0 0 _
  unfold d_X12_force_r125d at D
  refine x_aloadn (x := 125) rfl rfl ?_
  refine x_iconst (v := 0) rfl ki_0 ?_
  refine z_putI (N := 92) (w := 0) 12 0 rfl f_12_180 rfl (jfin_no TX12 RX12 92 rfl rfl) hD J Sm rfl rfl jk_0 (pw_125_0 (by omega)) rfl (fun h w1 J Sm => ?_)
  rw [vwf w1 (show 0 = (0 : Int32).toInt from by have := jk_0; omega)] at D
  refine x_aloadn (x := 125) rfl rfl ?_
  refine x_iloadn (x := a1) rfl rfl ?_
  refine x_iloadn (x := a2) rfl rfl ?_
  refine x_inv (N := m_X12_isClause) (As := [.int a1, .int a2]) (b := 125) (st := []) (dx9 := 8) (mc := 0) (ms := 0) (host := "") 12 rfl t_X12_isClause ⟨Or.inl q_12_685, i_X12_isClause.1, i_X12_isClause.2⟩ ⟨by decide, rfl⟩ (congrArg Prod.fst (J.1.1 125 (12, 92) rfl)) rfl (by decide) rfl rfl ⟨by decide, by decide⟩ (jC.of rfl k_X12_isClause rfl ?_)
  show jX m_X12_isClause 8 0 0 0 [(0, .ref 125), (1, .int a1), (2, .int a2)] [] _ 0 0 _
  refine x_iloadn (x := a1) rfl rfl ?_
  refine z_i2l rfl rfl (fun v2 ev2 => ?_)
  refine x_lconst (v := 0) rfl kl_0 ?_
  refine x_aloadn (x := 125) rfl rfl ?_
  refine z_getR (N := 92) (b := 126) 12 2 rfl f_12_8 rfl J rfl 16002 ⟨rfl, rfl⟩ rfl ?_
  refine x_iconst (v := 4) rfl ki_4 ?_
  refine z_iald (N := 50660) rfl J rfl sg_126_4_5_1_0_1 jk_4 (by omega) (fun v3 qv3 ev3 => ?_)
  try rw [vrn (n := 4) (by decide) (jmb_w w1 qv3 rfl)] at D
  refine z_i2l rfl rfl (fun v4 ev4 => ?_)
  refine x_lconst (v := 1) rfl kl_1 ?_
  refine z_lsub rfl rfl jkl_1 (by omega) (fun v5 ev5 => ?_)
  refine x_inst (N := m_X12_in) (As := [.long v2, .long 0, .long v5]) (st := []) (dx9 := 1) (mc := 0) (ms := 0) (host := "") rfl t_X12_in ⟨Or.inl q_12_188, s_X12_in⟩ rfl (by decide) rfl rfl ⟨by decide, by decide⟩ (zc_X12_in rfl jkl_0 rfl (fun v6 ev6 => ?_))
  show jX m_X12_isClause 8 0 0 15 [(0, .ref 125), (1, .int a1), (2, .int a2)] [.int v6] _ 0 0 _
  refine x_ifeq (tgt := 45) rfl rfl (ti_eq rfl jk_0 ⟨fun c7 => ?_, fun c7 => ?_⟩)
  ·
    rw [if_neg (by omega)] at D
    refine x_iconst (v := 0) rfl ki_0 ?_
    refine x_zret rfl rfl (by decide) ?_
    show jX m_X12_force 9 0 0 11 [(0, .ref 125), (1, .int a1), (2, .int a2), (3, .int a3), (4, .int a4)] [.int 0] _ 0 0 _
    refine x_ifeq (tgt := 29) rfl rfl (ti_eq jk_0 jk_0 (br_t (by omega) ?_))
    exact jX.sub jsb_n (ct_X12_force_r125d_29 hD hQ  h J Sm D)
  ·
    rw [if_pos (by omega)] at D
    refine x_iloadn (x := a2) rfl rfl ?_
    refine z_i2l rfl rfl (fun v8 ev8 => ?_)
    refine x_lconst (v := 0) rfl kl_0 ?_
    refine x_aloadn (x := 125) rfl rfl ?_
    refine z_getR (N := 92) (b := 126) 12 2 rfl f_12_8 rfl J rfl 16002 ⟨rfl, rfl⟩ rfl ?_
    refine x_iloadn (x := a1) rfl rfl ?_
    refine x_inst (N := m_X12_textAt) (As := [.int a1]) (st := [.ref 126, .long 0, .long v8]) (dx9 := 7) (mc := 0) (ms := 0) (host := "") rfl t_X12_textAt ⟨Or.inl q_12_676, s_X12_textAt⟩ rfl (by decide) rfl rfl ⟨by decide, by decide⟩ (jC.of rfl k_X12_textAt rfl ?_)
    show jX m_X12_textAt 7 0 0 0 [(0, .int a1)] [] _ 0 0 _
    refine x_sipush (v := 18820) rfl ks_18820 ?_
    refine x_sipush (v := 924) rfl ks_924 ?_
    refine x_iloadn (x := a1) rfl rfl ?_
    refine z_imul rfl jk_924 rfl (by omega) (fun v9 ev9 => ?_)
    refine z_iadd rfl jk_18820 rfl (by omega) (fun v10 ev10 => ?_)
    refine x_iret rfl rfl ?_
    show jX m_X12_isClause 8 0 0 29 [(0, .ref 125), (1, .int a1), (2, .int a2)] [.int v10, .ref 126, .long 0, .long v8] _ 0 0 _
    refine x_iconst (v := 3) rfl ki_3 ?_
    refine z_iadd rfl rfl jk_3 (by omega) (fun v11 ev11 => ?_)
    refine z_iald (N := 50660) rfl J rfl sg_126_18820_46540_924_3_4 rfl (by omega) (fun v12 qv12 ev12 => ?_)
    try rw [vrd (jmb_w w1 qv12 rfl) (show ((18820 + (924 * a1.toInt)) + 3) = v11.toInt from by omega)] at D
    refine z_i2l rfl rfl (fun v13 ev13 => ?_)
    refine x_lconst (v := 1) rfl kl_1 ?_
    refine z_lsub rfl rfl jkl_1 (by omega) (fun v14 ev14 => ?_)
    refine x_inst (N := m_X12_in) (As := [.long v8, .long 0, .long v14]) (st := []) (dx9 := 1) (mc := 0) (ms := 0) (host := "") rfl t_X12_in ⟨Or.inl q_12_188, s_X12_in⟩ rfl (by decide) rfl rfl ⟨by decide, by decide⟩ (zc_X12_in rfl jkl_0 rfl (fun v15 ev15 => ?_))
    show jX m_X12_isClause 8 0 0 38 [(0, .ref 125), (1, .int a1), (2, .int a2)] [.int v15] _ 0 0 _
    refine x_ifeq (tgt := 45) rfl rfl (ti_eq rfl jk_0 ⟨fun c16 => ?_, fun c16 => ?_⟩)
    ·
      rw [if_neg (by omega)] at D
      refine x_iconst (v := 0) rfl ki_0 ?_
      refine x_zret rfl rfl (by decide) ?_
      show jX m_X12_force 9 0 0 11 [(0, .ref 125), (1, .int a1), (2, .int a2), (3, .int a3), (4, .int a4)] [.int 0] _ 0 0 _
      refine x_ifeq (tgt := 29) rfl rfl (ti_eq jk_0 jk_0 (br_t (by omega) ?_))
      exact jX.sub jsb_n (ct_X12_force_r125d_29 hD hQ  h J Sm D)
    ·
      rw [if_pos (by omega)] at D
      refine x_iconst (v := 1) rfl ki_1 ?_
      refine x_goto (tgt := 46) rfl rfl ?_
      refine x_zret rfl rfl (by decide) ?_
      show jX m_X12_force 9 0 0 11 [(0, .ref 125), (1, .int a1), (2, .int a2), (3, .int a3), (4, .int a4)] [.int 1] _ 0 0 _
      refine x_ifeq (tgt := 29) rfl rfl (ti_eq jk_1 jk_0 (br_f (by omega) ?_))
      refine x_iloadn (x := a3) rfl rfl ?_
      refine x_inst (N := m_X12_isDay) (As := [.int a3]) (st := []) (dx9 := 2) (mc := 0) (ms := 0) (host := "") rfl t_X12_isDay ⟨Or.inl q_12_273, s_X12_isDay⟩ rfl (by decide) rfl rfl ⟨by decide, by decide⟩ (zc_X12_isDay (d := 1) rfl (fun v17 ev17 => ?_))
      show jX m_X12_force 9 0 0 18 [(0, .ref 125), (1, .int a1), (2, .int a2), (3, .int a3), (4, .int a4)] [.int v17] _ 0 0 _
      refine x_ifeq (tgt := 29) rfl rfl (ti_eq rfl jk_0 ⟨fun c18 => ?_, fun c18 => ?_⟩)
      ·
        rw [if_neg (by omega)] at D
        exact jX.sub jsb_n (ct_X12_force_r125d_29 hD hQ  h J Sm D)
      ·
        rw [if_pos (by omega)] at D
        refine x_iload (x := a4) rfl rfl ?_
        refine x_inst (N := m_X12_isDay) (As := [.int a4]) (st := []) (dx9 := 2) (mc := 0) (ms := 0) (host := "") rfl t_X12_isDay ⟨Or.inl q_12_273, s_X12_isDay⟩ rfl (by decide) rfl rfl ⟨by decide, by decide⟩ (zc_X12_isDay (d := 1) rfl (fun v19 ev19 => ?_))
        show jX m_X12_force 9 0 0 26 [(0, .ref 125), (1, .int a1), (2, .int a2), (3, .int a3), (4, .int a4)] [.int v19] _ 0 0 _
        refine x_ifne (tgt := 31) rfl rfl (ti_ne rfl jk_0 ⟨fun c20 => ?_, fun c20 => ?_⟩)
        ·
          rw [if_pos (by omega)] at D
          refine x_aloadn (x := 125) rfl rfl ?_
          refine x_iload (x := a4) rfl rfl ?_
          refine x_inv (N := m_X12_find) (As := [.int a4]) (b := 125) (st := []) (dx9 := 8) (mc := 0) (ms := 0) (host := "") 12 rfl t_X12_find ⟨Or.inl q_12_393, i_X12_find.1, i_X12_find.2⟩ ⟨by decide, rfl⟩ (congrArg Prod.fst (J.1.1 125 (12, 92) rfl)) rfl (by decide) rfl rfl ⟨by decide, by decide⟩ (sf_X12_find_r125d (jr_of rfl (by omega)) hD J rfl  (fun h J S21 X22 => ?_))
          have Sm := jSm_tr rfl Sm S21
          rw [X22] at D
          show jX m_X12_force 9 0 0 37 [(0, .ref 125), (1, .int a1), (2, .int a2), (3, .int a3), (4, .int a4)] [] _ 0 0 _
          refine x_aloadn (x := 125) rfl rfl ?_
          refine x_iloadn (x := a1) rfl rfl ?_
          refine x_iloadn (x := a2) rfl rfl ?_
          refine x_iloadn (x := a3) rfl rfl ?_
          refine x_inv (N := m_X12_isForce) (As := [.int a1, .int a2, .int a3]) (b := 125) (st := []) (dx9 := 8) (mc := 0) (ms := 0) (host := "") 12 rfl t_X12_isForce ⟨Or.inl q_12_688, i_X12_isForce.1, i_X12_isForce.2⟩ ⟨by decide, rfl⟩ (congrArg Prod.fst (J.1.1 125 (12, 92) rfl)) rfl (by decide) rfl rfl ⟨by decide, by decide⟩ (jC.of rfl k_X12_isForce rfl ?_)
          show jX m_X12_isForce 8 0 0 0 [(0, .ref 125), (1, .int a1), (2, .int a2), (3, .int a3)] [] _ 0 0 _
          refine x_aloadn (x := 125) rfl rfl ?_
          refine x_iloadn (x := a3) rfl rfl ?_
          refine x_inv (N := m_X12_findForce) (As := [.int a3]) (b := 125) (st := []) (dx9 := 3) (mc := 0) (ms := 0) (host := "") 12 rfl t_X12_findForce ⟨Or.inl q_12_682, i_X12_findForce.1, i_X12_findForce.2⟩ ⟨by decide, rfl⟩ (congrArg Prod.fst (J.1.1 125 (12, 92) rfl)) rfl (by decide) rfl rfl ⟨by decide, by decide⟩ (sf_X12_findForce_r125d (jr_of rfl (by omega)) hD J rfl  (fun h J S23 X24 => ?_))
          have Sm := jSm_tr rfl Sm S23
          rw [X24] at D
          show jX m_X12_isForce 8 0 0 5 [(0, .ref 125), (1, .int a1), (2, .int a2), (3, .int a3)] [] _ 0 0 _
          refine x_aloadn (x := 125) rfl rfl ?_
          refine z_getR (N := 92) (b := 153) 12 59 rfl f_12_117 rfl J rfl 16059 ⟨rfl, rfl⟩ rfl ?_
          refine x_iloadn (x := a1) rfl rfl ?_
          refine z_zald (N := 30) rfl J rfl sg_153_0_30_1_0_1 rfl (by omega) (fun v25 qv25 ev25 => ?_)
          try rw [vrd qv25 (show a1.toInt = a1.toInt from by omega)] at D
          refine x_ifeq (tgt := 32) rfl rfl (ti_eq rfl jk_0 ⟨fun c26 => ?_, fun c26 => ?_⟩)
          ·
            rw [if_pos (by omega)] at D
            refine x_iconst (v := 0) rfl ki_0 ?_
            refine x_zret rfl rfl (by decide) ?_
            show jX m_X12_force 9 0 0 44 [(0, .ref 125), (1, .int a1), (2, .int a2), (3, .int a3), (4, .int a4)] [.int 0] _ 0 0 _
            refine x_ifeq (tgt := 51) rfl rfl (ti_eq jk_0 jk_0 (br_t (by omega) ?_))
            refine x_iconst (v := 0) rfl ki_0 ?_
            exact jX.sub jsb_n (ct_X12_force_r125d_200052 hD hQ  h J Sm D)
          ·
            rw [if_neg (by omega)] at D
            refine x_aloadn (x := 125) rfl rfl ?_
            refine z_getR (N := 92) (b := 152) 12 58 rfl f_12_114 rfl J rfl 16058 ⟨rfl, rfl⟩ rfl ?_
            refine x_bipush (v := 12) rfl kb_12 ?_
            refine x_iloadn (x := a1) rfl rfl ?_
            refine z_imul rfl jk_12 rfl (by omega) (fun v27 ev27 => ?_)
            refine x_iloadn (x := a2) rfl rfl ?_
            refine z_iadd rfl rfl rfl (by omega) (fun v28 ev28 => ?_)
            refine z_zald (N := 360) rfl J rfl sg_152_0_360_1_0_1 rfl (by omega) (fun v29 qv29 ev29 => ?_)
            try rw [vrd qv29 (show ((12 * a1.toInt) + a2.toInt) = v28.toInt from by omega)] at D
            refine x_ifne (tgt := 32) rfl rfl (ti_ne rfl jk_0 ⟨fun c30 => ?_, fun c30 => ?_⟩)
            ·
              rw [if_neg (by omega)] at D
              refine x_iconst (v := 0) rfl ki_0 ?_
              refine x_zret rfl rfl (by decide) ?_
              show jX m_X12_force 9 0 0 44 [(0, .ref 125), (1, .int a1), (2, .int a2), (3, .int a3), (4, .int a4)] [.int 0] _ 0 0 _
              refine x_ifeq (tgt := 51) rfl rfl (ti_eq jk_0 jk_0 (br_t (by omega) ?_))
              refine x_iconst (v := 0) rfl ki_0 ?_
              exact jX.sub jsb_n (ct_X12_force_r125d_200052 hD hQ  h J Sm D)
            ·
              rw [if_pos (by omega)] at D
              refine x_iconst (v := 1) rfl ki_1 ?_
              refine x_goto (tgt := 33) rfl rfl ?_
              refine x_zret rfl rfl (by decide) ?_
              show jX m_X12_force 9 0 0 44 [(0, .ref 125), (1, .int a1), (2, .int a2), (3, .int a3), (4, .int a4)] [.int 1] _ 0 0 _
              refine x_ifeq (tgt := 51) rfl rfl (ti_eq jk_1 jk_0 (br_f (by omega) ?_))
              refine x_iconst (v := 1) rfl ki_1 ?_
              refine x_goto (tgt := 52) rfl rfl ?_
              exact jX.sub jsb_n (ct_X12_force_r125d_300052 hD hQ  h J Sm D)
        ·
          rw [if_neg (by omega)] at D
          exact jX.sub jsb_n (ct_X12_force_r125d_29 hD hQ  h J Sm D)
def fp_X12_found_r125d : jFp := [(125, 0, 1), (125, 89, 90), (125, 90, 91), (125, 91, 92)]
set_option maxRecDepth 100000 in
set_option maxHeartbeats 4000000 in
theorem ct_X12_found_r125d_25 {Dy : jH → Prop} {h0 : jH} {Q : Option Value → jH → Prop} {dr : (Int × jW)} (hD : jDk Dy) (hQ : ∀ (v : Int32) hx9, (-3) ≤ v.toInt ∧ v.toInt ≤ 199 → jJ jSgM Dy hx9 → jSm fp_X12_found_r125d h0 hx9 → dr.1 = v.toInt → dr.2 = vw hx9 → Q (some (.int v)) hx9) : ∀ (h : jH), jJ jSgM Dy h → jSm fp_X12_found_r125d h0 h → d_X12_found_r125d_25  (vw h) = dr → jX m_X12_found 4 0 0 25 [] [] h 0 0 Q := by
  intro  h    J Sm D
  unfold d_X12_found_r125d_25 at D
  refine x_bipush (v := (-3)) rfl kb_m3 ?_
  refine x_iret rfl rfl ?_
  exact hQ _ _ (jr_of jk_m3 (by omega)) J Sm ((congrArg Prod.fst D).symm.trans (show (-3) = ((-3) : Int32).toInt from by have := jk_m3; omega)) (congrArg Prod.snd D).symm
set_option maxRecDepth 100000 in
set_option maxHeartbeats 4000000 in
theorem ct_X12_found_r125d_156 {Dy : jH → Prop} {h0 : jH} {Q : Option Value → jH → Prop} {dr : (Int × jW)} {K114 : Int → Int → Int → Int → Int → jW → (Int × jW)} {R114 : Int} (hD : jDk Dy) (hQ : ∀ (v : Int32) hx9, (-3) ≤ v.toInt ∧ v.toInt ≤ 199 → jJ jSgM Dy hx9 → jSm fp_X12_found_r125d h0 hx9 → dr.1 = v.toInt → dr.2 = vw hx9 → Q (some (.int v)) hx9) (k114 : ∀ (l1 : Int32) (l2 : Int64) (l4 : Int64) (l6 : Int32) (l7 : Int32) (h : jH), 200 - l7.toInt < R114 → 0 ≤ l1.toInt ∧ l1.toInt ≤ 399 → 0 ≤ l7.toInt ∧ l7.toInt ≤ 200 → l2.toInt ≠ 0 → jJ jSgM Dy h → jSm fp_X12_found_r125d h0 h → K114 l1.toInt l2.toInt l4.toInt l6.toInt l7.toInt (vw h) = dr → jX m_X12_found 4 0 0 114 [(0, .ref 125), (1, .int l1), (2, .long l2), (4, .long l4), (6, .int l6), (7, .int l7)] [] h 0 0 Q) : ∀ (l1 : Int32) (l2 : Int64) (l4 : Int64) (l6 : Int32) (l7 : Int32) (h : jH), 0 ≤ l1.toInt ∧ l1.toInt ≤ 399 → 0 ≤ l7.toInt ∧ l7.toInt ≤ 199 → l2.toInt ≠ 0 → 200 - l7.toInt ≤ R114 → jJ jSgM Dy h → jSm fp_X12_found_r125d h0 h → d_X12_found_r125d_156 K114  l1.toInt l2.toInt l4.toInt l6.toInt l7.toInt (vw h) = dr → jX m_X12_found 4 0 0 156 [(0, .ref 125), (1, .int l1), (2, .long l2), (4, .long l4), (6, .int l6), (7, .int l7)] [] h 0 0 Q := by
  intro l1 l2 l4 l6 l7 h y0 y1 y2  m114 J Sm D
  have el2 := jfullL l2
  have el4 := jfullL l4
  have el6 := jfull l6
  unfold d_X12_found_r125d_156 at D
  refine z_iinc (x := l7) (lsx9 := fun v1 => [(7, .int v1), (0, .ref 125), (1, .int l1), (2, .long l2), (4, .long l4), (6, .int l6)]) rfl rfl rfl jko_1 (by omega) rfl (fun _ => rfl) (fun v1 ev1 => ?_)
  refine x_goto (tgt := 114) rfl rfl ?_
  try rw [show (l7.toInt + 1) = v1.toInt from by omega] at D
  exact jX.sub (jsb_c rfl (jsb_c rfl (jsb_c rfl (jsb_c rfl (jsb_c rfl (jsb_c rfl jsb_n)))))) (k114 l1 l2 l4 l6 v1 h (by omega) (jr_of rfl (by omega)) (jr_of rfl (by omega)) (by omega) J Sm D)
set_option maxRecDepth 100000 in
set_option maxHeartbeats 4000000 in
theorem ct_X12_found_r125d_114 {Dy : jH → Prop} {h0 : jH} {Q : Option Value → jH → Prop} {dr : (Int × jW)} (hD : jDk Dy) (hQ : ∀ (v : Int32) hx9, (-3) ≤ v.toInt ∧ v.toInt ≤ 199 → jJ jSgM Dy hx9 → jSm fp_X12_found_r125d h0 hx9 → dr.1 = v.toInt → dr.2 = vw hx9 → Q (some (.int v)) hx9) : ∀ r : Nat, ∀ (l1 : Int32) (l2 : Int64) (l4 : Int64) (l6 : Int32) (l7 : Int32) (h : jH), 200 - l7.toInt < (r : Int) → 0 ≤ l1.toInt ∧ l1.toInt ≤ 399 → 0 ≤ l7.toInt ∧ l7.toInt ≤ 200 → l2.toInt ≠ 0 → jJ jSgM Dy h → jSm fp_X12_found_r125d h0 h → d_X12_found_r125d_114 r l1.toInt l2.toInt l4.toInt l6.toInt l7.toInt (vw h) = dr → jX m_X12_found 4 0 0 114 [(0, .ref 125), (1, .int l1), (2, .long l2), (4, .long l4), (6, .int l6), (7, .int l7)] [] h 0 0 Q := by
  intro r
  induction r with
  | zero =>
    intro l1 l2 l4 l6 l7 h hm y0 y1 y2   J Sm D
    exfalso
    have el2 := jfullL l2
    have el4 := jfullL l4
    have el6 := jfull l6
    omega
  | succ r ih =>
    intro l1 l2 l4 l6 l7 h hm y0 y1 y2   J Sm D
    have el2 := jfullL l2
    have el4 := jfullL l4
    have el6 := jfull l6
    rw [d_X12_found_r125d_114.eq_2] at D
    refine x_iload (x := l7) rfl rfl ?_
    refine x_aloadn (x := 125) rfl rfl ?_
    refine z_getR (N := 92) (b := 126) 12 2 rfl f_12_8 rfl J rfl 16002 ⟨rfl, rfl⟩ rfl ?_
    refine x_iconst (v := 0) rfl ki_0 ?_
    refine z_iald (N := 50660) rfl J rfl sg_126_0_1_1_0_1 jk_0 (by omega) (fun v1 qv1 ev1 => ?_)
    try rw [vrn (n := 0) (by decide) qv1] at D
    refine x_icge (tgt := 162) rfl rfl (ti_ge rfl rfl ⟨fun c2 => ?_, fun c2 => ?_⟩)
    ·
      rw [if_pos (by omega)] at D
      refine x_bipush (v := (-2)) rfl kb_m2 ?_
      refine x_iret rfl rfl ?_
      exact hQ _ _ (jr_of jk_m2 (by omega)) J Sm ((congrArg Prod.fst D).symm.trans (show (-2) = ((-2) : Int32).toInt from by have := jk_m2; omega)) (congrArg Prod.snd D).symm
    ·
      rw [if_neg (by omega)] at D
      refine x_aloadn (x := 125) rfl rfl ?_
      refine x_iload (x := l7) rfl rfl ?_
      refine x_inv (N := m_X12_dayOf) (As := [.int l7]) (b := 125) (st := []) (dx9 := 3) (mc := 0) (ms := 0) (host := "") 12 rfl t_X12_dayOf ⟨Or.inl q_12_335, i_X12_dayOf.1, i_X12_dayOf.2⟩ ⟨by decide, rfl⟩ (congrArg Prod.fst (J.1.1 125 (12, 92) rfl)) rfl (by decide) rfl rfl ⟨by decide, by decide⟩ (jC.of rfl k_X12_dayOf rfl ?_)
      show jX m_X12_dayOf 3 0 0 0 [(0, .ref 125), (1, .int l7)] [] _ 0 0 _
      refine x_aloadn (x := 125) rfl rfl ?_
      refine z_getR (N := 92) (b := 126) 12 2 rfl f_12_8 rfl J rfl 16002 ⟨rfl, rfl⟩ rfl ?_
      refine x_aloadn (x := 125) rfl rfl ?_
      refine x_iloadn (x := l7) rfl rfl ?_
      refine x_inv (N := m_X12_at) (As := [.int l7]) (b := 125) (st := [.ref 126]) (dx9 := 2) (mc := 0) (ms := 0) (host := "") 12 rfl t_X12_at ⟨Or.inl q_12_254, i_X12_at.1, i_X12_at.2⟩ ⟨by decide, rfl⟩ (congrArg Prod.fst (J.1.1 125 (12, 92) rfl)) rfl (by decide) rfl rfl ⟨by decide, by decide⟩ (jC.of rfl k_X12_at rfl ?_)
      show jX m_X12_at 2 0 0 0 [(0, .ref 125), (1, .int l7)] [] _ 0 0 _
      refine x_bipush (v := 20) rfl kb_20 ?_
      refine x_bipush (v := 90) rfl kb_90 ?_
      refine x_iloadn (x := l7) rfl rfl ?_
      refine z_imul rfl jk_90 rfl (by omega) (fun v3 ev3 => ?_)
      refine z_iadd rfl jk_20 rfl (by omega) (fun v4 ev4 => ?_)
      refine x_iret rfl rfl ?_
      show jX m_X12_dayOf 3 0 0 9 [(0, .ref 125), (1, .int l7)] [.int v4, .ref 126] _ 0 0 _
      refine x_iconst (v := 2) rfl ki_2 ?_
      refine z_iadd rfl rfl jk_2 (by omega) (fun v5 ev5 => ?_)
      refine z_iald (N := 50660) rfl J rfl sg_126_20_18020_90_2_3 rfl (by omega) (fun v6 qv6 ev6 => ?_)
      try rw [vrd qv6 (show ((20 + (90 * l7.toInt)) + 2) = v5.toInt from by omega)] at D
      refine x_iret rfl rfl ?_
      show jX m_X12_found 4 0 0 131 [(0, .ref 125), (1, .int l1), (2, .long l2), (4, .long l4), (6, .int l6), (7, .int l7)] [.int v6] _ 0 0 _
      refine x_sipush (v := 366) rfl ks_366 ?_
      refine z_idiv rfl rfl jk_366 (by omega) (by omega) (fun v7 ev7 => ?_)
      refine x_iloadn (x := l1) rfl rfl ?_
      refine x_icne (tgt := 156) rfl rfl (ti_ne rfl rfl ⟨fun c8 => ?_, fun c8 => ?_⟩)
      ·
        rw [if_neg (by omega)] at D
        exact jX.sub (jsb_c rfl (jsb_c rfl (jsb_c rfl (jsb_c rfl (jsb_c rfl (jsb_c rfl jsb_n)))))) (ct_X12_found_r125d_156 hD hQ ih l1 l2 l4 l6 l7 h (jr_of rfl (by omega)) (jr_of rfl (by omega)) (by omega) (by omega) J Sm D)
      ·
        rw [if_pos (by omega)] at D
        refine z_iincW (x := l6) (lsx9 := fun v9 => [(6, .int v9), (0, .ref 125), (1, .int l1), (2, .long l2), (4, .long l4), (7, .int l7)]) rfl rfl rfl jko_1 rfl (fun _ => rfl) (fun v9 ev9 => ?_)
        have fv9 := jfull v9
        try rw [← ev9] at D
        refine x_lloadn (x := l2) rfl rfl ?_
        refine x_iload (x := v9) rfl rfl ?_
        refine z_i2l rfl rfl (fun v10 ev10 => ?_)
        refine z_lmulW rfl rfl rfl (fun v11 ev11 => ?_)
        have fv11 := jfullL v11
        try rw [show v9.toInt = v10.toInt from by omega] at D
        try rw [← ev11] at D
        refine x_lload (x := l4) rfl rfl ?_
        refine z_lcmp rfl rfl rfl (fun v12 ev12 => ?_)
        refine x_ifne (tgt := 156) rfl rfl (ti_ne rfl jk_0 ⟨fun c13 => ?_, fun c13 => ?_⟩)
        ·
          rw [if_neg (by omega)] at D
          try rw [show v10.toInt = v9.toInt from by omega] at D
          exact jX.sub (jsb_c rfl (jsb_c rfl (jsb_c rfl (jsb_c rfl (jsb_c rfl (jsb_c rfl jsb_n)))))) (ct_X12_found_r125d_156 hD hQ ih l1 l2 l4 v9 l7 h (jr_of rfl (by omega)) (jr_of rfl (by omega)) (by omega) (by omega) J Sm D)
        ·
          rw [if_pos (by omega)] at D
          refine x_iload (x := l7) rfl rfl ?_
          refine x_iret rfl rfl ?_
          exact hQ _ _ (jr_of rfl (by omega)) J Sm ((congrArg Prod.fst D).symm.trans (show l7.toInt = l7.toInt from by omega)) (congrArg Prod.snd D).symm
set_option maxRecDepth 100000 in
set_option maxHeartbeats 4000000 in
theorem ct_X12_found_r125d_107 {Dy : jH → Prop} {h0 : jH} {Q : Option Value → jH → Prop} {dr : (Int × jW)} (hD : jDk Dy) (hQ : ∀ (v : Int32) hx9, (-3) ≤ v.toInt ∧ v.toInt ≤ 199 → jJ jSgM Dy hx9 → jSm fp_X12_found_r125d h0 hx9 → dr.1 = v.toInt → dr.2 = vw hx9 → Q (some (.int v)) hx9) : ∀ (h : jH), jJ jSgM Dy h → jSm fp_X12_found_r125d h0 h → d_X12_found_r125d_107  (vw h) = dr → jX m_X12_found 4 0 0 107 [] [.int (-2)] h 0 0 Q := by
  intro  h    J Sm D
  unfold d_X12_found_r125d_107 at D
  refine x_iret rfl rfl ?_
  exact hQ _ _ (jr_of jk_m2 (by omega)) J Sm ((congrArg Prod.fst D).symm.trans (show (-2) = ((-2) : Int32).toInt from by have := jk_m2; omega)) (congrArg Prod.snd D).symm
set_option maxRecDepth 100000 in
set_option maxHeartbeats 4000000 in
theorem ct_X12_found_r125d_100107 {Dy : jH → Prop} {h0 : jH} {Q : Option Value → jH → Prop} {dr : (Int × jW)} (hD : jDk Dy) (hQ : ∀ (v : Int32) hx9, (-3) ≤ v.toInt ∧ v.toInt ≤ 199 → jJ jSgM Dy hx9 → jSm fp_X12_found_r125d h0 hx9 → dr.1 = v.toInt → dr.2 = vw hx9 → Q (some (.int v)) hx9) : ∀ (h : jH), jJ jSgM Dy h → jSm fp_X12_found_r125d h0 h → d_X12_found_r125d_100107  (vw h) = dr → jX m_X12_found 4 0 0 107 [] [.int (-1)] h 0 0 Q := by
  intro  h    J Sm D
  unfold d_X12_found_r125d_100107 at D
  refine x_iret rfl rfl ?_
  exact hQ _ _ (jr_of jk_m1 (by omega)) J Sm ((congrArg Prod.fst D).symm.trans (show (-1) = ((-1) : Int32).toInt from by have := jk_m1; omega)) (congrArg Prod.snd D).symm
set_option maxRecDepth 100000 in
set_option maxHeartbeats 4000000 in
theorem sf_X12_found_r125d {Dy : jH → Prop} {h : jH} {Q : Option Value → jH → Prop} {dr : (Int × jW)} {a1 : Int32} (hD : jDk Dy) (J : jJ jSgM Dy h) (D : d_X12_found_r125d a1.toInt (vw h) = dr) (hQ : ∀ (v : Int32) hx9, (-3) ≤ v.toInt ∧ v.toInt ≤ 199 → jJ jSgM Dy hx9 → jSm fp_X12_found_r125d h hx9 → dr.1 = v.toInt → dr.2 = vw hx9 → Q (some (.int v)) hx9) : jC m_X12_found 4 0 0 [.ref 125, .int a1] h Q := by
  refine jC.of rfl k_X12_found rfl ?_
  have Sm := jSm_rf fp_X12_found_r125d h
  have ea1 := jfull a1
  show jX m_X12_found 4 0 0 0 [(0, .ref 125), (1, .int a1)] [] _ 0 0 _
  unfold d_X12_found_r125d at D
  refine x_aloadn (x := 125) rfl rfl ?_
  refine x_iconst (v := 0) rfl ki_0 ?_
  refine z_putI (N := 92) (w := 0) 12 0 rfl f_12_180 rfl (jfin_no TX12 RX12 92 rfl rfl) hD J Sm rfl rfl jk_0 (pw_125_0 (by omega)) rfl (fun h w1 J Sm => ?_)
  rw [vwf w1 (show 0 = (0 : Int32).toInt from by have := jk_0; omega)] at D
  refine x_iloadn (x := a1) rfl rfl ?_
  refine x_inst (N := m_X12_isYear) (As := [.int a1]) (st := []) (dx9 := 2) (mc := 0) (ms := 0) (host := "") rfl t_X12_isYear ⟨Or.inl q_12_817, s_X12_isYear⟩ rfl (by decide) rfl rfl ⟨by decide, by decide⟩ (zc_X12_isYear (d := 1) rfl (fun v2 ev2 => ?_))
  show jX m_X12_found 4 0 0 9 [(0, .ref 125), (1, .int a1)] [.int v2] _ 0 0 _
  refine x_ifeq (tgt := 25) rfl rfl (ti_eq rfl jk_0 ⟨fun c3 => ?_, fun c3 => ?_⟩)
  ·
    rw [if_neg (by omega)] at D
    exact jX.sub jsb_n (ct_X12_found_r125d_25 hD hQ  h J Sm D)
  ·
    rw [if_pos (by omega)] at D
    refine x_aloadn (x := 125) rfl rfl ?_
    refine z_getR (N := 92) (b := 129) 12 5 rfl f_12_22 rfl J rfl 16005 ⟨rfl, rfl⟩ rfl ?_
    refine x_iconst (v := 4) rfl ki_4 ?_
    refine x_iloadn (x := a1) rfl rfl ?_
    refine z_imul rfl jk_4 rfl (by omega) (fun v4 ev4 => ?_)
    refine z_laldQ (N := 1600) rfl J rfl rfl (by omega) (fun v5 qv5 => ?_)
    have ev5 := jfullL v5
    try rw [vrdL qv5 (show (4 * a1.toInt) = v4.toInt from by omega)] at D
    refine x_lconst (v := 0) rfl kl_0 ?_
    refine z_lcmp rfl rfl jkl_0 (fun v6 ev6 => ?_)
    refine x_ifne (tgt := 28) rfl rfl (ti_ne rfl jk_0 ⟨fun c7 => ?_, fun c7 => ?_⟩)
    ·
      rw [if_neg (by omega)] at D
      refine x_aloadn (x := 125) rfl rfl ?_
      refine x_iloadn (x := a1) rfl rfl ?_
      refine x_inv (N := m_X12_addYear) (As := [.int a1]) (b := 125) (st := []) (dx9 := 3) (mc := 0) (ms := 0) (host := "") 12 rfl t_X12_addYear ⟨Or.inl q_12_872, i_X12_addYear.1, i_X12_addYear.2⟩ ⟨by decide, rfl⟩ (congrArg Prod.fst (J.1.1 125 (12, 92) rfl)) rfl (by decide) rfl rfl ⟨by decide, by decide⟩ (sf_X12_addYear_r125d (jr_of rfl (by omega)) hD J rfl  (fun h J S8 X9 => ?_))
      have Sm := jSm_tr rfl Sm S8
      rw [X9] at D
      show jX m_X12_found 4 0 0 33 [(0, .ref 125), (1, .int a1)] [] _ 0 0 _
      refine x_aloadn (x := 125) rfl rfl ?_
      refine z_getI0 (N := 92) 12 89 rfl f_12_863 rfl J rfl (fun v10 qv10 => ?_)
      have ev10 := jfull v10
      try rw [vrf qv10] at D
      refine z_i2l rfl rfl (fun v11 ev11 => ?_)
      refine x_aloadn (x := 125) rfl rfl ?_
      refine z_getR (N := 92) (b := 129) 12 5 rfl f_12_22 rfl J rfl 16005 ⟨rfl, rfl⟩ rfl ?_
      refine x_iconst (v := 4) rfl ki_4 ?_
      refine x_iloadn (x := a1) rfl rfl ?_
      refine z_imul rfl jk_4 rfl (by omega) (fun v12 ev12 => ?_)
      refine x_iconst (v := 1) rfl ki_1 ?_
      refine z_iadd rfl rfl jk_1 (by omega) (fun v13 ev13 => ?_)
      refine z_laldQ (N := 1600) rfl J rfl rfl (by omega) (fun v14 qv14 => ?_)
      have ev14 := jfullL v14
      try rw [vrdL qv14 (show ((4 * a1.toInt) + 1) = v13.toInt from by omega)] at D
      refine z_lcmp rfl rfl rfl (fun v15 ev15 => ?_)
      refine x_ifeq (tgt := 55) rfl rfl (ti_eq rfl jk_0 ⟨fun c16 => ?_, fun c16 => ?_⟩)
      ·
        rw [if_pos (by omega)] at D
        refine x_aloadn (x := 125) rfl rfl ?_
        refine z_getLQ (N := 92) 12 90 rfl f_12_866 rfl J rfl (fun v17 qv17 => ?_)
        have ev17 := jfullL v17
        try rw [vrfL qv17] at D
        refine x_aloadn (x := 125) rfl rfl ?_
        refine z_getR (N := 92) (b := 129) 12 5 rfl f_12_22 rfl J rfl 16005 ⟨rfl, rfl⟩ rfl ?_
        refine x_iconst (v := 4) rfl ki_4 ?_
        refine x_iloadn (x := a1) rfl rfl ?_
        refine z_imul rfl jk_4 rfl (by omega) (fun v18 ev18 => ?_)
        refine x_iconst (v := 2) rfl ki_2 ?_
        refine z_iadd rfl rfl jk_2 (by omega) (fun v19 ev19 => ?_)
        refine z_laldQ (N := 1600) rfl J rfl rfl (by omega) (fun v20 qv20 => ?_)
        have ev20 := jfullL v20
        try rw [vrdL qv20 (show ((4 * a1.toInt) + 2) = v19.toInt from by omega)] at D
        refine z_lsubW rfl rfl rfl (fun v21 ev21 => ?_)
        have fv21 := jfullL v21
        try rw [← ev21] at D
        refine x_lstoren (lsx9 := [(2, .long v21), (0, .ref 125), (1, .int a1)]) rfl rfl rfl ?_
        refine x_aloadn (x := 125) rfl rfl ?_
        refine z_getLQ (N := 92) 12 91 rfl f_12_869 rfl J rfl (fun v22 qv22 => ?_)
        have ev22 := jfullL v22
        try rw [vrfL qv22] at D
        refine x_aloadn (x := 125) rfl rfl ?_
        refine z_getR (N := 92) (b := 129) 12 5 rfl f_12_22 rfl J rfl 16005 ⟨rfl, rfl⟩ rfl ?_
        refine x_iconst (v := 4) rfl ki_4 ?_
        refine x_iloadn (x := a1) rfl rfl ?_
        refine z_imul rfl jk_4 rfl (by omega) (fun v23 ev23 => ?_)
        refine x_iconst (v := 3) rfl ki_3 ?_
        refine z_iadd rfl rfl jk_3 (by omega) (fun v24 ev24 => ?_)
        refine z_laldQ (N := 1600) rfl J rfl rfl (by omega) (fun v25 qv25 => ?_)
        have ev25 := jfullL v25
        try rw [vrdL qv25 (show ((4 * a1.toInt) + 3) = v24.toInt from by omega)] at D
        refine z_lsubW rfl rfl rfl (fun v26 ev26 => ?_)
        have fv26 := jfullL v26
        try rw [← ev26] at D
        refine x_lstore (lsx9 := [(4, .long v26), (2, .long v21), (0, .ref 125), (1, .int a1)]) rfl rfl rfl ?_
        refine x_lloadn (x := v21) rfl rfl ?_
        refine x_lconst (v := 0) rfl kl_0 ?_
        refine z_lcmp rfl rfl jkl_0 (fun v27 ev27 => ?_)
        refine x_ifne (tgt := 108) rfl rfl (ti_ne rfl jk_0 ⟨fun c28 => ?_, fun c28 => ?_⟩)
        ·
          rw [if_neg (by omega)] at D
          refine x_iconst (v := 0) rfl ki_0 ?_
          refine x_istore (lsx9 := [(6, .int 0), (4, .long v26), (2, .long v21), (0, .ref 125), (1, .int a1)]) rfl rfl rfl ?_
          refine x_iconst (v := 0) rfl ki_0 ?_
          refine x_istore (lsx9 := [(7, .int 0), (6, .int 0), (4, .long v26), (2, .long v21), (0, .ref 125), (1, .int a1)]) rfl rfl rfl ?_
          exact jX.sub (jsb_c rfl (jsb_c rfl (jsb_c rfl (jsb_c rfl (jsb_c rfl (jsb_c rfl jsb_n)))))) (ct_X12_found_r125d_114 hD hQ  201 a1 v21 v26 0 0 h (by have := jk_0; omega) (jr_of rfl (by omega)) (jr_of jk_0 (by omega)) (by omega) J Sm (by rw [jk_0]; exact D))
        ·
          rw [if_pos (by omega)] at D
          refine x_lload (x := v26) rfl rfl ?_
          refine x_lconst (v := 0) rfl kl_0 ?_
          refine z_lcmp rfl rfl jkl_0 (fun v29 ev29 => ?_)
          refine x_ifne (tgt := 105) rfl rfl (ti_ne rfl jk_0 ⟨fun c30 => ?_, fun c30 => ?_⟩)
          ·
            rw [if_neg (by omega)] at D
            refine x_bipush (v := (-2)) rfl kb_m2 ?_
            exact jX.sub jsb_n (ct_X12_found_r125d_107 hD hQ  h J Sm D)
          ·
            rw [if_pos (by omega)] at D
            refine x_iconst (v := (-1)) rfl ki_m1 ?_
            refine x_goto (tgt := 107) rfl rfl ?_
            exact jX.sub jsb_n (ct_X12_found_r125d_100107 hD hQ  h J Sm D)
      ·
        rw [if_neg (by omega)] at D
        refine x_bipush (v := (-2)) rfl kb_m2 ?_
        refine x_iret rfl rfl ?_
        exact hQ _ _ (jr_of jk_m2 (by omega)) J Sm ((congrArg Prod.fst D).symm.trans (show (-2) = ((-2) : Int32).toInt from by have := jk_m2; omega)) (congrArg Prod.snd D).symm
    ·
      rw [if_pos (by omega)] at D
      exact jX.sub jsb_n (ct_X12_found_r125d_25 hD hQ  h J Sm D)
