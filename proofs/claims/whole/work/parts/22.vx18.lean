def fp_X11_sumYear_r31_r124d : jFp := [(124, 0, 4)]
set_option maxRecDepth 100000 in
set_option maxHeartbeats 4000000 in
theorem ct_X11_sumYear_r31_r124d_90 {Dy : jH → Prop} {h0 : jH} {Q : Option Value → jH → Prop} {dr : jW} {K25 : Int → Int → Int → Int → Int → Int → jW → jW} {R25 : Int} (hD : jDk Dy) (hQ : ∀ hx9, jJ jSgX Dy hx9 → jSm fp_X11_sumYear_r31_r124d h0 hx9 → dr = vw hx9 → Q none hx9) (k25 : ∀ (l1 : Int32) (l3 : Int32) (l4 : Int64) (l6 : Int64) (l8 : Int64) (l10 : Int32) (h : jH), 200 - l10.toInt < R25 → 0 ≤ l1.toInt ∧ l1.toInt ≤ 399 → 0 ≤ l3.toInt ∧ l3.toInt ≤ 0 → 0 ≤ l10.toInt ∧ l10.toInt ≤ 200 → jJ jSgX Dy h → jSm fp_X11_sumYear_r31_r124d h0 h → K25 l1.toInt l3.toInt l4.toInt l6.toInt l8.toInt l10.toInt (vw h) = dr → jX m_X11_sumYear 3 0 0 25 [(0, .ref 31), (1, .int l1), (2, .ref 124), (3, .int l3), (4, .long l4), (6, .long l6), (8, .long l8), (10, .int l10)] [] h 0 0 Q) : ∀ (l1 : Int32) (l3 : Int32) (l4 : Int64) (l6 : Int64) (l8 : Int64) (l10 : Int32) (h : jH), 0 ≤ l1.toInt ∧ l1.toInt ≤ 399 → 0 ≤ l3.toInt ∧ l3.toInt ≤ 0 → 0 ≤ l10.toInt ∧ l10.toInt ≤ 199 → 200 - l10.toInt ≤ R25 → jJ jSgX Dy h → jSm fp_X11_sumYear_r31_r124d h0 h → d_X11_sumYear_r31_r124d_90 K25  l1.toInt l3.toInt l4.toInt l6.toInt l8.toInt l10.toInt (vw h) = dr → jX m_X11_sumYear 3 0 0 90 [(0, .ref 31), (1, .int l1), (2, .ref 124), (3, .int l3), (4, .long l4), (6, .long l6), (8, .long l8), (10, .int l10)] [] h 0 0 Q := by
  intro l1 l3 l4 l6 l8 l10 h y0 y1 y2  m25 J Sm D
  have el4 := jfullL l4
  have el6 := jfullL l6
  have el8 := jfullL l8
  unfold d_X11_sumYear_r31_r124d_90 at D
  refine z_iinc (x := l10) (lsx9 := fun v1 => [(10, .int v1), (0, .ref 31), (1, .int l1), (2, .ref 124), (3, .int l3), (4, .long l4), (6, .long l6), (8, .long l8)]) rfl rfl rfl jko_1 (by omega) rfl (fun _ => rfl) (fun v1 ev1 => ?_)
  refine x_goto (tgt := 25) rfl rfl ?_
  try rw [show (l10.toInt + 1) = v1.toInt from by omega] at D
  exact jX.sub (jsb_c rfl (jsb_c rfl (jsb_c rfl (jsb_c rfl (jsb_c rfl (jsb_c rfl (jsb_c rfl (jsb_c rfl jsb_n)))))))) (k25 l1 l3 l4 l6 l8 v1 h (by omega) (jr_of rfl (by omega)) (jr_of rfl (by omega)) (jr_of rfl (by omega)) J Sm D)
set_option maxRecDepth 100000 in
set_option maxHeartbeats 4000000 in
theorem ct_X11_sumYear_r31_r124d_25 {Dy : jH → Prop} {h0 : jH} {Q : Option Value → jH → Prop} {dr : jW} (hD : jDk Dy) (hQ : ∀ hx9, jJ jSgX Dy hx9 → jSm fp_X11_sumYear_r31_r124d h0 hx9 → dr = vw hx9 → Q none hx9) : ∀ r : Nat, ∀ (l1 : Int32) (l3 : Int32) (l4 : Int64) (l6 : Int64) (l8 : Int64) (l10 : Int32) (h : jH), 200 - l10.toInt < (r : Int) → 0 ≤ l1.toInt ∧ l1.toInt ≤ 399 → 0 ≤ l3.toInt ∧ l3.toInt ≤ 0 → 0 ≤ l10.toInt ∧ l10.toInt ≤ 200 → jJ jSgX Dy h → jSm fp_X11_sumYear_r31_r124d h0 h → d_X11_sumYear_r31_r124d_25 r l1.toInt l3.toInt l4.toInt l6.toInt l8.toInt l10.toInt (vw h) = dr → jX m_X11_sumYear 3 0 0 25 [(0, .ref 31), (1, .int l1), (2, .ref 124), (3, .int l3), (4, .long l4), (6, .long l6), (8, .long l8), (10, .int l10)] [] h 0 0 Q := by
  intro r
  induction r with
  | zero =>
    intro l1 l3 l4 l6 l8 l10 h hm y0 y1 y2   J Sm D
    exfalso
    have el4 := jfullL l4
    have el6 := jfullL l6
    have el8 := jfullL l8
    omega
  | succ r ih =>
    intro l1 l3 l4 l6 l8 l10 h hm y0 y1 y2   J Sm D
    have el4 := jfullL l4
    have el6 := jfullL l6
    have el8 := jfullL l8
    rw [d_X11_sumYear_r31_r124d_25.eq_2] at D
    refine x_iload (x := l10) rfl rfl ?_
    refine x_aloadn (x := 31) rfl rfl ?_
    refine z_getR (N := 13) (b := 32) 11 0 rfl f_11_10 rfl J rfl 3968 ⟨rfl, rfl⟩ rfl ?_
    refine z_getR (N := 20) (b := 33) 1 0 rfl f_11_126 rfl J rfl 4096 ⟨rfl, rfl⟩ rfl ?_
    refine z_getI (N := 4) 8 3 rfl f_11_142 rfl J rfl sg_33_3_4_1_0_1 (fun v1 qv1 ev1 => ?_)
    try rw [vrf qv1] at D
    refine x_icge (tgt := 96) rfl rfl (ti_ge rfl rfl ⟨fun c2 => ?_, fun c2 => ?_⟩)
    ·
      rw [if_pos (by omega)] at D
      refine x_aloadn (x := 124) rfl rfl ?_
      refine x_iloadn (x := l3) rfl rfl ?_
      refine x_lconst (v := 1) rfl kl_1 ?_
      refine z_last (N := 4) (l := 0) (u := 4) rfl hD J Sm rfl rfl rfl (by omega) rfl (fun h w3 J Sm => ?_)
      rw [vwwL w3 (show l3.toInt = l3.toInt from by omega) (show 1 = (1 : Int64).toInt from by have := jkl_1; omega)] at D
      refine x_aloadn (x := 124) rfl rfl ?_
      refine x_iloadn (x := l3) rfl rfl ?_
      refine x_iconst (v := 1) rfl ki_1 ?_
      refine z_iadd rfl rfl jk_1 (by omega) (fun v4 ev4 => ?_)
      refine x_lload (x := l4) rfl rfl ?_
      refine z_last (N := 4) (l := 0) (u := 4) rfl hD J Sm rfl rfl rfl (by omega) rfl (fun h w5 J Sm => ?_)
      rw [vwwL w5 (show (l3.toInt + 1) = v4.toInt from by omega) (show l4.toInt = l4.toInt from by omega)] at D
      refine x_aloadn (x := 124) rfl rfl ?_
      refine x_iloadn (x := l3) rfl rfl ?_
      refine x_iconst (v := 2) rfl ki_2 ?_
      refine z_iadd rfl rfl jk_2 (by omega) (fun v6 ev6 => ?_)
      refine x_lload (x := l6) rfl rfl ?_
      refine z_last (N := 4) (l := 0) (u := 4) rfl hD J Sm rfl rfl rfl (by omega) rfl (fun h w7 J Sm => ?_)
      rw [vwwL w7 (show (l3.toInt + 2) = v6.toInt from by omega) (show l6.toInt = l6.toInt from by omega)] at D
      refine x_aloadn (x := 124) rfl rfl ?_
      refine x_iloadn (x := l3) rfl rfl ?_
      refine x_iconst (v := 3) rfl ki_3 ?_
      refine z_iadd rfl rfl jk_3 (by omega) (fun v8 ev8 => ?_)
      refine x_lload (x := l8) rfl rfl ?_
      refine z_last (N := 4) (l := 0) (u := 4) rfl hD J Sm rfl rfl rfl (by omega) rfl (fun h w9 J Sm => ?_)
      rw [vwwL w9 (show (l3.toInt + 3) = v8.toInt from by omega) (show l8.toInt = l8.toInt from by omega)] at D
      refine x_vret rfl rfl ?_
      exact hQ _ J Sm D.symm
    ·
      rw [if_neg (by omega)] at D
      refine x_aloadn (x := 31) rfl rfl ?_
      refine x_iload (x := l10) rfl rfl ?_
      refine x_inv (N := m_X11_yearOf) (As := [.int l10]) (b := 31) (st := []) (dx9 := 2) (mc := 0) (ms := 0) (host := "") 11 rfl t_X11_yearOf ⟨Or.inl q_11_521, i_X11_yearOf.1, i_X11_yearOf.2⟩ ⟨by decide, rfl⟩ (congrArg Prod.fst (J.1.1 31 (11, 13) rfl)) rfl (by decide) rfl rfl ⟨by decide, by decide⟩ (jC.of rfl k_X11_yearOf rfl ?_)
      show jX m_X11_yearOf 2 0 0 0 [(0, .ref 31), (1, .int l10)] [] _ 0 0 _
      refine x_aloadn (x := 31) rfl rfl ?_
      refine z_getR (N := 13) (b := 32) 11 0 rfl f_11_10 rfl J rfl 3968 ⟨rfl, rfl⟩ rfl ?_
      refine z_getR (N := 20) (b := 33) 1 0 rfl f_11_126 rfl J rfl 4096 ⟨rfl, rfl⟩ rfl ?_
      refine x_iloadn (x := l10) rfl rfl ?_
      refine x_iconst (v := 1) rfl ki_1 ?_
      refine x_inv (N := m_X8_at) (As := [.int l10, .int 1]) (b := 33) (st := []) (dx9 := 1) (mc := 0) (ms := 0) (host := "") 8 rfl t_X8_at ⟨Or.inl q_11_171, i_X8_at.1, i_X8_at.2⟩ ⟨by decide, rfl⟩ (congrArg Prod.fst (J.1.1 33 (8, 4) rfl)) rfl (by decide) rfl rfl ⟨by decide, by decide⟩ (sf_X8_at_r33_c1d  hD J rfl  (fun v13 h ev13 J S10 X11 X12 => ?_))
      have Sm := jSm_tr rfl Sm S10
      try rw [X11] at D
      try rw [← X12] at D
      show jX m_X11_yearOf 2 0 0 12 [(0, .ref 31), (1, .int l10)] [.int v13] _ 0 0 _
      refine x_sipush (v := 366) rfl ks_366 ?_
      refine z_idiv rfl rfl jk_366 (by omega) (by omega) (fun v14 ev14 => ?_)
      refine x_iret rfl rfl ?_
      show jX m_X11_sumYear 3 0 0 46 [(0, .ref 31), (1, .int l1), (2, .ref 124), (3, .int l3), (4, .long l4), (6, .long l6), (8, .long l8), (10, .int l10)] [.int v14] _ 0 0 _
      refine x_iloadn (x := l1) rfl rfl ?_
      refine x_icne (tgt := 90) rfl rfl (ti_ne rfl rfl ⟨fun c15 => ?_, fun c15 => ?_⟩)
      ·
        rw [if_neg (by omega)] at D
        exact jX.sub (jsb_c rfl (jsb_c rfl (jsb_c rfl (jsb_c rfl (jsb_c rfl (jsb_c rfl (jsb_c rfl (jsb_c rfl jsb_n)))))))) (ct_X11_sumYear_r31_r124d_90 hD hQ ih l1 l3 l4 l6 l8 l10 h (jr_of rfl (by omega)) (jr_of rfl (by omega)) (jr_of rfl (by omega)) (by omega) J Sm D)
      ·
        rw [if_pos (by omega)] at D
        refine x_aloadn (x := 31) rfl rfl ?_
        refine z_getR (N := 13) (b := 32) 11 0 rfl f_11_10 rfl J rfl 3968 ⟨rfl, rfl⟩ rfl ?_
        refine z_getR (N := 20) (b := 33) 1 0 rfl f_11_126 rfl J rfl 4096 ⟨rfl, rfl⟩ rfl ?_
        refine x_iload (x := l10) rfl rfl ?_
        refine x_iconst (v := 4) rfl ki_4 ?_
        refine x_inv (N := m_X8_at) (As := [.int l10, .int 4]) (b := 33) (st := []) (dx9 := 1) (mc := 0) (ms := 0) (host := "") 8 rfl t_X8_at ⟨Or.inl q_11_171, i_X8_at.1, i_X8_at.2⟩ ⟨by decide, rfl⟩ (congrArg Prod.fst (J.1.1 33 (8, 4) rfl)) rfl (by decide) rfl rfl ⟨by decide, by decide⟩ (sf_X8_at_r33_c4d  hD J rfl  (fun v19 h J S16 X17 X18 => ?_))
        have ev19 := jfull v19
        have Sm := jSm_tr rfl Sm S16
        try rw [X17] at D
        try rw [← X18] at D
        show jX m_X11_sumYear 3 0 0 63 [(0, .ref 31), (1, .int l1), (2, .ref 124), (3, .int l3), (4, .long l4), (6, .long l6), (8, .long l8), (10, .int l10)] [.int v19] _ 0 0 _
        refine x_istore (lsx9 := [(11, .int v19), (0, .ref 31), (1, .int l1), (2, .ref 124), (3, .int l3), (4, .long l4), (6, .long l6), (8, .long l8), (10, .int l10)]) rfl rfl rfl ?_
        refine x_lload (x := l4) rfl rfl ?_
        refine x_lconst (v := 1) rfl kl_1 ?_
        refine z_laddW rfl rfl jkl_1 (fun v20 ev20 => ?_)
        have fv20 := jfullL v20
        try rw [← ev20] at D
        refine x_lstore (lsx9 := [(4, .long v20), (11, .int v19), (0, .ref 31), (1, .int l1), (2, .ref 124), (3, .int l3), (6, .long l6), (8, .long l8), (10, .int l10)]) rfl rfl rfl ?_
        refine x_lload (x := l6) rfl rfl ?_
        refine x_iload (x := v19) rfl rfl ?_
        refine z_i2l rfl rfl (fun v21 ev21 => ?_)
        refine z_laddW rfl rfl rfl (fun v22 ev22 => ?_)
        have fv22 := jfullL v22
        try rw [show v19.toInt = v21.toInt from by omega] at D
        try rw [← ev22] at D
        refine x_lstore (lsx9 := [(6, .long v22), (4, .long v20), (11, .int v19), (0, .ref 31), (1, .int l1), (2, .ref 124), (3, .int l3), (8, .long l8), (10, .int l10)]) rfl rfl rfl ?_
        refine x_lload (x := l8) rfl rfl ?_
        refine x_lload (x := v20) rfl rfl ?_
        refine x_iload (x := v19) rfl rfl ?_
        refine z_i2l rfl rfl (fun v23 ev23 => ?_)
        refine z_lmulW rfl rfl rfl (fun v24 ev24 => ?_)
        have fv24 := jfullL v24
        try rw [show v21.toInt = v23.toInt from by omega] at D
        try rw [← ev24] at D
        refine z_laddW rfl rfl rfl (fun v25 ev25 => ?_)
        have fv25 := jfullL v25
        try rw [← ev25] at D
        refine x_lstore (lsx9 := [(8, .long v25), (6, .long v22), (4, .long v20), (11, .int v19), (0, .ref 31), (1, .int l1), (2, .ref 124), (3, .int l3), (10, .int l10)]) rfl rfl rfl ?_
        exact jX.sub (jsb_c rfl (jsb_c rfl (jsb_c rfl (jsb_c rfl (jsb_c rfl (jsb_c rfl (jsb_c rfl (jsb_c rfl jsb_n)))))))) (ct_X11_sumYear_r31_r124d_90 hD hQ ih l1 l3 v20 v22 v25 l10 h (jr_of rfl (by omega)) (jr_of rfl (by omega)) (jr_of rfl (by omega)) (by omega) J Sm D)
set_option maxRecDepth 100000 in
set_option maxHeartbeats 4000000 in
theorem sf_X11_sumYear_r31_r124d {Dy : jH → Prop} {h : jH} {Q : Option Value → jH → Prop} {dr : jW} {a1 : Int32} {a2 : Int32} (y1 : 0 ≤ a1.toInt ∧ a1.toInt ≤ 399) (y2 : 0 ≤ a2.toInt ∧ a2.toInt ≤ 0) (hD : jDk Dy) (J : jJ jSgX Dy h) (D : d_X11_sumYear_r31_r124d a1.toInt a2.toInt (vw h) = dr) (hQ : ∀ hx9, jJ jSgX Dy hx9 → jSm fp_X11_sumYear_r31_r124d h hx9 → dr = vw hx9 → Q none hx9) : jC m_X11_sumYear 3 0 0 [.ref 31, .int a1, .ref 124, .int a2] h Q := by
  refine jC.of rfl k_X11_sumYear rfl ?_
  have Sm := jSm_rf fp_X11_sumYear_r31_r124d h
  show jX m_X11_sumYear 3 0 0 0 [(0, .ref 31), (1, .int a1), (2, .ref 124), (3, .int a2)] [] _ 0 0 _
  unfold d_X11_sumYear_r31_r124d at D
  refine x_iloadn (x := a2) rfl rfl ?_
  refine x_iflt (tgt := 12) rfl rfl (ti_lt rfl jk_0 (br_f (by omega) ?_))
  refine x_iloadn (x := a2) rfl rfl ?_
  refine x_iconst (v := 3) rfl ki_3 ?_
  refine z_iadd rfl rfl jk_3 (by omega) (fun v1 ev1 => ?_)
  refine x_aloadn (x := 124) rfl rfl ?_
  refine z_alen (N := 4) (v := 4) rfl J rfl rfl (by decide) ?_
  refine x_iclt (tgt := 13) rfl rfl (ti_lt rfl jk_4 (br_t (by omega) ?_))
  refine x_lconst (v := 0) rfl kl_0 ?_
  refine x_lstore (lsx9 := [(4, .long 0), (0, .ref 31), (1, .int a1), (2, .ref 124), (3, .int a2)]) rfl rfl rfl ?_
  refine x_lconst (v := 0) rfl kl_0 ?_
  refine x_lstore (lsx9 := [(6, .long 0), (4, .long 0), (0, .ref 31), (1, .int a1), (2, .ref 124), (3, .int a2)]) rfl rfl rfl ?_
  refine x_lconst (v := 0) rfl kl_0 ?_
  refine x_lstore (lsx9 := [(8, .long 0), (6, .long 0), (4, .long 0), (0, .ref 31), (1, .int a1), (2, .ref 124), (3, .int a2)]) rfl rfl rfl ?_
  refine x_iconst (v := 0) rfl ki_0 ?_
  refine x_istore (lsx9 := [(10, .int 0), (8, .long 0), (6, .long 0), (4, .long 0), (0, .ref 31), (1, .int a1), (2, .ref 124), (3, .int a2)]) rfl rfl rfl ?_
  exact jX.sub (jsb_c rfl (jsb_c rfl (jsb_c rfl (jsb_c rfl (jsb_c rfl (jsb_c rfl (jsb_c rfl (jsb_c rfl jsb_n)))))))) (ct_X11_sumYear_r31_r124d_25 hD hQ  201 a1 a2 0 0 0 0 h (by have := jk_0; omega) (jr_of rfl (by omega)) (jr_of rfl (by omega)) (jr_of jk_0 (by omega)) J Sm (by rw [jkl_0, jk_0]; exact D))
def fp_X11_found_r31d : jFp := [(124, 0, 4)]
set_option maxRecDepth 100000 in
set_option maxHeartbeats 4000000 in
theorem ct_X11_found_r31d_23 {Dy : jH → Prop} {h0 : jH} {Q : Option Value → jH → Prop} {dr : (Int × jW)} (hD : jDk Dy) (hQ : ∀ (v : Int32) hx9, (-3) ≤ v.toInt ∧ v.toInt ≤ 199 → jJ jSgX Dy hx9 → jSm fp_X11_found_r31d h0 hx9 → dr.1 = v.toInt → dr.2 = vw hx9 → Q (some (.int v)) hx9) : ∀ (h : jH), jJ jSgX Dy h → jSm fp_X11_found_r31d h0 h → d_X11_found_r31d_23  (vw h) = dr → jX m_X11_found 4 0 0 23 [] [] h 0 0 Q := by
  intro  h    J Sm D
  unfold d_X11_found_r31d_23 at D
  refine x_bipush (v := (-3)) rfl kb_m3 ?_
  refine x_iret rfl rfl ?_
  exact hQ _ _ (jr_of jk_m3 (by omega)) J Sm ((congrArg Prod.fst D).symm.trans (show (-3) = ((-3) : Int32).toInt from by have := jk_m3; omega)) (congrArg Prod.snd D).symm
set_option maxRecDepth 100000 in
set_option maxHeartbeats 4000000 in
theorem ct_X11_found_r31d_171 {Dy : jH → Prop} {h0 : jH} {Q : Option Value → jH → Prop} {dr : (Int × jW)} {K129 : Int → Int → Int → Int → Int → jW → (Int × jW)} {R129 : Int} (hD : jDk Dy) (hQ : ∀ (v : Int32) hx9, (-3) ≤ v.toInt ∧ v.toInt ≤ 199 → jJ jSgX Dy hx9 → jSm fp_X11_found_r31d h0 hx9 → dr.1 = v.toInt → dr.2 = vw hx9 → Q (some (.int v)) hx9) (k129 : ∀ (l1 : Int32) (l3 : Int64) (l5 : Int64) (l7 : Int32) (l8 : Int32) (h : jH), 200 - l8.toInt < R129 → 0 ≤ l1.toInt ∧ l1.toInt ≤ 399 → 0 ≤ l8.toInt ∧ l8.toInt ≤ 200 → l3.toInt ≠ 0 → jJ jSgX Dy h → jSm fp_X11_found_r31d h0 h → K129 l1.toInt l3.toInt l5.toInt l7.toInt l8.toInt (vw h) = dr → jX m_X11_found 4 0 0 129 [(0, .ref 31), (1, .int l1), (3, .long l3), (5, .long l5), (7, .int l7), (8, .int l8)] [] h 0 0 Q) : ∀ (l1 : Int32) (l3 : Int64) (l5 : Int64) (l7 : Int32) (l8 : Int32) (h : jH), 0 ≤ l1.toInt ∧ l1.toInt ≤ 399 → 0 ≤ l8.toInt ∧ l8.toInt ≤ 199 → l3.toInt ≠ 0 → 200 - l8.toInt ≤ R129 → jJ jSgX Dy h → jSm fp_X11_found_r31d h0 h → d_X11_found_r31d_171 K129  l1.toInt l3.toInt l5.toInt l7.toInt l8.toInt (vw h) = dr → jX m_X11_found 4 0 0 171 [(0, .ref 31), (1, .int l1), (3, .long l3), (5, .long l5), (7, .int l7), (8, .int l8)] [] h 0 0 Q := by
  intro l1 l3 l5 l7 l8 h y0 y1 y2  m129 J Sm D
  have el3 := jfullL l3
  have el5 := jfullL l5
  have el7 := jfull l7
  unfold d_X11_found_r31d_171 at D
  refine z_iinc (x := l8) (lsx9 := fun v1 => [(8, .int v1), (0, .ref 31), (1, .int l1), (3, .long l3), (5, .long l5), (7, .int l7)]) rfl rfl rfl jko_1 (by omega) rfl (fun _ => rfl) (fun v1 ev1 => ?_)
  refine x_goto (tgt := 129) rfl rfl ?_
  try rw [show (l8.toInt + 1) = v1.toInt from by omega] at D
  exact jX.sub (jsb_c rfl (jsb_c rfl (jsb_c rfl (jsb_c rfl (jsb_c rfl (jsb_c rfl jsb_n)))))) (k129 l1 l3 l5 l7 v1 h (by omega) (jr_of rfl (by omega)) (jr_of rfl (by omega)) (by omega) J Sm D)
set_option maxRecDepth 100000 in
set_option maxHeartbeats 4000000 in
theorem ct_X11_found_r31d_129 {Dy : jH → Prop} {h0 : jH} {Q : Option Value → jH → Prop} {dr : (Int × jW)} (hD : jDk Dy) (hQ : ∀ (v : Int32) hx9, (-3) ≤ v.toInt ∧ v.toInt ≤ 199 → jJ jSgX Dy hx9 → jSm fp_X11_found_r31d h0 hx9 → dr.1 = v.toInt → dr.2 = vw hx9 → Q (some (.int v)) hx9) : ∀ r : Nat, ∀ (l1 : Int32) (l3 : Int64) (l5 : Int64) (l7 : Int32) (l8 : Int32) (h : jH), 200 - l8.toInt < (r : Int) → 0 ≤ l1.toInt ∧ l1.toInt ≤ 399 → 0 ≤ l8.toInt ∧ l8.toInt ≤ 200 → l3.toInt ≠ 0 → jJ jSgX Dy h → jSm fp_X11_found_r31d h0 h → d_X11_found_r31d_129 r l1.toInt l3.toInt l5.toInt l7.toInt l8.toInt (vw h) = dr → jX m_X11_found 4 0 0 129 [(0, .ref 31), (1, .int l1), (3, .long l3), (5, .long l5), (7, .int l7), (8, .int l8)] [] h 0 0 Q := by
  intro r
  induction r with
  | zero =>
    intro l1 l3 l5 l7 l8 h hm y0 y1 y2   J Sm D
    exfalso
    have el3 := jfullL l3
    have el5 := jfullL l5
    have el7 := jfull l7
    omega
  | succ r ih =>
    intro l1 l3 l5 l7 l8 h hm y0 y1 y2   J Sm D
    have el3 := jfullL l3
    have el5 := jfullL l5
    have el7 := jfull l7
    rw [d_X11_found_r31d_129.eq_2] at D
    refine x_iload (x := l8) rfl rfl ?_
    refine x_aloadn (x := 31) rfl rfl ?_
    refine z_getR (N := 13) (b := 32) 11 0 rfl f_11_10 rfl J rfl 3968 ⟨rfl, rfl⟩ rfl ?_
    refine z_getR (N := 20) (b := 33) 1 0 rfl f_11_126 rfl J rfl 4096 ⟨rfl, rfl⟩ rfl ?_
    refine z_getI (N := 4) 8 3 rfl f_11_142 rfl J rfl sg_33_3_4_1_0_1 (fun v1 qv1 ev1 => ?_)
    try rw [vrf qv1] at D
    refine x_icge (tgt := 177) rfl rfl (ti_ge rfl rfl ⟨fun c2 => ?_, fun c2 => ?_⟩)
    ·
      rw [if_pos (by omega)] at D
      refine x_bipush (v := (-2)) rfl kb_m2 ?_
      refine x_iret rfl rfl ?_
      exact hQ _ _ (jr_of jk_m2 (by omega)) J Sm ((congrArg Prod.fst D).symm.trans (show (-2) = ((-2) : Int32).toInt from by have := jk_m2; omega)) (congrArg Prod.snd D).symm
    ·
      rw [if_neg (by omega)] at D
      refine x_aloadn (x := 31) rfl rfl ?_
      refine x_iload (x := l8) rfl rfl ?_
      refine x_inv (N := m_X11_yearOf) (As := [.int l8]) (b := 31) (st := []) (dx9 := 3) (mc := 0) (ms := 0) (host := "") 11 rfl t_X11_yearOf ⟨Or.inl q_11_521, i_X11_yearOf.1, i_X11_yearOf.2⟩ ⟨by decide, rfl⟩ (congrArg Prod.fst (J.1.1 31 (11, 13) rfl)) rfl (by decide) rfl rfl ⟨by decide, by decide⟩ (jC.of rfl k_X11_yearOf rfl ?_)
      show jX m_X11_yearOf 3 0 0 0 [(0, .ref 31), (1, .int l8)] [] _ 0 0 _
      refine x_aloadn (x := 31) rfl rfl ?_
      refine z_getR (N := 13) (b := 32) 11 0 rfl f_11_10 rfl J rfl 3968 ⟨rfl, rfl⟩ rfl ?_
      refine z_getR (N := 20) (b := 33) 1 0 rfl f_11_126 rfl J rfl 4096 ⟨rfl, rfl⟩ rfl ?_
      refine x_iloadn (x := l8) rfl rfl ?_
      refine x_iconst (v := 1) rfl ki_1 ?_
      refine x_inv (N := m_X8_at) (As := [.int l8, .int 1]) (b := 33) (st := []) (dx9 := 1) (mc := 0) (ms := 0) (host := "") 8 rfl t_X8_at ⟨Or.inl q_11_171, i_X8_at.1, i_X8_at.2⟩ ⟨by decide, rfl⟩ (congrArg Prod.fst (J.1.1 33 (8, 4) rfl)) rfl (by decide) rfl rfl ⟨by decide, by decide⟩ (sf_X8_at_r33_c1d  hD J rfl  (fun v6 h ev6 J S3 X4 X5 => ?_))
      have Sm := jSm_tr rfl Sm S3
      try rw [X4] at D
      try rw [← X5] at D
      show jX m_X11_yearOf 3 0 0 12 [(0, .ref 31), (1, .int l8)] [.int v6] _ 0 0 _
      refine x_sipush (v := 366) rfl ks_366 ?_
      refine z_idiv rfl rfl jk_366 (by omega) (by omega) (fun v7 ev7 => ?_)
      refine x_iret rfl rfl ?_
      show jX m_X11_found 4 0 0 150 [(0, .ref 31), (1, .int l1), (3, .long l3), (5, .long l5), (7, .int l7), (8, .int l8)] [.int v7] _ 0 0 _
      refine x_iloadn (x := l1) rfl rfl ?_
      refine x_icne (tgt := 171) rfl rfl (ti_ne rfl rfl ⟨fun c8 => ?_, fun c8 => ?_⟩)
      ·
        rw [if_neg (by omega)] at D
        exact jX.sub (jsb_c rfl (jsb_c rfl (jsb_c rfl (jsb_c rfl (jsb_c rfl (jsb_c rfl jsb_n)))))) (ct_X11_found_r31d_171 hD hQ ih l1 l3 l5 l7 l8 h (jr_of rfl (by omega)) (jr_of rfl (by omega)) (by omega) (by omega) J Sm D)
      ·
        rw [if_pos (by omega)] at D
        refine z_iincW (x := l7) (lsx9 := fun v9 => [(7, .int v9), (0, .ref 31), (1, .int l1), (3, .long l3), (5, .long l5), (8, .int l8)]) rfl rfl rfl jko_1 rfl (fun _ => rfl) (fun v9 ev9 => ?_)
        have fv9 := jfull v9
        try rw [← ev9] at D
        refine x_lloadn (x := l3) rfl rfl ?_
        refine x_iload (x := v9) rfl rfl ?_
        refine z_i2l rfl rfl (fun v10 ev10 => ?_)
        refine z_lmulW rfl rfl rfl (fun v11 ev11 => ?_)
        have fv11 := jfullL v11
        try rw [show v9.toInt = v10.toInt from by omega] at D
        try rw [← ev11] at D
        refine x_lload (x := l5) rfl rfl ?_
        refine z_lcmp rfl rfl rfl (fun v12 ev12 => ?_)
        refine x_ifne (tgt := 171) rfl rfl (ti_ne rfl jk_0 ⟨fun c13 => ?_, fun c13 => ?_⟩)
        ·
          rw [if_neg (by omega)] at D
          try rw [show v10.toInt = v9.toInt from by omega] at D
          exact jX.sub (jsb_c rfl (jsb_c rfl (jsb_c rfl (jsb_c rfl (jsb_c rfl (jsb_c rfl jsb_n)))))) (ct_X11_found_r31d_171 hD hQ ih l1 l3 l5 v9 l8 h (jr_of rfl (by omega)) (jr_of rfl (by omega)) (by omega) (by omega) J Sm D)
        ·
          rw [if_pos (by omega)] at D
          refine x_iload (x := l8) rfl rfl ?_
          refine x_iret rfl rfl ?_
          exact hQ _ _ (jr_of rfl (by omega)) J Sm ((congrArg Prod.fst D).symm.trans (show l8.toInt = l8.toInt from by omega)) (congrArg Prod.snd D).symm
set_option maxRecDepth 100000 in
set_option maxHeartbeats 4000000 in
theorem ct_X11_found_r31d_122 {Dy : jH → Prop} {h0 : jH} {Q : Option Value → jH → Prop} {dr : (Int × jW)} (hD : jDk Dy) (hQ : ∀ (v : Int32) hx9, (-3) ≤ v.toInt ∧ v.toInt ≤ 199 → jJ jSgX Dy hx9 → jSm fp_X11_found_r31d h0 hx9 → dr.1 = v.toInt → dr.2 = vw hx9 → Q (some (.int v)) hx9) : ∀ (h : jH), jJ jSgX Dy h → jSm fp_X11_found_r31d h0 h → d_X11_found_r31d_122  (vw h) = dr → jX m_X11_found 4 0 0 122 [] [.int (-2)] h 0 0 Q := by
  intro  h    J Sm D
  unfold d_X11_found_r31d_122 at D
  refine x_iret rfl rfl ?_
  exact hQ _ _ (jr_of jk_m2 (by omega)) J Sm ((congrArg Prod.fst D).symm.trans (show (-2) = ((-2) : Int32).toInt from by have := jk_m2; omega)) (congrArg Prod.snd D).symm
set_option maxRecDepth 100000 in
set_option maxHeartbeats 4000000 in
theorem ct_X11_found_r31d_100122 {Dy : jH → Prop} {h0 : jH} {Q : Option Value → jH → Prop} {dr : (Int × jW)} (hD : jDk Dy) (hQ : ∀ (v : Int32) hx9, (-3) ≤ v.toInt ∧ v.toInt ≤ 199 → jJ jSgX Dy hx9 → jSm fp_X11_found_r31d h0 hx9 → dr.1 = v.toInt → dr.2 = vw hx9 → Q (some (.int v)) hx9) : ∀ (h : jH), jJ jSgX Dy h → jSm fp_X11_found_r31d h0 h → d_X11_found_r31d_100122  (vw h) = dr → jX m_X11_found 4 0 0 122 [] [.int (-1)] h 0 0 Q := by
  intro  h    J Sm D
  unfold d_X11_found_r31d_100122 at D
  refine x_iret rfl rfl ?_
  exact hQ _ _ (jr_of jk_m1 (by omega)) J Sm ((congrArg Prod.fst D).symm.trans (show (-1) = ((-1) : Int32).toInt from by have := jk_m1; omega)) (congrArg Prod.snd D).symm
set_option maxRecDepth 100000 in
set_option maxHeartbeats 4000000 in
theorem sf_X11_found_r31d {Dy : jH → Prop} {h : jH} {Q : Option Value → jH → Prop} {dr : (Int × jW)} {a1 : Int32} (hD : jDk Dy) (J : jJ jSgX Dy h) (D : d_X11_found_r31d a1.toInt (vw h) = dr) (hQ : ∀ (v : Int32) hx9, (-3) ≤ v.toInt ∧ v.toInt ≤ 199 → jJ jSgX Dy hx9 → jSm fp_X11_found_r31d h hx9 → dr.1 = v.toInt → dr.2 = vw hx9 → Q (some (.int v)) hx9) : jC m_X11_found 4 0 0 [.ref 31, .int a1] h Q := by
  refine jC.of rfl k_X11_found rfl ?_
  have Sm := jSm_rf fp_X11_found_r31d h
  have ea1 := jfull a1
  show jX m_X11_found 4 0 0 0 [(0, .ref 31), (1, .int a1)] [] _ 0 0 _
  unfold d_X11_found_r31d at D
  refine x_iloadn (x := a1) rfl rfl ?_
  refine x_inst (N := m_X11_isYear) (As := [.int a1]) (st := []) (dx9 := 1) (mc := 0) (ms := 0) (host := "") rfl t_X11_isYear ⟨Or.inl q_11_433, s_X11_isYear⟩ rfl (by decide) rfl rfl ⟨by decide, by decide⟩ (zc_X11_isYear rfl (fun v1 ev1 => ?_))
  show jX m_X11_found 4 0 0 4 [(0, .ref 31), (1, .int a1)] [.int v1] _ 0 0 _
  refine x_ifeq (tgt := 23) rfl rfl (ti_eq rfl jk_0 ⟨fun c2 => ?_, fun c2 => ?_⟩)
  ·
    rw [if_neg (by omega)] at D
    exact jX.sub jsb_n (ct_X11_found_r31d_23 hD hQ  h J Sm D)
  ·
    rw [if_pos (by omega)] at D
    refine x_aloadn (x := 31) rfl rfl ?_
    refine z_getR (N := 13) (b := 32) 11 0 rfl f_11_10 rfl J rfl 3968 ⟨rfl, rfl⟩ rfl ?_
    refine z_getR (N := 20) (b := 65) 1 16 rfl f_11_511 rfl J rfl 4112 ⟨rfl, rfl⟩ rfl ?_
    refine x_iloadn (x := a1) rfl rfl ?_
    refine x_iconst (v := 4) rfl ki_4 ?_
    refine z_imul rfl rfl jk_4 (by omega) (fun v3 ev3 => ?_)
    refine z_laldQ (N := 1600) rfl J rfl rfl (by omega) (fun v4 qv4 => ?_)
    have ev4 := jfullL v4
    try rw [vrdL qv4 (show (a1.toInt * 4) = v3.toInt from by omega)] at D
    refine x_lconst (v := 0) rfl kl_0 ?_
    refine z_lcmp rfl rfl jkl_0 (fun v5 ev5 => ?_)
    refine x_ifne (tgt := 26) rfl rfl (ti_ne rfl jk_0 ⟨fun c6 => ?_, fun c6 => ?_⟩)
    ·
      rw [if_neg (by omega)] at D
      refine x_iloadn (x := a1) rfl rfl ?_
      refine x_iconst (v := 4) rfl ki_4 ?_
      refine z_imul rfl rfl jk_4 (by omega) (fun v7 ev7 => ?_)
      refine x_istoren (lsx9 := [(2, .int v7), (0, .ref 31), (1, .int a1)]) rfl rfl rfl ?_
      refine x_aloadn (x := 31) rfl rfl ?_
      refine x_iloadn (x := a1) rfl rfl ?_
      refine x_aloadn (x := 31) rfl rfl ?_
      refine z_getR (N := 13) (b := 124) 11 11 rfl f_11_90 rfl J rfl 3979 ⟨rfl, rfl⟩ rfl ?_
      refine x_iconst (v := 0) rfl ki_0 ?_
      refine x_inv (N := m_X11_sumYear) (As := [.int a1, .ref 124, .int 0]) (b := 31) (st := []) (dx9 := 3) (mc := 0) (ms := 0) (host := "") 11 rfl t_X11_sumYear ⟨Or.inl q_11_514, i_X11_sumYear.1, i_X11_sumYear.2⟩ ⟨by decide, rfl⟩ (congrArg Prod.fst (J.1.1 31 (11, 13) rfl)) rfl (by decide) rfl rfl ⟨by decide, by decide⟩ (sf_X11_sumYear_r31_r124d (jr_of rfl (by omega)) (jr_of jk_0 (by omega)) hD J rfl  (fun h J S8 X9 => ?_))
      have Sm := jSm_tr rfl Sm S8
      try rw [jk_0] at X9
      rw [X9] at D
      show jX m_X11_found 4 0 0 40 [(2, .int v7), (0, .ref 31), (1, .int a1)] [] _ 0 0 _
      refine x_aloadn (x := 31) rfl rfl ?_
      refine z_getR (N := 13) (b := 32) 11 0 rfl f_11_10 rfl J rfl 3968 ⟨rfl, rfl⟩ rfl ?_
      refine z_getR (N := 20) (b := 65) 1 16 rfl f_11_511 rfl J rfl 4112 ⟨rfl, rfl⟩ rfl ?_
      refine x_iloadn (x := v7) rfl rfl ?_
      refine x_iconst (v := 2) rfl ki_2 ?_
      refine z_iadd rfl rfl jk_2 (by omega) (fun v10 ev10 => ?_)
      refine z_laldQ (N := 1600) rfl J rfl rfl (by omega) (fun v11 qv11 => ?_)
      have ev11 := jfullL v11
      try rw [vrdL qv11 (show ((a1.toInt * 4) + 2) = v10.toInt from by omega)] at D
      refine x_aloadn (x := 31) rfl rfl ?_
      refine z_getR (N := 13) (b := 124) 11 11 rfl f_11_90 rfl J rfl 3979 ⟨rfl, rfl⟩ rfl ?_
      refine x_iconst (v := 2) rfl ki_2 ?_
      refine z_laldQ (N := 4) rfl J rfl jk_2 (by omega) (fun v12 qv12 => ?_)
      have ev12 := jfullL v12
      try rw [vrnL (n := 2) (by decide) qv12] at D
      refine z_lsubW rfl rfl rfl (fun v13 ev13 => ?_)
      have fv13 := jfullL v13
      try rw [← ev13] at D
      refine x_lstoren (lsx9 := [(3, .long v13), (2, .int v7), (0, .ref 31), (1, .int a1)]) rfl rfl rfl ?_
      refine x_aloadn (x := 31) rfl rfl ?_
      refine z_getR (N := 13) (b := 32) 11 0 rfl f_11_10 rfl J rfl 3968 ⟨rfl, rfl⟩ rfl ?_
      refine z_getR (N := 20) (b := 65) 1 16 rfl f_11_511 rfl J rfl 4112 ⟨rfl, rfl⟩ rfl ?_
      refine x_iloadn (x := v7) rfl rfl ?_
      refine x_iconst (v := 3) rfl ki_3 ?_
      refine z_iadd rfl rfl jk_3 (by omega) (fun v14 ev14 => ?_)
      refine z_laldQ (N := 1600) rfl J rfl rfl (by omega) (fun v15 qv15 => ?_)
      have ev15 := jfullL v15
      try rw [vrdL qv15 (show ((a1.toInt * 4) + 3) = v14.toInt from by omega)] at D
      refine x_aloadn (x := 31) rfl rfl ?_
      refine z_getR (N := 13) (b := 124) 11 11 rfl f_11_90 rfl J rfl 3979 ⟨rfl, rfl⟩ rfl ?_
      refine x_iconst (v := 3) rfl ki_3 ?_
      refine z_laldQ (N := 4) rfl J rfl jk_3 (by omega) (fun v16 qv16 => ?_)
      have ev16 := jfullL v16
      try rw [vrnL (n := 3) (by decide) qv16] at D
      refine z_lsubW rfl rfl rfl (fun v17 ev17 => ?_)
      have fv17 := jfullL v17
      try rw [← ev17] at D
      refine x_lstore (lsx9 := [(5, .long v17), (3, .long v13), (2, .int v7), (0, .ref 31), (1, .int a1)]) rfl rfl rfl ?_
      refine x_aloadn (x := 31) rfl rfl ?_
      refine z_getR (N := 13) (b := 32) 11 0 rfl f_11_10 rfl J rfl 3968 ⟨rfl, rfl⟩ rfl ?_
      refine z_getR (N := 20) (b := 65) 1 16 rfl f_11_511 rfl J rfl 4112 ⟨rfl, rfl⟩ rfl ?_
      refine x_iloadn (x := v7) rfl rfl ?_
      refine x_iconst (v := 1) rfl ki_1 ?_
      refine z_iadd rfl rfl jk_1 (by omega) (fun v18 ev18 => ?_)
      refine z_laldQ (N := 1600) rfl J rfl rfl (by omega) (fun v19 qv19 => ?_)
      have ev19 := jfullL v19
      try rw [vrdL qv19 (show ((a1.toInt * 4) + 1) = v18.toInt from by omega)] at D
      refine x_aloadn (x := 31) rfl rfl ?_
      refine z_getR (N := 13) (b := 124) 11 11 rfl f_11_90 rfl J rfl 3979 ⟨rfl, rfl⟩ rfl ?_
      refine x_iconst (v := 1) rfl ki_1 ?_
      refine z_laldQ (N := 4) rfl J rfl jk_1 (by omega) (fun v20 qv20 => ?_)
      have ev20 := jfullL v20
      try rw [vrnL (n := 1) (by decide) qv20] at D
      refine z_lcmp rfl rfl rfl (fun v21 ev21 => ?_)
      refine x_ifeq (tgt := 103) rfl rfl (ti_eq rfl jk_0 ⟨fun c22 => ?_, fun c22 => ?_⟩)
      ·
        rw [if_pos (by omega)] at D
        refine x_lloadn (x := v13) rfl rfl ?_
        refine x_lconst (v := 0) rfl kl_0 ?_
        refine z_lcmp rfl rfl jkl_0 (fun v23 ev23 => ?_)
        refine x_ifne (tgt := 123) rfl rfl (ti_ne rfl jk_0 ⟨fun c24 => ?_, fun c24 => ?_⟩)
        ·
          rw [if_neg (by omega)] at D
          refine x_iconst (v := 0) rfl ki_0 ?_
          refine x_istore (lsx9 := [(7, .int 0), (5, .long v17), (3, .long v13), (2, .int v7), (0, .ref 31), (1, .int a1)]) rfl rfl rfl ?_
          refine x_iconst (v := 0) rfl ki_0 ?_
          refine x_istore (lsx9 := [(8, .int 0), (7, .int 0), (5, .long v17), (3, .long v13), (2, .int v7), (0, .ref 31), (1, .int a1)]) rfl rfl rfl ?_
          exact jX.sub (jsb_c rfl (jsb_c rfl (jsb_c rfl (jsb_c rfl (jsb_c rfl (jsb_c rfl jsb_n)))))) (ct_X11_found_r31d_129 hD hQ  201 a1 v13 v17 0 0 h (by have := jk_0; omega) (jr_of rfl (by omega)) (jr_of jk_0 (by omega)) (by omega) J Sm (by rw [jk_0]; exact D))
        ·
          rw [if_pos (by omega)] at D
          refine x_lload (x := v17) rfl rfl ?_
          refine x_lconst (v := 0) rfl kl_0 ?_
          refine z_lcmp rfl rfl jkl_0 (fun v25 ev25 => ?_)
          refine x_ifne (tgt := 120) rfl rfl (ti_ne rfl jk_0 ⟨fun c26 => ?_, fun c26 => ?_⟩)
          ·
            rw [if_neg (by omega)] at D
            refine x_bipush (v := (-2)) rfl kb_m2 ?_
            exact jX.sub jsb_n (ct_X11_found_r31d_122 hD hQ  h J Sm D)
          ·
            rw [if_pos (by omega)] at D
            refine x_iconst (v := (-1)) rfl ki_m1 ?_
            refine x_goto (tgt := 122) rfl rfl ?_
            exact jX.sub jsb_n (ct_X11_found_r31d_100122 hD hQ  h J Sm D)
      ·
        rw [if_neg (by omega)] at D
        refine x_bipush (v := (-2)) rfl kb_m2 ?_
        refine x_iret rfl rfl ?_
        exact hQ _ _ (jr_of jk_m2 (by omega)) J Sm ((congrArg Prod.fst D).symm.trans (show (-2) = ((-2) : Int32).toInt from by have := jk_m2; omega)) (congrArg Prod.snd D).symm
    ·
      rw [if_pos (by omega)] at D
      exact jX.sub jsb_n (ct_X11_found_r31d_23 hD hQ  h J Sm D)
def fp_X11_group_r31d : jFp := [(78, 13, 14), (82, 0, 600), (83, 0, 600), (84, 0, 200), (86, 0, 3), (87, 10, 11), (87, 11, 12), (87, 12, 13), (87, 13, 14), (89, 0, 81), (90, 0, 9), (91, 0, 9), (92, 0, 9), (93, 0, 90), (94, 0, 14401)]
set_option maxRecDepth 100000 in
set_option maxHeartbeats 4000000 in
theorem ct_X11_group_r31d_15 {Dy : jH → Prop} {h0 : jH} {Q : Option Value → jH → Prop} {dr : (Int × jW)} (hD : jDk Dy) (hQ : ∀ (v : Int32) hx9, (-1) ≤ v.toInt ∧ v.toInt ≤ 8 → jJ jSgX Dy hx9 → jSm fp_X11_group_r31d h0 hx9 → dr.1 = v.toInt → dr.2 = vw hx9 → Q (some (.int v)) hx9) : ∀ (h : jH), jJ jSgX Dy h → jSm fp_X11_group_r31d h0 h → d_X11_group_r31d_15  (vw h) = dr → jX m_X11_group 14 0 0 15 [] [] h 0 0 Q := by
  intro  h    J Sm D
  unfold d_X11_group_r31d_15 at D
  refine x_iconst (v := (-1)) rfl ki_m1 ?_
  refine x_iret rfl rfl ?_
  exact hQ _ _ (jr_of jk_m1 (by omega)) J Sm ((congrArg Prod.fst D).symm.trans (show (-1) = ((-1) : Int32).toInt from by have := jk_m1; omega)) (congrArg Prod.snd D).symm
set_option maxRecDepth 100000 in
set_option maxHeartbeats 4000000 in
theorem sf_X11_group_r31d {Dy : jH → Prop} {h : jH} {Q : Option Value → jH → Prop} {dr : (Int × jW)} {a1 : Int32} (hD : jDk Dy) (J : jJ jSgX Dy h) (D : d_X11_group_r31d a1.toInt (vw h) = dr) (hQ : ∀ (v : Int32) hx9, (-1) ≤ v.toInt ∧ v.toInt ≤ 8 → jJ jSgX Dy hx9 → jSm fp_X11_group_r31d h hx9 → dr.1 = v.toInt → dr.2 = vw hx9 → Q (some (.int v)) hx9) : jC m_X11_group 14 0 0 [.ref 31, .int a1] h Q := by
  refine jC.of rfl k_X11_group rfl ?_
  have Sm := jSm_rf fp_X11_group_r31d h
  have ea1 := jfull a1
  show jX m_X11_group 14 0 0 0 [(0, .ref 31), (1, .int a1)] [] _ 0 0 _
  unfold d_X11_group_r31d at D
  refine x_iloadn (x := a1) rfl rfl ?_
  refine x_iflt (tgt := 15) rfl rfl (ti_lt rfl jk_0 ⟨fun c1 => ?_, fun c1 => ?_⟩)
  ·
    rw [if_pos (by omega)] at D
    exact jX.sub jsb_n (ct_X11_group_r31d_15 hD hQ  h J Sm D)
  ·
    rw [if_neg (by omega)] at D
    refine x_iloadn (x := a1) rfl rfl ?_
    refine x_aloadn (x := 31) rfl rfl ?_
    refine z_getR (N := 13) (b := 87) 11 5 rfl f_11_50 rfl J rfl 3973 ⟨rfl, rfl⟩ rfl ?_
    refine z_getI (N := 14) 3 3 rfl f_11_273 rfl J rfl sg_87_3_4_1_0_1 (fun v2 qv2 ev2 => ?_)
    try rw [vrf qv2] at D
    refine x_iclt (tgt := 17) rfl rfl (ti_lt rfl rfl ⟨fun c3 => ?_, fun c3 => ?_⟩)
    ·
      rw [if_pos (by omega)] at D
      refine x_aloadn (x := 31) rfl rfl ?_
      refine z_getR (N := 13) (b := 78) 11 4 rfl f_11_41 rfl J rfl 3972 ⟨rfl, rfl⟩ rfl ?_
      refine x_ldc (v := 146399) rfl z_11_233 ?_
      refine x_inv (N := m_X7_asKnown) (As := [.int 146399]) (b := 78) (st := []) (dx9 := 6) (mc := 0) (ms := 0) (host := "") 7 rfl t_X7_asKnown ⟨Or.inl q_11_240, i_X7_asKnown.1, i_X7_asKnown.2⟩ ⟨by decide, rfl⟩ (congrArg Prod.fst (J.1.1 78 (7, 16) rfl)) rfl (by decide) rfl rfl ⟨by decide, by decide⟩ (sf_X7_asKnown_r78d (jr_of jk_146399 (by omega)) hD J rfl  (fun h J S4 X5 => ?_))
      have Sm := jSm_tr rfl Sm S4
      try rw [jk_146399] at X5
      rw [X5] at D
      show jX m_X11_group 14 0 0 26 [(0, .ref 31), (1, .int a1)] [] _ 0 0 _
      refine x_aloadn (x := 31) rfl rfl ?_
      refine z_getR (N := 13) (b := 87) 11 5 rfl f_11_50 rfl J rfl 3973 ⟨rfl, rfl⟩ rfl ?_
      refine x_inv (N := m_X3_settle) (As := []) (b := 87) (st := []) (dx9 := 13) (mc := 0) (ms := 0) (host := "") 3 rfl t_X3_settle ⟨Or.inl q_11_282, i_X3_settle.1, i_X3_settle.2⟩ ⟨by decide, rfl⟩ (congrArg Prod.fst (J.1.1 87 (3, 14) rfl)) rfl (by decide) rfl rfl ⟨by decide, by decide⟩ (sf_X3_settle_r87d  hD J rfl  (fun h J S6 X7 => ?_))
      have Sm := jSm_tr rfl Sm S6
      rw [X7] at D
      show jX m_X11_group 14 0 0 33 [(0, .ref 31), (1, .int a1)] [] _ 0 0 _
      refine x_aloadn (x := 31) rfl rfl ?_
      refine z_getR (N := 13) (b := 87) 11 5 rfl f_11_50 rfl J rfl 3973 ⟨rfl, rfl⟩ rfl ?_
      refine x_iloadn (x := a1) rfl rfl ?_
      refine x_inv (N := m_X3_groupOf) (As := [.int a1]) (b := 87) (st := []) (dx9 := 13) (mc := 0) (ms := 0) (host := "") 3 rfl t_X3_groupOf ⟨Or.inl q_11_297, i_X3_groupOf.1, i_X3_groupOf.2⟩ ⟨by decide, rfl⟩ (congrArg Prod.fst (J.1.1 87 (3, 14) rfl)) rfl (by decide) rfl rfl ⟨by decide, by decide⟩ (jC.of rfl k_X3_groupOf rfl ?_)
      show jX m_X3_groupOf 13 0 0 0 [(0, .ref 87), (1, .int a1)] [] _ 0 0 _
      refine x_iloadn (x := a1) rfl rfl ?_
      refine x_iflt (tgt := 21) rfl rfl (ti_lt rfl jk_0 (br_f (by omega) ?_))
      refine x_iloadn (x := a1) rfl rfl ?_
      refine x_aloadn (x := 87) rfl rfl ?_
      refine z_getM (N := 14) (v := v2) 3 3 rfl f_3_15 rfl J rfl (jmc S6 rfl (jmc S4 rfl qv2)) ?_
      refine x_icge (tgt := 21) rfl rfl (ti_ge rfl rfl ⟨fun c8 => ?_, fun c8 => ?_⟩)
      ·
        rw [if_pos (by omega)] at D
        refine x_iconst (v := (-1)) rfl ki_m1 ?_
        refine x_iret rfl rfl ?_
        show jX m_X11_group 14 0 0 41 [(0, .ref 31), (1, .int a1)] [.int (-1)] _ 0 0 _
        refine x_iret rfl rfl ?_
        exact hQ _ _ (jr_of jk_m1 (by omega)) J Sm ((congrArg Prod.fst D).symm.trans (show (-1) = ((-1) : Int32).toInt from by have := jk_m1; omega)) (congrArg Prod.snd D).symm
      ·
        rw [if_neg (by omega)] at D
        refine x_aloadn (x := 87) rfl rfl ?_
        refine z_getR (N := 14) (b := 92) 3 7 rfl f_3_28 rfl J rfl 11143 ⟨rfl, rfl⟩ rfl ?_
        refine x_iloadn (x := a1) rfl rfl ?_
        refine z_iald (N := 9) rfl J rfl sg_92_0_9_1_0_1 rfl (by omega) (fun v9 qv9 ev9 => ?_)
        try rw [vrd qv9 (show a1.toInt = a1.toInt from by omega)] at D
        refine x_goto (tgt := 22) rfl rfl ?_
        refine x_iret rfl rfl ?_
        show jX m_X11_group 14 0 0 41 [(0, .ref 31), (1, .int a1)] [.int v9] _ 0 0 _
        refine x_iret rfl rfl ?_
        exact hQ _ _ (jr_of rfl (by omega)) J Sm ((congrArg Prod.fst D).symm.trans (show v9.toInt = v9.toInt from by omega)) (congrArg Prod.snd D).symm
    ·
      rw [if_neg (by omega)] at D
      exact jX.sub jsb_n (ct_X11_group_r31d_15 hD hQ  h J Sm D)
def fp_X8_put_r51_c0d : jFp := [(52, 0, 400)]
set_option maxRecDepth 100000 in
set_option maxHeartbeats 4000000 in
theorem ct_X8_put_r51_c0d_38 {Dy : jH → Prop} {h0 : jH} {Q : Option Value → jH → Prop} {dr : jW} (hD : jDk Dy) (hQ : ∀ hx9, jJ jSgX Dy hx9 → jSm fp_X8_put_r51_c0d h0 hx9 → dr = vw hx9 → Q none hx9) : ∀ (h : jH), jJ jSgX Dy h → jSm fp_X8_put_r51_c0d h0 h → d_X8_put_r51_c0d_38  (vw h) = dr → jX m_X8_put 1 0 0 38 [] [] h 0 0 Q := by
  intro  h    J Sm D
  unfold d_X8_put_r51_c0d_38 at D
  refine x_vret rfl rfl ?_
  exact hQ _ J Sm D.symm
set_option maxRecDepth 100000 in
set_option maxHeartbeats 4000000 in
theorem sf_X8_put_r51_c0d {Dy : jH → Prop} {h : jH} {Q : Option Value → jH → Prop} {dr : jW} {a1 : Int32} {a3 : Int32} (y1 : 0 ≤ a1.toInt ∧ a1.toInt ≤ 99) (y3 : 0 ≤ a3.toInt ∧ a3.toInt ≤ 146399) (hD : jDk Dy) (J : jJ jSgX Dy h) (D : d_X8_put_r51_c0d a1.toInt a3.toInt (vw h) = dr) (hQ : ∀ hx9, jJ jSgX Dy hx9 → jSm fp_X8_put_r51_c0d h hx9 → dr = vw hx9 → Q none hx9) : jC m_X8_put 1 0 0 [.ref 51, .int a1, .int 0, .int a3] h Q := by
  refine jC.of rfl k_X8_put rfl ?_
  have Sm := jSm_rf fp_X8_put_r51_c0d h
  show jX m_X8_put 1 0 0 0 [(0, .ref 51), (1, .int a1), (2, .int 0), (3, .int a3)] [] _ 0 0 _
  unfold d_X8_put_r51_c0d at D
  refine x_iloadn (x := a1) rfl rfl ?_
  refine x_iflt (tgt := 38) rfl rfl (ti_lt rfl jk_0 (br_f (by omega) ?_))
  refine x_iloadn (x := a1) rfl rfl ?_
  refine x_aloadn (x := 51) rfl rfl ?_
  refine z_getI (N := 4) 8 3 rfl f_8_7 rfl J rfl sg_51_3_4_1_0_1 (fun v1 qv1 ev1 => ?_)
  try rw [vrf qv1] at D
  refine x_icge (tgt := 38) rfl rfl (ti_ge rfl rfl ⟨fun c2 => ?_, fun c2 => ?_⟩)
  ·
    rw [if_pos (by omega)] at D
    exact jX.sub jsb_n (ct_X8_put_r51_c0d_38 hD hQ  h J Sm D)
  ·
    rw [if_neg (by omega)] at D
    refine x_iloadn (x := 0) rfl rfl ?_
    refine x_iflt (tgt := 38) rfl rfl (ti_lt jk_0 jk_0 (br_f (by omega) ?_))
    refine x_iloadn (x := 0) rfl rfl ?_
    refine x_aloadn (x := 51) rfl rfl ?_
    refine z_getC (N := 4) (v := 4) 8 0 rfl f_8_19 rfl J rfl sg_51_0_1_1_0_1 jk_4 ?_
    refine x_icge (tgt := 38) rfl rfl (ti_ge jk_0 jk_4 (br_f (by omega) ?_))
    refine x_aloadn (x := 51) rfl rfl ?_
    refine z_getR (N := 4) (b := 52) 8 2 rfl f_8_25 rfl J rfl 6530 ⟨rfl, rfl⟩ rfl ?_
    refine x_iloadn (x := a1) rfl rfl ?_
    refine x_aloadn (x := 51) rfl rfl ?_
    refine z_getC (N := 4) (v := 4) 8 0 rfl f_8_19 rfl J rfl sg_51_0_1_1_0_1 jk_4 ?_
    refine z_imul rfl rfl jk_4 (by omega) (fun v3 ev3 => ?_)
    refine x_iloadn (x := 0) rfl rfl ?_
    refine z_iadd rfl rfl jk_0 (by omega) (fun v4 ev4 => ?_)
    refine x_iloadn (x := a3) rfl rfl ?_
    refine z_iast (N := 400) (l := 0) (u := 400) (w := a3.toInt) rfl hD J Sm rfl rfl rfl (by omega) rfl (wr_52 (fun q1 q2 q3 q4 => by omega) (fun q1 q2 q3 q4 => by omega) (fun q1 q2 q3 q4 => by omega) (fun q1 q2 q3 q4 => by omega)) rfl (fun h w5 J Sm => ?_)
    rw [vww w5 (show ((a1.toInt * 4) + 0) = v4.toInt from by omega) (show a3.toInt = a3.toInt from by omega)] at D
    exact jX.sub jsb_n (ct_X8_put_r51_c0d_38 hD hQ  h J Sm D)
def fp_X8_put_r51_c1d : jFp := [(52, 0, 400)]
set_option maxRecDepth 100000 in
set_option maxHeartbeats 4000000 in
theorem ct_X8_put_r51_c1d_38 {Dy : jH → Prop} {h0 : jH} {Q : Option Value → jH → Prop} {dr : jW} (hD : jDk Dy) (hQ : ∀ hx9, jJ jSgX Dy hx9 → jSm fp_X8_put_r51_c1d h0 hx9 → dr = vw hx9 → Q none hx9) : ∀ (h : jH), jJ jSgX Dy h → jSm fp_X8_put_r51_c1d h0 h → d_X8_put_r51_c1d_38  (vw h) = dr → jX m_X8_put 1 0 0 38 [] [] h 0 0 Q := by
  intro  h    J Sm D
  unfold d_X8_put_r51_c1d_38 at D
  refine x_vret rfl rfl ?_
  exact hQ _ J Sm D.symm
set_option maxRecDepth 100000 in
set_option maxHeartbeats 4000000 in
theorem sf_X8_put_r51_c1d {Dy : jH → Prop} {h : jH} {Q : Option Value → jH → Prop} {dr : jW} {a1 : Int32} {a3 : Int32} (y1 : 0 ≤ a1.toInt ∧ a1.toInt ≤ 99) (y3 : 0 ≤ a3.toInt ∧ a3.toInt ≤ 146399) (hD : jDk Dy) (J : jJ jSgX Dy h) (D : d_X8_put_r51_c1d a1.toInt a3.toInt (vw h) = dr) (hQ : ∀ hx9, jJ jSgX Dy hx9 → jSm fp_X8_put_r51_c1d h hx9 → dr = vw hx9 → Q none hx9) : jC m_X8_put 1 0 0 [.ref 51, .int a1, .int 1, .int a3] h Q := by
  refine jC.of rfl k_X8_put rfl ?_
  have Sm := jSm_rf fp_X8_put_r51_c1d h
  show jX m_X8_put 1 0 0 0 [(0, .ref 51), (1, .int a1), (2, .int 1), (3, .int a3)] [] _ 0 0 _
  unfold d_X8_put_r51_c1d at D
  refine x_iloadn (x := a1) rfl rfl ?_
  refine x_iflt (tgt := 38) rfl rfl (ti_lt rfl jk_0 (br_f (by omega) ?_))
  refine x_iloadn (x := a1) rfl rfl ?_
  refine x_aloadn (x := 51) rfl rfl ?_
  refine z_getI (N := 4) 8 3 rfl f_8_7 rfl J rfl sg_51_3_4_1_0_1 (fun v1 qv1 ev1 => ?_)
  try rw [vrf qv1] at D
  refine x_icge (tgt := 38) rfl rfl (ti_ge rfl rfl ⟨fun c2 => ?_, fun c2 => ?_⟩)
  ·
    rw [if_pos (by omega)] at D
    exact jX.sub jsb_n (ct_X8_put_r51_c1d_38 hD hQ  h J Sm D)
  ·
    rw [if_neg (by omega)] at D
    refine x_iloadn (x := 1) rfl rfl ?_
    refine x_iflt (tgt := 38) rfl rfl (ti_lt jk_1 jk_0 (br_f (by omega) ?_))
    refine x_iloadn (x := 1) rfl rfl ?_
    refine x_aloadn (x := 51) rfl rfl ?_
    refine z_getC (N := 4) (v := 4) 8 0 rfl f_8_19 rfl J rfl sg_51_0_1_1_0_1 jk_4 ?_
    refine x_icge (tgt := 38) rfl rfl (ti_ge jk_1 jk_4 (br_f (by omega) ?_))
    refine x_aloadn (x := 51) rfl rfl ?_
    refine z_getR (N := 4) (b := 52) 8 2 rfl f_8_25 rfl J rfl 6530 ⟨rfl, rfl⟩ rfl ?_
    refine x_iloadn (x := a1) rfl rfl ?_
    refine x_aloadn (x := 51) rfl rfl ?_
    refine z_getC (N := 4) (v := 4) 8 0 rfl f_8_19 rfl J rfl sg_51_0_1_1_0_1 jk_4 ?_
    refine z_imul rfl rfl jk_4 (by omega) (fun v3 ev3 => ?_)
    refine x_iloadn (x := 1) rfl rfl ?_
    refine z_iadd rfl rfl jk_1 (by omega) (fun v4 ev4 => ?_)
    refine x_iloadn (x := a3) rfl rfl ?_
    refine z_iast (N := 400) (l := 0) (u := 400) (w := a3.toInt) rfl hD J Sm rfl rfl rfl (by omega) rfl (wr_52 (fun q1 q2 q3 q4 => by omega) (fun q1 q2 q3 q4 => by omega) (fun q1 q2 q3 q4 => by omega) (fun q1 q2 q3 q4 => by omega)) rfl (fun h w5 J Sm => ?_)
    rw [vww w5 (show ((a1.toInt * 4) + 1) = v4.toInt from by omega) (show a3.toInt = a3.toInt from by omega)] at D
    exact jX.sub jsb_n (ct_X8_put_r51_c1d_38 hD hQ  h J Sm D)
def fp_X8_put_r51_c2d : jFp := [(52, 0, 400)]
set_option maxRecDepth 100000 in
set_option maxHeartbeats 4000000 in
theorem ct_X8_put_r51_c2d_38 {Dy : jH → Prop} {h0 : jH} {Q : Option Value → jH → Prop} {dr : jW} (hD : jDk Dy) (hQ : ∀ hx9, jJ jSgX Dy hx9 → jSm fp_X8_put_r51_c2d h0 hx9 → dr = vw hx9 → Q none hx9) : ∀ (h : jH), jJ jSgX Dy h → jSm fp_X8_put_r51_c2d h0 h → d_X8_put_r51_c2d_38  (vw h) = dr → jX m_X8_put 1 0 0 38 [] [] h 0 0 Q := by
  intro  h    J Sm D
  unfold d_X8_put_r51_c2d_38 at D
  refine x_vret rfl rfl ?_
  exact hQ _ J Sm D.symm
set_option maxRecDepth 100000 in
set_option maxHeartbeats 4000000 in
theorem sf_X8_put_r51_c2d {Dy : jH → Prop} {h : jH} {Q : Option Value → jH → Prop} {dr : jW} {a1 : Int32} {a3 : Int32} (y1 : 0 ≤ a1.toInt ∧ a1.toInt ≤ 99) (y3 : 0 ≤ a3.toInt ∧ a3.toInt ≤ 39) (hD : jDk Dy) (J : jJ jSgX Dy h) (D : d_X8_put_r51_c2d a1.toInt a3.toInt (vw h) = dr) (hQ : ∀ hx9, jJ jSgX Dy hx9 → jSm fp_X8_put_r51_c2d h hx9 → dr = vw hx9 → Q none hx9) : jC m_X8_put 1 0 0 [.ref 51, .int a1, .int 2, .int a3] h Q := by
  refine jC.of rfl k_X8_put rfl ?_
  have Sm := jSm_rf fp_X8_put_r51_c2d h
  show jX m_X8_put 1 0 0 0 [(0, .ref 51), (1, .int a1), (2, .int 2), (3, .int a3)] [] _ 0 0 _
  unfold d_X8_put_r51_c2d at D
  refine x_iloadn (x := a1) rfl rfl ?_
  refine x_iflt (tgt := 38) rfl rfl (ti_lt rfl jk_0 (br_f (by omega) ?_))
  refine x_iloadn (x := a1) rfl rfl ?_
  refine x_aloadn (x := 51) rfl rfl ?_
  refine z_getI (N := 4) 8 3 rfl f_8_7 rfl J rfl sg_51_3_4_1_0_1 (fun v1 qv1 ev1 => ?_)
  try rw [vrf qv1] at D
  refine x_icge (tgt := 38) rfl rfl (ti_ge rfl rfl ⟨fun c2 => ?_, fun c2 => ?_⟩)
  ·
    rw [if_pos (by omega)] at D
    exact jX.sub jsb_n (ct_X8_put_r51_c2d_38 hD hQ  h J Sm D)
  ·
    rw [if_neg (by omega)] at D
    refine x_iloadn (x := 2) rfl rfl ?_
    refine x_iflt (tgt := 38) rfl rfl (ti_lt jk_2 jk_0 (br_f (by omega) ?_))
    refine x_iloadn (x := 2) rfl rfl ?_
    refine x_aloadn (x := 51) rfl rfl ?_
    refine z_getC (N := 4) (v := 4) 8 0 rfl f_8_19 rfl J rfl sg_51_0_1_1_0_1 jk_4 ?_
    refine x_icge (tgt := 38) rfl rfl (ti_ge jk_2 jk_4 (br_f (by omega) ?_))
    refine x_aloadn (x := 51) rfl rfl ?_
    refine z_getR (N := 4) (b := 52) 8 2 rfl f_8_25 rfl J rfl 6530 ⟨rfl, rfl⟩ rfl ?_
    refine x_iloadn (x := a1) rfl rfl ?_
    refine x_aloadn (x := 51) rfl rfl ?_
    refine z_getC (N := 4) (v := 4) 8 0 rfl f_8_19 rfl J rfl sg_51_0_1_1_0_1 jk_4 ?_
    refine z_imul rfl rfl jk_4 (by omega) (fun v3 ev3 => ?_)
    refine x_iloadn (x := 2) rfl rfl ?_
    refine z_iadd rfl rfl jk_2 (by omega) (fun v4 ev4 => ?_)
    refine x_iloadn (x := a3) rfl rfl ?_
    refine z_iast (N := 400) (l := 0) (u := 400) (w := a3.toInt) rfl hD J Sm rfl rfl rfl (by omega) rfl (wr_52 (fun q1 q2 q3 q4 => by omega) (fun q1 q2 q3 q4 => by omega) (fun q1 q2 q3 q4 => by omega) (fun q1 q2 q3 q4 => by omega)) rfl (fun h w5 J Sm => ?_)
    rw [vww w5 (show ((a1.toInt * 4) + 2) = v4.toInt from by omega) (show a3.toInt = a3.toInt from by omega)] at D
    exact jX.sub jsb_n (ct_X8_put_r51_c2d_38 hD hQ  h J Sm D)
def fp_X8_put_r51_c3d : jFp := [(52, 0, 400)]
set_option maxRecDepth 100000 in
set_option maxHeartbeats 4000000 in
theorem ct_X8_put_r51_c3d_38 {Dy : jH → Prop} {h0 : jH} {Q : Option Value → jH → Prop} {dr : jW} (hD : jDk Dy) (hQ : ∀ hx9, jJ jSgX Dy hx9 → jSm fp_X8_put_r51_c3d h0 hx9 → dr = vw hx9 → Q none hx9) : ∀ (h : jH), jJ jSgX Dy h → jSm fp_X8_put_r51_c3d h0 h → d_X8_put_r51_c3d_38  (vw h) = dr → jX m_X8_put 1 0 0 38 [] [] h 0 0 Q := by
  intro  h    J Sm D
  unfold d_X8_put_r51_c3d_38 at D
  refine x_vret rfl rfl ?_
  exact hQ _ J Sm D.symm
set_option maxRecDepth 100000 in
set_option maxHeartbeats 4000000 in
theorem sf_X8_put_r51_c3d {Dy : jH → Prop} {h : jH} {Q : Option Value → jH → Prop} {dr : jW} {a1 : Int32} {a3 : Int32} (y1 : 0 ≤ a1.toInt ∧ a1.toInt ≤ 99) (y3 : (-1) ≤ a3.toInt ∧ a3.toInt ≤ 599) (hD : jDk Dy) (J : jJ jSgX Dy h) (D : d_X8_put_r51_c3d a1.toInt a3.toInt (vw h) = dr) (hQ : ∀ hx9, jJ jSgX Dy hx9 → jSm fp_X8_put_r51_c3d h hx9 → dr = vw hx9 → Q none hx9) : jC m_X8_put 1 0 0 [.ref 51, .int a1, .int 3, .int a3] h Q := by
  refine jC.of rfl k_X8_put rfl ?_
  have Sm := jSm_rf fp_X8_put_r51_c3d h
  show jX m_X8_put 1 0 0 0 [(0, .ref 51), (1, .int a1), (2, .int 3), (3, .int a3)] [] _ 0 0 _
  unfold d_X8_put_r51_c3d at D
  refine x_iloadn (x := a1) rfl rfl ?_
  refine x_iflt (tgt := 38) rfl rfl (ti_lt rfl jk_0 (br_f (by omega) ?_))
  refine x_iloadn (x := a1) rfl rfl ?_
  refine x_aloadn (x := 51) rfl rfl ?_
  refine z_getI (N := 4) 8 3 rfl f_8_7 rfl J rfl sg_51_3_4_1_0_1 (fun v1 qv1 ev1 => ?_)
  try rw [vrf qv1] at D
  refine x_icge (tgt := 38) rfl rfl (ti_ge rfl rfl ⟨fun c2 => ?_, fun c2 => ?_⟩)
  ·
    rw [if_pos (by omega)] at D
    exact jX.sub jsb_n (ct_X8_put_r51_c3d_38 hD hQ  h J Sm D)
  ·
    rw [if_neg (by omega)] at D
    refine x_iloadn (x := 3) rfl rfl ?_
    refine x_iflt (tgt := 38) rfl rfl (ti_lt jk_3 jk_0 (br_f (by omega) ?_))
    refine x_iloadn (x := 3) rfl rfl ?_
    refine x_aloadn (x := 51) rfl rfl ?_
    refine z_getC (N := 4) (v := 4) 8 0 rfl f_8_19 rfl J rfl sg_51_0_1_1_0_1 jk_4 ?_
    refine x_icge (tgt := 38) rfl rfl (ti_ge jk_3 jk_4 (br_f (by omega) ?_))
    refine x_aloadn (x := 51) rfl rfl ?_
    refine z_getR (N := 4) (b := 52) 8 2 rfl f_8_25 rfl J rfl 6530 ⟨rfl, rfl⟩ rfl ?_
    refine x_iloadn (x := a1) rfl rfl ?_
    refine x_aloadn (x := 51) rfl rfl ?_
    refine z_getC (N := 4) (v := 4) 8 0 rfl f_8_19 rfl J rfl sg_51_0_1_1_0_1 jk_4 ?_
    refine z_imul rfl rfl jk_4 (by omega) (fun v3 ev3 => ?_)
    refine x_iloadn (x := 3) rfl rfl ?_
    refine z_iadd rfl rfl jk_3 (by omega) (fun v4 ev4 => ?_)
    refine x_iloadn (x := a3) rfl rfl ?_
    refine z_iast (N := 400) (l := 0) (u := 400) (w := a3.toInt) rfl hD J Sm rfl rfl rfl (by omega) rfl (wr_52 (fun q1 q2 q3 q4 => by omega) (fun q1 q2 q3 q4 => by omega) (fun q1 q2 q3 q4 => by omega) (fun q1 q2 q3 q4 => by omega)) rfl (fun h w5 J Sm => ?_)
    rw [vww w5 (show ((a1.toInt * 4) + 3) = v4.toInt from by omega) (show a3.toInt = a3.toInt from by omega)] at D
    exact jX.sub jsb_n (ct_X8_put_r51_c3d_38 hD hQ  h J Sm D)
def fp_X8_put_r51_c4d : jFp := []
set_option maxRecDepth 100000 in
set_option maxHeartbeats 4000000 in
theorem ct_X8_put_r51_c4d_38 {Dy : jH → Prop} {h0 : jH} {Q : Option Value → jH → Prop} {dr : jW} (hD : jDk Dy) (hQ : ∀ hx9, jJ jSgX Dy hx9 → jSm fp_X8_put_r51_c4d h0 hx9 → dr = vw hx9 → Q none hx9) : ∀ (h : jH), jJ jSgX Dy h → jSm fp_X8_put_r51_c4d h0 h → d_X8_put_r51_c4d_38  (vw h) = dr → jX m_X8_put 1 0 0 38 [] [] h 0 0 Q := by
  intro  h    J Sm D
  unfold d_X8_put_r51_c4d_38 at D
  refine x_vret rfl rfl ?_
  exact hQ _ J Sm D.symm
set_option maxRecDepth 100000 in
set_option maxHeartbeats 4000000 in
theorem sf_X8_put_r51_c4d {Dy : jH → Prop} {h : jH} {Q : Option Value → jH → Prop} {dr : jW} {a1 : Int32} {a3 : Int32} (y1 : 0 ≤ a1.toInt ∧ a1.toInt ≤ 99) (y3 : 0 ≤ a3.toInt ∧ a3.toInt ≤ 0) (hD : jDk Dy) (J : jJ jSgX Dy h) (D : d_X8_put_r51_c4d a1.toInt a3.toInt (vw h) = dr) (hQ : ∀ hx9, jJ jSgX Dy hx9 → jSm fp_X8_put_r51_c4d h hx9 → dr = vw hx9 → Q none hx9) : jC m_X8_put 1 0 0 [.ref 51, .int a1, .int 4, .int a3] h Q := by
  refine jC.of rfl k_X8_put rfl ?_
  have Sm := jSm_rf fp_X8_put_r51_c4d h
  show jX m_X8_put 1 0 0 0 [(0, .ref 51), (1, .int a1), (2, .int 4), (3, .int a3)] [] _ 0 0 _
  unfold d_X8_put_r51_c4d at D
  refine x_iloadn (x := a1) rfl rfl ?_
  refine x_iflt (tgt := 38) rfl rfl (ti_lt rfl jk_0 (br_f (by omega) ?_))
  refine x_iloadn (x := a1) rfl rfl ?_
  refine x_aloadn (x := 51) rfl rfl ?_
  refine z_getI (N := 4) 8 3 rfl f_8_7 rfl J rfl sg_51_3_4_1_0_1 (fun v1 qv1 ev1 => ?_)
  try rw [vrf qv1] at D
  refine x_icge (tgt := 38) rfl rfl (ti_ge rfl rfl ⟨fun c2 => ?_, fun c2 => ?_⟩)
  ·
    rw [if_pos (by omega)] at D
    exact jX.sub jsb_n (ct_X8_put_r51_c4d_38 hD hQ  h J Sm D)
  ·
    rw [if_neg (by omega)] at D
    refine x_iloadn (x := 4) rfl rfl ?_
    refine x_iflt (tgt := 38) rfl rfl (ti_lt jk_4 jk_0 (br_f (by omega) ?_))
    refine x_iloadn (x := 4) rfl rfl ?_
    refine x_aloadn (x := 51) rfl rfl ?_
    refine z_getC (N := 4) (v := 4) 8 0 rfl f_8_19 rfl J rfl sg_51_0_1_1_0_1 jk_4 ?_
    refine x_icge (tgt := 38) rfl rfl (ti_ge jk_4 jk_4 (br_t (by omega) ?_))
    exact jX.sub jsb_n (ct_X8_put_r51_c4d_38 hD hQ  h J Sm D)
def fp_X8_put_r51_c5d : jFp := []
set_option maxRecDepth 100000 in
set_option maxHeartbeats 4000000 in
theorem ct_X8_put_r51_c5d_38 {Dy : jH → Prop} {h0 : jH} {Q : Option Value → jH → Prop} {dr : jW} (hD : jDk Dy) (hQ : ∀ hx9, jJ jSgX Dy hx9 → jSm fp_X8_put_r51_c5d h0 hx9 → dr = vw hx9 → Q none hx9) : ∀ (h : jH), jJ jSgX Dy h → jSm fp_X8_put_r51_c5d h0 h → d_X8_put_r51_c5d_38  (vw h) = dr → jX m_X8_put 1 0 0 38 [] [] h 0 0 Q := by
  intro  h    J Sm D
  unfold d_X8_put_r51_c5d_38 at D
  refine x_vret rfl rfl ?_
  exact hQ _ J Sm D.symm
set_option maxRecDepth 100000 in
set_option maxHeartbeats 4000000 in
theorem sf_X8_put_r51_c5d {Dy : jH → Prop} {h : jH} {Q : Option Value → jH → Prop} {dr : jW} {a1 : Int32} {a3 : Int32} (y1 : 0 ≤ a1.toInt ∧ a1.toInt ≤ 99) (y3 : 0 ≤ a3.toInt ∧ a3.toInt ≤ 0) (hD : jDk Dy) (J : jJ jSgX Dy h) (D : d_X8_put_r51_c5d a1.toInt a3.toInt (vw h) = dr) (hQ : ∀ hx9, jJ jSgX Dy hx9 → jSm fp_X8_put_r51_c5d h hx9 → dr = vw hx9 → Q none hx9) : jC m_X8_put 1 0 0 [.ref 51, .int a1, .int 5, .int a3] h Q := by
  refine jC.of rfl k_X8_put rfl ?_
  have Sm := jSm_rf fp_X8_put_r51_c5d h
  show jX m_X8_put 1 0 0 0 [(0, .ref 51), (1, .int a1), (2, .int 5), (3, .int a3)] [] _ 0 0 _
  unfold d_X8_put_r51_c5d at D
  refine x_iloadn (x := a1) rfl rfl ?_
  refine x_iflt (tgt := 38) rfl rfl (ti_lt rfl jk_0 (br_f (by omega) ?_))
  refine x_iloadn (x := a1) rfl rfl ?_
  refine x_aloadn (x := 51) rfl rfl ?_
  refine z_getI (N := 4) 8 3 rfl f_8_7 rfl J rfl sg_51_3_4_1_0_1 (fun v1 qv1 ev1 => ?_)
  try rw [vrf qv1] at D
  refine x_icge (tgt := 38) rfl rfl (ti_ge rfl rfl ⟨fun c2 => ?_, fun c2 => ?_⟩)
  ·
    rw [if_pos (by omega)] at D
    exact jX.sub jsb_n (ct_X8_put_r51_c5d_38 hD hQ  h J Sm D)
  ·
    rw [if_neg (by omega)] at D
    refine x_iloadn (x := 5) rfl rfl ?_
    refine x_iflt (tgt := 38) rfl rfl (ti_lt jk_5 jk_0 (br_f (by omega) ?_))
    refine x_iloadn (x := 5) rfl rfl ?_
    refine x_aloadn (x := 51) rfl rfl ?_
    refine z_getC (N := 4) (v := 4) 8 0 rfl f_8_19 rfl J rfl sg_51_0_1_1_0_1 jk_4 ?_
    refine x_icge (tgt := 38) rfl rfl (ti_ge jk_5 jk_4 (br_t (by omega) ?_))
    exact jX.sub jsb_n (ct_X8_put_r51_c5d_38 hD hQ  h J Sm D)
def fp_X8_add_r51d : jFp := [(51, 3, 4), (52, 0, 400)]
set_option maxRecDepth 100000 in
set_option maxHeartbeats 4000000 in
theorem sf_X8_add_r51d {Dy : jH → Prop} {h : jH} {Q : Option Value → jH → Prop} {dr : jW} {a1 : Int32} {a2 : Int32} {a3 : Int32} {a4 : Int32} {a5 : Int32} {a6 : Int32} (y1 : 0 ≤ a1.toInt ∧ a1.toInt ≤ 146399) (y2 : 0 ≤ a2.toInt ∧ a2.toInt ≤ 146399) (y3 : 0 ≤ a3.toInt ∧ a3.toInt ≤ 39) (y4 : (-1) ≤ a4.toInt ∧ a4.toInt ≤ 599) (y5 : 0 ≤ a5.toInt ∧ a5.toInt ≤ 0) (y6 : 0 ≤ a6.toInt ∧ a6.toInt ≤ 0) (hD : jDk Dy) (J : jJ jSgX Dy h) (D : d_X8_add_r51d a1.toInt a2.toInt a3.toInt a4.toInt a5.toInt a6.toInt (vw h) = dr) (hQ : ∀ hx9, jJ jSgX Dy hx9 → jSm fp_X8_add_r51d h hx9 → dr = vw hx9 → Q none hx9) : jC m_X8_add 2 0 0 [.ref 51, .int a1, .int a2, .int a3, .int a4, .int a5, .int a6] h Q := by
  refine jC.of rfl k_X8_add rfl ?_
  have Sm := jSm_rf fp_X8_add_r51d h
  show jX m_X8_add 2 0 0 0 [(0, .ref 51), (1, .int a1), (2, .int a2), (3, .int a3), (4, .int a4), (5, .int a5), (6, .int a6)] [] _ 0 0 _
  unfold d_X8_add_r51d at D
  refine x_aloadn (x := 51) rfl rfl ?_
  refine z_getI (N := 4) 8 3 rfl f_8_7 rfl J rfl sg_51_3_4_1_0_1 (fun v1 qv1 ev1 => ?_)
  try rw [vrf qv1] at D
  refine x_aloadn (x := 51) rfl rfl ?_
  refine z_getC (N := 4) (v := 100) 8 1 rfl f_8_22 rfl J rfl sg_51_1_2_1_0_1 jk_100 ?_
  refine x_iclt (tgt := 12) rfl rfl (ti_lt rfl jk_100 ⟨fun c2 => ?_, fun c2 => ?_⟩)
  ·
    rw [if_pos (by omega)] at D
    refine x_aloadn (x := 51) rfl rfl ?_
    refine z_getM (N := 4) (v := v1) 8 3 rfl f_8_7 rfl J rfl qv1 ?_
    refine x_istore (lsx9 := [(7, .int v1), (0, .ref 51), (1, .int a1), (2, .int a2), (3, .int a3), (4, .int a4), (5, .int a5), (6, .int a6)]) rfl rfl rfl ?_
    refine x_aloadn (x := 51) rfl rfl ?_
    refine x_iload (x := v1) rfl rfl ?_
    refine x_iconst (v := 1) rfl ki_1 ?_
    refine z_iadd rfl rfl jk_1 (by omega) (fun v3 ev3 => ?_)
    refine z_putI (N := 4) (w := v3.toInt) 8 3 rfl f_8_7 rfl (jfin_no TX8 RX8 4 rfl rfl) hD J Sm rfl rfl rfl (pw_51_3 (by omega)) rfl (fun h w4 J Sm => ?_)
    rw [vwf w4 (show (v1.toInt + 1) = v3.toInt from by omega)] at D
    refine x_aloadn (x := 51) rfl rfl ?_
    refine x_iload (x := v1) rfl rfl ?_
    refine x_iconst (v := 0) rfl ki_0 ?_
    refine x_iloadn (x := a1) rfl rfl ?_
    refine x_inv (N := m_X8_put) (As := [.int v1, .int 0, .int a1]) (b := 51) (st := []) (dx9 := 1) (mc := 0) (ms := 0) (host := "") 8 rfl t_X8_put ⟨Or.inl q_8_29, i_X8_put.1, i_X8_put.2⟩ ⟨by decide, rfl⟩ (congrArg Prod.fst (J.1.1 51 (8, 4) rfl)) rfl (by decide) rfl rfl ⟨by decide, by decide⟩ (sf_X8_put_r51_c0d (jr_of rfl (by omega)) (jr_of rfl (by omega)) hD J rfl  (fun h J S5 X6 => ?_))
    have Sm := jSm_tr rfl Sm S5
    rw [X6] at D
    show jX m_X8_add 2 0 0 34 [(7, .int v1), (0, .ref 51), (1, .int a1), (2, .int a2), (3, .int a3), (4, .int a4), (5, .int a5), (6, .int a6)] [] _ 0 0 _
    refine x_aloadn (x := 51) rfl rfl ?_
    refine x_iload (x := v1) rfl rfl ?_
    refine x_iconst (v := 1) rfl ki_1 ?_
    refine x_iloadn (x := a2) rfl rfl ?_
    refine x_inv (N := m_X8_put) (As := [.int v1, .int 1, .int a2]) (b := 51) (st := []) (dx9 := 1) (mc := 0) (ms := 0) (host := "") 8 rfl t_X8_put ⟨Or.inl q_8_29, i_X8_put.1, i_X8_put.2⟩ ⟨by decide, rfl⟩ (congrArg Prod.fst (J.1.1 51 (8, 4) rfl)) rfl (by decide) rfl rfl ⟨by decide, by decide⟩ (sf_X8_put_r51_c1d (jr_of rfl (by omega)) (jr_of rfl (by omega)) hD J rfl  (fun h J S7 X8 => ?_))
    have Sm := jSm_tr rfl Sm S7
    rw [X8] at D
    show jX m_X8_add 2 0 0 42 [(7, .int v1), (0, .ref 51), (1, .int a1), (2, .int a2), (3, .int a3), (4, .int a4), (5, .int a5), (6, .int a6)] [] _ 0 0 _
    refine x_aloadn (x := 51) rfl rfl ?_
    refine x_iload (x := v1) rfl rfl ?_
    refine x_iconst (v := 2) rfl ki_2 ?_
    refine x_iloadn (x := a3) rfl rfl ?_
    refine x_inv (N := m_X8_put) (As := [.int v1, .int 2, .int a3]) (b := 51) (st := []) (dx9 := 1) (mc := 0) (ms := 0) (host := "") 8 rfl t_X8_put ⟨Or.inl q_8_29, i_X8_put.1, i_X8_put.2⟩ ⟨by decide, rfl⟩ (congrArg Prod.fst (J.1.1 51 (8, 4) rfl)) rfl (by decide) rfl rfl ⟨by decide, by decide⟩ (sf_X8_put_r51_c2d (jr_of rfl (by omega)) (jr_of rfl (by omega)) hD J rfl  (fun h J S9 X10 => ?_))
    have Sm := jSm_tr rfl Sm S9
    rw [X10] at D
    show jX m_X8_add 2 0 0 50 [(7, .int v1), (0, .ref 51), (1, .int a1), (2, .int a2), (3, .int a3), (4, .int a4), (5, .int a5), (6, .int a6)] [] _ 0 0 _
    refine x_aloadn (x := 51) rfl rfl ?_
    refine x_iload (x := v1) rfl rfl ?_
    refine x_iconst (v := 3) rfl ki_3 ?_
    refine x_iload (x := a4) rfl rfl ?_
    refine x_inv (N := m_X8_put) (As := [.int v1, .int 3, .int a4]) (b := 51) (st := []) (dx9 := 1) (mc := 0) (ms := 0) (host := "") 8 rfl t_X8_put ⟨Or.inl q_8_29, i_X8_put.1, i_X8_put.2⟩ ⟨by decide, rfl⟩ (congrArg Prod.fst (J.1.1 51 (8, 4) rfl)) rfl (by decide) rfl rfl ⟨by decide, by decide⟩ (sf_X8_put_r51_c3d (jr_of rfl (by omega)) (jr_of rfl (by omega)) hD J rfl  (fun h J S11 X12 => ?_))
    have Sm := jSm_tr rfl Sm S11
    rw [X12] at D
    show jX m_X8_add 2 0 0 59 [(7, .int v1), (0, .ref 51), (1, .int a1), (2, .int a2), (3, .int a3), (4, .int a4), (5, .int a5), (6, .int a6)] [] _ 0 0 _
    refine x_aloadn (x := 51) rfl rfl ?_
    refine x_iload (x := v1) rfl rfl ?_
    refine x_iconst (v := 4) rfl ki_4 ?_
    refine x_iload (x := a5) rfl rfl ?_
    refine x_inv (N := m_X8_put) (As := [.int v1, .int 4, .int a5]) (b := 51) (st := []) (dx9 := 1) (mc := 0) (ms := 0) (host := "") 8 rfl t_X8_put ⟨Or.inl q_8_29, i_X8_put.1, i_X8_put.2⟩ ⟨by decide, rfl⟩ (congrArg Prod.fst (J.1.1 51 (8, 4) rfl)) rfl (by decide) rfl rfl ⟨by decide, by decide⟩ (sf_X8_put_r51_c4d (jr_of rfl (by omega)) (jr_of rfl (by omega)) hD J rfl  (fun h J S13 X14 => ?_))
    have Sm := jSm_tr rfl Sm S13
    rw [X14] at D
    show jX m_X8_add 2 0 0 68 [(7, .int v1), (0, .ref 51), (1, .int a1), (2, .int a2), (3, .int a3), (4, .int a4), (5, .int a5), (6, .int a6)] [] _ 0 0 _
    refine x_aloadn (x := 51) rfl rfl ?_
    refine x_iload (x := v1) rfl rfl ?_
    refine x_iconst (v := 5) rfl ki_5 ?_
    refine x_iload (x := a6) rfl rfl ?_
    refine x_inv (N := m_X8_put) (As := [.int v1, .int 5, .int a6]) (b := 51) (st := []) (dx9 := 1) (mc := 0) (ms := 0) (host := "") 8 rfl t_X8_put ⟨Or.inl q_8_29, i_X8_put.1, i_X8_put.2⟩ ⟨by decide, rfl⟩ (congrArg Prod.fst (J.1.1 51 (8, 4) rfl)) rfl (by decide) rfl rfl ⟨by decide, by decide⟩ (sf_X8_put_r51_c5d (jr_of rfl (by omega)) (jr_of rfl (by omega)) hD J rfl  (fun h J S15 X16 => ?_))
    have Sm := jSm_tr rfl Sm S15
    rw [X16] at D
    show jX m_X8_add 2 0 0 77 [(7, .int v1), (0, .ref 51), (1, .int a1), (2, .int a2), (3, .int a3), (4, .int a4), (5, .int a5), (6, .int a6)] [] _ 0 0 _
    refine x_vret rfl rfl ?_
    exact hQ _ J Sm D.symm
  ·
    rw [if_neg (by omega)] at D
    refine x_vret rfl rfl ?_
    exact hQ _ J Sm D.symm
def fp_X8_isFull_r51d : jFp := []
set_option maxRecDepth 100000 in
set_option maxHeartbeats 4000000 in
theorem ct_X8_isFull_r51d_200016 {Dy : jH → Prop} {h0 : jH} {Q : Option Value → jH → Prop} {dr : Int} (hD : jDk Dy) (hQ : ∀ (v : Int32) hx9, 0 ≤ v.toInt ∧ v.toInt ≤ 1 → jJ jSgX Dy hx9 → jSm fp_X8_isFull_r51d h0 hx9 → dr = v.toInt → vw hx9 = vw h0 → Q (some (.int v)) hx9) : ∀ (h : jH), jJ jSgX Dy h → jSm fp_X8_isFull_r51d h0 h → d_X8_isFull_r51d_200016  (vw h) = dr → vw h = vw h0 → jX m_X8_isFull 1 0 0 16 [] [.int 0] h 0 0 Q := by
  intro  h    J Sm D EV
  unfold d_X8_isFull_r51d_200016 at D
  refine x_zret rfl rfl (by decide) ?_
  exact hQ _ _ (jr_of jk_0 (by omega)) J Sm (D.symm.trans (show 0 = (0 : Int32).toInt from by have := jk_0; omega)) EV
set_option maxRecDepth 100000 in
set_option maxHeartbeats 4000000 in
theorem ct_X8_isFull_r51d_300016 {Dy : jH → Prop} {h0 : jH} {Q : Option Value → jH → Prop} {dr : Int} (hD : jDk Dy) (hQ : ∀ (v : Int32) hx9, 0 ≤ v.toInt ∧ v.toInt ≤ 1 → jJ jSgX Dy hx9 → jSm fp_X8_isFull_r51d h0 hx9 → dr = v.toInt → vw hx9 = vw h0 → Q (some (.int v)) hx9) : ∀ (h : jH), jJ jSgX Dy h → jSm fp_X8_isFull_r51d h0 h → d_X8_isFull_r51d_300016  (vw h) = dr → vw h = vw h0 → jX m_X8_isFull 1 0 0 16 [] [.int 1] h 0 0 Q := by
  intro  h    J Sm D EV
  unfold d_X8_isFull_r51d_300016 at D
  refine x_zret rfl rfl (by decide) ?_
  exact hQ _ _ (jr_of jk_1 (by omega)) J Sm (D.symm.trans (show 1 = (1 : Int32).toInt from by have := jk_1; omega)) EV
set_option maxRecDepth 100000 in
set_option maxHeartbeats 4000000 in
theorem sf_X8_isFull_r51d {Dy : jH → Prop} {h : jH} {Q : Option Value → jH → Prop} {dr : Int} (hD : jDk Dy) (J : jJ jSgX Dy h) (D : d_X8_isFull_r51d (vw h) = dr) (hQ : ∀ (v : Int32) hx9, 0 ≤ v.toInt ∧ v.toInt ≤ 1 → jJ jSgX Dy hx9 → jSm fp_X8_isFull_r51d h hx9 → dr = v.toInt → vw hx9 = vw h → Q (some (.int v)) hx9) : jC m_X8_isFull 1 0 0 [.ref 51] h Q := by
  refine jC.of rfl k_X8_isFull rfl ?_
  have Sm := jSm_rf fp_X8_isFull_r51d h
  show jX m_X8_isFull 1 0 0 0 [(0, .ref 51)] [] _ 0 0 _
  unfold d_X8_isFull_r51d at D
  have EV : vw h = vw h := rfl
  refine x_aloadn (x := 51) rfl rfl ?_
  refine z_getI (N := 4) 8 3 rfl f_8_7 rfl J rfl sg_51_3_4_1_0_1 (fun v1 qv1 ev1 => ?_)
  try rw [vrf qv1] at D
  refine x_aloadn (x := 51) rfl rfl ?_
  refine z_getC (N := 4) (v := 100) 8 1 rfl f_8_22 rfl J rfl sg_51_1_2_1_0_1 jk_100 ?_
  refine x_iclt (tgt := 15) rfl rfl (ti_lt rfl jk_100 ⟨fun c2 => ?_, fun c2 => ?_⟩)
  ·
    rw [if_pos (by omega)] at D
    refine x_iconst (v := 0) rfl ki_0 ?_
    exact jX.sub jsb_n (ct_X8_isFull_r51d_200016 hD hQ  h J Sm D EV)
  ·
    rw [if_neg (by omega)] at D
    refine x_iconst (v := 1) rfl ki_1 ?_
    refine x_goto (tgt := 16) rfl rfl ?_
    exact jX.sub jsb_n (ct_X8_isFull_r51d_300016 hD hQ  h J Sm D EV)
def fp_X11_hold_r31d : jFp := [(31, 12, 13), (32, 19, 20), (51, 3, 4), (52, 0, 400)]
set_option maxRecDepth 100000 in
set_option maxHeartbeats 4000000 in
theorem ct_X11_hold_r31d_15 {Dy : jH → Prop} {h0 : jH} {Q : Option Value → jH → Prop} {dr : (Int × jW)} (hD : jDk Dy) (hQ : ∀ (v : Int32) hx9, (-366) ≤ v.toInt ∧ v.toInt ≤ 100 → jJ jSgX Dy hx9 → jSm fp_X11_hold_r31d h0 hx9 → dr.1 = v.toInt → dr.2 = vw hx9 → Q (some (.int v)) hx9) : ∀ (h : jH), jJ jSgX Dy h → jSm fp_X11_hold_r31d h0 h → d_X11_hold_r31d_15  (vw h) = dr → jX m_X11_hold 3 0 0 15 [(0, .ref 31)] [] h 0 0 Q := by
  intro  h    J Sm D
  unfold d_X11_hold_r31d_15 at D
  refine x_aloadn (x := 31) rfl rfl ?_
  refine x_iconst (v := (-1)) rfl ki_m1 ?_
  refine x_inv (N := m_X11_refuse) (As := [.int (-1)]) (b := 31) (st := []) (dx9 := 2) (mc := 0) (ms := 0) (host := "") 11 rfl t_X11_refuse ⟨Or.inl q_11_206, i_X11_refuse.1, i_X11_refuse.2⟩ ⟨by decide, rfl⟩ (congrArg Prod.fst (J.1.1 31 (11, 13) rfl)) rfl (by decide) rfl rfl ⟨by decide, by decide⟩ (jC.of rfl k_X11_refuse rfl ?_)
  show jX m_X11_refuse 2 0 0 0 [(0, .ref 31), (1, .int (-1))] [] _ 0 0 _
  refine x_aloadn (x := 31) rfl rfl ?_
  refine x_iloadn (x := (-1)) rfl rfl ?_
  refine z_putI (N := 13) (w := (-1)) 11 12 rfl f_11_94 rfl (jfin_no TX11 RX11 13 rfl rfl) hD J Sm rfl rfl jk_m1 (pw_31_12 (by omega)) rfl (fun h w1 J Sm => ?_)
  rw [vwf w1 (show (-1) = ((-1) : Int32).toInt from by have := jk_m1; omega)] at D
  refine x_iloadn (x := (-1)) rfl rfl ?_
  refine x_iret rfl rfl ?_
  show jX m_X11_hold 3 0 0 20 [(0, .ref 31)] [.int (-1)] _ 0 0 _
  refine x_iret rfl rfl ?_
  exact hQ _ _ (jr_of jk_m1 (by omega)) J Sm ((congrArg Prod.fst D).symm.trans (show (-1) = ((-1) : Int32).toInt from by have := jk_m1; omega)) (congrArg Prod.snd D).symm
set_option maxRecDepth 100000 in
set_option maxHeartbeats 4000000 in
theorem ct_X11_hold_r31d_45 {Dy : jH → Prop} {h0 : jH} {Q : Option Value → jH → Prop} {dr : (Int × jW)} (hD : jDk Dy) (hQ : ∀ (v : Int32) hx9, (-366) ≤ v.toInt ∧ v.toInt ≤ 100 → jJ jSgX Dy hx9 → jSm fp_X11_hold_r31d h0 hx9 → dr.1 = v.toInt → dr.2 = vw hx9 → Q (some (.int v)) hx9) : ∀ (h : jH), jJ jSgX Dy h → jSm fp_X11_hold_r31d h0 h → d_X11_hold_r31d_45  (vw h) = dr → jX m_X11_hold 3 0 0 45 [(0, .ref 31)] [] h 0 0 Q := by
  intro  h    J Sm D
  unfold d_X11_hold_r31d_45 at D
  refine x_aloadn (x := 31) rfl rfl ?_
  refine x_bipush (v := (-2)) rfl kb_m2 ?_
  refine x_inv (N := m_X11_refuse) (As := [.int (-2)]) (b := 31) (st := []) (dx9 := 2) (mc := 0) (ms := 0) (host := "") 11 rfl t_X11_refuse ⟨Or.inl q_11_206, i_X11_refuse.1, i_X11_refuse.2⟩ ⟨by decide, rfl⟩ (congrArg Prod.fst (J.1.1 31 (11, 13) rfl)) rfl (by decide) rfl rfl ⟨by decide, by decide⟩ (jC.of rfl k_X11_refuse rfl ?_)
  show jX m_X11_refuse 2 0 0 0 [(0, .ref 31), (1, .int (-2))] [] _ 0 0 _
  refine x_aloadn (x := 31) rfl rfl ?_
  refine x_iloadn (x := (-2)) rfl rfl ?_
  refine z_putI (N := 13) (w := (-2)) 11 12 rfl f_11_94 rfl (jfin_no TX11 RX11 13 rfl rfl) hD J Sm rfl rfl jk_m2 (pw_31_12 (by omega)) rfl (fun h w1 J Sm => ?_)
  rw [vwf w1 (show (-2) = ((-2) : Int32).toInt from by have := jk_m2; omega)] at D
  refine x_iloadn (x := (-2)) rfl rfl ?_
  refine x_iret rfl rfl ?_
  show jX m_X11_hold 3 0 0 51 [(0, .ref 31)] [.int (-2)] _ 0 0 _
  refine x_iret rfl rfl ?_
  exact hQ _ _ (jr_of jk_m2 (by omega)) J Sm ((congrArg Prod.fst D).symm.trans (show (-2) = ((-2) : Int32).toInt from by have := jk_m2; omega)) (congrArg Prod.snd D).symm
set_option maxRecDepth 100000 in
set_option maxHeartbeats 4000000 in
theorem ct_X11_hold_r31d_52 {Dy : jH → Prop} {h0 : jH} {Q : Option Value → jH → Prop} {dr : (Int × jW)} (hD : jDk Dy) (hQ : ∀ (v : Int32) hx9, (-366) ≤ v.toInt ∧ v.toInt ≤ 100 → jJ jSgX Dy hx9 → jSm fp_X11_hold_r31d h0 hx9 → dr.1 = v.toInt → dr.2 = vw hx9 → Q (some (.int v)) hx9) : ∀ (l1 : Int32) (l2 : Int32) (l3 : Int32) (l4 : Int32) (h : jH), 0 ≤ l1.toInt ∧ l1.toInt ≤ 39 → (-1) ≤ l2.toInt ∧ l2.toInt ≤ 599 → 0 ≤ l3.toInt ∧ l3.toInt ≤ 146399 → 0 ≤ l4.toInt ∧ l4.toInt ≤ 146399 → jJ jSgX Dy h → jSm fp_X11_hold_r31d h0 h → d_X11_hold_r31d_52  l1.toInt l2.toInt l3.toInt l4.toInt (vw h) = dr → jX m_X11_hold 3 0 0 52 [(0, .ref 31), (1, .int l1), (2, .int l2), (3, .int l3), (4, .int l4)] [] h 0 0 Q := by
  intro l1 l2 l3 l4 h y0 y1 y2 y3   J Sm D
  unfold d_X11_hold_r31d_52 at D
  refine x_aloadn (x := 31) rfl rfl ?_
  refine z_getR (N := 13) (b := 32) 11 0 rfl f_11_10 rfl J rfl 3968 ⟨rfl, rfl⟩ rfl ?_
  refine z_getR (N := 20) (b := 51) 1 9 rfl f_11_421 rfl J rfl 4105 ⟨rfl, rfl⟩ rfl ?_
  refine x_inv (N := m_X8_isFull) (As := []) (b := 51) (st := []) (dx9 := 1) (mc := 0) (ms := 0) (host := "") 8 rfl t_X8_isFull ⟨Or.inl q_11_130, i_X8_isFull.1, i_X8_isFull.2⟩ ⟨by decide, rfl⟩ (congrArg Prod.fst (J.1.1 51 (8, 4) rfl)) rfl (by decide) rfl rfl ⟨by decide, by decide⟩ (sf_X8_isFull_r51d  hD J rfl  (fun v4 h ev4 J S1 X2 X3 => ?_))
  have Sm := jSm_tr rfl Sm S1
  try rw [X2] at D
  try rw [← X3] at D
  show jX m_X11_hold 3 0 0 62 [(0, .ref 31), (1, .int l1), (2, .int l2), (3, .int l3), (4, .int l4)] [.int v4] _ 0 0 _
  refine x_ifeq (tgt := 72) rfl rfl (ti_eq rfl jk_0 ⟨fun c5 => ?_, fun c5 => ?_⟩)
  ·
    rw [if_pos (by omega)] at D
    refine x_aloadn (x := 31) rfl rfl ?_
    refine z_getR (N := 13) (b := 32) 11 0 rfl f_11_10 rfl J rfl 3968 ⟨rfl, rfl⟩ rfl ?_
    refine z_getR (N := 20) (b := 51) 1 9 rfl f_11_421 rfl J rfl 4105 ⟨rfl, rfl⟩ rfl ?_
    refine x_iload (x := l4) rfl rfl ?_
    refine x_iloadn (x := l3) rfl rfl ?_
    refine x_iloadn (x := l1) rfl rfl ?_
    refine x_iloadn (x := l2) rfl rfl ?_
    refine x_iconst (v := 0) rfl ki_0 ?_
    refine x_iconst (v := 0) rfl ki_0 ?_
    refine x_inv (N := m_X8_add) (As := [.int l4, .int l3, .int l1, .int l2, .int 0, .int 0]) (b := 51) (st := []) (dx9 := 2) (mc := 0) (ms := 0) (host := "") 8 rfl t_X8_add ⟨Or.inl q_11_145, i_X8_add.1, i_X8_add.2⟩ ⟨by decide, rfl⟩ (congrArg Prod.fst (J.1.1 51 (8, 4) rfl)) rfl (by decide) rfl rfl ⟨by decide, by decide⟩ (sf_X8_add_r51d (jr_of rfl (by omega)) (jr_of rfl (by omega)) (jr_of rfl (by omega)) (jr_of rfl (by omega)) (jr_of jk_0 (by omega)) (jr_of jk_0 (by omega)) hD J rfl  (fun h J S6 X7 => ?_))
    have Sm := jSm_tr rfl Sm S6
    try rw [jk_0] at X7
    rw [X7] at D
    show jX m_X11_hold 3 0 0 89 [(0, .ref 31), (1, .int l1), (2, .int l2), (3, .int l3), (4, .int l4)] [] _ 0 0 _
    refine x_aloadn (x := 31) rfl rfl ?_
    refine x_aloadn (x := 31) rfl rfl ?_
    refine z_getR (N := 13) (b := 32) 11 0 rfl f_11_10 rfl J rfl 3968 ⟨rfl, rfl⟩ rfl ?_
    refine z_getR (N := 20) (b := 51) 1 9 rfl f_11_421 rfl J rfl 4105 ⟨rfl, rfl⟩ rfl ?_
    refine z_getI (N := 4) 8 3 rfl f_11_142 rfl J rfl sg_51_3_4_1_0_1 (fun v8 qv8 ev8 => ?_)
    try rw [vrf qv8] at D
    refine x_inv (N := m_X11_accept) (As := [.int v8]) (b := 31) (st := []) (dx9 := 2) (mc := 0) (ms := 0) (host := "") 11 rfl t_X11_accept ⟨Or.inl q_11_165, i_X11_accept.1, i_X11_accept.2⟩ ⟨by decide, rfl⟩ (congrArg Prod.fst (J.1.1 31 (11, 13) rfl)) rfl (by decide) rfl rfl ⟨by decide, by decide⟩ (jC.of rfl k_X11_accept rfl ?_)
    show jX m_X11_accept 2 0 0 0 [(0, .ref 31), (1, .int v8)] [] _ 0 0 _
    refine x_aloadn (x := 31) rfl rfl ?_
    refine x_iconst (v := 0) rfl ki_0 ?_
    refine z_putI (N := 13) (w := 0) 11 12 rfl f_11_94 rfl (jfin_no TX11 RX11 13 rfl rfl) hD J Sm rfl rfl jk_0 (pw_31_12 (by omega)) rfl (fun h w9 J Sm => ?_)
    rw [vwf w9 (show 0 = (0 : Int32).toInt from by have := jk_0; omega)] at D
    refine x_aloadn (x := 31) rfl rfl ?_
    refine z_getR (N := 13) (b := 32) 11 0 rfl f_11_10 rfl J rfl 3968 ⟨rfl, rfl⟩ rfl ?_
    refine x_dup rfl rfl ?_
    refine z_getI0 (N := 20) 1 19 rfl f_11_528 rfl J rfl (fun v10 qv10 => ?_)
    have ev10 := jfull v10
    try rw [vrf (jmb_c S6 (jmb_w w9 qv10 rfl) rfl)] at D
    refine x_iconst (v := 1) rfl ki_1 ?_
    refine z_iaddW rfl rfl jk_1 (fun v11 ev11 => ?_)
    have fv11 := jfull v11
    try rw [← ev11] at D
    refine z_putI (N := 20) (w := v11.toInt) 1 19 rfl f_11_528 rfl (jfin_no TX1 RX1 20 rfl rfl) hD J Sm rfl rfl rfl (pw_32_19 trivial) rfl (fun h w12 J Sm => ?_)
    rw [vwf w12 (show v11.toInt = v11.toInt from by omega)] at D
    refine x_iloadn (x := v8) rfl rfl ?_
    refine x_iret rfl rfl ?_
    show jX m_X11_hold 3 0 0 103 [(0, .ref 31), (1, .int l1), (2, .int l2), (3, .int l3), (4, .int l4)] [.int v8] _ 0 0 _
    refine x_iret rfl rfl ?_
    exact hQ _ _ (jr_of rfl (by omega)) J Sm ((congrArg Prod.fst D).symm.trans (show v8.toInt = v8.toInt from by omega)) (congrArg Prod.snd D).symm
  ·
    rw [if_neg (by omega)] at D
    refine x_aloadn (x := 31) rfl rfl ?_
    refine x_bipush (v := (-5)) rfl kb_m5 ?_
    refine x_inv (N := m_X11_refuse) (As := [.int (-5)]) (b := 31) (st := []) (dx9 := 2) (mc := 0) (ms := 0) (host := "") 11 rfl t_X11_refuse ⟨Or.inl q_11_206, i_X11_refuse.1, i_X11_refuse.2⟩ ⟨by decide, rfl⟩ (congrArg Prod.fst (J.1.1 31 (11, 13) rfl)) rfl (by decide) rfl rfl ⟨by decide, by decide⟩ (jC.of rfl k_X11_refuse rfl ?_)
    show jX m_X11_refuse 2 0 0 0 [(0, .ref 31), (1, .int (-5))] [] _ 0 0 _
    refine x_aloadn (x := 31) rfl rfl ?_
    refine x_iloadn (x := (-5)) rfl rfl ?_
    refine z_putI (N := 13) (w := (-5)) 11 12 rfl f_11_94 rfl (jfin_no TX11 RX11 13 rfl rfl) hD J Sm rfl rfl jk_m5 (pw_31_12 (by omega)) rfl (fun h w13 J Sm => ?_)
    rw [vwf w13 (show (-5) = ((-5) : Int32).toInt from by have := jk_m5; omega)] at D
    refine x_iloadn (x := (-5)) rfl rfl ?_
    refine x_iret rfl rfl ?_
    show jX m_X11_hold 3 0 0 71 [(0, .ref 31), (1, .int l1), (2, .int l2), (3, .int l3), (4, .int l4)] [.int (-5)] _ 0 0 _
    refine x_iret rfl rfl ?_
    exact hQ _ _ (jr_of jk_m5 (by omega)) J Sm ((congrArg Prod.fst D).symm.trans (show (-5) = ((-5) : Int32).toInt from by have := jk_m5; omega)) (congrArg Prod.snd D).symm
set_option maxRecDepth 100000 in
set_option maxHeartbeats 4000000 in
theorem sf_X11_hold_r31d {Dy : jH → Prop} {h : jH} {Q : Option Value → jH → Prop} {dr : (Int × jW)} {a1 : Int32} {a2 : Int32} {a3 : Int32} {a4 : Int32} (hD : jDk Dy) (J : jJ jSgX Dy h) (D : d_X11_hold_r31d a1.toInt a2.toInt a3.toInt a4.toInt (vw h) = dr) (hQ : ∀ (v : Int32) hx9, (-366) ≤ v.toInt ∧ v.toInt ≤ 100 → jJ jSgX Dy hx9 → jSm fp_X11_hold_r31d h hx9 → dr.1 = v.toInt → dr.2 = vw hx9 → Q (some (.int v)) hx9) : jC m_X11_hold 3 0 0 [.ref 31, .int a1, .int a2, .int a3, .int a4] h Q := by
  refine jC.of rfl k_X11_hold rfl ?_
  have Sm := jSm_rf fp_X11_hold_r31d h
  have ea1 := jfull a1
  have ea2 := jfull a2
  have ea3 := jfull a3
  have ea4 := jfull a4
  show jX m_X11_hold 3 0 0 0 [(0, .ref 31), (1, .int a1), (2, .int a2), (3, .int a3), (4, .int a4)] [] _ 0 0 _
  unfold d_X11_hold_r31d at D
  refine x_iloadn (x := a3) rfl rfl ?_
  refine x_inst (N := m_X11_isDay) (As := [.int a3]) (st := []) (dx9 := 1) (mc := 0) (ms := 0) (host := "") rfl t_X11_isDay ⟨Or.inl q_11_115, s_X11_isDay⟩ rfl (by decide) rfl rfl ⟨by decide, by decide⟩ (zc_X11_isDay rfl (fun v1 ev1 => ?_))
  show jX m_X11_hold 3 0 0 4 [(0, .ref 31), (1, .int a1), (2, .int a2), (3, .int a3), (4, .int a4)] [.int v1] _ 0 0 _
  refine x_ifeq (tgt := 15) rfl rfl (ti_eq rfl jk_0 ⟨fun c2 => ?_, fun c2 => ?_⟩)
  ·
    rw [if_neg (by omega)] at D
    exact jX.sub (jsb_c rfl jsb_n) (ct_X11_hold_r31d_15 hD hQ  h J Sm D)
  ·
    rw [if_pos (by omega)] at D
    refine x_iload (x := a4) rfl rfl ?_
    refine x_inst (N := m_X11_isDay) (As := [.int a4]) (st := []) (dx9 := 1) (mc := 0) (ms := 0) (host := "") rfl t_X11_isDay ⟨Or.inl q_11_115, s_X11_isDay⟩ rfl (by decide) rfl rfl ⟨by decide, by decide⟩ (zc_X11_isDay rfl (fun v3 ev3 => ?_))
    show jX m_X11_hold 3 0 0 12 [(0, .ref 31), (1, .int a1), (2, .int a2), (3, .int a3), (4, .int a4)] [.int v3] _ 0 0 _
    refine x_ifne (tgt := 21) rfl rfl (ti_ne rfl jk_0 ⟨fun c4 => ?_, fun c4 => ?_⟩)
    ·
      rw [if_pos (by omega)] at D
      refine x_aloadn (x := 31) rfl rfl ?_
      refine x_iloadn (x := a1) rfl rfl ?_
      refine x_inv (N := m_X11_isHolding) (As := [.int a1]) (b := 31) (st := []) (dx9 := 2) (mc := 0) (ms := 0) (host := "") 11 rfl t_X11_isHolding ⟨Or.inl q_11_415, i_X11_isHolding.1, i_X11_isHolding.2⟩ ⟨by decide, rfl⟩ (congrArg Prod.fst (J.1.1 31 (11, 13) rfl)) rfl (by decide) rfl rfl ⟨by decide, by decide⟩ (jC.of rfl k_X11_isHolding rfl ?_)
      show jX m_X11_isHolding 2 0 0 0 [(0, .ref 31), (1, .int a1)] [] _ 0 0 _
      refine x_iloadn (x := a1) rfl rfl ?_
      refine x_iflt (tgt := 28) rfl rfl (ti_lt rfl jk_0 ⟨fun c5 => ?_, fun c5 => ?_⟩)
      ·
        rw [if_pos (by omega)] at D
        refine x_iconst (v := 0) rfl ki_0 ?_
        refine x_zret rfl rfl (by decide) ?_
        show jX m_X11_hold 3 0 0 26 [(0, .ref 31), (1, .int a1), (2, .int a2), (3, .int a3), (4, .int a4)] [.int 0] _ 0 0 _
        refine x_ifeq (tgt := 45) rfl rfl (ti_eq jk_0 jk_0 (br_t (by omega) ?_))
        exact jX.sub (jsb_c rfl jsb_n) (ct_X11_hold_r31d_45 hD hQ  h J Sm D)
      ·
        rw [if_neg (by omega)] at D
        refine x_iloadn (x := a1) rfl rfl ?_
        refine x_aloadn (x := 31) rfl rfl ?_
        refine z_getR (N := 13) (b := 32) 11 0 rfl f_11_10 rfl J rfl 3968 ⟨rfl, rfl⟩ rfl ?_
        refine z_getR (N := 20) (b := 49) 1 8 rfl f_11_408 rfl J rfl 4104 ⟨rfl, rfl⟩ rfl ?_
        refine z_getI (N := 4) 8 3 rfl f_11_142 rfl J rfl sg_49_3_4_1_0_1 (fun v6 qv6 ev6 => ?_)
        try rw [vrf qv6] at D
        refine x_icge (tgt := 28) rfl rfl (ti_ge rfl rfl ⟨fun c7 => ?_, fun c7 => ?_⟩)
        ·
          rw [if_pos (by omega)] at D
          refine x_iconst (v := 0) rfl ki_0 ?_
          refine x_zret rfl rfl (by decide) ?_
          show jX m_X11_hold 3 0 0 26 [(0, .ref 31), (1, .int a1), (2, .int a2), (3, .int a3), (4, .int a4)] [.int 0] _ 0 0 _
          refine x_ifeq (tgt := 45) rfl rfl (ti_eq jk_0 jk_0 (br_t (by omega) ?_))
          exact jX.sub (jsb_c rfl jsb_n) (ct_X11_hold_r31d_45 hD hQ  h J Sm D)
        ·
          rw [if_neg (by omega)] at D
          refine x_iloadn (x := a1) rfl rfl ?_
          refine x_bipush (v := 40) rfl kb_40 ?_
          refine x_icge (tgt := 28) rfl rfl (ti_ge rfl jk_40 (br_f (by omega) ?_))
          refine x_iconst (v := 1) rfl ki_1 ?_
          refine x_goto (tgt := 29) rfl rfl ?_
          refine x_zret rfl rfl (by decide) ?_
          show jX m_X11_hold 3 0 0 26 [(0, .ref 31), (1, .int a1), (2, .int a2), (3, .int a3), (4, .int a4)] [.int 1] _ 0 0 _
          refine x_ifeq (tgt := 45) rfl rfl (ti_eq jk_1 jk_0 (br_f (by omega) ?_))
          refine x_iloadn (x := a2) rfl rfl ?_
          refine x_iconst (v := (-1)) rfl ki_m1 ?_
          refine x_iceq (tgt := 52) rfl rfl (ti_eq rfl jk_m1 ⟨fun c8 => ?_, fun c8 => ?_⟩)
          ·
            rw [if_pos (by omega)] at D
            exact jX.sub (jsb_c rfl (jsb_c rfl (jsb_c rfl (jsb_c rfl (jsb_c rfl jsb_n))))) (ct_X11_hold_r31d_52 hD hQ  a1 a2 a3 a4 h (jr_of rfl (by omega)) (jr_of rfl (by omega)) (jr_of rfl (by omega)) (jr_of rfl (by omega)) J Sm D)
          ·
            rw [if_neg (by omega)] at D
            refine x_aloadn (x := 31) rfl rfl ?_
            refine z_getR (N := 13) (b := 78) 11 4 rfl f_11_41 rfl J rfl 3972 ⟨rfl, rfl⟩ rfl ?_
            refine x_iloadn (x := a2) rfl rfl ?_
            refine x_inv (N := m_X7_isMention) (As := [.int a2]) (b := 78) (st := []) (dx9 := 2) (mc := 0) (ms := 0) (host := "") 7 rfl t_X7_isMention ⟨Or.inl q_11_187, i_X7_isMention.1, i_X7_isMention.2⟩ ⟨by decide, rfl⟩ (congrArg Prod.fst (J.1.1 78 (7, 16) rfl)) rfl (by decide) rfl rfl ⟨by decide, by decide⟩ (jC.of rfl k_X7_isMention rfl ?_)
            show jX m_X7_isMention 2 0 0 0 [(0, .ref 78), (1, .int a2)] [] _ 0 0 _
            refine x_iloadn (x := a2) rfl rfl ?_
            refine x_iflt (tgt := 41) rfl rfl (ti_lt rfl jk_0 ⟨fun c9 => ?_, fun c9 => ?_⟩)
            ·
              rw [if_pos (by omega)] at D
              refine x_iconst (v := 0) rfl ki_0 ?_
              refine x_zret rfl rfl (by decide) ?_
              show jX m_X11_hold 3 0 0 42 [(0, .ref 31), (1, .int a1), (2, .int a2), (3, .int a3), (4, .int a4)] [.int 0] _ 0 0 _
              refine x_ifne (tgt := 52) rfl rfl (ti_ne jk_0 jk_0 (bn_f (by omega) ?_))
              exact jX.sub (jsb_c rfl jsb_n) (ct_X11_hold_r31d_45 hD hQ  h J Sm D)
            ·
              rw [if_neg (by omega)] at D
              refine x_iloadn (x := a2) rfl rfl ?_
              refine x_sipush (v := 600) rfl ks_600 ?_
              refine x_icge (tgt := 41) rfl rfl (ti_ge rfl jk_600 ⟨fun c10 => ?_, fun c10 => ?_⟩)
              ·
                rw [if_pos (by omega)] at D
                refine x_iconst (v := 0) rfl ki_0 ?_
                refine x_zret rfl rfl (by decide) ?_
                show jX m_X11_hold 3 0 0 42 [(0, .ref 31), (1, .int a1), (2, .int a2), (3, .int a3), (4, .int a4)] [.int 0] _ 0 0 _
                refine x_ifne (tgt := 52) rfl rfl (ti_ne jk_0 jk_0 (bn_f (by omega) ?_))
                exact jX.sub (jsb_c rfl jsb_n) (ct_X11_hold_r31d_45 hD hQ  h J Sm D)
              ·
                rw [if_neg (by omega)] at D
                refine x_iloadn (x := a2) rfl rfl ?_
                refine x_iconst (v := 3) rfl ki_3 ?_
                refine z_idiv rfl rfl jk_3 (by omega) (by omega) (fun v11 ev11 => ?_)
                refine x_aloadn (x := 78) rfl rfl ?_
                refine z_getR (N := 16) (b := 32) 7 0 rfl f_7_55 rfl J rfl 9984 ⟨rfl, rfl⟩ rfl ?_
                refine z_getR (N := 20) (b := 33) 1 0 rfl f_7_63 rfl J rfl 4096 ⟨rfl, rfl⟩ rfl ?_
                refine z_getI (N := 4) 8 3 rfl f_7_85 rfl J rfl sg_33_3_4_1_0_1 (fun v12 qv12 ev12 => ?_)
                try rw [vrf qv12] at D
                refine x_icge (tgt := 41) rfl rfl (ti_ge rfl rfl ⟨fun c13 => ?_, fun c13 => ?_⟩)
                ·
                  rw [if_pos (by omega)] at D
                  refine x_iconst (v := 0) rfl ki_0 ?_
                  refine x_zret rfl rfl (by decide) ?_
                  show jX m_X11_hold 3 0 0 42 [(0, .ref 31), (1, .int a1), (2, .int a2), (3, .int a3), (4, .int a4)] [.int 0] _ 0 0 _
                  refine x_ifne (tgt := 52) rfl rfl (ti_ne jk_0 jk_0 (bn_f (by omega) ?_))
                  exact jX.sub (jsb_c rfl jsb_n) (ct_X11_hold_r31d_45 hD hQ  h J Sm D)
                ·
                  rw [if_neg (by omega)] at D
                  refine x_aloadn (x := 78) rfl rfl ?_
                  refine z_getR (N := 16) (b := 79) 7 7 rfl f_7_27 rfl J rfl 9991 ⟨rfl, rfl⟩ rfl ?_
                  refine x_iloadn (x := a2) rfl rfl ?_
                  refine z_iald (N := 600) rfl J rfl sg_79_0_600_1_0_1 rfl (by omega) (fun v14 qv14 ev14 => ?_)
                  try rw [vrd qv14 (show a2.toInt = a2.toInt from by omega)] at D
                  refine x_iconst (v := (-1)) rfl ki_m1 ?_
                  refine x_iceq (tgt := 41) rfl rfl (ti_eq rfl jk_m1 ⟨fun c15 => ?_, fun c15 => ?_⟩)
                  ·
                    rw [if_pos (by omega)] at D
                    refine x_iconst (v := 0) rfl ki_0 ?_
                    refine x_zret rfl rfl (by decide) ?_
                    show jX m_X11_hold 3 0 0 42 [(0, .ref 31), (1, .int a1), (2, .int a2), (3, .int a3), (4, .int a4)] [.int 0] _ 0 0 _
                    refine x_ifne (tgt := 52) rfl rfl (ti_ne jk_0 jk_0 (bn_f (by omega) ?_))
                    exact jX.sub (jsb_c rfl jsb_n) (ct_X11_hold_r31d_45 hD hQ  h J Sm D)
                  ·
                    rw [if_neg (by omega)] at D
                    refine x_iconst (v := 1) rfl ki_1 ?_
                    refine x_goto (tgt := 42) rfl rfl ?_
                    refine x_zret rfl rfl (by decide) ?_
                    show jX m_X11_hold 3 0 0 42 [(0, .ref 31), (1, .int a1), (2, .int a2), (3, .int a3), (4, .int a4)] [.int 1] _ 0 0 _
                    refine x_ifne (tgt := 52) rfl rfl (ti_ne jk_1 jk_0 (bn_t (by omega) ?_))
                    exact jX.sub (jsb_c rfl (jsb_c rfl (jsb_c rfl (jsb_c rfl (jsb_c rfl jsb_n))))) (ct_X11_hold_r31d_52 hD hQ  a1 a2 a3 a4 h (jr_of rfl (by omega)) (jr_of rfl (by omega)) (jr_of rfl (by omega)) (jr_of rfl (by omega)) J Sm D)
    ·
      rw [if_neg (by omega)] at D
      exact jX.sub (jsb_c rfl jsb_n) (ct_X11_hold_r31d_15 hD hQ  h J Sm D)
def fp_X8_put_r49_c0d : jFp := [(50, 0, 200)]
set_option maxRecDepth 100000 in
set_option maxHeartbeats 4000000 in
theorem ct_X8_put_r49_c0d_38 {Dy : jH → Prop} {h0 : jH} {Q : Option Value → jH → Prop} {dr : jW} (hD : jDk Dy) (hQ : ∀ hx9, jJ jSgX Dy hx9 → jSm fp_X8_put_r49_c0d h0 hx9 → dr = vw hx9 → Q none hx9) : ∀ (h : jH), jJ jSgX Dy h → jSm fp_X8_put_r49_c0d h0 h → d_X8_put_r49_c0d_38  (vw h) = dr → jX m_X8_put 1 0 0 38 [] [] h 0 0 Q := by
  intro  h    J Sm D
  unfold d_X8_put_r49_c0d_38 at D
  refine x_vret rfl rfl ?_
  exact hQ _ J Sm D.symm
set_option maxRecDepth 100000 in
set_option maxHeartbeats 4000000 in
theorem sf_X8_put_r49_c0d {Dy : jH → Prop} {h : jH} {Q : Option Value → jH → Prop} {dr : jW} {a1 : Int32} {a3 : Int32} (y1 : 0 ≤ a1.toInt ∧ a1.toInt ≤ 39) (y3 : 0 ≤ a3.toInt ∧ a3.toInt ≤ 146399) (hD : jDk Dy) (J : jJ jSgX Dy h) (D : d_X8_put_r49_c0d a1.toInt a3.toInt (vw h) = dr) (hQ : ∀ hx9, jJ jSgX Dy hx9 → jSm fp_X8_put_r49_c0d h hx9 → dr = vw hx9 → Q none hx9) : jC m_X8_put 1 0 0 [.ref 49, .int a1, .int 0, .int a3] h Q := by
  refine jC.of rfl k_X8_put rfl ?_
  have Sm := jSm_rf fp_X8_put_r49_c0d h
  show jX m_X8_put 1 0 0 0 [(0, .ref 49), (1, .int a1), (2, .int 0), (3, .int a3)] [] _ 0 0 _
  unfold d_X8_put_r49_c0d at D
  refine x_iloadn (x := a1) rfl rfl ?_
  refine x_iflt (tgt := 38) rfl rfl (ti_lt rfl jk_0 (br_f (by omega) ?_))
  refine x_iloadn (x := a1) rfl rfl ?_
  refine x_aloadn (x := 49) rfl rfl ?_
  refine z_getI (N := 4) 8 3 rfl f_8_7 rfl J rfl sg_49_3_4_1_0_1 (fun v1 qv1 ev1 => ?_)
  try rw [vrf qv1] at D
  refine x_icge (tgt := 38) rfl rfl (ti_ge rfl rfl ⟨fun c2 => ?_, fun c2 => ?_⟩)
  ·
    rw [if_pos (by omega)] at D
    exact jX.sub jsb_n (ct_X8_put_r49_c0d_38 hD hQ  h J Sm D)
  ·
    rw [if_neg (by omega)] at D
    refine x_iloadn (x := 0) rfl rfl ?_
    refine x_iflt (tgt := 38) rfl rfl (ti_lt jk_0 jk_0 (br_f (by omega) ?_))
    refine x_iloadn (x := 0) rfl rfl ?_
    refine x_aloadn (x := 49) rfl rfl ?_
    refine z_getC (N := 4) (v := 5) 8 0 rfl f_8_19 rfl J rfl sg_49_0_1_1_0_1 jk_5 ?_
    refine x_icge (tgt := 38) rfl rfl (ti_ge jk_0 jk_5 (br_f (by omega) ?_))
    refine x_aloadn (x := 49) rfl rfl ?_
    refine z_getR (N := 4) (b := 50) 8 2 rfl f_8_25 rfl J rfl 6274 ⟨rfl, rfl⟩ rfl ?_
    refine x_iloadn (x := a1) rfl rfl ?_
    refine x_aloadn (x := 49) rfl rfl ?_
    refine z_getC (N := 4) (v := 5) 8 0 rfl f_8_19 rfl J rfl sg_49_0_1_1_0_1 jk_5 ?_
    refine z_imul rfl rfl jk_5 (by omega) (fun v3 ev3 => ?_)
    refine x_iloadn (x := 0) rfl rfl ?_
    refine z_iadd rfl rfl jk_0 (by omega) (fun v4 ev4 => ?_)
    refine x_iloadn (x := a3) rfl rfl ?_
    refine z_iast (N := 200) (l := 0) (u := 200) (w := a3.toInt) rfl hD J Sm rfl rfl rfl (by omega) rfl (wr_50 (fun q1 q2 q3 q4 => by omega) (fun q1 q2 q3 q4 => by omega) (fun q1 q2 q3 q4 => by omega) (fun q1 q2 q3 q4 => by omega) (fun q1 q2 q3 q4 => by omega)) rfl (fun h w5 J Sm => ?_)
    rw [vww w5 (show ((a1.toInt * 5) + 0) = v4.toInt from by omega) (show a3.toInt = a3.toInt from by omega)] at D
    exact jX.sub jsb_n (ct_X8_put_r49_c0d_38 hD hQ  h J Sm D)
def fp_X8_put_r49_c1d : jFp := [(50, 0, 200)]
set_option maxRecDepth 100000 in
set_option maxHeartbeats 4000000 in
theorem ct_X8_put_r49_c1d_38 {Dy : jH → Prop} {h0 : jH} {Q : Option Value → jH → Prop} {dr : jW} (hD : jDk Dy) (hQ : ∀ hx9, jJ jSgX Dy hx9 → jSm fp_X8_put_r49_c1d h0 hx9 → dr = vw hx9 → Q none hx9) : ∀ (h : jH), jJ jSgX Dy h → jSm fp_X8_put_r49_c1d h0 h → d_X8_put_r49_c1d_38  (vw h) = dr → jX m_X8_put 1 0 0 38 [] [] h 0 0 Q := by
  intro  h    J Sm D
  unfold d_X8_put_r49_c1d_38 at D
  refine x_vret rfl rfl ?_
  exact hQ _ J Sm D.symm
set_option maxRecDepth 100000 in
set_option maxHeartbeats 4000000 in
theorem sf_X8_put_r49_c1d {Dy : jH → Prop} {h : jH} {Q : Option Value → jH → Prop} {dr : jW} {a1 : Int32} {a3 : Int32} (y1 : 0 ≤ a1.toInt ∧ a1.toInt ≤ 39) (y3 : 0 ≤ a3.toInt ∧ a3.toInt ≤ 146399) (hD : jDk Dy) (J : jJ jSgX Dy h) (D : d_X8_put_r49_c1d a1.toInt a3.toInt (vw h) = dr) (hQ : ∀ hx9, jJ jSgX Dy hx9 → jSm fp_X8_put_r49_c1d h hx9 → dr = vw hx9 → Q none hx9) : jC m_X8_put 1 0 0 [.ref 49, .int a1, .int 1, .int a3] h Q := by
  refine jC.of rfl k_X8_put rfl ?_
  have Sm := jSm_rf fp_X8_put_r49_c1d h
  show jX m_X8_put 1 0 0 0 [(0, .ref 49), (1, .int a1), (2, .int 1), (3, .int a3)] [] _ 0 0 _
  unfold d_X8_put_r49_c1d at D
  refine x_iloadn (x := a1) rfl rfl ?_
  refine x_iflt (tgt := 38) rfl rfl (ti_lt rfl jk_0 (br_f (by omega) ?_))
  refine x_iloadn (x := a1) rfl rfl ?_
  refine x_aloadn (x := 49) rfl rfl ?_
  refine z_getI (N := 4) 8 3 rfl f_8_7 rfl J rfl sg_49_3_4_1_0_1 (fun v1 qv1 ev1 => ?_)
  try rw [vrf qv1] at D
  refine x_icge (tgt := 38) rfl rfl (ti_ge rfl rfl ⟨fun c2 => ?_, fun c2 => ?_⟩)
  ·
    rw [if_pos (by omega)] at D
    exact jX.sub jsb_n (ct_X8_put_r49_c1d_38 hD hQ  h J Sm D)
  ·
    rw [if_neg (by omega)] at D
    refine x_iloadn (x := 1) rfl rfl ?_
    refine x_iflt (tgt := 38) rfl rfl (ti_lt jk_1 jk_0 (br_f (by omega) ?_))
    refine x_iloadn (x := 1) rfl rfl ?_
    refine x_aloadn (x := 49) rfl rfl ?_
    refine z_getC (N := 4) (v := 5) 8 0 rfl f_8_19 rfl J rfl sg_49_0_1_1_0_1 jk_5 ?_
    refine x_icge (tgt := 38) rfl rfl (ti_ge jk_1 jk_5 (br_f (by omega) ?_))
    refine x_aloadn (x := 49) rfl rfl ?_
    refine z_getR (N := 4) (b := 50) 8 2 rfl f_8_25 rfl J rfl 6274 ⟨rfl, rfl⟩ rfl ?_
    refine x_iloadn (x := a1) rfl rfl ?_
    refine x_aloadn (x := 49) rfl rfl ?_
    refine z_getC (N := 4) (v := 5) 8 0 rfl f_8_19 rfl J rfl sg_49_0_1_1_0_1 jk_5 ?_
    refine z_imul rfl rfl jk_5 (by omega) (fun v3 ev3 => ?_)
    refine x_iloadn (x := 1) rfl rfl ?_
    refine z_iadd rfl rfl jk_1 (by omega) (fun v4 ev4 => ?_)
    refine x_iloadn (x := a3) rfl rfl ?_
    refine z_iast (N := 200) (l := 0) (u := 200) (w := a3.toInt) rfl hD J Sm rfl rfl rfl (by omega) rfl (wr_50 (fun q1 q2 q3 q4 => by omega) (fun q1 q2 q3 q4 => by omega) (fun q1 q2 q3 q4 => by omega) (fun q1 q2 q3 q4 => by omega) (fun q1 q2 q3 q4 => by omega)) rfl (fun h w5 J Sm => ?_)
    rw [vww w5 (show ((a1.toInt * 5) + 1) = v4.toInt from by omega) (show a3.toInt = a3.toInt from by omega)] at D
    exact jX.sub jsb_n (ct_X8_put_r49_c1d_38 hD hQ  h J Sm D)
def fp_X8_put_r49_c2d : jFp := [(50, 0, 200)]
set_option maxRecDepth 100000 in
set_option maxHeartbeats 4000000 in
theorem ct_X8_put_r49_c2d_38 {Dy : jH → Prop} {h0 : jH} {Q : Option Value → jH → Prop} {dr : jW} (hD : jDk Dy) (hQ : ∀ hx9, jJ jSgX Dy hx9 → jSm fp_X8_put_r49_c2d h0 hx9 → dr = vw hx9 → Q none hx9) : ∀ (h : jH), jJ jSgX Dy h → jSm fp_X8_put_r49_c2d h0 h → d_X8_put_r49_c2d_38  (vw h) = dr → jX m_X8_put 1 0 0 38 [] [] h 0 0 Q := by
  intro  h    J Sm D
  unfold d_X8_put_r49_c2d_38 at D
  refine x_vret rfl rfl ?_
  exact hQ _ J Sm D.symm
set_option maxRecDepth 100000 in
set_option maxHeartbeats 4000000 in
theorem sf_X8_put_r49_c2d {Dy : jH → Prop} {h : jH} {Q : Option Value → jH → Prop} {dr : jW} {a1 : Int32} {a3 : Int32} (y1 : 0 ≤ a1.toInt ∧ a1.toInt ≤ 39) (y3 : (-1) ≤ a3.toInt ∧ a3.toInt ≤ 39) (hD : jDk Dy) (J : jJ jSgX Dy h) (D : d_X8_put_r49_c2d a1.toInt a3.toInt (vw h) = dr) (hQ : ∀ hx9, jJ jSgX Dy hx9 → jSm fp_X8_put_r49_c2d h hx9 → dr = vw hx9 → Q none hx9) : jC m_X8_put 1 0 0 [.ref 49, .int a1, .int 2, .int a3] h Q := by
  refine jC.of rfl k_X8_put rfl ?_
  have Sm := jSm_rf fp_X8_put_r49_c2d h
  show jX m_X8_put 1 0 0 0 [(0, .ref 49), (1, .int a1), (2, .int 2), (3, .int a3)] [] _ 0 0 _
  unfold d_X8_put_r49_c2d at D
  refine x_iloadn (x := a1) rfl rfl ?_
  refine x_iflt (tgt := 38) rfl rfl (ti_lt rfl jk_0 (br_f (by omega) ?_))
  refine x_iloadn (x := a1) rfl rfl ?_
  refine x_aloadn (x := 49) rfl rfl ?_
  refine z_getI (N := 4) 8 3 rfl f_8_7 rfl J rfl sg_49_3_4_1_0_1 (fun v1 qv1 ev1 => ?_)
  try rw [vrf qv1] at D
  refine x_icge (tgt := 38) rfl rfl (ti_ge rfl rfl ⟨fun c2 => ?_, fun c2 => ?_⟩)
  ·
    rw [if_pos (by omega)] at D
    exact jX.sub jsb_n (ct_X8_put_r49_c2d_38 hD hQ  h J Sm D)
  ·
    rw [if_neg (by omega)] at D
    refine x_iloadn (x := 2) rfl rfl ?_
    refine x_iflt (tgt := 38) rfl rfl (ti_lt jk_2 jk_0 (br_f (by omega) ?_))
    refine x_iloadn (x := 2) rfl rfl ?_
    refine x_aloadn (x := 49) rfl rfl ?_
    refine z_getC (N := 4) (v := 5) 8 0 rfl f_8_19 rfl J rfl sg_49_0_1_1_0_1 jk_5 ?_
    refine x_icge (tgt := 38) rfl rfl (ti_ge jk_2 jk_5 (br_f (by omega) ?_))
    refine x_aloadn (x := 49) rfl rfl ?_
    refine z_getR (N := 4) (b := 50) 8 2 rfl f_8_25 rfl J rfl 6274 ⟨rfl, rfl⟩ rfl ?_
    refine x_iloadn (x := a1) rfl rfl ?_
    refine x_aloadn (x := 49) rfl rfl ?_
    refine z_getC (N := 4) (v := 5) 8 0 rfl f_8_19 rfl J rfl sg_49_0_1_1_0_1 jk_5 ?_
    refine z_imul rfl rfl jk_5 (by omega) (fun v3 ev3 => ?_)
    refine x_iloadn (x := 2) rfl rfl ?_
    refine z_iadd rfl rfl jk_2 (by omega) (fun v4 ev4 => ?_)
    refine x_iloadn (x := a3) rfl rfl ?_
    refine z_iast (N := 200) (l := 0) (u := 200) (w := a3.toInt) rfl hD J Sm rfl rfl rfl (by omega) rfl (wr_50 (fun q1 q2 q3 q4 => by omega) (fun q1 q2 q3 q4 => by omega) (fun q1 q2 q3 q4 => by omega) (fun q1 q2 q3 q4 => by omega) (fun q1 q2 q3 q4 => by omega)) rfl (fun h w5 J Sm => ?_)
    rw [vww w5 (show ((a1.toInt * 5) + 2) = v4.toInt from by omega) (show a3.toInt = a3.toInt from by omega)] at D
    exact jX.sub jsb_n (ct_X8_put_r49_c2d_38 hD hQ  h J Sm D)
def fp_X8_put_r49_c3d : jFp := [(50, 0, 200)]
set_option maxRecDepth 100000 in
set_option maxHeartbeats 4000000 in
theorem ct_X8_put_r49_c3d_38 {Dy : jH → Prop} {h0 : jH} {Q : Option Value → jH → Prop} {dr : jW} (hD : jDk Dy) (hQ : ∀ hx9, jJ jSgX Dy hx9 → jSm fp_X8_put_r49_c3d h0 hx9 → dr = vw hx9 → Q none hx9) : ∀ (h : jH), jJ jSgX Dy h → jSm fp_X8_put_r49_c3d h0 h → d_X8_put_r49_c3d_38  (vw h) = dr → jX m_X8_put 1 0 0 38 [] [] h 0 0 Q := by
  intro  h    J Sm D
  unfold d_X8_put_r49_c3d_38 at D
  refine x_vret rfl rfl ?_
  exact hQ _ J Sm D.symm
set_option maxRecDepth 100000 in
set_option maxHeartbeats 4000000 in
theorem sf_X8_put_r49_c3d {Dy : jH → Prop} {h : jH} {Q : Option Value → jH → Prop} {dr : jW} {a1 : Int32} {a3 : Int32} (y1 : 0 ≤ a1.toInt ∧ a1.toInt ≤ 39) (y3 : 0 ≤ a3.toInt ∧ a3.toInt ≤ 99) (hD : jDk Dy) (J : jJ jSgX Dy h) (D : d_X8_put_r49_c3d a1.toInt a3.toInt (vw h) = dr) (hQ : ∀ hx9, jJ jSgX Dy hx9 → jSm fp_X8_put_r49_c3d h hx9 → dr = vw hx9 → Q none hx9) : jC m_X8_put 1 0 0 [.ref 49, .int a1, .int 3, .int a3] h Q := by
  refine jC.of rfl k_X8_put rfl ?_
  have Sm := jSm_rf fp_X8_put_r49_c3d h
  show jX m_X8_put 1 0 0 0 [(0, .ref 49), (1, .int a1), (2, .int 3), (3, .int a3)] [] _ 0 0 _
  unfold d_X8_put_r49_c3d at D
  refine x_iloadn (x := a1) rfl rfl ?_
  refine x_iflt (tgt := 38) rfl rfl (ti_lt rfl jk_0 (br_f (by omega) ?_))
  refine x_iloadn (x := a1) rfl rfl ?_
  refine x_aloadn (x := 49) rfl rfl ?_
  refine z_getI (N := 4) 8 3 rfl f_8_7 rfl J rfl sg_49_3_4_1_0_1 (fun v1 qv1 ev1 => ?_)
  try rw [vrf qv1] at D
  refine x_icge (tgt := 38) rfl rfl (ti_ge rfl rfl ⟨fun c2 => ?_, fun c2 => ?_⟩)
  ·
    rw [if_pos (by omega)] at D
    exact jX.sub jsb_n (ct_X8_put_r49_c3d_38 hD hQ  h J Sm D)
  ·
    rw [if_neg (by omega)] at D
    refine x_iloadn (x := 3) rfl rfl ?_
    refine x_iflt (tgt := 38) rfl rfl (ti_lt jk_3 jk_0 (br_f (by omega) ?_))
    refine x_iloadn (x := 3) rfl rfl ?_
    refine x_aloadn (x := 49) rfl rfl ?_
    refine z_getC (N := 4) (v := 5) 8 0 rfl f_8_19 rfl J rfl sg_49_0_1_1_0_1 jk_5 ?_
    refine x_icge (tgt := 38) rfl rfl (ti_ge jk_3 jk_5 (br_f (by omega) ?_))
    refine x_aloadn (x := 49) rfl rfl ?_
    refine z_getR (N := 4) (b := 50) 8 2 rfl f_8_25 rfl J rfl 6274 ⟨rfl, rfl⟩ rfl ?_
    refine x_iloadn (x := a1) rfl rfl ?_
    refine x_aloadn (x := 49) rfl rfl ?_
    refine z_getC (N := 4) (v := 5) 8 0 rfl f_8_19 rfl J rfl sg_49_0_1_1_0_1 jk_5 ?_
    refine z_imul rfl rfl jk_5 (by omega) (fun v3 ev3 => ?_)
    refine x_iloadn (x := 3) rfl rfl ?_
    refine z_iadd rfl rfl jk_3 (by omega) (fun v4 ev4 => ?_)
    refine x_iloadn (x := a3) rfl rfl ?_
    refine z_iast (N := 200) (l := 0) (u := 200) (w := a3.toInt) rfl hD J Sm rfl rfl rfl (by omega) rfl (wr_50 (fun q1 q2 q3 q4 => by omega) (fun q1 q2 q3 q4 => by omega) (fun q1 q2 q3 q4 => by omega) (fun q1 q2 q3 q4 => by omega) (fun q1 q2 q3 q4 => by omega)) rfl (fun h w5 J Sm => ?_)
    rw [vww w5 (show ((a1.toInt * 5) + 3) = v4.toInt from by omega) (show a3.toInt = a3.toInt from by omega)] at D
    exact jX.sub jsb_n (ct_X8_put_r49_c3d_38 hD hQ  h J Sm D)
def fp_X8_put_r49_c4d : jFp := [(50, 0, 200)]
set_option maxRecDepth 100000 in
set_option maxHeartbeats 4000000 in
theorem ct_X8_put_r49_c4d_38 {Dy : jH → Prop} {h0 : jH} {Q : Option Value → jH → Prop} {dr : jW} (hD : jDk Dy) (hQ : ∀ hx9, jJ jSgX Dy hx9 → jSm fp_X8_put_r49_c4d h0 hx9 → dr = vw hx9 → Q none hx9) : ∀ (h : jH), jJ jSgX Dy h → jSm fp_X8_put_r49_c4d h0 h → d_X8_put_r49_c4d_38  (vw h) = dr → jX m_X8_put 1 0 0 38 [] [] h 0 0 Q := by
  intro  h    J Sm D
  unfold d_X8_put_r49_c4d_38 at D
  refine x_vret rfl rfl ?_
  exact hQ _ J Sm D.symm
set_option maxRecDepth 100000 in
set_option maxHeartbeats 4000000 in
theorem sf_X8_put_r49_c4d {Dy : jH → Prop} {h : jH} {Q : Option Value → jH → Prop} {dr : jW} {a1 : Int32} {a3 : Int32} (y1 : 0 ≤ a1.toInt ∧ a1.toInt ≤ 39) (y3 : 0 ≤ a3.toInt ∧ a3.toInt ≤ 100) (hD : jDk Dy) (J : jJ jSgX Dy h) (D : d_X8_put_r49_c4d a1.toInt a3.toInt (vw h) = dr) (hQ : ∀ hx9, jJ jSgX Dy hx9 → jSm fp_X8_put_r49_c4d h hx9 → dr = vw hx9 → Q none hx9) : jC m_X8_put 1 0 0 [.ref 49, .int a1, .int 4, .int a3] h Q := by
  refine jC.of rfl k_X8_put rfl ?_
  have Sm := jSm_rf fp_X8_put_r49_c4d h
  show jX m_X8_put 1 0 0 0 [(0, .ref 49), (1, .int a1), (2, .int 4), (3, .int a3)] [] _ 0 0 _
  unfold d_X8_put_r49_c4d at D
  refine x_iloadn (x := a1) rfl rfl ?_
  refine x_iflt (tgt := 38) rfl rfl (ti_lt rfl jk_0 (br_f (by omega) ?_))
  refine x_iloadn (x := a1) rfl rfl ?_
  refine x_aloadn (x := 49) rfl rfl ?_
  refine z_getI (N := 4) 8 3 rfl f_8_7 rfl J rfl sg_49_3_4_1_0_1 (fun v1 qv1 ev1 => ?_)
  try rw [vrf qv1] at D
  refine x_icge (tgt := 38) rfl rfl (ti_ge rfl rfl ⟨fun c2 => ?_, fun c2 => ?_⟩)
  ·
    rw [if_pos (by omega)] at D
    exact jX.sub jsb_n (ct_X8_put_r49_c4d_38 hD hQ  h J Sm D)
  ·
    rw [if_neg (by omega)] at D
    refine x_iloadn (x := 4) rfl rfl ?_
    refine x_iflt (tgt := 38) rfl rfl (ti_lt jk_4 jk_0 (br_f (by omega) ?_))
    refine x_iloadn (x := 4) rfl rfl ?_
    refine x_aloadn (x := 49) rfl rfl ?_
    refine z_getC (N := 4) (v := 5) 8 0 rfl f_8_19 rfl J rfl sg_49_0_1_1_0_1 jk_5 ?_
    refine x_icge (tgt := 38) rfl rfl (ti_ge jk_4 jk_5 (br_f (by omega) ?_))
    refine x_aloadn (x := 49) rfl rfl ?_
    refine z_getR (N := 4) (b := 50) 8 2 rfl f_8_25 rfl J rfl 6274 ⟨rfl, rfl⟩ rfl ?_
    refine x_iloadn (x := a1) rfl rfl ?_
    refine x_aloadn (x := 49) rfl rfl ?_
    refine z_getC (N := 4) (v := 5) 8 0 rfl f_8_19 rfl J rfl sg_49_0_1_1_0_1 jk_5 ?_
    refine z_imul rfl rfl jk_5 (by omega) (fun v3 ev3 => ?_)
    refine x_iloadn (x := 4) rfl rfl ?_
    refine z_iadd rfl rfl jk_4 (by omega) (fun v4 ev4 => ?_)
    refine x_iloadn (x := a3) rfl rfl ?_
    refine z_iast (N := 200) (l := 0) (u := 200) (w := a3.toInt) rfl hD J Sm rfl rfl rfl (by omega) rfl (wr_50 (fun q1 q2 q3 q4 => by omega) (fun q1 q2 q3 q4 => by omega) (fun q1 q2 q3 q4 => by omega) (fun q1 q2 q3 q4 => by omega) (fun q1 q2 q3 q4 => by omega)) rfl (fun h w5 J Sm => ?_)
    rw [vww w5 (show ((a1.toInt * 5) + 4) = v4.toInt from by omega) (show a3.toInt = a3.toInt from by omega)] at D
    exact jX.sub jsb_n (ct_X8_put_r49_c4d_38 hD hQ  h J Sm D)
def fp_X8_put_r49_c5d : jFp := []
set_option maxRecDepth 100000 in
set_option maxHeartbeats 4000000 in
theorem ct_X8_put_r49_c5d_38 {Dy : jH → Prop} {h0 : jH} {Q : Option Value → jH → Prop} {dr : jW} (hD : jDk Dy) (hQ : ∀ hx9, jJ jSgX Dy hx9 → jSm fp_X8_put_r49_c5d h0 hx9 → dr = vw hx9 → Q none hx9) : ∀ (h : jH), jJ jSgX Dy h → jSm fp_X8_put_r49_c5d h0 h → d_X8_put_r49_c5d_38  (vw h) = dr → jX m_X8_put 1 0 0 38 [] [] h 0 0 Q := by
  intro  h    J Sm D
  unfold d_X8_put_r49_c5d_38 at D
  refine x_vret rfl rfl ?_
  exact hQ _ J Sm D.symm
set_option maxRecDepth 100000 in
set_option maxHeartbeats 4000000 in
theorem sf_X8_put_r49_c5d {Dy : jH → Prop} {h : jH} {Q : Option Value → jH → Prop} {dr : jW} {a1 : Int32} {a3 : Int32} (y1 : 0 ≤ a1.toInt ∧ a1.toInt ≤ 39) (y3 : 0 ≤ a3.toInt ∧ a3.toInt ≤ 0) (hD : jDk Dy) (J : jJ jSgX Dy h) (D : d_X8_put_r49_c5d a1.toInt a3.toInt (vw h) = dr) (hQ : ∀ hx9, jJ jSgX Dy hx9 → jSm fp_X8_put_r49_c5d h hx9 → dr = vw hx9 → Q none hx9) : jC m_X8_put 1 0 0 [.ref 49, .int a1, .int 5, .int a3] h Q := by
  refine jC.of rfl k_X8_put rfl ?_
  have Sm := jSm_rf fp_X8_put_r49_c5d h
  show jX m_X8_put 1 0 0 0 [(0, .ref 49), (1, .int a1), (2, .int 5), (3, .int a3)] [] _ 0 0 _
  unfold d_X8_put_r49_c5d at D
  refine x_iloadn (x := a1) rfl rfl ?_
  refine x_iflt (tgt := 38) rfl rfl (ti_lt rfl jk_0 (br_f (by omega) ?_))
  refine x_iloadn (x := a1) rfl rfl ?_
  refine x_aloadn (x := 49) rfl rfl ?_
  refine z_getI (N := 4) 8 3 rfl f_8_7 rfl J rfl sg_49_3_4_1_0_1 (fun v1 qv1 ev1 => ?_)
  try rw [vrf qv1] at D
  refine x_icge (tgt := 38) rfl rfl (ti_ge rfl rfl ⟨fun c2 => ?_, fun c2 => ?_⟩)
  ·
    rw [if_pos (by omega)] at D
    exact jX.sub jsb_n (ct_X8_put_r49_c5d_38 hD hQ  h J Sm D)
  ·
    rw [if_neg (by omega)] at D
    refine x_iloadn (x := 5) rfl rfl ?_
    refine x_iflt (tgt := 38) rfl rfl (ti_lt jk_5 jk_0 (br_f (by omega) ?_))
    refine x_iloadn (x := 5) rfl rfl ?_
    refine x_aloadn (x := 49) rfl rfl ?_
    refine z_getC (N := 4) (v := 5) 8 0 rfl f_8_19 rfl J rfl sg_49_0_1_1_0_1 jk_5 ?_
    refine x_icge (tgt := 38) rfl rfl (ti_ge jk_5 jk_5 (br_t (by omega) ?_))
    exact jX.sub jsb_n (ct_X8_put_r49_c5d_38 hD hQ  h J Sm D)
def fp_X8_add_r49d : jFp := [(49, 3, 4), (50, 0, 200)]
set_option maxRecDepth 100000 in
set_option maxHeartbeats 4000000 in
theorem sf_X8_add_r49d {Dy : jH → Prop} {h : jH} {Q : Option Value → jH → Prop} {dr : jW} {a1 : Int32} {a2 : Int32} {a3 : Int32} {a4 : Int32} {a5 : Int32} {a6 : Int32} (y1 : 0 ≤ a1.toInt ∧ a1.toInt ≤ 146399) (y2 : 0 ≤ a2.toInt ∧ a2.toInt ≤ 146399) (y3 : (-1) ≤ a3.toInt ∧ a3.toInt ≤ 39) (y4 : 0 ≤ a4.toInt ∧ a4.toInt ≤ 99) (y5 : 0 ≤ a5.toInt ∧ a5.toInt ≤ 100) (y6 : 0 ≤ a6.toInt ∧ a6.toInt ≤ 0) (hD : jDk Dy) (J : jJ jSgX Dy h) (D : d_X8_add_r49d a1.toInt a2.toInt a3.toInt a4.toInt a5.toInt a6.toInt (vw h) = dr) (hQ : ∀ hx9, jJ jSgX Dy hx9 → jSm fp_X8_add_r49d h hx9 → dr = vw hx9 → Q none hx9) : jC m_X8_add 2 0 0 [.ref 49, .int a1, .int a2, .int a3, .int a4, .int a5, .int a6] h Q := by
  refine jC.of rfl k_X8_add rfl ?_
  have Sm := jSm_rf fp_X8_add_r49d h
  show jX m_X8_add 2 0 0 0 [(0, .ref 49), (1, .int a1), (2, .int a2), (3, .int a3), (4, .int a4), (5, .int a5), (6, .int a6)] [] _ 0 0 _
  unfold d_X8_add_r49d at D
  refine x_aloadn (x := 49) rfl rfl ?_
  refine z_getI (N := 4) 8 3 rfl f_8_7 rfl J rfl sg_49_3_4_1_0_1 (fun v1 qv1 ev1 => ?_)
  try rw [vrf qv1] at D
  refine x_aloadn (x := 49) rfl rfl ?_
  refine z_getC (N := 4) (v := 40) 8 1 rfl f_8_22 rfl J rfl sg_49_1_2_1_0_1 jk_40 ?_
  refine x_iclt (tgt := 12) rfl rfl (ti_lt rfl jk_40 ⟨fun c2 => ?_, fun c2 => ?_⟩)
  ·
    rw [if_pos (by omega)] at D
    refine x_aloadn (x := 49) rfl rfl ?_
    refine z_getM (N := 4) (v := v1) 8 3 rfl f_8_7 rfl J rfl qv1 ?_
    refine x_istore (lsx9 := [(7, .int v1), (0, .ref 49), (1, .int a1), (2, .int a2), (3, .int a3), (4, .int a4), (5, .int a5), (6, .int a6)]) rfl rfl rfl ?_
    refine x_aloadn (x := 49) rfl rfl ?_
    refine x_iload (x := v1) rfl rfl ?_
    refine x_iconst (v := 1) rfl ki_1 ?_
    refine z_iadd rfl rfl jk_1 (by omega) (fun v3 ev3 => ?_)
    refine z_putI (N := 4) (w := v3.toInt) 8 3 rfl f_8_7 rfl (jfin_no TX8 RX8 4 rfl rfl) hD J Sm rfl rfl rfl (pw_49_3 (by omega)) rfl (fun h w4 J Sm => ?_)
    rw [vwf w4 (show (v1.toInt + 1) = v3.toInt from by omega)] at D
    refine x_aloadn (x := 49) rfl rfl ?_
    refine x_iload (x := v1) rfl rfl ?_
    refine x_iconst (v := 0) rfl ki_0 ?_
    refine x_iloadn (x := a1) rfl rfl ?_
    refine x_inv (N := m_X8_put) (As := [.int v1, .int 0, .int a1]) (b := 49) (st := []) (dx9 := 1) (mc := 0) (ms := 0) (host := "") 8 rfl t_X8_put ⟨Or.inl q_8_29, i_X8_put.1, i_X8_put.2⟩ ⟨by decide, rfl⟩ (congrArg Prod.fst (J.1.1 49 (8, 4) rfl)) rfl (by decide) rfl rfl ⟨by decide, by decide⟩ (sf_X8_put_r49_c0d (jr_of rfl (by omega)) (jr_of rfl (by omega)) hD J rfl  (fun h J S5 X6 => ?_))
    have Sm := jSm_tr rfl Sm S5
    rw [X6] at D
    show jX m_X8_add 2 0 0 34 [(7, .int v1), (0, .ref 49), (1, .int a1), (2, .int a2), (3, .int a3), (4, .int a4), (5, .int a5), (6, .int a6)] [] _ 0 0 _
    refine x_aloadn (x := 49) rfl rfl ?_
    refine x_iload (x := v1) rfl rfl ?_
    refine x_iconst (v := 1) rfl ki_1 ?_
    refine x_iloadn (x := a2) rfl rfl ?_
    refine x_inv (N := m_X8_put) (As := [.int v1, .int 1, .int a2]) (b := 49) (st := []) (dx9 := 1) (mc := 0) (ms := 0) (host := "") 8 rfl t_X8_put ⟨Or.inl q_8_29, i_X8_put.1, i_X8_put.2⟩ ⟨by decide, rfl⟩ (congrArg Prod.fst (J.1.1 49 (8, 4) rfl)) rfl (by decide) rfl rfl ⟨by decide, by decide⟩ (sf_X8_put_r49_c1d (jr_of rfl (by omega)) (jr_of rfl (by omega)) hD J rfl  (fun h J S7 X8 => ?_))
    have Sm := jSm_tr rfl Sm S7
    rw [X8] at D
    show jX m_X8_add 2 0 0 42 [(7, .int v1), (0, .ref 49), (1, .int a1), (2, .int a2), (3, .int a3), (4, .int a4), (5, .int a5), (6, .int a6)] [] _ 0 0 _
    refine x_aloadn (x := 49) rfl rfl ?_
    refine x_iload (x := v1) rfl rfl ?_
    refine x_iconst (v := 2) rfl ki_2 ?_
    refine x_iloadn (x := a3) rfl rfl ?_
    refine x_inv (N := m_X8_put) (As := [.int v1, .int 2, .int a3]) (b := 49) (st := []) (dx9 := 1) (mc := 0) (ms := 0) (host := "") 8 rfl t_X8_put ⟨Or.inl q_8_29, i_X8_put.1, i_X8_put.2⟩ ⟨by decide, rfl⟩ (congrArg Prod.fst (J.1.1 49 (8, 4) rfl)) rfl (by decide) rfl rfl ⟨by decide, by decide⟩ (sf_X8_put_r49_c2d (jr_of rfl (by omega)) (jr_of rfl (by omega)) hD J rfl  (fun h J S9 X10 => ?_))
    have Sm := jSm_tr rfl Sm S9
    rw [X10] at D
    show jX m_X8_add 2 0 0 50 [(7, .int v1), (0, .ref 49), (1, .int a1), (2, .int a2), (3, .int a3), (4, .int a4), (5, .int a5), (6, .int a6)] [] _ 0 0 _
    refine x_aloadn (x := 49) rfl rfl ?_
    refine x_iload (x := v1) rfl rfl ?_
    refine x_iconst (v := 3) rfl ki_3 ?_
    refine x_iload (x := a4) rfl rfl ?_
    refine x_inv (N := m_X8_put) (As := [.int v1, .int 3, .int a4]) (b := 49) (st := []) (dx9 := 1) (mc := 0) (ms := 0) (host := "") 8 rfl t_X8_put ⟨Or.inl q_8_29, i_X8_put.1, i_X8_put.2⟩ ⟨by decide, rfl⟩ (congrArg Prod.fst (J.1.1 49 (8, 4) rfl)) rfl (by decide) rfl rfl ⟨by decide, by decide⟩ (sf_X8_put_r49_c3d (jr_of rfl (by omega)) (jr_of rfl (by omega)) hD J rfl  (fun h J S11 X12 => ?_))
    have Sm := jSm_tr rfl Sm S11
    rw [X12] at D
    show jX m_X8_add 2 0 0 59 [(7, .int v1), (0, .ref 49), (1, .int a1), (2, .int a2), (3, .int a3), (4, .int a4), (5, .int a5), (6, .int a6)] [] _ 0 0 _
    refine x_aloadn (x := 49) rfl rfl ?_
    refine x_iload (x := v1) rfl rfl ?_
    refine x_iconst (v := 4) rfl ki_4 ?_
    refine x_iload (x := a5) rfl rfl ?_
    refine x_inv (N := m_X8_put) (As := [.int v1, .int 4, .int a5]) (b := 49) (st := []) (dx9 := 1) (mc := 0) (ms := 0) (host := "") 8 rfl t_X8_put ⟨Or.inl q_8_29, i_X8_put.1, i_X8_put.2⟩ ⟨by decide, rfl⟩ (congrArg Prod.fst (J.1.1 49 (8, 4) rfl)) rfl (by decide) rfl rfl ⟨by decide, by decide⟩ (sf_X8_put_r49_c4d (jr_of rfl (by omega)) (jr_of rfl (by omega)) hD J rfl  (fun h J S13 X14 => ?_))
    have Sm := jSm_tr rfl Sm S13
    rw [X14] at D
    show jX m_X8_add 2 0 0 68 [(7, .int v1), (0, .ref 49), (1, .int a1), (2, .int a2), (3, .int a3), (4, .int a4), (5, .int a5), (6, .int a6)] [] _ 0 0 _
    refine x_aloadn (x := 49) rfl rfl ?_
    refine x_iload (x := v1) rfl rfl ?_
    refine x_iconst (v := 5) rfl ki_5 ?_
    refine x_iload (x := a6) rfl rfl ?_
    refine x_inv (N := m_X8_put) (As := [.int v1, .int 5, .int a6]) (b := 49) (st := []) (dx9 := 1) (mc := 0) (ms := 0) (host := "") 8 rfl t_X8_put ⟨Or.inl q_8_29, i_X8_put.1, i_X8_put.2⟩ ⟨by decide, rfl⟩ (congrArg Prod.fst (J.1.1 49 (8, 4) rfl)) rfl (by decide) rfl rfl ⟨by decide, by decide⟩ (sf_X8_put_r49_c5d (jr_of rfl (by omega)) (jr_of rfl (by omega)) hD J rfl  (fun h J S15 X16 => ?_))
    have Sm := jSm_tr rfl Sm S15
    rw [X16] at D
    show jX m_X8_add 2 0 0 77 [(7, .int v1), (0, .ref 49), (1, .int a1), (2, .int a2), (3, .int a3), (4, .int a4), (5, .int a5), (6, .int a6)] [] _ 0 0 _
    refine x_vret rfl rfl ?_
    exact hQ _ J Sm D.symm
  ·
    rw [if_neg (by omega)] at D
    refine x_vret rfl rfl ?_
    exact hQ _ J Sm D.symm
def fp_X8_isFull_r49d : jFp := []
set_option maxRecDepth 100000 in
set_option maxHeartbeats 4000000 in
theorem ct_X8_isFull_r49d_200016 {Dy : jH → Prop} {h0 : jH} {Q : Option Value → jH → Prop} {dr : Int} (hD : jDk Dy) (hQ : ∀ (v : Int32) hx9, 0 ≤ v.toInt ∧ v.toInt ≤ 1 → jJ jSgX Dy hx9 → jSm fp_X8_isFull_r49d h0 hx9 → dr = v.toInt → vw hx9 = vw h0 → Q (some (.int v)) hx9) : ∀ (h : jH), jJ jSgX Dy h → jSm fp_X8_isFull_r49d h0 h → d_X8_isFull_r49d_200016  (vw h) = dr → vw h = vw h0 → jX m_X8_isFull 1 0 0 16 [] [.int 0] h 0 0 Q := by
  intro  h    J Sm D EV
  unfold d_X8_isFull_r49d_200016 at D
  refine x_zret rfl rfl (by decide) ?_
  exact hQ _ _ (jr_of jk_0 (by omega)) J Sm (D.symm.trans (show 0 = (0 : Int32).toInt from by have := jk_0; omega)) EV
set_option maxRecDepth 100000 in
set_option maxHeartbeats 4000000 in
theorem ct_X8_isFull_r49d_300016 {Dy : jH → Prop} {h0 : jH} {Q : Option Value → jH → Prop} {dr : Int} (hD : jDk Dy) (hQ : ∀ (v : Int32) hx9, 0 ≤ v.toInt ∧ v.toInt ≤ 1 → jJ jSgX Dy hx9 → jSm fp_X8_isFull_r49d h0 hx9 → dr = v.toInt → vw hx9 = vw h0 → Q (some (.int v)) hx9) : ∀ (h : jH), jJ jSgX Dy h → jSm fp_X8_isFull_r49d h0 h → d_X8_isFull_r49d_300016  (vw h) = dr → vw h = vw h0 → jX m_X8_isFull 1 0 0 16 [] [.int 1] h 0 0 Q := by
  intro  h    J Sm D EV
  unfold d_X8_isFull_r49d_300016 at D
  refine x_zret rfl rfl (by decide) ?_
  exact hQ _ _ (jr_of jk_1 (by omega)) J Sm (D.symm.trans (show 1 = (1 : Int32).toInt from by have := jk_1; omega)) EV
set_option maxRecDepth 100000 in
set_option maxHeartbeats 4000000 in
theorem sf_X8_isFull_r49d {Dy : jH → Prop} {h : jH} {Q : Option Value → jH → Prop} {dr : Int} (hD : jDk Dy) (J : jJ jSgX Dy h) (D : d_X8_isFull_r49d (vw h) = dr) (hQ : ∀ (v : Int32) hx9, 0 ≤ v.toInt ∧ v.toInt ≤ 1 → jJ jSgX Dy hx9 → jSm fp_X8_isFull_r49d h hx9 → dr = v.toInt → vw hx9 = vw h → Q (some (.int v)) hx9) : jC m_X8_isFull 1 0 0 [.ref 49] h Q := by
  refine jC.of rfl k_X8_isFull rfl ?_
  have Sm := jSm_rf fp_X8_isFull_r49d h
  show jX m_X8_isFull 1 0 0 0 [(0, .ref 49)] [] _ 0 0 _
  unfold d_X8_isFull_r49d at D
  have EV : vw h = vw h := rfl
  refine x_aloadn (x := 49) rfl rfl ?_
  refine z_getI (N := 4) 8 3 rfl f_8_7 rfl J rfl sg_49_3_4_1_0_1 (fun v1 qv1 ev1 => ?_)
  try rw [vrf qv1] at D
  refine x_aloadn (x := 49) rfl rfl ?_
  refine z_getC (N := 4) (v := 40) 8 1 rfl f_8_22 rfl J rfl sg_49_1_2_1_0_1 jk_40 ?_
  refine x_iclt (tgt := 15) rfl rfl (ti_lt rfl jk_40 ⟨fun c2 => ?_, fun c2 => ?_⟩)
  ·
    rw [if_pos (by omega)] at D
    refine x_iconst (v := 0) rfl ki_0 ?_
    exact jX.sub jsb_n (ct_X8_isFull_r49d_200016 hD hQ  h J Sm D EV)
  ·
    rw [if_neg (by omega)] at D
    refine x_iconst (v := 1) rfl ki_1 ?_
    refine x_goto (tgt := 16) rfl rfl ?_
    exact jX.sub jsb_n (ct_X8_isFull_r49d_300016 hD hQ  h J Sm D EV)
def fp_X11_holding_r31d : jFp := [(31, 12, 13), (32, 19, 20), (49, 3, 4), (50, 0, 200), (63, 3, 4), (64, 0, 740)]
set_option maxRecDepth 100000 in
set_option maxHeartbeats 4000000 in
theorem sf_X11_holding_r31d {Dy : jH → Prop} {h : jH} {Q : Option Value → jH → Prop} {dr : (Int × jW)} (hD : jDk Dy) (J : jJ jSgX Dy h) (D : d_X11_holding_r31d (vw h) = dr) (hQ : ∀ (v : Int32) hx9, (-366) ≤ v.toInt ∧ v.toInt ≤ 40 → jJ jSgX Dy hx9 → jSm fp_X11_holding_r31d h hx9 → dr.1 = v.toInt → dr.2 = vw hx9 → Q (some (.int v)) hx9) : jC m_X11_holding 4 0 0 [.ref 31] h Q := by
  refine jC.of rfl k_X11_holding rfl ?_
  have Sm := jSm_rf fp_X11_holding_r31d h
  show jX m_X11_holding 4 0 0 0 [(0, .ref 31)] [] _ 0 0 _
  unfold d_X11_holding_r31d at D
  refine x_aloadn (x := 31) rfl rfl ?_
  refine z_getR (N := 13) (b := 32) 11 0 rfl f_11_10 rfl J rfl 3968 ⟨rfl, rfl⟩ rfl ?_
  refine z_getR (N := 20) (b := 49) 1 8 rfl f_11_408 rfl J rfl 4104 ⟨rfl, rfl⟩ rfl ?_
  refine x_inv (N := m_X8_isFull) (As := []) (b := 49) (st := []) (dx9 := 1) (mc := 0) (ms := 0) (host := "") 8 rfl t_X8_isFull ⟨Or.inl q_11_130, i_X8_isFull.1, i_X8_isFull.2⟩ ⟨by decide, rfl⟩ (congrArg Prod.fst (J.1.1 49 (8, 4) rfl)) rfl (by decide) rfl rfl ⟨by decide, by decide⟩ (sf_X8_isFull_r49d  hD J rfl  (fun v4 h ev4 J S1 X2 X3 => ?_))
  have Sm := jSm_tr rfl Sm S1
  try rw [X2] at D
  try rw [← X3] at D
  show jX m_X11_holding 4 0 0 10 [(0, .ref 31)] [.int v4] _ 0 0 _
  refine x_ifeq (tgt := 20) rfl rfl (ti_eq rfl jk_0 ⟨fun c5 => ?_, fun c5 => ?_⟩)
  ·
    rw [if_pos (by omega)] at D
    refine x_aloadn (x := 31) rfl rfl ?_
    refine x_aloadn (x := 31) rfl rfl ?_
    refine x_iconst (v := (-1)) rfl ki_m1 ?_
    refine x_iconst (v := 0) rfl ki_0 ?_
    refine x_iconst (v := 0) rfl ki_0 ?_
    refine x_iconst (v := 0) rfl ki_0 ?_
    refine x_iconst (v := 0) rfl ki_0 ?_
    refine x_inv (N := m_X11_addHolding) (As := [.int (-1), .int 0, .int 0, .int 0, .int 0]) (b := 31) (st := [.ref 31]) (dx9 := 3) (mc := 0) (ms := 0) (host := "") 11 rfl t_X11_addHolding ⟨Or.inl q_11_411, i_X11_addHolding.1, i_X11_addHolding.2⟩ ⟨by decide, rfl⟩ (congrArg Prod.fst (J.1.1 31 (11, 13) rfl)) rfl (by decide) rfl rfl ⟨by decide, by decide⟩ (jC.of rfl k_X11_addHolding rfl ?_)
    show jX m_X11_addHolding 3 0 0 0 [(0, .ref 31), (1, .int (-1)), (2, .int 0), (3, .int 0), (4, .int 0), (5, .int 0)] [] _ 0 0 _
    refine x_aloadn (x := 31) rfl rfl ?_
    refine z_getR (N := 13) (b := 32) 11 0 rfl f_11_10 rfl J rfl 3968 ⟨rfl, rfl⟩ rfl ?_
    refine z_getR (N := 20) (b := 49) 1 8 rfl f_11_408 rfl J rfl 4104 ⟨rfl, rfl⟩ rfl ?_
    refine z_getI (N := 4) 8 3 rfl f_11_142 rfl J rfl sg_49_3_4_1_0_1 (fun v6 qv6 ev6 => ?_)
    try rw [vrf qv6] at D
    refine x_istore (lsx9 := [(6, .int v6), (0, .ref 31), (1, .int (-1)), (2, .int 0), (3, .int 0), (4, .int 0), (5, .int 0)]) rfl rfl rfl ?_
    refine x_aloadn (x := 31) rfl rfl ?_
    refine z_getR (N := 13) (b := 32) 11 0 rfl f_11_10 rfl J rfl 3968 ⟨rfl, rfl⟩ rfl ?_
    refine z_getR (N := 20) (b := 49) 1 8 rfl f_11_408 rfl J rfl 4104 ⟨rfl, rfl⟩ rfl ?_
    refine x_iload (x := 0) rfl rfl ?_
    refine x_iload (x := 0) rfl rfl ?_
    refine x_iloadn (x := (-1)) rfl rfl ?_
    refine x_iloadn (x := 0) rfl rfl ?_
    refine x_iloadn (x := 0) rfl rfl ?_
    refine x_iconst (v := 0) rfl ki_0 ?_
    refine x_inv (N := m_X8_add) (As := [.int 0, .int 0, .int (-1), .int 0, .int 0, .int 0]) (b := 49) (st := []) (dx9 := 2) (mc := 0) (ms := 0) (host := "") 8 rfl t_X8_add ⟨Or.inl q_11_145, i_X8_add.1, i_X8_add.2⟩ ⟨by decide, rfl⟩ (congrArg Prod.fst (J.1.1 49 (8, 4) rfl)) rfl (by decide) rfl rfl ⟨by decide, by decide⟩ (sf_X8_add_r49d (jr_of jk_0 (by omega)) (jr_of jk_0 (by omega)) (jr_of jk_m1 (by omega)) (jr_of jk_0 (by omega)) (jr_of jk_0 (by omega)) (jr_of jk_0 (by omega)) hD J rfl  (fun h J S7 X8 => ?_))
    have Sm := jSm_tr rfl Sm S7
    try rw [jk_0] at X8
    try rw [jk_m1] at X8
    rw [X8] at D
    show jX m_X11_addHolding 3 0 0 30 [(6, .int v6), (0, .ref 31), (1, .int (-1)), (2, .int 0), (3, .int 0), (4, .int 0), (5, .int 0)] [] _ 0 0 _
    refine x_aloadn (x := 31) rfl rfl ?_
    refine z_getR (N := 13) (b := 32) 11 0 rfl f_11_10 rfl J rfl 3968 ⟨rfl, rfl⟩ rfl ?_
    refine z_getR (N := 20) (b := 63) 1 15 rfl f_11_159 rfl J rfl 4111 ⟨rfl, rfl⟩ rfl ?_
    refine x_iconst (v := 3) rfl ki_3 ?_
    refine x_iload (x := v6) rfl rfl ?_
    refine x_iconst (v := 0) rfl ki_0 ?_
    refine x_iconst (v := 0) rfl ki_0 ?_
    refine x_iconst (v := 0) rfl ki_0 ?_
    refine x_iconst (v := 0) rfl ki_0 ?_
    refine x_inv (N := m_X8_add) (As := [.int 3, .int v6, .int 0, .int 0, .int 0, .int 0]) (b := 63) (st := []) (dx9 := 2) (mc := 0) (ms := 0) (host := "") 8 rfl t_X8_add ⟨Or.inl q_11_145, i_X8_add.1, i_X8_add.2⟩ ⟨by decide, rfl⟩ (congrArg Prod.fst (J.1.1 63 (8, 4) rfl)) rfl (by decide) rfl rfl ⟨by decide, by decide⟩ (sf_X8_add_r63d (jr_of jk_3 (by omega)) (jr_of rfl (by omega)) (jr_of jk_0 (by omega)) (jr_of jk_0 (by omega)) (jr_of jk_0 (by omega)) (jr_of jk_0 (by omega)) hD J rfl  (fun h J S9 X10 => ?_))
    have Sm := jSm_tr rfl Sm S9
    try rw [jk_3] at X10
    try rw [jk_0] at X10
    rw [X10] at D
    show jX m_X11_addHolding 3 0 0 47 [(6, .int v6), (0, .ref 31), (1, .int (-1)), (2, .int 0), (3, .int 0), (4, .int 0), (5, .int 0)] [] _ 0 0 _
    refine x_iload (x := v6) rfl rfl ?_
    refine x_iret rfl rfl ?_
    show jX m_X11_holding 4 0 0 30 [(0, .ref 31)] [.int v6, .ref 31] _ 0 0 _
    refine x_inv (N := m_X11_accept) (As := [.int v6]) (b := 31) (st := []) (dx9 := 3) (mc := 0) (ms := 0) (host := "") 11 rfl t_X11_accept ⟨Or.inl q_11_165, i_X11_accept.1, i_X11_accept.2⟩ ⟨by decide, rfl⟩ (congrArg Prod.fst (J.1.1 31 (11, 13) rfl)) rfl (by decide) rfl rfl ⟨by decide, by decide⟩ (jC.of rfl k_X11_accept rfl ?_)
    show jX m_X11_accept 3 0 0 0 [(0, .ref 31), (1, .int v6)] [] _ 0 0 _
    refine x_aloadn (x := 31) rfl rfl ?_
    refine x_iconst (v := 0) rfl ki_0 ?_
    refine z_putI (N := 13) (w := 0) 11 12 rfl f_11_94 rfl (jfin_no TX11 RX11 13 rfl rfl) hD J Sm rfl rfl jk_0 (pw_31_12 (by omega)) rfl (fun h w11 J Sm => ?_)
    rw [vwf w11 (show 0 = (0 : Int32).toInt from by have := jk_0; omega)] at D
    refine x_aloadn (x := 31) rfl rfl ?_
    refine z_getR (N := 13) (b := 32) 11 0 rfl f_11_10 rfl J rfl 3968 ⟨rfl, rfl⟩ rfl ?_
    refine x_dup rfl rfl ?_
    refine z_getI0 (N := 20) 1 19 rfl f_11_528 rfl J rfl (fun v12 qv12 => ?_)
    have ev12 := jfull v12
    try rw [vrf (jmb_c S7 (jmb_c S9 (jmb_w w11 qv12 rfl) rfl) rfl)] at D
    refine x_iconst (v := 1) rfl ki_1 ?_
    refine z_iaddW rfl rfl jk_1 (fun v13 ev13 => ?_)
    have fv13 := jfull v13
    try rw [← ev13] at D
    refine z_putI (N := 20) (w := v13.toInt) 1 19 rfl f_11_528 rfl (jfin_no TX1 RX1 20 rfl rfl) hD J Sm rfl rfl rfl (pw_32_19 trivial) rfl (fun h w14 J Sm => ?_)
    rw [vwf w14 (show v13.toInt = v13.toInt from by omega)] at D
    refine x_iloadn (x := v6) rfl rfl ?_
    refine x_iret rfl rfl ?_
    show jX m_X11_holding 4 0 0 33 [(0, .ref 31)] [.int v6] _ 0 0 _
    refine x_iret rfl rfl ?_
    exact hQ _ _ (jr_of rfl (by omega)) J Sm ((congrArg Prod.fst D).symm.trans (show v6.toInt = v6.toInt from by omega)) (congrArg Prod.snd D).symm
  ·
    rw [if_neg (by omega)] at D
    refine x_aloadn (x := 31) rfl rfl ?_
    refine x_bipush (v := (-5)) rfl kb_m5 ?_
    refine x_inv (N := m_X11_refuse) (As := [.int (-5)]) (b := 31) (st := []) (dx9 := 3) (mc := 0) (ms := 0) (host := "") 11 rfl t_X11_refuse ⟨Or.inl q_11_206, i_X11_refuse.1, i_X11_refuse.2⟩ ⟨by decide, rfl⟩ (congrArg Prod.fst (J.1.1 31 (11, 13) rfl)) rfl (by decide) rfl rfl ⟨by decide, by decide⟩ (jC.of rfl k_X11_refuse rfl ?_)
    show jX m_X11_refuse 3 0 0 0 [(0, .ref 31), (1, .int (-5))] [] _ 0 0 _
    refine x_aloadn (x := 31) rfl rfl ?_
    refine x_iloadn (x := (-5)) rfl rfl ?_
    refine z_putI (N := 13) (w := (-5)) 11 12 rfl f_11_94 rfl (jfin_no TX11 RX11 13 rfl rfl) hD J Sm rfl rfl jk_m5 (pw_31_12 (by omega)) rfl (fun h w15 J Sm => ?_)
    rw [vwf w15 (show (-5) = ((-5) : Int32).toInt from by have := jk_m5; omega)] at D
    refine x_iloadn (x := (-5)) rfl rfl ?_
    refine x_iret rfl rfl ?_
    show jX m_X11_holding 4 0 0 19 [(0, .ref 31)] [.int (-5)] _ 0 0 _
    refine x_iret rfl rfl ?_
    exact hQ _ _ (jr_of jk_m5 (by omega)) J Sm ((congrArg Prod.fst D).symm.trans (show (-5) = ((-5) : Int32).toInt from by have := jk_m5; omega)) (congrArg Prod.snd D).symm
def fp_X11_holds_r31d : jFp := [(78, 13, 14), (82, 0, 600), (83, 0, 600), (84, 0, 200), (85, 0, 4), (86, 0, 3), (98, 10, 11), (98, 11, 12), (98, 12, 13), (99, 0, 30), (100, 0, 30), (101, 0, 3), (102, 0, 40), (103, 0, 40), (104, 0, 40), (105, 0, 3), (106, 0, 100)]
set_option maxRecDepth 100000 in
set_option maxHeartbeats 4000000 in
theorem ct_X11_holds_r31d_17 {Dy : jH → Prop} {h0 : jH} {Q : Option Value → jH → Prop} {dr : (Int × jW)} (hD : jDk Dy) (hQ : ∀ (v : Int32) hx9, (-1) ≤ v.toInt ∧ v.toInt ≤ 1 → jJ jSgX Dy hx9 → jSm fp_X11_holds_r31d h0 hx9 → dr.1 = v.toInt → dr.2 = vw hx9 → Q (some (.int v)) hx9) : ∀ (h : jH), jJ jSgX Dy h → jSm fp_X11_holds_r31d h0 h → d_X11_holds_r31d_17  (vw h) = dr → jX m_X11_holds 8 0 0 17 [] [] h 0 0 Q := by
  intro  h    J Sm D
  unfold d_X11_holds_r31d_17 at D
  refine x_iconst (v := (-1)) rfl ki_m1 ?_
  refine x_iret rfl rfl ?_
  exact hQ _ _ (jr_of jk_m1 (by omega)) J Sm ((congrArg Prod.fst D).symm.trans (show (-1) = ((-1) : Int32).toInt from by have := jk_m1; omega)) (congrArg Prod.snd D).symm
set_option maxRecDepth 100000 in
set_option maxHeartbeats 4000000 in
theorem ct_X11_holds_r31d_200066 {Dy : jH → Prop} {h0 : jH} {Q : Option Value → jH → Prop} {dr : (Int × jW)} (hD : jDk Dy) (hQ : ∀ (v : Int32) hx9, (-1) ≤ v.toInt ∧ v.toInt ≤ 1 → jJ jSgX Dy hx9 → jSm fp_X11_holds_r31d h0 hx9 → dr.1 = v.toInt → dr.2 = vw hx9 → Q (some (.int v)) hx9) : ∀ (h : jH), jJ jSgX Dy h → jSm fp_X11_holds_r31d h0 h → d_X11_holds_r31d_200066  (vw h) = dr → jX m_X11_holds 8 0 0 66 [] [.int 0] h 0 0 Q := by
  intro  h    J Sm D
  unfold d_X11_holds_r31d_200066 at D
  refine x_iret rfl rfl ?_
  exact hQ _ _ (jr_of jk_0 (by omega)) J Sm ((congrArg Prod.fst D).symm.trans (show 0 = (0 : Int32).toInt from by have := jk_0; omega)) (congrArg Prod.snd D).symm
set_option maxRecDepth 100000 in
set_option maxHeartbeats 4000000 in
theorem ct_X11_holds_r31d_300066 {Dy : jH → Prop} {h0 : jH} {Q : Option Value → jH → Prop} {dr : (Int × jW)} (hD : jDk Dy) (hQ : ∀ (v : Int32) hx9, (-1) ≤ v.toInt ∧ v.toInt ≤ 1 → jJ jSgX Dy hx9 → jSm fp_X11_holds_r31d h0 hx9 → dr.1 = v.toInt → dr.2 = vw hx9 → Q (some (.int v)) hx9) : ∀ (h : jH), jJ jSgX Dy h → jSm fp_X11_holds_r31d h0 h → d_X11_holds_r31d_300066  (vw h) = dr → jX m_X11_holds 8 0 0 66 [] [.int 1] h 0 0 Q := by
  intro  h    J Sm D
  unfold d_X11_holds_r31d_300066 at D
  refine x_iret rfl rfl ?_
  exact hQ _ _ (jr_of jk_1 (by omega)) J Sm ((congrArg Prod.fst D).symm.trans (show 1 = (1 : Int32).toInt from by have := jk_1; omega)) (congrArg Prod.snd D).symm
set_option maxRecDepth 100000 in
set_option maxHeartbeats 4000000 in
theorem sf_X11_holds_r31d {Dy : jH → Prop} {h : jH} {Q : Option Value → jH → Prop} {dr : (Int × jW)} {a1 : Int32} {a2 : Int32} {a3 : Int32} {a4 : Int32} {a5 : Int32} (hD : jDk Dy) (J : jJ jSgX Dy h) (D : d_X11_holds_r31d a1.toInt a2.toInt a3.toInt a4.toInt a5.toInt (vw h) = dr) (hQ : ∀ (v : Int32) hx9, (-1) ≤ v.toInt ∧ v.toInt ≤ 1 → jJ jSgX Dy hx9 → jSm fp_X11_holds_r31d h hx9 → dr.1 = v.toInt → dr.2 = vw hx9 → Q (some (.int v)) hx9) : jC m_X11_holds 8 0 0 [.ref 31, .int a1, .int a2, .int a3, .int a4, .int a5] h Q := by
  refine jC.of rfl k_X11_holds rfl ?_
  have Sm := jSm_rf fp_X11_holds_r31d h
  have ea1 := jfull a1
  have ea2 := jfull a2
  have ea3 := jfull a3
  have ea4 := jfull a4
  have ea5 := jfull a5
  show jX m_X11_holds 8 0 0 0 [(0, .ref 31), (1, .int a1), (2, .int a2), (3, .int a3), (4, .int a4), (5, .int a5)] [] _ 0 0 _
  unfold d_X11_holds_r31d at D
  refine x_aloadn (x := 31) rfl rfl ?_
  refine x_iloadn (x := a1) rfl rfl ?_
  refine x_iloadn (x := a2) rfl rfl ?_
  refine x_inv (N := m_X11_isClause) (As := [.int a1, .int a2]) (b := 31) (st := []) (dx9 := 7) (mc := 0) (ms := 0) (host := "") 11 rfl t_X11_isClause ⟨Or.inl q_11_336, i_X11_isClause.1, i_X11_isClause.2⟩ ⟨by decide, rfl⟩ (congrArg Prod.fst (J.1.1 31 (11, 13) rfl)) rfl (by decide) rfl rfl ⟨by decide, by decide⟩ (jC.of rfl k_X11_isClause rfl ?_)
  show jX m_X11_isClause 7 0 0 0 [(0, .ref 31), (1, .int a1), (2, .int a2)] [] _ 0 0 _
  refine x_iloadn (x := a1) rfl rfl ?_
  refine x_iflt (tgt := 27) rfl rfl (ti_lt rfl jk_0 ⟨fun c1 => ?_, fun c1 => ?_⟩)
  ·
    rw [if_pos (by omega)] at D
    refine x_iconst (v := 0) rfl ki_0 ?_
    refine x_zret rfl rfl (by decide) ?_
    show jX m_X11_holds 8 0 0 6 [(0, .ref 31), (1, .int a1), (2, .int a2), (3, .int a3), (4, .int a4), (5, .int a5)] [.int 0] _ 0 0 _
    refine x_ifeq (tgt := 17) rfl rfl (ti_eq jk_0 jk_0 (br_t (by omega) ?_))
    exact jX.sub jsb_n (ct_X11_holds_r31d_17 hD hQ  h J Sm D)
  ·
    rw [if_neg (by omega)] at D
    refine x_iloadn (x := a1) rfl rfl ?_
    refine x_aloadn (x := 31) rfl rfl ?_
    refine z_getR (N := 13) (b := 32) 11 0 rfl f_11_10 rfl J rfl 3968 ⟨rfl, rfl⟩ rfl ?_
    refine z_getI (N := 20) 1 18 rfl f_11_325 rfl J rfl sg_32_18_19_1_0_1 (fun v2 qv2 ev2 => ?_)
    try rw [vrf qv2] at D
    refine x_icge (tgt := 27) rfl rfl (ti_ge rfl rfl ⟨fun c3 => ?_, fun c3 => ?_⟩)
    ·
      rw [if_pos (by omega)] at D
      refine x_iconst (v := 0) rfl ki_0 ?_
      refine x_zret rfl rfl (by decide) ?_
      show jX m_X11_holds 8 0 0 6 [(0, .ref 31), (1, .int a1), (2, .int a2), (3, .int a3), (4, .int a4), (5, .int a5)] [.int 0] _ 0 0 _
      refine x_ifeq (tgt := 17) rfl rfl (ti_eq jk_0 jk_0 (br_t (by omega) ?_))
      exact jX.sub jsb_n (ct_X11_holds_r31d_17 hD hQ  h J Sm D)
    ·
      rw [if_neg (by omega)] at D
      refine x_iloadn (x := a1) rfl rfl ?_
      refine x_aloadn (x := 31) rfl rfl ?_
      refine z_getR (N := 13) (b := 32) 11 0 rfl f_11_10 rfl J rfl 3968 ⟨rfl, rfl⟩ rfl ?_
      refine z_getR (N := 20) (b := 66) 1 17 rfl f_11_332 rfl J rfl 4113 ⟨rfl, rfl⟩ rfl ?_
      refine z_alen (N := 30) (v := 30) rfl J rfl rfl (by decide) ?_
      refine x_iclt (tgt := 29) rfl rfl (ti_lt rfl jk_30 (br_t (by omega) ?_))
      refine x_aloadn (x := 31) rfl rfl ?_
      refine z_getR (N := 13) (b := 32) 11 0 rfl f_11_10 rfl J rfl 3968 ⟨rfl, rfl⟩ rfl ?_
      refine z_getR (N := 20) (b := 66) 1 17 rfl f_11_332 rfl J rfl 4113 ⟨rfl, rfl⟩ rfl ?_
      refine x_iloadn (x := a1) rfl rfl ?_
      refine z_aaldTD rfl hD J rfl rfl (by omega) ⟨fun qb4 => ?_, fun b4 qb4 Tb4 => ?_⟩
      ·
        rw [if_pos (vnn qb4 (show a1.toInt = a1.toInt from by omega))] at D
        refine x_astorenN (lsx9 := [(3, .null), (0, .ref 31), (1, .int a1), (2, .int a2)]) rfl rfl rfl ?_
        refine x_aloadnN rfl rfl ?_
        refine x_ifnullN (tgt := 59) rfl rfl ?_
        refine x_iconst (v := 0) rfl ki_0 ?_
        refine x_zret rfl rfl (by decide) ?_
        show jX m_X11_holds 8 0 0 6 [(0, .ref 31), (1, .int a1), (2, .int a2), (3, .int a3), (4, .int a4), (5, .int a5)] [.int 0] _ 0 0 _
        refine x_ifeq (tgt := 17) rfl rfl (ti_eq jk_0 jk_0 (br_t (by omega) ?_))
        exact jX.sub jsb_n (ct_X11_holds_r31d_17 hD hQ  h J Sm D)
      ·
        rw [if_neg (vns qb4 (show a1.toInt = a1.toInt from by omega))] at D
        try rw [vrs qb4 (show a1.toInt = a1.toInt from by omega)] at D
        refine x_astoren (lsx9 := [(3, .ref b4), (0, .ref 31), (1, .int a1), (2, .int a2)]) rfl rfl rfl ?_
        refine x_aloadn (x := b4) rfl rfl ?_
        refine x_ifnull rfl ?_
        refine x_iloadn (x := a2) rfl rfl ?_
        refine x_iflt (tgt := 59) rfl rfl (ti_lt rfl jk_0 ⟨fun c5 => ?_, fun c5 => ?_⟩)
        ·
          rw [if_pos (by omega)] at D
          refine x_iconst (v := 0) rfl ki_0 ?_
          refine x_zret rfl rfl (by decide) ?_
          show jX m_X11_holds 8 0 0 6 [(0, .ref 31), (1, .int a1), (2, .int a2), (3, .int a3), (4, .int a4), (5, .int a5)] [.int 0] _ 0 0 _
          refine x_ifeq (tgt := 17) rfl rfl (ti_eq jk_0 jk_0 (br_t (by omega) ?_))
          exact jX.sub jsb_n (ct_X11_holds_r31d_17 hD hQ  h J Sm D)
        ·
          rw [if_neg (by omega)] at D
          refine x_iloadn (x := a2) rfl rfl ?_
          refine x_aloadn (x := b4) rfl rfl ?_
          refine z_getTcD rfl f_11_532 Tb4 (fun v6 qv6 ev6 => ?_)
          try rw [vrf qv6] at D
          refine x_icge (tgt := 59) rfl rfl (ti_ge rfl rfl ⟨fun c7 => ?_, fun c7 => ?_⟩)
          ·
            rw [if_pos (by omega)] at D
            refine x_iconst (v := 0) rfl ki_0 ?_
            refine x_zret rfl rfl (by decide) ?_
            show jX m_X11_holds 8 0 0 6 [(0, .ref 31), (1, .int a1), (2, .int a2), (3, .int a3), (4, .int a4), (5, .int a5)] [.int 0] _ 0 0 _
            refine x_ifeq (tgt := 17) rfl rfl (ti_eq jk_0 jk_0 (br_t (by omega) ?_))
            exact jX.sub jsb_n (ct_X11_holds_r31d_17 hD hQ  h J Sm D)
          ·
            rw [if_neg (by omega)] at D
            refine x_iconst (v := 1) rfl ki_1 ?_
            refine x_goto (tgt := 60) rfl rfl ?_
            refine x_zret rfl rfl (by decide) ?_
            show jX m_X11_holds 8 0 0 6 [(0, .ref 31), (1, .int a1), (2, .int a2), (3, .int a3), (4, .int a4), (5, .int a5)] [.int 1] _ 0 0 _
            refine x_ifeq (tgt := 17) rfl rfl (ti_eq jk_1 jk_0 (br_f (by omega) ?_))
            refine x_iload (x := a4) rfl rfl ?_
            refine x_inst (N := m_X11_isDay) (As := [.int a4]) (st := []) (dx9 := 1) (mc := 0) (ms := 0) (host := "") rfl t_X11_isDay ⟨Or.inl q_11_115, s_X11_isDay⟩ rfl (by decide) rfl rfl ⟨by decide, by decide⟩ (zc_X11_isDay rfl (fun v8 ev8 => ?_))
            show jX m_X11_holds 8 0 0 14 [(0, .ref 31), (1, .int a1), (2, .int a2), (3, .int a3), (4, .int a4), (5, .int a5)] [.int v8] _ 0 0 _
            refine x_ifne (tgt := 19) rfl rfl (ti_ne rfl jk_0 ⟨fun c9 => ?_, fun c9 => ?_⟩)
            ·
              rw [if_pos (by omega)] at D
              refine x_aloadn (x := 31) rfl rfl ?_
              refine x_iloadn (x := a3) rfl rfl ?_
              refine x_iload (x := a5) rfl rfl ?_
              refine x_inv (N := m_X11_soulOn) (As := [.int a3, .int a5]) (b := 31) (st := []) (dx9 := 7) (mc := 0) (ms := 0) (host := "") 11 rfl t_X11_soulOn ⟨Or.inl q_11_234, i_X11_soulOn.1, i_X11_soulOn.2⟩ ⟨by decide, rfl⟩ (congrArg Prod.fst (J.1.1 31 (11, 13) rfl)) rfl (by decide) rfl rfl ⟨by decide, by decide⟩ (jC.of rfl k_X11_soulOn rfl ?_)
              show jX m_X11_soulOn 7 0 0 0 [(0, .ref 31), (1, .int a3), (2, .int a5)] [] _ 0 0 _
              refine x_iloadn (x := a5) rfl rfl ?_
              refine x_inst (N := m_X11_isDay) (As := [.int a5]) (st := []) (dx9 := 1) (mc := 0) (ms := 0) (host := "") rfl t_X11_isDay ⟨Or.inl q_11_115, s_X11_isDay⟩ rfl (by decide) rfl rfl ⟨by decide, by decide⟩ (zc_X11_isDay rfl (fun v10 ev10 => ?_))
              show jX m_X11_soulOn 7 0 0 4 [(0, .ref 31), (1, .int a3), (2, .int a5)] [.int v10] _ 0 0 _
              refine x_ifeq (tgt := 18) rfl rfl (ti_eq rfl jk_0 ⟨fun c11 => ?_, fun c11 => ?_⟩)
              ·
                rw [if_neg (by omega)] at D
                refine x_iconst (v := (-1)) rfl ki_m1 ?_
                refine x_iret rfl rfl ?_
                show jX m_X11_holds 8 0 0 26 [(0, .ref 31), (1, .int a1), (2, .int a2), (3, .int a3), (4, .int a4), (5, .int a5)] [.int (-1)] _ 0 0 _
                refine x_istore (lsx9 := [(6, .int (-1)), (0, .ref 31), (1, .int a1), (2, .int a2), (3, .int a3), (4, .int a4), (5, .int a5)]) rfl rfl rfl ?_
                refine x_iload (x := (-1)) rfl rfl ?_
                refine x_iconst (v := (-1)) rfl ki_m1 ?_
                refine x_icne (tgt := 36) rfl rfl (ti_ne jk_m1 jk_m1 (bn_f (by omega) ?_))
                refine x_iconst (v := (-1)) rfl ki_m1 ?_
                refine x_iret rfl rfl ?_
                exact hQ _ _ (jr_of jk_m1 (by omega)) J Sm ((congrArg Prod.fst D).symm.trans (show (-1) = ((-1) : Int32).toInt from by have := jk_m1; omega)) (congrArg Prod.snd D).symm
              ·
                rw [if_pos (by omega)] at D
                refine x_aloadn (x := 31) rfl rfl ?_
                refine z_getR (N := 13) (b := 78) 11 4 rfl f_11_41 rfl J rfl 3972 ⟨rfl, rfl⟩ rfl ?_
                refine x_iloadn (x := a3) rfl rfl ?_
                refine x_inv (N := m_X7_isMention) (As := [.int a3]) (b := 78) (st := []) (dx9 := 6) (mc := 0) (ms := 0) (host := "") 7 rfl t_X7_isMention ⟨Or.inl q_11_187, i_X7_isMention.1, i_X7_isMention.2⟩ ⟨by decide, rfl⟩ (congrArg Prod.fst (J.1.1 78 (7, 16) rfl)) rfl (by decide) rfl rfl ⟨by decide, by decide⟩ (jC.of rfl k_X7_isMention rfl ?_)
                show jX m_X7_isMention 6 0 0 0 [(0, .ref 78), (1, .int a3)] [] _ 0 0 _
                refine x_iloadn (x := a3) rfl rfl ?_
                refine x_iflt (tgt := 41) rfl rfl (ti_lt rfl jk_0 ⟨fun c12 => ?_, fun c12 => ?_⟩)
                ·
                  rw [if_pos (by omega)] at D
                  refine x_iconst (v := 0) rfl ki_0 ?_
                  refine x_zret rfl rfl (by decide) ?_
                  show jX m_X11_soulOn 7 0 0 15 [(0, .ref 31), (1, .int a3), (2, .int a5)] [.int 0] _ 0 0 _
                  refine x_ifne (tgt := 20) rfl rfl (ti_ne jk_0 jk_0 (bn_f (by omega) ?_))
                  refine x_iconst (v := (-1)) rfl ki_m1 ?_
                  refine x_iret rfl rfl ?_
                  show jX m_X11_holds 8 0 0 26 [(0, .ref 31), (1, .int a1), (2, .int a2), (3, .int a3), (4, .int a4), (5, .int a5)] [.int (-1)] _ 0 0 _
                  refine x_istore (lsx9 := [(6, .int (-1)), (0, .ref 31), (1, .int a1), (2, .int a2), (3, .int a3), (4, .int a4), (5, .int a5)]) rfl rfl rfl ?_
                  refine x_iload (x := (-1)) rfl rfl ?_
                  refine x_iconst (v := (-1)) rfl ki_m1 ?_
                  refine x_icne (tgt := 36) rfl rfl (ti_ne jk_m1 jk_m1 (bn_f (by omega) ?_))
                  refine x_iconst (v := (-1)) rfl ki_m1 ?_
                  refine x_iret rfl rfl ?_
                  exact hQ _ _ (jr_of jk_m1 (by omega)) J Sm ((congrArg Prod.fst D).symm.trans (show (-1) = ((-1) : Int32).toInt from by have := jk_m1; omega)) (congrArg Prod.snd D).symm
                ·
                  rw [if_neg (by omega)] at D
                  refine x_iloadn (x := a3) rfl rfl ?_
                  refine x_sipush (v := 600) rfl ks_600 ?_
                  refine x_icge (tgt := 41) rfl rfl (ti_ge rfl jk_600 ⟨fun c13 => ?_, fun c13 => ?_⟩)
                  ·
                    rw [if_pos (by omega)] at D
                    refine x_iconst (v := 0) rfl ki_0 ?_
                    refine x_zret rfl rfl (by decide) ?_
                    show jX m_X11_soulOn 7 0 0 15 [(0, .ref 31), (1, .int a3), (2, .int a5)] [.int 0] _ 0 0 _
                    refine x_ifne (tgt := 20) rfl rfl (ti_ne jk_0 jk_0 (bn_f (by omega) ?_))
                    refine x_iconst (v := (-1)) rfl ki_m1 ?_
                    refine x_iret rfl rfl ?_
                    show jX m_X11_holds 8 0 0 26 [(0, .ref 31), (1, .int a1), (2, .int a2), (3, .int a3), (4, .int a4), (5, .int a5)] [.int (-1)] _ 0 0 _
                    refine x_istore (lsx9 := [(6, .int (-1)), (0, .ref 31), (1, .int a1), (2, .int a2), (3, .int a3), (4, .int a4), (5, .int a5)]) rfl rfl rfl ?_
                    refine x_iload (x := (-1)) rfl rfl ?_
                    refine x_iconst (v := (-1)) rfl ki_m1 ?_
                    refine x_icne (tgt := 36) rfl rfl (ti_ne jk_m1 jk_m1 (bn_f (by omega) ?_))
                    refine x_iconst (v := (-1)) rfl ki_m1 ?_
                    refine x_iret rfl rfl ?_
                    exact hQ _ _ (jr_of jk_m1 (by omega)) J Sm ((congrArg Prod.fst D).symm.trans (show (-1) = ((-1) : Int32).toInt from by have := jk_m1; omega)) (congrArg Prod.snd D).symm
                  ·
                    rw [if_neg (by omega)] at D
                    refine x_iloadn (x := a3) rfl rfl ?_
                    refine x_iconst (v := 3) rfl ki_3 ?_
                    refine z_idiv rfl rfl jk_3 (by omega) (by omega) (fun v14 ev14 => ?_)
                    refine x_aloadn (x := 78) rfl rfl ?_
                    refine z_getR (N := 16) (b := 32) 7 0 rfl f_7_55 rfl J rfl 9984 ⟨rfl, rfl⟩ rfl ?_
                    refine z_getR (N := 20) (b := 33) 1 0 rfl f_7_63 rfl J rfl 4096 ⟨rfl, rfl⟩ rfl ?_
                    refine z_getI (N := 4) 8 3 rfl f_7_85 rfl J rfl sg_33_3_4_1_0_1 (fun v15 qv15 ev15 => ?_)
                    try rw [vrf qv15] at D
                    refine x_icge (tgt := 41) rfl rfl (ti_ge rfl rfl ⟨fun c16 => ?_, fun c16 => ?_⟩)
                    ·
                      rw [if_pos (by omega)] at D
                      refine x_iconst (v := 0) rfl ki_0 ?_
                      refine x_zret rfl rfl (by decide) ?_
                      show jX m_X11_soulOn 7 0 0 15 [(0, .ref 31), (1, .int a3), (2, .int a5)] [.int 0] _ 0 0 _
                      refine x_ifne (tgt := 20) rfl rfl (ti_ne jk_0 jk_0 (bn_f (by omega) ?_))
                      refine x_iconst (v := (-1)) rfl ki_m1 ?_
                      refine x_iret rfl rfl ?_
                      show jX m_X11_holds 8 0 0 26 [(0, .ref 31), (1, .int a1), (2, .int a2), (3, .int a3), (4, .int a4), (5, .int a5)] [.int (-1)] _ 0 0 _
                      refine x_istore (lsx9 := [(6, .int (-1)), (0, .ref 31), (1, .int a1), (2, .int a2), (3, .int a3), (4, .int a4), (5, .int a5)]) rfl rfl rfl ?_
                      refine x_iload (x := (-1)) rfl rfl ?_
                      refine x_iconst (v := (-1)) rfl ki_m1 ?_
                      refine x_icne (tgt := 36) rfl rfl (ti_ne jk_m1 jk_m1 (bn_f (by omega) ?_))
                      refine x_iconst (v := (-1)) rfl ki_m1 ?_
                      refine x_iret rfl rfl ?_
                      exact hQ _ _ (jr_of jk_m1 (by omega)) J Sm ((congrArg Prod.fst D).symm.trans (show (-1) = ((-1) : Int32).toInt from by have := jk_m1; omega)) (congrArg Prod.snd D).symm
                    ·
                      rw [if_neg (by omega)] at D
                      refine x_aloadn (x := 78) rfl rfl ?_
                      refine z_getR (N := 16) (b := 79) 7 7 rfl f_7_27 rfl J rfl 9991 ⟨rfl, rfl⟩ rfl ?_
                      refine x_iloadn (x := a3) rfl rfl ?_
                      refine z_iald (N := 600) rfl J rfl sg_79_0_600_1_0_1 rfl (by omega) (fun v17 qv17 ev17 => ?_)
                      try rw [vrd qv17 (show a3.toInt = a3.toInt from by omega)] at D
                      refine x_iconst (v := (-1)) rfl ki_m1 ?_
                      refine x_iceq (tgt := 41) rfl rfl (ti_eq rfl jk_m1 ⟨fun c18 => ?_, fun c18 => ?_⟩)
                      ·
                        rw [if_pos (by omega)] at D
                        refine x_iconst (v := 0) rfl ki_0 ?_
                        refine x_zret rfl rfl (by decide) ?_
                        show jX m_X11_soulOn 7 0 0 15 [(0, .ref 31), (1, .int a3), (2, .int a5)] [.int 0] _ 0 0 _
                        refine x_ifne (tgt := 20) rfl rfl (ti_ne jk_0 jk_0 (bn_f (by omega) ?_))
                        refine x_iconst (v := (-1)) rfl ki_m1 ?_
                        refine x_iret rfl rfl ?_
                        show jX m_X11_holds 8 0 0 26 [(0, .ref 31), (1, .int a1), (2, .int a2), (3, .int a3), (4, .int a4), (5, .int a5)] [.int (-1)] _ 0 0 _
                        refine x_istore (lsx9 := [(6, .int (-1)), (0, .ref 31), (1, .int a1), (2, .int a2), (3, .int a3), (4, .int a4), (5, .int a5)]) rfl rfl rfl ?_
                        refine x_iload (x := (-1)) rfl rfl ?_
                        refine x_iconst (v := (-1)) rfl ki_m1 ?_
                        refine x_icne (tgt := 36) rfl rfl (ti_ne jk_m1 jk_m1 (bn_f (by omega) ?_))
                        refine x_iconst (v := (-1)) rfl ki_m1 ?_
                        refine x_iret rfl rfl ?_
                        exact hQ _ _ (jr_of jk_m1 (by omega)) J Sm ((congrArg Prod.fst D).symm.trans (show (-1) = ((-1) : Int32).toInt from by have := jk_m1; omega)) (congrArg Prod.snd D).symm
                      ·
                        rw [if_neg (by omega)] at D
                        refine x_iconst (v := 1) rfl ki_1 ?_
                        refine x_goto (tgt := 42) rfl rfl ?_
                        refine x_zret rfl rfl (by decide) ?_
                        show jX m_X11_soulOn 7 0 0 15 [(0, .ref 31), (1, .int a3), (2, .int a5)] [.int 1] _ 0 0 _
                        refine x_ifne (tgt := 20) rfl rfl (ti_ne jk_1 jk_0 (bn_t (by omega) ?_))
                        refine x_aloadn (x := 31) rfl rfl ?_
                        refine z_getR (N := 13) (b := 78) 11 4 rfl f_11_41 rfl J rfl 3972 ⟨rfl, rfl⟩ rfl ?_
                        refine x_iloadn (x := a5) rfl rfl ?_
                        refine x_inv (N := m_X7_asKnown) (As := [.int a5]) (b := 78) (st := []) (dx9 := 6) (mc := 0) (ms := 0) (host := "") 7 rfl t_X7_asKnown ⟨Or.inl q_11_240, i_X7_asKnown.1, i_X7_asKnown.2⟩ ⟨by decide, rfl⟩ (congrArg Prod.fst (J.1.1 78 (7, 16) rfl)) rfl (by decide) rfl rfl ⟨by decide, by decide⟩ (sf_X7_asKnown_r78d (jr_of rfl (by omega)) hD J rfl  (fun h J S19 X20 => ?_))
                        have Sm := jSm_tr rfl Sm S19
                        rw [X20] at D
                        show jX m_X11_soulOn 7 0 0 28 [(0, .ref 31), (1, .int a3), (2, .int a5)] [] _ 0 0 _
                        refine x_aloadn (x := 31) rfl rfl ?_
                        refine z_getR (N := 13) (b := 78) 11 4 rfl f_11_41 rfl J rfl 3972 ⟨rfl, rfl⟩ rfl ?_
                        refine z_getR (N := 16) (b := 82) 7 10 rfl f_11_537 rfl J rfl 9994 ⟨rfl, rfl⟩ rfl ?_
                        refine x_iloadn (x := a3) rfl rfl ?_
                        refine z_iald (N := 600) rfl J rfl sg_82_0_600_1_0_1 rfl (by omega) (fun v21 qv21 ev21 => ?_)
                        try rw [vrd qv21 (show a3.toInt = a3.toInt from by omega)] at D
                        refine x_iret rfl rfl ?_
                        show jX m_X11_holds 8 0 0 26 [(0, .ref 31), (1, .int a1), (2, .int a2), (3, .int a3), (4, .int a4), (5, .int a5)] [.int v21] _ 0 0 _
                        refine x_istore (lsx9 := [(6, .int v21), (0, .ref 31), (1, .int a1), (2, .int a2), (3, .int a3), (4, .int a4), (5, .int a5)]) rfl rfl rfl ?_
                        refine x_iload (x := v21) rfl rfl ?_
                        refine x_iconst (v := (-1)) rfl ki_m1 ?_
                        refine x_icne (tgt := 36) rfl rfl (ti_ne rfl jk_m1 ⟨fun c22 => ?_, fun c22 => ?_⟩)
                        ·
                          rw [if_neg (by omega)] at D
                          refine x_aloadn (x := 31) rfl rfl ?_
                          refine z_getR (N := 13) (b := 98) 11 7 rfl f_11_66 rfl J rfl 3975 ⟨rfl, rfl⟩ rfl ?_
                          refine x_iload (x := a4) rfl rfl ?_
                          refine x_iload (x := a5) rfl rfl ?_
                          refine x_inv (N := m_X0_turnTo) (As := [.int a4, .int a5]) (b := 98) (st := []) (dx9 := 7) (mc := 0) (ms := 0) (host := "") 0 rfl t_X0_turnTo ⟨Or.inl q_11_345, i_X0_turnTo.1, i_X0_turnTo.2⟩ ⟨by decide, rfl⟩ (congrArg Prod.fst (J.1.1 98 (0, 16) rfl)) rfl (by decide) rfl rfl ⟨by decide, by decide⟩ (jC.of rfl k_X0_turnTo rfl ?_)
                          show jX m_X0_turnTo 7 0 0 0 [(0, .ref 98), (1, .int a4), (2, .int a5)] [] _ 0 0 _
                          refine x_aloadn (x := 98) rfl rfl ?_
                          refine x_iloadn (x := a4) rfl rfl ?_
                          refine x_iloadn (x := a5) rfl rfl ?_
                          refine x_inv (N := m_X0_readLaws) (As := [.int a4, .int a5]) (b := 98) (st := []) (dx9 := 3) (mc := 0) (ms := 0) (host := "") 0 rfl t_X0_readLaws ⟨Or.inl q_0_65, i_X0_readLaws.1, i_X0_readLaws.2⟩ ⟨by decide, rfl⟩ (congrArg Prod.fst (J.1.1 98 (0, 16) rfl)) rfl (by decide) rfl rfl ⟨by decide, by decide⟩ (sf_X0_readLaws_r98d (jr_of rfl (by omega)) (jr_of rfl (by omega)) hD J rfl  (fun h J S23 X24 => ?_))
                          have Sm := jSm_tr rfl Sm S23
                          rw [X24] at D
                          show jX m_X0_turnTo 7 0 0 6 [(0, .ref 98), (1, .int a4), (2, .int a5)] [] _ 0 0 _
                          refine x_aloadn (x := 98) rfl rfl ?_
                          refine x_iloadn (x := a4) rfl rfl ?_
                          refine x_iloadn (x := a5) rfl rfl ?_
                          refine x_inv (N := m_X0_readHouses) (As := [.int a4, .int a5]) (b := 98) (st := []) (dx9 := 3) (mc := 0) (ms := 0) (host := "") 0 rfl t_X0_readHouses ⟨Or.inl q_0_69, i_X0_readHouses.1, i_X0_readHouses.2⟩ ⟨by decide, rfl⟩ (congrArg Prod.fst (J.1.1 98 (0, 16) rfl)) rfl (by decide) rfl rfl ⟨by decide, by decide⟩ (sf_X0_readHouses_r98d (jr_of rfl (by omega)) (jr_of rfl (by omega)) hD J rfl  (fun h J S25 X26 => ?_))
                          have Sm := jSm_tr rfl Sm S25
                          rw [X26] at D
                          show jX m_X0_turnTo 7 0 0 12 [(0, .ref 98), (1, .int a4), (2, .int a5)] [] _ 0 0 _
                          refine x_vret rfl rfl ?_
                          show jX m_X11_holds 8 0 0 47 [(6, .int v21), (0, .ref 31), (1, .int a1), (2, .int a2), (3, .int a3), (4, .int a4), (5, .int a5)] [] _ 0 0 _
                          refine x_aloadn (x := 31) rfl rfl ?_
                          refine z_getR (N := 13) (b := 98) 11 7 rfl f_11_66 rfl J rfl 3975 ⟨rfl, rfl⟩ rfl ?_
                          refine x_iloadn (x := a1) rfl rfl ?_
                          refine x_iloadn (x := a2) rfl rfl ?_
                          refine x_iload (x := v21) rfl rfl ?_
                          refine x_inv (N := m_X0_holdsFor) (As := [.int a1, .int a2, .int v21]) (b := 98) (st := []) (dx9 := 5) (mc := 0) (ms := 0) (host := "") 0 rfl t_X0_holdsFor ⟨Or.inl q_11_348, i_X0_holdsFor.1, i_X0_holdsFor.2⟩ ⟨by decide, rfl⟩ (congrArg Prod.fst (J.1.1 98 (0, 16) rfl)) rfl (by decide) rfl rfl ⟨by decide, by decide⟩ (sf_X0_holdsFor_r98d (jr_of rfl (by omega)) (jr_of rfl (by omega)) (jr_of rfl (by omega)) hD J rfl  (fun v30 h ev30 J S27 X28 X29 => ?_))
                          have Sm := jSm_tr rfl Sm S27
                          try rw [X28] at D
                          try rw [X29] at D
                          show jX m_X11_holds 8 0 0 58 [(6, .int v21), (0, .ref 31), (1, .int a1), (2, .int a2), (3, .int a3), (4, .int a4), (5, .int a5)] [.int v30] _ 0 0 _
                          refine x_ifeq (tgt := 65) rfl rfl (ti_eq rfl jk_0 ⟨fun c31 => ?_, fun c31 => ?_⟩)
                          ·
                            rw [if_pos (by omega)] at D
                            refine x_iconst (v := 0) rfl ki_0 ?_
                            exact jX.sub jsb_n (ct_X11_holds_r31d_200066 hD hQ  h J Sm D)
                          ·
                            rw [if_neg (by omega)] at D
                            refine x_iconst (v := 1) rfl ki_1 ?_
                            refine x_goto (tgt := 66) rfl rfl ?_
                            exact jX.sub jsb_n (ct_X11_holds_r31d_300066 hD hQ  h J Sm D)
                        ·
                          rw [if_pos (by omega)] at D
                          refine x_iconst (v := (-1)) rfl ki_m1 ?_
                          refine x_iret rfl rfl ?_
                          exact hQ _ _ (jr_of jk_m1 (by omega)) J Sm ((congrArg Prod.fst D).symm.trans (show (-1) = ((-1) : Int32).toInt from by have := jk_m1; omega)) (congrArg Prod.snd D).symm
            ·
              rw [if_neg (by omega)] at D
              exact jX.sub jsb_n (ct_X11_holds_r31d_17 hD hQ  h J Sm D)
def fp_X11_house_r31d : jFp := [(78, 13, 14), (82, 0, 600), (83, 0, 600), (84, 0, 200), (86, 0, 3), (98, 10, 11), (98, 11, 12), (102, 0, 40), (103, 0, 40), (104, 0, 40), (105, 0, 3)]
set_option maxRecDepth 100000 in
set_option maxHeartbeats 4000000 in
theorem ct_X11_house_r31d_33 {Dy : jH → Prop} {h0 : jH} {Q : Option Value → jH → Prop} {dr : (Int × jW)} (hD : jDk Dy) (hQ : ∀ (v : Int32) hx9, jJ jSgX Dy hx9 → jSm fp_X11_house_r31d h0 hx9 → dr.1 = v.toInt → dr.2 = vw hx9 → Q (some (.int v)) hx9) : ∀ (h : jH), jJ jSgX Dy h → jSm fp_X11_house_r31d h0 h → d_X11_house_r31d_33  (vw h) = dr → jX m_X11_house 7 0 0 33 [] [] h 0 0 Q := by
  intro  h    J Sm D
  unfold d_X11_house_r31d_33 at D
  refine x_iconst (v := (-1)) rfl ki_m1 ?_
  refine x_iret rfl rfl ?_
  exact hQ _ _ J Sm ((congrArg Prod.fst D).symm.trans (show (-1) = ((-1) : Int32).toInt from by have := jk_m1; omega)) (congrArg Prod.snd D).symm
set_option maxRecDepth 100000 in
set_option maxHeartbeats 4000000 in
theorem ct_X11_house_r31d_78 {Dy : jH → Prop} {h0 : jH} {Q : Option Value → jH → Prop} {dr : (Int × jW)} (hD : jDk Dy) (hQ : ∀ (v : Int32) hx9, jJ jSgX Dy hx9 → jSm fp_X11_house_r31d h0 hx9 → dr.1 = v.toInt → dr.2 = vw hx9 → Q (some (.int v)) hx9) : ∀ (s0 : Int32) (h : jH), jJ jSgX Dy h → jSm fp_X11_house_r31d h0 h → d_X11_house_r31d_78  s0.toInt (vw h) = dr → jX m_X11_house 7 0 0 78 [] [.int s0] h 0 0 Q := by
  intro s0 h    J Sm D
  have es0 := jfull s0
  unfold d_X11_house_r31d_78 at D
  refine x_iret rfl rfl ?_
  exact hQ _ _ J Sm ((congrArg Prod.fst D).symm.trans (show s0.toInt = s0.toInt from by omega)) (congrArg Prod.snd D).symm
set_option maxRecDepth 100000 in
set_option maxHeartbeats 4000000 in
theorem sf_X11_house_r31d {Dy : jH → Prop} {h : jH} {Q : Option Value → jH → Prop} {dr : (Int × jW)} {a1 : Int32} {a2 : Int32} {a3 : Int32} {a4 : Int32} (hD : jDk Dy) (J : jJ jSgX Dy h) (D : d_X11_house_r31d a1.toInt a2.toInt a3.toInt a4.toInt (vw h) = dr) (hQ : ∀ (v : Int32) hx9, jJ jSgX Dy hx9 → jSm fp_X11_house_r31d h hx9 → dr.1 = v.toInt → dr.2 = vw hx9 → Q (some (.int v)) hx9) : jC m_X11_house 7 0 0 [.ref 31, .int a1, .int a2, .int a3, .int a4] h Q := by
  refine jC.of rfl k_X11_house rfl ?_
  have Sm := jSm_rf fp_X11_house_r31d h
  have ea1 := jfull a1
  have ea2 := jfull a2
  have ea3 := jfull a3
  have ea4 := jfull a4
  show jX m_X11_house 7 0 0 0 [(0, .ref 31), (1, .int a1), (2, .int a2), (3, .int a3), (4, .int a4)] [] _ 0 0 _
  unfold d_X11_house_r31d at D
  refine x_aloadn (x := 31) rfl rfl ?_
  refine x_iloadn (x := a1) rfl rfl ?_
  refine x_inv (N := m_X11_isHolding) (As := [.int a1]) (b := 31) (st := []) (dx9 := 6) (mc := 0) (ms := 0) (host := "") 11 rfl t_X11_isHolding ⟨Or.inl q_11_415, i_X11_isHolding.1, i_X11_isHolding.2⟩ ⟨by decide, rfl⟩ (congrArg Prod.fst (J.1.1 31 (11, 13) rfl)) rfl (by decide) rfl rfl ⟨by decide, by decide⟩ (jC.of rfl k_X11_isHolding rfl ?_)
  show jX m_X11_isHolding 6 0 0 0 [(0, .ref 31), (1, .int a1)] [] _ 0 0 _
  refine x_iloadn (x := a1) rfl rfl ?_
  refine x_iflt (tgt := 28) rfl rfl (ti_lt rfl jk_0 ⟨fun c1 => ?_, fun c1 => ?_⟩)
  ·
    rw [if_pos (by omega)] at D
    refine x_iconst (v := 0) rfl ki_0 ?_
    refine x_zret rfl rfl (by decide) ?_
    show jX m_X11_house 7 0 0 5 [(0, .ref 31), (1, .int a1), (2, .int a2), (3, .int a3), (4, .int a4)] [.int 0] _ 0 0 _
    refine x_ifeq (tgt := 33) rfl rfl (ti_eq jk_0 jk_0 (br_t (by omega) ?_))
    exact jX.sub jsb_n (ct_X11_house_r31d_33 hD hQ  h J Sm D)
  ·
    rw [if_neg (by omega)] at D
    refine x_iloadn (x := a1) rfl rfl ?_
    refine x_aloadn (x := 31) rfl rfl ?_
    refine z_getR (N := 13) (b := 32) 11 0 rfl f_11_10 rfl J rfl 3968 ⟨rfl, rfl⟩ rfl ?_
    refine z_getR (N := 20) (b := 49) 1 8 rfl f_11_408 rfl J rfl 4104 ⟨rfl, rfl⟩ rfl ?_
    refine z_getI (N := 4) 8 3 rfl f_11_142 rfl J rfl sg_49_3_4_1_0_1 (fun v2 qv2 ev2 => ?_)
    try rw [vrf qv2] at D
    refine x_icge (tgt := 28) rfl rfl (ti_ge rfl rfl ⟨fun c3 => ?_, fun c3 => ?_⟩)
    ·
      rw [if_pos (by omega)] at D
      refine x_iconst (v := 0) rfl ki_0 ?_
      refine x_zret rfl rfl (by decide) ?_
      show jX m_X11_house 7 0 0 5 [(0, .ref 31), (1, .int a1), (2, .int a2), (3, .int a3), (4, .int a4)] [.int 0] _ 0 0 _
      refine x_ifeq (tgt := 33) rfl rfl (ti_eq jk_0 jk_0 (br_t (by omega) ?_))
      exact jX.sub jsb_n (ct_X11_house_r31d_33 hD hQ  h J Sm D)
    ·
      rw [if_neg (by omega)] at D
      refine x_iloadn (x := a1) rfl rfl ?_
      refine x_bipush (v := 40) rfl kb_40 ?_
      refine x_icge (tgt := 28) rfl rfl (ti_ge rfl jk_40 (br_f (by omega) ?_))
      refine x_iconst (v := 1) rfl ki_1 ?_
      refine x_goto (tgt := 29) rfl rfl ?_
      refine x_zret rfl rfl (by decide) ?_
      show jX m_X11_house 7 0 0 5 [(0, .ref 31), (1, .int a1), (2, .int a2), (3, .int a3), (4, .int a4)] [.int 1] _ 0 0 _
      refine x_ifeq (tgt := 33) rfl rfl (ti_eq jk_1 jk_0 (br_f (by omega) ?_))
      refine x_iloadn (x := a2) rfl rfl ?_
      refine x_inst (N := m_X11_isDay) (As := [.int a2]) (st := []) (dx9 := 1) (mc := 0) (ms := 0) (host := "") rfl t_X11_isDay ⟨Or.inl q_11_115, s_X11_isDay⟩ rfl (by decide) rfl rfl ⟨by decide, by decide⟩ (zc_X11_isDay rfl (fun v4 ev4 => ?_))
      show jX m_X11_house 7 0 0 12 [(0, .ref 31), (1, .int a1), (2, .int a2), (3, .int a3), (4, .int a4)] [.int v4] _ 0 0 _
      refine x_ifeq (tgt := 33) rfl rfl (ti_eq rfl jk_0 ⟨fun c5 => ?_, fun c5 => ?_⟩)
      ·
        rw [if_neg (by omega)] at D
        exact jX.sub jsb_n (ct_X11_house_r31d_33 hD hQ  h J Sm D)
      ·
        rw [if_pos (by omega)] at D
        refine x_iloadn (x := a3) rfl rfl ?_
        refine x_inst (N := m_X11_isDay) (As := [.int a3]) (st := []) (dx9 := 1) (mc := 0) (ms := 0) (host := "") rfl t_X11_isDay ⟨Or.inl q_11_115, s_X11_isDay⟩ rfl (by decide) rfl rfl ⟨by decide, by decide⟩ (zc_X11_isDay rfl (fun v6 ev6 => ?_))
        show jX m_X11_house 7 0 0 19 [(0, .ref 31), (1, .int a1), (2, .int a2), (3, .int a3), (4, .int a4)] [.int v6] _ 0 0 _
        refine x_ifeq (tgt := 33) rfl rfl (ti_eq rfl jk_0 ⟨fun c7 => ?_, fun c7 => ?_⟩)
        ·
          rw [if_neg (by omega)] at D
          exact jX.sub jsb_n (ct_X11_house_r31d_33 hD hQ  h J Sm D)
        ·
          rw [if_pos (by omega)] at D
          refine x_iload (x := a4) rfl rfl ?_
          refine x_iflt (tgt := 33) rfl rfl (ti_lt rfl jk_0 ⟨fun c8 => ?_, fun c8 => ?_⟩)
          ·
            rw [if_pos (by omega)] at D
            exact jX.sub jsb_n (ct_X11_house_r31d_33 hD hQ  h J Sm D)
          ·
            rw [if_neg (by omega)] at D
            refine x_iload (x := a4) rfl rfl ?_
            refine x_iconst (v := 1) rfl ki_1 ?_
            refine x_icle (tgt := 35) rfl rfl (ti_le rfl jk_1 ⟨fun c9 => ?_, fun c9 => ?_⟩)
            ·
              rw [if_pos (by omega)] at D
              refine x_aloadn (x := 31) rfl rfl ?_
              refine z_getR (N := 13) (b := 78) 11 4 rfl f_11_41 rfl J rfl 3972 ⟨rfl, rfl⟩ rfl ?_
              refine x_iloadn (x := a3) rfl rfl ?_
              refine x_inv (N := m_X7_asKnown) (As := [.int a3]) (b := 78) (st := []) (dx9 := 6) (mc := 0) (ms := 0) (host := "") 7 rfl t_X7_asKnown ⟨Or.inl q_11_240, i_X7_asKnown.1, i_X7_asKnown.2⟩ ⟨by decide, rfl⟩ (congrArg Prod.fst (J.1.1 78 (7, 16) rfl)) rfl (by decide) rfl rfl ⟨by decide, by decide⟩ (sf_X7_asKnown_r78d (jr_of rfl (by omega)) hD J rfl  (fun h J S10 X11 => ?_))
              have Sm := jSm_tr rfl Sm S10
              rw [X11] at D
              show jX m_X11_house 7 0 0 43 [(0, .ref 31), (1, .int a1), (2, .int a2), (3, .int a3), (4, .int a4)] [] _ 0 0 _
              refine x_aloadn (x := 31) rfl rfl ?_
              refine z_getR (N := 13) (b := 98) 11 7 rfl f_11_66 rfl J rfl 3975 ⟨rfl, rfl⟩ rfl ?_
              refine x_iloadn (x := a2) rfl rfl ?_
              refine x_iloadn (x := a3) rfl rfl ?_
              refine x_inv (N := m_X0_readHouses) (As := [.int a2, .int a3]) (b := 98) (st := []) (dx9 := 3) (mc := 0) (ms := 0) (host := "") 0 rfl t_X0_readHouses ⟨Or.inl q_11_424, i_X0_readHouses.1, i_X0_readHouses.2⟩ ⟨by decide, rfl⟩ (congrArg Prod.fst (J.1.1 98 (0, 16) rfl)) rfl (by decide) rfl rfl ⟨by decide, by decide⟩ (sf_X0_readHouses_r98d (jr_of rfl (by omega)) (jr_of rfl (by omega)) hD J rfl  (fun h J S12 X13 => ?_))
              have Sm := jSm_tr rfl Sm S12
              rw [X13] at D
              show jX m_X11_house 7 0 0 52 [(0, .ref 31), (1, .int a1), (2, .int a2), (3, .int a3), (4, .int a4)] [] _ 0 0 _
              refine x_iload (x := a4) rfl rfl ?_
              refine x_ifne (tgt := 69) rfl rfl (ti_ne rfl jk_0 ⟨fun c14 => ?_, fun c14 => ?_⟩)
              ·
                rw [if_neg (by omega)] at D
                refine x_aloadn (x := 31) rfl rfl ?_
                refine z_getR (N := 13) (b := 98) 11 7 rfl f_11_66 rfl J rfl 3975 ⟨rfl, rfl⟩ rfl ?_
                refine z_getR (N := 16) (b := 103) 0 6 rfl f_11_430 rfl J rfl 12550 ⟨rfl, rfl⟩ rfl ?_
                refine x_iloadn (x := a1) rfl rfl ?_
                refine z_iald (N := 40) rfl J rfl sg_103_0_40_1_0_1 rfl (by omega) (fun v15 qv15 ev15 => ?_)
                try rw [vrd qv15 (show a1.toInt = a1.toInt from by omega)] at D
                exact jX.sub jsb_n (ct_X11_house_r31d_78 hD hQ  v15 h J Sm D)
              ·
                rw [if_pos (by omega)] at D
                refine x_aloadn (x := 31) rfl rfl ?_
                refine z_getR (N := 13) (b := 98) 11 7 rfl f_11_66 rfl J rfl 3975 ⟨rfl, rfl⟩ rfl ?_
                refine z_getR (N := 16) (b := 102) 0 5 rfl f_11_427 rfl J rfl 12549 ⟨rfl, rfl⟩ rfl ?_
                refine x_iloadn (x := a1) rfl rfl ?_
                refine z_iald0 (N := 40) rfl J rfl rfl (by omega) (fun v16 qv16 => ?_)
                have ev16 := jfull v16
                try rw [vrd qv16 (show a1.toInt = a1.toInt from by omega)] at D
                refine x_goto (tgt := 78) rfl rfl ?_
                exact jX.sub jsb_n (ct_X11_house_r31d_78 hD hQ  v16 h J Sm D)
            ·
              rw [if_neg (by omega)] at D
              exact jX.sub jsb_n (ct_X11_house_r31d_33 hD hQ  h J Sm D)
def fp_X11_isGood_r31d : jFp := [(85, 0, 4), (98, 10, 11), (98, 11, 12), (98, 12, 13), (99, 0, 30), (100, 0, 30), (101, 0, 3), (102, 0, 40), (103, 0, 40), (104, 0, 40), (105, 0, 3), (106, 0, 100), (120, 5, 6), (120, 6, 7), (120, 7, 8), (121, 0, 42), (122, 0, 42)]
set_option maxRecDepth 100000 in
set_option maxHeartbeats 4000000 in
theorem ct_X11_isGood_r31d_57 {Dy : jH → Prop} {h0 : jH} {Q : Option Value → jH → Prop} {dr : (Int × jW)} (hD : jDk Dy) (hQ : ∀ (v : Int32) hx9, 0 ≤ v.toInt ∧ v.toInt ≤ 1 → jJ jSgX Dy hx9 → jSm fp_X11_isGood_r31d h0 hx9 → dr.1 = v.toInt → dr.2 = vw hx9 → Q (some (.int v)) hx9) : ∀ (h : jH), jJ jSgX Dy h → jSm fp_X11_isGood_r31d h0 h → d_X11_isGood_r31d_57  (vw h) = dr → jX m_X11_isGood 25 0 0 57 [] [] h 0 0 Q := by
  intro  h    J Sm D
  unfold d_X11_isGood_r31d_57 at D
  refine x_iconst (v := 0) rfl ki_0 ?_
  refine x_zret rfl rfl (by decide) ?_
  exact hQ _ _ (jr_of jk_0 (by omega)) J Sm ((congrArg Prod.fst D).symm.trans (show 0 = (0 : Int32).toInt from by have := jk_0; omega)) (congrArg Prod.snd D).symm
set_option maxRecDepth 100000 in
set_option maxHeartbeats 4000000 in
theorem ct_X11_isGood_r31d_200099 {Dy : jH → Prop} {h0 : jH} {Q : Option Value → jH → Prop} {dr : (Int × jW)} (hD : jDk Dy) (hQ : ∀ (v : Int32) hx9, 0 ≤ v.toInt ∧ v.toInt ≤ 1 → jJ jSgX Dy hx9 → jSm fp_X11_isGood_r31d h0 hx9 → dr.1 = v.toInt → dr.2 = vw hx9 → Q (some (.int v)) hx9) : ∀ (h : jH), jJ jSgX Dy h → jSm fp_X11_isGood_r31d h0 h → d_X11_isGood_r31d_200099  (vw h) = dr → jX m_X11_isGood 25 0 0 99 [] [.int 0] h 0 0 Q := by
  intro  h    J Sm D
  unfold d_X11_isGood_r31d_200099 at D
  refine x_zret rfl rfl (by decide) ?_
  exact hQ _ _ (jr_of jk_0 (by omega)) J Sm ((congrArg Prod.fst D).symm.trans (show 0 = (0 : Int32).toInt from by have := jk_0; omega)) (congrArg Prod.snd D).symm
set_option maxRecDepth 100000 in
set_option maxHeartbeats 4000000 in
theorem ct_X11_isGood_r31d_300099 {Dy : jH → Prop} {h0 : jH} {Q : Option Value → jH → Prop} {dr : (Int × jW)} (hD : jDk Dy) (hQ : ∀ (v : Int32) hx9, 0 ≤ v.toInt ∧ v.toInt ≤ 1 → jJ jSgX Dy hx9 → jSm fp_X11_isGood_r31d h0 hx9 → dr.1 = v.toInt → dr.2 = vw hx9 → Q (some (.int v)) hx9) : ∀ (h : jH), jJ jSgX Dy h → jSm fp_X11_isGood_r31d h0 h → d_X11_isGood_r31d_300099  (vw h) = dr → jX m_X11_isGood 25 0 0 99 [] [.int 1] h 0 0 Q := by
  intro  h    J Sm D
  unfold d_X11_isGood_r31d_300099 at D
  refine x_zret rfl rfl (by decide) ?_
  exact hQ _ _ (jr_of jk_1 (by omega)) J Sm ((congrArg Prod.fst D).symm.trans (show 1 = (1 : Int32).toInt from by have := jk_1; omega)) (congrArg Prod.snd D).symm
set_option maxRecDepth 100000 in
set_option maxHeartbeats 4000000 in
theorem ct_X11_isGood_r31d_94 {Dy : jH → Prop} {h0 : jH} {Q : Option Value → jH → Prop} {dr : (Int × jW)} (hD : jDk Dy) (hQ : ∀ (v : Int32) hx9, 0 ≤ v.toInt ∧ v.toInt ≤ 1 → jJ jSgX Dy hx9 → jSm fp_X11_isGood_r31d h0 hx9 → dr.1 = v.toInt → dr.2 = vw hx9 → Q (some (.int v)) hx9) : ∀ (h : jH), jJ jSgX Dy h → jSm fp_X11_isGood_r31d h0 h → d_X11_isGood_r31d_94  (vw h) = dr → jX m_X11_isGood 25 0 0 94 [] [] h 0 0 Q := by
  intro  h    J Sm D
  unfold d_X11_isGood_r31d_94 at D
  refine x_iconst (v := 1) rfl ki_1 ?_
  refine x_goto (tgt := 99) rfl rfl ?_
  exact jX.sub jsb_n (ct_X11_isGood_r31d_300099 hD hQ  h J Sm D)
set_option maxRecDepth 100000 in
set_option maxHeartbeats 4000000 in
theorem sf_X11_isGood_r31d {Dy : jH → Prop} {h : jH} {Q : Option Value → jH → Prop} {dr : (Int × jW)} {a1 : Int32} {a2 : Int32} {a3 : Int32} (y2 : (-1) ≤ a2.toInt ∧ a2.toInt ≤ 599) (y3 : 0 ≤ a3.toInt ∧ a3.toInt ≤ 146399) (hD : jDk Dy) (J : jJ jSgX Dy h) (D : d_X11_isGood_r31d a1.toInt a2.toInt a3.toInt (vw h) = dr) (hQ : ∀ (v : Int32) hx9, 0 ≤ v.toInt ∧ v.toInt ≤ 1 → jJ jSgX Dy hx9 → jSm fp_X11_isGood_r31d h hx9 → dr.1 = v.toInt → dr.2 = vw hx9 → Q (some (.int v)) hx9) : jC m_X11_isGood 25 0 0 [.ref 31, .int a1, .int a2, .int a3] h Q := by
  refine jC.of rfl k_X11_isGood rfl ?_
  have Sm := jSm_rf fp_X11_isGood_r31d h
  have ea1 := jfull a1
  show jX m_X11_isGood 25 0 0 0 [(0, .ref 31), (1, .int a1), (2, .int a2), (3, .int a3)] [] _ 0 0 _
  unfold d_X11_isGood_r31d at D
  refine x_aloadn (x := 31) rfl rfl ?_
  refine z_getR (N := 13) (b := 32) 11 0 rfl f_11_10 rfl J rfl 3968 ⟨rfl, rfl⟩ rfl ?_
  refine z_getR (N := 20) (b := 33) 1 0 rfl f_11_126 rfl J rfl 4096 ⟨rfl, rfl⟩ rfl ?_
  refine x_iloadn (x := a1) rfl rfl ?_
  refine x_iconst (v := 1) rfl ki_1 ?_
  refine x_inv (N := m_X8_at) (As := [.int a1, .int 1]) (b := 33) (st := []) (dx9 := 1) (mc := 0) (ms := 0) (host := "") 8 rfl t_X8_at ⟨Or.inl q_11_171, i_X8_at.1, i_X8_at.2⟩ ⟨by decide, rfl⟩ (congrArg Prod.fst (J.1.1 33 (8, 4) rfl)) rfl (by decide) rfl rfl ⟨by decide, by decide⟩ (sf_X8_at_r33_c1d  hD J rfl  (fun v4 h ev4 J S1 X2 X3 => ?_))
  have Sm := jSm_tr rfl Sm S1
  try rw [X2] at D
  try rw [← X3] at D
  show jX m_X11_isGood 25 0 0 12 [(0, .ref 31), (1, .int a1), (2, .int a2), (3, .int a3)] [.int v4] _ 0 0 _
  refine x_istore (lsx9 := [(4, .int v4), (0, .ref 31), (1, .int a1), (2, .int a2), (3, .int a3)]) rfl rfl rfl ?_
  refine x_aloadn (x := 31) rfl rfl ?_
  refine z_getR (N := 13) (b := 32) 11 0 rfl f_11_10 rfl J rfl 3968 ⟨rfl, rfl⟩ rfl ?_
  refine z_getR (N := 20) (b := 33) 1 0 rfl f_11_126 rfl J rfl 4096 ⟨rfl, rfl⟩ rfl ?_
  refine x_iloadn (x := a1) rfl rfl ?_
  refine x_iconst (v := 4) rfl ki_4 ?_
  refine x_inv (N := m_X8_at) (As := [.int a1, .int 4]) (b := 33) (st := []) (dx9 := 1) (mc := 0) (ms := 0) (host := "") 8 rfl t_X8_at ⟨Or.inl q_11_171, i_X8_at.1, i_X8_at.2⟩ ⟨by decide, rfl⟩ (congrArg Prod.fst (J.1.1 33 (8, 4) rfl)) rfl (by decide) rfl rfl ⟨by decide, by decide⟩ (sf_X8_at_r33_c4d  hD J rfl  (fun v8 h J S5 X6 X7 => ?_))
  have ev8 := jfull v8
  have Sm := jSm_tr rfl Sm S5
  try rw [X6] at D
  try rw [← X7] at D
  show jX m_X11_isGood 25 0 0 26 [(4, .int v4), (0, .ref 31), (1, .int a1), (2, .int a2), (3, .int a3)] [.int v8] _ 0 0 _
  refine x_istore (lsx9 := [(5, .int v8), (4, .int v4), (0, .ref 31), (1, .int a1), (2, .int a2), (3, .int a3)]) rfl rfl rfl ?_
  refine x_aloadn (x := 31) rfl rfl ?_
  refine z_getR (N := 13) (b := 120) 11 9 rfl f_11_82 rfl J rfl 3977 ⟨rfl, rfl⟩ rfl ?_
  refine x_iloadn (x := a3) rfl rfl ?_
  refine z_putI (N := 8) (w := a3.toInt) 6 5 rfl f_11_381 rfl (jfin_no TX6 RX6 8 rfl rfl) hD J Sm rfl rfl rfl (pw_120_5 (by omega)) rfl (fun h w9 J Sm => ?_)
  rw [vwf w9 (show a3.toInt = a3.toInt from by omega)] at D
  refine x_iloadn (x := a2) rfl rfl ?_
  refine x_iconst (v := (-1)) rfl ki_m1 ?_
  refine x_iceq (tgt := 57) rfl rfl (ti_eq rfl jk_m1 ⟨fun c10 => ?_, fun c10 => ?_⟩)
  ·
    rw [if_pos (by omega)] at D
    exact jX.sub jsb_n (ct_X11_isGood_r31d_57 hD hQ  h J Sm D)
  ·
    rw [if_neg (by omega)] at D
    refine x_aloadn (x := 31) rfl rfl ?_
    refine z_getR (N := 13) (b := 120) 11 9 rfl f_11_82 rfl J rfl 3977 ⟨rfl, rfl⟩ rfl ?_
    refine x_iloadn (x := a2) rfl rfl ?_
    refine x_iload (x := v4) rfl rfl ?_
    refine x_iconst (v := 0) rfl ki_0 ?_
    refine x_inv (N := m_X6_belongs) (As := [.int a2, .int v4, .int 0]) (b := 120) (st := []) (dx9 := 24) (mc := 0) (ms := 0) (host := "ParishChest") 6 rfl t_X6_belongs ⟨Or.inr q_11_384, i_X6_belongs.1, i_X6_belongs.2⟩ ⟨by decide, rfl⟩ (congrArg Prod.fst (J.1.1 120 (6, 8) rfl)) rfl (by decide) rfl rfl ⟨by decide, by decide⟩ (sf_X6_belongs_r120_c0d (jr_of rfl (by omega)) (jr_of rfl (by omega)) hD J rfl  (fun v14 h ev14 J S11 X12 X13 => ?_))
    have Sm := jSm_tr rfl Sm S11
    try rw [X12] at D
    try rw [X13] at D
    show jX m_X11_isGood 25 0 0 52 [(5, .int v8), (4, .int v4), (0, .ref 31), (1, .int a1), (2, .int a2), (3, .int a3)] [.int v14] _ 0 0 _
    refine x_iload (x := v8) rfl rfl ?_
    refine x_iceq (tgt := 59) rfl rfl (ti_eq rfl rfl ⟨fun c15 => ?_, fun c15 => ?_⟩)
    ·
      rw [if_pos (by omega)] at D
      refine x_aloadn (x := 31) rfl rfl ?_
      refine z_getR (N := 13) (b := 98) 11 7 rfl f_11_66 rfl J rfl 3975 ⟨rfl, rfl⟩ rfl ?_
      refine x_iloadn (x := a2) rfl rfl ?_
      refine x_iload (x := v8) rfl rfl ?_
      refine x_iload (x := v4) rfl rfl ?_
      refine x_iloadn (x := a3) rfl rfl ?_
      refine x_inv (N := m_X0_isCertified) (As := [.int a2, .int v8, .int v4, .int a3]) (b := 98) (st := []) (dx9 := 2) (mc := 0) (ms := 0) (host := "") 0 rfl t_X0_isCertified ⟨Or.inl q_11_564, i_X0_isCertified.1, i_X0_isCertified.2⟩ ⟨by decide, rfl⟩ (congrArg Prod.fst (J.1.1 98 (0, 16) rfl)) rfl (by decide) rfl rfl ⟨by decide, by decide⟩ (sf_X0_isCertified_r98d (jr_of rfl (by omega)) (jr_of rfl (by omega)) (jr_of rfl (by omega)) (jr_of rfl (by omega)) hD J rfl  (fun v19 h ev19 J S16 X17 X18 => ?_))
      have Sm := jSm_tr rfl Sm S16
      try rw [X17] at D
      try rw [← X18] at D
      show jX m_X11_isGood 25 0 0 72 [(5, .int v8), (4, .int v4), (0, .ref 31), (1, .int a1), (2, .int a2), (3, .int a3)] [.int v19] _ 0 0 _
      refine x_ifeq (tgt := 94) rfl rfl (ti_eq rfl jk_0 ⟨fun c20 => ?_, fun c20 => ?_⟩)
      ·
        rw [if_pos (by omega)] at D
        exact jX.sub jsb_n (ct_X11_isGood_r31d_94 hD hQ  h J Sm D)
      ·
        rw [if_neg (by omega)] at D
        refine x_aloadn (x := 31) rfl rfl ?_
        refine z_getR (N := 13) (b := 78) 11 4 rfl f_11_41 rfl J rfl 3972 ⟨rfl, rfl⟩ rfl ?_
        refine x_iloadn (x := a2) rfl rfl ?_
        refine x_iload (x := v4) rfl rfl ?_
        refine x_sipush (v := 365) rfl ks_365 ?_
        refine z_isub rfl rfl jk_365 (by omega) (fun v21 ev21 => ?_)
        refine x_iload (x := v4) rfl rfl ?_
        try rw [show (v4.toInt - 365) = v21.toInt from by omega] at D
        refine x_inv (N := m_X7_reliefOf) (As := [.int a2, .int v21, .int v4]) (b := 78) (st := []) (dx9 := 1) (mc := 0) (ms := 0) (host := "") 7 rfl t_X7_reliefOf ⟨Or.inl q_11_405, i_X7_reliefOf.1, i_X7_reliefOf.2⟩ ⟨by decide, rfl⟩ (congrArg Prod.fst (J.1.1 78 (7, 16) rfl)) rfl (by decide) rfl rfl ⟨by decide, by decide⟩ (sf_X7_reliefOf_r78d (jr_of rfl (by omega)) (jr_of rfl (by omega)) (jr_of rfl (by omega)) hD J rfl  (fun v25 h J S22 X23 X24 => ?_))
        have ev25 := jfull v25
        have Sm := jSm_tr rfl Sm S22
        try rw [X23] at D
        try rw [← X24] at D
        show jX m_X11_isGood 25 0 0 91 [(5, .int v8), (4, .int v4), (0, .ref 31), (1, .int a1), (2, .int a2), (3, .int a3)] [.int v25] _ 0 0 _
        refine x_ifle (tgt := 98) rfl rfl (ti_le rfl jk_0 ⟨fun c26 => ?_, fun c26 => ?_⟩)
        ·
          rw [if_pos (by omega)] at D
          refine x_iconst (v := 0) rfl ki_0 ?_
          exact jX.sub jsb_n (ct_X11_isGood_r31d_200099 hD hQ  h J Sm D)
        ·
          rw [if_neg (by omega)] at D
          exact jX.sub jsb_n (ct_X11_isGood_r31d_94 hD hQ  h J Sm D)
    ·
      rw [if_neg (by omega)] at D
      exact jX.sub jsb_n (ct_X11_isGood_r31d_57 hD hQ  h J Sm D)
def fp_X3_aheadOf_r87d : jFp := []
set_option maxRecDepth 100000 in
set_option maxHeartbeats 4000000 in
theorem ct_X3_aheadOf_r87d_4 {Dy : jH → Prop} {h0 : jH} {Q : Option Value → jH → Prop} {dr : Int} (hD : jDk Dy) (hQ : ∀ (v : Int32) hx9, (-1) ≤ v.toInt ∧ v.toInt ≤ 7 → jJ jSgX Dy hx9 → jSm fp_X3_aheadOf_r87d h0 hx9 → dr = v.toInt → vw hx9 = vw h0 → Q (some (.int v)) hx9) : ∀ r : Nat, ∀ (l1 : Int32) (l2 : Int32) (h : jH), l2.toInt - (-1) < (r : Int) → 0 ≤ l1.toInt ∧ l1.toInt ≤ 8 → (-1) ≤ l2.toInt ∧ l2.toInt ≤ 7 → jJ jSgX Dy h → jSm fp_X3_aheadOf_r87d h0 h → d_X3_aheadOf_r87d_4 r l1.toInt l2.toInt (vw h) = dr → vw h = vw h0 → jX m_X3_aheadOf 2 0 0 4 [(0, .ref 87), (1, .int l1), (2, .int l2)] [] h 0 0 Q := by
  intro r
  induction r with
  | zero =>
    intro l1 l2 h hm y0 y1   J Sm D EV
    exfalso
    omega
  | succ r ih =>
    intro l1 l2 h hm y0 y1   J Sm D EV
    rw [d_X3_aheadOf_r87d_4.eq_2] at D
    refine x_iloadn (x := l2) rfl rfl ?_
    refine x_iflt (tgt := 29) rfl rfl (ti_lt rfl jk_0 ⟨fun c1 => ?_, fun c1 => ?_⟩)
    ·
      rw [if_pos (by omega)] at D
      refine x_iconst (v := (-1)) rfl ki_m1 ?_
      refine x_iret rfl rfl ?_
      exact hQ _ _ (jr_of jk_m1 (by omega)) J Sm (D.symm.trans (show (-1) = ((-1) : Int32).toInt from by have := jk_m1; omega)) EV
    ·
      rw [if_neg (by omega)] at D
      refine x_aloadn (x := 87) rfl rfl ?_
      refine x_iloadn (x := l2) rfl rfl ?_
      refine x_inv (N := m_X3_groupOf) (As := [.int l2]) (b := 87) (st := []) (dx9 := 1) (mc := 0) (ms := 0) (host := "") 3 rfl t_X3_groupOf ⟨Or.inl q_3_57, i_X3_groupOf.1, i_X3_groupOf.2⟩ ⟨by decide, rfl⟩ (congrArg Prod.fst (J.1.1 87 (3, 14) rfl)) rfl (by decide) rfl rfl ⟨by decide, by decide⟩ (jC.of rfl k_X3_groupOf rfl ?_)
      show jX m_X3_groupOf 1 0 0 0 [(0, .ref 87), (1, .int l2)] [] _ 0 0 _
      refine x_iloadn (x := l2) rfl rfl ?_
      refine x_iflt (tgt := 21) rfl rfl (ti_lt rfl jk_0 (br_f (by omega) ?_))
      refine x_iloadn (x := l2) rfl rfl ?_
      refine x_aloadn (x := 87) rfl rfl ?_
      refine z_getI (N := 14) 3 3 rfl f_3_15 rfl J rfl sg_87_3_4_1_0_1 (fun v2 qv2 ev2 => ?_)
      try rw [vrf qv2] at D
      refine x_icge (tgt := 21) rfl rfl (ti_ge rfl rfl ⟨fun c3 => ?_, fun c3 => ?_⟩)
      ·
        rw [if_pos (by omega)] at D
        refine x_iconst (v := (-1)) rfl ki_m1 ?_
        refine x_iret rfl rfl ?_
        show jX m_X3_aheadOf 2 0 0 13 [(0, .ref 87), (1, .int l1), (2, .int l2)] [.int (-1)] _ 0 0 _
        refine x_aloadn (x := 87) rfl rfl ?_
        refine x_iloadn (x := l1) rfl rfl ?_
        refine x_inv (N := m_X3_groupOf) (As := [.int l1]) (b := 87) (st := [.int (-1)]) (dx9 := 1) (mc := 0) (ms := 0) (host := "") 3 rfl t_X3_groupOf ⟨Or.inl q_3_57, i_X3_groupOf.1, i_X3_groupOf.2⟩ ⟨by decide, rfl⟩ (congrArg Prod.fst (J.1.1 87 (3, 14) rfl)) rfl (by decide) rfl rfl ⟨by decide, by decide⟩ (jC.of rfl k_X3_groupOf rfl ?_)
        show jX m_X3_groupOf 1 0 0 0 [(0, .ref 87), (1, .int l1)] [] _ 0 0 _
        refine x_iloadn (x := l1) rfl rfl ?_
        refine x_iflt (tgt := 21) rfl rfl (ti_lt rfl jk_0 (br_f (by omega) ?_))
        refine x_iloadn (x := l1) rfl rfl ?_
        refine x_aloadn (x := 87) rfl rfl ?_
        refine z_getM (N := 14) (v := v2) 3 3 rfl f_3_15 rfl J rfl qv2 ?_
        refine x_icge (tgt := 21) rfl rfl (ti_ge rfl rfl ⟨fun c4 => ?_, fun c4 => ?_⟩)
        ·
          rw [if_pos (by omega)] at D
          refine x_iconst (v := (-1)) rfl ki_m1 ?_
          refine x_iret rfl rfl ?_
          show jX m_X3_aheadOf 2 0 0 18 [(0, .ref 87), (1, .int l1), (2, .int l2)] [.int (-1), .int (-1)] _ 0 0 _
          refine x_icne (tgt := 23) rfl rfl (ti_ne jk_m1 jk_m1 (bn_f (by omega) ?_))
          refine x_iloadn (x := l2) rfl rfl ?_
          refine x_iret rfl rfl ?_
          exact hQ _ _ (jr_of rfl (by omega)) J Sm (D.symm.trans (show l2.toInt = l2.toInt from by omega)) EV
        ·
          rw [if_neg (by omega)] at D
          refine x_aloadn (x := 87) rfl rfl ?_
          refine z_getR (N := 14) (b := 92) 3 7 rfl f_3_28 rfl J rfl 11143 ⟨rfl, rfl⟩ rfl ?_
          refine x_iloadn (x := l1) rfl rfl ?_
          refine z_iald (N := 9) rfl J rfl sg_92_0_9_1_0_1 rfl (by omega) (fun v5 qv5 ev5 => ?_)
          try rw [vrd qv5 (show l1.toInt = l1.toInt from by omega)] at D
          refine x_goto (tgt := 22) rfl rfl ?_
          refine x_iret rfl rfl ?_
          show jX m_X3_aheadOf 2 0 0 18 [(0, .ref 87), (1, .int l1), (2, .int l2)] [.int v5, .int (-1)] _ 0 0 _
          refine x_icne (tgt := 23) rfl rfl (ti_ne jk_m1 rfl (bn_t (by omega) ?_))
          refine z_iinc (x := l2) (lsx9 := fun v6 => [(2, .int v6), (0, .ref 87), (1, .int l1)]) rfl rfl rfl jko_m1 (by omega) rfl (fun _ => rfl) (fun v6 ev6 => ?_)
          refine x_goto (tgt := 4) rfl rfl ?_
          try rw [show (l2.toInt + (-1)) = v6.toInt from by omega] at D
          exact jX.sub (jsb_c rfl (jsb_c rfl (jsb_c rfl jsb_n))) (ih l1 v6 h (by omega) (jr_of rfl (by omega)) (jr_of rfl (by omega)) J Sm D EV)
      ·
        rw [if_neg (by omega)] at D
        refine x_aloadn (x := 87) rfl rfl ?_
        refine z_getR (N := 14) (b := 92) 3 7 rfl f_3_28 rfl J rfl 11143 ⟨rfl, rfl⟩ rfl ?_
        refine x_iloadn (x := l2) rfl rfl ?_
        refine z_iald (N := 9) rfl J rfl sg_92_0_9_1_0_1 rfl (by omega) (fun v7 qv7 ev7 => ?_)
        try rw [vrd qv7 (show l2.toInt = l2.toInt from by omega)] at D
        refine x_goto (tgt := 22) rfl rfl ?_
        refine x_iret rfl rfl ?_
        show jX m_X3_aheadOf 2 0 0 13 [(0, .ref 87), (1, .int l1), (2, .int l2)] [.int v7] _ 0 0 _
        refine x_aloadn (x := 87) rfl rfl ?_
        refine x_iloadn (x := l1) rfl rfl ?_
        refine x_inv (N := m_X3_groupOf) (As := [.int l1]) (b := 87) (st := [.int v7]) (dx9 := 1) (mc := 0) (ms := 0) (host := "") 3 rfl t_X3_groupOf ⟨Or.inl q_3_57, i_X3_groupOf.1, i_X3_groupOf.2⟩ ⟨by decide, rfl⟩ (congrArg Prod.fst (J.1.1 87 (3, 14) rfl)) rfl (by decide) rfl rfl ⟨by decide, by decide⟩ (jC.of rfl k_X3_groupOf rfl ?_)
        show jX m_X3_groupOf 1 0 0 0 [(0, .ref 87), (1, .int l1)] [] _ 0 0 _
        refine x_iloadn (x := l1) rfl rfl ?_
        refine x_iflt (tgt := 21) rfl rfl (ti_lt rfl jk_0 (br_f (by omega) ?_))
        refine x_iloadn (x := l1) rfl rfl ?_
        refine x_aloadn (x := 87) rfl rfl ?_
        refine z_getM (N := 14) (v := v2) 3 3 rfl f_3_15 rfl J rfl qv2 ?_
        refine x_icge (tgt := 21) rfl rfl (ti_ge rfl rfl ⟨fun c8 => ?_, fun c8 => ?_⟩)
        ·
          rw [if_pos (by omega)] at D
          refine x_iconst (v := (-1)) rfl ki_m1 ?_
          refine x_iret rfl rfl ?_
          show jX m_X3_aheadOf 2 0 0 18 [(0, .ref 87), (1, .int l1), (2, .int l2)] [.int (-1), .int v7] _ 0 0 _
          refine x_icne (tgt := 23) rfl rfl (ti_ne rfl jk_m1 (bn_t (by omega) ?_))
          refine z_iinc (x := l2) (lsx9 := fun v9 => [(2, .int v9), (0, .ref 87), (1, .int l1)]) rfl rfl rfl jko_m1 (by omega) rfl (fun _ => rfl) (fun v9 ev9 => ?_)
          refine x_goto (tgt := 4) rfl rfl ?_
          try rw [show (l2.toInt + (-1)) = v9.toInt from by omega] at D
          exact jX.sub (jsb_c rfl (jsb_c rfl (jsb_c rfl jsb_n))) (ih l1 v9 h (by omega) (jr_of rfl (by omega)) (jr_of rfl (by omega)) J Sm D EV)
        ·
          rw [if_neg (by omega)] at D
          refine x_aloadn (x := 87) rfl rfl ?_
          refine z_getR (N := 14) (b := 92) 3 7 rfl f_3_28 rfl J rfl 11143 ⟨rfl, rfl⟩ rfl ?_
          refine x_iloadn (x := l1) rfl rfl ?_
          refine z_iald (N := 9) rfl J rfl sg_92_0_9_1_0_1 rfl (by omega) (fun v10 qv10 ev10 => ?_)
          try rw [vrd qv10 (show l1.toInt = l1.toInt from by omega)] at D
          refine x_goto (tgt := 22) rfl rfl ?_
          refine x_iret rfl rfl ?_
          show jX m_X3_aheadOf 2 0 0 18 [(0, .ref 87), (1, .int l1), (2, .int l2)] [.int v10, .int v7] _ 0 0 _
          refine x_icne (tgt := 23) rfl rfl (ti_ne rfl rfl ⟨fun c11 => ?_, fun c11 => ?_⟩)
          ·
            rw [if_neg (by omega)] at D
            refine z_iinc (x := l2) (lsx9 := fun v12 => [(2, .int v12), (0, .ref 87), (1, .int l1)]) rfl rfl rfl jko_m1 (by omega) rfl (fun _ => rfl) (fun v12 ev12 => ?_)
            refine x_goto (tgt := 4) rfl rfl ?_
            try rw [show (l2.toInt + (-1)) = v12.toInt from by omega] at D
            exact jX.sub (jsb_c rfl (jsb_c rfl (jsb_c rfl jsb_n))) (ih l1 v12 h (by omega) (jr_of rfl (by omega)) (jr_of rfl (by omega)) J Sm D EV)
          ·
            rw [if_pos (by omega)] at D
            refine x_iloadn (x := l2) rfl rfl ?_
            refine x_iret rfl rfl ?_
            exact hQ _ _ (jr_of rfl (by omega)) J Sm (D.symm.trans (show l2.toInt = l2.toInt from by omega)) EV
set_option maxRecDepth 100000 in
set_option maxHeartbeats 4000000 in
theorem sf_X3_aheadOf_r87d {Dy : jH → Prop} {h : jH} {Q : Option Value → jH → Prop} {dr : Int} {a1 : Int32} (y1 : 0 ≤ a1.toInt ∧ a1.toInt ≤ 8) (hD : jDk Dy) (J : jJ jSgX Dy h) (D : d_X3_aheadOf_r87d a1.toInt (vw h) = dr) (hQ : ∀ (v : Int32) hx9, (-1) ≤ v.toInt ∧ v.toInt ≤ 7 → jJ jSgX Dy hx9 → jSm fp_X3_aheadOf_r87d h hx9 → dr = v.toInt → vw hx9 = vw h → Q (some (.int v)) hx9) : jC m_X3_aheadOf 2 0 0 [.ref 87, .int a1] h Q := by
  refine jC.of rfl k_X3_aheadOf rfl ?_
  have Sm := jSm_rf fp_X3_aheadOf_r87d h
  show jX m_X3_aheadOf 2 0 0 0 [(0, .ref 87), (1, .int a1)] [] _ 0 0 _
  unfold d_X3_aheadOf_r87d at D
  have EV : vw h = vw h := rfl
  refine x_iloadn (x := a1) rfl rfl ?_
  refine x_iconst (v := 1) rfl ki_1 ?_
  refine z_isub rfl rfl jk_1 (by omega) (fun v1 ev1 => ?_)
  refine x_istoren (lsx9 := [(2, .int v1), (0, .ref 87), (1, .int a1)]) rfl rfl rfl ?_
  try rw [show (a1.toInt - 1) = v1.toInt from by omega] at D
  exact jX.sub (jsb_c rfl (jsb_c rfl (jsb_c rfl jsb_n))) (ct_X3_aheadOf_r87d_4 hD hQ  9 a1 v1 h (by omega) (jr_of rfl (by omega)) (jr_of rfl (by omega)) J Sm D EV)
def fp_X8_put_r39_c0d : jFp := [(40, 0, 600)]
set_option maxRecDepth 100000 in
set_option maxHeartbeats 4000000 in
theorem ct_X8_put_r39_c0d_38 {Dy : jH → Prop} {h0 : jH} {Q : Option Value → jH → Prop} {dr : jW} (hD : jDk Dy) (hQ : ∀ hx9, jJ jSgX Dy hx9 → jSm fp_X8_put_r39_c0d h0 hx9 → dr = vw hx9 → Q none hx9) : ∀ (h : jH), jJ jSgX Dy h → jSm fp_X8_put_r39_c0d h0 h → d_X8_put_r39_c0d_38  (vw h) = dr → jX m_X8_put 1 0 0 38 [] [] h 0 0 Q := by
  intro  h    J Sm D
  unfold d_X8_put_r39_c0d_38 at D
  refine x_vret rfl rfl ?_
  exact hQ _ J Sm D.symm
set_option maxRecDepth 100000 in
set_option maxHeartbeats 4000000 in
theorem sf_X8_put_r39_c0d {Dy : jH → Prop} {h : jH} {Q : Option Value → jH → Prop} {dr : jW} {a1 : Int32} {a3 : Int32} (y1 : 0 ≤ a1.toInt ∧ a1.toInt ≤ 199) (y3 : 0 ≤ a3.toInt ∧ a3.toInt ≤ 146399) (hD : jDk Dy) (J : jJ jSgX Dy h) (D : d_X8_put_r39_c0d a1.toInt a3.toInt (vw h) = dr) (hQ : ∀ hx9, jJ jSgX Dy hx9 → jSm fp_X8_put_r39_c0d h hx9 → dr = vw hx9 → Q none hx9) : jC m_X8_put 1 0 0 [.ref 39, .int a1, .int 0, .int a3] h Q := by
  refine jC.of rfl k_X8_put rfl ?_
  have Sm := jSm_rf fp_X8_put_r39_c0d h
  show jX m_X8_put 1 0 0 0 [(0, .ref 39), (1, .int a1), (2, .int 0), (3, .int a3)] [] _ 0 0 _
  unfold d_X8_put_r39_c0d at D
  refine x_iloadn (x := a1) rfl rfl ?_
  refine x_iflt (tgt := 38) rfl rfl (ti_lt rfl jk_0 (br_f (by omega) ?_))
  refine x_iloadn (x := a1) rfl rfl ?_
  refine x_aloadn (x := 39) rfl rfl ?_
  refine z_getI (N := 4) 8 3 rfl f_8_7 rfl J rfl sg_39_3_4_1_0_1 (fun v1 qv1 ev1 => ?_)
  try rw [vrf qv1] at D
  refine x_icge (tgt := 38) rfl rfl (ti_ge rfl rfl ⟨fun c2 => ?_, fun c2 => ?_⟩)
  ·
    rw [if_pos (by omega)] at D
    exact jX.sub jsb_n (ct_X8_put_r39_c0d_38 hD hQ  h J Sm D)
  ·
    rw [if_neg (by omega)] at D
    refine x_iloadn (x := 0) rfl rfl ?_
    refine x_iflt (tgt := 38) rfl rfl (ti_lt jk_0 jk_0 (br_f (by omega) ?_))
    refine x_iloadn (x := 0) rfl rfl ?_
    refine x_aloadn (x := 39) rfl rfl ?_
    refine z_getC (N := 4) (v := 3) 8 0 rfl f_8_19 rfl J rfl sg_39_0_1_1_0_1 jk_3 ?_
    refine x_icge (tgt := 38) rfl rfl (ti_ge jk_0 jk_3 (br_f (by omega) ?_))
    refine x_aloadn (x := 39) rfl rfl ?_
    refine z_getR (N := 4) (b := 40) 8 2 rfl f_8_25 rfl J rfl 4994 ⟨rfl, rfl⟩ rfl ?_
    refine x_iloadn (x := a1) rfl rfl ?_
    refine x_aloadn (x := 39) rfl rfl ?_
    refine z_getC (N := 4) (v := 3) 8 0 rfl f_8_19 rfl J rfl sg_39_0_1_1_0_1 jk_3 ?_
    refine z_imul rfl rfl jk_3 (by omega) (fun v3 ev3 => ?_)
    refine x_iloadn (x := 0) rfl rfl ?_
    refine z_iadd rfl rfl jk_0 (by omega) (fun v4 ev4 => ?_)
    refine x_iloadn (x := a3) rfl rfl ?_
    refine z_iast (N := 600) (l := 0) (u := 600) (w := a3.toInt) rfl hD J Sm rfl rfl rfl (by omega) rfl (wr_40 (fun q1 q2 q3 q4 => by omega) (fun q1 q2 q3 q4 => by omega) (fun q1 q2 q3 q4 => by omega)) rfl (fun h w5 J Sm => ?_)
    rw [vww w5 (show ((a1.toInt * 3) + 0) = v4.toInt from by omega) (show a3.toInt = a3.toInt from by omega)] at D
    exact jX.sub jsb_n (ct_X8_put_r39_c0d_38 hD hQ  h J Sm D)
def fp_X8_put_r39_c1d : jFp := [(40, 0, 600)]
set_option maxRecDepth 100000 in
set_option maxHeartbeats 4000000 in
theorem ct_X8_put_r39_c1d_38 {Dy : jH → Prop} {h0 : jH} {Q : Option Value → jH → Prop} {dr : jW} (hD : jDk Dy) (hQ : ∀ hx9, jJ jSgX Dy hx9 → jSm fp_X8_put_r39_c1d h0 hx9 → dr = vw hx9 → Q none hx9) : ∀ (h : jH), jJ jSgX Dy h → jSm fp_X8_put_r39_c1d h0 h → d_X8_put_r39_c1d_38  (vw h) = dr → jX m_X8_put 1 0 0 38 [] [] h 0 0 Q := by
  intro  h    J Sm D
  unfold d_X8_put_r39_c1d_38 at D
  refine x_vret rfl rfl ?_
  exact hQ _ J Sm D.symm
set_option maxRecDepth 100000 in
set_option maxHeartbeats 4000000 in
theorem sf_X8_put_r39_c1d {Dy : jH → Prop} {h : jH} {Q : Option Value → jH → Prop} {dr : jW} {a1 : Int32} {a3 : Int32} (y1 : 0 ≤ a1.toInt ∧ a1.toInt ≤ 199) (y3 : (-1) ≤ a3.toInt ∧ a3.toInt ≤ 599) (hD : jDk Dy) (J : jJ jSgX Dy h) (D : d_X8_put_r39_c1d a1.toInt a3.toInt (vw h) = dr) (hQ : ∀ hx9, jJ jSgX Dy hx9 → jSm fp_X8_put_r39_c1d h hx9 → dr = vw hx9 → Q none hx9) : jC m_X8_put 1 0 0 [.ref 39, .int a1, .int 1, .int a3] h Q := by
  refine jC.of rfl k_X8_put rfl ?_
  have Sm := jSm_rf fp_X8_put_r39_c1d h
  show jX m_X8_put 1 0 0 0 [(0, .ref 39), (1, .int a1), (2, .int 1), (3, .int a3)] [] _ 0 0 _
  unfold d_X8_put_r39_c1d at D
  refine x_iloadn (x := a1) rfl rfl ?_
  refine x_iflt (tgt := 38) rfl rfl (ti_lt rfl jk_0 (br_f (by omega) ?_))
  refine x_iloadn (x := a1) rfl rfl ?_
  refine x_aloadn (x := 39) rfl rfl ?_
  refine z_getI (N := 4) 8 3 rfl f_8_7 rfl J rfl sg_39_3_4_1_0_1 (fun v1 qv1 ev1 => ?_)
  try rw [vrf qv1] at D
  refine x_icge (tgt := 38) rfl rfl (ti_ge rfl rfl ⟨fun c2 => ?_, fun c2 => ?_⟩)
  ·
    rw [if_pos (by omega)] at D
    exact jX.sub jsb_n (ct_X8_put_r39_c1d_38 hD hQ  h J Sm D)
  ·
    rw [if_neg (by omega)] at D
    refine x_iloadn (x := 1) rfl rfl ?_
    refine x_iflt (tgt := 38) rfl rfl (ti_lt jk_1 jk_0 (br_f (by omega) ?_))
    refine x_iloadn (x := 1) rfl rfl ?_
    refine x_aloadn (x := 39) rfl rfl ?_
    refine z_getC (N := 4) (v := 3) 8 0 rfl f_8_19 rfl J rfl sg_39_0_1_1_0_1 jk_3 ?_
    refine x_icge (tgt := 38) rfl rfl (ti_ge jk_1 jk_3 (br_f (by omega) ?_))
    refine x_aloadn (x := 39) rfl rfl ?_
    refine z_getR (N := 4) (b := 40) 8 2 rfl f_8_25 rfl J rfl 4994 ⟨rfl, rfl⟩ rfl ?_
    refine x_iloadn (x := a1) rfl rfl ?_
    refine x_aloadn (x := 39) rfl rfl ?_
    refine z_getC (N := 4) (v := 3) 8 0 rfl f_8_19 rfl J rfl sg_39_0_1_1_0_1 jk_3 ?_
    refine z_imul rfl rfl jk_3 (by omega) (fun v3 ev3 => ?_)
    refine x_iloadn (x := 1) rfl rfl ?_
    refine z_iadd rfl rfl jk_1 (by omega) (fun v4 ev4 => ?_)
    refine x_iloadn (x := a3) rfl rfl ?_
    refine z_iast (N := 600) (l := 0) (u := 600) (w := a3.toInt) rfl hD J Sm rfl rfl rfl (by omega) rfl (wr_40 (fun q1 q2 q3 q4 => by omega) (fun q1 q2 q3 q4 => by omega) (fun q1 q2 q3 q4 => by omega)) rfl (fun h w5 J Sm => ?_)
    rw [vww w5 (show ((a1.toInt * 3) + 1) = v4.toInt from by omega) (show a3.toInt = a3.toInt from by omega)] at D
    exact jX.sub jsb_n (ct_X8_put_r39_c1d_38 hD hQ  h J Sm D)
def fp_X8_put_r39_c2d : jFp := [(40, 0, 600)]
set_option maxRecDepth 100000 in
set_option maxHeartbeats 4000000 in
theorem ct_X8_put_r39_c2d_38 {Dy : jH → Prop} {h0 : jH} {Q : Option Value → jH → Prop} {dr : jW} (hD : jDk Dy) (hQ : ∀ hx9, jJ jSgX Dy hx9 → jSm fp_X8_put_r39_c2d h0 hx9 → dr = vw hx9 → Q none hx9) : ∀ (h : jH), jJ jSgX Dy h → jSm fp_X8_put_r39_c2d h0 h → d_X8_put_r39_c2d_38  (vw h) = dr → jX m_X8_put 1 0 0 38 [] [] h 0 0 Q := by
  intro  h    J Sm D
  unfold d_X8_put_r39_c2d_38 at D
  refine x_vret rfl rfl ?_
  exact hQ _ J Sm D.symm
set_option maxRecDepth 100000 in
set_option maxHeartbeats 4000000 in
theorem sf_X8_put_r39_c2d {Dy : jH → Prop} {h : jH} {Q : Option Value → jH → Prop} {dr : jW} {a1 : Int32} {a3 : Int32} (y1 : 0 ≤ a1.toInt ∧ a1.toInt ≤ 199) (y3 : (-1) ≤ a3.toInt ∧ a3.toInt ≤ 599) (hD : jDk Dy) (J : jJ jSgX Dy h) (D : d_X8_put_r39_c2d a1.toInt a3.toInt (vw h) = dr) (hQ : ∀ hx9, jJ jSgX Dy hx9 → jSm fp_X8_put_r39_c2d h hx9 → dr = vw hx9 → Q none hx9) : jC m_X8_put 1 0 0 [.ref 39, .int a1, .int 2, .int a3] h Q := by
  refine jC.of rfl k_X8_put rfl ?_
  have Sm := jSm_rf fp_X8_put_r39_c2d h
  show jX m_X8_put 1 0 0 0 [(0, .ref 39), (1, .int a1), (2, .int 2), (3, .int a3)] [] _ 0 0 _
  unfold d_X8_put_r39_c2d at D
  refine x_iloadn (x := a1) rfl rfl ?_
  refine x_iflt (tgt := 38) rfl rfl (ti_lt rfl jk_0 (br_f (by omega) ?_))
  refine x_iloadn (x := a1) rfl rfl ?_
  refine x_aloadn (x := 39) rfl rfl ?_
  refine z_getI (N := 4) 8 3 rfl f_8_7 rfl J rfl sg_39_3_4_1_0_1 (fun v1 qv1 ev1 => ?_)
  try rw [vrf qv1] at D
  refine x_icge (tgt := 38) rfl rfl (ti_ge rfl rfl ⟨fun c2 => ?_, fun c2 => ?_⟩)
  ·
    rw [if_pos (by omega)] at D
    exact jX.sub jsb_n (ct_X8_put_r39_c2d_38 hD hQ  h J Sm D)
  ·
    rw [if_neg (by omega)] at D
    refine x_iloadn (x := 2) rfl rfl ?_
    refine x_iflt (tgt := 38) rfl rfl (ti_lt jk_2 jk_0 (br_f (by omega) ?_))
    refine x_iloadn (x := 2) rfl rfl ?_
    refine x_aloadn (x := 39) rfl rfl ?_
    refine z_getC (N := 4) (v := 3) 8 0 rfl f_8_19 rfl J rfl sg_39_0_1_1_0_1 jk_3 ?_
    refine x_icge (tgt := 38) rfl rfl (ti_ge jk_2 jk_3 (br_f (by omega) ?_))
    refine x_aloadn (x := 39) rfl rfl ?_
    refine z_getR (N := 4) (b := 40) 8 2 rfl f_8_25 rfl J rfl 4994 ⟨rfl, rfl⟩ rfl ?_
    refine x_iloadn (x := a1) rfl rfl ?_
    refine x_aloadn (x := 39) rfl rfl ?_
    refine z_getC (N := 4) (v := 3) 8 0 rfl f_8_19 rfl J rfl sg_39_0_1_1_0_1 jk_3 ?_
    refine z_imul rfl rfl jk_3 (by omega) (fun v3 ev3 => ?_)
    refine x_iloadn (x := 2) rfl rfl ?_
    refine z_iadd rfl rfl jk_2 (by omega) (fun v4 ev4 => ?_)
    refine x_iloadn (x := a3) rfl rfl ?_
    refine z_iast (N := 600) (l := 0) (u := 600) (w := a3.toInt) rfl hD J Sm rfl rfl rfl (by omega) rfl (wr_40 (fun q1 q2 q3 q4 => by omega) (fun q1 q2 q3 q4 => by omega) (fun q1 q2 q3 q4 => by omega)) rfl (fun h w5 J Sm => ?_)
    rw [vww w5 (show ((a1.toInt * 3) + 2) = v4.toInt from by omega) (show a3.toInt = a3.toInt from by omega)] at D
    exact jX.sub jsb_n (ct_X8_put_r39_c2d_38 hD hQ  h J Sm D)
def fp_X8_put_r39_c3d : jFp := []
set_option maxRecDepth 100000 in
set_option maxHeartbeats 4000000 in
theorem ct_X8_put_r39_c3d_38 {Dy : jH → Prop} {h0 : jH} {Q : Option Value → jH → Prop} {dr : jW} (hD : jDk Dy) (hQ : ∀ hx9, jJ jSgX Dy hx9 → jSm fp_X8_put_r39_c3d h0 hx9 → dr = vw hx9 → Q none hx9) : ∀ (h : jH), jJ jSgX Dy h → jSm fp_X8_put_r39_c3d h0 h → d_X8_put_r39_c3d_38  (vw h) = dr → jX m_X8_put 1 0 0 38 [] [] h 0 0 Q := by
  intro  h    J Sm D
  unfold d_X8_put_r39_c3d_38 at D
  refine x_vret rfl rfl ?_
  exact hQ _ J Sm D.symm
set_option maxRecDepth 100000 in
set_option maxHeartbeats 4000000 in
theorem sf_X8_put_r39_c3d {Dy : jH → Prop} {h : jH} {Q : Option Value → jH → Prop} {dr : jW} {a1 : Int32} {a3 : Int32} (y1 : 0 ≤ a1.toInt ∧ a1.toInt ≤ 199) (y3 : 0 ≤ a3.toInt ∧ a3.toInt ≤ 0) (hD : jDk Dy) (J : jJ jSgX Dy h) (D : d_X8_put_r39_c3d a1.toInt a3.toInt (vw h) = dr) (hQ : ∀ hx9, jJ jSgX Dy hx9 → jSm fp_X8_put_r39_c3d h hx9 → dr = vw hx9 → Q none hx9) : jC m_X8_put 1 0 0 [.ref 39, .int a1, .int 3, .int a3] h Q := by
  refine jC.of rfl k_X8_put rfl ?_
  have Sm := jSm_rf fp_X8_put_r39_c3d h
  show jX m_X8_put 1 0 0 0 [(0, .ref 39), (1, .int a1), (2, .int 3), (3, .int a3)] [] _ 0 0 _
  unfold d_X8_put_r39_c3d at D
  refine x_iloadn (x := a1) rfl rfl ?_
  refine x_iflt (tgt := 38) rfl rfl (ti_lt rfl jk_0 (br_f (by omega) ?_))
  refine x_iloadn (x := a1) rfl rfl ?_
  refine x_aloadn (x := 39) rfl rfl ?_
  refine z_getI (N := 4) 8 3 rfl f_8_7 rfl J rfl sg_39_3_4_1_0_1 (fun v1 qv1 ev1 => ?_)
  try rw [vrf qv1] at D
  refine x_icge (tgt := 38) rfl rfl (ti_ge rfl rfl ⟨fun c2 => ?_, fun c2 => ?_⟩)
  ·
    rw [if_pos (by omega)] at D
    exact jX.sub jsb_n (ct_X8_put_r39_c3d_38 hD hQ  h J Sm D)
  ·
    rw [if_neg (by omega)] at D
    refine x_iloadn (x := 3) rfl rfl ?_
    refine x_iflt (tgt := 38) rfl rfl (ti_lt jk_3 jk_0 (br_f (by omega) ?_))
    refine x_iloadn (x := 3) rfl rfl ?_
    refine x_aloadn (x := 39) rfl rfl ?_
    refine z_getC (N := 4) (v := 3) 8 0 rfl f_8_19 rfl J rfl sg_39_0_1_1_0_1 jk_3 ?_
    refine x_icge (tgt := 38) rfl rfl (ti_ge jk_3 jk_3 (br_t (by omega) ?_))
    exact jX.sub jsb_n (ct_X8_put_r39_c3d_38 hD hQ  h J Sm D)
def fp_X8_put_r39_c4d : jFp := []
set_option maxRecDepth 100000 in
set_option maxHeartbeats 4000000 in
theorem ct_X8_put_r39_c4d_38 {Dy : jH → Prop} {h0 : jH} {Q : Option Value → jH → Prop} {dr : jW} (hD : jDk Dy) (hQ : ∀ hx9, jJ jSgX Dy hx9 → jSm fp_X8_put_r39_c4d h0 hx9 → dr = vw hx9 → Q none hx9) : ∀ (h : jH), jJ jSgX Dy h → jSm fp_X8_put_r39_c4d h0 h → d_X8_put_r39_c4d_38  (vw h) = dr → jX m_X8_put 1 0 0 38 [] [] h 0 0 Q := by
  intro  h    J Sm D
  unfold d_X8_put_r39_c4d_38 at D
  refine x_vret rfl rfl ?_
  exact hQ _ J Sm D.symm
set_option maxRecDepth 100000 in
set_option maxHeartbeats 4000000 in
theorem sf_X8_put_r39_c4d {Dy : jH → Prop} {h : jH} {Q : Option Value → jH → Prop} {dr : jW} {a1 : Int32} {a3 : Int32} (y1 : 0 ≤ a1.toInt ∧ a1.toInt ≤ 199) (y3 : 0 ≤ a3.toInt ∧ a3.toInt ≤ 0) (hD : jDk Dy) (J : jJ jSgX Dy h) (D : d_X8_put_r39_c4d a1.toInt a3.toInt (vw h) = dr) (hQ : ∀ hx9, jJ jSgX Dy hx9 → jSm fp_X8_put_r39_c4d h hx9 → dr = vw hx9 → Q none hx9) : jC m_X8_put 1 0 0 [.ref 39, .int a1, .int 4, .int a3] h Q := by
  refine jC.of rfl k_X8_put rfl ?_
  have Sm := jSm_rf fp_X8_put_r39_c4d h
  show jX m_X8_put 1 0 0 0 [(0, .ref 39), (1, .int a1), (2, .int 4), (3, .int a3)] [] _ 0 0 _
  unfold d_X8_put_r39_c4d at D
  refine x_iloadn (x := a1) rfl rfl ?_
  refine x_iflt (tgt := 38) rfl rfl (ti_lt rfl jk_0 (br_f (by omega) ?_))
  refine x_iloadn (x := a1) rfl rfl ?_
  refine x_aloadn (x := 39) rfl rfl ?_
  refine z_getI (N := 4) 8 3 rfl f_8_7 rfl J rfl sg_39_3_4_1_0_1 (fun v1 qv1 ev1 => ?_)
  try rw [vrf qv1] at D
  refine x_icge (tgt := 38) rfl rfl (ti_ge rfl rfl ⟨fun c2 => ?_, fun c2 => ?_⟩)
  ·
    rw [if_pos (by omega)] at D
    exact jX.sub jsb_n (ct_X8_put_r39_c4d_38 hD hQ  h J Sm D)
  ·
    rw [if_neg (by omega)] at D
    refine x_iloadn (x := 4) rfl rfl ?_
    refine x_iflt (tgt := 38) rfl rfl (ti_lt jk_4 jk_0 (br_f (by omega) ?_))
    refine x_iloadn (x := 4) rfl rfl ?_
    refine x_aloadn (x := 39) rfl rfl ?_
    refine z_getC (N := 4) (v := 3) 8 0 rfl f_8_19 rfl J rfl sg_39_0_1_1_0_1 jk_3 ?_
    refine x_icge (tgt := 38) rfl rfl (ti_ge jk_4 jk_3 (br_t (by omega) ?_))
    exact jX.sub jsb_n (ct_X8_put_r39_c4d_38 hD hQ  h J Sm D)
def fp_X8_put_r39_c5d : jFp := []
set_option maxRecDepth 100000 in
set_option maxHeartbeats 4000000 in
theorem ct_X8_put_r39_c5d_38 {Dy : jH → Prop} {h0 : jH} {Q : Option Value → jH → Prop} {dr : jW} (hD : jDk Dy) (hQ : ∀ hx9, jJ jSgX Dy hx9 → jSm fp_X8_put_r39_c5d h0 hx9 → dr = vw hx9 → Q none hx9) : ∀ (h : jH), jJ jSgX Dy h → jSm fp_X8_put_r39_c5d h0 h → d_X8_put_r39_c5d_38  (vw h) = dr → jX m_X8_put 1 0 0 38 [] [] h 0 0 Q := by
  intro  h    J Sm D
  unfold d_X8_put_r39_c5d_38 at D
  refine x_vret rfl rfl ?_
  exact hQ _ J Sm D.symm
set_option maxRecDepth 100000 in
set_option maxHeartbeats 4000000 in
theorem sf_X8_put_r39_c5d {Dy : jH → Prop} {h : jH} {Q : Option Value → jH → Prop} {dr : jW} {a1 : Int32} {a3 : Int32} (y1 : 0 ≤ a1.toInt ∧ a1.toInt ≤ 199) (y3 : 0 ≤ a3.toInt ∧ a3.toInt ≤ 0) (hD : jDk Dy) (J : jJ jSgX Dy h) (D : d_X8_put_r39_c5d a1.toInt a3.toInt (vw h) = dr) (hQ : ∀ hx9, jJ jSgX Dy hx9 → jSm fp_X8_put_r39_c5d h hx9 → dr = vw hx9 → Q none hx9) : jC m_X8_put 1 0 0 [.ref 39, .int a1, .int 5, .int a3] h Q := by
  refine jC.of rfl k_X8_put rfl ?_
  have Sm := jSm_rf fp_X8_put_r39_c5d h
  show jX m_X8_put 1 0 0 0 [(0, .ref 39), (1, .int a1), (2, .int 5), (3, .int a3)] [] _ 0 0 _
  unfold d_X8_put_r39_c5d at D
  refine x_iloadn (x := a1) rfl rfl ?_
  refine x_iflt (tgt := 38) rfl rfl (ti_lt rfl jk_0 (br_f (by omega) ?_))
  refine x_iloadn (x := a1) rfl rfl ?_
  refine x_aloadn (x := 39) rfl rfl ?_
  refine z_getI (N := 4) 8 3 rfl f_8_7 rfl J rfl sg_39_3_4_1_0_1 (fun v1 qv1 ev1 => ?_)
  try rw [vrf qv1] at D
  refine x_icge (tgt := 38) rfl rfl (ti_ge rfl rfl ⟨fun c2 => ?_, fun c2 => ?_⟩)
  ·
    rw [if_pos (by omega)] at D
    exact jX.sub jsb_n (ct_X8_put_r39_c5d_38 hD hQ  h J Sm D)
  ·
    rw [if_neg (by omega)] at D
    refine x_iloadn (x := 5) rfl rfl ?_
    refine x_iflt (tgt := 38) rfl rfl (ti_lt jk_5 jk_0 (br_f (by omega) ?_))
    refine x_iloadn (x := 5) rfl rfl ?_
    refine x_aloadn (x := 39) rfl rfl ?_
    refine z_getC (N := 4) (v := 3) 8 0 rfl f_8_19 rfl J rfl sg_39_0_1_1_0_1 jk_3 ?_
    refine x_icge (tgt := 38) rfl rfl (ti_ge jk_5 jk_3 (br_t (by omega) ?_))
    exact jX.sub jsb_n (ct_X8_put_r39_c5d_38 hD hQ  h J Sm D)
def fp_X8_add_r39d : jFp := [(39, 3, 4), (40, 0, 600)]
set_option maxRecDepth 100000 in
set_option maxHeartbeats 4000000 in
theorem sf_X8_add_r39d {Dy : jH → Prop} {h : jH} {Q : Option Value → jH → Prop} {dr : jW} {a1 : Int32} {a2 : Int32} {a3 : Int32} {a4 : Int32} {a5 : Int32} {a6 : Int32} (y1 : 0 ≤ a1.toInt ∧ a1.toInt ≤ 146399) (y2 : (-1) ≤ a2.toInt ∧ a2.toInt ≤ 599) (y3 : (-1) ≤ a3.toInt ∧ a3.toInt ≤ 599) (y4 : 0 ≤ a4.toInt ∧ a4.toInt ≤ 0) (y5 : 0 ≤ a5.toInt ∧ a5.toInt ≤ 0) (y6 : 0 ≤ a6.toInt ∧ a6.toInt ≤ 0) (hD : jDk Dy) (J : jJ jSgX Dy h) (D : d_X8_add_r39d a1.toInt a2.toInt a3.toInt a4.toInt a5.toInt a6.toInt (vw h) = dr) (hQ : ∀ hx9, jJ jSgX Dy hx9 → jSm fp_X8_add_r39d h hx9 → dr = vw hx9 → Q none hx9) : jC m_X8_add 2 0 0 [.ref 39, .int a1, .int a2, .int a3, .int a4, .int a5, .int a6] h Q := by
  refine jC.of rfl k_X8_add rfl ?_
  have Sm := jSm_rf fp_X8_add_r39d h
  show jX m_X8_add 2 0 0 0 [(0, .ref 39), (1, .int a1), (2, .int a2), (3, .int a3), (4, .int a4), (5, .int a5), (6, .int a6)] [] _ 0 0 _
  unfold d_X8_add_r39d at D
  refine x_aloadn (x := 39) rfl rfl ?_
  refine z_getI (N := 4) 8 3 rfl f_8_7 rfl J rfl sg_39_3_4_1_0_1 (fun v1 qv1 ev1 => ?_)
  try rw [vrf qv1] at D
  refine x_aloadn (x := 39) rfl rfl ?_
  refine z_getC (N := 4) (v := 200) 8 1 rfl f_8_22 rfl J rfl sg_39_1_2_1_0_1 jk_200 ?_
  refine x_iclt (tgt := 12) rfl rfl (ti_lt rfl jk_200 ⟨fun c2 => ?_, fun c2 => ?_⟩)
  ·
    rw [if_pos (by omega)] at D
    refine x_aloadn (x := 39) rfl rfl ?_
    refine z_getM (N := 4) (v := v1) 8 3 rfl f_8_7 rfl J rfl qv1 ?_
    refine x_istore (lsx9 := [(7, .int v1), (0, .ref 39), (1, .int a1), (2, .int a2), (3, .int a3), (4, .int a4), (5, .int a5), (6, .int a6)]) rfl rfl rfl ?_
    refine x_aloadn (x := 39) rfl rfl ?_
    refine x_iload (x := v1) rfl rfl ?_
    refine x_iconst (v := 1) rfl ki_1 ?_
    refine z_iadd rfl rfl jk_1 (by omega) (fun v3 ev3 => ?_)
    refine z_putI (N := 4) (w := v3.toInt) 8 3 rfl f_8_7 rfl (jfin_no TX8 RX8 4 rfl rfl) hD J Sm rfl rfl rfl (pw_39_3 (by omega)) rfl (fun h w4 J Sm => ?_)
    rw [vwf w4 (show (v1.toInt + 1) = v3.toInt from by omega)] at D
    refine x_aloadn (x := 39) rfl rfl ?_
    refine x_iload (x := v1) rfl rfl ?_
    refine x_iconst (v := 0) rfl ki_0 ?_
    refine x_iloadn (x := a1) rfl rfl ?_
    refine x_inv (N := m_X8_put) (As := [.int v1, .int 0, .int a1]) (b := 39) (st := []) (dx9 := 1) (mc := 0) (ms := 0) (host := "") 8 rfl t_X8_put ⟨Or.inl q_8_29, i_X8_put.1, i_X8_put.2⟩ ⟨by decide, rfl⟩ (congrArg Prod.fst (J.1.1 39 (8, 4) rfl)) rfl (by decide) rfl rfl ⟨by decide, by decide⟩ (sf_X8_put_r39_c0d (jr_of rfl (by omega)) (jr_of rfl (by omega)) hD J rfl  (fun h J S5 X6 => ?_))
    have Sm := jSm_tr rfl Sm S5
    rw [X6] at D
    show jX m_X8_add 2 0 0 34 [(7, .int v1), (0, .ref 39), (1, .int a1), (2, .int a2), (3, .int a3), (4, .int a4), (5, .int a5), (6, .int a6)] [] _ 0 0 _
    refine x_aloadn (x := 39) rfl rfl ?_
    refine x_iload (x := v1) rfl rfl ?_
    refine x_iconst (v := 1) rfl ki_1 ?_
    refine x_iloadn (x := a2) rfl rfl ?_
    refine x_inv (N := m_X8_put) (As := [.int v1, .int 1, .int a2]) (b := 39) (st := []) (dx9 := 1) (mc := 0) (ms := 0) (host := "") 8 rfl t_X8_put ⟨Or.inl q_8_29, i_X8_put.1, i_X8_put.2⟩ ⟨by decide, rfl⟩ (congrArg Prod.fst (J.1.1 39 (8, 4) rfl)) rfl (by decide) rfl rfl ⟨by decide, by decide⟩ (sf_X8_put_r39_c1d (jr_of rfl (by omega)) (jr_of rfl (by omega)) hD J rfl  (fun h J S7 X8 => ?_))
    have Sm := jSm_tr rfl Sm S7
    rw [X8] at D
    show jX m_X8_add 2 0 0 42 [(7, .int v1), (0, .ref 39), (1, .int a1), (2, .int a2), (3, .int a3), (4, .int a4), (5, .int a5), (6, .int a6)] [] _ 0 0 _
    refine x_aloadn (x := 39) rfl rfl ?_
    refine x_iload (x := v1) rfl rfl ?_
    refine x_iconst (v := 2) rfl ki_2 ?_
    refine x_iloadn (x := a3) rfl rfl ?_
    refine x_inv (N := m_X8_put) (As := [.int v1, .int 2, .int a3]) (b := 39) (st := []) (dx9 := 1) (mc := 0) (ms := 0) (host := "") 8 rfl t_X8_put ⟨Or.inl q_8_29, i_X8_put.1, i_X8_put.2⟩ ⟨by decide, rfl⟩ (congrArg Prod.fst (J.1.1 39 (8, 4) rfl)) rfl (by decide) rfl rfl ⟨by decide, by decide⟩ (sf_X8_put_r39_c2d (jr_of rfl (by omega)) (jr_of rfl (by omega)) hD J rfl  (fun h J S9 X10 => ?_))
    have Sm := jSm_tr rfl Sm S9
    rw [X10] at D
    show jX m_X8_add 2 0 0 50 [(7, .int v1), (0, .ref 39), (1, .int a1), (2, .int a2), (3, .int a3), (4, .int a4), (5, .int a5), (6, .int a6)] [] _ 0 0 _
    refine x_aloadn (x := 39) rfl rfl ?_
    refine x_iload (x := v1) rfl rfl ?_
    refine x_iconst (v := 3) rfl ki_3 ?_
    refine x_iload (x := a4) rfl rfl ?_
    refine x_inv (N := m_X8_put) (As := [.int v1, .int 3, .int a4]) (b := 39) (st := []) (dx9 := 1) (mc := 0) (ms := 0) (host := "") 8 rfl t_X8_put ⟨Or.inl q_8_29, i_X8_put.1, i_X8_put.2⟩ ⟨by decide, rfl⟩ (congrArg Prod.fst (J.1.1 39 (8, 4) rfl)) rfl (by decide) rfl rfl ⟨by decide, by decide⟩ (sf_X8_put_r39_c3d (jr_of rfl (by omega)) (jr_of rfl (by omega)) hD J rfl  (fun h J S11 X12 => ?_))
    have Sm := jSm_tr rfl Sm S11
    rw [X12] at D
    show jX m_X8_add 2 0 0 59 [(7, .int v1), (0, .ref 39), (1, .int a1), (2, .int a2), (3, .int a3), (4, .int a4), (5, .int a5), (6, .int a6)] [] _ 0 0 _
    refine x_aloadn (x := 39) rfl rfl ?_
    refine x_iload (x := v1) rfl rfl ?_
    refine x_iconst (v := 4) rfl ki_4 ?_
    refine x_iload (x := a5) rfl rfl ?_
    refine x_inv (N := m_X8_put) (As := [.int v1, .int 4, .int a5]) (b := 39) (st := []) (dx9 := 1) (mc := 0) (ms := 0) (host := "") 8 rfl t_X8_put ⟨Or.inl q_8_29, i_X8_put.1, i_X8_put.2⟩ ⟨by decide, rfl⟩ (congrArg Prod.fst (J.1.1 39 (8, 4) rfl)) rfl (by decide) rfl rfl ⟨by decide, by decide⟩ (sf_X8_put_r39_c4d (jr_of rfl (by omega)) (jr_of rfl (by omega)) hD J rfl  (fun h J S13 X14 => ?_))
    have Sm := jSm_tr rfl Sm S13
    rw [X14] at D
    show jX m_X8_add 2 0 0 68 [(7, .int v1), (0, .ref 39), (1, .int a1), (2, .int a2), (3, .int a3), (4, .int a4), (5, .int a5), (6, .int a6)] [] _ 0 0 _
    refine x_aloadn (x := 39) rfl rfl ?_
    refine x_iload (x := v1) rfl rfl ?_
    refine x_iconst (v := 5) rfl ki_5 ?_
    refine x_iload (x := a6) rfl rfl ?_
    refine x_inv (N := m_X8_put) (As := [.int v1, .int 5, .int a6]) (b := 39) (st := []) (dx9 := 1) (mc := 0) (ms := 0) (host := "") 8 rfl t_X8_put ⟨Or.inl q_8_29, i_X8_put.1, i_X8_put.2⟩ ⟨by decide, rfl⟩ (congrArg Prod.fst (J.1.1 39 (8, 4) rfl)) rfl (by decide) rfl rfl ⟨by decide, by decide⟩ (sf_X8_put_r39_c5d (jr_of rfl (by omega)) (jr_of rfl (by omega)) hD J rfl  (fun h J S15 X16 => ?_))
    have Sm := jSm_tr rfl Sm S15
    rw [X16] at D
    show jX m_X8_add 2 0 0 77 [(7, .int v1), (0, .ref 39), (1, .int a1), (2, .int a2), (3, .int a3), (4, .int a4), (5, .int a5), (6, .int a6)] [] _ 0 0 _
    refine x_vret rfl rfl ?_
    exact hQ _ J Sm D.symm
  ·
    rw [if_neg (by omega)] at D
    refine x_vret rfl rfl ?_
    exact hQ _ J Sm D.symm
def fp_X11_join_r31d : jFp := [(31, 12, 13), (32, 19, 20), (39, 3, 4), (40, 0, 600), (78, 13, 14), (82, 0, 600), (83, 0, 600), (84, 0, 200), (86, 0, 3), (87, 10, 11), (87, 11, 12), (87, 12, 13), (87, 13, 14), (89, 0, 81), (90, 0, 9), (91, 0, 9), (92, 0, 9), (93, 0, 90), (94, 0, 14401)]
set_option maxRecDepth 100000 in
set_option maxHeartbeats 4000000 in
theorem ct_X11_join_r31d_157 {Dy : jH → Prop} {h0 : jH} {Q : Option Value → jH → Prop} {dr : (Int × jW)} {K98 : Int → Int → Int → jW → (Int × jW)} {R98 : Int} (hD : jDk Dy) (hQ : ∀ (v : Int32) hx9, jJ jSgX Dy hx9 → jSm fp_X11_join_r31d h0 hx9 → dr.1 = v.toInt → dr.2 = vw hx9 → Q (some (.int v)) hx9) (k98 : ∀ (l1 : Int32) (l2 : Int32) (l3 : Int32) (g0 : Int32) (h : jH), 9 - l3.toInt < R98 → 0 ≤ l1.toInt ∧ l1.toInt ≤ 146399 → 0 ≤ l3.toInt ∧ l3.toInt ≤ 9 → 0 ≤ g0.toInt ∧ g0.toInt ≤ 9 → jiv h 87 3 = g0 → jJ jSgX Dy h → jSm fp_X11_join_r31d h0 h → K98 l1.toInt l2.toInt l3.toInt (vw h) = dr → jX m_X11_join 14 0 0 98 [(0, .ref 31), (1, .int l1), (2, .int l2), (3, .int l3)] [] h 0 0 Q) : ∀ (l1 : Int32) (l2 : Int32) (l3 : Int32) (g0 : Int32) (h : jH), 0 ≤ l1.toInt ∧ l1.toInt ≤ 146399 → 0 ≤ l3.toInt ∧ l3.toInt ≤ 8 → 1 ≤ g0.toInt ∧ g0.toInt ≤ 9 → jiv h 87 3 = g0 → 9 - l3.toInt ≤ R98 → jJ jSgX Dy h → jSm fp_X11_join_r31d h0 h → d_X11_join_r31d_157 K98  l1.toInt l2.toInt l3.toInt (vw h) = dr → jX m_X11_join 14 0 0 157 [(0, .ref 31), (1, .int l1), (2, .int l2), (3, .int l3)] [] h 0 0 Q := by
  intro l1 l2 l3 g0 h y0 y1 y2 z0 m98 J Sm D
  have el2 := jfull l2
  unfold d_X11_join_r31d_157 at D
  try rw [vrf z0] at D
  refine z_iinc (x := l3) (lsx9 := fun v1 => [(3, .int v1), (0, .ref 31), (1, .int l1), (2, .int l2)]) rfl rfl rfl jko_1 (by omega) rfl (fun _ => rfl) (fun v1 ev1 => ?_)
  refine x_goto (tgt := 98) rfl rfl ?_
  try rw [show (l3.toInt + 1) = v1.toInt from by omega] at D
  exact jX.sub (jsb_c rfl (jsb_c rfl (jsb_c rfl (jsb_c rfl jsb_n)))) (k98 l1 l2 v1 g0 h (by omega) (jr_of rfl (by omega)) (jr_of rfl (by omega)) (jr_of rfl (by omega)) z0 J Sm D)
set_option maxRecDepth 100000 in
set_option maxHeartbeats 4000000 in
theorem ct_X11_join_r31d_98 {Dy : jH → Prop} {h0 : jH} {Q : Option Value → jH → Prop} {dr : (Int × jW)} (hD : jDk Dy) (hQ : ∀ (v : Int32) hx9, jJ jSgX Dy hx9 → jSm fp_X11_join_r31d h0 hx9 → dr.1 = v.toInt → dr.2 = vw hx9 → Q (some (.int v)) hx9) : ∀ r : Nat, ∀ (l1 : Int32) (l2 : Int32) (l3 : Int32) (g0 : Int32) (h : jH), 9 - l3.toInt < (r : Int) → 0 ≤ l1.toInt ∧ l1.toInt ≤ 146399 → 0 ≤ l3.toInt ∧ l3.toInt ≤ 9 → 0 ≤ g0.toInt ∧ g0.toInt ≤ 9 → jiv h 87 3 = g0 → jJ jSgX Dy h → jSm fp_X11_join_r31d h0 h → d_X11_join_r31d_98 r l1.toInt l2.toInt l3.toInt (vw h) = dr → jX m_X11_join 14 0 0 98 [(0, .ref 31), (1, .int l1), (2, .int l2), (3, .int l3)] [] h 0 0 Q := by
  intro r
  induction r with
  | zero =>
    intro l1 l2 l3 g0 h hm y0 y1 y2 z0  J Sm D
    exfalso
    have el2 := jfull l2
    omega
  | succ r ih =>
    intro l1 l2 l3 g0 h hm y0 y1 y2 z0  J Sm D
    have el2 := jfull l2
    rw [d_X11_join_r31d_98.eq_2] at D
    try rw [vrf z0] at D
    refine x_iloadn (x := l3) rfl rfl ?_
    refine x_aloadn (x := 31) rfl rfl ?_
    refine z_getR (N := 13) (b := 87) 11 5 rfl f_11_50 rfl J rfl 3973 ⟨rfl, rfl⟩ rfl ?_
    refine z_getM (N := 14) (v := g0) 3 3 rfl f_11_273 rfl J rfl z0 ?_
    refine x_icge (tgt := 163) rfl rfl (ti_ge rfl rfl ⟨fun c1 => ?_, fun c1 => ?_⟩)
    ·
      rw [if_pos (by omega)] at D
      refine x_aloadn (x := 31) rfl rfl ?_
      refine x_iloadn (x := l2) rfl rfl ?_
      refine x_inv (N := m_X11_accept) (As := [.int l2]) (b := 31) (st := []) (dx9 := 13) (mc := 0) (ms := 0) (host := "") 11 rfl t_X11_accept ⟨Or.inl q_11_165, i_X11_accept.1, i_X11_accept.2⟩ ⟨by decide, rfl⟩ (congrArg Prod.fst (J.1.1 31 (11, 13) rfl)) rfl (by decide) rfl rfl ⟨by decide, by decide⟩ (jC.of rfl k_X11_accept rfl ?_)
      show jX m_X11_accept 13 0 0 0 [(0, .ref 31), (1, .int l2)] [] _ 0 0 _
      refine x_aloadn (x := 31) rfl rfl ?_
      refine x_iconst (v := 0) rfl ki_0 ?_
      refine z_putI (N := 13) (w := 0) 11 12 rfl f_11_94 rfl (jfin_no TX11 RX11 13 rfl rfl) hD J Sm rfl rfl jk_0 (pw_31_12 (by omega)) rfl (fun h w2 J Sm => ?_)
      rw [vwf w2 (show 0 = (0 : Int32).toInt from by have := jk_0; omega)] at D
      refine x_aloadn (x := 31) rfl rfl ?_
      refine z_getR (N := 13) (b := 32) 11 0 rfl f_11_10 rfl J rfl 3968 ⟨rfl, rfl⟩ rfl ?_
      refine x_dup rfl rfl ?_
      refine z_getI0 (N := 20) 1 19 rfl f_11_528 rfl J rfl (fun v3 qv3 => ?_)
      have ev3 := jfull v3
      try rw [vrf (jmb_w w2 qv3 rfl)] at D
      refine x_iconst (v := 1) rfl ki_1 ?_
      refine z_iaddW rfl rfl jk_1 (fun v4 ev4 => ?_)
      have fv4 := jfull v4
      try rw [← ev4] at D
      refine z_putI (N := 20) (w := v4.toInt) 1 19 rfl f_11_528 rfl (jfin_no TX1 RX1 20 rfl rfl) hD J Sm rfl rfl rfl (pw_32_19 trivial) rfl (fun h w5 J Sm => ?_)
      rw [vwf w5 (show v4.toInt = v4.toInt from by omega)] at D
      refine x_iloadn (x := l2) rfl rfl ?_
      refine x_iret rfl rfl ?_
      show jX m_X11_join 14 0 0 168 [(0, .ref 31), (1, .int l1), (2, .int l2), (3, .int l3)] [.int l2] _ 0 0 _
      refine x_iret rfl rfl ?_
      exact hQ _ _ J Sm ((congrArg Prod.fst D).symm.trans (show l2.toInt = l2.toInt from by omega)) (congrArg Prod.snd D).symm
    ·
      rw [if_neg (by omega)] at D
      refine x_aloadn (x := 31) rfl rfl ?_
      refine z_getR (N := 13) (b := 87) 11 5 rfl f_11_50 rfl J rfl 3973 ⟨rfl, rfl⟩ rfl ?_
      refine x_iloadn (x := l3) rfl rfl ?_
      refine x_inv (N := m_X3_isNews) (As := [.int l3]) (b := 87) (st := []) (dx9 := 13) (mc := 0) (ms := 0) (host := "") 3 rfl t_X3_isNews ⟨Or.inl q_11_300, i_X3_isNews.1, i_X3_isNews.2⟩ ⟨by decide, rfl⟩ (congrArg Prod.fst (J.1.1 87 (3, 14) rfl)) rfl (by decide) rfl rfl ⟨by decide, by decide⟩ (jC.of rfl k_X3_isNews rfl ?_)
      show jX m_X3_isNews 13 0 0 0 [(0, .ref 87), (1, .int l3)] [] _ 0 0 _
      refine x_aloadn (x := 87) rfl rfl ?_
      refine x_iloadn (x := l3) rfl rfl ?_
      refine x_inv (N := m_X3_aheadOf) (As := [.int l3]) (b := 87) (st := []) (dx9 := 2) (mc := 0) (ms := 0) (host := "") 3 rfl t_X3_aheadOf ⟨Or.inl q_3_61, i_X3_aheadOf.1, i_X3_aheadOf.2⟩ ⟨by decide, rfl⟩ (congrArg Prod.fst (J.1.1 87 (3, 14) rfl)) rfl (by decide) rfl rfl ⟨by decide, by decide⟩ (sf_X3_aheadOf_r87d (jr_of rfl (by omega)) hD J rfl  (fun v9 h ev9 J S6 X7 X8 => ?_))
      have Sm := jSm_tr rfl Sm S6
      try rw [X7] at D
      try rw [← X8] at D
      show jX m_X3_isNews 13 0 0 5 [(0, .ref 87), (1, .int l3)] [.int v9] _ 0 0 _
      refine x_istoren (lsx9 := [(2, .int v9), (0, .ref 87), (1, .int l3)]) rfl rfl rfl ?_
      refine x_iloadn (x := v9) rfl rfl ?_
      refine x_iconst (v := (-1)) rfl ki_m1 ?_
      refine x_iceq (tgt := 42) rfl rfl (ti_eq rfl jk_m1 ⟨fun c10 => ?_, fun c10 => ?_⟩)
      ·
        rw [if_pos (by omega)] at D
        refine x_iconst (v := 0) rfl ki_0 ?_
        refine x_zret rfl rfl (by decide) ?_
        show jX m_X11_join 14 0 0 117 [(0, .ref 31), (1, .int l1), (2, .int l2), (3, .int l3)] [.int 0] _ 0 0 _
        refine x_ifeq (tgt := 157) rfl rfl (ti_eq jk_0 jk_0 (br_t (by omega) ?_))
        exact jX.sub (jsb_c rfl (jsb_c rfl (jsb_c rfl (jsb_c rfl jsb_n)))) (ct_X11_join_r31d_157 hD hQ ih l1 l2 l3 g0 h (jr_of rfl (by omega)) (jr_of rfl (by omega)) (jr_of rfl (by omega)) (jmc S6 rfl z0) (by omega) J Sm D)
      ·
        rw [if_neg (by omega)] at D
        refine x_aloadn (x := 87) rfl rfl ?_
        refine z_getR (N := 14) (b := 78) 3 1 rfl f_3_53 rfl J rfl 11137 ⟨rfl, rfl⟩ rfl ?_
        refine x_aloadn (x := 87) rfl rfl ?_
        refine x_iloadn (x := v9) rfl rfl ?_
        refine x_inv (N := m_X3_mentionAt) (As := [.int v9]) (b := 87) (st := [.ref 78]) (dx9 := 12) (mc := 0) (ms := 0) (host := "") 3 rfl t_X3_mentionAt ⟨Or.inl q_3_64, i_X3_mentionAt.1, i_X3_mentionAt.2⟩ ⟨by decide, rfl⟩ (congrArg Prod.fst (J.1.1 87 (3, 14) rfl)) rfl (by decide) rfl rfl ⟨by decide, by decide⟩ (jC.of rfl k_X3_mentionAt rfl ?_)
        show jX m_X3_mentionAt 12 0 0 0 [(0, .ref 87), (1, .int v9)] [] _ 0 0 _
        refine x_iloadn (x := v9) rfl rfl ?_
        refine x_iflt (tgt := 21) rfl rfl (ti_lt rfl jk_0 (br_f (by omega) ?_))
        refine x_iloadn (x := v9) rfl rfl ?_
        refine x_aloadn (x := 87) rfl rfl ?_
        refine z_getM (N := 14) (v := g0) 3 3 rfl f_3_15 rfl J rfl (jmc S6 rfl z0) ?_
        refine x_icge (tgt := 21) rfl rfl (ti_ge rfl rfl ⟨fun c11 => ?_, fun c11 => ?_⟩)
        ·
          rw [if_pos (by omega)] at D
          refine x_iconst (v := (-1)) rfl ki_m1 ?_
          refine x_iret rfl rfl ?_
          show jX m_X3_isNews 13 0 0 20 [(2, .int v9), (0, .ref 87), (1, .int l3)] [.int (-1), .ref 78] _ 0 0 _
          refine x_inv (N := m_X7_soulAt) (As := [.int (-1)]) (b := 78) (st := []) (dx9 := 12) (mc := 0) (ms := 0) (host := "") 7 rfl t_X7_soulAt ⟨Or.inl q_3_67, i_X7_soulAt.1, i_X7_soulAt.2⟩ ⟨by decide, rfl⟩ (congrArg Prod.fst (J.1.1 78 (7, 16) rfl)) rfl (by decide) rfl rfl ⟨by decide, by decide⟩ (jC.of rfl k_X7_soulAt rfl ?_)
          show jX m_X7_soulAt 12 0 0 0 [(0, .ref 78), (1, .int (-1))] [] _ 0 0 _
          refine x_iloadn (x := (-1)) rfl rfl ?_
          refine x_iflt (tgt := 36) rfl rfl (ti_lt jk_m1 jk_0 (br_t (by omega) ?_))
          refine x_iconst (v := (-1)) rfl ki_m1 ?_
          refine x_iret rfl rfl ?_
          show jX m_X3_isNews 13 0 0 23 [(2, .int v9), (0, .ref 87), (1, .int l3)] [.int (-1)] _ 0 0 _
          refine x_aloadn (x := 87) rfl rfl ?_
          refine z_getR (N := 14) (b := 78) 3 1 rfl f_3_53 rfl J rfl 11137 ⟨rfl, rfl⟩ rfl ?_
          refine x_aloadn (x := 87) rfl rfl ?_
          refine x_iloadn (x := l3) rfl rfl ?_
          refine x_inv (N := m_X3_mentionAt) (As := [.int l3]) (b := 87) (st := [.ref 78, .int (-1)]) (dx9 := 12) (mc := 0) (ms := 0) (host := "") 3 rfl t_X3_mentionAt ⟨Or.inl q_3_64, i_X3_mentionAt.1, i_X3_mentionAt.2⟩ ⟨by decide, rfl⟩ (congrArg Prod.fst (J.1.1 87 (3, 14) rfl)) rfl (by decide) rfl rfl ⟨by decide, by decide⟩ (jC.of rfl k_X3_mentionAt rfl ?_)
          show jX m_X3_mentionAt 12 0 0 0 [(0, .ref 87), (1, .int l3)] [] _ 0 0 _
          refine x_iloadn (x := l3) rfl rfl ?_
          refine x_iflt (tgt := 21) rfl rfl (ti_lt rfl jk_0 (br_f (by omega) ?_))
          refine x_iloadn (x := l3) rfl rfl ?_
          refine x_aloadn (x := 87) rfl rfl ?_
          refine z_getM (N := 14) (v := g0) 3 3 rfl f_3_15 rfl J rfl (jmc S6 rfl z0) ?_
          refine x_icge (tgt := 21) rfl rfl (ti_ge rfl rfl ⟨fun c12 => ?_, fun c12 => ?_⟩)
          ·
            rw [if_pos (by omega)] at D
            refine x_iconst (v := (-1)) rfl ki_m1 ?_
            refine x_iret rfl rfl ?_
            show jX m_X3_isNews 13 0 0 32 [(2, .int v9), (0, .ref 87), (1, .int l3)] [.int (-1), .ref 78, .int (-1)] _ 0 0 _
            refine x_inv (N := m_X7_soulAt) (As := [.int (-1)]) (b := 78) (st := [.int (-1)]) (dx9 := 12) (mc := 0) (ms := 0) (host := "") 7 rfl t_X7_soulAt ⟨Or.inl q_3_67, i_X7_soulAt.1, i_X7_soulAt.2⟩ ⟨by decide, rfl⟩ (congrArg Prod.fst (J.1.1 78 (7, 16) rfl)) rfl (by decide) rfl rfl ⟨by decide, by decide⟩ (jC.of rfl k_X7_soulAt rfl ?_)
            show jX m_X7_soulAt 12 0 0 0 [(0, .ref 78), (1, .int (-1))] [] _ 0 0 _
            refine x_iloadn (x := (-1)) rfl rfl ?_
            refine x_iflt (tgt := 36) rfl rfl (ti_lt jk_m1 jk_0 (br_t (by omega) ?_))
            refine x_iconst (v := (-1)) rfl ki_m1 ?_
            refine x_iret rfl rfl ?_
            show jX m_X3_isNews 13 0 0 35 [(2, .int v9), (0, .ref 87), (1, .int l3)] [.int (-1), .int (-1)] _ 0 0 _
            refine x_iceq (tgt := 42) rfl rfl (ti_eq jk_m1 jk_m1 (br_t (by omega) ?_))
            refine x_iconst (v := 0) rfl ki_0 ?_
            refine x_zret rfl rfl (by decide) ?_
            show jX m_X11_join 14 0 0 117 [(0, .ref 31), (1, .int l1), (2, .int l2), (3, .int l3)] [.int 0] _ 0 0 _
            refine x_ifeq (tgt := 157) rfl rfl (ti_eq jk_0 jk_0 (br_t (by omega) ?_))
            exact jX.sub (jsb_c rfl (jsb_c rfl (jsb_c rfl (jsb_c rfl jsb_n)))) (ct_X11_join_r31d_157 hD hQ ih l1 l2 l3 g0 h (jr_of rfl (by omega)) (jr_of rfl (by omega)) (jr_of rfl (by omega)) (jmc S6 rfl z0) (by omega) J Sm D)
          ·
            rw [if_neg (by omega)] at D
            refine x_aloadn (x := 87) rfl rfl ?_
            refine z_getR (N := 14) (b := 88) 3 2 rfl f_3_9 rfl J rfl 11138 ⟨rfl, rfl⟩ rfl ?_
            refine x_iloadn (x := l3) rfl rfl ?_
            refine z_iald (N := 9) rfl J rfl sg_88_0_9_1_0_1 rfl (by omega) (fun v13 qv13 ev13 => ?_)
            try rw [vrd qv13 (show l3.toInt = l3.toInt from by omega)] at D
            refine x_goto (tgt := 22) rfl rfl ?_
            refine x_iret rfl rfl ?_
            show jX m_X3_isNews 13 0 0 32 [(2, .int v9), (0, .ref 87), (1, .int l3)] [.int v13, .ref 78, .int (-1)] _ 0 0 _
            refine x_inv (N := m_X7_soulAt) (As := [.int v13]) (b := 78) (st := [.int (-1)]) (dx9 := 12) (mc := 0) (ms := 0) (host := "") 7 rfl t_X7_soulAt ⟨Or.inl q_3_67, i_X7_soulAt.1, i_X7_soulAt.2⟩ ⟨by decide, rfl⟩ (congrArg Prod.fst (J.1.1 78 (7, 16) rfl)) rfl (by decide) rfl rfl ⟨by decide, by decide⟩ (jC.of rfl k_X7_soulAt rfl ?_)
            show jX m_X7_soulAt 12 0 0 0 [(0, .ref 78), (1, .int v13)] [] _ 0 0 _
            refine x_iloadn (x := v13) rfl rfl ?_
            refine x_iflt (tgt := 36) rfl rfl (ti_lt rfl jk_0 (br_f (by omega) ?_))
            refine x_iloadn (x := v13) rfl rfl ?_
            refine x_sipush (v := 600) rfl ks_600 ?_
            refine x_icge (tgt := 36) rfl rfl (ti_ge rfl jk_600 (br_f (by omega) ?_))
            refine x_iloadn (x := v13) rfl rfl ?_
            refine x_iconst (v := 3) rfl ki_3 ?_
            refine z_idiv rfl rfl jk_3 (by omega) (by omega) (fun v14 ev14 => ?_)
            refine x_aloadn (x := 78) rfl rfl ?_
            refine z_getR (N := 16) (b := 32) 7 0 rfl f_7_55 rfl J rfl 9984 ⟨rfl, rfl⟩ rfl ?_
            refine z_getR (N := 20) (b := 33) 1 0 rfl f_7_63 rfl J rfl 4096 ⟨rfl, rfl⟩ rfl ?_
            refine z_getI (N := 4) 8 3 rfl f_7_85 rfl J rfl sg_33_3_4_1_0_1 (fun v15 qv15 ev15 => ?_)
            try rw [vrf qv15] at D
            refine x_icge (tgt := 36) rfl rfl (ti_ge rfl rfl ⟨fun c16 => ?_, fun c16 => ?_⟩)
            ·
              rw [if_pos (by omega)] at D
              refine x_iconst (v := (-1)) rfl ki_m1 ?_
              refine x_iret rfl rfl ?_
              show jX m_X3_isNews 13 0 0 35 [(2, .int v9), (0, .ref 87), (1, .int l3)] [.int (-1), .int (-1)] _ 0 0 _
              refine x_iceq (tgt := 42) rfl rfl (ti_eq jk_m1 jk_m1 (br_t (by omega) ?_))
              refine x_iconst (v := 0) rfl ki_0 ?_
              refine x_zret rfl rfl (by decide) ?_
              show jX m_X11_join 14 0 0 117 [(0, .ref 31), (1, .int l1), (2, .int l2), (3, .int l3)] [.int 0] _ 0 0 _
              refine x_ifeq (tgt := 157) rfl rfl (ti_eq jk_0 jk_0 (br_t (by omega) ?_))
              exact jX.sub (jsb_c rfl (jsb_c rfl (jsb_c rfl (jsb_c rfl jsb_n)))) (ct_X11_join_r31d_157 hD hQ ih l1 l2 l3 g0 h (jr_of rfl (by omega)) (jr_of rfl (by omega)) (jr_of rfl (by omega)) (jmc S6 rfl z0) (by omega) J Sm D)
            ·
              rw [if_neg (by omega)] at D
              refine x_aloadn (x := 78) rfl rfl ?_
              refine z_getR (N := 16) (b := 82) 7 10 rfl f_7_37 rfl J rfl 9994 ⟨rfl, rfl⟩ rfl ?_
              refine x_iloadn (x := v13) rfl rfl ?_
              refine z_iald (N := 600) rfl J rfl sg_82_0_600_1_0_1 rfl (by omega) (fun v17 qv17 ev17 => ?_)
              try rw [vrd qv17 (show v13.toInt = v13.toInt from by omega)] at D
              refine x_goto (tgt := 37) rfl rfl ?_
              refine x_iret rfl rfl ?_
              show jX m_X3_isNews 13 0 0 35 [(2, .int v9), (0, .ref 87), (1, .int l3)] [.int v17, .int (-1)] _ 0 0 _
              refine x_iceq (tgt := 42) rfl rfl (ti_eq jk_m1 rfl ⟨fun c18 => ?_, fun c18 => ?_⟩)
              ·
                rw [if_pos (by omega)] at D
                refine x_iconst (v := 0) rfl ki_0 ?_
                refine x_zret rfl rfl (by decide) ?_
                show jX m_X11_join 14 0 0 117 [(0, .ref 31), (1, .int l1), (2, .int l2), (3, .int l3)] [.int 0] _ 0 0 _
                refine x_ifeq (tgt := 157) rfl rfl (ti_eq jk_0 jk_0 (br_t (by omega) ?_))
                exact jX.sub (jsb_c rfl (jsb_c rfl (jsb_c rfl (jsb_c rfl jsb_n)))) (ct_X11_join_r31d_157 hD hQ ih l1 l2 l3 g0 h (jr_of rfl (by omega)) (jr_of rfl (by omega)) (jr_of rfl (by omega)) (jmc S6 rfl z0) (by omega) J Sm D)
              ·
                rw [if_neg (by omega)] at D
                refine x_iconst (v := 1) rfl ki_1 ?_
                refine x_goto (tgt := 43) rfl rfl ?_
                refine x_zret rfl rfl (by decide) ?_
                show jX m_X11_join 14 0 0 117 [(0, .ref 31), (1, .int l1), (2, .int l2), (3, .int l3)] [.int 1] _ 0 0 _
                refine x_ifeq (tgt := 157) rfl rfl (ti_eq jk_1 jk_0 (br_f (by omega) ?_))
                refine x_aloadn (x := 31) rfl rfl ?_
                refine z_getR (N := 13) (b := 32) 11 0 rfl f_11_10 rfl J rfl 3968 ⟨rfl, rfl⟩ rfl ?_
                refine z_getR (N := 20) (b := 39) 1 3 rfl f_11_237 rfl J rfl 4099 ⟨rfl, rfl⟩ rfl ?_
                refine x_iloadn (x := l1) rfl rfl ?_
                refine x_aloadn (x := 31) rfl rfl ?_
                refine z_getR (N := 13) (b := 87) 11 5 rfl f_11_50 rfl J rfl 3973 ⟨rfl, rfl⟩ rfl ?_
                refine x_aloadn (x := 31) rfl rfl ?_
                refine z_getR (N := 13) (b := 87) 11 5 rfl f_11_50 rfl J rfl 3973 ⟨rfl, rfl⟩ rfl ?_
                refine x_iloadn (x := l3) rfl rfl ?_
                refine x_inv (N := m_X3_aheadOf) (As := [.int l3]) (b := 87) (st := [.ref 87, .int l1, .ref 39]) (dx9 := 2) (mc := 0) (ms := 0) (host := "") 3 rfl t_X3_aheadOf ⟨Or.inl q_11_306, i_X3_aheadOf.1, i_X3_aheadOf.2⟩ ⟨by decide, rfl⟩ (congrArg Prod.fst (J.1.1 87 (3, 14) rfl)) rfl (by decide) rfl rfl ⟨by decide, by decide⟩ (sf_X3_aheadOf_r87d (jr_of rfl (by omega)) hD J rfl  (fun v22 h ev22 J S19 X20 X21 => ?_))
                have Sm := jSm_tr rfl Sm S19
                have Lkv22 : v9.toInt = v22.toInt := by (have Z := X7; try rw [← X8] at Z; exact Z.symm.trans X20)
                try rw [Lkv22] at D
                try rw [X20] at D
                try rw [← X21] at D
                show jX m_X11_join 14 0 0 140 [(0, .ref 31), (1, .int l1), (2, .int l2), (3, .int l3)] [.int v22, .ref 87, .int l1, .ref 39] _ 0 0 _
                refine x_inv (N := m_X3_mentionAt) (As := [.int v22]) (b := 87) (st := [.int l1, .ref 39]) (dx9 := 13) (mc := 0) (ms := 0) (host := "") 3 rfl t_X3_mentionAt ⟨Or.inl q_11_309, i_X3_mentionAt.1, i_X3_mentionAt.2⟩ ⟨by decide, rfl⟩ (congrArg Prod.fst (J.1.1 87 (3, 14) rfl)) rfl (by decide) rfl rfl ⟨by decide, by decide⟩ (jC.of rfl k_X3_mentionAt rfl ?_)
                show jX m_X3_mentionAt 13 0 0 0 [(0, .ref 87), (1, .int v22)] [] _ 0 0 _
                refine x_iloadn (x := v22) rfl rfl ?_
                refine x_iflt (tgt := 21) rfl rfl (ti_lt rfl jk_0 ⟨fun c23 => ?_, fun c23 => ?_⟩)
                ·
                  rw [if_pos (by omega)] at D
                  refine x_iconst (v := (-1)) rfl ki_m1 ?_
                  refine x_iret rfl rfl ?_
                  show jX m_X11_join 14 0 0 143 [(0, .ref 31), (1, .int l1), (2, .int l2), (3, .int l3)] [.int (-1), .int l1, .ref 39] _ 0 0 _
                  refine x_aloadn (x := 31) rfl rfl ?_
                  refine z_getR (N := 13) (b := 87) 11 5 rfl f_11_50 rfl J rfl 3973 ⟨rfl, rfl⟩ rfl ?_
                  refine x_iloadn (x := l3) rfl rfl ?_
                  refine x_inv (N := m_X3_mentionAt) (As := [.int l3]) (b := 87) (st := [.int (-1), .int l1, .ref 39]) (dx9 := 13) (mc := 0) (ms := 0) (host := "") 3 rfl t_X3_mentionAt ⟨Or.inl q_11_309, i_X3_mentionAt.1, i_X3_mentionAt.2⟩ ⟨by decide, rfl⟩ (congrArg Prod.fst (J.1.1 87 (3, 14) rfl)) rfl (by decide) rfl rfl ⟨by decide, by decide⟩ (jC.of rfl k_X3_mentionAt rfl ?_)
                  show jX m_X3_mentionAt 13 0 0 0 [(0, .ref 87), (1, .int l3)] [] _ 0 0 _
                  refine x_iloadn (x := l3) rfl rfl ?_
                  refine x_iflt (tgt := 21) rfl rfl (ti_lt rfl jk_0 (br_f (by omega) ?_))
                  refine x_iloadn (x := l3) rfl rfl ?_
                  refine x_aloadn (x := 87) rfl rfl ?_
                  refine z_getM (N := 14) (v := g0) 3 3 rfl f_3_15 rfl J rfl (jmc S19 rfl (jmc S6 rfl z0)) ?_
                  refine x_icge (tgt := 21) rfl rfl (ti_ge rfl rfl ⟨fun c24 => ?_, fun c24 => ?_⟩)
                  ·
                    rw [if_pos (by omega)] at D
                    refine x_iconst (v := (-1)) rfl ki_m1 ?_
                    refine x_iret rfl rfl ?_
                    show jX m_X11_join 14 0 0 151 [(0, .ref 31), (1, .int l1), (2, .int l2), (3, .int l3)] [.int (-1), .int (-1), .int l1, .ref 39] _ 0 0 _
                    refine x_iconst (v := 0) rfl ki_0 ?_
                    refine x_iconst (v := 0) rfl ki_0 ?_
                    refine x_iconst (v := 0) rfl ki_0 ?_
                    refine x_inv (N := m_X8_add) (As := [.int l1, .int (-1), .int (-1), .int 0, .int 0, .int 0]) (b := 39) (st := []) (dx9 := 2) (mc := 0) (ms := 0) (host := "") 8 rfl t_X8_add ⟨Or.inl q_11_145, i_X8_add.1, i_X8_add.2⟩ ⟨by decide, rfl⟩ (congrArg Prod.fst (J.1.1 39 (8, 4) rfl)) rfl (by decide) rfl rfl ⟨by decide, by decide⟩ (sf_X8_add_r39d (jr_of rfl (by omega)) (jr_of jk_m1 (by omega)) (jr_of jk_m1 (by omega)) (jr_of jk_0 (by omega)) (jr_of jk_0 (by omega)) (jr_of jk_0 (by omega)) hD J rfl  (fun h J S25 X26 => ?_))
                    have Sm := jSm_tr rfl Sm S25
                    try rw [jk_m1] at X26
                    try rw [jk_0] at X26
                    rw [X26] at D
                    show jX m_X11_join 14 0 0 157 [(0, .ref 31), (1, .int l1), (2, .int l2), (3, .int l3)] [] _ 0 0 _
                    exact jX.sub (jsb_c rfl (jsb_c rfl (jsb_c rfl (jsb_c rfl jsb_n)))) (ct_X11_join_r31d_157 hD hQ ih l1 l2 l3 g0 h (jr_of rfl (by omega)) (jr_of rfl (by omega)) (jr_of rfl (by omega)) (jmc S25 rfl (jmc S19 rfl (jmc S6 rfl z0))) (by omega) J Sm D)
                  ·
                    rw [if_neg (by omega)] at D
                    refine x_aloadn (x := 87) rfl rfl ?_
                    refine z_getR (N := 14) (b := 88) 3 2 rfl f_3_9 rfl J rfl 11138 ⟨rfl, rfl⟩ rfl ?_
                    refine x_iloadn (x := l3) rfl rfl ?_
                    refine z_ialdM (N := 9) (v := v13) rfl J rfl rfl (by omega) (jmc S19 rfl qv13) ?_
                    refine x_goto (tgt := 22) rfl rfl ?_
                    refine x_iret rfl rfl ?_
                    show jX m_X11_join 14 0 0 151 [(0, .ref 31), (1, .int l1), (2, .int l2), (3, .int l3)] [.int v13, .int (-1), .int l1, .ref 39] _ 0 0 _
                    refine x_iconst (v := 0) rfl ki_0 ?_
                    refine x_iconst (v := 0) rfl ki_0 ?_
                    refine x_iconst (v := 0) rfl ki_0 ?_
                    refine x_inv (N := m_X8_add) (As := [.int l1, .int (-1), .int v13, .int 0, .int 0, .int 0]) (b := 39) (st := []) (dx9 := 2) (mc := 0) (ms := 0) (host := "") 8 rfl t_X8_add ⟨Or.inl q_11_145, i_X8_add.1, i_X8_add.2⟩ ⟨by decide, rfl⟩ (congrArg Prod.fst (J.1.1 39 (8, 4) rfl)) rfl (by decide) rfl rfl ⟨by decide, by decide⟩ (sf_X8_add_r39d (jr_of rfl (by omega)) (jr_of jk_m1 (by omega)) (jr_of rfl (by omega)) (jr_of jk_0 (by omega)) (jr_of jk_0 (by omega)) (jr_of jk_0 (by omega)) hD J rfl  (fun h J S27 X28 => ?_))
                    have Sm := jSm_tr rfl Sm S27
                    try rw [jk_m1] at X28
                    try rw [jk_0] at X28
                    rw [X28] at D
                    show jX m_X11_join 14 0 0 157 [(0, .ref 31), (1, .int l1), (2, .int l2), (3, .int l3)] [] _ 0 0 _
                    exact jX.sub (jsb_c rfl (jsb_c rfl (jsb_c rfl (jsb_c rfl jsb_n)))) (ct_X11_join_r31d_157 hD hQ ih l1 l2 l3 g0 h (jr_of rfl (by omega)) (jr_of rfl (by omega)) (jr_of rfl (by omega)) (jmc S27 rfl (jmc S19 rfl (jmc S6 rfl z0))) (by omega) J Sm D)
                ·
                  rw [if_neg (by omega)] at D
                  refine x_iloadn (x := v22) rfl rfl ?_
                  refine x_aloadn (x := 87) rfl rfl ?_
                  refine z_getM (N := 14) (v := g0) 3 3 rfl f_3_15 rfl J rfl (jmc S19 rfl (jmc S6 rfl z0)) ?_
                  refine x_icge (tgt := 21) rfl rfl (ti_ge rfl rfl ⟨fun c29 => ?_, fun c29 => ?_⟩)
                  ·
                    rw [if_pos (by omega)] at D
                    refine x_iconst (v := (-1)) rfl ki_m1 ?_
                    refine x_iret rfl rfl ?_
                    show jX m_X11_join 14 0 0 143 [(0, .ref 31), (1, .int l1), (2, .int l2), (3, .int l3)] [.int (-1), .int l1, .ref 39] _ 0 0 _
                    refine x_aloadn (x := 31) rfl rfl ?_
                    refine z_getR (N := 13) (b := 87) 11 5 rfl f_11_50 rfl J rfl 3973 ⟨rfl, rfl⟩ rfl ?_
                    refine x_iloadn (x := l3) rfl rfl ?_
                    refine x_inv (N := m_X3_mentionAt) (As := [.int l3]) (b := 87) (st := [.int (-1), .int l1, .ref 39]) (dx9 := 13) (mc := 0) (ms := 0) (host := "") 3 rfl t_X3_mentionAt ⟨Or.inl q_11_309, i_X3_mentionAt.1, i_X3_mentionAt.2⟩ ⟨by decide, rfl⟩ (congrArg Prod.fst (J.1.1 87 (3, 14) rfl)) rfl (by decide) rfl rfl ⟨by decide, by decide⟩ (jC.of rfl k_X3_mentionAt rfl ?_)
                    show jX m_X3_mentionAt 13 0 0 0 [(0, .ref 87), (1, .int l3)] [] _ 0 0 _
                    refine x_iloadn (x := l3) rfl rfl ?_
                    refine x_iflt (tgt := 21) rfl rfl (ti_lt rfl jk_0 (br_f (by omega) ?_))
                    refine x_iloadn (x := l3) rfl rfl ?_
                    refine x_aloadn (x := 87) rfl rfl ?_
                    refine z_getM (N := 14) (v := g0) 3 3 rfl f_3_15 rfl J rfl (jmc S19 rfl (jmc S6 rfl z0)) ?_
                    refine x_icge (tgt := 21) rfl rfl (ti_ge rfl rfl ⟨fun c30 => ?_, fun c30 => ?_⟩)
                    ·
                      rw [if_pos (by omega)] at D
                      refine x_iconst (v := (-1)) rfl ki_m1 ?_
                      refine x_iret rfl rfl ?_
                      show jX m_X11_join 14 0 0 151 [(0, .ref 31), (1, .int l1), (2, .int l2), (3, .int l3)] [.int (-1), .int (-1), .int l1, .ref 39] _ 0 0 _
                      refine x_iconst (v := 0) rfl ki_0 ?_
                      refine x_iconst (v := 0) rfl ki_0 ?_
                      refine x_iconst (v := 0) rfl ki_0 ?_
                      refine x_inv (N := m_X8_add) (As := [.int l1, .int (-1), .int (-1), .int 0, .int 0, .int 0]) (b := 39) (st := []) (dx9 := 2) (mc := 0) (ms := 0) (host := "") 8 rfl t_X8_add ⟨Or.inl q_11_145, i_X8_add.1, i_X8_add.2⟩ ⟨by decide, rfl⟩ (congrArg Prod.fst (J.1.1 39 (8, 4) rfl)) rfl (by decide) rfl rfl ⟨by decide, by decide⟩ (sf_X8_add_r39d (jr_of rfl (by omega)) (jr_of jk_m1 (by omega)) (jr_of jk_m1 (by omega)) (jr_of jk_0 (by omega)) (jr_of jk_0 (by omega)) (jr_of jk_0 (by omega)) hD J rfl  (fun h J S31 X32 => ?_))
                      have Sm := jSm_tr rfl Sm S31
                      try rw [jk_m1] at X32
                      try rw [jk_0] at X32
                      rw [X32] at D
                      show jX m_X11_join 14 0 0 157 [(0, .ref 31), (1, .int l1), (2, .int l2), (3, .int l3)] [] _ 0 0 _
                      exact jX.sub (jsb_c rfl (jsb_c rfl (jsb_c rfl (jsb_c rfl jsb_n)))) (ct_X11_join_r31d_157 hD hQ ih l1 l2 l3 g0 h (jr_of rfl (by omega)) (jr_of rfl (by omega)) (jr_of rfl (by omega)) (jmc S31 rfl (jmc S19 rfl (jmc S6 rfl z0))) (by omega) J Sm D)
                    ·
                      rw [if_neg (by omega)] at D
                      refine x_aloadn (x := 87) rfl rfl ?_
                      refine z_getR (N := 14) (b := 88) 3 2 rfl f_3_9 rfl J rfl 11138 ⟨rfl, rfl⟩ rfl ?_
                      refine x_iloadn (x := l3) rfl rfl ?_
                      refine z_ialdM (N := 9) (v := v13) rfl J rfl rfl (by omega) (jmc S19 rfl qv13) ?_
                      refine x_goto (tgt := 22) rfl rfl ?_
                      refine x_iret rfl rfl ?_
                      show jX m_X11_join 14 0 0 151 [(0, .ref 31), (1, .int l1), (2, .int l2), (3, .int l3)] [.int v13, .int (-1), .int l1, .ref 39] _ 0 0 _
                      refine x_iconst (v := 0) rfl ki_0 ?_
                      refine x_iconst (v := 0) rfl ki_0 ?_
                      refine x_iconst (v := 0) rfl ki_0 ?_
                      refine x_inv (N := m_X8_add) (As := [.int l1, .int (-1), .int v13, .int 0, .int 0, .int 0]) (b := 39) (st := []) (dx9 := 2) (mc := 0) (ms := 0) (host := "") 8 rfl t_X8_add ⟨Or.inl q_11_145, i_X8_add.1, i_X8_add.2⟩ ⟨by decide, rfl⟩ (congrArg Prod.fst (J.1.1 39 (8, 4) rfl)) rfl (by decide) rfl rfl ⟨by decide, by decide⟩ (sf_X8_add_r39d (jr_of rfl (by omega)) (jr_of jk_m1 (by omega)) (jr_of rfl (by omega)) (jr_of jk_0 (by omega)) (jr_of jk_0 (by omega)) (jr_of jk_0 (by omega)) hD J rfl  (fun h J S33 X34 => ?_))
                      have Sm := jSm_tr rfl Sm S33
                      try rw [jk_m1] at X34
                      try rw [jk_0] at X34
                      rw [X34] at D
                      show jX m_X11_join 14 0 0 157 [(0, .ref 31), (1, .int l1), (2, .int l2), (3, .int l3)] [] _ 0 0 _
                      exact jX.sub (jsb_c rfl (jsb_c rfl (jsb_c rfl (jsb_c rfl jsb_n)))) (ct_X11_join_r31d_157 hD hQ ih l1 l2 l3 g0 h (jr_of rfl (by omega)) (jr_of rfl (by omega)) (jr_of rfl (by omega)) (jmc S33 rfl (jmc S19 rfl (jmc S6 rfl z0))) (by omega) J Sm D)
                  ·
                    rw [if_neg (by omega)] at D
                    refine x_aloadn (x := 87) rfl rfl ?_
                    refine z_getR (N := 14) (b := 88) 3 2 rfl f_3_9 rfl J rfl 11138 ⟨rfl, rfl⟩ rfl ?_
                    refine x_iloadn (x := v22) rfl rfl ?_
                    refine z_iald (N := 9) rfl J rfl sg_88_0_9_1_0_1 rfl (by omega) (fun v35 qv35 ev35 => ?_)
                    try rw [vrd qv35 (show v22.toInt = v22.toInt from by omega)] at D
                    refine x_goto (tgt := 22) rfl rfl ?_
                    refine x_iret rfl rfl ?_
                    show jX m_X11_join 14 0 0 143 [(0, .ref 31), (1, .int l1), (2, .int l2), (3, .int l3)] [.int v35, .int l1, .ref 39] _ 0 0 _
                    refine x_aloadn (x := 31) rfl rfl ?_
                    refine z_getR (N := 13) (b := 87) 11 5 rfl f_11_50 rfl J rfl 3973 ⟨rfl, rfl⟩ rfl ?_
                    refine x_iloadn (x := l3) rfl rfl ?_
                    refine x_inv (N := m_X3_mentionAt) (As := [.int l3]) (b := 87) (st := [.int v35, .int l1, .ref 39]) (dx9 := 13) (mc := 0) (ms := 0) (host := "") 3 rfl t_X3_mentionAt ⟨Or.inl q_11_309, i_X3_mentionAt.1, i_X3_mentionAt.2⟩ ⟨by decide, rfl⟩ (congrArg Prod.fst (J.1.1 87 (3, 14) rfl)) rfl (by decide) rfl rfl ⟨by decide, by decide⟩ (jC.of rfl k_X3_mentionAt rfl ?_)
                    show jX m_X3_mentionAt 13 0 0 0 [(0, .ref 87), (1, .int l3)] [] _ 0 0 _
                    refine x_iloadn (x := l3) rfl rfl ?_
                    refine x_iflt (tgt := 21) rfl rfl (ti_lt rfl jk_0 (br_f (by omega) ?_))
                    refine x_iloadn (x := l3) rfl rfl ?_
                    refine x_aloadn (x := 87) rfl rfl ?_
                    refine z_getM (N := 14) (v := g0) 3 3 rfl f_3_15 rfl J rfl (jmc S19 rfl (jmc S6 rfl z0)) ?_
                    refine x_icge (tgt := 21) rfl rfl (ti_ge rfl rfl ⟨fun c36 => ?_, fun c36 => ?_⟩)
                    ·
                      rw [if_pos (by omega)] at D
                      refine x_iconst (v := (-1)) rfl ki_m1 ?_
                      refine x_iret rfl rfl ?_
                      show jX m_X11_join 14 0 0 151 [(0, .ref 31), (1, .int l1), (2, .int l2), (3, .int l3)] [.int (-1), .int v35, .int l1, .ref 39] _ 0 0 _
                      refine x_iconst (v := 0) rfl ki_0 ?_
                      refine x_iconst (v := 0) rfl ki_0 ?_
                      refine x_iconst (v := 0) rfl ki_0 ?_
                      refine x_inv (N := m_X8_add) (As := [.int l1, .int v35, .int (-1), .int 0, .int 0, .int 0]) (b := 39) (st := []) (dx9 := 2) (mc := 0) (ms := 0) (host := "") 8 rfl t_X8_add ⟨Or.inl q_11_145, i_X8_add.1, i_X8_add.2⟩ ⟨by decide, rfl⟩ (congrArg Prod.fst (J.1.1 39 (8, 4) rfl)) rfl (by decide) rfl rfl ⟨by decide, by decide⟩ (sf_X8_add_r39d (jr_of rfl (by omega)) (jr_of rfl (by omega)) (jr_of jk_m1 (by omega)) (jr_of jk_0 (by omega)) (jr_of jk_0 (by omega)) (jr_of jk_0 (by omega)) hD J rfl  (fun h J S37 X38 => ?_))
                      have Sm := jSm_tr rfl Sm S37
                      try rw [jk_m1] at X38
                      try rw [jk_0] at X38
                      rw [X38] at D
                      show jX m_X11_join 14 0 0 157 [(0, .ref 31), (1, .int l1), (2, .int l2), (3, .int l3)] [] _ 0 0 _
                      exact jX.sub (jsb_c rfl (jsb_c rfl (jsb_c rfl (jsb_c rfl jsb_n)))) (ct_X11_join_r31d_157 hD hQ ih l1 l2 l3 g0 h (jr_of rfl (by omega)) (jr_of rfl (by omega)) (jr_of rfl (by omega)) (jmc S37 rfl (jmc S19 rfl (jmc S6 rfl z0))) (by omega) J Sm D)
                    ·
                      rw [if_neg (by omega)] at D
                      refine x_aloadn (x := 87) rfl rfl ?_
                      refine z_getR (N := 14) (b := 88) 3 2 rfl f_3_9 rfl J rfl 11138 ⟨rfl, rfl⟩ rfl ?_
                      refine x_iloadn (x := l3) rfl rfl ?_
                      refine z_ialdM (N := 9) (v := v13) rfl J rfl rfl (by omega) (jmc S19 rfl qv13) ?_
                      refine x_goto (tgt := 22) rfl rfl ?_
                      refine x_iret rfl rfl ?_
                      show jX m_X11_join 14 0 0 151 [(0, .ref 31), (1, .int l1), (2, .int l2), (3, .int l3)] [.int v13, .int v35, .int l1, .ref 39] _ 0 0 _
                      refine x_iconst (v := 0) rfl ki_0 ?_
                      refine x_iconst (v := 0) rfl ki_0 ?_
                      refine x_iconst (v := 0) rfl ki_0 ?_
                      refine x_inv (N := m_X8_add) (As := [.int l1, .int v35, .int v13, .int 0, .int 0, .int 0]) (b := 39) (st := []) (dx9 := 2) (mc := 0) (ms := 0) (host := "") 8 rfl t_X8_add ⟨Or.inl q_11_145, i_X8_add.1, i_X8_add.2⟩ ⟨by decide, rfl⟩ (congrArg Prod.fst (J.1.1 39 (8, 4) rfl)) rfl (by decide) rfl rfl ⟨by decide, by decide⟩ (sf_X8_add_r39d (jr_of rfl (by omega)) (jr_of rfl (by omega)) (jr_of rfl (by omega)) (jr_of jk_0 (by omega)) (jr_of jk_0 (by omega)) (jr_of jk_0 (by omega)) hD J rfl  (fun h J S39 X40 => ?_))
                      have Sm := jSm_tr rfl Sm S39
                      try rw [jk_0] at X40
                      rw [X40] at D
                      show jX m_X11_join 14 0 0 157 [(0, .ref 31), (1, .int l1), (2, .int l2), (3, .int l3)] [] _ 0 0 _
                      exact jX.sub (jsb_c rfl (jsb_c rfl (jsb_c rfl (jsb_c rfl jsb_n)))) (ct_X11_join_r31d_157 hD hQ ih l1 l2 l3 g0 h (jr_of rfl (by omega)) (jr_of rfl (by omega)) (jr_of rfl (by omega)) (jmc S39 rfl (jmc S19 rfl (jmc S6 rfl z0))) (by omega) J Sm D)
        ·
          rw [if_neg (by omega)] at D
          refine x_aloadn (x := 87) rfl rfl ?_
          refine z_getR (N := 14) (b := 88) 3 2 rfl f_3_9 rfl J rfl 11138 ⟨rfl, rfl⟩ rfl ?_
          refine x_iloadn (x := v9) rfl rfl ?_
          refine z_iald (N := 9) rfl J rfl sg_88_0_9_1_0_1 rfl (by omega) (fun v41 qv41 ev41 => ?_)
          try rw [vrd qv41 (show v9.toInt = v9.toInt from by omega)] at D
          refine x_goto (tgt := 22) rfl rfl ?_
          refine x_iret rfl rfl ?_
          show jX m_X3_isNews 13 0 0 20 [(2, .int v9), (0, .ref 87), (1, .int l3)] [.int v41, .ref 78] _ 0 0 _
          refine x_inv (N := m_X7_soulAt) (As := [.int v41]) (b := 78) (st := []) (dx9 := 12) (mc := 0) (ms := 0) (host := "") 7 rfl t_X7_soulAt ⟨Or.inl q_3_67, i_X7_soulAt.1, i_X7_soulAt.2⟩ ⟨by decide, rfl⟩ (congrArg Prod.fst (J.1.1 78 (7, 16) rfl)) rfl (by decide) rfl rfl ⟨by decide, by decide⟩ (jC.of rfl k_X7_soulAt rfl ?_)
          show jX m_X7_soulAt 12 0 0 0 [(0, .ref 78), (1, .int v41)] [] _ 0 0 _
          refine x_iloadn (x := v41) rfl rfl ?_
          refine x_iflt (tgt := 36) rfl rfl (ti_lt rfl jk_0 (br_f (by omega) ?_))
          refine x_iloadn (x := v41) rfl rfl ?_
          refine x_sipush (v := 600) rfl ks_600 ?_
          refine x_icge (tgt := 36) rfl rfl (ti_ge rfl jk_600 (br_f (by omega) ?_))
          refine x_iloadn (x := v41) rfl rfl ?_
          refine x_iconst (v := 3) rfl ki_3 ?_
          refine z_idiv rfl rfl jk_3 (by omega) (by omega) (fun v42 ev42 => ?_)
          refine x_aloadn (x := 78) rfl rfl ?_
          refine z_getR (N := 16) (b := 32) 7 0 rfl f_7_55 rfl J rfl 9984 ⟨rfl, rfl⟩ rfl ?_
          refine z_getR (N := 20) (b := 33) 1 0 rfl f_7_63 rfl J rfl 4096 ⟨rfl, rfl⟩ rfl ?_
          refine z_getI (N := 4) 8 3 rfl f_7_85 rfl J rfl sg_33_3_4_1_0_1 (fun v43 qv43 ev43 => ?_)
          try rw [vrf qv43] at D
          refine x_icge (tgt := 36) rfl rfl (ti_ge rfl rfl ⟨fun c44 => ?_, fun c44 => ?_⟩)
          ·
            rw [if_pos (by omega)] at D
            refine x_iconst (v := (-1)) rfl ki_m1 ?_
            refine x_iret rfl rfl ?_
            show jX m_X3_isNews 13 0 0 23 [(2, .int v9), (0, .ref 87), (1, .int l3)] [.int (-1)] _ 0 0 _
            refine x_aloadn (x := 87) rfl rfl ?_
            refine z_getR (N := 14) (b := 78) 3 1 rfl f_3_53 rfl J rfl 11137 ⟨rfl, rfl⟩ rfl ?_
            refine x_aloadn (x := 87) rfl rfl ?_
            refine x_iloadn (x := l3) rfl rfl ?_
            refine x_inv (N := m_X3_mentionAt) (As := [.int l3]) (b := 87) (st := [.ref 78, .int (-1)]) (dx9 := 12) (mc := 0) (ms := 0) (host := "") 3 rfl t_X3_mentionAt ⟨Or.inl q_3_64, i_X3_mentionAt.1, i_X3_mentionAt.2⟩ ⟨by decide, rfl⟩ (congrArg Prod.fst (J.1.1 87 (3, 14) rfl)) rfl (by decide) rfl rfl ⟨by decide, by decide⟩ (jC.of rfl k_X3_mentionAt rfl ?_)
            show jX m_X3_mentionAt 12 0 0 0 [(0, .ref 87), (1, .int l3)] [] _ 0 0 _
            refine x_iloadn (x := l3) rfl rfl ?_
            refine x_iflt (tgt := 21) rfl rfl (ti_lt rfl jk_0 (br_f (by omega) ?_))
            refine x_iloadn (x := l3) rfl rfl ?_
            refine x_aloadn (x := 87) rfl rfl ?_
            refine z_getM (N := 14) (v := g0) 3 3 rfl f_3_15 rfl J rfl (jmc S6 rfl z0) ?_
            refine x_icge (tgt := 21) rfl rfl (ti_ge rfl rfl ⟨fun c45 => ?_, fun c45 => ?_⟩)
            ·
              rw [if_pos (by omega)] at D
              refine x_iconst (v := (-1)) rfl ki_m1 ?_
              refine x_iret rfl rfl ?_
              show jX m_X3_isNews 13 0 0 32 [(2, .int v9), (0, .ref 87), (1, .int l3)] [.int (-1), .ref 78, .int (-1)] _ 0 0 _
              refine x_inv (N := m_X7_soulAt) (As := [.int (-1)]) (b := 78) (st := [.int (-1)]) (dx9 := 12) (mc := 0) (ms := 0) (host := "") 7 rfl t_X7_soulAt ⟨Or.inl q_3_67, i_X7_soulAt.1, i_X7_soulAt.2⟩ ⟨by decide, rfl⟩ (congrArg Prod.fst (J.1.1 78 (7, 16) rfl)) rfl (by decide) rfl rfl ⟨by decide, by decide⟩ (jC.of rfl k_X7_soulAt rfl ?_)
              show jX m_X7_soulAt 12 0 0 0 [(0, .ref 78), (1, .int (-1))] [] _ 0 0 _
              refine x_iloadn (x := (-1)) rfl rfl ?_
              refine x_iflt (tgt := 36) rfl rfl (ti_lt jk_m1 jk_0 (br_t (by omega) ?_))
              refine x_iconst (v := (-1)) rfl ki_m1 ?_
              refine x_iret rfl rfl ?_
              show jX m_X3_isNews 13 0 0 35 [(2, .int v9), (0, .ref 87), (1, .int l3)] [.int (-1), .int (-1)] _ 0 0 _
              refine x_iceq (tgt := 42) rfl rfl (ti_eq jk_m1 jk_m1 (br_t (by omega) ?_))
              refine x_iconst (v := 0) rfl ki_0 ?_
              refine x_zret rfl rfl (by decide) ?_
              show jX m_X11_join 14 0 0 117 [(0, .ref 31), (1, .int l1), (2, .int l2), (3, .int l3)] [.int 0] _ 0 0 _
              refine x_ifeq (tgt := 157) rfl rfl (ti_eq jk_0 jk_0 (br_t (by omega) ?_))
              exact jX.sub (jsb_c rfl (jsb_c rfl (jsb_c rfl (jsb_c rfl jsb_n)))) (ct_X11_join_r31d_157 hD hQ ih l1 l2 l3 g0 h (jr_of rfl (by omega)) (jr_of rfl (by omega)) (jr_of rfl (by omega)) (jmc S6 rfl z0) (by omega) J Sm D)
            ·
              rw [if_neg (by omega)] at D
              refine x_aloadn (x := 87) rfl rfl ?_
              refine z_getR (N := 14) (b := 88) 3 2 rfl f_3_9 rfl J rfl 11138 ⟨rfl, rfl⟩ rfl ?_
              refine x_iloadn (x := l3) rfl rfl ?_
              refine z_iald (N := 9) rfl J rfl sg_88_0_9_1_0_1 rfl (by omega) (fun v46 qv46 ev46 => ?_)
              try rw [vrd qv46 (show l3.toInt = l3.toInt from by omega)] at D
              refine x_goto (tgt := 22) rfl rfl ?_
              refine x_iret rfl rfl ?_
              show jX m_X3_isNews 13 0 0 32 [(2, .int v9), (0, .ref 87), (1, .int l3)] [.int v46, .ref 78, .int (-1)] _ 0 0 _
              refine x_inv (N := m_X7_soulAt) (As := [.int v46]) (b := 78) (st := [.int (-1)]) (dx9 := 12) (mc := 0) (ms := 0) (host := "") 7 rfl t_X7_soulAt ⟨Or.inl q_3_67, i_X7_soulAt.1, i_X7_soulAt.2⟩ ⟨by decide, rfl⟩ (congrArg Prod.fst (J.1.1 78 (7, 16) rfl)) rfl (by decide) rfl rfl ⟨by decide, by decide⟩ (jC.of rfl k_X7_soulAt rfl ?_)
              show jX m_X7_soulAt 12 0 0 0 [(0, .ref 78), (1, .int v46)] [] _ 0 0 _
              refine x_iloadn (x := v46) rfl rfl ?_
              refine x_iflt (tgt := 36) rfl rfl (ti_lt rfl jk_0 (br_f (by omega) ?_))
              refine x_iloadn (x := v46) rfl rfl ?_
              refine x_sipush (v := 600) rfl ks_600 ?_
              refine x_icge (tgt := 36) rfl rfl (ti_ge rfl jk_600 (br_f (by omega) ?_))
              refine x_iloadn (x := v46) rfl rfl ?_
              refine x_iconst (v := 3) rfl ki_3 ?_
              refine z_idiv rfl rfl jk_3 (by omega) (by omega) (fun v47 ev47 => ?_)
              refine x_aloadn (x := 78) rfl rfl ?_
              refine z_getR (N := 16) (b := 32) 7 0 rfl f_7_55 rfl J rfl 9984 ⟨rfl, rfl⟩ rfl ?_
              refine z_getR (N := 20) (b := 33) 1 0 rfl f_7_63 rfl J rfl 4096 ⟨rfl, rfl⟩ rfl ?_
              refine z_getM (N := 4) (v := v43) 8 3 rfl f_7_85 rfl J rfl qv43 ?_
              refine x_icge (tgt := 36) rfl rfl (ti_ge rfl rfl ⟨fun c48 => ?_, fun c48 => ?_⟩)
              ·
                rw [if_pos (by omega)] at D
                refine x_iconst (v := (-1)) rfl ki_m1 ?_
                refine x_iret rfl rfl ?_
                show jX m_X3_isNews 13 0 0 35 [(2, .int v9), (0, .ref 87), (1, .int l3)] [.int (-1), .int (-1)] _ 0 0 _
                refine x_iceq (tgt := 42) rfl rfl (ti_eq jk_m1 jk_m1 (br_t (by omega) ?_))
                refine x_iconst (v := 0) rfl ki_0 ?_
                refine x_zret rfl rfl (by decide) ?_
                show jX m_X11_join 14 0 0 117 [(0, .ref 31), (1, .int l1), (2, .int l2), (3, .int l3)] [.int 0] _ 0 0 _
                refine x_ifeq (tgt := 157) rfl rfl (ti_eq jk_0 jk_0 (br_t (by omega) ?_))
                exact jX.sub (jsb_c rfl (jsb_c rfl (jsb_c rfl (jsb_c rfl jsb_n)))) (ct_X11_join_r31d_157 hD hQ ih l1 l2 l3 g0 h (jr_of rfl (by omega)) (jr_of rfl (by omega)) (jr_of rfl (by omega)) (jmc S6 rfl z0) (by omega) J Sm D)
              ·
                rw [if_neg (by omega)] at D
                refine x_aloadn (x := 78) rfl rfl ?_
                refine z_getR (N := 16) (b := 82) 7 10 rfl f_7_37 rfl J rfl 9994 ⟨rfl, rfl⟩ rfl ?_
                refine x_iloadn (x := v46) rfl rfl ?_
                refine z_iald (N := 600) rfl J rfl sg_82_0_600_1_0_1 rfl (by omega) (fun v49 qv49 ev49 => ?_)
                try rw [vrd qv49 (show v46.toInt = v46.toInt from by omega)] at D
                refine x_goto (tgt := 37) rfl rfl ?_
                refine x_iret rfl rfl ?_
                show jX m_X3_isNews 13 0 0 35 [(2, .int v9), (0, .ref 87), (1, .int l3)] [.int v49, .int (-1)] _ 0 0 _
                refine x_iceq (tgt := 42) rfl rfl (ti_eq jk_m1 rfl ⟨fun c50 => ?_, fun c50 => ?_⟩)
                ·
                  rw [if_pos (by omega)] at D
                  refine x_iconst (v := 0) rfl ki_0 ?_
                  refine x_zret rfl rfl (by decide) ?_
                  show jX m_X11_join 14 0 0 117 [(0, .ref 31), (1, .int l1), (2, .int l2), (3, .int l3)] [.int 0] _ 0 0 _
                  refine x_ifeq (tgt := 157) rfl rfl (ti_eq jk_0 jk_0 (br_t (by omega) ?_))
                  exact jX.sub (jsb_c rfl (jsb_c rfl (jsb_c rfl (jsb_c rfl jsb_n)))) (ct_X11_join_r31d_157 hD hQ ih l1 l2 l3 g0 h (jr_of rfl (by omega)) (jr_of rfl (by omega)) (jr_of rfl (by omega)) (jmc S6 rfl z0) (by omega) J Sm D)
                ·
                  rw [if_neg (by omega)] at D
                  refine x_iconst (v := 1) rfl ki_1 ?_
                  refine x_goto (tgt := 43) rfl rfl ?_
                  refine x_zret rfl rfl (by decide) ?_
                  show jX m_X11_join 14 0 0 117 [(0, .ref 31), (1, .int l1), (2, .int l2), (3, .int l3)] [.int 1] _ 0 0 _
                  refine x_ifeq (tgt := 157) rfl rfl (ti_eq jk_1 jk_0 (br_f (by omega) ?_))
                  refine x_aloadn (x := 31) rfl rfl ?_
                  refine z_getR (N := 13) (b := 32) 11 0 rfl f_11_10 rfl J rfl 3968 ⟨rfl, rfl⟩ rfl ?_
                  refine z_getR (N := 20) (b := 39) 1 3 rfl f_11_237 rfl J rfl 4099 ⟨rfl, rfl⟩ rfl ?_
                  refine x_iloadn (x := l1) rfl rfl ?_
                  refine x_aloadn (x := 31) rfl rfl ?_
                  refine z_getR (N := 13) (b := 87) 11 5 rfl f_11_50 rfl J rfl 3973 ⟨rfl, rfl⟩ rfl ?_
                  refine x_aloadn (x := 31) rfl rfl ?_
                  refine z_getR (N := 13) (b := 87) 11 5 rfl f_11_50 rfl J rfl 3973 ⟨rfl, rfl⟩ rfl ?_
                  refine x_iloadn (x := l3) rfl rfl ?_
                  refine x_inv (N := m_X3_aheadOf) (As := [.int l3]) (b := 87) (st := [.ref 87, .int l1, .ref 39]) (dx9 := 2) (mc := 0) (ms := 0) (host := "") 3 rfl t_X3_aheadOf ⟨Or.inl q_11_306, i_X3_aheadOf.1, i_X3_aheadOf.2⟩ ⟨by decide, rfl⟩ (congrArg Prod.fst (J.1.1 87 (3, 14) rfl)) rfl (by decide) rfl rfl ⟨by decide, by decide⟩ (sf_X3_aheadOf_r87d (jr_of rfl (by omega)) hD J rfl  (fun v54 h ev54 J S51 X52 X53 => ?_))
                  have Sm := jSm_tr rfl Sm S51
                  have Lkv54 : v9.toInt = v54.toInt := by (have Z := X7; try rw [← X8] at Z; exact Z.symm.trans X52)
                  try rw [Lkv54] at D
                  try rw [X52] at D
                  try rw [← X53] at D
                  show jX m_X11_join 14 0 0 140 [(0, .ref 31), (1, .int l1), (2, .int l2), (3, .int l3)] [.int v54, .ref 87, .int l1, .ref 39] _ 0 0 _
                  refine x_inv (N := m_X3_mentionAt) (As := [.int v54]) (b := 87) (st := [.int l1, .ref 39]) (dx9 := 13) (mc := 0) (ms := 0) (host := "") 3 rfl t_X3_mentionAt ⟨Or.inl q_11_309, i_X3_mentionAt.1, i_X3_mentionAt.2⟩ ⟨by decide, rfl⟩ (congrArg Prod.fst (J.1.1 87 (3, 14) rfl)) rfl (by decide) rfl rfl ⟨by decide, by decide⟩ (jC.of rfl k_X3_mentionAt rfl ?_)
                  show jX m_X3_mentionAt 13 0 0 0 [(0, .ref 87), (1, .int v54)] [] _ 0 0 _
                  refine x_iloadn (x := v54) rfl rfl ?_
                  refine x_iflt (tgt := 21) rfl rfl (ti_lt rfl jk_0 ⟨fun c55 => ?_, fun c55 => ?_⟩)
                  ·
                    rw [if_pos (by omega)] at D
                    refine x_iconst (v := (-1)) rfl ki_m1 ?_
                    refine x_iret rfl rfl ?_
                    show jX m_X11_join 14 0 0 143 [(0, .ref 31), (1, .int l1), (2, .int l2), (3, .int l3)] [.int (-1), .int l1, .ref 39] _ 0 0 _
                    refine x_aloadn (x := 31) rfl rfl ?_
                    refine z_getR (N := 13) (b := 87) 11 5 rfl f_11_50 rfl J rfl 3973 ⟨rfl, rfl⟩ rfl ?_
                    refine x_iloadn (x := l3) rfl rfl ?_
                    refine x_inv (N := m_X3_mentionAt) (As := [.int l3]) (b := 87) (st := [.int (-1), .int l1, .ref 39]) (dx9 := 13) (mc := 0) (ms := 0) (host := "") 3 rfl t_X3_mentionAt ⟨Or.inl q_11_309, i_X3_mentionAt.1, i_X3_mentionAt.2⟩ ⟨by decide, rfl⟩ (congrArg Prod.fst (J.1.1 87 (3, 14) rfl)) rfl (by decide) rfl rfl ⟨by decide, by decide⟩ (jC.of rfl k_X3_mentionAt rfl ?_)
                    show jX m_X3_mentionAt 13 0 0 0 [(0, .ref 87), (1, .int l3)] [] _ 0 0 _
                    refine x_iloadn (x := l3) rfl rfl ?_
                    refine x_iflt (tgt := 21) rfl rfl (ti_lt rfl jk_0 (br_f (by omega) ?_))
                    refine x_iloadn (x := l3) rfl rfl ?_
                    refine x_aloadn (x := 87) rfl rfl ?_
                    refine z_getM (N := 14) (v := g0) 3 3 rfl f_3_15 rfl J rfl (jmc S51 rfl (jmc S6 rfl z0)) ?_
                    refine x_icge (tgt := 21) rfl rfl (ti_ge rfl rfl ⟨fun c56 => ?_, fun c56 => ?_⟩)
                    ·
                      rw [if_pos (by omega)] at D
                      refine x_iconst (v := (-1)) rfl ki_m1 ?_
                      refine x_iret rfl rfl ?_
                      show jX m_X11_join 14 0 0 151 [(0, .ref 31), (1, .int l1), (2, .int l2), (3, .int l3)] [.int (-1), .int (-1), .int l1, .ref 39] _ 0 0 _
                      refine x_iconst (v := 0) rfl ki_0 ?_
                      refine x_iconst (v := 0) rfl ki_0 ?_
                      refine x_iconst (v := 0) rfl ki_0 ?_
                      refine x_inv (N := m_X8_add) (As := [.int l1, .int (-1), .int (-1), .int 0, .int 0, .int 0]) (b := 39) (st := []) (dx9 := 2) (mc := 0) (ms := 0) (host := "") 8 rfl t_X8_add ⟨Or.inl q_11_145, i_X8_add.1, i_X8_add.2⟩ ⟨by decide, rfl⟩ (congrArg Prod.fst (J.1.1 39 (8, 4) rfl)) rfl (by decide) rfl rfl ⟨by decide, by decide⟩ (sf_X8_add_r39d (jr_of rfl (by omega)) (jr_of jk_m1 (by omega)) (jr_of jk_m1 (by omega)) (jr_of jk_0 (by omega)) (jr_of jk_0 (by omega)) (jr_of jk_0 (by omega)) hD J rfl  (fun h J S57 X58 => ?_))
                      have Sm := jSm_tr rfl Sm S57
                      try rw [jk_m1] at X58
                      try rw [jk_0] at X58
                      rw [X58] at D
                      show jX m_X11_join 14 0 0 157 [(0, .ref 31), (1, .int l1), (2, .int l2), (3, .int l3)] [] _ 0 0 _
                      exact jX.sub (jsb_c rfl (jsb_c rfl (jsb_c rfl (jsb_c rfl jsb_n)))) (ct_X11_join_r31d_157 hD hQ ih l1 l2 l3 g0 h (jr_of rfl (by omega)) (jr_of rfl (by omega)) (jr_of rfl (by omega)) (jmc S57 rfl (jmc S51 rfl (jmc S6 rfl z0))) (by omega) J Sm D)
                    ·
                      rw [if_neg (by omega)] at D
                      refine x_aloadn (x := 87) rfl rfl ?_
                      refine z_getR (N := 14) (b := 88) 3 2 rfl f_3_9 rfl J rfl 11138 ⟨rfl, rfl⟩ rfl ?_
                      refine x_iloadn (x := l3) rfl rfl ?_
                      refine z_ialdM (N := 9) (v := v46) rfl J rfl rfl (by omega) (jmc S51 rfl qv46) ?_
                      refine x_goto (tgt := 22) rfl rfl ?_
                      refine x_iret rfl rfl ?_
                      show jX m_X11_join 14 0 0 151 [(0, .ref 31), (1, .int l1), (2, .int l2), (3, .int l3)] [.int v46, .int (-1), .int l1, .ref 39] _ 0 0 _
                      refine x_iconst (v := 0) rfl ki_0 ?_
                      refine x_iconst (v := 0) rfl ki_0 ?_
                      refine x_iconst (v := 0) rfl ki_0 ?_
                      refine x_inv (N := m_X8_add) (As := [.int l1, .int (-1), .int v46, .int 0, .int 0, .int 0]) (b := 39) (st := []) (dx9 := 2) (mc := 0) (ms := 0) (host := "") 8 rfl t_X8_add ⟨Or.inl q_11_145, i_X8_add.1, i_X8_add.2⟩ ⟨by decide, rfl⟩ (congrArg Prod.fst (J.1.1 39 (8, 4) rfl)) rfl (by decide) rfl rfl ⟨by decide, by decide⟩ (sf_X8_add_r39d (jr_of rfl (by omega)) (jr_of jk_m1 (by omega)) (jr_of rfl (by omega)) (jr_of jk_0 (by omega)) (jr_of jk_0 (by omega)) (jr_of jk_0 (by omega)) hD J rfl  (fun h J S59 X60 => ?_))
                      have Sm := jSm_tr rfl Sm S59
                      try rw [jk_m1] at X60
                      try rw [jk_0] at X60
                      rw [X60] at D
                      show jX m_X11_join 14 0 0 157 [(0, .ref 31), (1, .int l1), (2, .int l2), (3, .int l3)] [] _ 0 0 _
                      exact jX.sub (jsb_c rfl (jsb_c rfl (jsb_c rfl (jsb_c rfl jsb_n)))) (ct_X11_join_r31d_157 hD hQ ih l1 l2 l3 g0 h (jr_of rfl (by omega)) (jr_of rfl (by omega)) (jr_of rfl (by omega)) (jmc S59 rfl (jmc S51 rfl (jmc S6 rfl z0))) (by omega) J Sm D)
                  ·
                    rw [if_neg (by omega)] at D
                    refine x_iloadn (x := v54) rfl rfl ?_
                    refine x_aloadn (x := 87) rfl rfl ?_
                    refine z_getM (N := 14) (v := g0) 3 3 rfl f_3_15 rfl J rfl (jmc S51 rfl (jmc S6 rfl z0)) ?_
                    refine x_icge (tgt := 21) rfl rfl (ti_ge rfl rfl ⟨fun c61 => ?_, fun c61 => ?_⟩)
                    ·
                      rw [if_pos (by omega)] at D
                      refine x_iconst (v := (-1)) rfl ki_m1 ?_
                      refine x_iret rfl rfl ?_
                      show jX m_X11_join 14 0 0 143 [(0, .ref 31), (1, .int l1), (2, .int l2), (3, .int l3)] [.int (-1), .int l1, .ref 39] _ 0 0 _
                      refine x_aloadn (x := 31) rfl rfl ?_
                      refine z_getR (N := 13) (b := 87) 11 5 rfl f_11_50 rfl J rfl 3973 ⟨rfl, rfl⟩ rfl ?_
                      refine x_iloadn (x := l3) rfl rfl ?_
                      refine x_inv (N := m_X3_mentionAt) (As := [.int l3]) (b := 87) (st := [.int (-1), .int l1, .ref 39]) (dx9 := 13) (mc := 0) (ms := 0) (host := "") 3 rfl t_X3_mentionAt ⟨Or.inl q_11_309, i_X3_mentionAt.1, i_X3_mentionAt.2⟩ ⟨by decide, rfl⟩ (congrArg Prod.fst (J.1.1 87 (3, 14) rfl)) rfl (by decide) rfl rfl ⟨by decide, by decide⟩ (jC.of rfl k_X3_mentionAt rfl ?_)
                      show jX m_X3_mentionAt 13 0 0 0 [(0, .ref 87), (1, .int l3)] [] _ 0 0 _
                      refine x_iloadn (x := l3) rfl rfl ?_
                      refine x_iflt (tgt := 21) rfl rfl (ti_lt rfl jk_0 (br_f (by omega) ?_))
                      refine x_iloadn (x := l3) rfl rfl ?_
                      refine x_aloadn (x := 87) rfl rfl ?_
                      refine z_getM (N := 14) (v := g0) 3 3 rfl f_3_15 rfl J rfl (jmc S51 rfl (jmc S6 rfl z0)) ?_
                      refine x_icge (tgt := 21) rfl rfl (ti_ge rfl rfl ⟨fun c62 => ?_, fun c62 => ?_⟩)
                      ·
                        rw [if_pos (by omega)] at D
                        refine x_iconst (v := (-1)) rfl ki_m1 ?_
                        refine x_iret rfl rfl ?_
                        show jX m_X11_join 14 0 0 151 [(0, .ref 31), (1, .int l1), (2, .int l2), (3, .int l3)] [.int (-1), .int (-1), .int l1, .ref 39] _ 0 0 _
                        refine x_iconst (v := 0) rfl ki_0 ?_
                        refine x_iconst (v := 0) rfl ki_0 ?_
                        refine x_iconst (v := 0) rfl ki_0 ?_
                        refine x_inv (N := m_X8_add) (As := [.int l1, .int (-1), .int (-1), .int 0, .int 0, .int 0]) (b := 39) (st := []) (dx9 := 2) (mc := 0) (ms := 0) (host := "") 8 rfl t_X8_add ⟨Or.inl q_11_145, i_X8_add.1, i_X8_add.2⟩ ⟨by decide, rfl⟩ (congrArg Prod.fst (J.1.1 39 (8, 4) rfl)) rfl (by decide) rfl rfl ⟨by decide, by decide⟩ (sf_X8_add_r39d (jr_of rfl (by omega)) (jr_of jk_m1 (by omega)) (jr_of jk_m1 (by omega)) (jr_of jk_0 (by omega)) (jr_of jk_0 (by omega)) (jr_of jk_0 (by omega)) hD J rfl  (fun h J S63 X64 => ?_))
                        have Sm := jSm_tr rfl Sm S63
                        try rw [jk_m1] at X64
                        try rw [jk_0] at X64
                        rw [X64] at D
                        show jX m_X11_join 14 0 0 157 [(0, .ref 31), (1, .int l1), (2, .int l2), (3, .int l3)] [] _ 0 0 _
                        exact jX.sub (jsb_c rfl (jsb_c rfl (jsb_c rfl (jsb_c rfl jsb_n)))) (ct_X11_join_r31d_157 hD hQ ih l1 l2 l3 g0 h (jr_of rfl (by omega)) (jr_of rfl (by omega)) (jr_of rfl (by omega)) (jmc S63 rfl (jmc S51 rfl (jmc S6 rfl z0))) (by omega) J Sm D)
                      ·
                        rw [if_neg (by omega)] at D
                        refine x_aloadn (x := 87) rfl rfl ?_
                        refine z_getR (N := 14) (b := 88) 3 2 rfl f_3_9 rfl J rfl 11138 ⟨rfl, rfl⟩ rfl ?_
                        refine x_iloadn (x := l3) rfl rfl ?_
                        refine z_ialdM (N := 9) (v := v46) rfl J rfl rfl (by omega) (jmc S51 rfl qv46) ?_
                        refine x_goto (tgt := 22) rfl rfl ?_
                        refine x_iret rfl rfl ?_
                        show jX m_X11_join 14 0 0 151 [(0, .ref 31), (1, .int l1), (2, .int l2), (3, .int l3)] [.int v46, .int (-1), .int l1, .ref 39] _ 0 0 _
                        refine x_iconst (v := 0) rfl ki_0 ?_
                        refine x_iconst (v := 0) rfl ki_0 ?_
                        refine x_iconst (v := 0) rfl ki_0 ?_
                        refine x_inv (N := m_X8_add) (As := [.int l1, .int (-1), .int v46, .int 0, .int 0, .int 0]) (b := 39) (st := []) (dx9 := 2) (mc := 0) (ms := 0) (host := "") 8 rfl t_X8_add ⟨Or.inl q_11_145, i_X8_add.1, i_X8_add.2⟩ ⟨by decide, rfl⟩ (congrArg Prod.fst (J.1.1 39 (8, 4) rfl)) rfl (by decide) rfl rfl ⟨by decide, by decide⟩ (sf_X8_add_r39d (jr_of rfl (by omega)) (jr_of jk_m1 (by omega)) (jr_of rfl (by omega)) (jr_of jk_0 (by omega)) (jr_of jk_0 (by omega)) (jr_of jk_0 (by omega)) hD J rfl  (fun h J S65 X66 => ?_))
                        have Sm := jSm_tr rfl Sm S65
                        try rw [jk_m1] at X66
                        try rw [jk_0] at X66
                        rw [X66] at D
                        show jX m_X11_join 14 0 0 157 [(0, .ref 31), (1, .int l1), (2, .int l2), (3, .int l3)] [] _ 0 0 _
                        exact jX.sub (jsb_c rfl (jsb_c rfl (jsb_c rfl (jsb_c rfl jsb_n)))) (ct_X11_join_r31d_157 hD hQ ih l1 l2 l3 g0 h (jr_of rfl (by omega)) (jr_of rfl (by omega)) (jr_of rfl (by omega)) (jmc S65 rfl (jmc S51 rfl (jmc S6 rfl z0))) (by omega) J Sm D)
                    ·
                      rw [if_neg (by omega)] at D
                      refine x_aloadn (x := 87) rfl rfl ?_
                      refine z_getR (N := 14) (b := 88) 3 2 rfl f_3_9 rfl J rfl 11138 ⟨rfl, rfl⟩ rfl ?_
                      refine x_iloadn (x := v54) rfl rfl ?_
                      refine z_iald (N := 9) rfl J rfl sg_88_0_9_1_0_1 rfl (by omega) (fun v67 qv67 ev67 => ?_)
                      have Lrv67 : v41.toInt = v67.toInt := by (have Z := vrd qv41 (show v9.toInt = v9.toInt from by omega); try rw [← X53] at Z; try rw [Lkv54] at Z; exact Z.symm.trans (vrd qv67 (show v54.toInt = v54.toInt from by omega)))
                      try rw [Lrv67] at D
                      try rw [vrd qv67 (show v54.toInt = v54.toInt from by omega)] at D
                      refine x_goto (tgt := 22) rfl rfl ?_
                      refine x_iret rfl rfl ?_
                      show jX m_X11_join 14 0 0 143 [(0, .ref 31), (1, .int l1), (2, .int l2), (3, .int l3)] [.int v67, .int l1, .ref 39] _ 0 0 _
                      refine x_aloadn (x := 31) rfl rfl ?_
                      refine z_getR (N := 13) (b := 87) 11 5 rfl f_11_50 rfl J rfl 3973 ⟨rfl, rfl⟩ rfl ?_
                      refine x_iloadn (x := l3) rfl rfl ?_
                      refine x_inv (N := m_X3_mentionAt) (As := [.int l3]) (b := 87) (st := [.int v67, .int l1, .ref 39]) (dx9 := 13) (mc := 0) (ms := 0) (host := "") 3 rfl t_X3_mentionAt ⟨Or.inl q_11_309, i_X3_mentionAt.1, i_X3_mentionAt.2⟩ ⟨by decide, rfl⟩ (congrArg Prod.fst (J.1.1 87 (3, 14) rfl)) rfl (by decide) rfl rfl ⟨by decide, by decide⟩ (jC.of rfl k_X3_mentionAt rfl ?_)
                      show jX m_X3_mentionAt 13 0 0 0 [(0, .ref 87), (1, .int l3)] [] _ 0 0 _
                      refine x_iloadn (x := l3) rfl rfl ?_
                      refine x_iflt (tgt := 21) rfl rfl (ti_lt rfl jk_0 (br_f (by omega) ?_))
                      refine x_iloadn (x := l3) rfl rfl ?_
                      refine x_aloadn (x := 87) rfl rfl ?_
                      refine z_getM (N := 14) (v := g0) 3 3 rfl f_3_15 rfl J rfl (jmc S51 rfl (jmc S6 rfl z0)) ?_
                      refine x_icge (tgt := 21) rfl rfl (ti_ge rfl rfl ⟨fun c68 => ?_, fun c68 => ?_⟩)
                      ·
                        rw [if_pos (by omega)] at D
                        refine x_iconst (v := (-1)) rfl ki_m1 ?_
                        refine x_iret rfl rfl ?_
                        show jX m_X11_join 14 0 0 151 [(0, .ref 31), (1, .int l1), (2, .int l2), (3, .int l3)] [.int (-1), .int v67, .int l1, .ref 39] _ 0 0 _
                        refine x_iconst (v := 0) rfl ki_0 ?_
                        refine x_iconst (v := 0) rfl ki_0 ?_
                        refine x_iconst (v := 0) rfl ki_0 ?_
                        refine x_inv (N := m_X8_add) (As := [.int l1, .int v67, .int (-1), .int 0, .int 0, .int 0]) (b := 39) (st := []) (dx9 := 2) (mc := 0) (ms := 0) (host := "") 8 rfl t_X8_add ⟨Or.inl q_11_145, i_X8_add.1, i_X8_add.2⟩ ⟨by decide, rfl⟩ (congrArg Prod.fst (J.1.1 39 (8, 4) rfl)) rfl (by decide) rfl rfl ⟨by decide, by decide⟩ (sf_X8_add_r39d (jr_of rfl (by omega)) (jr_of rfl (by omega)) (jr_of jk_m1 (by omega)) (jr_of jk_0 (by omega)) (jr_of jk_0 (by omega)) (jr_of jk_0 (by omega)) hD J rfl  (fun h J S69 X70 => ?_))
                        have Sm := jSm_tr rfl Sm S69
                        try rw [jk_m1] at X70
                        try rw [jk_0] at X70
                        rw [X70] at D
                        show jX m_X11_join 14 0 0 157 [(0, .ref 31), (1, .int l1), (2, .int l2), (3, .int l3)] [] _ 0 0 _
                        exact jX.sub (jsb_c rfl (jsb_c rfl (jsb_c rfl (jsb_c rfl jsb_n)))) (ct_X11_join_r31d_157 hD hQ ih l1 l2 l3 g0 h (jr_of rfl (by omega)) (jr_of rfl (by omega)) (jr_of rfl (by omega)) (jmc S69 rfl (jmc S51 rfl (jmc S6 rfl z0))) (by omega) J Sm D)
                      ·
                        rw [if_neg (by omega)] at D
                        refine x_aloadn (x := 87) rfl rfl ?_
                        refine z_getR (N := 14) (b := 88) 3 2 rfl f_3_9 rfl J rfl 11138 ⟨rfl, rfl⟩ rfl ?_
                        refine x_iloadn (x := l3) rfl rfl ?_
                        refine z_ialdM (N := 9) (v := v46) rfl J rfl rfl (by omega) (jmc S51 rfl qv46) ?_
                        refine x_goto (tgt := 22) rfl rfl ?_
                        refine x_iret rfl rfl ?_
                        show jX m_X11_join 14 0 0 151 [(0, .ref 31), (1, .int l1), (2, .int l2), (3, .int l3)] [.int v46, .int v67, .int l1, .ref 39] _ 0 0 _
                        refine x_iconst (v := 0) rfl ki_0 ?_
                        refine x_iconst (v := 0) rfl ki_0 ?_
                        refine x_iconst (v := 0) rfl ki_0 ?_
                        refine x_inv (N := m_X8_add) (As := [.int l1, .int v67, .int v46, .int 0, .int 0, .int 0]) (b := 39) (st := []) (dx9 := 2) (mc := 0) (ms := 0) (host := "") 8 rfl t_X8_add ⟨Or.inl q_11_145, i_X8_add.1, i_X8_add.2⟩ ⟨by decide, rfl⟩ (congrArg Prod.fst (J.1.1 39 (8, 4) rfl)) rfl (by decide) rfl rfl ⟨by decide, by decide⟩ (sf_X8_add_r39d (jr_of rfl (by omega)) (jr_of rfl (by omega)) (jr_of rfl (by omega)) (jr_of jk_0 (by omega)) (jr_of jk_0 (by omega)) (jr_of jk_0 (by omega)) hD J rfl  (fun h J S71 X72 => ?_))
                        have Sm := jSm_tr rfl Sm S71
                        try rw [jk_0] at X72
                        rw [X72] at D
                        show jX m_X11_join 14 0 0 157 [(0, .ref 31), (1, .int l1), (2, .int l2), (3, .int l3)] [] _ 0 0 _
                        exact jX.sub (jsb_c rfl (jsb_c rfl (jsb_c rfl (jsb_c rfl jsb_n)))) (ct_X11_join_r31d_157 hD hQ ih l1 l2 l3 g0 h (jr_of rfl (by omega)) (jr_of rfl (by omega)) (jr_of rfl (by omega)) (jmc S71 rfl (jmc S51 rfl (jmc S6 rfl z0))) (by omega) J Sm D)
          ·
            rw [if_neg (by omega)] at D
            refine x_aloadn (x := 78) rfl rfl ?_
            refine z_getR (N := 16) (b := 82) 7 10 rfl f_7_37 rfl J rfl 9994 ⟨rfl, rfl⟩ rfl ?_
            refine x_iloadn (x := v41) rfl rfl ?_
            refine z_iald (N := 600) rfl J rfl sg_82_0_600_1_0_1 rfl (by omega) (fun v73 qv73 ev73 => ?_)
            try rw [vrd qv73 (show v41.toInt = v41.toInt from by omega)] at D
            refine x_goto (tgt := 37) rfl rfl ?_
            refine x_iret rfl rfl ?_
            show jX m_X3_isNews 13 0 0 23 [(2, .int v9), (0, .ref 87), (1, .int l3)] [.int v73] _ 0 0 _
            refine x_aloadn (x := 87) rfl rfl ?_
            refine z_getR (N := 14) (b := 78) 3 1 rfl f_3_53 rfl J rfl 11137 ⟨rfl, rfl⟩ rfl ?_
            refine x_aloadn (x := 87) rfl rfl ?_
            refine x_iloadn (x := l3) rfl rfl ?_
            refine x_inv (N := m_X3_mentionAt) (As := [.int l3]) (b := 87) (st := [.ref 78, .int v73]) (dx9 := 12) (mc := 0) (ms := 0) (host := "") 3 rfl t_X3_mentionAt ⟨Or.inl q_3_64, i_X3_mentionAt.1, i_X3_mentionAt.2⟩ ⟨by decide, rfl⟩ (congrArg Prod.fst (J.1.1 87 (3, 14) rfl)) rfl (by decide) rfl rfl ⟨by decide, by decide⟩ (jC.of rfl k_X3_mentionAt rfl ?_)
            show jX m_X3_mentionAt 12 0 0 0 [(0, .ref 87), (1, .int l3)] [] _ 0 0 _
            refine x_iloadn (x := l3) rfl rfl ?_
            refine x_iflt (tgt := 21) rfl rfl (ti_lt rfl jk_0 (br_f (by omega) ?_))
            refine x_iloadn (x := l3) rfl rfl ?_
            refine x_aloadn (x := 87) rfl rfl ?_
            refine z_getM (N := 14) (v := g0) 3 3 rfl f_3_15 rfl J rfl (jmc S6 rfl z0) ?_
            refine x_icge (tgt := 21) rfl rfl (ti_ge rfl rfl ⟨fun c74 => ?_, fun c74 => ?_⟩)
            ·
              rw [if_pos (by omega)] at D
              refine x_iconst (v := (-1)) rfl ki_m1 ?_
              refine x_iret rfl rfl ?_
              show jX m_X3_isNews 13 0 0 32 [(2, .int v9), (0, .ref 87), (1, .int l3)] [.int (-1), .ref 78, .int v73] _ 0 0 _
              refine x_inv (N := m_X7_soulAt) (As := [.int (-1)]) (b := 78) (st := [.int v73]) (dx9 := 12) (mc := 0) (ms := 0) (host := "") 7 rfl t_X7_soulAt ⟨Or.inl q_3_67, i_X7_soulAt.1, i_X7_soulAt.2⟩ ⟨by decide, rfl⟩ (congrArg Prod.fst (J.1.1 78 (7, 16) rfl)) rfl (by decide) rfl rfl ⟨by decide, by decide⟩ (jC.of rfl k_X7_soulAt rfl ?_)
              show jX m_X7_soulAt 12 0 0 0 [(0, .ref 78), (1, .int (-1))] [] _ 0 0 _
              refine x_iloadn (x := (-1)) rfl rfl ?_
              refine x_iflt (tgt := 36) rfl rfl (ti_lt jk_m1 jk_0 (br_t (by omega) ?_))
              refine x_iconst (v := (-1)) rfl ki_m1 ?_
              refine x_iret rfl rfl ?_
              show jX m_X3_isNews 13 0 0 35 [(2, .int v9), (0, .ref 87), (1, .int l3)] [.int (-1), .int v73] _ 0 0 _
              refine x_iceq (tgt := 42) rfl rfl (ti_eq rfl jk_m1 ⟨fun c75 => ?_, fun c75 => ?_⟩)
              ·
                rw [if_pos (by omega)] at D
                refine x_iconst (v := 0) rfl ki_0 ?_
                refine x_zret rfl rfl (by decide) ?_
                show jX m_X11_join 14 0 0 117 [(0, .ref 31), (1, .int l1), (2, .int l2), (3, .int l3)] [.int 0] _ 0 0 _
                refine x_ifeq (tgt := 157) rfl rfl (ti_eq jk_0 jk_0 (br_t (by omega) ?_))
                exact jX.sub (jsb_c rfl (jsb_c rfl (jsb_c rfl (jsb_c rfl jsb_n)))) (ct_X11_join_r31d_157 hD hQ ih l1 l2 l3 g0 h (jr_of rfl (by omega)) (jr_of rfl (by omega)) (jr_of rfl (by omega)) (jmc S6 rfl z0) (by omega) J Sm D)
              ·
                rw [if_neg (by omega)] at D
                refine x_iconst (v := 1) rfl ki_1 ?_
                refine x_goto (tgt := 43) rfl rfl ?_
                refine x_zret rfl rfl (by decide) ?_
                show jX m_X11_join 14 0 0 117 [(0, .ref 31), (1, .int l1), (2, .int l2), (3, .int l3)] [.int 1] _ 0 0 _
                refine x_ifeq (tgt := 157) rfl rfl (ti_eq jk_1 jk_0 (br_f (by omega) ?_))
                refine x_aloadn (x := 31) rfl rfl ?_
                refine z_getR (N := 13) (b := 32) 11 0 rfl f_11_10 rfl J rfl 3968 ⟨rfl, rfl⟩ rfl ?_
                refine z_getR (N := 20) (b := 39) 1 3 rfl f_11_237 rfl J rfl 4099 ⟨rfl, rfl⟩ rfl ?_
                refine x_iloadn (x := l1) rfl rfl ?_
                refine x_aloadn (x := 31) rfl rfl ?_
                refine z_getR (N := 13) (b := 87) 11 5 rfl f_11_50 rfl J rfl 3973 ⟨rfl, rfl⟩ rfl ?_
                refine x_aloadn (x := 31) rfl rfl ?_
                refine z_getR (N := 13) (b := 87) 11 5 rfl f_11_50 rfl J rfl 3973 ⟨rfl, rfl⟩ rfl ?_
                refine x_iloadn (x := l3) rfl rfl ?_
                refine x_inv (N := m_X3_aheadOf) (As := [.int l3]) (b := 87) (st := [.ref 87, .int l1, .ref 39]) (dx9 := 2) (mc := 0) (ms := 0) (host := "") 3 rfl t_X3_aheadOf ⟨Or.inl q_11_306, i_X3_aheadOf.1, i_X3_aheadOf.2⟩ ⟨by decide, rfl⟩ (congrArg Prod.fst (J.1.1 87 (3, 14) rfl)) rfl (by decide) rfl rfl ⟨by decide, by decide⟩ (sf_X3_aheadOf_r87d (jr_of rfl (by omega)) hD J rfl  (fun v79 h ev79 J S76 X77 X78 => ?_))
                have Sm := jSm_tr rfl Sm S76
                have Lkv79 : v9.toInt = v79.toInt := by (have Z := X7; try rw [← X8] at Z; exact Z.symm.trans X77)
                try rw [Lkv79] at D
                try rw [X77] at D
                try rw [← X78] at D
                show jX m_X11_join 14 0 0 140 [(0, .ref 31), (1, .int l1), (2, .int l2), (3, .int l3)] [.int v79, .ref 87, .int l1, .ref 39] _ 0 0 _
                refine x_inv (N := m_X3_mentionAt) (As := [.int v79]) (b := 87) (st := [.int l1, .ref 39]) (dx9 := 13) (mc := 0) (ms := 0) (host := "") 3 rfl t_X3_mentionAt ⟨Or.inl q_11_309, i_X3_mentionAt.1, i_X3_mentionAt.2⟩ ⟨by decide, rfl⟩ (congrArg Prod.fst (J.1.1 87 (3, 14) rfl)) rfl (by decide) rfl rfl ⟨by decide, by decide⟩ (jC.of rfl k_X3_mentionAt rfl ?_)
                show jX m_X3_mentionAt 13 0 0 0 [(0, .ref 87), (1, .int v79)] [] _ 0 0 _
                refine x_iloadn (x := v79) rfl rfl ?_
                refine x_iflt (tgt := 21) rfl rfl (ti_lt rfl jk_0 ⟨fun c80 => ?_, fun c80 => ?_⟩)
                ·
                  rw [if_pos (by omega)] at D
                  refine x_iconst (v := (-1)) rfl ki_m1 ?_
                  refine x_iret rfl rfl ?_
                  show jX m_X11_join 14 0 0 143 [(0, .ref 31), (1, .int l1), (2, .int l2), (3, .int l3)] [.int (-1), .int l1, .ref 39] _ 0 0 _
                  refine x_aloadn (x := 31) rfl rfl ?_
                  refine z_getR (N := 13) (b := 87) 11 5 rfl f_11_50 rfl J rfl 3973 ⟨rfl, rfl⟩ rfl ?_
                  refine x_iloadn (x := l3) rfl rfl ?_
                  refine x_inv (N := m_X3_mentionAt) (As := [.int l3]) (b := 87) (st := [.int (-1), .int l1, .ref 39]) (dx9 := 13) (mc := 0) (ms := 0) (host := "") 3 rfl t_X3_mentionAt ⟨Or.inl q_11_309, i_X3_mentionAt.1, i_X3_mentionAt.2⟩ ⟨by decide, rfl⟩ (congrArg Prod.fst (J.1.1 87 (3, 14) rfl)) rfl (by decide) rfl rfl ⟨by decide, by decide⟩ (jC.of rfl k_X3_mentionAt rfl ?_)
                  show jX m_X3_mentionAt 13 0 0 0 [(0, .ref 87), (1, .int l3)] [] _ 0 0 _
                  refine x_iloadn (x := l3) rfl rfl ?_
                  refine x_iflt (tgt := 21) rfl rfl (ti_lt rfl jk_0 (br_f (by omega) ?_))
                  refine x_iloadn (x := l3) rfl rfl ?_
                  refine x_aloadn (x := 87) rfl rfl ?_
                  refine z_getM (N := 14) (v := g0) 3 3 rfl f_3_15 rfl J rfl (jmc S76 rfl (jmc S6 rfl z0)) ?_
                  refine x_icge (tgt := 21) rfl rfl (ti_ge rfl rfl ⟨fun c81 => ?_, fun c81 => ?_⟩)
                  ·
                    rw [if_pos (by omega)] at D
                    refine x_iconst (v := (-1)) rfl ki_m1 ?_
                    refine x_iret rfl rfl ?_
                    show jX m_X11_join 14 0 0 151 [(0, .ref 31), (1, .int l1), (2, .int l2), (3, .int l3)] [.int (-1), .int (-1), .int l1, .ref 39] _ 0 0 _
                    refine x_iconst (v := 0) rfl ki_0 ?_
                    refine x_iconst (v := 0) rfl ki_0 ?_
                    refine x_iconst (v := 0) rfl ki_0 ?_
                    refine x_inv (N := m_X8_add) (As := [.int l1, .int (-1), .int (-1), .int 0, .int 0, .int 0]) (b := 39) (st := []) (dx9 := 2) (mc := 0) (ms := 0) (host := "") 8 rfl t_X8_add ⟨Or.inl q_11_145, i_X8_add.1, i_X8_add.2⟩ ⟨by decide, rfl⟩ (congrArg Prod.fst (J.1.1 39 (8, 4) rfl)) rfl (by decide) rfl rfl ⟨by decide, by decide⟩ (sf_X8_add_r39d (jr_of rfl (by omega)) (jr_of jk_m1 (by omega)) (jr_of jk_m1 (by omega)) (jr_of jk_0 (by omega)) (jr_of jk_0 (by omega)) (jr_of jk_0 (by omega)) hD J rfl  (fun h J S82 X83 => ?_))
                    have Sm := jSm_tr rfl Sm S82
                    try rw [jk_m1] at X83
                    try rw [jk_0] at X83
                    rw [X83] at D
                    show jX m_X11_join 14 0 0 157 [(0, .ref 31), (1, .int l1), (2, .int l2), (3, .int l3)] [] _ 0 0 _
                    exact jX.sub (jsb_c rfl (jsb_c rfl (jsb_c rfl (jsb_c rfl jsb_n)))) (ct_X11_join_r31d_157 hD hQ ih l1 l2 l3 g0 h (jr_of rfl (by omega)) (jr_of rfl (by omega)) (jr_of rfl (by omega)) (jmc S82 rfl (jmc S76 rfl (jmc S6 rfl z0))) (by omega) J Sm D)
                  ·
                    rw [if_neg (by omega)] at D
                    refine x_aloadn (x := 87) rfl rfl ?_
                    refine z_getR (N := 14) (b := 88) 3 2 rfl f_3_9 rfl J rfl 11138 ⟨rfl, rfl⟩ rfl ?_
                    refine x_iloadn (x := l3) rfl rfl ?_
                    refine z_iald (N := 9) rfl J rfl sg_88_0_9_1_0_1 rfl (by omega) (fun v84 qv84 ev84 => ?_)
                    try rw [vrd qv84 (show l3.toInt = l3.toInt from by omega)] at D
                    refine x_goto (tgt := 22) rfl rfl ?_
                    refine x_iret rfl rfl ?_
                    show jX m_X11_join 14 0 0 151 [(0, .ref 31), (1, .int l1), (2, .int l2), (3, .int l3)] [.int v84, .int (-1), .int l1, .ref 39] _ 0 0 _
                    refine x_iconst (v := 0) rfl ki_0 ?_
                    refine x_iconst (v := 0) rfl ki_0 ?_
                    refine x_iconst (v := 0) rfl ki_0 ?_
                    refine x_inv (N := m_X8_add) (As := [.int l1, .int (-1), .int v84, .int 0, .int 0, .int 0]) (b := 39) (st := []) (dx9 := 2) (mc := 0) (ms := 0) (host := "") 8 rfl t_X8_add ⟨Or.inl q_11_145, i_X8_add.1, i_X8_add.2⟩ ⟨by decide, rfl⟩ (congrArg Prod.fst (J.1.1 39 (8, 4) rfl)) rfl (by decide) rfl rfl ⟨by decide, by decide⟩ (sf_X8_add_r39d (jr_of rfl (by omega)) (jr_of jk_m1 (by omega)) (jr_of rfl (by omega)) (jr_of jk_0 (by omega)) (jr_of jk_0 (by omega)) (jr_of jk_0 (by omega)) hD J rfl  (fun h J S85 X86 => ?_))
                    have Sm := jSm_tr rfl Sm S85
                    try rw [jk_m1] at X86
                    try rw [jk_0] at X86
                    rw [X86] at D
                    show jX m_X11_join 14 0 0 157 [(0, .ref 31), (1, .int l1), (2, .int l2), (3, .int l3)] [] _ 0 0 _
                    exact jX.sub (jsb_c rfl (jsb_c rfl (jsb_c rfl (jsb_c rfl jsb_n)))) (ct_X11_join_r31d_157 hD hQ ih l1 l2 l3 g0 h (jr_of rfl (by omega)) (jr_of rfl (by omega)) (jr_of rfl (by omega)) (jmc S85 rfl (jmc S76 rfl (jmc S6 rfl z0))) (by omega) J Sm D)
                ·
                  rw [if_neg (by omega)] at D
                  refine x_iloadn (x := v79) rfl rfl ?_
                  refine x_aloadn (x := 87) rfl rfl ?_
                  refine z_getM (N := 14) (v := g0) 3 3 rfl f_3_15 rfl J rfl (jmc S76 rfl (jmc S6 rfl z0)) ?_
                  refine x_icge (tgt := 21) rfl rfl (ti_ge rfl rfl ⟨fun c87 => ?_, fun c87 => ?_⟩)
                  ·
                    rw [if_pos (by omega)] at D
                    refine x_iconst (v := (-1)) rfl ki_m1 ?_
                    refine x_iret rfl rfl ?_
                    show jX m_X11_join 14 0 0 143 [(0, .ref 31), (1, .int l1), (2, .int l2), (3, .int l3)] [.int (-1), .int l1, .ref 39] _ 0 0 _
                    refine x_aloadn (x := 31) rfl rfl ?_
                    refine z_getR (N := 13) (b := 87) 11 5 rfl f_11_50 rfl J rfl 3973 ⟨rfl, rfl⟩ rfl ?_
                    refine x_iloadn (x := l3) rfl rfl ?_
                    refine x_inv (N := m_X3_mentionAt) (As := [.int l3]) (b := 87) (st := [.int (-1), .int l1, .ref 39]) (dx9 := 13) (mc := 0) (ms := 0) (host := "") 3 rfl t_X3_mentionAt ⟨Or.inl q_11_309, i_X3_mentionAt.1, i_X3_mentionAt.2⟩ ⟨by decide, rfl⟩ (congrArg Prod.fst (J.1.1 87 (3, 14) rfl)) rfl (by decide) rfl rfl ⟨by decide, by decide⟩ (jC.of rfl k_X3_mentionAt rfl ?_)
                    show jX m_X3_mentionAt 13 0 0 0 [(0, .ref 87), (1, .int l3)] [] _ 0 0 _
                    refine x_iloadn (x := l3) rfl rfl ?_
                    refine x_iflt (tgt := 21) rfl rfl (ti_lt rfl jk_0 (br_f (by omega) ?_))
                    refine x_iloadn (x := l3) rfl rfl ?_
                    refine x_aloadn (x := 87) rfl rfl ?_
                    refine z_getM (N := 14) (v := g0) 3 3 rfl f_3_15 rfl J rfl (jmc S76 rfl (jmc S6 rfl z0)) ?_
                    refine x_icge (tgt := 21) rfl rfl (ti_ge rfl rfl ⟨fun c88 => ?_, fun c88 => ?_⟩)
                    ·
                      rw [if_pos (by omega)] at D
                      refine x_iconst (v := (-1)) rfl ki_m1 ?_
                      refine x_iret rfl rfl ?_
                      show jX m_X11_join 14 0 0 151 [(0, .ref 31), (1, .int l1), (2, .int l2), (3, .int l3)] [.int (-1), .int (-1), .int l1, .ref 39] _ 0 0 _
                      refine x_iconst (v := 0) rfl ki_0 ?_
                      refine x_iconst (v := 0) rfl ki_0 ?_
                      refine x_iconst (v := 0) rfl ki_0 ?_
                      refine x_inv (N := m_X8_add) (As := [.int l1, .int (-1), .int (-1), .int 0, .int 0, .int 0]) (b := 39) (st := []) (dx9 := 2) (mc := 0) (ms := 0) (host := "") 8 rfl t_X8_add ⟨Or.inl q_11_145, i_X8_add.1, i_X8_add.2⟩ ⟨by decide, rfl⟩ (congrArg Prod.fst (J.1.1 39 (8, 4) rfl)) rfl (by decide) rfl rfl ⟨by decide, by decide⟩ (sf_X8_add_r39d (jr_of rfl (by omega)) (jr_of jk_m1 (by omega)) (jr_of jk_m1 (by omega)) (jr_of jk_0 (by omega)) (jr_of jk_0 (by omega)) (jr_of jk_0 (by omega)) hD J rfl  (fun h J S89 X90 => ?_))
                      have Sm := jSm_tr rfl Sm S89
                      try rw [jk_m1] at X90
                      try rw [jk_0] at X90
                      rw [X90] at D
                      show jX m_X11_join 14 0 0 157 [(0, .ref 31), (1, .int l1), (2, .int l2), (3, .int l3)] [] _ 0 0 _
                      exact jX.sub (jsb_c rfl (jsb_c rfl (jsb_c rfl (jsb_c rfl jsb_n)))) (ct_X11_join_r31d_157 hD hQ ih l1 l2 l3 g0 h (jr_of rfl (by omega)) (jr_of rfl (by omega)) (jr_of rfl (by omega)) (jmc S89 rfl (jmc S76 rfl (jmc S6 rfl z0))) (by omega) J Sm D)
                    ·
                      rw [if_neg (by omega)] at D
                      refine x_aloadn (x := 87) rfl rfl ?_
                      refine z_getR (N := 14) (b := 88) 3 2 rfl f_3_9 rfl J rfl 11138 ⟨rfl, rfl⟩ rfl ?_
                      refine x_iloadn (x := l3) rfl rfl ?_
                      refine z_iald (N := 9) rfl J rfl sg_88_0_9_1_0_1 rfl (by omega) (fun v91 qv91 ev91 => ?_)
                      try rw [vrd qv91 (show l3.toInt = l3.toInt from by omega)] at D
                      refine x_goto (tgt := 22) rfl rfl ?_
                      refine x_iret rfl rfl ?_
                      show jX m_X11_join 14 0 0 151 [(0, .ref 31), (1, .int l1), (2, .int l2), (3, .int l3)] [.int v91, .int (-1), .int l1, .ref 39] _ 0 0 _
                      refine x_iconst (v := 0) rfl ki_0 ?_
                      refine x_iconst (v := 0) rfl ki_0 ?_
                      refine x_iconst (v := 0) rfl ki_0 ?_
                      refine x_inv (N := m_X8_add) (As := [.int l1, .int (-1), .int v91, .int 0, .int 0, .int 0]) (b := 39) (st := []) (dx9 := 2) (mc := 0) (ms := 0) (host := "") 8 rfl t_X8_add ⟨Or.inl q_11_145, i_X8_add.1, i_X8_add.2⟩ ⟨by decide, rfl⟩ (congrArg Prod.fst (J.1.1 39 (8, 4) rfl)) rfl (by decide) rfl rfl ⟨by decide, by decide⟩ (sf_X8_add_r39d (jr_of rfl (by omega)) (jr_of jk_m1 (by omega)) (jr_of rfl (by omega)) (jr_of jk_0 (by omega)) (jr_of jk_0 (by omega)) (jr_of jk_0 (by omega)) hD J rfl  (fun h J S92 X93 => ?_))
                      have Sm := jSm_tr rfl Sm S92
                      try rw [jk_m1] at X93
                      try rw [jk_0] at X93
                      rw [X93] at D
                      show jX m_X11_join 14 0 0 157 [(0, .ref 31), (1, .int l1), (2, .int l2), (3, .int l3)] [] _ 0 0 _
                      exact jX.sub (jsb_c rfl (jsb_c rfl (jsb_c rfl (jsb_c rfl jsb_n)))) (ct_X11_join_r31d_157 hD hQ ih l1 l2 l3 g0 h (jr_of rfl (by omega)) (jr_of rfl (by omega)) (jr_of rfl (by omega)) (jmc S92 rfl (jmc S76 rfl (jmc S6 rfl z0))) (by omega) J Sm D)
                  ·
                    rw [if_neg (by omega)] at D
                    refine x_aloadn (x := 87) rfl rfl ?_
                    refine z_getR (N := 14) (b := 88) 3 2 rfl f_3_9 rfl J rfl 11138 ⟨rfl, rfl⟩ rfl ?_
                    refine x_iloadn (x := v79) rfl rfl ?_
                    refine z_iald (N := 9) rfl J rfl sg_88_0_9_1_0_1 rfl (by omega) (fun v94 qv94 ev94 => ?_)
                    have Lrv94 : v41.toInt = v94.toInt := by (have Z := vrd qv41 (show v9.toInt = v9.toInt from by omega); try rw [← X78] at Z; try rw [Lkv79] at Z; exact Z.symm.trans (vrd qv94 (show v79.toInt = v79.toInt from by omega)))
                    try rw [Lrv94] at D
                    try rw [vrd qv94 (show v79.toInt = v79.toInt from by omega)] at D
                    refine x_goto (tgt := 22) rfl rfl ?_
                    refine x_iret rfl rfl ?_
                    show jX m_X11_join 14 0 0 143 [(0, .ref 31), (1, .int l1), (2, .int l2), (3, .int l3)] [.int v94, .int l1, .ref 39] _ 0 0 _
                    refine x_aloadn (x := 31) rfl rfl ?_
                    refine z_getR (N := 13) (b := 87) 11 5 rfl f_11_50 rfl J rfl 3973 ⟨rfl, rfl⟩ rfl ?_
                    refine x_iloadn (x := l3) rfl rfl ?_
                    refine x_inv (N := m_X3_mentionAt) (As := [.int l3]) (b := 87) (st := [.int v94, .int l1, .ref 39]) (dx9 := 13) (mc := 0) (ms := 0) (host := "") 3 rfl t_X3_mentionAt ⟨Or.inl q_11_309, i_X3_mentionAt.1, i_X3_mentionAt.2⟩ ⟨by decide, rfl⟩ (congrArg Prod.fst (J.1.1 87 (3, 14) rfl)) rfl (by decide) rfl rfl ⟨by decide, by decide⟩ (jC.of rfl k_X3_mentionAt rfl ?_)
                    show jX m_X3_mentionAt 13 0 0 0 [(0, .ref 87), (1, .int l3)] [] _ 0 0 _
                    refine x_iloadn (x := l3) rfl rfl ?_
                    refine x_iflt (tgt := 21) rfl rfl (ti_lt rfl jk_0 (br_f (by omega) ?_))
                    refine x_iloadn (x := l3) rfl rfl ?_
                    refine x_aloadn (x := 87) rfl rfl ?_
                    refine z_getM (N := 14) (v := g0) 3 3 rfl f_3_15 rfl J rfl (jmc S76 rfl (jmc S6 rfl z0)) ?_
                    refine x_icge (tgt := 21) rfl rfl (ti_ge rfl rfl ⟨fun c95 => ?_, fun c95 => ?_⟩)
                    ·
                      rw [if_pos (by omega)] at D
                      refine x_iconst (v := (-1)) rfl ki_m1 ?_
                      refine x_iret rfl rfl ?_
                      show jX m_X11_join 14 0 0 151 [(0, .ref 31), (1, .int l1), (2, .int l2), (3, .int l3)] [.int (-1), .int v94, .int l1, .ref 39] _ 0 0 _
                      refine x_iconst (v := 0) rfl ki_0 ?_
                      refine x_iconst (v := 0) rfl ki_0 ?_
                      refine x_iconst (v := 0) rfl ki_0 ?_
                      refine x_inv (N := m_X8_add) (As := [.int l1, .int v94, .int (-1), .int 0, .int 0, .int 0]) (b := 39) (st := []) (dx9 := 2) (mc := 0) (ms := 0) (host := "") 8 rfl t_X8_add ⟨Or.inl q_11_145, i_X8_add.1, i_X8_add.2⟩ ⟨by decide, rfl⟩ (congrArg Prod.fst (J.1.1 39 (8, 4) rfl)) rfl (by decide) rfl rfl ⟨by decide, by decide⟩ (sf_X8_add_r39d (jr_of rfl (by omega)) (jr_of rfl (by omega)) (jr_of jk_m1 (by omega)) (jr_of jk_0 (by omega)) (jr_of jk_0 (by omega)) (jr_of jk_0 (by omega)) hD J rfl  (fun h J S96 X97 => ?_))
                      have Sm := jSm_tr rfl Sm S96
                      try rw [jk_m1] at X97
                      try rw [jk_0] at X97
                      rw [X97] at D
                      show jX m_X11_join 14 0 0 157 [(0, .ref 31), (1, .int l1), (2, .int l2), (3, .int l3)] [] _ 0 0 _
                      exact jX.sub (jsb_c rfl (jsb_c rfl (jsb_c rfl (jsb_c rfl jsb_n)))) (ct_X11_join_r31d_157 hD hQ ih l1 l2 l3 g0 h (jr_of rfl (by omega)) (jr_of rfl (by omega)) (jr_of rfl (by omega)) (jmc S96 rfl (jmc S76 rfl (jmc S6 rfl z0))) (by omega) J Sm D)
                    ·
                      rw [if_neg (by omega)] at D
                      refine x_aloadn (x := 87) rfl rfl ?_
                      refine z_getR (N := 14) (b := 88) 3 2 rfl f_3_9 rfl J rfl 11138 ⟨rfl, rfl⟩ rfl ?_
                      refine x_iloadn (x := l3) rfl rfl ?_
                      refine z_iald (N := 9) rfl J rfl sg_88_0_9_1_0_1 rfl (by omega) (fun v98 qv98 ev98 => ?_)
                      try rw [vrd qv98 (show l3.toInt = l3.toInt from by omega)] at D
                      refine x_goto (tgt := 22) rfl rfl ?_
                      refine x_iret rfl rfl ?_
                      show jX m_X11_join 14 0 0 151 [(0, .ref 31), (1, .int l1), (2, .int l2), (3, .int l3)] [.int v98, .int v94, .int l1, .ref 39] _ 0 0 _
                      refine x_iconst (v := 0) rfl ki_0 ?_
                      refine x_iconst (v := 0) rfl ki_0 ?_
                      refine x_iconst (v := 0) rfl ki_0 ?_
                      refine x_inv (N := m_X8_add) (As := [.int l1, .int v94, .int v98, .int 0, .int 0, .int 0]) (b := 39) (st := []) (dx9 := 2) (mc := 0) (ms := 0) (host := "") 8 rfl t_X8_add ⟨Or.inl q_11_145, i_X8_add.1, i_X8_add.2⟩ ⟨by decide, rfl⟩ (congrArg Prod.fst (J.1.1 39 (8, 4) rfl)) rfl (by decide) rfl rfl ⟨by decide, by decide⟩ (sf_X8_add_r39d (jr_of rfl (by omega)) (jr_of rfl (by omega)) (jr_of rfl (by omega)) (jr_of jk_0 (by omega)) (jr_of jk_0 (by omega)) (jr_of jk_0 (by omega)) hD J rfl  (fun h J S99 X100 => ?_))
                      have Sm := jSm_tr rfl Sm S99
                      try rw [jk_0] at X100
                      rw [X100] at D
                      show jX m_X11_join 14 0 0 157 [(0, .ref 31), (1, .int l1), (2, .int l2), (3, .int l3)] [] _ 0 0 _
                      exact jX.sub (jsb_c rfl (jsb_c rfl (jsb_c rfl (jsb_c rfl jsb_n)))) (ct_X11_join_r31d_157 hD hQ ih l1 l2 l3 g0 h (jr_of rfl (by omega)) (jr_of rfl (by omega)) (jr_of rfl (by omega)) (jmc S99 rfl (jmc S76 rfl (jmc S6 rfl z0))) (by omega) J Sm D)
            ·
              rw [if_neg (by omega)] at D
              refine x_aloadn (x := 87) rfl rfl ?_
              refine z_getR (N := 14) (b := 88) 3 2 rfl f_3_9 rfl J rfl 11138 ⟨rfl, rfl⟩ rfl ?_
              refine x_iloadn (x := l3) rfl rfl ?_
              refine z_iald (N := 9) rfl J rfl sg_88_0_9_1_0_1 rfl (by omega) (fun v101 qv101 ev101 => ?_)
              try rw [vrd qv101 (show l3.toInt = l3.toInt from by omega)] at D
              refine x_goto (tgt := 22) rfl rfl ?_
              refine x_iret rfl rfl ?_
              show jX m_X3_isNews 13 0 0 32 [(2, .int v9), (0, .ref 87), (1, .int l3)] [.int v101, .ref 78, .int v73] _ 0 0 _
              refine x_inv (N := m_X7_soulAt) (As := [.int v101]) (b := 78) (st := [.int v73]) (dx9 := 12) (mc := 0) (ms := 0) (host := "") 7 rfl t_X7_soulAt ⟨Or.inl q_3_67, i_X7_soulAt.1, i_X7_soulAt.2⟩ ⟨by decide, rfl⟩ (congrArg Prod.fst (J.1.1 78 (7, 16) rfl)) rfl (by decide) rfl rfl ⟨by decide, by decide⟩ (jC.of rfl k_X7_soulAt rfl ?_)
              show jX m_X7_soulAt 12 0 0 0 [(0, .ref 78), (1, .int v101)] [] _ 0 0 _
              refine x_iloadn (x := v101) rfl rfl ?_
              refine x_iflt (tgt := 36) rfl rfl (ti_lt rfl jk_0 (br_f (by omega) ?_))
              refine x_iloadn (x := v101) rfl rfl ?_
              refine x_sipush (v := 600) rfl ks_600 ?_
              refine x_icge (tgt := 36) rfl rfl (ti_ge rfl jk_600 (br_f (by omega) ?_))
              refine x_iloadn (x := v101) rfl rfl ?_
              refine x_iconst (v := 3) rfl ki_3 ?_
              refine z_idiv rfl rfl jk_3 (by omega) (by omega) (fun v102 ev102 => ?_)
              refine x_aloadn (x := 78) rfl rfl ?_
              refine z_getR (N := 16) (b := 32) 7 0 rfl f_7_55 rfl J rfl 9984 ⟨rfl, rfl⟩ rfl ?_
              refine z_getR (N := 20) (b := 33) 1 0 rfl f_7_63 rfl J rfl 4096 ⟨rfl, rfl⟩ rfl ?_
              refine z_getM (N := 4) (v := v43) 8 3 rfl f_7_85 rfl J rfl qv43 ?_
              refine x_icge (tgt := 36) rfl rfl (ti_ge rfl rfl ⟨fun c103 => ?_, fun c103 => ?_⟩)
              ·
                rw [if_pos (by omega)] at D
                refine x_iconst (v := (-1)) rfl ki_m1 ?_
                refine x_iret rfl rfl ?_
                show jX m_X3_isNews 13 0 0 35 [(2, .int v9), (0, .ref 87), (1, .int l3)] [.int (-1), .int v73] _ 0 0 _
                refine x_iceq (tgt := 42) rfl rfl (ti_eq rfl jk_m1 ⟨fun c104 => ?_, fun c104 => ?_⟩)
                ·
                  rw [if_pos (by omega)] at D
                  refine x_iconst (v := 0) rfl ki_0 ?_
                  refine x_zret rfl rfl (by decide) ?_
                  show jX m_X11_join 14 0 0 117 [(0, .ref 31), (1, .int l1), (2, .int l2), (3, .int l3)] [.int 0] _ 0 0 _
                  refine x_ifeq (tgt := 157) rfl rfl (ti_eq jk_0 jk_0 (br_t (by omega) ?_))
                  exact jX.sub (jsb_c rfl (jsb_c rfl (jsb_c rfl (jsb_c rfl jsb_n)))) (ct_X11_join_r31d_157 hD hQ ih l1 l2 l3 g0 h (jr_of rfl (by omega)) (jr_of rfl (by omega)) (jr_of rfl (by omega)) (jmc S6 rfl z0) (by omega) J Sm D)
                ·
                  rw [if_neg (by omega)] at D
                  refine x_iconst (v := 1) rfl ki_1 ?_
                  refine x_goto (tgt := 43) rfl rfl ?_
                  refine x_zret rfl rfl (by decide) ?_
                  show jX m_X11_join 14 0 0 117 [(0, .ref 31), (1, .int l1), (2, .int l2), (3, .int l3)] [.int 1] _ 0 0 _
                  refine x_ifeq (tgt := 157) rfl rfl (ti_eq jk_1 jk_0 (br_f (by omega) ?_))
                  refine x_aloadn (x := 31) rfl rfl ?_
                  refine z_getR (N := 13) (b := 32) 11 0 rfl f_11_10 rfl J rfl 3968 ⟨rfl, rfl⟩ rfl ?_
                  refine z_getR (N := 20) (b := 39) 1 3 rfl f_11_237 rfl J rfl 4099 ⟨rfl, rfl⟩ rfl ?_
                  refine x_iloadn (x := l1) rfl rfl ?_
                  refine x_aloadn (x := 31) rfl rfl ?_
                  refine z_getR (N := 13) (b := 87) 11 5 rfl f_11_50 rfl J rfl 3973 ⟨rfl, rfl⟩ rfl ?_
                  refine x_aloadn (x := 31) rfl rfl ?_
                  refine z_getR (N := 13) (b := 87) 11 5 rfl f_11_50 rfl J rfl 3973 ⟨rfl, rfl⟩ rfl ?_
                  refine x_iloadn (x := l3) rfl rfl ?_
                  refine x_inv (N := m_X3_aheadOf) (As := [.int l3]) (b := 87) (st := [.ref 87, .int l1, .ref 39]) (dx9 := 2) (mc := 0) (ms := 0) (host := "") 3 rfl t_X3_aheadOf ⟨Or.inl q_11_306, i_X3_aheadOf.1, i_X3_aheadOf.2⟩ ⟨by decide, rfl⟩ (congrArg Prod.fst (J.1.1 87 (3, 14) rfl)) rfl (by decide) rfl rfl ⟨by decide, by decide⟩ (sf_X3_aheadOf_r87d (jr_of rfl (by omega)) hD J rfl  (fun v108 h ev108 J S105 X106 X107 => ?_))
                  have Sm := jSm_tr rfl Sm S105
                  have Lkv108 : v9.toInt = v108.toInt := by (have Z := X7; try rw [← X8] at Z; exact Z.symm.trans X106)
                  try rw [Lkv108] at D
                  try rw [X106] at D
                  try rw [← X107] at D
                  show jX m_X11_join 14 0 0 140 [(0, .ref 31), (1, .int l1), (2, .int l2), (3, .int l3)] [.int v108, .ref 87, .int l1, .ref 39] _ 0 0 _
                  refine x_inv (N := m_X3_mentionAt) (As := [.int v108]) (b := 87) (st := [.int l1, .ref 39]) (dx9 := 13) (mc := 0) (ms := 0) (host := "") 3 rfl t_X3_mentionAt ⟨Or.inl q_11_309, i_X3_mentionAt.1, i_X3_mentionAt.2⟩ ⟨by decide, rfl⟩ (congrArg Prod.fst (J.1.1 87 (3, 14) rfl)) rfl (by decide) rfl rfl ⟨by decide, by decide⟩ (jC.of rfl k_X3_mentionAt rfl ?_)
                  show jX m_X3_mentionAt 13 0 0 0 [(0, .ref 87), (1, .int v108)] [] _ 0 0 _
                  refine x_iloadn (x := v108) rfl rfl ?_
                  refine x_iflt (tgt := 21) rfl rfl (ti_lt rfl jk_0 ⟨fun c109 => ?_, fun c109 => ?_⟩)
                  ·
                    rw [if_pos (by omega)] at D
                    refine x_iconst (v := (-1)) rfl ki_m1 ?_
                    refine x_iret rfl rfl ?_
                    show jX m_X11_join 14 0 0 143 [(0, .ref 31), (1, .int l1), (2, .int l2), (3, .int l3)] [.int (-1), .int l1, .ref 39] _ 0 0 _
                    refine x_aloadn (x := 31) rfl rfl ?_
                    refine z_getR (N := 13) (b := 87) 11 5 rfl f_11_50 rfl J rfl 3973 ⟨rfl, rfl⟩ rfl ?_
                    refine x_iloadn (x := l3) rfl rfl ?_
                    refine x_inv (N := m_X3_mentionAt) (As := [.int l3]) (b := 87) (st := [.int (-1), .int l1, .ref 39]) (dx9 := 13) (mc := 0) (ms := 0) (host := "") 3 rfl t_X3_mentionAt ⟨Or.inl q_11_309, i_X3_mentionAt.1, i_X3_mentionAt.2⟩ ⟨by decide, rfl⟩ (congrArg Prod.fst (J.1.1 87 (3, 14) rfl)) rfl (by decide) rfl rfl ⟨by decide, by decide⟩ (jC.of rfl k_X3_mentionAt rfl ?_)
                    show jX m_X3_mentionAt 13 0 0 0 [(0, .ref 87), (1, .int l3)] [] _ 0 0 _
                    refine x_iloadn (x := l3) rfl rfl ?_
                    refine x_iflt (tgt := 21) rfl rfl (ti_lt rfl jk_0 (br_f (by omega) ?_))
                    refine x_iloadn (x := l3) rfl rfl ?_
                    refine x_aloadn (x := 87) rfl rfl ?_
                    refine z_getM (N := 14) (v := g0) 3 3 rfl f_3_15 rfl J rfl (jmc S105 rfl (jmc S6 rfl z0)) ?_
                    refine x_icge (tgt := 21) rfl rfl (ti_ge rfl rfl ⟨fun c110 => ?_, fun c110 => ?_⟩)
                    ·
                      rw [if_pos (by omega)] at D
                      refine x_iconst (v := (-1)) rfl ki_m1 ?_
                      refine x_iret rfl rfl ?_
                      show jX m_X11_join 14 0 0 151 [(0, .ref 31), (1, .int l1), (2, .int l2), (3, .int l3)] [.int (-1), .int (-1), .int l1, .ref 39] _ 0 0 _
                      refine x_iconst (v := 0) rfl ki_0 ?_
                      refine x_iconst (v := 0) rfl ki_0 ?_
                      refine x_iconst (v := 0) rfl ki_0 ?_
                      refine x_inv (N := m_X8_add) (As := [.int l1, .int (-1), .int (-1), .int 0, .int 0, .int 0]) (b := 39) (st := []) (dx9 := 2) (mc := 0) (ms := 0) (host := "") 8 rfl t_X8_add ⟨Or.inl q_11_145, i_X8_add.1, i_X8_add.2⟩ ⟨by decide, rfl⟩ (congrArg Prod.fst (J.1.1 39 (8, 4) rfl)) rfl (by decide) rfl rfl ⟨by decide, by decide⟩ (sf_X8_add_r39d (jr_of rfl (by omega)) (jr_of jk_m1 (by omega)) (jr_of jk_m1 (by omega)) (jr_of jk_0 (by omega)) (jr_of jk_0 (by omega)) (jr_of jk_0 (by omega)) hD J rfl  (fun h J S111 X112 => ?_))
                      have Sm := jSm_tr rfl Sm S111
                      try rw [jk_m1] at X112
                      try rw [jk_0] at X112
                      rw [X112] at D
                      show jX m_X11_join 14 0 0 157 [(0, .ref 31), (1, .int l1), (2, .int l2), (3, .int l3)] [] _ 0 0 _
                      exact jX.sub (jsb_c rfl (jsb_c rfl (jsb_c rfl (jsb_c rfl jsb_n)))) (ct_X11_join_r31d_157 hD hQ ih l1 l2 l3 g0 h (jr_of rfl (by omega)) (jr_of rfl (by omega)) (jr_of rfl (by omega)) (jmc S111 rfl (jmc S105 rfl (jmc S6 rfl z0))) (by omega) J Sm D)
                    ·
                      rw [if_neg (by omega)] at D
                      refine x_aloadn (x := 87) rfl rfl ?_
                      refine z_getR (N := 14) (b := 88) 3 2 rfl f_3_9 rfl J rfl 11138 ⟨rfl, rfl⟩ rfl ?_
                      refine x_iloadn (x := l3) rfl rfl ?_
                      refine z_ialdM (N := 9) (v := v101) rfl J rfl rfl (by omega) (jmc S105 rfl qv101) ?_
                      refine x_goto (tgt := 22) rfl rfl ?_
                      refine x_iret rfl rfl ?_
                      show jX m_X11_join 14 0 0 151 [(0, .ref 31), (1, .int l1), (2, .int l2), (3, .int l3)] [.int v101, .int (-1), .int l1, .ref 39] _ 0 0 _
                      refine x_iconst (v := 0) rfl ki_0 ?_
                      refine x_iconst (v := 0) rfl ki_0 ?_
                      refine x_iconst (v := 0) rfl ki_0 ?_
                      refine x_inv (N := m_X8_add) (As := [.int l1, .int (-1), .int v101, .int 0, .int 0, .int 0]) (b := 39) (st := []) (dx9 := 2) (mc := 0) (ms := 0) (host := "") 8 rfl t_X8_add ⟨Or.inl q_11_145, i_X8_add.1, i_X8_add.2⟩ ⟨by decide, rfl⟩ (congrArg Prod.fst (J.1.1 39 (8, 4) rfl)) rfl (by decide) rfl rfl ⟨by decide, by decide⟩ (sf_X8_add_r39d (jr_of rfl (by omega)) (jr_of jk_m1 (by omega)) (jr_of rfl (by omega)) (jr_of jk_0 (by omega)) (jr_of jk_0 (by omega)) (jr_of jk_0 (by omega)) hD J rfl  (fun h J S113 X114 => ?_))
                      have Sm := jSm_tr rfl Sm S113
                      try rw [jk_m1] at X114
                      try rw [jk_0] at X114
                      rw [X114] at D
                      show jX m_X11_join 14 0 0 157 [(0, .ref 31), (1, .int l1), (2, .int l2), (3, .int l3)] [] _ 0 0 _
                      exact jX.sub (jsb_c rfl (jsb_c rfl (jsb_c rfl (jsb_c rfl jsb_n)))) (ct_X11_join_r31d_157 hD hQ ih l1 l2 l3 g0 h (jr_of rfl (by omega)) (jr_of rfl (by omega)) (jr_of rfl (by omega)) (jmc S113 rfl (jmc S105 rfl (jmc S6 rfl z0))) (by omega) J Sm D)
                  ·
                    rw [if_neg (by omega)] at D
                    refine x_iloadn (x := v108) rfl rfl ?_
                    refine x_aloadn (x := 87) rfl rfl ?_
                    refine z_getM (N := 14) (v := g0) 3 3 rfl f_3_15 rfl J rfl (jmc S105 rfl (jmc S6 rfl z0)) ?_
                    refine x_icge (tgt := 21) rfl rfl (ti_ge rfl rfl ⟨fun c115 => ?_, fun c115 => ?_⟩)
                    ·
                      rw [if_pos (by omega)] at D
                      refine x_iconst (v := (-1)) rfl ki_m1 ?_
                      refine x_iret rfl rfl ?_
                      show jX m_X11_join 14 0 0 143 [(0, .ref 31), (1, .int l1), (2, .int l2), (3, .int l3)] [.int (-1), .int l1, .ref 39] _ 0 0 _
                      refine x_aloadn (x := 31) rfl rfl ?_
                      refine z_getR (N := 13) (b := 87) 11 5 rfl f_11_50 rfl J rfl 3973 ⟨rfl, rfl⟩ rfl ?_
                      refine x_iloadn (x := l3) rfl rfl ?_
                      refine x_inv (N := m_X3_mentionAt) (As := [.int l3]) (b := 87) (st := [.int (-1), .int l1, .ref 39]) (dx9 := 13) (mc := 0) (ms := 0) (host := "") 3 rfl t_X3_mentionAt ⟨Or.inl q_11_309, i_X3_mentionAt.1, i_X3_mentionAt.2⟩ ⟨by decide, rfl⟩ (congrArg Prod.fst (J.1.1 87 (3, 14) rfl)) rfl (by decide) rfl rfl ⟨by decide, by decide⟩ (jC.of rfl k_X3_mentionAt rfl ?_)
                      show jX m_X3_mentionAt 13 0 0 0 [(0, .ref 87), (1, .int l3)] [] _ 0 0 _
                      refine x_iloadn (x := l3) rfl rfl ?_
                      refine x_iflt (tgt := 21) rfl rfl (ti_lt rfl jk_0 (br_f (by omega) ?_))
                      refine x_iloadn (x := l3) rfl rfl ?_
                      refine x_aloadn (x := 87) rfl rfl ?_
                      refine z_getM (N := 14) (v := g0) 3 3 rfl f_3_15 rfl J rfl (jmc S105 rfl (jmc S6 rfl z0)) ?_
                      refine x_icge (tgt := 21) rfl rfl (ti_ge rfl rfl ⟨fun c116 => ?_, fun c116 => ?_⟩)
                      ·
                        rw [if_pos (by omega)] at D
                        refine x_iconst (v := (-1)) rfl ki_m1 ?_
                        refine x_iret rfl rfl ?_
                        show jX m_X11_join 14 0 0 151 [(0, .ref 31), (1, .int l1), (2, .int l2), (3, .int l3)] [.int (-1), .int (-1), .int l1, .ref 39] _ 0 0 _
                        refine x_iconst (v := 0) rfl ki_0 ?_
                        refine x_iconst (v := 0) rfl ki_0 ?_
                        refine x_iconst (v := 0) rfl ki_0 ?_
                        refine x_inv (N := m_X8_add) (As := [.int l1, .int (-1), .int (-1), .int 0, .int 0, .int 0]) (b := 39) (st := []) (dx9 := 2) (mc := 0) (ms := 0) (host := "") 8 rfl t_X8_add ⟨Or.inl q_11_145, i_X8_add.1, i_X8_add.2⟩ ⟨by decide, rfl⟩ (congrArg Prod.fst (J.1.1 39 (8, 4) rfl)) rfl (by decide) rfl rfl ⟨by decide, by decide⟩ (sf_X8_add_r39d (jr_of rfl (by omega)) (jr_of jk_m1 (by omega)) (jr_of jk_m1 (by omega)) (jr_of jk_0 (by omega)) (jr_of jk_0 (by omega)) (jr_of jk_0 (by omega)) hD J rfl  (fun h J S117 X118 => ?_))
                        have Sm := jSm_tr rfl Sm S117
                        try rw [jk_m1] at X118
                        try rw [jk_0] at X118
                        rw [X118] at D
                        show jX m_X11_join 14 0 0 157 [(0, .ref 31), (1, .int l1), (2, .int l2), (3, .int l3)] [] _ 0 0 _
                        exact jX.sub (jsb_c rfl (jsb_c rfl (jsb_c rfl (jsb_c rfl jsb_n)))) (ct_X11_join_r31d_157 hD hQ ih l1 l2 l3 g0 h (jr_of rfl (by omega)) (jr_of rfl (by omega)) (jr_of rfl (by omega)) (jmc S117 rfl (jmc S105 rfl (jmc S6 rfl z0))) (by omega) J Sm D)
                      ·
                        rw [if_neg (by omega)] at D
                        refine x_aloadn (x := 87) rfl rfl ?_
                        refine z_getR (N := 14) (b := 88) 3 2 rfl f_3_9 rfl J rfl 11138 ⟨rfl, rfl⟩ rfl ?_
                        refine x_iloadn (x := l3) rfl rfl ?_
                        refine z_ialdM (N := 9) (v := v101) rfl J rfl rfl (by omega) (jmc S105 rfl qv101) ?_
                        refine x_goto (tgt := 22) rfl rfl ?_
                        refine x_iret rfl rfl ?_
                        show jX m_X11_join 14 0 0 151 [(0, .ref 31), (1, .int l1), (2, .int l2), (3, .int l3)] [.int v101, .int (-1), .int l1, .ref 39] _ 0 0 _
                        refine x_iconst (v := 0) rfl ki_0 ?_
                        refine x_iconst (v := 0) rfl ki_0 ?_
                        refine x_iconst (v := 0) rfl ki_0 ?_
                        refine x_inv (N := m_X8_add) (As := [.int l1, .int (-1), .int v101, .int 0, .int 0, .int 0]) (b := 39) (st := []) (dx9 := 2) (mc := 0) (ms := 0) (host := "") 8 rfl t_X8_add ⟨Or.inl q_11_145, i_X8_add.1, i_X8_add.2⟩ ⟨by decide, rfl⟩ (congrArg Prod.fst (J.1.1 39 (8, 4) rfl)) rfl (by decide) rfl rfl ⟨by decide, by decide⟩ (sf_X8_add_r39d (jr_of rfl (by omega)) (jr_of jk_m1 (by omega)) (jr_of rfl (by omega)) (jr_of jk_0 (by omega)) (jr_of jk_0 (by omega)) (jr_of jk_0 (by omega)) hD J rfl  (fun h J S119 X120 => ?_))
                        have Sm := jSm_tr rfl Sm S119
                        try rw [jk_m1] at X120
                        try rw [jk_0] at X120
                        rw [X120] at D
                        show jX m_X11_join 14 0 0 157 [(0, .ref 31), (1, .int l1), (2, .int l2), (3, .int l3)] [] _ 0 0 _
                        exact jX.sub (jsb_c rfl (jsb_c rfl (jsb_c rfl (jsb_c rfl jsb_n)))) (ct_X11_join_r31d_157 hD hQ ih l1 l2 l3 g0 h (jr_of rfl (by omega)) (jr_of rfl (by omega)) (jr_of rfl (by omega)) (jmc S119 rfl (jmc S105 rfl (jmc S6 rfl z0))) (by omega) J Sm D)
                    ·
                      rw [if_neg (by omega)] at D
                      refine x_aloadn (x := 87) rfl rfl ?_
                      refine z_getR (N := 14) (b := 88) 3 2 rfl f_3_9 rfl J rfl 11138 ⟨rfl, rfl⟩ rfl ?_
                      refine x_iloadn (x := v108) rfl rfl ?_
                      refine z_iald (N := 9) rfl J rfl sg_88_0_9_1_0_1 rfl (by omega) (fun v121 qv121 ev121 => ?_)
                      have Lrv121 : v41.toInt = v121.toInt := by (have Z := vrd qv41 (show v9.toInt = v9.toInt from by omega); try rw [← X107] at Z; try rw [Lkv108] at Z; exact Z.symm.trans (vrd qv121 (show v108.toInt = v108.toInt from by omega)))
                      try rw [Lrv121] at D
                      try rw [vrd qv121 (show v108.toInt = v108.toInt from by omega)] at D
                      refine x_goto (tgt := 22) rfl rfl ?_
                      refine x_iret rfl rfl ?_
                      show jX m_X11_join 14 0 0 143 [(0, .ref 31), (1, .int l1), (2, .int l2), (3, .int l3)] [.int v121, .int l1, .ref 39] _ 0 0 _
                      refine x_aloadn (x := 31) rfl rfl ?_
                      refine z_getR (N := 13) (b := 87) 11 5 rfl f_11_50 rfl J rfl 3973 ⟨rfl, rfl⟩ rfl ?_
                      refine x_iloadn (x := l3) rfl rfl ?_
                      refine x_inv (N := m_X3_mentionAt) (As := [.int l3]) (b := 87) (st := [.int v121, .int l1, .ref 39]) (dx9 := 13) (mc := 0) (ms := 0) (host := "") 3 rfl t_X3_mentionAt ⟨Or.inl q_11_309, i_X3_mentionAt.1, i_X3_mentionAt.2⟩ ⟨by decide, rfl⟩ (congrArg Prod.fst (J.1.1 87 (3, 14) rfl)) rfl (by decide) rfl rfl ⟨by decide, by decide⟩ (jC.of rfl k_X3_mentionAt rfl ?_)
                      show jX m_X3_mentionAt 13 0 0 0 [(0, .ref 87), (1, .int l3)] [] _ 0 0 _
                      refine x_iloadn (x := l3) rfl rfl ?_
                      refine x_iflt (tgt := 21) rfl rfl (ti_lt rfl jk_0 (br_f (by omega) ?_))
                      refine x_iloadn (x := l3) rfl rfl ?_
                      refine x_aloadn (x := 87) rfl rfl ?_
                      refine z_getM (N := 14) (v := g0) 3 3 rfl f_3_15 rfl J rfl (jmc S105 rfl (jmc S6 rfl z0)) ?_
                      refine x_icge (tgt := 21) rfl rfl (ti_ge rfl rfl ⟨fun c122 => ?_, fun c122 => ?_⟩)
                      ·
                        rw [if_pos (by omega)] at D
                        refine x_iconst (v := (-1)) rfl ki_m1 ?_
                        refine x_iret rfl rfl ?_
                        show jX m_X11_join 14 0 0 151 [(0, .ref 31), (1, .int l1), (2, .int l2), (3, .int l3)] [.int (-1), .int v121, .int l1, .ref 39] _ 0 0 _
                        refine x_iconst (v := 0) rfl ki_0 ?_
                        refine x_iconst (v := 0) rfl ki_0 ?_
                        refine x_iconst (v := 0) rfl ki_0 ?_
                        refine x_inv (N := m_X8_add) (As := [.int l1, .int v121, .int (-1), .int 0, .int 0, .int 0]) (b := 39) (st := []) (dx9 := 2) (mc := 0) (ms := 0) (host := "") 8 rfl t_X8_add ⟨Or.inl q_11_145, i_X8_add.1, i_X8_add.2⟩ ⟨by decide, rfl⟩ (congrArg Prod.fst (J.1.1 39 (8, 4) rfl)) rfl (by decide) rfl rfl ⟨by decide, by decide⟩ (sf_X8_add_r39d (jr_of rfl (by omega)) (jr_of rfl (by omega)) (jr_of jk_m1 (by omega)) (jr_of jk_0 (by omega)) (jr_of jk_0 (by omega)) (jr_of jk_0 (by omega)) hD J rfl  (fun h J S123 X124 => ?_))
                        have Sm := jSm_tr rfl Sm S123
                        try rw [jk_m1] at X124
                        try rw [jk_0] at X124
                        rw [X124] at D
                        show jX m_X11_join 14 0 0 157 [(0, .ref 31), (1, .int l1), (2, .int l2), (3, .int l3)] [] _ 0 0 _
                        exact jX.sub (jsb_c rfl (jsb_c rfl (jsb_c rfl (jsb_c rfl jsb_n)))) (ct_X11_join_r31d_157 hD hQ ih l1 l2 l3 g0 h (jr_of rfl (by omega)) (jr_of rfl (by omega)) (jr_of rfl (by omega)) (jmc S123 rfl (jmc S105 rfl (jmc S6 rfl z0))) (by omega) J Sm D)
                      ·
                        rw [if_neg (by omega)] at D
                        refine x_aloadn (x := 87) rfl rfl ?_
                        refine z_getR (N := 14) (b := 88) 3 2 rfl f_3_9 rfl J rfl 11138 ⟨rfl, rfl⟩ rfl ?_
                        refine x_iloadn (x := l3) rfl rfl ?_
                        refine z_ialdM (N := 9) (v := v101) rfl J rfl rfl (by omega) (jmc S105 rfl qv101) ?_
                        refine x_goto (tgt := 22) rfl rfl ?_
                        refine x_iret rfl rfl ?_
                        show jX m_X11_join 14 0 0 151 [(0, .ref 31), (1, .int l1), (2, .int l2), (3, .int l3)] [.int v101, .int v121, .int l1, .ref 39] _ 0 0 _
                        refine x_iconst (v := 0) rfl ki_0 ?_
                        refine x_iconst (v := 0) rfl ki_0 ?_
                        refine x_iconst (v := 0) rfl ki_0 ?_
                        refine x_inv (N := m_X8_add) (As := [.int l1, .int v121, .int v101, .int 0, .int 0, .int 0]) (b := 39) (st := []) (dx9 := 2) (mc := 0) (ms := 0) (host := "") 8 rfl t_X8_add ⟨Or.inl q_11_145, i_X8_add.1, i_X8_add.2⟩ ⟨by decide, rfl⟩ (congrArg Prod.fst (J.1.1 39 (8, 4) rfl)) rfl (by decide) rfl rfl ⟨by decide, by decide⟩ (sf_X8_add_r39d (jr_of rfl (by omega)) (jr_of rfl (by omega)) (jr_of rfl (by omega)) (jr_of jk_0 (by omega)) (jr_of jk_0 (by omega)) (jr_of jk_0 (by omega)) hD J rfl  (fun h J S125 X126 => ?_))
                        have Sm := jSm_tr rfl Sm S125
                        try rw [jk_0] at X126
                        rw [X126] at D
                        show jX m_X11_join 14 0 0 157 [(0, .ref 31), (1, .int l1), (2, .int l2), (3, .int l3)] [] _ 0 0 _
                        exact jX.sub (jsb_c rfl (jsb_c rfl (jsb_c rfl (jsb_c rfl jsb_n)))) (ct_X11_join_r31d_157 hD hQ ih l1 l2 l3 g0 h (jr_of rfl (by omega)) (jr_of rfl (by omega)) (jr_of rfl (by omega)) (jmc S125 rfl (jmc S105 rfl (jmc S6 rfl z0))) (by omega) J Sm D)
              ·
                rw [if_neg (by omega)] at D
                refine x_aloadn (x := 78) rfl rfl ?_
                refine z_getR (N := 16) (b := 82) 7 10 rfl f_7_37 rfl J rfl 9994 ⟨rfl, rfl⟩ rfl ?_
                refine x_iloadn (x := v101) rfl rfl ?_
                refine z_iald (N := 600) rfl J rfl sg_82_0_600_1_0_1 rfl (by omega) (fun v127 qv127 ev127 => ?_)
                try rw [vrd qv127 (show v101.toInt = v101.toInt from by omega)] at D
                refine x_goto (tgt := 37) rfl rfl ?_
                refine x_iret rfl rfl ?_
                show jX m_X3_isNews 13 0 0 35 [(2, .int v9), (0, .ref 87), (1, .int l3)] [.int v127, .int v73] _ 0 0 _
                refine x_iceq (tgt := 42) rfl rfl (ti_eq rfl rfl ⟨fun c128 => ?_, fun c128 => ?_⟩)
                ·
                  rw [if_pos (by omega)] at D
                  refine x_iconst (v := 0) rfl ki_0 ?_
                  refine x_zret rfl rfl (by decide) ?_
                  show jX m_X11_join 14 0 0 117 [(0, .ref 31), (1, .int l1), (2, .int l2), (3, .int l3)] [.int 0] _ 0 0 _
                  refine x_ifeq (tgt := 157) rfl rfl (ti_eq jk_0 jk_0 (br_t (by omega) ?_))
                  exact jX.sub (jsb_c rfl (jsb_c rfl (jsb_c rfl (jsb_c rfl jsb_n)))) (ct_X11_join_r31d_157 hD hQ ih l1 l2 l3 g0 h (jr_of rfl (by omega)) (jr_of rfl (by omega)) (jr_of rfl (by omega)) (jmc S6 rfl z0) (by omega) J Sm D)
                ·
                  rw [if_neg (by omega)] at D
                  refine x_iconst (v := 1) rfl ki_1 ?_
                  refine x_goto (tgt := 43) rfl rfl ?_
                  refine x_zret rfl rfl (by decide) ?_
                  show jX m_X11_join 14 0 0 117 [(0, .ref 31), (1, .int l1), (2, .int l2), (3, .int l3)] [.int 1] _ 0 0 _
                  refine x_ifeq (tgt := 157) rfl rfl (ti_eq jk_1 jk_0 (br_f (by omega) ?_))
                  refine x_aloadn (x := 31) rfl rfl ?_
                  refine z_getR (N := 13) (b := 32) 11 0 rfl f_11_10 rfl J rfl 3968 ⟨rfl, rfl⟩ rfl ?_
                  refine z_getR (N := 20) (b := 39) 1 3 rfl f_11_237 rfl J rfl 4099 ⟨rfl, rfl⟩ rfl ?_
                  refine x_iloadn (x := l1) rfl rfl ?_
                  refine x_aloadn (x := 31) rfl rfl ?_
                  refine z_getR (N := 13) (b := 87) 11 5 rfl f_11_50 rfl J rfl 3973 ⟨rfl, rfl⟩ rfl ?_
                  refine x_aloadn (x := 31) rfl rfl ?_
                  refine z_getR (N := 13) (b := 87) 11 5 rfl f_11_50 rfl J rfl 3973 ⟨rfl, rfl⟩ rfl ?_
                  refine x_iloadn (x := l3) rfl rfl ?_
                  refine x_inv (N := m_X3_aheadOf) (As := [.int l3]) (b := 87) (st := [.ref 87, .int l1, .ref 39]) (dx9 := 2) (mc := 0) (ms := 0) (host := "") 3 rfl t_X3_aheadOf ⟨Or.inl q_11_306, i_X3_aheadOf.1, i_X3_aheadOf.2⟩ ⟨by decide, rfl⟩ (congrArg Prod.fst (J.1.1 87 (3, 14) rfl)) rfl (by decide) rfl rfl ⟨by decide, by decide⟩ (sf_X3_aheadOf_r87d (jr_of rfl (by omega)) hD J rfl  (fun v132 h ev132 J S129 X130 X131 => ?_))
                  have Sm := jSm_tr rfl Sm S129
                  have Lkv132 : v9.toInt = v132.toInt := by (have Z := X7; try rw [← X8] at Z; exact Z.symm.trans X130)
                  try rw [Lkv132] at D
                  try rw [X130] at D
                  try rw [← X131] at D
                  show jX m_X11_join 14 0 0 140 [(0, .ref 31), (1, .int l1), (2, .int l2), (3, .int l3)] [.int v132, .ref 87, .int l1, .ref 39] _ 0 0 _
                  refine x_inv (N := m_X3_mentionAt) (As := [.int v132]) (b := 87) (st := [.int l1, .ref 39]) (dx9 := 13) (mc := 0) (ms := 0) (host := "") 3 rfl t_X3_mentionAt ⟨Or.inl q_11_309, i_X3_mentionAt.1, i_X3_mentionAt.2⟩ ⟨by decide, rfl⟩ (congrArg Prod.fst (J.1.1 87 (3, 14) rfl)) rfl (by decide) rfl rfl ⟨by decide, by decide⟩ (jC.of rfl k_X3_mentionAt rfl ?_)
                  show jX m_X3_mentionAt 13 0 0 0 [(0, .ref 87), (1, .int v132)] [] _ 0 0 _
                  refine x_iloadn (x := v132) rfl rfl ?_
                  refine x_iflt (tgt := 21) rfl rfl (ti_lt rfl jk_0 ⟨fun c133 => ?_, fun c133 => ?_⟩)
                  ·
                    rw [if_pos (by omega)] at D
                    refine x_iconst (v := (-1)) rfl ki_m1 ?_
                    refine x_iret rfl rfl ?_
                    show jX m_X11_join 14 0 0 143 [(0, .ref 31), (1, .int l1), (2, .int l2), (3, .int l3)] [.int (-1), .int l1, .ref 39] _ 0 0 _
                    refine x_aloadn (x := 31) rfl rfl ?_
                    refine z_getR (N := 13) (b := 87) 11 5 rfl f_11_50 rfl J rfl 3973 ⟨rfl, rfl⟩ rfl ?_
                    refine x_iloadn (x := l3) rfl rfl ?_
                    refine x_inv (N := m_X3_mentionAt) (As := [.int l3]) (b := 87) (st := [.int (-1), .int l1, .ref 39]) (dx9 := 13) (mc := 0) (ms := 0) (host := "") 3 rfl t_X3_mentionAt ⟨Or.inl q_11_309, i_X3_mentionAt.1, i_X3_mentionAt.2⟩ ⟨by decide, rfl⟩ (congrArg Prod.fst (J.1.1 87 (3, 14) rfl)) rfl (by decide) rfl rfl ⟨by decide, by decide⟩ (jC.of rfl k_X3_mentionAt rfl ?_)
                    show jX m_X3_mentionAt 13 0 0 0 [(0, .ref 87), (1, .int l3)] [] _ 0 0 _
                    refine x_iloadn (x := l3) rfl rfl ?_
                    refine x_iflt (tgt := 21) rfl rfl (ti_lt rfl jk_0 (br_f (by omega) ?_))
                    refine x_iloadn (x := l3) rfl rfl ?_
                    refine x_aloadn (x := 87) rfl rfl ?_
                    refine z_getM (N := 14) (v := g0) 3 3 rfl f_3_15 rfl J rfl (jmc S129 rfl (jmc S6 rfl z0)) ?_
                    refine x_icge (tgt := 21) rfl rfl (ti_ge rfl rfl ⟨fun c134 => ?_, fun c134 => ?_⟩)
                    ·
                      rw [if_pos (by omega)] at D
                      refine x_iconst (v := (-1)) rfl ki_m1 ?_
                      refine x_iret rfl rfl ?_
                      show jX m_X11_join 14 0 0 151 [(0, .ref 31), (1, .int l1), (2, .int l2), (3, .int l3)] [.int (-1), .int (-1), .int l1, .ref 39] _ 0 0 _
                      refine x_iconst (v := 0) rfl ki_0 ?_
                      refine x_iconst (v := 0) rfl ki_0 ?_
                      refine x_iconst (v := 0) rfl ki_0 ?_
                      refine x_inv (N := m_X8_add) (As := [.int l1, .int (-1), .int (-1), .int 0, .int 0, .int 0]) (b := 39) (st := []) (dx9 := 2) (mc := 0) (ms := 0) (host := "") 8 rfl t_X8_add ⟨Or.inl q_11_145, i_X8_add.1, i_X8_add.2⟩ ⟨by decide, rfl⟩ (congrArg Prod.fst (J.1.1 39 (8, 4) rfl)) rfl (by decide) rfl rfl ⟨by decide, by decide⟩ (sf_X8_add_r39d (jr_of rfl (by omega)) (jr_of jk_m1 (by omega)) (jr_of jk_m1 (by omega)) (jr_of jk_0 (by omega)) (jr_of jk_0 (by omega)) (jr_of jk_0 (by omega)) hD J rfl  (fun h J S135 X136 => ?_))
                      have Sm := jSm_tr rfl Sm S135
                      try rw [jk_m1] at X136
                      try rw [jk_0] at X136
                      rw [X136] at D
                      show jX m_X11_join 14 0 0 157 [(0, .ref 31), (1, .int l1), (2, .int l2), (3, .int l3)] [] _ 0 0 _
                      exact jX.sub (jsb_c rfl (jsb_c rfl (jsb_c rfl (jsb_c rfl jsb_n)))) (ct_X11_join_r31d_157 hD hQ ih l1 l2 l3 g0 h (jr_of rfl (by omega)) (jr_of rfl (by omega)) (jr_of rfl (by omega)) (jmc S135 rfl (jmc S129 rfl (jmc S6 rfl z0))) (by omega) J Sm D)
                    ·
                      rw [if_neg (by omega)] at D
                      refine x_aloadn (x := 87) rfl rfl ?_
                      refine z_getR (N := 14) (b := 88) 3 2 rfl f_3_9 rfl J rfl 11138 ⟨rfl, rfl⟩ rfl ?_
                      refine x_iloadn (x := l3) rfl rfl ?_
                      refine z_ialdM (N := 9) (v := v101) rfl J rfl rfl (by omega) (jmc S129 rfl qv101) ?_
                      refine x_goto (tgt := 22) rfl rfl ?_
                      refine x_iret rfl rfl ?_
                      show jX m_X11_join 14 0 0 151 [(0, .ref 31), (1, .int l1), (2, .int l2), (3, .int l3)] [.int v101, .int (-1), .int l1, .ref 39] _ 0 0 _
                      refine x_iconst (v := 0) rfl ki_0 ?_
                      refine x_iconst (v := 0) rfl ki_0 ?_
                      refine x_iconst (v := 0) rfl ki_0 ?_
                      refine x_inv (N := m_X8_add) (As := [.int l1, .int (-1), .int v101, .int 0, .int 0, .int 0]) (b := 39) (st := []) (dx9 := 2) (mc := 0) (ms := 0) (host := "") 8 rfl t_X8_add ⟨Or.inl q_11_145, i_X8_add.1, i_X8_add.2⟩ ⟨by decide, rfl⟩ (congrArg Prod.fst (J.1.1 39 (8, 4) rfl)) rfl (by decide) rfl rfl ⟨by decide, by decide⟩ (sf_X8_add_r39d (jr_of rfl (by omega)) (jr_of jk_m1 (by omega)) (jr_of rfl (by omega)) (jr_of jk_0 (by omega)) (jr_of jk_0 (by omega)) (jr_of jk_0 (by omega)) hD J rfl  (fun h J S137 X138 => ?_))
                      have Sm := jSm_tr rfl Sm S137
                      try rw [jk_m1] at X138
                      try rw [jk_0] at X138
                      rw [X138] at D
                      show jX m_X11_join 14 0 0 157 [(0, .ref 31), (1, .int l1), (2, .int l2), (3, .int l3)] [] _ 0 0 _
                      exact jX.sub (jsb_c rfl (jsb_c rfl (jsb_c rfl (jsb_c rfl jsb_n)))) (ct_X11_join_r31d_157 hD hQ ih l1 l2 l3 g0 h (jr_of rfl (by omega)) (jr_of rfl (by omega)) (jr_of rfl (by omega)) (jmc S137 rfl (jmc S129 rfl (jmc S6 rfl z0))) (by omega) J Sm D)
                  ·
                    rw [if_neg (by omega)] at D
                    refine x_iloadn (x := v132) rfl rfl ?_
                    refine x_aloadn (x := 87) rfl rfl ?_
                    refine z_getM (N := 14) (v := g0) 3 3 rfl f_3_15 rfl J rfl (jmc S129 rfl (jmc S6 rfl z0)) ?_
                    refine x_icge (tgt := 21) rfl rfl (ti_ge rfl rfl ⟨fun c139 => ?_, fun c139 => ?_⟩)
                    ·
                      rw [if_pos (by omega)] at D
                      refine x_iconst (v := (-1)) rfl ki_m1 ?_
                      refine x_iret rfl rfl ?_
                      show jX m_X11_join 14 0 0 143 [(0, .ref 31), (1, .int l1), (2, .int l2), (3, .int l3)] [.int (-1), .int l1, .ref 39] _ 0 0 _
                      refine x_aloadn (x := 31) rfl rfl ?_
                      refine z_getR (N := 13) (b := 87) 11 5 rfl f_11_50 rfl J rfl 3973 ⟨rfl, rfl⟩ rfl ?_
                      refine x_iloadn (x := l3) rfl rfl ?_
                      refine x_inv (N := m_X3_mentionAt) (As := [.int l3]) (b := 87) (st := [.int (-1), .int l1, .ref 39]) (dx9 := 13) (mc := 0) (ms := 0) (host := "") 3 rfl t_X3_mentionAt ⟨Or.inl q_11_309, i_X3_mentionAt.1, i_X3_mentionAt.2⟩ ⟨by decide, rfl⟩ (congrArg Prod.fst (J.1.1 87 (3, 14) rfl)) rfl (by decide) rfl rfl ⟨by decide, by decide⟩ (jC.of rfl k_X3_mentionAt rfl ?_)
                      show jX m_X3_mentionAt 13 0 0 0 [(0, .ref 87), (1, .int l3)] [] _ 0 0 _
                      refine x_iloadn (x := l3) rfl rfl ?_
                      refine x_iflt (tgt := 21) rfl rfl (ti_lt rfl jk_0 (br_f (by omega) ?_))
                      refine x_iloadn (x := l3) rfl rfl ?_
                      refine x_aloadn (x := 87) rfl rfl ?_
                      refine z_getM (N := 14) (v := g0) 3 3 rfl f_3_15 rfl J rfl (jmc S129 rfl (jmc S6 rfl z0)) ?_
                      refine x_icge (tgt := 21) rfl rfl (ti_ge rfl rfl ⟨fun c140 => ?_, fun c140 => ?_⟩)
                      ·
                        rw [if_pos (by omega)] at D
                        refine x_iconst (v := (-1)) rfl ki_m1 ?_
                        refine x_iret rfl rfl ?_
                        show jX m_X11_join 14 0 0 151 [(0, .ref 31), (1, .int l1), (2, .int l2), (3, .int l3)] [.int (-1), .int (-1), .int l1, .ref 39] _ 0 0 _
                        refine x_iconst (v := 0) rfl ki_0 ?_
                        refine x_iconst (v := 0) rfl ki_0 ?_
                        refine x_iconst (v := 0) rfl ki_0 ?_
                        refine x_inv (N := m_X8_add) (As := [.int l1, .int (-1), .int (-1), .int 0, .int 0, .int 0]) (b := 39) (st := []) (dx9 := 2) (mc := 0) (ms := 0) (host := "") 8 rfl t_X8_add ⟨Or.inl q_11_145, i_X8_add.1, i_X8_add.2⟩ ⟨by decide, rfl⟩ (congrArg Prod.fst (J.1.1 39 (8, 4) rfl)) rfl (by decide) rfl rfl ⟨by decide, by decide⟩ (sf_X8_add_r39d (jr_of rfl (by omega)) (jr_of jk_m1 (by omega)) (jr_of jk_m1 (by omega)) (jr_of jk_0 (by omega)) (jr_of jk_0 (by omega)) (jr_of jk_0 (by omega)) hD J rfl  (fun h J S141 X142 => ?_))
                        have Sm := jSm_tr rfl Sm S141
                        try rw [jk_m1] at X142
                        try rw [jk_0] at X142
                        rw [X142] at D
                        show jX m_X11_join 14 0 0 157 [(0, .ref 31), (1, .int l1), (2, .int l2), (3, .int l3)] [] _ 0 0 _
                        exact jX.sub (jsb_c rfl (jsb_c rfl (jsb_c rfl (jsb_c rfl jsb_n)))) (ct_X11_join_r31d_157 hD hQ ih l1 l2 l3 g0 h (jr_of rfl (by omega)) (jr_of rfl (by omega)) (jr_of rfl (by omega)) (jmc S141 rfl (jmc S129 rfl (jmc S6 rfl z0))) (by omega) J Sm D)
                      ·
                        rw [if_neg (by omega)] at D
                        refine x_aloadn (x := 87) rfl rfl ?_
                        refine z_getR (N := 14) (b := 88) 3 2 rfl f_3_9 rfl J rfl 11138 ⟨rfl, rfl⟩ rfl ?_
                        refine x_iloadn (x := l3) rfl rfl ?_
                        refine z_ialdM (N := 9) (v := v101) rfl J rfl rfl (by omega) (jmc S129 rfl qv101) ?_
                        refine x_goto (tgt := 22) rfl rfl ?_
                        refine x_iret rfl rfl ?_
                        show jX m_X11_join 14 0 0 151 [(0, .ref 31), (1, .int l1), (2, .int l2), (3, .int l3)] [.int v101, .int (-1), .int l1, .ref 39] _ 0 0 _
                        refine x_iconst (v := 0) rfl ki_0 ?_
                        refine x_iconst (v := 0) rfl ki_0 ?_
                        refine x_iconst (v := 0) rfl ki_0 ?_
                        refine x_inv (N := m_X8_add) (As := [.int l1, .int (-1), .int v101, .int 0, .int 0, .int 0]) (b := 39) (st := []) (dx9 := 2) (mc := 0) (ms := 0) (host := "") 8 rfl t_X8_add ⟨Or.inl q_11_145, i_X8_add.1, i_X8_add.2⟩ ⟨by decide, rfl⟩ (congrArg Prod.fst (J.1.1 39 (8, 4) rfl)) rfl (by decide) rfl rfl ⟨by decide, by decide⟩ (sf_X8_add_r39d (jr_of rfl (by omega)) (jr_of jk_m1 (by omega)) (jr_of rfl (by omega)) (jr_of jk_0 (by omega)) (jr_of jk_0 (by omega)) (jr_of jk_0 (by omega)) hD J rfl  (fun h J S143 X144 => ?_))
                        have Sm := jSm_tr rfl Sm S143
                        try rw [jk_m1] at X144
                        try rw [jk_0] at X144
                        rw [X144] at D
                        show jX m_X11_join 14 0 0 157 [(0, .ref 31), (1, .int l1), (2, .int l2), (3, .int l3)] [] _ 0 0 _
                        exact jX.sub (jsb_c rfl (jsb_c rfl (jsb_c rfl (jsb_c rfl jsb_n)))) (ct_X11_join_r31d_157 hD hQ ih l1 l2 l3 g0 h (jr_of rfl (by omega)) (jr_of rfl (by omega)) (jr_of rfl (by omega)) (jmc S143 rfl (jmc S129 rfl (jmc S6 rfl z0))) (by omega) J Sm D)
                    ·
                      rw [if_neg (by omega)] at D
                      refine x_aloadn (x := 87) rfl rfl ?_
                      refine z_getR (N := 14) (b := 88) 3 2 rfl f_3_9 rfl J rfl 11138 ⟨rfl, rfl⟩ rfl ?_
                      refine x_iloadn (x := v132) rfl rfl ?_
                      refine z_iald (N := 9) rfl J rfl sg_88_0_9_1_0_1 rfl (by omega) (fun v145 qv145 ev145 => ?_)
                      have Lrv145 : v41.toInt = v145.toInt := by (have Z := vrd qv41 (show v9.toInt = v9.toInt from by omega); try rw [← X131] at Z; try rw [Lkv132] at Z; exact Z.symm.trans (vrd qv145 (show v132.toInt = v132.toInt from by omega)))
                      try rw [Lrv145] at D
                      try rw [vrd qv145 (show v132.toInt = v132.toInt from by omega)] at D
                      refine x_goto (tgt := 22) rfl rfl ?_
                      refine x_iret rfl rfl ?_
                      show jX m_X11_join 14 0 0 143 [(0, .ref 31), (1, .int l1), (2, .int l2), (3, .int l3)] [.int v145, .int l1, .ref 39] _ 0 0 _
                      refine x_aloadn (x := 31) rfl rfl ?_
                      refine z_getR (N := 13) (b := 87) 11 5 rfl f_11_50 rfl J rfl 3973 ⟨rfl, rfl⟩ rfl ?_
                      refine x_iloadn (x := l3) rfl rfl ?_
                      refine x_inv (N := m_X3_mentionAt) (As := [.int l3]) (b := 87) (st := [.int v145, .int l1, .ref 39]) (dx9 := 13) (mc := 0) (ms := 0) (host := "") 3 rfl t_X3_mentionAt ⟨Or.inl q_11_309, i_X3_mentionAt.1, i_X3_mentionAt.2⟩ ⟨by decide, rfl⟩ (congrArg Prod.fst (J.1.1 87 (3, 14) rfl)) rfl (by decide) rfl rfl ⟨by decide, by decide⟩ (jC.of rfl k_X3_mentionAt rfl ?_)
                      show jX m_X3_mentionAt 13 0 0 0 [(0, .ref 87), (1, .int l3)] [] _ 0 0 _
                      refine x_iloadn (x := l3) rfl rfl ?_
                      refine x_iflt (tgt := 21) rfl rfl (ti_lt rfl jk_0 (br_f (by omega) ?_))
                      refine x_iloadn (x := l3) rfl rfl ?_
                      refine x_aloadn (x := 87) rfl rfl ?_
                      refine z_getM (N := 14) (v := g0) 3 3 rfl f_3_15 rfl J rfl (jmc S129 rfl (jmc S6 rfl z0)) ?_
                      refine x_icge (tgt := 21) rfl rfl (ti_ge rfl rfl ⟨fun c146 => ?_, fun c146 => ?_⟩)
                      ·
                        rw [if_pos (by omega)] at D
                        refine x_iconst (v := (-1)) rfl ki_m1 ?_
                        refine x_iret rfl rfl ?_
                        show jX m_X11_join 14 0 0 151 [(0, .ref 31), (1, .int l1), (2, .int l2), (3, .int l3)] [.int (-1), .int v145, .int l1, .ref 39] _ 0 0 _
                        refine x_iconst (v := 0) rfl ki_0 ?_
                        refine x_iconst (v := 0) rfl ki_0 ?_
                        refine x_iconst (v := 0) rfl ki_0 ?_
                        refine x_inv (N := m_X8_add) (As := [.int l1, .int v145, .int (-1), .int 0, .int 0, .int 0]) (b := 39) (st := []) (dx9 := 2) (mc := 0) (ms := 0) (host := "") 8 rfl t_X8_add ⟨Or.inl q_11_145, i_X8_add.1, i_X8_add.2⟩ ⟨by decide, rfl⟩ (congrArg Prod.fst (J.1.1 39 (8, 4) rfl)) rfl (by decide) rfl rfl ⟨by decide, by decide⟩ (sf_X8_add_r39d (jr_of rfl (by omega)) (jr_of rfl (by omega)) (jr_of jk_m1 (by omega)) (jr_of jk_0 (by omega)) (jr_of jk_0 (by omega)) (jr_of jk_0 (by omega)) hD J rfl  (fun h J S147 X148 => ?_))
                        have Sm := jSm_tr rfl Sm S147
                        try rw [jk_m1] at X148
                        try rw [jk_0] at X148
                        rw [X148] at D
                        show jX m_X11_join 14 0 0 157 [(0, .ref 31), (1, .int l1), (2, .int l2), (3, .int l3)] [] _ 0 0 _
                        exact jX.sub (jsb_c rfl (jsb_c rfl (jsb_c rfl (jsb_c rfl jsb_n)))) (ct_X11_join_r31d_157 hD hQ ih l1 l2 l3 g0 h (jr_of rfl (by omega)) (jr_of rfl (by omega)) (jr_of rfl (by omega)) (jmc S147 rfl (jmc S129 rfl (jmc S6 rfl z0))) (by omega) J Sm D)
                      ·
                        rw [if_neg (by omega)] at D
                        refine x_aloadn (x := 87) rfl rfl ?_
                        refine z_getR (N := 14) (b := 88) 3 2 rfl f_3_9 rfl J rfl 11138 ⟨rfl, rfl⟩ rfl ?_
                        refine x_iloadn (x := l3) rfl rfl ?_
                        refine z_ialdM (N := 9) (v := v101) rfl J rfl rfl (by omega) (jmc S129 rfl qv101) ?_
                        refine x_goto (tgt := 22) rfl rfl ?_
                        refine x_iret rfl rfl ?_
                        show jX m_X11_join 14 0 0 151 [(0, .ref 31), (1, .int l1), (2, .int l2), (3, .int l3)] [.int v101, .int v145, .int l1, .ref 39] _ 0 0 _
                        refine x_iconst (v := 0) rfl ki_0 ?_
                        refine x_iconst (v := 0) rfl ki_0 ?_
                        refine x_iconst (v := 0) rfl ki_0 ?_
                        refine x_inv (N := m_X8_add) (As := [.int l1, .int v145, .int v101, .int 0, .int 0, .int 0]) (b := 39) (st := []) (dx9 := 2) (mc := 0) (ms := 0) (host := "") 8 rfl t_X8_add ⟨Or.inl q_11_145, i_X8_add.1, i_X8_add.2⟩ ⟨by decide, rfl⟩ (congrArg Prod.fst (J.1.1 39 (8, 4) rfl)) rfl (by decide) rfl rfl ⟨by decide, by decide⟩ (sf_X8_add_r39d (jr_of rfl (by omega)) (jr_of rfl (by omega)) (jr_of rfl (by omega)) (jr_of jk_0 (by omega)) (jr_of jk_0 (by omega)) (jr_of jk_0 (by omega)) hD J rfl  (fun h J S149 X150 => ?_))
                        have Sm := jSm_tr rfl Sm S149
                        try rw [jk_0] at X150
                        rw [X150] at D
                        show jX m_X11_join 14 0 0 157 [(0, .ref 31), (1, .int l1), (2, .int l2), (3, .int l3)] [] _ 0 0 _
                        exact jX.sub (jsb_c rfl (jsb_c rfl (jsb_c rfl (jsb_c rfl jsb_n)))) (ct_X11_join_r31d_157 hD hQ ih l1 l2 l3 g0 h (jr_of rfl (by omega)) (jr_of rfl (by omega)) (jr_of rfl (by omega)) (jmc S149 rfl (jmc S129 rfl (jmc S6 rfl z0))) (by omega) J Sm D)
set_option maxRecDepth 100000 in
set_option maxHeartbeats 4000000 in
theorem ct_X11_join_r31d_58 {Dy : jH → Prop} {h0 : jH} {Q : Option Value → jH → Prop} {dr : (Int × jW)} {K33 : Int → Int → Int → jW → (Int × jW)} {R33 : Int} (hD : jDk Dy) (hQ : ∀ (v : Int32) hx9, jJ jSgX Dy hx9 → jSm fp_X11_join_r31d h0 hx9 → dr.1 = v.toInt → dr.2 = vw hx9 → Q (some (.int v)) hx9) (k33 : ∀ (l1 : Int32) (l2 : Int32) (l3 : Int32) (h : jH), 9 - l3.toInt < R33 → 0 ≤ l1.toInt ∧ l1.toInt ≤ 146399 → 0 ≤ l3.toInt ∧ l3.toInt ≤ 9 → jJ jSgX Dy h → jSm fp_X11_join_r31d h0 h → K33 l1.toInt l2.toInt l3.toInt (vw h) = dr → jX m_X11_join 14 0 0 33 [(0, .ref 31), (1, .int l1), (2, .int l2), (3, .int l3)] [] h 0 0 Q) : ∀ (l1 : Int32) (l2 : Int32) (l3 : Int32) (h : jH), 0 ≤ l1.toInt ∧ l1.toInt ≤ 146399 → 0 ≤ l3.toInt ∧ l3.toInt ≤ 8 → 9 - l3.toInt ≤ R33 → jJ jSgX Dy h → jSm fp_X11_join_r31d h0 h → d_X11_join_r31d_58 K33  l1.toInt l2.toInt l3.toInt (vw h) = dr → jX m_X11_join 14 0 0 58 [(0, .ref 31), (1, .int l1), (2, .int l2), (3, .int l3)] [] h 0 0 Q := by
  intro l1 l2 l3 h y0 y1  m33 J Sm D
  have el2 := jfull l2
  unfold d_X11_join_r31d_58 at D
  refine z_iinc (x := l3) (lsx9 := fun v1 => [(3, .int v1), (0, .ref 31), (1, .int l1), (2, .int l2)]) rfl rfl rfl jko_1 (by omega) rfl (fun _ => rfl) (fun v1 ev1 => ?_)
  refine x_goto (tgt := 33) rfl rfl ?_
  try rw [show (l3.toInt + 1) = v1.toInt from by omega] at D
  exact jX.sub (jsb_c rfl (jsb_c rfl (jsb_c rfl (jsb_c rfl jsb_n)))) (k33 l1 l2 v1 h (by omega) (jr_of rfl (by omega)) (jr_of rfl (by omega)) J Sm D)
set_option maxRecDepth 100000 in
set_option maxHeartbeats 4000000 in
theorem ct_X11_join_r31d_33 {Dy : jH → Prop} {h0 : jH} {Q : Option Value → jH → Prop} {dr : (Int × jW)} (hD : jDk Dy) (hQ : ∀ (v : Int32) hx9, jJ jSgX Dy hx9 → jSm fp_X11_join_r31d h0 hx9 → dr.1 = v.toInt → dr.2 = vw hx9 → Q (some (.int v)) hx9) : ∀ r : Nat, ∀ (l1 : Int32) (l2 : Int32) (l3 : Int32) (h : jH), 9 - l3.toInt < (r : Int) → 0 ≤ l1.toInt ∧ l1.toInt ≤ 146399 → 0 ≤ l3.toInt ∧ l3.toInt ≤ 9 → jJ jSgX Dy h → jSm fp_X11_join_r31d h0 h → d_X11_join_r31d_33 r l1.toInt l2.toInt l3.toInt (vw h) = dr → jX m_X11_join 14 0 0 33 [(0, .ref 31), (1, .int l1), (2, .int l2), (3, .int l3)] [] h 0 0 Q := by
  intro r
  induction r with
  | zero =>
    intro l1 l2 l3 h hm y0 y1   J Sm D
    exfalso
    have el2 := jfull l2
    omega
  | succ r ih =>
    intro l1 l2 l3 h hm y0 y1   J Sm D
    have el2 := jfull l2
    rw [d_X11_join_r31d_33.eq_2] at D
    refine x_iloadn (x := l3) rfl rfl ?_
    refine x_aloadn (x := 31) rfl rfl ?_
    refine z_getR (N := 13) (b := 87) 11 5 rfl f_11_50 rfl J rfl 3973 ⟨rfl, rfl⟩ rfl ?_
    refine z_getI (N := 14) 3 3 rfl f_11_273 rfl J rfl sg_87_3_4_1_0_1 (fun v1 qv1 ev1 => ?_)
    try rw [vrf qv1] at D
    refine x_icge (tgt := 64) rfl rfl (ti_ge rfl rfl ⟨fun c2 => ?_, fun c2 => ?_⟩)
    ·
      rw [if_pos (by omega)] at D
      refine x_aloadn (x := 31) rfl rfl ?_
      refine z_getR (N := 13) (b := 32) 11 0 rfl f_11_10 rfl J rfl 3968 ⟨rfl, rfl⟩ rfl ?_
      refine z_getR (N := 20) (b := 39) 1 3 rfl f_11_237 rfl J rfl 4099 ⟨rfl, rfl⟩ rfl ?_
      refine z_getI (N := 4) 8 3 rfl f_11_142 rfl J rfl sg_39_3_4_1_0_1 (fun v3 qv3 ev3 => ?_)
      try rw [vrf qv3] at D
      refine x_iloadn (x := l2) rfl rfl ?_
      refine z_iaddW rfl rfl rfl (fun v4 ev4 => ?_)
      have fv4 := jfull v4
      try rw [← ev4] at D
      refine x_aloadn (x := 31) rfl rfl ?_
      refine z_getR (N := 13) (b := 32) 11 0 rfl f_11_10 rfl J rfl 3968 ⟨rfl, rfl⟩ rfl ?_
      refine z_getR (N := 20) (b := 39) 1 3 rfl f_11_237 rfl J rfl 4099 ⟨rfl, rfl⟩ rfl ?_
      refine z_getC (N := 4) (v := 200) 8 1 rfl f_11_303 rfl J rfl sg_39_1_2_1_0_1 jk_200 ?_
      refine x_icle (tgt := 96) rfl rfl (ti_le rfl jk_200 ⟨fun c5 => ?_, fun c5 => ?_⟩)
      ·
        rw [if_pos (by omega)] at D
        refine x_iconst (v := 0) rfl ki_0 ?_
        refine x_istoren (lsx9 := [(3, .int 0), (0, .ref 31), (1, .int l1), (2, .int l2)]) rfl rfl rfl ?_
        exact jX.sub (jsb_c rfl (jsb_c rfl (jsb_c rfl (jsb_c rfl jsb_n)))) (ct_X11_join_r31d_98 hD hQ  10 l1 l2 0 v1 h (by have := jk_0; omega) (jr_of rfl (by omega)) (jr_of jk_0 (by omega)) (jr_of rfl (by omega)) qv1 J Sm (by rw [jk_0]; exact D))
      ·
        rw [if_neg (by omega)] at D
        refine x_aloadn (x := 31) rfl rfl ?_
        refine x_bipush (v := (-5)) rfl kb_m5 ?_
        refine x_inv (N := m_X11_refuse) (As := [.int (-5)]) (b := 31) (st := []) (dx9 := 13) (mc := 0) (ms := 0) (host := "") 11 rfl t_X11_refuse ⟨Or.inl q_11_206, i_X11_refuse.1, i_X11_refuse.2⟩ ⟨by decide, rfl⟩ (congrArg Prod.fst (J.1.1 31 (11, 13) rfl)) rfl (by decide) rfl rfl ⟨by decide, by decide⟩ (jC.of rfl k_X11_refuse rfl ?_)
        show jX m_X11_refuse 13 0 0 0 [(0, .ref 31), (1, .int (-5))] [] _ 0 0 _
        refine x_aloadn (x := 31) rfl rfl ?_
        refine x_iloadn (x := (-5)) rfl rfl ?_
        refine z_putI (N := 13) (w := (-5)) 11 12 rfl f_11_94 rfl (jfin_no TX11 RX11 13 rfl rfl) hD J Sm rfl rfl jk_m5 (pw_31_12 (by omega)) rfl (fun h w6 J Sm => ?_)
        rw [vwf w6 (show (-5) = ((-5) : Int32).toInt from by have := jk_m5; omega)] at D
        refine x_iloadn (x := (-5)) rfl rfl ?_
        refine x_iret rfl rfl ?_
        show jX m_X11_join 14 0 0 95 [(0, .ref 31), (1, .int l1), (2, .int l2), (3, .int l3)] [.int (-5)] _ 0 0 _
        refine x_iret rfl rfl ?_
        exact hQ _ _ J Sm ((congrArg Prod.fst D).symm.trans (show (-5) = ((-5) : Int32).toInt from by have := jk_m5; omega)) (congrArg Prod.snd D).symm
    ·
      rw [if_neg (by omega)] at D
      refine x_aloadn (x := 31) rfl rfl ?_
      refine z_getR (N := 13) (b := 87) 11 5 rfl f_11_50 rfl J rfl 3973 ⟨rfl, rfl⟩ rfl ?_
      refine x_iloadn (x := l3) rfl rfl ?_
      refine x_inv (N := m_X3_isNews) (As := [.int l3]) (b := 87) (st := []) (dx9 := 13) (mc := 0) (ms := 0) (host := "") 3 rfl t_X3_isNews ⟨Or.inl q_11_300, i_X3_isNews.1, i_X3_isNews.2⟩ ⟨by decide, rfl⟩ (congrArg Prod.fst (J.1.1 87 (3, 14) rfl)) rfl (by decide) rfl rfl ⟨by decide, by decide⟩ (jC.of rfl k_X3_isNews rfl ?_)
      show jX m_X3_isNews 13 0 0 0 [(0, .ref 87), (1, .int l3)] [] _ 0 0 _
      refine x_aloadn (x := 87) rfl rfl ?_
      refine x_iloadn (x := l3) rfl rfl ?_
      refine x_inv (N := m_X3_aheadOf) (As := [.int l3]) (b := 87) (st := []) (dx9 := 2) (mc := 0) (ms := 0) (host := "") 3 rfl t_X3_aheadOf ⟨Or.inl q_3_61, i_X3_aheadOf.1, i_X3_aheadOf.2⟩ ⟨by decide, rfl⟩ (congrArg Prod.fst (J.1.1 87 (3, 14) rfl)) rfl (by decide) rfl rfl ⟨by decide, by decide⟩ (sf_X3_aheadOf_r87d (jr_of rfl (by omega)) hD J rfl  (fun v10 h ev10 J S7 X8 X9 => ?_))
      have Sm := jSm_tr rfl Sm S7
      try rw [X8] at D
      try rw [← X9] at D
      show jX m_X3_isNews 13 0 0 5 [(0, .ref 87), (1, .int l3)] [.int v10] _ 0 0 _
      refine x_istoren (lsx9 := [(2, .int v10), (0, .ref 87), (1, .int l3)]) rfl rfl rfl ?_
      refine x_iloadn (x := v10) rfl rfl ?_
      refine x_iconst (v := (-1)) rfl ki_m1 ?_
      refine x_iceq (tgt := 42) rfl rfl (ti_eq rfl jk_m1 ⟨fun c11 => ?_, fun c11 => ?_⟩)
      ·
        rw [if_pos (by omega)] at D
        refine x_iconst (v := 0) rfl ki_0 ?_
        refine x_zret rfl rfl (by decide) ?_
        show jX m_X11_join 14 0 0 52 [(0, .ref 31), (1, .int l1), (2, .int l2), (3, .int l3)] [.int 0] _ 0 0 _
        refine x_ifeq (tgt := 58) rfl rfl (ti_eq jk_0 jk_0 (br_t (by omega) ?_))
        exact jX.sub (jsb_c rfl (jsb_c rfl (jsb_c rfl (jsb_c rfl jsb_n)))) (ct_X11_join_r31d_58 hD hQ ih l1 l2 l3 h (jr_of rfl (by omega)) (jr_of rfl (by omega)) (by omega) J Sm D)
      ·
        rw [if_neg (by omega)] at D
        refine x_aloadn (x := 87) rfl rfl ?_
        refine z_getR (N := 14) (b := 78) 3 1 rfl f_3_53 rfl J rfl 11137 ⟨rfl, rfl⟩ rfl ?_
        refine x_aloadn (x := 87) rfl rfl ?_
        refine x_iloadn (x := v10) rfl rfl ?_
        refine x_inv (N := m_X3_mentionAt) (As := [.int v10]) (b := 87) (st := [.ref 78]) (dx9 := 12) (mc := 0) (ms := 0) (host := "") 3 rfl t_X3_mentionAt ⟨Or.inl q_3_64, i_X3_mentionAt.1, i_X3_mentionAt.2⟩ ⟨by decide, rfl⟩ (congrArg Prod.fst (J.1.1 87 (3, 14) rfl)) rfl (by decide) rfl rfl ⟨by decide, by decide⟩ (jC.of rfl k_X3_mentionAt rfl ?_)
        show jX m_X3_mentionAt 12 0 0 0 [(0, .ref 87), (1, .int v10)] [] _ 0 0 _
        refine x_iloadn (x := v10) rfl rfl ?_
        refine x_iflt (tgt := 21) rfl rfl (ti_lt rfl jk_0 (br_f (by omega) ?_))
        refine x_iloadn (x := v10) rfl rfl ?_
        refine x_aloadn (x := 87) rfl rfl ?_
        refine z_getM (N := 14) (v := v1) 3 3 rfl f_3_15 rfl J rfl (jmc S7 rfl qv1) ?_
        refine x_icge (tgt := 21) rfl rfl (ti_ge rfl rfl ⟨fun c12 => ?_, fun c12 => ?_⟩)
        ·
          rw [if_pos (by omega)] at D
          refine x_iconst (v := (-1)) rfl ki_m1 ?_
          refine x_iret rfl rfl ?_
          show jX m_X3_isNews 13 0 0 20 [(2, .int v10), (0, .ref 87), (1, .int l3)] [.int (-1), .ref 78] _ 0 0 _
          refine x_inv (N := m_X7_soulAt) (As := [.int (-1)]) (b := 78) (st := []) (dx9 := 12) (mc := 0) (ms := 0) (host := "") 7 rfl t_X7_soulAt ⟨Or.inl q_3_67, i_X7_soulAt.1, i_X7_soulAt.2⟩ ⟨by decide, rfl⟩ (congrArg Prod.fst (J.1.1 78 (7, 16) rfl)) rfl (by decide) rfl rfl ⟨by decide, by decide⟩ (jC.of rfl k_X7_soulAt rfl ?_)
          show jX m_X7_soulAt 12 0 0 0 [(0, .ref 78), (1, .int (-1))] [] _ 0 0 _
          refine x_iloadn (x := (-1)) rfl rfl ?_
          refine x_iflt (tgt := 36) rfl rfl (ti_lt jk_m1 jk_0 (br_t (by omega) ?_))
          refine x_iconst (v := (-1)) rfl ki_m1 ?_
          refine x_iret rfl rfl ?_
          show jX m_X3_isNews 13 0 0 23 [(2, .int v10), (0, .ref 87), (1, .int l3)] [.int (-1)] _ 0 0 _
          refine x_aloadn (x := 87) rfl rfl ?_
          refine z_getR (N := 14) (b := 78) 3 1 rfl f_3_53 rfl J rfl 11137 ⟨rfl, rfl⟩ rfl ?_
          refine x_aloadn (x := 87) rfl rfl ?_
          refine x_iloadn (x := l3) rfl rfl ?_
          refine x_inv (N := m_X3_mentionAt) (As := [.int l3]) (b := 87) (st := [.ref 78, .int (-1)]) (dx9 := 12) (mc := 0) (ms := 0) (host := "") 3 rfl t_X3_mentionAt ⟨Or.inl q_3_64, i_X3_mentionAt.1, i_X3_mentionAt.2⟩ ⟨by decide, rfl⟩ (congrArg Prod.fst (J.1.1 87 (3, 14) rfl)) rfl (by decide) rfl rfl ⟨by decide, by decide⟩ (jC.of rfl k_X3_mentionAt rfl ?_)
          show jX m_X3_mentionAt 12 0 0 0 [(0, .ref 87), (1, .int l3)] [] _ 0 0 _
          refine x_iloadn (x := l3) rfl rfl ?_
          refine x_iflt (tgt := 21) rfl rfl (ti_lt rfl jk_0 (br_f (by omega) ?_))
          refine x_iloadn (x := l3) rfl rfl ?_
          refine x_aloadn (x := 87) rfl rfl ?_
          refine z_getM (N := 14) (v := v1) 3 3 rfl f_3_15 rfl J rfl (jmc S7 rfl qv1) ?_
          refine x_icge (tgt := 21) rfl rfl (ti_ge rfl rfl ⟨fun c13 => ?_, fun c13 => ?_⟩)
          ·
            rw [if_pos (by omega)] at D
            refine x_iconst (v := (-1)) rfl ki_m1 ?_
            refine x_iret rfl rfl ?_
            show jX m_X3_isNews 13 0 0 32 [(2, .int v10), (0, .ref 87), (1, .int l3)] [.int (-1), .ref 78, .int (-1)] _ 0 0 _
            refine x_inv (N := m_X7_soulAt) (As := [.int (-1)]) (b := 78) (st := [.int (-1)]) (dx9 := 12) (mc := 0) (ms := 0) (host := "") 7 rfl t_X7_soulAt ⟨Or.inl q_3_67, i_X7_soulAt.1, i_X7_soulAt.2⟩ ⟨by decide, rfl⟩ (congrArg Prod.fst (J.1.1 78 (7, 16) rfl)) rfl (by decide) rfl rfl ⟨by decide, by decide⟩ (jC.of rfl k_X7_soulAt rfl ?_)
            show jX m_X7_soulAt 12 0 0 0 [(0, .ref 78), (1, .int (-1))] [] _ 0 0 _
            refine x_iloadn (x := (-1)) rfl rfl ?_
            refine x_iflt (tgt := 36) rfl rfl (ti_lt jk_m1 jk_0 (br_t (by omega) ?_))
            refine x_iconst (v := (-1)) rfl ki_m1 ?_
            refine x_iret rfl rfl ?_
            show jX m_X3_isNews 13 0 0 35 [(2, .int v10), (0, .ref 87), (1, .int l3)] [.int (-1), .int (-1)] _ 0 0 _
            refine x_iceq (tgt := 42) rfl rfl (ti_eq jk_m1 jk_m1 (br_t (by omega) ?_))
            refine x_iconst (v := 0) rfl ki_0 ?_
            refine x_zret rfl rfl (by decide) ?_
            show jX m_X11_join 14 0 0 52 [(0, .ref 31), (1, .int l1), (2, .int l2), (3, .int l3)] [.int 0] _ 0 0 _
            refine x_ifeq (tgt := 58) rfl rfl (ti_eq jk_0 jk_0 (br_t (by omega) ?_))
            exact jX.sub (jsb_c rfl (jsb_c rfl (jsb_c rfl (jsb_c rfl jsb_n)))) (ct_X11_join_r31d_58 hD hQ ih l1 l2 l3 h (jr_of rfl (by omega)) (jr_of rfl (by omega)) (by omega) J Sm D)
          ·
            rw [if_neg (by omega)] at D
            refine x_aloadn (x := 87) rfl rfl ?_
            refine z_getR (N := 14) (b := 88) 3 2 rfl f_3_9 rfl J rfl 11138 ⟨rfl, rfl⟩ rfl ?_
            refine x_iloadn (x := l3) rfl rfl ?_
            refine z_iald (N := 9) rfl J rfl sg_88_0_9_1_0_1 rfl (by omega) (fun v14 qv14 ev14 => ?_)
            try rw [vrd qv14 (show l3.toInt = l3.toInt from by omega)] at D
            refine x_goto (tgt := 22) rfl rfl ?_
            refine x_iret rfl rfl ?_
            show jX m_X3_isNews 13 0 0 32 [(2, .int v10), (0, .ref 87), (1, .int l3)] [.int v14, .ref 78, .int (-1)] _ 0 0 _
            refine x_inv (N := m_X7_soulAt) (As := [.int v14]) (b := 78) (st := [.int (-1)]) (dx9 := 12) (mc := 0) (ms := 0) (host := "") 7 rfl t_X7_soulAt ⟨Or.inl q_3_67, i_X7_soulAt.1, i_X7_soulAt.2⟩ ⟨by decide, rfl⟩ (congrArg Prod.fst (J.1.1 78 (7, 16) rfl)) rfl (by decide) rfl rfl ⟨by decide, by decide⟩ (jC.of rfl k_X7_soulAt rfl ?_)
            show jX m_X7_soulAt 12 0 0 0 [(0, .ref 78), (1, .int v14)] [] _ 0 0 _
            refine x_iloadn (x := v14) rfl rfl ?_
            refine x_iflt (tgt := 36) rfl rfl (ti_lt rfl jk_0 (br_f (by omega) ?_))
            refine x_iloadn (x := v14) rfl rfl ?_
            refine x_sipush (v := 600) rfl ks_600 ?_
            refine x_icge (tgt := 36) rfl rfl (ti_ge rfl jk_600 (br_f (by omega) ?_))
            refine x_iloadn (x := v14) rfl rfl ?_
            refine x_iconst (v := 3) rfl ki_3 ?_
            refine z_idiv rfl rfl jk_3 (by omega) (by omega) (fun v15 ev15 => ?_)
            refine x_aloadn (x := 78) rfl rfl ?_
            refine z_getR (N := 16) (b := 32) 7 0 rfl f_7_55 rfl J rfl 9984 ⟨rfl, rfl⟩ rfl ?_
            refine z_getR (N := 20) (b := 33) 1 0 rfl f_7_63 rfl J rfl 4096 ⟨rfl, rfl⟩ rfl ?_
            refine z_getI (N := 4) 8 3 rfl f_7_85 rfl J rfl sg_33_3_4_1_0_1 (fun v16 qv16 ev16 => ?_)
            try rw [vrf qv16] at D
            refine x_icge (tgt := 36) rfl rfl (ti_ge rfl rfl ⟨fun c17 => ?_, fun c17 => ?_⟩)
            ·
              rw [if_pos (by omega)] at D
              refine x_iconst (v := (-1)) rfl ki_m1 ?_
              refine x_iret rfl rfl ?_
              show jX m_X3_isNews 13 0 0 35 [(2, .int v10), (0, .ref 87), (1, .int l3)] [.int (-1), .int (-1)] _ 0 0 _
              refine x_iceq (tgt := 42) rfl rfl (ti_eq jk_m1 jk_m1 (br_t (by omega) ?_))
              refine x_iconst (v := 0) rfl ki_0 ?_
              refine x_zret rfl rfl (by decide) ?_
              show jX m_X11_join 14 0 0 52 [(0, .ref 31), (1, .int l1), (2, .int l2), (3, .int l3)] [.int 0] _ 0 0 _
              refine x_ifeq (tgt := 58) rfl rfl (ti_eq jk_0 jk_0 (br_t (by omega) ?_))
              exact jX.sub (jsb_c rfl (jsb_c rfl (jsb_c rfl (jsb_c rfl jsb_n)))) (ct_X11_join_r31d_58 hD hQ ih l1 l2 l3 h (jr_of rfl (by omega)) (jr_of rfl (by omega)) (by omega) J Sm D)
            ·
              rw [if_neg (by omega)] at D
              refine x_aloadn (x := 78) rfl rfl ?_
              refine z_getR (N := 16) (b := 82) 7 10 rfl f_7_37 rfl J rfl 9994 ⟨rfl, rfl⟩ rfl ?_
              refine x_iloadn (x := v14) rfl rfl ?_
              refine z_iald (N := 600) rfl J rfl sg_82_0_600_1_0_1 rfl (by omega) (fun v18 qv18 ev18 => ?_)
              try rw [vrd qv18 (show v14.toInt = v14.toInt from by omega)] at D
              refine x_goto (tgt := 37) rfl rfl ?_
              refine x_iret rfl rfl ?_
              show jX m_X3_isNews 13 0 0 35 [(2, .int v10), (0, .ref 87), (1, .int l3)] [.int v18, .int (-1)] _ 0 0 _
              refine x_iceq (tgt := 42) rfl rfl (ti_eq jk_m1 rfl ⟨fun c19 => ?_, fun c19 => ?_⟩)
              ·
                rw [if_pos (by omega)] at D
                refine x_iconst (v := 0) rfl ki_0 ?_
                refine x_zret rfl rfl (by decide) ?_
                show jX m_X11_join 14 0 0 52 [(0, .ref 31), (1, .int l1), (2, .int l2), (3, .int l3)] [.int 0] _ 0 0 _
                refine x_ifeq (tgt := 58) rfl rfl (ti_eq jk_0 jk_0 (br_t (by omega) ?_))
                exact jX.sub (jsb_c rfl (jsb_c rfl (jsb_c rfl (jsb_c rfl jsb_n)))) (ct_X11_join_r31d_58 hD hQ ih l1 l2 l3 h (jr_of rfl (by omega)) (jr_of rfl (by omega)) (by omega) J Sm D)
              ·
                rw [if_neg (by omega)] at D
                refine x_iconst (v := 1) rfl ki_1 ?_
                refine x_goto (tgt := 43) rfl rfl ?_
                refine x_zret rfl rfl (by decide) ?_
                show jX m_X11_join 14 0 0 52 [(0, .ref 31), (1, .int l1), (2, .int l2), (3, .int l3)] [.int 1] _ 0 0 _
                refine x_ifeq (tgt := 58) rfl rfl (ti_eq jk_1 jk_0 (br_f (by omega) ?_))
                refine z_iincW (x := l2) (lsx9 := fun v20 => [(2, .int v20), (0, .ref 31), (1, .int l1), (3, .int l3)]) rfl rfl rfl jko_1 rfl (fun _ => rfl) (fun v20 ev20 => ?_)
                have fv20 := jfull v20
                try rw [← ev20] at D
                exact jX.sub (jsb_c rfl (jsb_c rfl (jsb_c rfl (jsb_c rfl jsb_n)))) (ct_X11_join_r31d_58 hD hQ ih l1 v20 l3 h (jr_of rfl (by omega)) (jr_of rfl (by omega)) (by omega) J Sm D)
        ·
          rw [if_neg (by omega)] at D
          refine x_aloadn (x := 87) rfl rfl ?_
          refine z_getR (N := 14) (b := 88) 3 2 rfl f_3_9 rfl J rfl 11138 ⟨rfl, rfl⟩ rfl ?_
          refine x_iloadn (x := v10) rfl rfl ?_
          refine z_iald (N := 9) rfl J rfl sg_88_0_9_1_0_1 rfl (by omega) (fun v21 qv21 ev21 => ?_)
          try rw [vrd qv21 (show v10.toInt = v10.toInt from by omega)] at D
          refine x_goto (tgt := 22) rfl rfl ?_
          refine x_iret rfl rfl ?_
          show jX m_X3_isNews 13 0 0 20 [(2, .int v10), (0, .ref 87), (1, .int l3)] [.int v21, .ref 78] _ 0 0 _
          refine x_inv (N := m_X7_soulAt) (As := [.int v21]) (b := 78) (st := []) (dx9 := 12) (mc := 0) (ms := 0) (host := "") 7 rfl t_X7_soulAt ⟨Or.inl q_3_67, i_X7_soulAt.1, i_X7_soulAt.2⟩ ⟨by decide, rfl⟩ (congrArg Prod.fst (J.1.1 78 (7, 16) rfl)) rfl (by decide) rfl rfl ⟨by decide, by decide⟩ (jC.of rfl k_X7_soulAt rfl ?_)
          show jX m_X7_soulAt 12 0 0 0 [(0, .ref 78), (1, .int v21)] [] _ 0 0 _
          refine x_iloadn (x := v21) rfl rfl ?_
          refine x_iflt (tgt := 36) rfl rfl (ti_lt rfl jk_0 (br_f (by omega) ?_))
          refine x_iloadn (x := v21) rfl rfl ?_
          refine x_sipush (v := 600) rfl ks_600 ?_
          refine x_icge (tgt := 36) rfl rfl (ti_ge rfl jk_600 (br_f (by omega) ?_))
          refine x_iloadn (x := v21) rfl rfl ?_
          refine x_iconst (v := 3) rfl ki_3 ?_
          refine z_idiv rfl rfl jk_3 (by omega) (by omega) (fun v22 ev22 => ?_)
          refine x_aloadn (x := 78) rfl rfl ?_
          refine z_getR (N := 16) (b := 32) 7 0 rfl f_7_55 rfl J rfl 9984 ⟨rfl, rfl⟩ rfl ?_
          refine z_getR (N := 20) (b := 33) 1 0 rfl f_7_63 rfl J rfl 4096 ⟨rfl, rfl⟩ rfl ?_
          refine z_getI (N := 4) 8 3 rfl f_7_85 rfl J rfl sg_33_3_4_1_0_1 (fun v23 qv23 ev23 => ?_)
          try rw [vrf qv23] at D
          refine x_icge (tgt := 36) rfl rfl (ti_ge rfl rfl ⟨fun c24 => ?_, fun c24 => ?_⟩)
          ·
            rw [if_pos (by omega)] at D
            refine x_iconst (v := (-1)) rfl ki_m1 ?_
            refine x_iret rfl rfl ?_
            show jX m_X3_isNews 13 0 0 23 [(2, .int v10), (0, .ref 87), (1, .int l3)] [.int (-1)] _ 0 0 _
            refine x_aloadn (x := 87) rfl rfl ?_
            refine z_getR (N := 14) (b := 78) 3 1 rfl f_3_53 rfl J rfl 11137 ⟨rfl, rfl⟩ rfl ?_
            refine x_aloadn (x := 87) rfl rfl ?_
            refine x_iloadn (x := l3) rfl rfl ?_
            refine x_inv (N := m_X3_mentionAt) (As := [.int l3]) (b := 87) (st := [.ref 78, .int (-1)]) (dx9 := 12) (mc := 0) (ms := 0) (host := "") 3 rfl t_X3_mentionAt ⟨Or.inl q_3_64, i_X3_mentionAt.1, i_X3_mentionAt.2⟩ ⟨by decide, rfl⟩ (congrArg Prod.fst (J.1.1 87 (3, 14) rfl)) rfl (by decide) rfl rfl ⟨by decide, by decide⟩ (jC.of rfl k_X3_mentionAt rfl ?_)
            show jX m_X3_mentionAt 12 0 0 0 [(0, .ref 87), (1, .int l3)] [] _ 0 0 _
            refine x_iloadn (x := l3) rfl rfl ?_
            refine x_iflt (tgt := 21) rfl rfl (ti_lt rfl jk_0 (br_f (by omega) ?_))
            refine x_iloadn (x := l3) rfl rfl ?_
            refine x_aloadn (x := 87) rfl rfl ?_
            refine z_getM (N := 14) (v := v1) 3 3 rfl f_3_15 rfl J rfl (jmc S7 rfl qv1) ?_
            refine x_icge (tgt := 21) rfl rfl (ti_ge rfl rfl ⟨fun c25 => ?_, fun c25 => ?_⟩)
            ·
              rw [if_pos (by omega)] at D
              refine x_iconst (v := (-1)) rfl ki_m1 ?_
              refine x_iret rfl rfl ?_
              show jX m_X3_isNews 13 0 0 32 [(2, .int v10), (0, .ref 87), (1, .int l3)] [.int (-1), .ref 78, .int (-1)] _ 0 0 _
              refine x_inv (N := m_X7_soulAt) (As := [.int (-1)]) (b := 78) (st := [.int (-1)]) (dx9 := 12) (mc := 0) (ms := 0) (host := "") 7 rfl t_X7_soulAt ⟨Or.inl q_3_67, i_X7_soulAt.1, i_X7_soulAt.2⟩ ⟨by decide, rfl⟩ (congrArg Prod.fst (J.1.1 78 (7, 16) rfl)) rfl (by decide) rfl rfl ⟨by decide, by decide⟩ (jC.of rfl k_X7_soulAt rfl ?_)
              show jX m_X7_soulAt 12 0 0 0 [(0, .ref 78), (1, .int (-1))] [] _ 0 0 _
              refine x_iloadn (x := (-1)) rfl rfl ?_
              refine x_iflt (tgt := 36) rfl rfl (ti_lt jk_m1 jk_0 (br_t (by omega) ?_))
              refine x_iconst (v := (-1)) rfl ki_m1 ?_
              refine x_iret rfl rfl ?_
              show jX m_X3_isNews 13 0 0 35 [(2, .int v10), (0, .ref 87), (1, .int l3)] [.int (-1), .int (-1)] _ 0 0 _
              refine x_iceq (tgt := 42) rfl rfl (ti_eq jk_m1 jk_m1 (br_t (by omega) ?_))
              refine x_iconst (v := 0) rfl ki_0 ?_
              refine x_zret rfl rfl (by decide) ?_
              show jX m_X11_join 14 0 0 52 [(0, .ref 31), (1, .int l1), (2, .int l2), (3, .int l3)] [.int 0] _ 0 0 _
              refine x_ifeq (tgt := 58) rfl rfl (ti_eq jk_0 jk_0 (br_t (by omega) ?_))
              exact jX.sub (jsb_c rfl (jsb_c rfl (jsb_c rfl (jsb_c rfl jsb_n)))) (ct_X11_join_r31d_58 hD hQ ih l1 l2 l3 h (jr_of rfl (by omega)) (jr_of rfl (by omega)) (by omega) J Sm D)
            ·
              rw [if_neg (by omega)] at D
              refine x_aloadn (x := 87) rfl rfl ?_
              refine z_getR (N := 14) (b := 88) 3 2 rfl f_3_9 rfl J rfl 11138 ⟨rfl, rfl⟩ rfl ?_
              refine x_iloadn (x := l3) rfl rfl ?_
              refine z_iald (N := 9) rfl J rfl sg_88_0_9_1_0_1 rfl (by omega) (fun v26 qv26 ev26 => ?_)
              try rw [vrd qv26 (show l3.toInt = l3.toInt from by omega)] at D
              refine x_goto (tgt := 22) rfl rfl ?_
              refine x_iret rfl rfl ?_
              show jX m_X3_isNews 13 0 0 32 [(2, .int v10), (0, .ref 87), (1, .int l3)] [.int v26, .ref 78, .int (-1)] _ 0 0 _
              refine x_inv (N := m_X7_soulAt) (As := [.int v26]) (b := 78) (st := [.int (-1)]) (dx9 := 12) (mc := 0) (ms := 0) (host := "") 7 rfl t_X7_soulAt ⟨Or.inl q_3_67, i_X7_soulAt.1, i_X7_soulAt.2⟩ ⟨by decide, rfl⟩ (congrArg Prod.fst (J.1.1 78 (7, 16) rfl)) rfl (by decide) rfl rfl ⟨by decide, by decide⟩ (jC.of rfl k_X7_soulAt rfl ?_)
              show jX m_X7_soulAt 12 0 0 0 [(0, .ref 78), (1, .int v26)] [] _ 0 0 _
              refine x_iloadn (x := v26) rfl rfl ?_
              refine x_iflt (tgt := 36) rfl rfl (ti_lt rfl jk_0 (br_f (by omega) ?_))
              refine x_iloadn (x := v26) rfl rfl ?_
              refine x_sipush (v := 600) rfl ks_600 ?_
              refine x_icge (tgt := 36) rfl rfl (ti_ge rfl jk_600 (br_f (by omega) ?_))
              refine x_iloadn (x := v26) rfl rfl ?_
              refine x_iconst (v := 3) rfl ki_3 ?_
              refine z_idiv rfl rfl jk_3 (by omega) (by omega) (fun v27 ev27 => ?_)
              refine x_aloadn (x := 78) rfl rfl ?_
              refine z_getR (N := 16) (b := 32) 7 0 rfl f_7_55 rfl J rfl 9984 ⟨rfl, rfl⟩ rfl ?_
              refine z_getR (N := 20) (b := 33) 1 0 rfl f_7_63 rfl J rfl 4096 ⟨rfl, rfl⟩ rfl ?_
              refine z_getM (N := 4) (v := v23) 8 3 rfl f_7_85 rfl J rfl qv23 ?_
              refine x_icge (tgt := 36) rfl rfl (ti_ge rfl rfl ⟨fun c28 => ?_, fun c28 => ?_⟩)
              ·
                rw [if_pos (by omega)] at D
                refine x_iconst (v := (-1)) rfl ki_m1 ?_
                refine x_iret rfl rfl ?_
                show jX m_X3_isNews 13 0 0 35 [(2, .int v10), (0, .ref 87), (1, .int l3)] [.int (-1), .int (-1)] _ 0 0 _
                refine x_iceq (tgt := 42) rfl rfl (ti_eq jk_m1 jk_m1 (br_t (by omega) ?_))
                refine x_iconst (v := 0) rfl ki_0 ?_
                refine x_zret rfl rfl (by decide) ?_
                show jX m_X11_join 14 0 0 52 [(0, .ref 31), (1, .int l1), (2, .int l2), (3, .int l3)] [.int 0] _ 0 0 _
                refine x_ifeq (tgt := 58) rfl rfl (ti_eq jk_0 jk_0 (br_t (by omega) ?_))
                exact jX.sub (jsb_c rfl (jsb_c rfl (jsb_c rfl (jsb_c rfl jsb_n)))) (ct_X11_join_r31d_58 hD hQ ih l1 l2 l3 h (jr_of rfl (by omega)) (jr_of rfl (by omega)) (by omega) J Sm D)
              ·
                rw [if_neg (by omega)] at D
                refine x_aloadn (x := 78) rfl rfl ?_
                refine z_getR (N := 16) (b := 82) 7 10 rfl f_7_37 rfl J rfl 9994 ⟨rfl, rfl⟩ rfl ?_
                refine x_iloadn (x := v26) rfl rfl ?_
                refine z_iald (N := 600) rfl J rfl sg_82_0_600_1_0_1 rfl (by omega) (fun v29 qv29 ev29 => ?_)
                try rw [vrd qv29 (show v26.toInt = v26.toInt from by omega)] at D
                refine x_goto (tgt := 37) rfl rfl ?_
                refine x_iret rfl rfl ?_
                show jX m_X3_isNews 13 0 0 35 [(2, .int v10), (0, .ref 87), (1, .int l3)] [.int v29, .int (-1)] _ 0 0 _
                refine x_iceq (tgt := 42) rfl rfl (ti_eq jk_m1 rfl ⟨fun c30 => ?_, fun c30 => ?_⟩)
                ·
                  rw [if_pos (by omega)] at D
                  refine x_iconst (v := 0) rfl ki_0 ?_
                  refine x_zret rfl rfl (by decide) ?_
                  show jX m_X11_join 14 0 0 52 [(0, .ref 31), (1, .int l1), (2, .int l2), (3, .int l3)] [.int 0] _ 0 0 _
                  refine x_ifeq (tgt := 58) rfl rfl (ti_eq jk_0 jk_0 (br_t (by omega) ?_))
                  exact jX.sub (jsb_c rfl (jsb_c rfl (jsb_c rfl (jsb_c rfl jsb_n)))) (ct_X11_join_r31d_58 hD hQ ih l1 l2 l3 h (jr_of rfl (by omega)) (jr_of rfl (by omega)) (by omega) J Sm D)
                ·
                  rw [if_neg (by omega)] at D
                  refine x_iconst (v := 1) rfl ki_1 ?_
                  refine x_goto (tgt := 43) rfl rfl ?_
                  refine x_zret rfl rfl (by decide) ?_
                  show jX m_X11_join 14 0 0 52 [(0, .ref 31), (1, .int l1), (2, .int l2), (3, .int l3)] [.int 1] _ 0 0 _
                  refine x_ifeq (tgt := 58) rfl rfl (ti_eq jk_1 jk_0 (br_f (by omega) ?_))
                  refine z_iincW (x := l2) (lsx9 := fun v31 => [(2, .int v31), (0, .ref 31), (1, .int l1), (3, .int l3)]) rfl rfl rfl jko_1 rfl (fun _ => rfl) (fun v31 ev31 => ?_)
                  have fv31 := jfull v31
                  try rw [← ev31] at D
                  exact jX.sub (jsb_c rfl (jsb_c rfl (jsb_c rfl (jsb_c rfl jsb_n)))) (ct_X11_join_r31d_58 hD hQ ih l1 v31 l3 h (jr_of rfl (by omega)) (jr_of rfl (by omega)) (by omega) J Sm D)
          ·
            rw [if_neg (by omega)] at D
            refine x_aloadn (x := 78) rfl rfl ?_
            refine z_getR (N := 16) (b := 82) 7 10 rfl f_7_37 rfl J rfl 9994 ⟨rfl, rfl⟩ rfl ?_
            refine x_iloadn (x := v21) rfl rfl ?_
            refine z_iald (N := 600) rfl J rfl sg_82_0_600_1_0_1 rfl (by omega) (fun v32 qv32 ev32 => ?_)
            try rw [vrd qv32 (show v21.toInt = v21.toInt from by omega)] at D
            refine x_goto (tgt := 37) rfl rfl ?_
            refine x_iret rfl rfl ?_
            show jX m_X3_isNews 13 0 0 23 [(2, .int v10), (0, .ref 87), (1, .int l3)] [.int v32] _ 0 0 _
            refine x_aloadn (x := 87) rfl rfl ?_
            refine z_getR (N := 14) (b := 78) 3 1 rfl f_3_53 rfl J rfl 11137 ⟨rfl, rfl⟩ rfl ?_
            refine x_aloadn (x := 87) rfl rfl ?_
            refine x_iloadn (x := l3) rfl rfl ?_
            refine x_inv (N := m_X3_mentionAt) (As := [.int l3]) (b := 87) (st := [.ref 78, .int v32]) (dx9 := 12) (mc := 0) (ms := 0) (host := "") 3 rfl t_X3_mentionAt ⟨Or.inl q_3_64, i_X3_mentionAt.1, i_X3_mentionAt.2⟩ ⟨by decide, rfl⟩ (congrArg Prod.fst (J.1.1 87 (3, 14) rfl)) rfl (by decide) rfl rfl ⟨by decide, by decide⟩ (jC.of rfl k_X3_mentionAt rfl ?_)
            show jX m_X3_mentionAt 12 0 0 0 [(0, .ref 87), (1, .int l3)] [] _ 0 0 _
            refine x_iloadn (x := l3) rfl rfl ?_
            refine x_iflt (tgt := 21) rfl rfl (ti_lt rfl jk_0 (br_f (by omega) ?_))
            refine x_iloadn (x := l3) rfl rfl ?_
            refine x_aloadn (x := 87) rfl rfl ?_
            refine z_getM (N := 14) (v := v1) 3 3 rfl f_3_15 rfl J rfl (jmc S7 rfl qv1) ?_
            refine x_icge (tgt := 21) rfl rfl (ti_ge rfl rfl ⟨fun c33 => ?_, fun c33 => ?_⟩)
            ·
              rw [if_pos (by omega)] at D
              refine x_iconst (v := (-1)) rfl ki_m1 ?_
              refine x_iret rfl rfl ?_
              show jX m_X3_isNews 13 0 0 32 [(2, .int v10), (0, .ref 87), (1, .int l3)] [.int (-1), .ref 78, .int v32] _ 0 0 _
              refine x_inv (N := m_X7_soulAt) (As := [.int (-1)]) (b := 78) (st := [.int v32]) (dx9 := 12) (mc := 0) (ms := 0) (host := "") 7 rfl t_X7_soulAt ⟨Or.inl q_3_67, i_X7_soulAt.1, i_X7_soulAt.2⟩ ⟨by decide, rfl⟩ (congrArg Prod.fst (J.1.1 78 (7, 16) rfl)) rfl (by decide) rfl rfl ⟨by decide, by decide⟩ (jC.of rfl k_X7_soulAt rfl ?_)
              show jX m_X7_soulAt 12 0 0 0 [(0, .ref 78), (1, .int (-1))] [] _ 0 0 _
              refine x_iloadn (x := (-1)) rfl rfl ?_
              refine x_iflt (tgt := 36) rfl rfl (ti_lt jk_m1 jk_0 (br_t (by omega) ?_))
              refine x_iconst (v := (-1)) rfl ki_m1 ?_
              refine x_iret rfl rfl ?_
              show jX m_X3_isNews 13 0 0 35 [(2, .int v10), (0, .ref 87), (1, .int l3)] [.int (-1), .int v32] _ 0 0 _
              refine x_iceq (tgt := 42) rfl rfl (ti_eq rfl jk_m1 ⟨fun c34 => ?_, fun c34 => ?_⟩)
              ·
                rw [if_pos (by omega)] at D
                refine x_iconst (v := 0) rfl ki_0 ?_
                refine x_zret rfl rfl (by decide) ?_
                show jX m_X11_join 14 0 0 52 [(0, .ref 31), (1, .int l1), (2, .int l2), (3, .int l3)] [.int 0] _ 0 0 _
                refine x_ifeq (tgt := 58) rfl rfl (ti_eq jk_0 jk_0 (br_t (by omega) ?_))
                exact jX.sub (jsb_c rfl (jsb_c rfl (jsb_c rfl (jsb_c rfl jsb_n)))) (ct_X11_join_r31d_58 hD hQ ih l1 l2 l3 h (jr_of rfl (by omega)) (jr_of rfl (by omega)) (by omega) J Sm D)
              ·
                rw [if_neg (by omega)] at D
                refine x_iconst (v := 1) rfl ki_1 ?_
                refine x_goto (tgt := 43) rfl rfl ?_
                refine x_zret rfl rfl (by decide) ?_
                show jX m_X11_join 14 0 0 52 [(0, .ref 31), (1, .int l1), (2, .int l2), (3, .int l3)] [.int 1] _ 0 0 _
                refine x_ifeq (tgt := 58) rfl rfl (ti_eq jk_1 jk_0 (br_f (by omega) ?_))
                refine z_iincW (x := l2) (lsx9 := fun v35 => [(2, .int v35), (0, .ref 31), (1, .int l1), (3, .int l3)]) rfl rfl rfl jko_1 rfl (fun _ => rfl) (fun v35 ev35 => ?_)
                have fv35 := jfull v35
                try rw [← ev35] at D
                exact jX.sub (jsb_c rfl (jsb_c rfl (jsb_c rfl (jsb_c rfl jsb_n)))) (ct_X11_join_r31d_58 hD hQ ih l1 v35 l3 h (jr_of rfl (by omega)) (jr_of rfl (by omega)) (by omega) J Sm D)
            ·
              rw [if_neg (by omega)] at D
              refine x_aloadn (x := 87) rfl rfl ?_
              refine z_getR (N := 14) (b := 88) 3 2 rfl f_3_9 rfl J rfl 11138 ⟨rfl, rfl⟩ rfl ?_
              refine x_iloadn (x := l3) rfl rfl ?_
              refine z_iald (N := 9) rfl J rfl sg_88_0_9_1_0_1 rfl (by omega) (fun v36 qv36 ev36 => ?_)
              try rw [vrd qv36 (show l3.toInt = l3.toInt from by omega)] at D
              refine x_goto (tgt := 22) rfl rfl ?_
              refine x_iret rfl rfl ?_
              show jX m_X3_isNews 13 0 0 32 [(2, .int v10), (0, .ref 87), (1, .int l3)] [.int v36, .ref 78, .int v32] _ 0 0 _
              refine x_inv (N := m_X7_soulAt) (As := [.int v36]) (b := 78) (st := [.int v32]) (dx9 := 12) (mc := 0) (ms := 0) (host := "") 7 rfl t_X7_soulAt ⟨Or.inl q_3_67, i_X7_soulAt.1, i_X7_soulAt.2⟩ ⟨by decide, rfl⟩ (congrArg Prod.fst (J.1.1 78 (7, 16) rfl)) rfl (by decide) rfl rfl ⟨by decide, by decide⟩ (jC.of rfl k_X7_soulAt rfl ?_)
              show jX m_X7_soulAt 12 0 0 0 [(0, .ref 78), (1, .int v36)] [] _ 0 0 _
              refine x_iloadn (x := v36) rfl rfl ?_
              refine x_iflt (tgt := 36) rfl rfl (ti_lt rfl jk_0 (br_f (by omega) ?_))
              refine x_iloadn (x := v36) rfl rfl ?_
              refine x_sipush (v := 600) rfl ks_600 ?_
              refine x_icge (tgt := 36) rfl rfl (ti_ge rfl jk_600 (br_f (by omega) ?_))
              refine x_iloadn (x := v36) rfl rfl ?_
              refine x_iconst (v := 3) rfl ki_3 ?_
              refine z_idiv rfl rfl jk_3 (by omega) (by omega) (fun v37 ev37 => ?_)
              refine x_aloadn (x := 78) rfl rfl ?_
              refine z_getR (N := 16) (b := 32) 7 0 rfl f_7_55 rfl J rfl 9984 ⟨rfl, rfl⟩ rfl ?_
              refine z_getR (N := 20) (b := 33) 1 0 rfl f_7_63 rfl J rfl 4096 ⟨rfl, rfl⟩ rfl ?_
              refine z_getM (N := 4) (v := v23) 8 3 rfl f_7_85 rfl J rfl qv23 ?_
              refine x_icge (tgt := 36) rfl rfl (ti_ge rfl rfl ⟨fun c38 => ?_, fun c38 => ?_⟩)
              ·
                rw [if_pos (by omega)] at D
                refine x_iconst (v := (-1)) rfl ki_m1 ?_
                refine x_iret rfl rfl ?_
                show jX m_X3_isNews 13 0 0 35 [(2, .int v10), (0, .ref 87), (1, .int l3)] [.int (-1), .int v32] _ 0 0 _
                refine x_iceq (tgt := 42) rfl rfl (ti_eq rfl jk_m1 ⟨fun c39 => ?_, fun c39 => ?_⟩)
                ·
                  rw [if_pos (by omega)] at D
                  refine x_iconst (v := 0) rfl ki_0 ?_
                  refine x_zret rfl rfl (by decide) ?_
                  show jX m_X11_join 14 0 0 52 [(0, .ref 31), (1, .int l1), (2, .int l2), (3, .int l3)] [.int 0] _ 0 0 _
                  refine x_ifeq (tgt := 58) rfl rfl (ti_eq jk_0 jk_0 (br_t (by omega) ?_))
                  exact jX.sub (jsb_c rfl (jsb_c rfl (jsb_c rfl (jsb_c rfl jsb_n)))) (ct_X11_join_r31d_58 hD hQ ih l1 l2 l3 h (jr_of rfl (by omega)) (jr_of rfl (by omega)) (by omega) J Sm D)
                ·
                  rw [if_neg (by omega)] at D
                  refine x_iconst (v := 1) rfl ki_1 ?_
                  refine x_goto (tgt := 43) rfl rfl ?_
                  refine x_zret rfl rfl (by decide) ?_
                  show jX m_X11_join 14 0 0 52 [(0, .ref 31), (1, .int l1), (2, .int l2), (3, .int l3)] [.int 1] _ 0 0 _
                  refine x_ifeq (tgt := 58) rfl rfl (ti_eq jk_1 jk_0 (br_f (by omega) ?_))
                  refine z_iincW (x := l2) (lsx9 := fun v40 => [(2, .int v40), (0, .ref 31), (1, .int l1), (3, .int l3)]) rfl rfl rfl jko_1 rfl (fun _ => rfl) (fun v40 ev40 => ?_)
                  have fv40 := jfull v40
                  try rw [← ev40] at D
                  exact jX.sub (jsb_c rfl (jsb_c rfl (jsb_c rfl (jsb_c rfl jsb_n)))) (ct_X11_join_r31d_58 hD hQ ih l1 v40 l3 h (jr_of rfl (by omega)) (jr_of rfl (by omega)) (by omega) J Sm D)
              ·
                rw [if_neg (by omega)] at D
                refine x_aloadn (x := 78) rfl rfl ?_
                refine z_getR (N := 16) (b := 82) 7 10 rfl f_7_37 rfl J rfl 9994 ⟨rfl, rfl⟩ rfl ?_
                refine x_iloadn (x := v36) rfl rfl ?_
                refine z_iald (N := 600) rfl J rfl sg_82_0_600_1_0_1 rfl (by omega) (fun v41 qv41 ev41 => ?_)
                try rw [vrd qv41 (show v36.toInt = v36.toInt from by omega)] at D
                refine x_goto (tgt := 37) rfl rfl ?_
                refine x_iret rfl rfl ?_
                show jX m_X3_isNews 13 0 0 35 [(2, .int v10), (0, .ref 87), (1, .int l3)] [.int v41, .int v32] _ 0 0 _
                refine x_iceq (tgt := 42) rfl rfl (ti_eq rfl rfl ⟨fun c42 => ?_, fun c42 => ?_⟩)
                ·
                  rw [if_pos (by omega)] at D
                  refine x_iconst (v := 0) rfl ki_0 ?_
                  refine x_zret rfl rfl (by decide) ?_
                  show jX m_X11_join 14 0 0 52 [(0, .ref 31), (1, .int l1), (2, .int l2), (3, .int l3)] [.int 0] _ 0 0 _
                  refine x_ifeq (tgt := 58) rfl rfl (ti_eq jk_0 jk_0 (br_t (by omega) ?_))
                  exact jX.sub (jsb_c rfl (jsb_c rfl (jsb_c rfl (jsb_c rfl jsb_n)))) (ct_X11_join_r31d_58 hD hQ ih l1 l2 l3 h (jr_of rfl (by omega)) (jr_of rfl (by omega)) (by omega) J Sm D)
                ·
                  rw [if_neg (by omega)] at D
                  refine x_iconst (v := 1) rfl ki_1 ?_
                  refine x_goto (tgt := 43) rfl rfl ?_
                  refine x_zret rfl rfl (by decide) ?_
                  show jX m_X11_join 14 0 0 52 [(0, .ref 31), (1, .int l1), (2, .int l2), (3, .int l3)] [.int 1] _ 0 0 _
                  refine x_ifeq (tgt := 58) rfl rfl (ti_eq jk_1 jk_0 (br_f (by omega) ?_))
                  refine z_iincW (x := l2) (lsx9 := fun v43 => [(2, .int v43), (0, .ref 31), (1, .int l1), (3, .int l3)]) rfl rfl rfl jko_1 rfl (fun _ => rfl) (fun v43 ev43 => ?_)
                  have fv43 := jfull v43
                  try rw [← ev43] at D
                  exact jX.sub (jsb_c rfl (jsb_c rfl (jsb_c rfl (jsb_c rfl jsb_n)))) (ct_X11_join_r31d_58 hD hQ ih l1 v43 l3 h (jr_of rfl (by omega)) (jr_of rfl (by omega)) (by omega) J Sm D)
set_option maxRecDepth 100000 in
set_option maxHeartbeats 4000000 in
theorem sf_X11_join_r31d {Dy : jH → Prop} {h : jH} {Q : Option Value → jH → Prop} {dr : (Int × jW)} {a1 : Int32} (hD : jDk Dy) (J : jJ jSgX Dy h) (D : d_X11_join_r31d a1.toInt (vw h) = dr) (hQ : ∀ (v : Int32) hx9, jJ jSgX Dy hx9 → jSm fp_X11_join_r31d h hx9 → dr.1 = v.toInt → dr.2 = vw hx9 → Q (some (.int v)) hx9) : jC m_X11_join 14 0 0 [.ref 31, .int a1] h Q := by
  refine jC.of rfl k_X11_join rfl ?_
  have Sm := jSm_rf fp_X11_join_r31d h
  have ea1 := jfull a1
  show jX m_X11_join 14 0 0 0 [(0, .ref 31), (1, .int a1)] [] _ 0 0 _
  unfold d_X11_join_r31d at D
  refine x_iloadn (x := a1) rfl rfl ?_
  refine x_inst (N := m_X11_isDay) (As := [.int a1]) (st := []) (dx9 := 1) (mc := 0) (ms := 0) (host := "") rfl t_X11_isDay ⟨Or.inl q_11_115, s_X11_isDay⟩ rfl (by decide) rfl rfl ⟨by decide, by decide⟩ (zc_X11_isDay rfl (fun v1 ev1 => ?_))
  show jX m_X11_join 14 0 0 4 [(0, .ref 31), (1, .int a1)] [.int v1] _ 0 0 _
  refine x_ifne (tgt := 13) rfl rfl (ti_ne rfl jk_0 ⟨fun c2 => ?_, fun c2 => ?_⟩)
  ·
    rw [if_pos (by omega)] at D
    refine x_aloadn (x := 31) rfl rfl ?_
    refine z_getR (N := 13) (b := 78) 11 4 rfl f_11_41 rfl J rfl 3972 ⟨rfl, rfl⟩ rfl ?_
    refine x_ldc (v := 146399) rfl z_11_233 ?_
    refine x_inv (N := m_X7_asKnown) (As := [.int 146399]) (b := 78) (st := []) (dx9 := 6) (mc := 0) (ms := 0) (host := "") 7 rfl t_X7_asKnown ⟨Or.inl q_11_240, i_X7_asKnown.1, i_X7_asKnown.2⟩ ⟨by decide, rfl⟩ (congrArg Prod.fst (J.1.1 78 (7, 16) rfl)) rfl (by decide) rfl rfl ⟨by decide, by decide⟩ (sf_X7_asKnown_r78d (jr_of jk_146399 (by omega)) hD J rfl  (fun h J S3 X4 => ?_))
    have Sm := jSm_tr rfl Sm S3
    try rw [jk_146399] at X4
    rw [X4] at D
    show jX m_X11_join 14 0 0 22 [(0, .ref 31), (1, .int a1)] [] _ 0 0 _
    refine x_aloadn (x := 31) rfl rfl ?_
    refine z_getR (N := 13) (b := 87) 11 5 rfl f_11_50 rfl J rfl 3973 ⟨rfl, rfl⟩ rfl ?_
    refine x_inv (N := m_X3_settle) (As := []) (b := 87) (st := []) (dx9 := 13) (mc := 0) (ms := 0) (host := "") 3 rfl t_X3_settle ⟨Or.inl q_11_282, i_X3_settle.1, i_X3_settle.2⟩ ⟨by decide, rfl⟩ (congrArg Prod.fst (J.1.1 87 (3, 14) rfl)) rfl (by decide) rfl rfl ⟨by decide, by decide⟩ (sf_X3_settle_r87d  hD J rfl  (fun h J S5 X6 => ?_))
    have Sm := jSm_tr rfl Sm S5
    rw [X6] at D
    show jX m_X11_join 14 0 0 29 [(0, .ref 31), (1, .int a1)] [] _ 0 0 _
    refine x_iconst (v := 0) rfl ki_0 ?_
    refine x_istoren (lsx9 := [(2, .int 0), (0, .ref 31), (1, .int a1)]) rfl rfl rfl ?_
    refine x_iconst (v := 0) rfl ki_0 ?_
    refine x_istoren (lsx9 := [(3, .int 0), (2, .int 0), (0, .ref 31), (1, .int a1)]) rfl rfl rfl ?_
    exact jX.sub (jsb_c rfl (jsb_c rfl (jsb_c rfl (jsb_c rfl jsb_n)))) (ct_X11_join_r31d_33 hD hQ  10 a1 0 0 h (by have := jk_0; omega) (jr_of rfl (by omega)) (jr_of jk_0 (by omega)) J Sm (by rw [jk_0]; exact D))
  ·
    rw [if_neg (by omega)] at D
    refine x_aloadn (x := 31) rfl rfl ?_
    refine x_iconst (v := (-1)) rfl ki_m1 ?_
    refine x_inv (N := m_X11_refuse) (As := [.int (-1)]) (b := 31) (st := []) (dx9 := 13) (mc := 0) (ms := 0) (host := "") 11 rfl t_X11_refuse ⟨Or.inl q_11_206, i_X11_refuse.1, i_X11_refuse.2⟩ ⟨by decide, rfl⟩ (congrArg Prod.fst (J.1.1 31 (11, 13) rfl)) rfl (by decide) rfl rfl ⟨by decide, by decide⟩ (jC.of rfl k_X11_refuse rfl ?_)
    show jX m_X11_refuse 13 0 0 0 [(0, .ref 31), (1, .int (-1))] [] _ 0 0 _
    refine x_aloadn (x := 31) rfl rfl ?_
    refine x_iloadn (x := (-1)) rfl rfl ?_
    refine z_putI (N := 13) (w := (-1)) 11 12 rfl f_11_94 rfl (jfin_no TX11 RX11 13 rfl rfl) hD J Sm rfl rfl jk_m1 (pw_31_12 (by omega)) rfl (fun h w7 J Sm => ?_)
    rw [vwf w7 (show (-1) = ((-1) : Int32).toInt from by have := jk_m1; omega)] at D
    refine x_iloadn (x := (-1)) rfl rfl ?_
    refine x_iret rfl rfl ?_
    show jX m_X11_join 14 0 0 12 [(0, .ref 31), (1, .int a1)] [.int (-1)] _ 0 0 _
    refine x_iret rfl rfl ?_
    exact hQ _ _ J Sm ((congrArg Prod.fst D).symm.trans (show (-1) = ((-1) : Int32).toInt from by have := jk_m1; omega)) (congrArg Prod.snd D).symm
def fp_X7_childOf_r78d : jFp := []
set_option maxRecDepth 100000 in
set_option maxHeartbeats 4000000 in
theorem ct_X7_childOf_r78d_113 {Dy : jH → Prop} {h0 : jH} {Q : Option Value → jH → Prop} {dr : Int} (hD : jDk Dy) (hQ : ∀ (v : Int32) hx9, (-1) ≤ v.toInt ∧ v.toInt ≤ 599 → jJ jSgX Dy hx9 → jSm fp_X7_childOf_r78d h0 hx9 → dr = v.toInt → vw hx9 = vw h0 → Q (some (.int v)) hx9) : ∀ (h : jH), jJ jSgX Dy h → jSm fp_X7_childOf_r78d h0 h → d_X7_childOf_r78d_113  (vw h) = dr → vw h = vw h0 → jX m_X7_childOf 3 0 0 113 [] [] h 0 0 Q := by
  intro  h    J Sm D EV
  unfold d_X7_childOf_r78d_113 at D
  refine x_iconst (v := (-1)) rfl ki_m1 ?_
  refine x_iret rfl rfl ?_
  exact hQ _ _ (jr_of jk_m1 (by omega)) J Sm (D.symm.trans (show (-1) = ((-1) : Int32).toInt from by have := jk_m1; omega)) EV
set_option maxRecDepth 100000 in
set_option maxHeartbeats 4000000 in
theorem ct_X7_childOf_r78d_107 {Dy : jH → Prop} {h0 : jH} {Q : Option Value → jH → Prop} {dr : Int} {K5 : Int → Int → Int → Int → jW → Int} {R5 : Int} (hD : jDk Dy) (hQ : ∀ (v : Int32) hx9, (-1) ≤ v.toInt ∧ v.toInt ≤ 599 → jJ jSgX Dy hx9 → jSm fp_X7_childOf_r78d h0 hx9 → dr = v.toInt → vw hx9 = vw h0 → Q (some (.int v)) hx9) (k5 : ∀ (l1 : Int32) (l2 : Int32) (l3 : Int32) (l4 : Int32) (h : jH), 600 - l4.toInt < R5 → 0 ≤ l1.toInt ∧ l1.toInt ≤ 599 → 0 ≤ l4.toInt ∧ l4.toInt ≤ 600 → l4.toInt % 3 = 0 → jJ jSgX Dy h → jSm fp_X7_childOf_r78d h0 h → K5 l1.toInt l2.toInt l3.toInt l4.toInt (vw h) = dr → vw h = vw h0 → jX m_X7_childOf 3 0 0 5 [(0, .ref 78), (1, .int l1), (2, .int l2), (3, .int l3), (4, .int l4)] [] h 0 0 Q) : ∀ (l1 : Int32) (l2 : Int32) (l3 : Int32) (l4 : Int32) (h : jH), 0 ≤ l1.toInt ∧ l1.toInt ≤ 599 → 0 ≤ l4.toInt ∧ l4.toInt ≤ 597 → l4.toInt % 3 = 0 → 600 - l4.toInt ≤ R5 → jJ jSgX Dy h → jSm fp_X7_childOf_r78d h0 h → d_X7_childOf_r78d_107 K5  l1.toInt l2.toInt l3.toInt l4.toInt (vw h) = dr → vw h = vw h0 → jX m_X7_childOf 3 0 0 107 [(0, .ref 78), (1, .int l1), (2, .int l2), (3, .int l3), (4, .int l4)] [] h 0 0 Q := by
  intro l1 l2 l3 l4 h y0 y1 y2  m5 J Sm D EV
  have el2 := jfull l2
  have el3 := jfull l3
  unfold d_X7_childOf_r78d_107 at D
  refine z_iinc (x := l4) (lsx9 := fun v1 => [(4, .int v1), (0, .ref 78), (1, .int l1), (2, .int l2), (3, .int l3)]) rfl rfl rfl jko_3 (by omega) rfl (fun _ => rfl) (fun v1 ev1 => ?_)
  refine x_goto (tgt := 5) rfl rfl ?_
  try rw [show (l4.toInt + 3) = v1.toInt from by omega] at D
  exact jX.sub (jsb_c rfl (jsb_c rfl (jsb_c rfl (jsb_c rfl (jsb_c rfl jsb_n))))) (k5 l1 l2 l3 v1 h (by omega) (jr_of rfl (by omega)) (jr_of rfl (by omega)) (jr_mod rfl (by omega)) J Sm D EV)
set_option maxRecDepth 100000 in
set_option maxHeartbeats 4000000 in
theorem ct_X7_childOf_r78d_79 {Dy : jH → Prop} {h0 : jH} {Q : Option Value → jH → Prop} {dr : Int} {K5 : Int → Int → Int → Int → jW → Int} {R5 : Int} (hD : jDk Dy) (hQ : ∀ (v : Int32) hx9, (-1) ≤ v.toInt ∧ v.toInt ≤ 599 → jJ jSgX Dy hx9 → jSm fp_X7_childOf_r78d h0 hx9 → dr = v.toInt → vw hx9 = vw h0 → Q (some (.int v)) hx9) (k5 : ∀ (l1 : Int32) (l2 : Int32) (l3 : Int32) (l4 : Int32) (h : jH), 600 - l4.toInt < R5 → 0 ≤ l1.toInt ∧ l1.toInt ≤ 599 → 0 ≤ l4.toInt ∧ l4.toInt ≤ 600 → l4.toInt % 3 = 0 → jJ jSgX Dy h → jSm fp_X7_childOf_r78d h0 h → K5 l1.toInt l2.toInt l3.toInt l4.toInt (vw h) = dr → vw h = vw h0 → jX m_X7_childOf 3 0 0 5 [(0, .ref 78), (1, .int l1), (2, .int l2), (3, .int l3), (4, .int l4)] [] h 0 0 Q) : ∀ (l1 : Int32) (l2 : Int32) (l3 : Int32) (l4 : Int32) (h : jH), 0 ≤ l1.toInt ∧ l1.toInt ≤ 599 → 0 ≤ l4.toInt ∧ l4.toInt ≤ 597 → l4.toInt % 3 = 0 → 600 - l4.toInt ≤ R5 → jJ jSgX Dy h → jSm fp_X7_childOf_r78d h0 h → d_X7_childOf_r78d_79 K5  l1.toInt l2.toInt l3.toInt l4.toInt (vw h) = dr → vw h = vw h0 → jX m_X7_childOf 3 0 0 79 [(0, .ref 78), (1, .int l1), (2, .int l2), (3, .int l3), (4, .int l4)] [] h 0 0 Q := by
  intro l1 l2 l3 l4 h y0 y1 y2  m5 J Sm D EV
  have el2 := jfull l2
  have el3 := jfull l3
  unfold d_X7_childOf_r78d_79 at D
  refine x_aloadn (x := 78) rfl rfl ?_
  refine z_getR (N := 16) (b := 70) 7 1 rfl f_7_59 rfl J rfl 9985 ⟨rfl, rfl⟩ rfl ?_
  refine x_iload (x := l4) rfl rfl ?_
  refine x_inv (N := m_X5_isNamed) (As := [.int l4]) (b := 70) (st := []) (dx9 := 2) (mc := 0) (ms := 0) (host := "") 5 rfl t_X5_isNamed ⟨Or.inl q_7_173, i_X5_isNamed.1, i_X5_isNamed.2⟩ ⟨by decide, rfl⟩ (congrArg Prod.fst (J.1.1 70 (5, 9) rfl)) rfl (by decide) rfl rfl ⟨by decide, by decide⟩ (jC.of rfl k_X5_isNamed rfl ?_)
  show jX m_X5_isNamed 2 0 0 0 [(0, .ref 70), (1, .int l4)] [] _ 0 0 _
  refine x_aloadn (x := 70) rfl rfl ?_
  refine x_iloadn (x := l4) rfl rfl ?_
  refine x_iconst (v := 0) rfl ki_0 ?_
  refine x_inv (N := m_X5_lengthOf) (As := [.int l4, .int 0]) (b := 70) (st := []) (dx9 := 1) (mc := 0) (ms := 0) (host := "") 5 rfl t_X5_lengthOf ⟨Or.inl q_5_133, i_X5_lengthOf.1, i_X5_lengthOf.2⟩ ⟨by decide, rfl⟩ (congrArg Prod.fst (J.1.1 70 (5, 9) rfl)) rfl (by decide) rfl rfl ⟨by decide, by decide⟩ (jC.of rfl k_X5_lengthOf rfl ?_)
  show jX m_X5_lengthOf 1 0 0 0 [(0, .ref 70), (1, .int l4), (2, .int 0)] [] _ 0 0 _
  refine x_iloadn (x := l4) rfl rfl ?_
  refine x_iconst (v := 2) rfl ki_2 ?_
  refine z_imul rfl rfl jk_2 (by omega) (fun v1 ev1 => ?_)
  refine x_iloadn (x := 0) rfl rfl ?_
  refine z_iadd rfl rfl jk_0 (by omega) (fun v2 ev2 => ?_)
  refine x_istoren (lsx9 := [(3, .int v2), (0, .ref 70), (1, .int l4), (2, .int 0)]) rfl rfl rfl ?_
  refine x_iloadn (x := v2) rfl rfl ?_
  refine x_iflt (tgt := 26) rfl rfl (ti_lt rfl jk_0 (br_f (by omega) ?_))
  refine x_iloadn (x := v2) rfl rfl ?_
  refine x_sipush (v := 1200) rfl ks_1200 ?_
  refine x_icge (tgt := 26) rfl rfl (ti_ge rfl jk_1200 (br_f (by omega) ?_))
  refine x_aloadn (x := 70) rfl rfl ?_
  refine z_getR (N := 9) (b := 76) 5 7 rfl f_5_28 rfl J rfl 8967 ⟨rfl, rfl⟩ rfl ?_
  refine x_iloadn (x := v2) rfl rfl ?_
  refine z_iald (N := 1200) rfl J rfl sg_76_0_1200_1_0_1 rfl (by omega) (fun v3 qv3 ev3 => ?_)
  try rw [vrd qv3 (show ((l4.toInt * 2) + 0) = v2.toInt from by omega)] at D
  refine x_goto (tgt := 27) rfl rfl ?_
  refine x_iret rfl rfl ?_
  show jX m_X5_isNamed 2 0 0 6 [(0, .ref 70), (1, .int l4)] [.int v3] _ 0 0 _
  refine x_ifge (tgt := 18) rfl rfl (ti_ge rfl jk_0 ⟨fun c4 => ?_, fun c4 => ?_⟩)
  ·
    rw [if_pos (by omega)] at D
    refine x_iconst (v := 1) rfl ki_1 ?_
    refine x_goto (tgt := 23) rfl rfl ?_
    refine x_zret rfl rfl (by decide) ?_
    show jX m_X7_childOf 3 0 0 88 [(0, .ref 78), (1, .int l1), (2, .int l2), (3, .int l3), (4, .int l4)] [.int 1] _ 0 0 _
    refine x_ifeq (tgt := 107) rfl rfl (ti_eq jk_1 jk_0 (br_f (by omega) ?_))
    refine x_iloadn (x := l3) rfl rfl ?_
    refine x_iloadn (x := l2) rfl rfl ?_
    refine x_icne (tgt := 104) rfl rfl (ti_ne rfl rfl ⟨fun c5 => ?_, fun c5 => ?_⟩)
    ·
      rw [if_neg (by omega)] at D
      refine z_iincW (x := l3) (lsx9 := fun v6 => [(3, .int v6), (0, .ref 78), (1, .int l1), (2, .int l2), (4, .int l4)]) rfl rfl rfl jko_1 rfl (fun _ => rfl) (fun v6 ev6 => ?_)
      have fv6 := jfull v6
      try rw [← ev6] at D
      exact jX.sub (jsb_c rfl (jsb_c rfl (jsb_c rfl (jsb_c rfl (jsb_c rfl jsb_n))))) (ct_X7_childOf_r78d_107 hD hQ k5 l1 l2 v6 l4 h (jr_of rfl (by omega)) (jr_of rfl (by omega)) (jr_mod rfl (by omega)) (by omega) J Sm D EV)
    ·
      rw [if_pos (by omega)] at D
      refine x_aloadn (x := 78) rfl rfl ?_
      refine z_getR (N := 16) (b := 82) 7 10 rfl f_7_37 rfl J rfl 9994 ⟨rfl, rfl⟩ rfl ?_
      refine x_iload (x := l4) rfl rfl ?_
      refine z_iald (N := 600) rfl J rfl sg_82_0_600_1_0_1 rfl (by omega) (fun v7 qv7 ev7 => ?_)
      try rw [vrd qv7 (show l4.toInt = l4.toInt from by omega)] at D
      refine x_iret rfl rfl ?_
      exact hQ _ _ (jr_of rfl (by omega)) J Sm (D.symm.trans (show v7.toInt = v7.toInt from by omega)) EV
  ·
    rw [if_neg (by omega)] at D
    refine x_aloadn (x := 70) rfl rfl ?_
    refine x_iloadn (x := l4) rfl rfl ?_
    refine x_iconst (v := 1) rfl ki_1 ?_
    refine x_inv (N := m_X5_lengthOf) (As := [.int l4, .int 1]) (b := 70) (st := []) (dx9 := 1) (mc := 0) (ms := 0) (host := "") 5 rfl t_X5_lengthOf ⟨Or.inl q_5_133, i_X5_lengthOf.1, i_X5_lengthOf.2⟩ ⟨by decide, rfl⟩ (congrArg Prod.fst (J.1.1 70 (5, 9) rfl)) rfl (by decide) rfl rfl ⟨by decide, by decide⟩ (jC.of rfl k_X5_lengthOf rfl ?_)
    show jX m_X5_lengthOf 1 0 0 0 [(0, .ref 70), (1, .int l4), (2, .int 1)] [] _ 0 0 _
    refine x_iloadn (x := l4) rfl rfl ?_
    refine x_iconst (v := 2) rfl ki_2 ?_
    refine z_imul rfl rfl jk_2 (by omega) (fun v8 ev8 => ?_)
    refine x_iloadn (x := 1) rfl rfl ?_
    refine z_iadd rfl rfl jk_1 (by omega) (fun v9 ev9 => ?_)
    refine x_istoren (lsx9 := [(3, .int v9), (0, .ref 70), (1, .int l4), (2, .int 1)]) rfl rfl rfl ?_
    refine x_iloadn (x := v9) rfl rfl ?_
    refine x_iflt (tgt := 26) rfl rfl (ti_lt rfl jk_0 (br_f (by omega) ?_))
    refine x_iloadn (x := v9) rfl rfl ?_
    refine x_sipush (v := 1200) rfl ks_1200 ?_
    refine x_icge (tgt := 26) rfl rfl (ti_ge rfl jk_1200 (br_f (by omega) ?_))
    refine x_aloadn (x := 70) rfl rfl ?_
    refine z_getR (N := 9) (b := 76) 5 7 rfl f_5_28 rfl J rfl 8967 ⟨rfl, rfl⟩ rfl ?_
    refine x_iloadn (x := v9) rfl rfl ?_
    refine z_iald (N := 1200) rfl J rfl sg_76_0_1200_1_0_1 rfl (by omega) (fun v10 qv10 ev10 => ?_)
    try rw [vrd qv10 (show ((l4.toInt * 2) + 1) = v9.toInt from by omega)] at D
    refine x_goto (tgt := 27) rfl rfl ?_
    refine x_iret rfl rfl ?_
    show jX m_X5_isNamed 2 0 0 15 [(0, .ref 70), (1, .int l4)] [.int v10] _ 0 0 _
    refine x_iflt (tgt := 22) rfl rfl (ti_lt rfl jk_0 ⟨fun c11 => ?_, fun c11 => ?_⟩)
    ·
      rw [if_pos (by omega)] at D
      refine x_iconst (v := 0) rfl ki_0 ?_
      refine x_zret rfl rfl (by decide) ?_
      show jX m_X7_childOf 3 0 0 88 [(0, .ref 78), (1, .int l1), (2, .int l2), (3, .int l3), (4, .int l4)] [.int 0] _ 0 0 _
      refine x_ifeq (tgt := 107) rfl rfl (ti_eq jk_0 jk_0 (br_t (by omega) ?_))
      exact jX.sub (jsb_c rfl (jsb_c rfl (jsb_c rfl (jsb_c rfl (jsb_c rfl jsb_n))))) (ct_X7_childOf_r78d_107 hD hQ k5 l1 l2 l3 l4 h (jr_of rfl (by omega)) (jr_of rfl (by omega)) (jr_mod rfl (by omega)) (by omega) J Sm D EV)
    ·
      rw [if_neg (by omega)] at D
      refine x_iconst (v := 1) rfl ki_1 ?_
      refine x_goto (tgt := 23) rfl rfl ?_
      refine x_zret rfl rfl (by decide) ?_
      show jX m_X7_childOf 3 0 0 88 [(0, .ref 78), (1, .int l1), (2, .int l2), (3, .int l3), (4, .int l4)] [.int 1] _ 0 0 _
      refine x_ifeq (tgt := 107) rfl rfl (ti_eq jk_1 jk_0 (br_f (by omega) ?_))
      refine x_iloadn (x := l3) rfl rfl ?_
      refine x_iloadn (x := l2) rfl rfl ?_
      refine x_icne (tgt := 104) rfl rfl (ti_ne rfl rfl ⟨fun c12 => ?_, fun c12 => ?_⟩)
      ·
        rw [if_neg (by omega)] at D
        refine z_iincW (x := l3) (lsx9 := fun v13 => [(3, .int v13), (0, .ref 78), (1, .int l1), (2, .int l2), (4, .int l4)]) rfl rfl rfl jko_1 rfl (fun _ => rfl) (fun v13 ev13 => ?_)
        have fv13 := jfull v13
        try rw [← ev13] at D
        exact jX.sub (jsb_c rfl (jsb_c rfl (jsb_c rfl (jsb_c rfl (jsb_c rfl jsb_n))))) (ct_X7_childOf_r78d_107 hD hQ k5 l1 l2 v13 l4 h (jr_of rfl (by omega)) (jr_of rfl (by omega)) (jr_mod rfl (by omega)) (by omega) J Sm D EV)
      ·
        rw [if_pos (by omega)] at D
        refine x_aloadn (x := 78) rfl rfl ?_
        refine z_getR (N := 16) (b := 82) 7 10 rfl f_7_37 rfl J rfl 9994 ⟨rfl, rfl⟩ rfl ?_
        refine x_iload (x := l4) rfl rfl ?_
        refine z_iald (N := 600) rfl J rfl sg_82_0_600_1_0_1 rfl (by omega) (fun v14 qv14 ev14 => ?_)
        try rw [vrd qv14 (show l4.toInt = l4.toInt from by omega)] at D
        refine x_iret rfl rfl ?_
        exact hQ _ _ (jr_of rfl (by omega)) J Sm (D.symm.trans (show v14.toInt = v14.toInt from by omega)) EV
set_option maxRecDepth 100000 in
set_option maxHeartbeats 4000000 in
theorem ct_X7_childOf_r78d_5 {Dy : jH → Prop} {h0 : jH} {Q : Option Value → jH → Prop} {dr : Int} (hD : jDk Dy) (hQ : ∀ (v : Int32) hx9, (-1) ≤ v.toInt ∧ v.toInt ≤ 599 → jJ jSgX Dy hx9 → jSm fp_X7_childOf_r78d h0 hx9 → dr = v.toInt → vw hx9 = vw h0 → Q (some (.int v)) hx9) : ∀ r : Nat, ∀ (l1 : Int32) (l2 : Int32) (l3 : Int32) (l4 : Int32) (h : jH), 600 - l4.toInt < (r : Int) → 0 ≤ l1.toInt ∧ l1.toInt ≤ 599 → 0 ≤ l4.toInt ∧ l4.toInt ≤ 600 → l4.toInt % 3 = 0 → jJ jSgX Dy h → jSm fp_X7_childOf_r78d h0 h → d_X7_childOf_r78d_5 r l1.toInt l2.toInt l3.toInt l4.toInt (vw h) = dr → vw h = vw h0 → jX m_X7_childOf 3 0 0 5 [(0, .ref 78), (1, .int l1), (2, .int l2), (3, .int l3), (4, .int l4)] [] h 0 0 Q := by
  intro r
  induction r with
  | zero =>
    intro l1 l2 l3 l4 h hm y0 y1 y2   J Sm D EV
    exfalso
    have el2 := jfull l2
    have el3 := jfull l3
    omega
  | succ r ih =>
    intro l1 l2 l3 l4 h hm y0 y1 y2   J Sm D EV
    have el2 := jfull l2
    have el3 := jfull l3
    rw [d_X7_childOf_r78d_5.eq_2] at D
    refine x_iload (x := l4) rfl rfl ?_
    refine x_aloadn (x := 78) rfl rfl ?_
    refine z_getR (N := 16) (b := 32) 7 0 rfl f_7_55 rfl J rfl 9984 ⟨rfl, rfl⟩ rfl ?_
    refine z_getR (N := 20) (b := 33) 1 0 rfl f_7_63 rfl J rfl 4096 ⟨rfl, rfl⟩ rfl ?_
    refine z_getI (N := 4) 8 3 rfl f_7_85 rfl J rfl sg_33_3_4_1_0_1 (fun v1 qv1 ev1 => ?_)
    try rw [vrf qv1] at D
    refine x_iconst (v := 3) rfl ki_3 ?_
    refine z_imul rfl rfl jk_3 (by omega) (fun v2 ev2 => ?_)
    refine x_icge (tgt := 113) rfl rfl (ti_ge rfl rfl ⟨fun c3 => ?_, fun c3 => ?_⟩)
    ·
      rw [if_pos (by omega)] at D
      exact jX.sub jsb_n (ct_X7_childOf_r78d_113 hD hQ  h J Sm D EV)
    ·
      rw [if_neg (by omega)] at D
      refine x_iload (x := l4) rfl rfl ?_
      refine x_iconst (v := 2) rfl ki_2 ?_
      refine z_iadd rfl rfl jk_2 (by omega) (fun v4 ev4 => ?_)
      refine x_sipush (v := 600) rfl ks_600 ?_
      refine x_icge (tgt := 113) rfl rfl (ti_ge rfl jk_600 (br_f (by omega) ?_))
      refine x_aloadn (x := 78) rfl rfl ?_
      refine z_getR (N := 16) (b := 79) 7 7 rfl f_7_27 rfl J rfl 9991 ⟨rfl, rfl⟩ rfl ?_
      refine x_iload (x := l4) rfl rfl ?_
      refine z_iald (N := 600) rfl J rfl sg_79_0_600_1_0_1 rfl (by omega) (fun v5 qv5 ev5 => ?_)
      try rw [vrd qv5 (show l4.toInt = l4.toInt from by omega)] at D
      refine x_ifne (tgt := 107) rfl rfl (ti_ne rfl jk_0 ⟨fun c6 => ?_, fun c6 => ?_⟩)
      ·
        rw [if_neg (by omega)] at D
        exact jX.sub (jsb_c rfl (jsb_c rfl (jsb_c rfl (jsb_c rfl (jsb_c rfl jsb_n))))) (ct_X7_childOf_r78d_107 hD hQ ih l1 l2 l3 l4 h (jr_of rfl (by omega)) (jr_of rfl (by omega)) (jr_mod rfl (by omega)) (by omega) J Sm D EV)
      ·
        rw [if_pos (by omega)] at D
        refine x_aloadn (x := 78) rfl rfl ?_
        refine z_getR (N := 16) (b := 82) 7 10 rfl f_7_37 rfl J rfl 9994 ⟨rfl, rfl⟩ rfl ?_
        refine x_iload (x := l4) rfl rfl ?_
        refine z_iald (N := 600) rfl J rfl sg_82_0_600_1_0_1 rfl (by omega) (fun v7 qv7 ev7 => ?_)
        try rw [vrd qv7 (show l4.toInt = l4.toInt from by omega)] at D
        refine x_iconst (v := (-1)) rfl ki_m1 ?_
        refine x_iceq (tgt := 107) rfl rfl (ti_eq rfl jk_m1 ⟨fun c8 => ?_, fun c8 => ?_⟩)
        ·
          rw [if_pos (by omega)] at D
          exact jX.sub (jsb_c rfl (jsb_c rfl (jsb_c rfl (jsb_c rfl (jsb_c rfl jsb_n))))) (ct_X7_childOf_r78d_107 hD hQ ih l1 l2 l3 l4 h (jr_of rfl (by omega)) (jr_of rfl (by omega)) (jr_mod rfl (by omega)) (by omega) J Sm D EV)
        ·
          rw [if_neg (by omega)] at D
          refine x_aloadn (x := 78) rfl rfl ?_
          refine z_getR (N := 16) (b := 82) 7 10 rfl f_7_37 rfl J rfl 9994 ⟨rfl, rfl⟩ rfl ?_
          refine x_iload (x := l4) rfl rfl ?_
          refine x_iconst (v := 1) rfl ki_1 ?_
          refine z_iadd rfl rfl jk_1 (by omega) (fun v9 ev9 => ?_)
          refine z_iald (N := 600) rfl J rfl sg_82_0_600_1_0_1 rfl (by omega) (fun v10 qv10 ev10 => ?_)
          try rw [vrd qv10 (show (l4.toInt + 1) = v9.toInt from by omega)] at D
          refine x_iloadn (x := l1) rfl rfl ?_
          refine x_iceq (tgt := 79) rfl rfl (ti_eq rfl rfl ⟨fun c11 => ?_, fun c11 => ?_⟩)
          ·
            rw [if_pos (by omega)] at D
            exact jX.sub (jsb_c rfl (jsb_c rfl (jsb_c rfl (jsb_c rfl (jsb_c rfl jsb_n))))) (ct_X7_childOf_r78d_79 hD hQ ih l1 l2 l3 l4 h (jr_of rfl (by omega)) (jr_of rfl (by omega)) (jr_mod rfl (by omega)) (by omega) J Sm D EV)
          ·
            rw [if_neg (by omega)] at D
            refine x_aloadn (x := 78) rfl rfl ?_
            refine z_getR (N := 16) (b := 82) 7 10 rfl f_7_37 rfl J rfl 9994 ⟨rfl, rfl⟩ rfl ?_
            refine x_iload (x := l4) rfl rfl ?_
            refine x_iconst (v := 2) rfl ki_2 ?_
            refine z_iadd rfl rfl jk_2 (by omega) (fun v12 ev12 => ?_)
            refine z_iald (N := 600) rfl J rfl sg_82_0_600_1_0_1 rfl (by omega) (fun v13 qv13 ev13 => ?_)
            try rw [vrd qv13 (show (l4.toInt + 2) = v12.toInt from by omega)] at D
            refine x_iloadn (x := l1) rfl rfl ?_
            refine x_icne (tgt := 107) rfl rfl (ti_ne rfl rfl ⟨fun c14 => ?_, fun c14 => ?_⟩)
            ·
              rw [if_neg (by omega)] at D
              exact jX.sub (jsb_c rfl (jsb_c rfl (jsb_c rfl (jsb_c rfl (jsb_c rfl jsb_n))))) (ct_X7_childOf_r78d_107 hD hQ ih l1 l2 l3 l4 h (jr_of rfl (by omega)) (jr_of rfl (by omega)) (jr_mod rfl (by omega)) (by omega) J Sm D EV)
            ·
              rw [if_pos (by omega)] at D
              exact jX.sub (jsb_c rfl (jsb_c rfl (jsb_c rfl (jsb_c rfl (jsb_c rfl jsb_n))))) (ct_X7_childOf_r78d_79 hD hQ ih l1 l2 l3 l4 h (jr_of rfl (by omega)) (jr_of rfl (by omega)) (jr_mod rfl (by omega)) (by omega) J Sm D EV)
set_option maxRecDepth 100000 in
set_option maxHeartbeats 4000000 in
theorem sf_X7_childOf_r78d {Dy : jH → Prop} {h : jH} {Q : Option Value → jH → Prop} {dr : Int} {a1 : Int32} {a2 : Int32} (y1 : 0 ≤ a1.toInt ∧ a1.toInt ≤ 599) (hD : jDk Dy) (J : jJ jSgX Dy h) (D : d_X7_childOf_r78d a1.toInt a2.toInt (vw h) = dr) (hQ : ∀ (v : Int32) hx9, (-1) ≤ v.toInt ∧ v.toInt ≤ 599 → jJ jSgX Dy hx9 → jSm fp_X7_childOf_r78d h hx9 → dr = v.toInt → vw hx9 = vw h → Q (some (.int v)) hx9) : jC m_X7_childOf 3 0 0 [.ref 78, .int a1, .int a2] h Q := by
  refine jC.of rfl k_X7_childOf rfl ?_
  have Sm := jSm_rf fp_X7_childOf_r78d h
  have ea2 := jfull a2
  show jX m_X7_childOf 3 0 0 0 [(0, .ref 78), (1, .int a1), (2, .int a2)] [] _ 0 0 _
  unfold d_X7_childOf_r78d at D
  have EV : vw h = vw h := rfl
  refine x_iconst (v := 0) rfl ki_0 ?_
  refine x_istoren (lsx9 := [(3, .int 0), (0, .ref 78), (1, .int a1), (2, .int a2)]) rfl rfl rfl ?_
  refine x_iconst (v := 0) rfl ki_0 ?_
  refine x_istore (lsx9 := [(4, .int 0), (3, .int 0), (0, .ref 78), (1, .int a1), (2, .int a2)]) rfl rfl rfl ?_
  exact jX.sub (jsb_c rfl (jsb_c rfl (jsb_c rfl (jsb_c rfl (jsb_c rfl jsb_n))))) (ct_X7_childOf_r78d_5 hD hQ  601 a1 a2 0 0 h (by have := jk_0; omega) (jr_of rfl (by omega)) (jr_of jk_0 (by omega)) (jr_mod jk_0 (by omega)) J Sm (by rw [jk_0]; exact D) EV)
