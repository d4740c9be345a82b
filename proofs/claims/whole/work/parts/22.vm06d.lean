set_option maxRecDepth 100000 in
set_option maxHeartbeats 4000000 in
theorem sf_X12_mostFilled_r125d {Dy : jH → Prop} {h : jH} {Q : Option Value → jH → Prop} {dr : Int} {a1 : Int32} {a2 : Int32} (y1 : 0 ≤ a1.toInt ∧ a1.toInt ≤ 5) (y2 : (-146398) ≤ a2.toInt ∧ a2.toInt ≤ 146400) (hD : jDk Dy) (J : jJ jSgM Dy h) (D : d_X12_mostFilled_r125d a1.toInt a2.toInt (vw h) = dr) (hQ : ∀ (v : Int32) hx9, 0 ≤ v.toInt ∧ v.toInt ≤ 2147483647 → jJ jSgM Dy hx9 → jSm fp_X12_mostFilled_r125d h hx9 → dr = v.toInt → vw hx9 = vw h → Q (some (.int v)) hx9) : jC m_X12_mostFilled 4 0 0 [.ref 125, .int a1, .int a2] h Q := by
  refine jC.of rfl k_X12_mostFilled rfl ?_
  have Sm := jSm_rf fp_X12_mostFilled_r125d h
  show jX m_X12_mostFilled 4 0 0 0 [(0, .ref 125), (1, .int a1), (2, .int a2)] [] _ 0 0 _
  unfold d_X12_mostFilled_r125d at D
  have EV : vw h = vw h := rfl
  refine x_iconst (v := 0) rfl ki_0 ?_
  refine x_istoren (lsx9 := [(3, .int 0), (0, .ref 125), (1, .int a1), (2, .int a2)]) rfl rfl rfl ?_
  refine x_iconst (v := 0) rfl ki_0 ?_
  refine x_istore (lsx9 := [(4, .int 0), (3, .int 0), (0, .ref 125), (1, .int a1), (2, .int a2)]) rfl rfl rfl ?_
  exact jX.sub (jsb_c rfl (jsb_c rfl (jsb_c rfl (jsb_c rfl (jsb_c rfl jsb_n))))) (ct_X12_mostFilled_r125d_5 hD hQ  201 a1 a2 0 0 h (by have := jk_0; omega) (jr_of rfl (by omega)) (jr_of rfl (by omega)) (jr_of jk_0 (by omega)) (jr_of jk_0 (by omega)) J Sm (by rw [jk_0]; exact D) EV)
def fp_X12_fill_r125d : jFp := [(125, 0, 1), (125, 28, 29), (125, 31, 32), (125, 32, 33), (125, 33, 34), (125, 34, 35), (125, 35, 36), (125, 57, 58), (137, 0, 80), (138, 0, 2), (139, 0, 600), (140, 0, 200)]
set_option maxRecDepth 100000 in
set_option maxHeartbeats 4000000 in
theorem ct_X12_fill_r125d_56 {Dy : jH → Prop} {h0 : jH} {Q : Option Value → jH → Prop} {dr : (Int × jW)} (hD : jDk Dy) (hQ : ∀ (v : Int32) hx9, jJ jSgM Dy hx9 → jSm fp_X12_fill_r125d h0 hx9 → dr.1 = v.toInt → dr.2 = vw hx9 → Q (some (.int v)) hx9) : ∀ (h : jH), jJ jSgM Dy h → jSm fp_X12_fill_r125d h0 h → d_X12_fill_r125d_56  (vw h) = dr → jX m_X12_fill 9 0 0 56 [] [] h 0 0 Q := by
  intro  h    J Sm D
  unfold d_X12_fill_r125d_56 at D
  refine x_iconst (v := (-1)) rfl ki_m1 ?_
  refine x_iret rfl rfl ?_
  exact hQ _ _ J Sm ((congrArg Prod.fst D).symm.trans (show (-1) = ((-1) : Int32).toInt from by have := jk_m1; omega)) (congrArg Prod.snd D).symm
set_option maxRecDepth 100000 in
set_option maxHeartbeats 4000000 in
theorem ct_X12_fill_r125d_112 {Dy : jH → Prop} {h0 : jH} {Q : Option Value → jH → Prop} {dr : (Int × jW)} (hD : jDk Dy) (hQ : ∀ (v : Int32) hx9, jJ jSgM Dy hx9 → jSm fp_X12_fill_r125d h0 hx9 → dr.1 = v.toInt → dr.2 = vw hx9 → Q (some (.int v)) hx9) : ∀ (s0 : Int32) (h : jH), jJ jSgM Dy h → jSm fp_X12_fill_r125d h0 h → d_X12_fill_r125d_112  s0.toInt (vw h) = dr → jX m_X12_fill 9 0 0 112 [] [.int s0] h 0 0 Q := by
  intro s0 h    J Sm D
  have es0 := jfull s0
  unfold d_X12_fill_r125d_112 at D
  refine x_iret rfl rfl ?_
  exact hQ _ _ J Sm ((congrArg Prod.fst D).symm.trans (show s0.toInt = s0.toInt from by omega)) (congrArg Prod.snd D).symm
set_option maxRecDepth 100000 in
set_option maxHeartbeats 4000000 in
theorem sf_X12_fill_r125d {Dy : jH → Prop} {h : jH} {Q : Option Value → jH → Prop} {dr : (Int × jW)} {a1 : Int32} {a2 : Int32} {a3 : Int32} {a4 : Int32} {a5 : Int32} (hD : jDk Dy) (J : jJ jSgM Dy h) (D : d_X12_fill_r125d a1.toInt a2.toInt a3.toInt a4.toInt a5.toInt (vw h) = dr) (hQ : ∀ (v : Int32) hx9, jJ jSgM Dy hx9 → jSm fp_X12_fill_r125d h hx9 → dr.1 = v.toInt → dr.2 = vw hx9 → Q (some (.int v)) hx9) : jC m_X12_fill 9 0 0 [.ref 125, .int a1, .int a2, .int a3, .int a4, .int a5] h Q := by
  refine jC.of rfl k_X12_fill rfl ?_
  have Sm := jSm_rf fp_X12_fill_r125d h
  have ea1 := jfull a1
  have ea2 := jfull a2
  have ea3 := jfull a3
  have ea4 := jfull a4
  have ea5 := jfull a5
  show jX m_X12_fill 9 0 0 0 [(0, .ref 125), (1, .int a1), (2, .int a2), (3, .int a3), (4, .int a4), (5, .int a5)] [] _ 0 0 _
  unfold d_X12_fill_r125d at D
  refine x_aloadn (x := 125) rfl rfl ?_
  refine x_iconst (v := 0) rfl ki_0 ?_
  refine z_putI (N := 92) (w := 0) 12 0 rfl f_12_180 rfl (jfin_no TX12 RX12 92 rfl rfl) hD J Sm rfl rfl jk_0 (pw_125_0 (by omega)) rfl (fun h w1 J Sm => ?_)
  rw [vwf w1 (show 0 = (0 : Int32).toInt from by have := jk_0; omega)] at D
  refine x_iloadn (x := a1) rfl rfl ?_
  refine z_i2l rfl rfl (fun v2 ev2 => ?_)
  refine x_lconst (v := 0) rfl kl_0 ?_
  refine x_ldc2 (v := 5) rfl z_12_269 ?_
  refine x_inst (N := m_X12_in) (As := [.long v2, .long 0, .long 5]) (st := []) (dx9 := 1) (mc := 0) (ms := 0) (host := "") rfl t_X12_in ⟨Or.inl q_12_188, s_X12_in⟩ rfl (by decide) rfl rfl ⟨by decide, by decide⟩ (zc_X12_in rfl jkl_0 jkl_5 (fun v3 ev3 => ?_))
  show jX m_X12_fill 9 0 0 14 [(0, .ref 125), (1, .int a1), (2, .int a2), (3, .int a3), (4, .int a4), (5, .int a5)] [.int v3] _ 0 0 _
  refine x_ifeq (tgt := 56) rfl rfl (ti_eq rfl jk_0 ⟨fun c4 => ?_, fun c4 => ?_⟩)
  ·
    rw [if_neg (by omega)] at D
    exact jX.sub jsb_n (ct_X12_fill_r125d_56 hD hQ  h J Sm D)
  ·
    rw [if_pos (by omega)] at D
    refine x_iloadn (x := a3) rfl rfl ?_
    refine x_inst (N := m_X12_isDay) (As := [.int a3]) (st := []) (dx9 := 2) (mc := 0) (ms := 0) (host := "") rfl t_X12_isDay ⟨Or.inl q_12_273, s_X12_isDay⟩ rfl (by decide) rfl rfl ⟨by decide, by decide⟩ (zc_X12_isDay (d := 1) rfl (fun v5 ev5 => ?_))
    show jX m_X12_fill 9 0 0 21 [(0, .ref 125), (1, .int a1), (2, .int a2), (3, .int a3), (4, .int a4), (5, .int a5)] [.int v5] _ 0 0 _
    refine x_ifeq (tgt := 56) rfl rfl (ti_eq rfl jk_0 ⟨fun c6 => ?_, fun c6 => ?_⟩)
    ·
      rw [if_neg (by omega)] at D
      exact jX.sub jsb_n (ct_X12_fill_r125d_56 hD hQ  h J Sm D)
    ·
      rw [if_pos (by omega)] at D
      refine x_iloadn (x := a2) rfl rfl ?_
      refine z_i2l rfl rfl (fun v7 ev7 => ?_)
      refine x_lconst (v := 0) rfl kl_0 ?_
      refine x_iloadn (x := a3) rfl rfl ?_
      refine z_i2l rfl rfl (fun v8 ev8 => ?_)
      refine x_inst (N := m_X12_in) (As := [.long v7, .long 0, .long v8]) (st := []) (dx9 := 1) (mc := 0) (ms := 0) (host := "") rfl t_X12_in ⟨Or.inl q_12_188, s_X12_in⟩ rfl (by decide) rfl rfl ⟨by decide, by decide⟩ (zc_X12_in rfl jkl_0 rfl (fun v9 ev9 => ?_))
      show jX m_X12_fill 9 0 0 32 [(0, .ref 125), (1, .int a1), (2, .int a2), (3, .int a3), (4, .int a4), (5, .int a5)] [.int v9] _ 0 0 _
      refine x_ifeq (tgt := 56) rfl rfl (ti_eq rfl jk_0 ⟨fun c10 => ?_, fun c10 => ?_⟩)
      ·
        rw [if_neg (by omega)] at D
        exact jX.sub jsb_n (ct_X12_fill_r125d_56 hD hQ  h J Sm D)
      ·
        rw [if_pos (by omega)] at D
        refine x_iload (x := a4) rfl rfl ?_
        refine x_inst (N := m_X12_isDay) (As := [.int a4]) (st := []) (dx9 := 2) (mc := 0) (ms := 0) (host := "") rfl t_X12_isDay ⟨Or.inl q_12_273, s_X12_isDay⟩ rfl (by decide) rfl rfl ⟨by decide, by decide⟩ (zc_X12_isDay (d := 1) rfl (fun v11 ev11 => ?_))
        show jX m_X12_fill 9 0 0 40 [(0, .ref 125), (1, .int a1), (2, .int a2), (3, .int a3), (4, .int a4), (5, .int a5)] [.int v11] _ 0 0 _
        refine x_ifeq (tgt := 56) rfl rfl (ti_eq rfl jk_0 ⟨fun c12 => ?_, fun c12 => ?_⟩)
        ·
          rw [if_neg (by omega)] at D
          exact jX.sub jsb_n (ct_X12_fill_r125d_56 hD hQ  h J Sm D)
        ·
          rw [if_pos (by omega)] at D
          refine x_iload (x := a5) rfl rfl ?_
          refine z_i2l rfl rfl (fun v13 ev13 => ?_)
          refine x_lconst (v := 0) rfl kl_0 ?_
          refine x_ldc2 (v := 2) rfl z_12_482 ?_
          refine x_inst (N := m_X12_in) (As := [.long v13, .long 0, .long 2]) (st := []) (dx9 := 1) (mc := 0) (ms := 0) (host := "") rfl t_X12_in ⟨Or.inl q_12_188, s_X12_in⟩ rfl (by decide) rfl rfl ⟨by decide, by decide⟩ (zc_X12_in rfl jkl_0 jkl_2 (fun v14 ev14 => ?_))
          show jX m_X12_fill 9 0 0 53 [(0, .ref 125), (1, .int a1), (2, .int a2), (3, .int a3), (4, .int a4), (5, .int a5)] [.int v14] _ 0 0 _
          refine x_ifne (tgt := 58) rfl rfl (ti_ne rfl jk_0 ⟨fun c15 => ?_, fun c15 => ?_⟩)
          ·
            rw [if_pos (by omega)] at D
            refine x_aloadn (x := 125) rfl rfl ?_
            refine x_iload (x := a4) rfl rfl ?_
            refine x_inv (N := m_X12_find) (As := [.int a4]) (b := 125) (st := []) (dx9 := 8) (mc := 0) (ms := 0) (host := "") 12 rfl t_X12_find ⟨Or.inl q_12_393, i_X12_find.1, i_X12_find.2⟩ ⟨by decide, rfl⟩ (congrArg Prod.fst (J.1.1 125 (12, 92) rfl)) rfl (by decide) rfl rfl ⟨by decide, by decide⟩ (sf_X12_find_r125d (jr_of rfl (by omega)) hD J rfl  (fun h J S16 X17 => ?_))
            have Sm := jSm_tr rfl Sm S16
            rw [X17] at D
            show jX m_X12_fill 9 0 0 64 [(0, .ref 125), (1, .int a1), (2, .int a2), (3, .int a3), (4, .int a4), (5, .int a5)] [] _ 0 0 _
            refine x_iload (x := a5) rfl rfl ?_
            refine x_iconst (v := 2) rfl ki_2 ?_
            refine x_icne (tgt := 78) rfl rfl (ti_ne rfl jk_2 ⟨fun c18 => ?_, fun c18 => ?_⟩)
            ·
              rw [if_neg (by omega)] at D
              refine x_aloadn (x := 125) rfl rfl ?_
              refine x_iloadn (x := a1) rfl rfl ?_
              refine x_iloadn (x := a2) rfl rfl ?_
              refine x_iloadn (x := a3) rfl rfl ?_
              refine x_inv (N := m_X12_leastFilled) (As := [.int a1, .int a2, .int a3]) (b := 125) (st := []) (dx9 := 7) (mc := 0) (ms := 0) (host := "") 12 rfl t_X12_leastFilled ⟨Or.inl q_12_487, i_X12_leastFilled.1, i_X12_leastFilled.2⟩ ⟨by decide, rfl⟩ (congrArg Prod.fst (J.1.1 125 (12, 92) rfl)) rfl (by decide) rfl rfl ⟨by decide, by decide⟩ (sf_X12_leastFilled_r125d (jr_of rfl (by omega)) (jr_of rfl (by omega)) (jr_of rfl (by omega)) hD J rfl  (fun v22 h J S19 X20 X21 => ?_))
              have ev22 := jfull v22
              have Sm := jSm_tr rfl Sm S19
              try rw [X20] at D
              try rw [X21] at D
              show jX m_X12_fill 9 0 0 85 [(0, .ref 125), (1, .int a1), (2, .int a2), (3, .int a3), (4, .int a4), (5, .int a5)] [.int v22] _ 0 0 _
              refine x_istore (lsx9 := [(6, .int v22), (0, .ref 125), (1, .int a1), (2, .int a2), (3, .int a3), (4, .int a4), (5, .int a5)]) rfl rfl rfl ?_
              refine x_iload (x := a5) rfl rfl ?_
              refine x_ifne (tgt := 97) rfl rfl (ti_ne rfl jk_0 ⟨fun c23 => ?_, fun c23 => ?_⟩)
              ·
                rw [if_neg (by omega)] at D
                refine x_iload (x := v22) rfl rfl ?_
                refine x_aloadn (x := 125) rfl rfl ?_
                refine x_iloadn (x := a1) rfl rfl ?_
                refine x_iloadn (x := a3) rfl rfl ?_
                refine x_iloadn (x := a2) rfl rfl ?_
                refine z_isub rfl rfl rfl (by omega) (fun v24 ev24 => ?_)
                refine x_iconst (v := 1) rfl ki_1 ?_
                refine z_iadd rfl rfl jk_1 (by omega) (fun v25 ev25 => ?_)
                try rw [show ((a3.toInt - a2.toInt) + 1) = v25.toInt from by omega] at D
                refine x_inv (N := m_X12_mostFilled) (As := [.int a1, .int v25]) (b := 125) (st := [.int v22]) (dx9 := 4) (mc := 0) (ms := 0) (host := "") 12 rfl t_X12_mostFilled ⟨Or.inl q_12_490, i_X12_mostFilled.1, i_X12_mostFilled.2⟩ ⟨by decide, rfl⟩ (congrArg Prod.fst (J.1.1 125 (12, 92) rfl)) rfl (by decide) rfl rfl ⟨by decide, by decide⟩ (sf_X12_mostFilled_r125d (jr_of rfl (by omega)) (jr_of rfl (by omega)) hD J rfl  (fun v29 h ev29 J S26 X27 X28 => ?_))
                have Sm := jSm_tr rfl Sm S26
                try rw [X27] at D
                try rw [← X28] at D
                show jX m_X12_fill 9 0 0 109 [(6, .int v22), (0, .ref 125), (1, .int a1), (2, .int a2), (3, .int a3), (4, .int a4), (5, .int a5)] [.int v29, .int v22] _ 0 0 _
                refine x_inst (N := m_X12_more) (As := [.int v22, .int v29]) (st := []) (dx9 := 8) (mc := 0) (ms := 0) (host := "") rfl t_X12_more ⟨Or.inl q_12_431, s_X12_more⟩ rfl (by decide) rfl rfl ⟨by decide, by decide⟩ (jC.of rfl k_X12_more rfl ?_)
                show jX m_X12_more 8 0 0 0 [(0, .int v22), (1, .int v29)] [] _ 0 0 _
                refine x_iloadn (x := v22) rfl rfl ?_
                refine x_iloadn (x := v29) rfl rfl ?_
                refine x_icle (tgt := 9) rfl rfl (ti_le rfl rfl ⟨fun c30 => ?_, fun c30 => ?_⟩)
                ·
                  rw [if_pos (by omega)] at D
                  refine x_iloadn (x := v29) rfl rfl ?_
                  refine x_iret rfl rfl ?_
                  show jX m_X12_fill 9 0 0 112 [(6, .int v22), (0, .ref 125), (1, .int a1), (2, .int a2), (3, .int a3), (4, .int a4), (5, .int a5)] [.int v29] _ 0 0 _
                  exact jX.sub jsb_n (ct_X12_fill_r125d_112 hD hQ  v29 h J Sm D)
                ·
                  rw [if_neg (by omega)] at D
                  refine x_iloadn (x := v22) rfl rfl ?_
                  refine x_goto (tgt := 10) rfl rfl ?_
                  refine x_iret rfl rfl ?_
                  show jX m_X12_fill 9 0 0 112 [(6, .int v22), (0, .ref 125), (1, .int a1), (2, .int a2), (3, .int a3), (4, .int a4), (5, .int a5)] [.int v22] _ 0 0 _
                  exact jX.sub jsb_n (ct_X12_fill_r125d_112 hD hQ  v22 h J Sm D)
              ·
                rw [if_pos (by omega)] at D
                refine x_iload (x := v22) rfl rfl ?_
                refine x_goto (tgt := 112) rfl rfl ?_
                exact jX.sub jsb_n (ct_X12_fill_r125d_112 hD hQ  v22 h J Sm D)
            ·
              rw [if_pos (by omega)] at D
              refine x_aloadn (x := 125) rfl rfl ?_
              refine x_iloadn (x := a1) rfl rfl ?_
              refine x_iloadn (x := a2) rfl rfl ?_
              refine x_iloadn (x := a3) rfl rfl ?_
              refine x_inv (N := m_X12_guessFilled) (As := [.int a1, .int a2, .int a3]) (b := 125) (st := []) (dx9 := 3) (mc := 0) (ms := 0) (host := "") 12 rfl t_X12_guessFilled ⟨Or.inl q_12_484, i_X12_guessFilled.1, i_X12_guessFilled.2⟩ ⟨by decide, rfl⟩ (congrArg Prod.fst (J.1.1 125 (12, 92) rfl)) rfl (by decide) rfl rfl ⟨by decide, by decide⟩ (sf_X12_guessFilled_r125d (jr_of rfl (by omega)) (jr_of rfl (by omega)) (jr_of rfl (by omega)) hD J rfl  (fun v34 h J S31 X32 X33 => ?_))
              have ev34 := jfull v34
              have Sm := jSm_tr rfl Sm S31
              try rw [X32] at D
              try rw [← X33] at D
              show jX m_X12_fill 9 0 0 77 [(0, .ref 125), (1, .int a1), (2, .int a2), (3, .int a3), (4, .int a4), (5, .int a5)] [.int v34] _ 0 0 _
              refine x_iret rfl rfl ?_
              exact hQ _ _ J Sm ((congrArg Prod.fst D).symm.trans (show v34.toInt = v34.toInt from by omega)) (congrArg Prod.snd D).symm
          ·
            rw [if_neg (by omega)] at D
            exact jX.sub jsb_n (ct_X12_fill_r125d_56 hD hQ  h J Sm D)
def fp_X12_servedLately_r125d : jFp := []
set_option maxRecDepth 100000 in
set_option maxHeartbeats 4000000 in
theorem ct_X12_servedLately_r125d_200045 {Dy : jH → Prop} {h0 : jH} {Q : Option Value → jH → Prop} {dr : Int} {K18 : Int → Int → Int → Int → jW → Int} {R18 : Int} (hD : jDk Dy) (hQ : ∀ (v : Int32) hx9, 0 ≤ v.toInt ∧ v.toInt ≤ 1 → jJ jSgM Dy hx9 → jSm fp_X12_servedLately_r125d h0 hx9 → dr = v.toInt → vw hx9 = vw h0 → Q (some (.int v)) hx9) (k18 : ∀ (l1 : Int32) (l2 : Int32) (l4 : Int32) (l5 : Int32) (h : jH), 399 - l5.toInt < R18 → 0 ≤ l1.toInt ∧ l1.toInt ≤ 39 → 0 ≤ l2.toInt ∧ l2.toInt ≤ 399 → 0 ≤ l4.toInt ∧ l4.toInt ≤ 1 → 0 ≤ l5.toInt ∧ l5.toInt ≤ 399 → jJ jSgM Dy h → jSm fp_X12_servedLately_r125d h0 h → K18 l1.toInt l2.toInt l4.toInt l5.toInt (vw h) = dr → vw h = vw h0 → jX m_X12_servedLately 1 0 0 18 [(0, .ref 125), (1, .int l1), (2, .int l2), (4, .int l4), (5, .int l5)] [] h 0 0 Q) : ∀ (l1 : Int32) (l2 : Int32) (l5 : Int32) (h : jH), 0 ≤ l1.toInt ∧ l1.toInt ≤ 39 → 1 ≤ l2.toInt ∧ l2.toInt ≤ 399 → 0 ≤ l5.toInt ∧ l5.toInt ≤ 398 → 399 - l5.toInt ≤ R18 → jJ jSgM Dy h → jSm fp_X12_servedLately_r125d h0 h → d_X12_servedLately_r125d_200045 K18  l1.toInt l2.toInt l5.toInt (vw h) = dr → vw h = vw h0 → jX m_X12_servedLately 1 0 0 45 [(0, .ref 125), (1, .int l1), (2, .int l2), (5, .int l5)] [.int 0] h 0 0 Q := by
  intro l1 l2 l5 h y0 y1 y2  m18 J Sm D EV
  unfold d_X12_servedLately_r125d_200045 at D
  refine x_istore (lsx9 := [(4, .int 0), (0, .ref 125), (1, .int l1), (2, .int l2), (5, .int l5)]) rfl rfl rfl ?_
  refine z_iinc (x := l5) (lsx9 := fun v1 => [(5, .int v1), (4, .int 0), (0, .ref 125), (1, .int l1), (2, .int l2)]) rfl rfl rfl jko_1 (by omega) rfl (fun _ => rfl) (fun v1 ev1 => ?_)
  refine x_goto (tgt := 18) rfl rfl ?_
  try rw [show (l5.toInt + 1) = v1.toInt from by omega] at D
  exact jX.sub (jsb_c rfl (jsb_c rfl (jsb_c rfl (jsb_c rfl (jsb_c rfl jsb_n))))) (k18 l1 l2 0 v1 h (by omega) (jr_of rfl (by omega)) (jr_of rfl (by omega)) (jr_of jk_0 (by omega)) (jr_of rfl (by omega)) J Sm (by rw [jk_0]; exact D) EV)
set_option maxRecDepth 100000 in
set_option maxHeartbeats 4000000 in
theorem ct_X12_servedLately_r125d_300045 {Dy : jH → Prop} {h0 : jH} {Q : Option Value → jH → Prop} {dr : Int} {K18 : Int → Int → Int → Int → jW → Int} {R18 : Int} (hD : jDk Dy) (hQ : ∀ (v : Int32) hx9, 0 ≤ v.toInt ∧ v.toInt ≤ 1 → jJ jSgM Dy hx9 → jSm fp_X12_servedLately_r125d h0 hx9 → dr = v.toInt → vw hx9 = vw h0 → Q (some (.int v)) hx9) (k18 : ∀ (l1 : Int32) (l2 : Int32) (l4 : Int32) (l5 : Int32) (h : jH), 399 - l5.toInt < R18 → 0 ≤ l1.toInt ∧ l1.toInt ≤ 39 → 0 ≤ l2.toInt ∧ l2.toInt ≤ 399 → 0 ≤ l4.toInt ∧ l4.toInt ≤ 1 → 0 ≤ l5.toInt ∧ l5.toInt ≤ 399 → jJ jSgM Dy h → jSm fp_X12_servedLately_r125d h0 h → K18 l1.toInt l2.toInt l4.toInt l5.toInt (vw h) = dr → vw h = vw h0 → jX m_X12_servedLately 1 0 0 18 [(0, .ref 125), (1, .int l1), (2, .int l2), (4, .int l4), (5, .int l5)] [] h 0 0 Q) : ∀ (l1 : Int32) (l2 : Int32) (l5 : Int32) (h : jH), 0 ≤ l1.toInt ∧ l1.toInt ≤ 39 → 1 ≤ l2.toInt ∧ l2.toInt ≤ 399 → 0 ≤ l5.toInt ∧ l5.toInt ≤ 398 → 399 - l5.toInt ≤ R18 → jJ jSgM Dy h → jSm fp_X12_servedLately_r125d h0 h → d_X12_servedLately_r125d_300045 K18  l1.toInt l2.toInt l5.toInt (vw h) = dr → vw h = vw h0 → jX m_X12_servedLately 1 0 0 45 [(0, .ref 125), (1, .int l1), (2, .int l2), (5, .int l5)] [.int 1] h 0 0 Q := by
  intro l1 l2 l5 h y0 y1 y2  m18 J Sm D EV
  unfold d_X12_servedLately_r125d_300045 at D
  refine x_istore (lsx9 := [(4, .int 1), (0, .ref 125), (1, .int l1), (2, .int l2), (5, .int l5)]) rfl rfl rfl ?_
  refine z_iinc (x := l5) (lsx9 := fun v1 => [(5, .int v1), (4, .int 1), (0, .ref 125), (1, .int l1), (2, .int l2)]) rfl rfl rfl jko_1 (by omega) rfl (fun _ => rfl) (fun v1 ev1 => ?_)
  refine x_goto (tgt := 18) rfl rfl ?_
  try rw [show (l5.toInt + 1) = v1.toInt from by omega] at D
  exact jX.sub (jsb_c rfl (jsb_c rfl (jsb_c rfl (jsb_c rfl (jsb_c rfl jsb_n))))) (k18 l1 l2 1 v1 h (by omega) (jr_of rfl (by omega)) (jr_of rfl (by omega)) (jr_of jk_1 (by omega)) (jr_of rfl (by omega)) J Sm (by rw [jk_1]; exact D) EV)
set_option maxRecDepth 100000 in
set_option maxHeartbeats 4000000 in
theorem ct_X12_servedLately_r125d_40 {Dy : jH → Prop} {h0 : jH} {Q : Option Value → jH → Prop} {dr : Int} {K18 : Int → Int → Int → Int → jW → Int} {R18 : Int} (hD : jDk Dy) (hQ : ∀ (v : Int32) hx9, 0 ≤ v.toInt ∧ v.toInt ≤ 1 → jJ jSgM Dy hx9 → jSm fp_X12_servedLately_r125d h0 hx9 → dr = v.toInt → vw hx9 = vw h0 → Q (some (.int v)) hx9) (k18 : ∀ (l1 : Int32) (l2 : Int32) (l4 : Int32) (l5 : Int32) (h : jH), 399 - l5.toInt < R18 → 0 ≤ l1.toInt ∧ l1.toInt ≤ 39 → 0 ≤ l2.toInt ∧ l2.toInt ≤ 399 → 0 ≤ l4.toInt ∧ l4.toInt ≤ 1 → 0 ≤ l5.toInt ∧ l5.toInt ≤ 399 → jJ jSgM Dy h → jSm fp_X12_servedLately_r125d h0 h → K18 l1.toInt l2.toInt l4.toInt l5.toInt (vw h) = dr → vw h = vw h0 → jX m_X12_servedLately 1 0 0 18 [(0, .ref 125), (1, .int l1), (2, .int l2), (4, .int l4), (5, .int l5)] [] h 0 0 Q) : ∀ (l1 : Int32) (l2 : Int32) (l5 : Int32) (h : jH), 0 ≤ l1.toInt ∧ l1.toInt ≤ 39 → 1 ≤ l2.toInt ∧ l2.toInt ≤ 399 → 0 ≤ l5.toInt ∧ l5.toInt ≤ 398 → 399 - l5.toInt ≤ R18 → jJ jSgM Dy h → jSm fp_X12_servedLately_r125d h0 h → d_X12_servedLately_r125d_40 K18  l1.toInt l2.toInt l5.toInt (vw h) = dr → vw h = vw h0 → jX m_X12_servedLately 1 0 0 40 [(0, .ref 125), (1, .int l1), (2, .int l2), (5, .int l5)] [] h 0 0 Q := by
  intro l1 l2 l5 h y0 y1 y2  m18 J Sm D EV
  unfold d_X12_servedLately_r125d_40 at D
  refine x_iconst (v := 1) rfl ki_1 ?_
  refine x_goto (tgt := 45) rfl rfl ?_
  exact jX.sub (jsb_c rfl (jsb_c rfl (jsb_c rfl (jsb_c rfl jsb_n)))) (ct_X12_servedLately_r125d_300045 hD hQ k18 l1 l2 l5 h (jr_of rfl (by omega)) (jr_of rfl (by omega)) (jr_of rfl (by omega)) (by omega) J Sm D EV)
