set_option maxRecDepth 100000 in
set_option maxHeartbeats 4000000 in
theorem ct_X12_servedLately_r125d_18 {Dy : jH → Prop} {h0 : jH} {Q : Option Value → jH → Prop} {dr : Int} (hD : jDk Dy) (hQ : ∀ (v : Int32) hx9, 0 ≤ v.toInt ∧ v.toInt ≤ 1 → jJ jSgM Dy hx9 → jSm fp_X12_servedLately_r125d h0 hx9 → dr = v.toInt → vw hx9 = vw h0 → Q (some (.int v)) hx9) : ∀ r : Nat, ∀ (l1 : Int32) (l2 : Int32) (l4 : Int32) (l5 : Int32) (h : jH), 399 - l5.toInt < (r : Int) → 0 ≤ l1.toInt ∧ l1.toInt ≤ 39 → 0 ≤ l2.toInt ∧ l2.toInt ≤ 399 → 0 ≤ l4.toInt ∧ l4.toInt ≤ 1 → 0 ≤ l5.toInt ∧ l5.toInt ≤ 399 → jJ jSgM Dy h → jSm fp_X12_servedLately_r125d h0 h → d_X12_servedLately_r125d_18 r l1.toInt l2.toInt l4.toInt l5.toInt (vw h) = dr → vw h = vw h0 → jX m_X12_servedLately 1 0 0 18 [(0, .ref 125), (1, .int l1), (2, .int l2), (4, .int l4), (5, .int l5)] [] h 0 0 Q := by
  intro r
  induction r with
  | zero =>
    intro l1 l2 l4 l5 h hm y0 y1 y2 y3   J Sm D EV
    exfalso
    omega
  | succ r ih =>
    intro l1 l2 l4 l5 h hm y0 y1 y2 y3   J Sm D EV
    rw [d_X12_servedLately_r125d_18.eq_2] at D
    refine x_iload (x := l5) rfl rfl ?_
    refine x_iloadn (x := l2) rfl rfl ?_
    refine x_icge (tgt := 53) rfl rfl (ti_ge rfl rfl ⟨fun c1 => ?_, fun c1 => ?_⟩)
    ·
      rw [if_pos (by omega)] at D
      refine x_iload (x := l4) rfl rfl ?_
      refine x_zret rfl rfl (jz01 (by omega)) ?_
      exact hQ _ _ (jr_of rfl (by omega)) J Sm (D.symm.trans (show l4.toInt = l4.toInt from by omega)) EV
    ·
      rw [if_neg (by omega)] at D
      refine x_iload (x := l4) rfl rfl ?_
      refine x_ifne (tgt := 40) rfl rfl (ti_ne rfl jk_0 ⟨fun c2 => ?_, fun c2 => ?_⟩)
      ·
        rw [if_neg (by omega)] at D
        exact jX.sub (jsb_c rfl (jsb_c rfl (jsb_c rfl (jsb_c rfl jsb_n)))) (ct_X12_servedLately_r125d_40 hD hQ ih l1 l2 l5 h (jr_of rfl (by omega)) (jr_of rfl (by omega)) (jr_of rfl (by omega)) (by omega) J Sm D EV)
      ·
        rw [if_pos (by omega)] at D
        refine x_aloadn (x := 125) rfl rfl ?_
        refine z_getR (N := 92) (b := 168) 12 83 rfl f_12_162 rfl J rfl 16083 ⟨rfl, rfl⟩ rfl ?_
        refine x_iload (x := l5) rfl rfl ?_
        refine z_iald (N := 400) rfl J rfl sg_168_0_400_1_0_1 rfl (by omega) (fun v3 qv3 ev3 => ?_)
        try rw [vrd qv3 (show l5.toInt = l5.toInt from by omega)] at D
        refine x_iloadn (x := l1) rfl rfl ?_
        refine x_icne (tgt := 44) rfl rfl (ti_ne rfl rfl ⟨fun c4 => ?_, fun c4 => ?_⟩)
        ·
          rw [if_neg (by omega)] at D
          refine x_iconst (v := 0) rfl ki_0 ?_
          exact jX.sub (jsb_c rfl (jsb_c rfl (jsb_c rfl (jsb_c rfl jsb_n)))) (ct_X12_servedLately_r125d_200045 hD hQ ih l1 l2 l5 h (jr_of rfl (by omega)) (jr_of rfl (by omega)) (jr_of rfl (by omega)) (by omega) J Sm D EV)
        ·
          rw [if_pos (by omega)] at D
          exact jX.sub (jsb_c rfl (jsb_c rfl (jsb_c rfl (jsb_c rfl jsb_n)))) (ct_X12_servedLately_r125d_40 hD hQ ih l1 l2 l5 h (jr_of rfl (by omega)) (jr_of rfl (by omega)) (jr_of rfl (by omega)) (by omega) J Sm D EV)
set_option maxRecDepth 100000 in
set_option maxHeartbeats 4000000 in
theorem ct_X12_servedLately_r125d_16 {Dy : jH → Prop} {h0 : jH} {Q : Option Value → jH → Prop} {dr : Int} (hD : jDk Dy) (hQ : ∀ (v : Int32) hx9, 0 ≤ v.toInt ∧ v.toInt ≤ 1 → jJ jSgM Dy hx9 → jSm fp_X12_servedLately_r125d h0 hx9 → dr = v.toInt → vw hx9 = vw h0 → Q (some (.int v)) hx9) : ∀ (l1 : Int32) (l2 : Int32) (s0 : Int32) (h : jH), 0 ≤ l1.toInt ∧ l1.toInt ≤ 39 → 0 ≤ l2.toInt ∧ l2.toInt ≤ 399 → (-399) ≤ s0.toInt ∧ s0.toInt ≤ 399 → 0 ≤ s0.toInt → jJ jSgM Dy h → jSm fp_X12_servedLately_r125d h0 h → d_X12_servedLately_r125d_16  l1.toInt l2.toInt s0.toInt (vw h) = dr → vw h = vw h0 → jX m_X12_servedLately 1 0 0 16 [(0, .ref 125), (1, .int l1), (2, .int l2), (4, .int 0)] [.int s0] h 0 0 Q := by
  intro l1 l2 s0 h y0 y1 y2 y3   J Sm D EV
  unfold d_X12_servedLately_r125d_16 at D
  refine x_istore (lsx9 := [(5, .int s0), (0, .ref 125), (1, .int l1), (2, .int l2), (4, .int 0)]) rfl rfl rfl ?_
  exact jX.sub (jsb_c rfl (jsb_c rfl (jsb_c rfl (jsb_c rfl (jsb_c rfl jsb_n))))) (ct_X12_servedLately_r125d_18 hD hQ  400 l1 l2 0 s0 h (by omega) (jr_of rfl (by omega)) (jr_of rfl (by omega)) (jr_of jk_0 (by omega)) (jr_of rfl (by omega)) J Sm (by rw [jk_0]; exact D) EV)
set_option maxRecDepth 100000 in
set_option maxHeartbeats 4000000 in
theorem ct_X12_servedLately_r125d_200016 {Dy : jH → Prop} {h0 : jH} {Q : Option Value → jH → Prop} {dr : Int} (hD : jDk Dy) (hQ : ∀ (v : Int32) hx9, 0 ≤ v.toInt ∧ v.toInt ≤ 1 → jJ jSgM Dy hx9 → jSm fp_X12_servedLately_r125d h0 hx9 → dr = v.toInt → vw hx9 = vw h0 → Q (some (.int v)) hx9) : ∀ (l1 : Int32) (l2 : Int32) (h : jH), 0 ≤ l1.toInt ∧ l1.toInt ≤ 39 → 0 ≤ l2.toInt ∧ l2.toInt ≤ 399 → jJ jSgM Dy h → jSm fp_X12_servedLately_r125d h0 h → d_X12_servedLately_r125d_200016  l1.toInt l2.toInt (vw h) = dr → vw h = vw h0 → jX m_X12_servedLately 1 0 0 16 [(0, .ref 125), (1, .int l1), (2, .int l2), (4, .int 0)] [.int 0] h 0 0 Q := by
  intro l1 l2 h y0 y1   J Sm D EV
  unfold d_X12_servedLately_r125d_200016 at D
  refine x_istore (lsx9 := [(5, .int 0), (0, .ref 125), (1, .int l1), (2, .int l2), (4, .int 0)]) rfl rfl rfl ?_
  exact jX.sub (jsb_c rfl (jsb_c rfl (jsb_c rfl (jsb_c rfl (jsb_c rfl jsb_n))))) (ct_X12_servedLately_r125d_18 hD hQ  400 l1 l2 0 0 h (by have := jk_0; omega) (jr_of rfl (by omega)) (jr_of rfl (by omega)) (jr_of jk_0 (by omega)) (jr_of jk_0 (by omega)) J Sm (by rw [jk_0]; exact D) EV)
set_option maxRecDepth 100000 in
set_option maxHeartbeats 4000000 in
theorem sf_X12_servedLately_r125d {Dy : jH → Prop} {h : jH} {Q : Option Value → jH → Prop} {dr : Int} {a1 : Int32} {a2 : Int32} {a3 : Int32} (y1 : 0 ≤ a1.toInt ∧ a1.toInt ≤ 39) (y2 : 0 ≤ a2.toInt ∧ a2.toInt ≤ 399) (y3 : 0 ≤ a3.toInt ∧ a3.toInt ≤ 399) (hD : jDk Dy) (J : jJ jSgM Dy h) (D : d_X12_servedLately_r125d a1.toInt a2.toInt a3.toInt (vw h) = dr) (hQ : ∀ (v : Int32) hx9, 0 ≤ v.toInt ∧ v.toInt ≤ 1 → jJ jSgM Dy hx9 → jSm fp_X12_servedLately_r125d h hx9 → dr = v.toInt → vw hx9 = vw h → Q (some (.int v)) hx9) : jC m_X12_servedLately 1 0 0 [.ref 125, .int a1, .int a2, .int a3] h Q := by
  refine jC.of rfl k_X12_servedLately rfl ?_
  have Sm := jSm_rf fp_X12_servedLately_r125d h
  show jX m_X12_servedLately 1 0 0 0 [(0, .ref 125), (1, .int a1), (2, .int a2), (3, .int a3)] [] _ 0 0 _
  unfold d_X12_servedLately_r125d at D
  have EV : vw h = vw h := rfl
  refine x_iconst (v := 0) rfl ki_0 ?_
  refine x_istore (lsx9 := [(4, .int 0), (0, .ref 125), (1, .int a1), (2, .int a2), (3, .int a3)]) rfl rfl rfl ?_
  refine x_iloadn (x := a2) rfl rfl ?_
  refine x_iloadn (x := a3) rfl rfl ?_
  refine z_isub rfl rfl rfl (by omega) (fun v1 ev1 => ?_)
  refine x_ifge (tgt := 13) rfl rfl (ti_ge rfl jk_0 ⟨fun c2 => ?_, fun c2 => ?_⟩)
  ·
    rw [if_pos (by omega)] at D
    refine x_iloadn (x := a2) rfl rfl ?_
    refine x_iloadn (x := a3) rfl rfl ?_
    refine z_isub rfl rfl rfl (by omega) (fun v3 ev3 => ?_)
    try rw [show (a2.toInt - a3.toInt) = v3.toInt from by omega] at D
    exact jX.sub (jsb_c rfl (jsb_c rfl (jsb_c rfl (jsb_c rfl jsb_n)))) (ct_X12_servedLately_r125d_16 hD hQ  a1 a2 v3 h (jr_of rfl (by omega)) (jr_of rfl (by omega)) (jr_of rfl (by omega)) (by omega) J Sm D EV)
  ·
    rw [if_neg (by omega)] at D
    refine x_iconst (v := 0) rfl ki_0 ?_
    refine x_goto (tgt := 16) rfl rfl ?_
    exact jX.sub (jsb_c rfl (jsb_c rfl (jsb_c rfl (jsb_c rfl jsb_n)))) (ct_X12_servedLately_r125d_200016 hD hQ  a1 a2 h (jr_of rfl (by omega)) (jr_of rfl (by omega)) J Sm D EV)
def fp_X12_turnClause_r125d : jFp := [(125, 57, 58), (152, 0, 360), (153, 0, 30)]
set_option maxRecDepth 100000 in
set_option maxHeartbeats 4000000 in
theorem ct_X12_turnClause_r125d_119 {Dy : jH → Prop} {h0 : jH} {Q : Option Value → jH → Prop} {dr : (Int × jW)} {K5 : Int → Int → Int → Int → jW → (Int × jW)} {R5 : Int} (hD : jDk Dy) (hQ : ∀ (v : Int32) hx9, (-1) ≤ v.toInt ∧ v.toInt ≤ 359 → jJ jSgM Dy hx9 → jSm fp_X12_turnClause_r125d h0 hx9 → jTc v hx9 → dr.1 = v.toInt → dr.2 = vw hx9 → Q (some (.int v)) hx9) (k5 : ∀ (l1 : Int32) (l2 : Int32) (l3 : Int32) (l4 : Int32) (h : jH), 720 - l4.toInt < R5 → 0 ≤ l1.toInt ∧ l1.toInt ≤ 3 → 0 ≤ l2.toInt ∧ l2.toInt ≤ 146034 → l2.toInt % 366 = 0 → (-1) ≤ l3.toInt ∧ l3.toInt ≤ 359 → 0 ≤ l4.toInt ∧ l4.toInt ≤ 720 → jTc l3 h → jJ jSgM Dy h → jSm fp_X12_turnClause_r125d h0 h → K5 l1.toInt l2.toInt l3.toInt l4.toInt (vw h) = dr → jX m_X12_turnClause 5 0 0 5 [(0, .ref 125), (1, .int l1), (2, .int l2), (3, .int l3), (4, .int l4)] [] h 0 0 Q) : ∀ (l1 : Int32) (l2 : Int32) (l3 : Int32) (l4 : Int32) (h : jH), 0 ≤ l1.toInt ∧ l1.toInt ≤ 3 → 0 ≤ l2.toInt ∧ l2.toInt ≤ 146034 → l2.toInt % 366 = 0 → (-1) ≤ l3.toInt ∧ l3.toInt ≤ 359 → 0 ≤ l4.toInt ∧ l4.toInt ≤ 719 → jTc l3 h → 720 - l4.toInt ≤ R5 → jJ jSgM Dy h → jSm fp_X12_turnClause_r125d h0 h → d_X12_turnClause_r125d_119 K5  l1.toInt l2.toInt l3.toInt l4.toInt (vw h) = dr → jX m_X12_turnClause 5 0 0 119 [(0, .ref 125), (1, .int l1), (2, .int l2), (3, .int l3), (4, .int l4)] [] h 0 0 Q := by
  intro l1 l2 l3 l4 h y0 y1 y2 y3 y4 C0  m5 J Sm D
  unfold d_X12_turnClause_r125d_119 at D
  refine z_iinc (x := l4) (lsx9 := fun v1 => [(4, .int v1), (0, .ref 125), (1, .int l1), (2, .int l2), (3, .int l3)]) rfl rfl rfl jko_1 (by omega) rfl (fun _ => rfl) (fun v1 ev1 => ?_)
  refine x_goto (tgt := 5) rfl rfl ?_
  try rw [show (l4.toInt + 1) = v1.toInt from by omega] at D
  exact jX.sub (jsb_c rfl (jsb_c rfl (jsb_c rfl (jsb_c rfl (jsb_c rfl jsb_n))))) (k5 l1 l2 l3 v1 h (by omega) (jr_of rfl (by omega)) (jr_of rfl (by omega)) (jr_mod rfl (by omega)) (jr_of rfl (by omega)) (jr_of rfl (by omega)) C0 J Sm D)
set_option maxRecDepth 100000 in
set_option maxHeartbeats 4000000 in
theorem ct_X12_turnClause_r125d_5 {Dy : jH → Prop} {h0 : jH} {Q : Option Value → jH → Prop} {dr : (Int × jW)} (hD : jDk Dy) (hQ : ∀ (v : Int32) hx9, (-1) ≤ v.toInt ∧ v.toInt ≤ 359 → jJ jSgM Dy hx9 → jSm fp_X12_turnClause_r125d h0 hx9 → jTc v hx9 → dr.1 = v.toInt → dr.2 = vw hx9 → Q (some (.int v)) hx9) : ∀ r : Nat, ∀ (l1 : Int32) (l2 : Int32) (l3 : Int32) (l4 : Int32) (h : jH), 720 - l4.toInt < (r : Int) → 0 ≤ l1.toInt ∧ l1.toInt ≤ 3 → 0 ≤ l2.toInt ∧ l2.toInt ≤ 146034 → l2.toInt % 366 = 0 → (-1) ≤ l3.toInt ∧ l3.toInt ≤ 359 → 0 ≤ l4.toInt ∧ l4.toInt ≤ 720 → jTc l3 h → jJ jSgM Dy h → jSm fp_X12_turnClause_r125d h0 h → d_X12_turnClause_r125d_5 r l1.toInt l2.toInt l3.toInt l4.toInt (vw h) = dr → jX m_X12_turnClause 5 0 0 5 [(0, .ref 125), (1, .int l1), (2, .int l2), (3, .int l3), (4, .int l4)] [] h 0 0 Q := by
  intro r
  induction r with
  | zero =>
    intro l1 l2 l3 l4 h hm y0 y1 y2 y3 y4 C0   J Sm D
    exfalso
    omega
  | succ r ih =>
    intro l1 l2 l3 l4 h hm y0 y1 y2 y3 y4 C0   J Sm D
    rw [d_X12_turnClause_r125d_5.eq_2] at D
    refine x_iload (x := l4) rfl rfl ?_
    refine x_sipush (v := 720) rfl ks_720 ?_
    refine x_icge (tgt := 125) rfl rfl (ti_ge rfl jk_720 ⟨fun c1 => ?_, fun c1 => ?_⟩)
    ·
      rw [if_pos (by omega)] at D
      refine x_iloadn (x := l3) rfl rfl ?_
      refine x_iret rfl rfl ?_
      exact hQ _ _ (jr_of rfl (by omega)) J Sm C0 ((congrArg Prod.fst D).symm.trans (show l3.toInt = l3.toInt from by omega)) (congrArg Prod.snd D).symm
    ·
      rw [if_neg (by omega)] at D
      refine x_iload (x := l4) rfl rfl ?_
      refine x_sipush (v := 360) rfl ks_360 ?_
      refine z_irem rfl rfl jk_360 (by omega) (by omega) (fun v2 ev2 => ?_)
      refine x_bipush (v := 12) rfl kb_12 ?_
      refine z_idiv rfl rfl jk_12 (by omega) (by omega) (fun v3 ev3 => ?_)
      refine x_istore (lsx9 := [(5, .int v3), (0, .ref 125), (1, .int l1), (2, .int l2), (3, .int l3), (4, .int l4)]) rfl rfl rfl ?_
      refine x_iload (x := l4) rfl rfl ?_
      refine x_bipush (v := 12) rfl kb_12 ?_
      refine z_irem rfl rfl jk_12 (by omega) (by omega) (fun v4 ev4 => ?_)
      refine x_istore (lsx9 := [(6, .int v4), (5, .int v3), (0, .ref 125), (1, .int l1), (2, .int l2), (3, .int l3), (4, .int l4)]) rfl rfl rfl ?_
      refine x_aloadn (x := 125) rfl rfl ?_
      refine x_iload (x := v3) rfl rfl ?_
      refine x_iload (x := v4) rfl rfl ?_
      refine x_inv (N := m_X12_isClause) (As := [.int v3, .int v4]) (b := 125) (st := []) (dx9 := 4) (mc := 0) (ms := 0) (host := "") 12 rfl t_X12_isClause ⟨Or.inl q_12_685, i_X12_isClause.1, i_X12_isClause.2⟩ ⟨by decide, rfl⟩ (congrArg Prod.fst (J.1.1 125 (12, 92) rfl)) rfl (by decide) rfl rfl ⟨by decide, by decide⟩ (jC.of rfl k_X12_isClause rfl ?_)
      show jX m_X12_isClause 4 0 0 0 [(0, .ref 125), (1, .int v3), (2, .int v4)] [] _ 0 0 _
      refine x_iloadn (x := v3) rfl rfl ?_
      refine z_i2l rfl rfl (fun v5 ev5 => ?_)
      refine x_lconst (v := 0) rfl kl_0 ?_
      refine x_aloadn (x := 125) rfl rfl ?_
      refine z_getR (N := 92) (b := 126) 12 2 rfl f_12_8 rfl J rfl 16002 ⟨rfl, rfl⟩ rfl ?_
      refine x_iconst (v := 4) rfl ki_4 ?_
      refine z_iald (N := 50660) rfl J rfl sg_126_4_5_1_0_1 jk_4 (by omega) (fun v6 qv6 ev6 => ?_)
      try rw [vrn (n := 4) (by decide) qv6] at D
      refine z_i2l rfl rfl (fun v7 ev7 => ?_)
      refine x_lconst (v := 1) rfl kl_1 ?_
      refine z_lsub rfl rfl jkl_1 (by omega) (fun v8 ev8 => ?_)
      refine x_inst (N := m_X12_in) (As := [.long v5, .long 0, .long v8]) (st := []) (dx9 := 1) (mc := 0) (ms := 0) (host := "") rfl t_X12_in ⟨Or.inl q_12_188, s_X12_in⟩ rfl (by decide) rfl rfl ⟨by decide, by decide⟩ (zc_X12_in rfl jkl_0 rfl (fun v9 ev9 => ?_))
      show jX m_X12_isClause 4 0 0 15 [(0, .ref 125), (1, .int v3), (2, .int v4)] [.int v9] _ 0 0 _
      refine x_ifeq (tgt := 45) rfl rfl (ti_eq rfl jk_0 ⟨fun c10 => ?_, fun c10 => ?_⟩)
      ·
        rw [if_neg (by omega)] at D
        refine x_iconst (v := 0) rfl ki_0 ?_
        refine x_zret rfl rfl (by decide) ?_
        show jX m_X12_turnClause 5 0 0 39 [(6, .int v4), (5, .int v3), (0, .ref 125), (1, .int l1), (2, .int l2), (3, .int l3), (4, .int l4)] [.int 0] _ 0 0 _
        refine x_ifeq (tgt := 119) rfl rfl (ti_eq jk_0 jk_0 (br_t (by omega) ?_))
        exact jX.sub (jsb_c rfl (jsb_c rfl (jsb_c rfl (jsb_c rfl (jsb_c rfl jsb_n))))) (ct_X12_turnClause_r125d_119 hD hQ ih l1 l2 l3 l4 h (jr_of rfl (by omega)) (jr_of rfl (by omega)) (jr_mod rfl (by omega)) (jr_of rfl (by omega)) (jr_of rfl (by omega)) C0 (by omega) J Sm D)
      ·
        rw [if_pos (by omega)] at D
        refine x_iloadn (x := v4) rfl rfl ?_
        refine z_i2l rfl rfl (fun v11 ev11 => ?_)
        refine x_lconst (v := 0) rfl kl_0 ?_
        refine x_aloadn (x := 125) rfl rfl ?_
        refine z_getR (N := 92) (b := 126) 12 2 rfl f_12_8 rfl J rfl 16002 ⟨rfl, rfl⟩ rfl ?_
        refine x_iloadn (x := v3) rfl rfl ?_
        refine x_inst (N := m_X12_textAt) (As := [.int v3]) (st := [.ref 126, .long 0, .long v11]) (dx9 := 3) (mc := 0) (ms := 0) (host := "") rfl t_X12_textAt ⟨Or.inl q_12_676, s_X12_textAt⟩ rfl (by decide) rfl rfl ⟨by decide, by decide⟩ (jC.of rfl k_X12_textAt rfl ?_)
        show jX m_X12_textAt 3 0 0 0 [(0, .int v3)] [] _ 0 0 _
        refine x_sipush (v := 18820) rfl ks_18820 ?_
        refine x_sipush (v := 924) rfl ks_924 ?_
        refine x_iloadn (x := v3) rfl rfl ?_
        refine z_imul rfl jk_924 rfl (by omega) (fun v12 ev12 => ?_)
        refine z_iadd rfl jk_18820 rfl (by omega) (fun v13 ev13 => ?_)
        refine x_iret rfl rfl ?_
        show jX m_X12_isClause 4 0 0 29 [(0, .ref 125), (1, .int v3), (2, .int v4)] [.int v13, .ref 126, .long 0, .long v11] _ 0 0 _
        refine x_iconst (v := 3) rfl ki_3 ?_
        refine z_iadd rfl rfl jk_3 (by omega) (fun v14 ev14 => ?_)
        refine z_iald (N := 50660) rfl J rfl sg_126_18820_46540_924_3_4 rfl (by omega) (fun v15 qv15 ev15 => ?_)
        try rw [vrd qv15 (show ((18820 + (924 * ((l4.toInt % 360) / 12))) + 3) = v14.toInt from by omega)] at D
        refine z_i2l rfl rfl (fun v16 ev16 => ?_)
        refine x_lconst (v := 1) rfl kl_1 ?_
        refine z_lsub rfl rfl jkl_1 (by omega) (fun v17 ev17 => ?_)
        refine x_inst (N := m_X12_in) (As := [.long v11, .long 0, .long v17]) (st := []) (dx9 := 1) (mc := 0) (ms := 0) (host := "") rfl t_X12_in ⟨Or.inl q_12_188, s_X12_in⟩ rfl (by decide) rfl rfl ⟨by decide, by decide⟩ (zc_X12_in rfl jkl_0 rfl (fun v18 ev18 => ?_))
        show jX m_X12_isClause 4 0 0 38 [(0, .ref 125), (1, .int v3), (2, .int v4)] [.int v18] _ 0 0 _
        refine x_ifeq (tgt := 45) rfl rfl (ti_eq rfl jk_0 ⟨fun c19 => ?_, fun c19 => ?_⟩)
        ·
          rw [if_neg (by omega)] at D
          refine x_iconst (v := 0) rfl ki_0 ?_
          refine x_zret rfl rfl (by decide) ?_
          show jX m_X12_turnClause 5 0 0 39 [(6, .int v4), (5, .int v3), (0, .ref 125), (1, .int l1), (2, .int l2), (3, .int l3), (4, .int l4)] [.int 0] _ 0 0 _
          refine x_ifeq (tgt := 119) rfl rfl (ti_eq jk_0 jk_0 (br_t (by omega) ?_))
          exact jX.sub (jsb_c rfl (jsb_c rfl (jsb_c rfl (jsb_c rfl (jsb_c rfl jsb_n))))) (ct_X12_turnClause_r125d_119 hD hQ ih l1 l2 l3 l4 h (jr_of rfl (by omega)) (jr_of rfl (by omega)) (jr_mod rfl (by omega)) (jr_of rfl (by omega)) (jr_of rfl (by omega)) C0 (by omega) J Sm D)
        ·
          rw [if_pos (by omega)] at D
          refine x_iconst (v := 1) rfl ki_1 ?_
          refine x_goto (tgt := 46) rfl rfl ?_
          refine x_zret rfl rfl (by decide) ?_
          show jX m_X12_turnClause 5 0 0 39 [(6, .int v4), (5, .int v3), (0, .ref 125), (1, .int l1), (2, .int l2), (3, .int l3), (4, .int l4)] [.int 1] _ 0 0 _
          refine x_ifeq (tgt := 119) rfl rfl (ti_eq jk_1 jk_0 (br_f (by omega) ?_))
          refine x_aloadn (x := 125) rfl rfl ?_
          refine z_getR (N := 92) (b := 126) 12 2 rfl f_12_8 rfl J rfl 16002 ⟨rfl, rfl⟩ rfl ?_
          refine x_iload (x := v3) rfl rfl ?_
          refine x_inst (N := m_X12_textAt) (As := [.int v3]) (st := [.ref 126]) (dx9 := 4) (mc := 0) (ms := 0) (host := "") rfl t_X12_textAt ⟨Or.inl q_12_676, s_X12_textAt⟩ rfl (by decide) rfl rfl ⟨by decide, by decide⟩ (jC.of rfl k_X12_textAt rfl ?_)
          show jX m_X12_textAt 4 0 0 0 [(0, .int v3)] [] _ 0 0 _
          refine x_sipush (v := 18820) rfl ks_18820 ?_
          refine x_sipush (v := 924) rfl ks_924 ?_
          refine x_iloadn (x := v3) rfl rfl ?_
          refine z_imul rfl jk_924 rfl (by omega) (fun v20 ev20 => ?_)
          refine z_iadd rfl jk_18820 rfl (by omega) (fun v21 ev21 => ?_)
          refine x_iret rfl rfl ?_
          show jX m_X12_turnClause 5 0 0 51 [(6, .int v4), (5, .int v3), (0, .ref 125), (1, .int l1), (2, .int l2), (3, .int l3), (4, .int l4)] [.int v21, .ref 126] _ 0 0 _
          refine z_iald (N := 50660) rfl J rfl sg_126_18820_46540_924_0_1 rfl (by omega) (fun v22 qv22 ev22 => ?_)
          try rw [vrd qv22 (show (18820 + (924 * ((l4.toInt % 360) / 12))) = v21.toInt from by omega)] at D
          refine x_iload (x := l4) rfl rfl ?_
          refine x_sipush (v := 360) rfl ks_360 ?_
          refine z_idiv rfl rfl jk_360 (by omega) (by omega) (fun v23 ev23 => ?_)
          refine x_icne (tgt := 119) rfl rfl (ti_ne rfl rfl ⟨fun c24 => ?_, fun c24 => ?_⟩)
          ·
            rw [if_neg (by omega)] at D
            exact jX.sub (jsb_c rfl (jsb_c rfl (jsb_c rfl (jsb_c rfl (jsb_c rfl jsb_n))))) (ct_X12_turnClause_r125d_119 hD hQ ih l1 l2 l3 l4 h (jr_of rfl (by omega)) (jr_of rfl (by omega)) (jr_mod rfl (by omega)) (jr_of rfl (by omega)) (jr_of rfl (by omega)) C0 (by omega) J Sm D)
          ·
            rw [if_pos (by omega)] at D
            refine x_aloadn (x := 125) rfl rfl ?_
            refine z_getR (N := 92) (b := 126) 12 2 rfl f_12_8 rfl J rfl 16002 ⟨rfl, rfl⟩ rfl ?_
            refine x_aloadn (x := 125) rfl rfl ?_
            refine x_iload (x := v3) rfl rfl ?_
            refine x_iload (x := v4) rfl rfl ?_
            refine x_inv (N := m_X12_clauseAt) (As := [.int v3, .int v4]) (b := 125) (st := [.ref 126]) (dx9 := 4) (mc := 0) (ms := 0) (host := "") 12 rfl t_X12_clauseAt ⟨Or.inl q_12_679, i_X12_clauseAt.1, i_X12_clauseAt.2⟩ ⟨by decide, rfl⟩ (congrArg Prod.fst (J.1.1 125 (12, 92) rfl)) rfl (by decide) rfl rfl ⟨by decide, by decide⟩ (jC.of rfl k_X12_clauseAt rfl ?_)
            show jX m_X12_clauseAt 4 0 0 0 [(0, .ref 125), (1, .int v3), (2, .int v4)] [] _ 0 0 _
            refine x_iloadn (x := v3) rfl rfl ?_
            refine x_inst (N := m_X12_textAt) (As := [.int v3]) (st := []) (dx9 := 3) (mc := 0) (ms := 0) (host := "") rfl t_X12_textAt ⟨Or.inl q_12_676, s_X12_textAt⟩ rfl (by decide) rfl rfl ⟨by decide, by decide⟩ (jC.of rfl k_X12_textAt rfl ?_)
            show jX m_X12_textAt 3 0 0 0 [(0, .int v3)] [] _ 0 0 _
            refine x_sipush (v := 18820) rfl ks_18820 ?_
            refine x_sipush (v := 924) rfl ks_924 ?_
            refine x_iloadn (x := v3) rfl rfl ?_
            refine z_imul rfl jk_924 rfl (by omega) (fun v25 ev25 => ?_)
            refine z_iadd rfl jk_18820 rfl (by omega) (fun v26 ev26 => ?_)
            refine x_iret rfl rfl ?_
            show jX m_X12_clauseAt 4 0 0 4 [(0, .ref 125), (1, .int v3), (2, .int v4)] [.int v26] _ 0 0 _
            refine x_iconst (v := 4) rfl ki_4 ?_
            refine z_iadd rfl rfl jk_4 (by omega) (fun v27 ev27 => ?_)
            refine x_bipush (v := 10) rfl kb_10 ?_
            refine x_iloadn (x := v4) rfl rfl ?_
            refine z_imul rfl jk_10 rfl (by omega) (fun v28 ev28 => ?_)
            refine z_iadd rfl rfl rfl (by omega) (fun v29 ev29 => ?_)
            refine x_iret rfl rfl ?_
            show jX m_X12_turnClause 5 0 0 73 [(6, .int v4), (5, .int v3), (0, .ref 125), (1, .int l1), (2, .int l2), (3, .int l3), (4, .int l4)] [.int v29, .ref 126] _ 0 0 _
            refine z_iald0 (N := 50660) rfl J rfl rfl (by omega) (fun v30 qv30 => ?_)
            have ev30 := jfull v30
            try rw [vrd qv30 (show (((18820 + (924 * ((l4.toInt % 360) / 12))) + 4) + (10 * (l4.toInt % 12))) = v29.toInt from by omega)] at D
            refine x_bipush (v := 6) rfl kb_6 ?_
            refine x_icne (tgt := 119) rfl rfl (ti_ne rfl jk_6 ⟨fun c31 => ?_, fun c31 => ?_⟩)
            ·
              rw [if_neg (by omega)] at D
              exact jX.sub (jsb_c rfl (jsb_c rfl (jsb_c rfl (jsb_c rfl (jsb_c rfl jsb_n))))) (ct_X12_turnClause_r125d_119 hD hQ ih l1 l2 l3 l4 h (jr_of rfl (by omega)) (jr_of rfl (by omega)) (jr_mod rfl (by omega)) (jr_of rfl (by omega)) (jr_of rfl (by omega)) C0 (by omega) J Sm D)
            ·
              rw [if_pos (by omega)] at D
              refine x_aloadn (x := 125) rfl rfl ?_
              refine z_getR (N := 92) (b := 126) 12 2 rfl f_12_8 rfl J rfl 16002 ⟨rfl, rfl⟩ rfl ?_
              refine x_aloadn (x := 125) rfl rfl ?_
              refine x_iload (x := v3) rfl rfl ?_
              refine x_iload (x := v4) rfl rfl ?_
              refine x_inv (N := m_X12_clauseAt) (As := [.int v3, .int v4]) (b := 125) (st := [.ref 126]) (dx9 := 4) (mc := 0) (ms := 0) (host := "") 12 rfl t_X12_clauseAt ⟨Or.inl q_12_679, i_X12_clauseAt.1, i_X12_clauseAt.2⟩ ⟨by decide, rfl⟩ (congrArg Prod.fst (J.1.1 125 (12, 92) rfl)) rfl (by decide) rfl rfl ⟨by decide, by decide⟩ (jC.of rfl k_X12_clauseAt rfl ?_)
              show jX m_X12_clauseAt 4 0 0 0 [(0, .ref 125), (1, .int v3), (2, .int v4)] [] _ 0 0 _
              refine x_iloadn (x := v3) rfl rfl ?_
              refine x_inst (N := m_X12_textAt) (As := [.int v3]) (st := []) (dx9 := 3) (mc := 0) (ms := 0) (host := "") rfl t_X12_textAt ⟨Or.inl q_12_676, s_X12_textAt⟩ rfl (by decide) rfl rfl ⟨by decide, by decide⟩ (jC.of rfl k_X12_textAt rfl ?_)
              show jX m_X12_textAt 3 0 0 0 [(0, .int v3)] [] _ 0 0 _
              refine x_sipush (v := 18820) rfl ks_18820 ?_
              refine x_sipush (v := 924) rfl ks_924 ?_
              refine x_iloadn (x := v3) rfl rfl ?_
              refine z_imul rfl jk_924 rfl (by omega) (fun v32 ev32 => ?_)
              refine z_iadd rfl jk_18820 rfl (by omega) (fun v33 ev33 => ?_)
              refine x_iret rfl rfl ?_
              show jX m_X12_clauseAt 4 0 0 4 [(0, .ref 125), (1, .int v3), (2, .int v4)] [.int v33] _ 0 0 _
              refine x_iconst (v := 4) rfl ki_4 ?_
              refine z_iadd rfl rfl jk_4 (by omega) (fun v34 ev34 => ?_)
              refine x_bipush (v := 10) rfl kb_10 ?_
              refine x_iloadn (x := v4) rfl rfl ?_
              refine z_imul rfl jk_10 rfl (by omega) (fun v35 ev35 => ?_)
              refine z_iadd rfl rfl rfl (by omega) (fun v36 ev36 => ?_)
              refine x_iret rfl rfl ?_
              show jX m_X12_turnClause 5 0 0 91 [(6, .int v4), (5, .int v3), (0, .ref 125), (1, .int l1), (2, .int l2), (3, .int l3), (4, .int l4)] [.int v36, .ref 126] _ 0 0 _
              refine x_iconst (v := 1) rfl ki_1 ?_
              refine z_iadd rfl rfl jk_1 (by omega) (fun v37 ev37 => ?_)
              refine z_iald0 (N := 50660) rfl J rfl rfl (by omega) (fun v38 qv38 => ?_)
              have ev38 := jfull v38
              try rw [vrd qv38 (show ((((18820 + (924 * ((l4.toInt % 360) / 12))) + 4) + (10 * (l4.toInt % 12))) + 1) = v37.toInt from by omega)] at D
              refine x_iloadn (x := l1) rfl rfl ?_
              refine x_icne (tgt := 119) rfl rfl (ti_ne rfl rfl ⟨fun c39 => ?_, fun c39 => ?_⟩)
              ·
                rw [if_neg (by omega)] at D
                exact jX.sub (jsb_c rfl (jsb_c rfl (jsb_c rfl (jsb_c rfl (jsb_c rfl jsb_n))))) (ct_X12_turnClause_r125d_119 hD hQ ih l1 l2 l3 l4 h (jr_of rfl (by omega)) (jr_of rfl (by omega)) (jr_mod rfl (by omega)) (jr_of rfl (by omega)) (jr_of rfl (by omega)) C0 (by omega) J Sm D)
              ·
                rw [if_pos (by omega)] at D
                refine x_aloadn (x := 125) rfl rfl ?_
                refine x_iload (x := v3) rfl rfl ?_
                refine x_iload (x := v4) rfl rfl ?_
                refine x_iloadn (x := l2) rfl rfl ?_
                refine x_inv (N := m_X12_isForce) (As := [.int v3, .int v4, .int l2]) (b := 125) (st := []) (dx9 := 4) (mc := 0) (ms := 0) (host := "") 12 rfl t_X12_isForce ⟨Or.inl q_12_688, i_X12_isForce.1, i_X12_isForce.2⟩ ⟨by decide, rfl⟩ (congrArg Prod.fst (J.1.1 125 (12, 92) rfl)) rfl (by decide) rfl rfl ⟨by decide, by decide⟩ (jC.of rfl k_X12_isForce rfl ?_)
                show jX m_X12_isForce 4 0 0 0 [(0, .ref 125), (1, .int v3), (2, .int v4), (3, .int l2)] [] _ 0 0 _
                refine x_aloadn (x := 125) rfl rfl ?_
                refine x_iloadn (x := l2) rfl rfl ?_
                refine x_inv (N := m_X12_findForce) (As := [.int l2]) (b := 125) (st := []) (dx9 := 3) (mc := 0) (ms := 0) (host := "") 12 rfl t_X12_findForce ⟨Or.inl q_12_682, i_X12_findForce.1, i_X12_findForce.2⟩ ⟨by decide, rfl⟩ (congrArg Prod.fst (J.1.1 125 (12, 92) rfl)) rfl (by decide) rfl rfl ⟨by decide, by decide⟩ (sf_X12_findForce_r125d (jr_of rfl (by omega)) hD J rfl  (fun h J S40 X41 => ?_))
                have Sm := jSm_tr rfl Sm S40
                rw [X41] at D
                show jX m_X12_isForce 4 0 0 5 [(0, .ref 125), (1, .int v3), (2, .int v4), (3, .int l2)] [] _ 0 0 _
                refine x_aloadn (x := 125) rfl rfl ?_
                refine z_getR (N := 92) (b := 153) 12 59 rfl f_12_117 rfl J rfl 16059 ⟨rfl, rfl⟩ rfl ?_
                refine x_iloadn (x := v3) rfl rfl ?_
                refine z_zald (N := 30) rfl J rfl sg_153_0_30_1_0_1 rfl (by omega) (fun v42 qv42 ev42 => ?_)
                try rw [vrd qv42 (show ((l4.toInt % 360) / 12) = v3.toInt from by omega)] at D
                refine x_ifeq (tgt := 32) rfl rfl (ti_eq rfl jk_0 ⟨fun c43 => ?_, fun c43 => ?_⟩)
                ·
                  rw [if_pos (by omega)] at D
                  refine x_iconst (v := 0) rfl ki_0 ?_
                  refine x_zret rfl rfl (by decide) ?_
                  show jX m_X12_turnClause 5 0 0 107 [(6, .int v4), (5, .int v3), (0, .ref 125), (1, .int l1), (2, .int l2), (3, .int l3), (4, .int l4)] [.int 0] _ 0 0 _
                  refine x_ifeq (tgt := 119) rfl rfl (ti_eq jk_0 jk_0 (br_t (by omega) ?_))
                  exact jX.sub (jsb_c rfl (jsb_c rfl (jsb_c rfl (jsb_c rfl (jsb_c rfl jsb_n))))) (ct_X12_turnClause_r125d_119 hD hQ ih l1 l2 l3 l4 h (jr_of rfl (by omega)) (jr_of rfl (by omega)) (jr_mod rfl (by omega)) (jr_of rfl (by omega)) (jr_of rfl (by omega)) (jtc_e (jeq_c S40 rfl jeq_0) C0) (by omega) J Sm D)
                ·
                  rw [if_neg (by omega)] at D
                  refine x_aloadn (x := 125) rfl rfl ?_
                  refine z_getR (N := 92) (b := 152) 12 58 rfl f_12_114 rfl J rfl 16058 ⟨rfl, rfl⟩ rfl ?_
                  refine x_bipush (v := 12) rfl kb_12 ?_
                  refine x_iloadn (x := v3) rfl rfl ?_
                  refine z_imul rfl jk_12 rfl (by omega) (fun v44 ev44 => ?_)
                  refine x_iloadn (x := v4) rfl rfl ?_
                  refine z_iadd rfl rfl rfl (by omega) (fun v45 ev45 => ?_)
                  refine z_zald (N := 360) rfl J rfl sg_152_0_360_1_0_1 rfl (by omega) (fun v46 qv46 ev46 => ?_)
                  try rw [vrd qv46 (show ((12 * ((l4.toInt % 360) / 12)) + (l4.toInt % 12)) = v45.toInt from by omega)] at D
                  refine x_ifne (tgt := 32) rfl rfl (ti_ne rfl jk_0 ⟨fun c47 => ?_, fun c47 => ?_⟩)
                  ·
                    rw [if_neg (by omega)] at D
                    refine x_iconst (v := 0) rfl ki_0 ?_
                    refine x_zret rfl rfl (by decide) ?_
                    show jX m_X12_turnClause 5 0 0 107 [(6, .int v4), (5, .int v3), (0, .ref 125), (1, .int l1), (2, .int l2), (3, .int l3), (4, .int l4)] [.int 0] _ 0 0 _
                    refine x_ifeq (tgt := 119) rfl rfl (ti_eq jk_0 jk_0 (br_t (by omega) ?_))
                    exact jX.sub (jsb_c rfl (jsb_c rfl (jsb_c rfl (jsb_c rfl (jsb_c rfl jsb_n))))) (ct_X12_turnClause_r125d_119 hD hQ ih l1 l2 l3 l4 h (jr_of rfl (by omega)) (jr_of rfl (by omega)) (jr_mod rfl (by omega)) (jr_of rfl (by omega)) (jr_of rfl (by omega)) (jtc_e (jeq_c S40 rfl jeq_0) C0) (by omega) J Sm D)
                  ·
                    rw [if_pos (by omega)] at D
                    refine x_iconst (v := 1) rfl ki_1 ?_
                    refine x_goto (tgt := 33) rfl rfl ?_
                    refine x_zret rfl rfl (by decide) ?_
                    show jX m_X12_turnClause 5 0 0 107 [(6, .int v4), (5, .int v3), (0, .ref 125), (1, .int l1), (2, .int l2), (3, .int l3), (4, .int l4)] [.int 1] _ 0 0 _
                    refine x_ifeq (tgt := 119) rfl rfl (ti_eq jk_1 jk_0 (br_f (by omega) ?_))
                    refine x_bipush (v := 12) rfl kb_12 ?_
                    refine x_iload (x := v3) rfl rfl ?_
                    refine z_imul rfl jk_12 rfl (by omega) (fun v48 ev48 => ?_)
                    refine x_iload (x := v4) rfl rfl ?_
                    refine z_iadd rfl rfl rfl (by omega) (fun v49 ev49 => ?_)
                    refine x_istoren (lsx9 := [(3, .int v49), (6, .int v4), (5, .int v3), (0, .ref 125), (1, .int l1), (2, .int l2), (4, .int l4)]) rfl rfl rfl ?_
                    try rw [show ((12 * ((l4.toInt % 360) / 12)) + (l4.toInt % 12)) = v49.toInt from by omega] at D
                    exact jX.sub (jsb_c rfl (jsb_c rfl (jsb_c rfl (jsb_c rfl (jsb_c rfl jsb_n))))) (ct_X12_turnClause_r125d_119 hD hQ ih l1 l2 v49 l4 h (jr_of rfl (by omega)) (jr_of rfl (by omega)) (jr_mod rfl (by omega)) (jr_of rfl (by omega)) (jr_of rfl (by omega)) (jtc_n (t := v3) (c := v4) (jcn (jmc S40 rfl qv15) (by omega) (by omega) (by omega)) (by omega) (by omega)) (by omega) J Sm D)
set_option maxRecDepth 100000 in
set_option maxHeartbeats 4000000 in
theorem sf_X12_turnClause_r125d {Dy : jH → Prop} {h : jH} {Q : Option Value → jH → Prop} {dr : (Int × jW)} {a1 : Int32} {a2 : Int32} (y1 : 0 ≤ a1.toInt ∧ a1.toInt ≤ 3) (y2 : 0 ≤ a2.toInt ∧ a2.toInt ≤ 146034) (ym2 : a2.toInt % 366 = 0) (hD : jDk Dy) (J : jJ jSgM Dy h) (D : d_X12_turnClause_r125d a1.toInt a2.toInt (vw h) = dr) (hQ : ∀ (v : Int32) hx9, (-1) ≤ v.toInt ∧ v.toInt ≤ 359 → jJ jSgM Dy hx9 → jSm fp_X12_turnClause_r125d h hx9 → jTc v hx9 → dr.1 = v.toInt → dr.2 = vw hx9 → Q (some (.int v)) hx9) : jC m_X12_turnClause 5 0 0 [.ref 125, .int a1, .int a2] h Q := by
  refine jC.of rfl k_X12_turnClause rfl ?_
  have Sm := jSm_rf fp_X12_turnClause_r125d h
  show jX m_X12_turnClause 5 0 0 0 [(0, .ref 125), (1, .int a1), (2, .int a2)] [] _ 0 0 _
  unfold d_X12_turnClause_r125d at D
  refine x_iconst (v := (-1)) rfl ki_m1 ?_
  refine x_istoren (lsx9 := [(3, .int (-1)), (0, .ref 125), (1, .int a1), (2, .int a2)]) rfl rfl rfl ?_
  refine x_iconst (v := 0) rfl ki_0 ?_
  refine x_istore (lsx9 := [(4, .int 0), (3, .int (-1)), (0, .ref 125), (1, .int a1), (2, .int a2)]) rfl rfl rfl ?_
  exact jX.sub (jsb_c rfl (jsb_c rfl (jsb_c rfl (jsb_c rfl (jsb_c rfl jsb_n))))) (ct_X12_turnClause_r125d_5 hD hQ  721 a1 a2 (-1) 0 h (by have := jk_0; omega) (jr_of rfl (by omega)) (jr_of rfl (by omega)) (jr_mod rfl (by omega)) (jr_of jk_m1 (by omega)) (jr_of jk_0 (by omega)) (Or.inl (by decide)) J Sm (by rw [jk_m1, jk_0]; exact D))
def fp_X12_findTurns_r125d : jFp := [(125, 32, 33), (125, 33, 34), (125, 34, 35), (125, 35, 36), (125, 57, 58), (125, 61, 62), (125, 62, 63), (125, 63, 64), (152, 0, 360), (153, 0, 30), (154, 0, 400), (162, 0, 40), (162, 40, 80), (163, 0, 40), (163, 40, 80), (164, 0, 40), (168, 0, 400), (169, 0, 400)]
set_option maxRecDepth 100000 in
set_option maxHeartbeats 4000000 in
theorem ct_X12_findTurns_r125d_251 {Dy : jH → Prop} {h0 : jH} {Q : Option Value → jH → Prop} {dr : jW} {K14 : Int → Int → Int → Int → Int → jW → jW} {R14 : Int} (hD : jDk Dy) (hQ : ∀ hx9, jJ jSgM Dy hx9 → jSm fp_X12_findTurns_r125d h0 hx9 → dr = vw hx9 → Q none hx9) (k14 : ∀ (l1 : Int32) (l2 : Int32) (l3 : Int32) (l4 : Int32) (l5 : Int32) (h : jH), 400 - l5.toInt < R14 → 0 ≤ l1.toInt ∧ l1.toInt ≤ 3 → 0 ≤ l2.toInt ∧ l2.toInt ≤ 399 → 0 ≤ l3.toInt ∧ l3.toInt ≤ 40 → 0 ≤ l4.toInt ∧ l4.toInt ≤ 39 → 0 ≤ l5.toInt ∧ l5.toInt ≤ 400 → jJ jSgM Dy h → jSm fp_X12_findTurns_r125d h0 h → K14 l1.toInt l2.toInt l3.toInt l4.toInt l5.toInt (vw h) = dr → jX m_X12_findTurns 11 0 0 14 [(0, .ref 125), (1, .int l1), (2, .int l2), (3, .int l3), (4, .int l4), (5, .int l5)] [] h 0 0 Q) : ∀ (l1 : Int32) (l2 : Int32) (l3 : Int32) (l4 : Int32) (l5 : Int32) (g0 : Int32) (h : jH), 0 ≤ l1.toInt ∧ l1.toInt ≤ 3 → 0 ≤ l2.toInt ∧ l2.toInt ≤ 399 → 0 ≤ l3.toInt ∧ l3.toInt ≤ 40 → 0 ≤ l4.toInt ∧ l4.toInt ≤ 39 → 0 ≤ l5.toInt ∧ l5.toInt ≤ 399 → (-1) ≤ g0.toInt ∧ g0.toInt ≤ 39 → (g0.toInt = -1 ∨ 1 ≤ l3.toInt) → jiv h 168 l5.toNatClampNeg = g0 → 400 - l5.toInt ≤ R14 → jJ jSgM Dy h → jSm fp_X12_findTurns_r125d h0 h → d_X12_findTurns_r125d_251 K14  l1.toInt l2.toInt l3.toInt l4.toInt l5.toInt (vw h) = dr → jX m_X12_findTurns 11 0 0 251 [(0, .ref 125), (1, .int l1), (2, .int l2), (3, .int l3), (4, .int l4), (5, .int l5)] [] h 0 0 Q := by
  intro l1 l2 l3 l4 l5 g0 h y0 y1 y2 y3 y4 y5 y6 z0 m14 J Sm D
  unfold d_X12_findTurns_r125d_251 at D
  refine z_iinc (x := l5) (lsx9 := fun v1 => [(5, .int v1), (0, .ref 125), (1, .int l1), (2, .int l2), (3, .int l3), (4, .int l4)]) rfl rfl rfl jko_1 (by omega) rfl (fun _ => rfl) (fun v1 ev1 => ?_)
  refine x_goto (tgt := 14) rfl rfl ?_
  try rw [show (l5.toInt + 1) = v1.toInt from by omega] at D
  exact jX.sub (jsb_c rfl (jsb_c rfl (jsb_c rfl (jsb_c rfl (jsb_c rfl (jsb_c rfl jsb_n)))))) (k14 l1 l2 l3 l4 v1 h (by omega) (jr_of rfl (by omega)) (jr_of rfl (by omega)) (jr_of rfl (by omega)) (jr_of rfl (by omega)) (jr_of rfl (by omega)) J Sm D)
set_option maxRecDepth 100000 in
set_option maxHeartbeats 4000000 in
theorem ct_X12_findTurns_r125d_249 {Dy : jH → Prop} {h0 : jH} {Q : Option Value → jH → Prop} {dr : jW} {K14 : Int → Int → Int → Int → Int → jW → jW} {R14 : Int} (hD : jDk Dy) (hQ : ∀ hx9, jJ jSgM Dy hx9 → jSm fp_X12_findTurns_r125d h0 hx9 → dr = vw hx9 → Q none hx9) (k14 : ∀ (l1 : Int32) (l2 : Int32) (l3 : Int32) (l4 : Int32) (l5 : Int32) (h : jH), 400 - l5.toInt < R14 → 0 ≤ l1.toInt ∧ l1.toInt ≤ 3 → 0 ≤ l2.toInt ∧ l2.toInt ≤ 399 → 0 ≤ l3.toInt ∧ l3.toInt ≤ 40 → 0 ≤ l4.toInt ∧ l4.toInt ≤ 39 → 0 ≤ l5.toInt ∧ l5.toInt ≤ 400 → jJ jSgM Dy h → jSm fp_X12_findTurns_r125d h0 h → K14 l1.toInt l2.toInt l3.toInt l4.toInt l5.toInt (vw h) = dr → jX m_X12_findTurns 11 0 0 14 [(0, .ref 125), (1, .int l1), (2, .int l2), (3, .int l3), (4, .int l4), (5, .int l5)] [] h 0 0 Q) : ∀ (l1 : Int32) (l2 : Int32) (l3 : Int32) (l5 : Int32) (s0 : Int32) (g0 : Int32) (h : jH), 0 ≤ l1.toInt ∧ l1.toInt ≤ 3 → 0 ≤ l2.toInt ∧ l2.toInt ≤ 399 → 0 ≤ l3.toInt ∧ l3.toInt ≤ 40 → 0 ≤ l5.toInt ∧ l5.toInt ≤ 399 → 0 ≤ s0.toInt ∧ s0.toInt ≤ 39 → (-1) ≤ g0.toInt ∧ g0.toInt ≤ 39 → (g0.toInt = -1 ∨ 1 ≤ l3.toInt) → jiv h 168 l5.toNatClampNeg = g0 → 400 - l5.toInt ≤ R14 → jJ jSgM Dy h → jSm fp_X12_findTurns_r125d h0 h → d_X12_findTurns_r125d_249 K14  l1.toInt l2.toInt l3.toInt l5.toInt s0.toInt (vw h) = dr → jX m_X12_findTurns 11 0 0 249 [(0, .ref 125), (1, .int l1), (2, .int l2), (3, .int l3), (5, .int l5)] [.int s0] h 0 0 Q := by
  intro l1 l2 l3 l5 s0 g0 h y0 y1 y2 y3 y4 y5 y6 z0 m14 J Sm D
  unfold d_X12_findTurns_r125d_249 at D
  refine x_istore (lsx9 := [(4, .int s0), (0, .ref 125), (1, .int l1), (2, .int l2), (3, .int l3), (5, .int l5)]) rfl rfl rfl ?_
  exact jX.sub (jsb_c rfl (jsb_c rfl (jsb_c rfl (jsb_c rfl (jsb_c rfl (jsb_c rfl jsb_n)))))) (ct_X12_findTurns_r125d_251 hD hQ k14 l1 l2 l3 s0 l5 g0 h (jr_of rfl (by omega)) (jr_of rfl (by omega)) (jr_of rfl (by omega)) (jr_of rfl (by omega)) (jr_of rfl (by omega)) (jr_of rfl (by omega)) (by omega) z0 (by omega) J Sm D)
