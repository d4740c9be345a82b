def fp_X12_dayAt_r125d : jFp := []
set_option maxRecDepth 100000 in
set_option maxHeartbeats 4000000 in
theorem sf_X12_dayAt_r125d {Dy : jH → Prop} {h : jH} {Q : Option Value → jH → Prop} {dr : Int} {a1 : Int32} (y1 : 0 ≤ a1.toInt ∧ a1.toInt ≤ 599) (hD : jDk Dy) (J : jJ jSgM Dy h) (D : d_X12_dayAt_r125d a1.toInt (vw h) = dr) (hQ : ∀ (v : Int32) hx9, 0 ≤ v.toInt ∧ v.toInt ≤ 146399 → jJ jSgM Dy hx9 → jSm fp_X12_dayAt_r125d h hx9 → dr = v.toInt → vw hx9 = vw h → Q (some (.int v)) hx9) : jC m_X12_dayAt 3 0 0 [.ref 125, .int a1] h Q := by
  refine jC.of rfl k_X12_dayAt rfl ?_
  have Sm := jSm_rf fp_X12_dayAt_r125d h
  show jX m_X12_dayAt 3 0 0 0 [(0, .ref 125), (1, .int a1)] [] _ 0 0 _
  unfold d_X12_dayAt_r125d at D
  have EV : vw h = vw h := rfl
  refine x_aloadn (x := 125) rfl rfl ?_
  refine x_iloadn (x := a1) rfl rfl ?_
  refine x_iconst (v := 3) rfl ki_3 ?_
  refine z_idiv rfl rfl jk_3 (by omega) (by omega) (fun v1 ev1 => ?_)
  refine x_inv (N := m_X12_dayOf) (As := [.int v1]) (b := 125) (st := []) (dx9 := 2) (mc := 0) (ms := 0) (host := "") 12 rfl t_X12_dayOf ⟨Or.inl q_12_335, i_X12_dayOf.1, i_X12_dayOf.2⟩ ⟨by decide, rfl⟩ (congrArg Prod.fst (J.1.1 125 (12, 92) rfl)) rfl (by decide) rfl rfl ⟨by decide, by decide⟩ (jC.of rfl k_X12_dayOf rfl ?_)
  show jX m_X12_dayOf 2 0 0 0 [(0, .ref 125), (1, .int v1)] [] _ 0 0 _
  refine x_aloadn (x := 125) rfl rfl ?_
  refine z_getR (N := 92) (b := 126) 12 2 rfl f_12_8 rfl J rfl 16002 ⟨rfl, rfl⟩ rfl ?_
  refine x_aloadn (x := 125) rfl rfl ?_
  refine x_iloadn (x := v1) rfl rfl ?_
  refine x_inv (N := m_X12_at) (As := [.int v1]) (b := 125) (st := [.ref 126]) (dx9 := 1) (mc := 0) (ms := 0) (host := "") 12 rfl t_X12_at ⟨Or.inl q_12_254, i_X12_at.1, i_X12_at.2⟩ ⟨by decide, rfl⟩ (congrArg Prod.fst (J.1.1 125 (12, 92) rfl)) rfl (by decide) rfl rfl ⟨by decide, by decide⟩ (jC.of rfl k_X12_at rfl ?_)
  show jX m_X12_at 1 0 0 0 [(0, .ref 125), (1, .int v1)] [] _ 0 0 _
  refine x_bipush (v := 20) rfl kb_20 ?_
  refine x_bipush (v := 90) rfl kb_90 ?_
  refine x_iloadn (x := v1) rfl rfl ?_
  refine z_imul rfl jk_90 rfl (by omega) (fun v2 ev2 => ?_)
  refine z_iadd rfl jk_20 rfl (by omega) (fun v3 ev3 => ?_)
  refine x_iret rfl rfl ?_
  show jX m_X12_dayOf 2 0 0 9 [(0, .ref 125), (1, .int v1)] [.int v3, .ref 126] _ 0 0 _
  refine x_iconst (v := 2) rfl ki_2 ?_
  refine z_iadd rfl rfl jk_2 (by omega) (fun v4 ev4 => ?_)
  refine z_iald (N := 50660) rfl J rfl sg_126_20_18020_90_2_3 rfl (by omega) (fun v5 qv5 ev5 => ?_)
  try rw [vrd qv5 (show ((20 + (90 * (a1.toInt / 3))) + 2) = v4.toInt from by omega)] at D
  refine x_iret rfl rfl ?_
  show jX m_X12_dayAt 3 0 0 7 [(0, .ref 125), (1, .int a1)] [.int v5] _ 0 0 _
  refine x_iret rfl rfl ?_
  exact hQ _ _ (jr_of rfl (by omega)) J Sm (D.symm.trans (show v5.toInt = v5.toInt from by omega)) EV
def fp_X12_partOf_r125d : jFp := []
set_option maxRecDepth 100000 in
set_option maxHeartbeats 4000000 in
theorem ct_X12_partOf_r125d_800042 {Dy : jH → Prop} {h0 : jH} {Q : Option Value → jH → Prop} {dr : Int} (hD : jDk Dy) (hQ : ∀ (v : Int32) hx9, 0 ≤ v.toInt ∧ v.toInt ≤ 6 → jJ jSgM Dy hx9 → jSm fp_X12_partOf_r125d h0 hx9 → dr = v.toInt → vw hx9 = vw h0 → Q (some (.int v)) hx9) : ∀ (h : jH), jJ jSgM Dy h → jSm fp_X12_partOf_r125d h0 h → d_X12_partOf_r125d_800042  (vw h) = dr → vw h = vw h0 → jX m_X12_partOf 3 0 0 42 [] [.int 6] h 0 0 Q := by
  intro  h    J Sm D EV
  unfold d_X12_partOf_r125d_800042 at D
  refine x_iret rfl rfl ?_
  exact hQ _ _ (jr_of jk_6 (by omega)) J Sm (D.symm.trans (show 6 = (6 : Int32).toInt from by have := jk_6; omega)) EV
set_option maxRecDepth 100000 in
set_option maxHeartbeats 4000000 in
theorem ct_X12_partOf_r125d_700042 {Dy : jH → Prop} {h0 : jH} {Q : Option Value → jH → Prop} {dr : Int} (hD : jDk Dy) (hQ : ∀ (v : Int32) hx9, 0 ≤ v.toInt ∧ v.toInt ≤ 6 → jJ jSgM Dy hx9 → jSm fp_X12_partOf_r125d h0 hx9 → dr = v.toInt → vw hx9 = vw h0 → Q (some (.int v)) hx9) : ∀ (h : jH), jJ jSgM Dy h → jSm fp_X12_partOf_r125d h0 h → d_X12_partOf_r125d_700042  (vw h) = dr → vw h = vw h0 → jX m_X12_partOf 3 0 0 42 [] [.int 5] h 0 0 Q := by
  intro  h    J Sm D EV
  unfold d_X12_partOf_r125d_700042 at D
  refine x_iret rfl rfl ?_
  exact hQ _ _ (jr_of jk_5 (by omega)) J Sm (D.symm.trans (show 5 = (5 : Int32).toInt from by have := jk_5; omega)) EV
set_option maxRecDepth 100000 in
set_option maxHeartbeats 4000000 in
theorem ct_X12_partOf_r125d_42 {Dy : jH → Prop} {h0 : jH} {Q : Option Value → jH → Prop} {dr : Int} (hD : jDk Dy) (hQ : ∀ (v : Int32) hx9, 0 ≤ v.toInt ∧ v.toInt ≤ 6 → jJ jSgM Dy hx9 → jSm fp_X12_partOf_r125d h0 hx9 → dr = v.toInt → vw hx9 = vw h0 → Q (some (.int v)) hx9) : ∀ (s0 : Int32) (h : jH), 0 ≤ s0.toInt ∧ s0.toInt ≤ 5 → jJ jSgM Dy h → jSm fp_X12_partOf_r125d h0 h → d_X12_partOf_r125d_42  s0.toInt (vw h) = dr → vw h = vw h0 → jX m_X12_partOf 3 0 0 42 [] [.int s0] h 0 0 Q := by
  intro s0 h y0   J Sm D EV
  unfold d_X12_partOf_r125d_42 at D
  refine x_iret rfl rfl ?_
  exact hQ _ _ (jr_of rfl (by omega)) J Sm (D.symm.trans (show s0.toInt = s0.toInt from by omega)) EV
set_option maxRecDepth 100000 in
set_option maxHeartbeats 4000000 in
theorem sf_X12_partOf_r125d {Dy : jH → Prop} {h : jH} {Q : Option Value → jH → Prop} {dr : Int} {a1 : Int32} (y1 : 0 ≤ a1.toInt ∧ a1.toInt ≤ 599) (hD : jDk Dy) (J : jJ jSgM Dy h) (D : d_X12_partOf_r125d a1.toInt (vw h) = dr) (hQ : ∀ (v : Int32) hx9, 0 ≤ v.toInt ∧ v.toInt ≤ 6 → jJ jSgM Dy hx9 → jSm fp_X12_partOf_r125d h hx9 → dr = v.toInt → vw hx9 = vw h → Q (some (.int v)) hx9) : jC m_X12_partOf 3 0 0 [.ref 125, .int a1] h Q := by
  refine jC.of rfl k_X12_partOf rfl ?_
  have Sm := jSm_rf fp_X12_partOf_r125d h
  show jX m_X12_partOf 3 0 0 0 [(0, .ref 125), (1, .int a1)] [] _ 0 0 _
  unfold d_X12_partOf_r125d at D
  have EV : vw h = vw h := rfl
  refine x_aloadn (x := 125) rfl rfl ?_
  refine x_iloadn (x := a1) rfl rfl ?_
  refine x_iconst (v := 3) rfl ki_3 ?_
  refine z_idiv rfl rfl jk_3 (by omega) (by omega) (fun v1 ev1 => ?_)
  refine x_inv (N := m_X12_bookOf) (As := [.int v1]) (b := 125) (st := []) (dx9 := 2) (mc := 0) (ms := 0) (host := "") 12 rfl t_X12_bookOf ⟨Or.inl q_12_299, i_X12_bookOf.1, i_X12_bookOf.2⟩ ⟨by decide, rfl⟩ (congrArg Prod.fst (J.1.1 125 (12, 92) rfl)) rfl (by decide) rfl rfl ⟨by decide, by decide⟩ (jC.of rfl k_X12_bookOf rfl ?_)
  show jX m_X12_bookOf 2 0 0 0 [(0, .ref 125), (1, .int v1)] [] _ 0 0 _
  refine x_aloadn (x := 125) rfl rfl ?_
  refine z_getR (N := 92) (b := 126) 12 2 rfl f_12_8 rfl J rfl 16002 ⟨rfl, rfl⟩ rfl ?_
  refine x_aloadn (x := 125) rfl rfl ?_
  refine x_iloadn (x := v1) rfl rfl ?_
  refine x_inv (N := m_X12_at) (As := [.int v1]) (b := 125) (st := [.ref 126]) (dx9 := 1) (mc := 0) (ms := 0) (host := "") 12 rfl t_X12_at ⟨Or.inl q_12_254, i_X12_at.1, i_X12_at.2⟩ ⟨by decide, rfl⟩ (congrArg Prod.fst (J.1.1 125 (12, 92) rfl)) rfl (by decide) rfl rfl ⟨by decide, by decide⟩ (jC.of rfl k_X12_at rfl ?_)
  show jX m_X12_at 1 0 0 0 [(0, .ref 125), (1, .int v1)] [] _ 0 0 _
  refine x_bipush (v := 20) rfl kb_20 ?_
  refine x_bipush (v := 90) rfl kb_90 ?_
  refine x_iloadn (x := v1) rfl rfl ?_
  refine z_imul rfl jk_90 rfl (by omega) (fun v2 ev2 => ?_)
  refine z_iadd rfl jk_20 rfl (by omega) (fun v3 ev3 => ?_)
  refine x_iret rfl rfl ?_
  show jX m_X12_bookOf 2 0 0 9 [(0, .ref 125), (1, .int v1)] [.int v3, .ref 126] _ 0 0 _
  refine z_iald (N := 50660) rfl J rfl sg_126_20_18020_90_0_1 rfl (by omega) (fun v4 qv4 ev4 => ?_)
  try rw [vrd qv4 (show (20 + (90 * (a1.toInt / 3))) = v3.toInt from by omega)] at D
  refine x_iret rfl rfl ?_
  show jX m_X12_partOf 3 0 0 7 [(0, .ref 125), (1, .int a1)] [.int v4] _ 0 0 _
  refine x_istoren (lsx9 := [(2, .int v4), (0, .ref 125), (1, .int a1)]) rfl rfl rfl ?_
  refine x_iloadn (x := v4) rfl rfl ?_
  refine x_ifne (tgt := 18) rfl rfl (ti_ne rfl jk_0 ⟨fun c5 => ?_, fun c5 => ?_⟩)
  ·
    rw [if_neg (by omega)] at D
    refine x_iloadn (x := v4) rfl rfl ?_
    refine x_iconst (v := 1) rfl ki_1 ?_
    refine x_icne (tgt := 31) rfl rfl (ti_ne rfl jk_1 ⟨fun c6 => ?_, fun c6 => ?_⟩)
    ·
      rw [if_neg (by omega)] at D
      refine x_iloadn (x := v4) rfl rfl ?_
      refine x_iconst (v := 2) rfl ki_2 ?_
      refine x_icne (tgt := 40) rfl rfl (ti_ne rfl jk_2 ⟨fun c7 => ?_, fun c7 => ?_⟩)
      ·
        rw [if_neg (by omega)] at D
        refine x_bipush (v := 6) rfl kb_6 ?_
        exact jX.sub jsb_n (ct_X12_partOf_r125d_800042 hD hQ  h J Sm D EV)
      ·
        rw [if_pos (by omega)] at D
        refine x_iconst (v := 5) rfl ki_5 ?_
        refine x_goto (tgt := 42) rfl rfl ?_
        exact jX.sub jsb_n (ct_X12_partOf_r125d_700042 hD hQ  h J Sm D EV)
    ·
      rw [if_pos (by omega)] at D
      refine x_iconst (v := 3) rfl ki_3 ?_
      refine x_iloadn (x := a1) rfl rfl ?_
      refine x_iconst (v := 3) rfl ki_3 ?_
      refine z_irem rfl rfl jk_3 (by omega) (by omega) (fun v8 ev8 => ?_)
      refine z_iadd rfl jk_3 rfl (by omega) (fun v9 ev9 => ?_)
      refine x_goto (tgt := 42) rfl rfl ?_
      try rw [show (3 + (a1.toInt % 3)) = v9.toInt from by omega] at D
      exact jX.sub jsb_n (ct_X12_partOf_r125d_42 hD hQ  v9 h (jr_of rfl (by omega)) J Sm D EV)
  ·
    rw [if_pos (by omega)] at D
    refine x_iloadn (x := a1) rfl rfl ?_
    refine x_iconst (v := 3) rfl ki_3 ?_
    refine z_irem rfl rfl jk_3 (by omega) (by omega) (fun v10 ev10 => ?_)
    refine x_goto (tgt := 42) rfl rfl ?_
    try rw [show (a1.toInt % 3) = v10.toInt from by omega] at D
    exact jX.sub jsb_n (ct_X12_partOf_r125d_42 hD hQ  v10 h (jr_of rfl (by omega)) J Sm D EV)
def fp_X12_mentionOf_r125d : jFp := []
set_option maxRecDepth 100000 in
set_option maxHeartbeats 4000000 in
theorem ct_X12_mentionOf_r125d_74 {Dy : jH → Prop} {h0 : jH} {Q : Option Value → jH → Prop} {dr : Int} {K6 : Int → Int → Int → Int → Int → jW → Int} {R6 : Int} (hD : jDk Dy) (hQ : ∀ (v : Int32) hx9, (-1) ≤ v.toInt ∧ v.toInt ≤ 599 → jJ jSgM Dy hx9 → jSm fp_X12_mentionOf_r125d h0 hx9 → dr = v.toInt → vw hx9 = vw h0 → Q (some (.int v)) hx9) (k6 : ∀ (l1 : Int32) (l2 : Int32) (l3 : Int32) (l4 : Int32) (l5 : Int32) (h : jH), 600 - l5.toInt < R6 → (-1) ≤ l1.toInt ∧ l1.toInt ≤ 599 → 0 ≤ l2.toInt ∧ l2.toInt ≤ 5 → 0 ≤ l3.toInt ∧ l3.toInt ≤ 146399 → (-1) ≤ l4.toInt ∧ l4.toInt ≤ 599 → 0 ≤ l5.toInt ∧ l5.toInt ≤ 600 → jJ jSgM Dy h → jSm fp_X12_mentionOf_r125d h0 h → K6 l1.toInt l2.toInt l3.toInt l4.toInt l5.toInt (vw h) = dr → vw h = vw h0 → jX m_X12_mentionOf 4 0 0 6 [(0, .ref 125), (1, .int l1), (2, .int l2), (3, .int l3), (4, .int l4), (5, .int l5)] [] h 0 0 Q) : ∀ (l1 : Int32) (l2 : Int32) (l3 : Int32) (l4 : Int32) (l5 : Int32) (h : jH), (-1) ≤ l1.toInt ∧ l1.toInt ≤ 599 → 0 ≤ l2.toInt ∧ l2.toInt ≤ 5 → 0 ≤ l3.toInt ∧ l3.toInt ≤ 146399 → (-1) ≤ l4.toInt ∧ l4.toInt ≤ 599 → 0 ≤ l5.toInt ∧ l5.toInt ≤ 599 → 600 - l5.toInt ≤ R6 → jJ jSgM Dy h → jSm fp_X12_mentionOf_r125d h0 h → d_X12_mentionOf_r125d_74 K6  l1.toInt l2.toInt l3.toInt l4.toInt l5.toInt (vw h) = dr → vw h = vw h0 → jX m_X12_mentionOf 4 0 0 74 [(0, .ref 125), (1, .int l1), (2, .int l2), (3, .int l3), (4, .int l4), (5, .int l5)] [] h 0 0 Q := by
  intro l1 l2 l3 l4 l5 h y0 y1 y2 y3 y4  m6 J Sm D EV
  unfold d_X12_mentionOf_r125d_74 at D
  refine z_iinc (x := l5) (lsx9 := fun v1 => [(5, .int v1), (0, .ref 125), (1, .int l1), (2, .int l2), (3, .int l3), (4, .int l4)]) rfl rfl rfl jko_1 (by omega) rfl (fun _ => rfl) (fun v1 ev1 => ?_)
  refine x_goto (tgt := 6) rfl rfl ?_
  try rw [show (l5.toInt + 1) = v1.toInt from by omega] at D
  exact jX.sub (jsb_c rfl (jsb_c rfl (jsb_c rfl (jsb_c rfl (jsb_c rfl (jsb_c rfl jsb_n)))))) (k6 l1 l2 l3 l4 v1 h (by omega) (jr_of rfl (by omega)) (jr_of rfl (by omega)) (jr_of rfl (by omega)) (jr_of rfl (by omega)) (jr_of rfl (by omega)) J Sm D EV)
set_option maxRecDepth 100000 in
set_option maxHeartbeats 4000000 in
theorem ct_X12_mentionOf_r125d_70 {Dy : jH → Prop} {h0 : jH} {Q : Option Value → jH → Prop} {dr : Int} {K6 : Int → Int → Int → Int → Int → jW → Int} {R6 : Int} (hD : jDk Dy) (hQ : ∀ (v : Int32) hx9, (-1) ≤ v.toInt ∧ v.toInt ≤ 599 → jJ jSgM Dy hx9 → jSm fp_X12_mentionOf_r125d h0 hx9 → dr = v.toInt → vw hx9 = vw h0 → Q (some (.int v)) hx9) (k6 : ∀ (l1 : Int32) (l2 : Int32) (l3 : Int32) (l4 : Int32) (l5 : Int32) (h : jH), 600 - l5.toInt < R6 → (-1) ≤ l1.toInt ∧ l1.toInt ≤ 599 → 0 ≤ l2.toInt ∧ l2.toInt ≤ 5 → 0 ≤ l3.toInt ∧ l3.toInt ≤ 146399 → (-1) ≤ l4.toInt ∧ l4.toInt ≤ 599 → 0 ≤ l5.toInt ∧ l5.toInt ≤ 600 → jJ jSgM Dy h → jSm fp_X12_mentionOf_r125d h0 h → K6 l1.toInt l2.toInt l3.toInt l4.toInt l5.toInt (vw h) = dr → vw h = vw h0 → jX m_X12_mentionOf 4 0 0 6 [(0, .ref 125), (1, .int l1), (2, .int l2), (3, .int l3), (4, .int l4), (5, .int l5)] [] h 0 0 Q) : ∀ (l1 : Int32) (l2 : Int32) (l3 : Int32) (l5 : Int32) (h : jH), (-1) ≤ l1.toInt ∧ l1.toInt ≤ 599 → 0 ≤ l2.toInt ∧ l2.toInt ≤ 5 → 0 ≤ l3.toInt ∧ l3.toInt ≤ 146399 → 0 ≤ l5.toInt ∧ l5.toInt ≤ 599 → 600 - l5.toInt ≤ R6 → jJ jSgM Dy h → jSm fp_X12_mentionOf_r125d h0 h → d_X12_mentionOf_r125d_70 K6  l1.toInt l2.toInt l3.toInt l5.toInt (vw h) = dr → vw h = vw h0 → jX m_X12_mentionOf 4 0 0 70 [(0, .ref 125), (1, .int l1), (2, .int l2), (3, .int l3), (5, .int l5)] [] h 0 0 Q := by
  intro l1 l2 l3 l5 h y0 y1 y2 y3  m6 J Sm D EV
  unfold d_X12_mentionOf_r125d_70 at D
  refine x_iload (x := l5) rfl rfl ?_
  refine x_istore (lsx9 := [(4, .int l5), (0, .ref 125), (1, .int l1), (2, .int l2), (3, .int l3), (5, .int l5)]) rfl rfl rfl ?_
  exact jX.sub (jsb_c rfl (jsb_c rfl (jsb_c rfl (jsb_c rfl (jsb_c rfl (jsb_c rfl jsb_n)))))) (ct_X12_mentionOf_r125d_74 hD hQ k6 l1 l2 l3 l5 l5 h (jr_of rfl (by omega)) (jr_of rfl (by omega)) (jr_of rfl (by omega)) (jr_of rfl (by omega)) (jr_of rfl (by omega)) (by omega) J Sm D EV)
set_option maxRecDepth 100000 in
set_option maxHeartbeats 4000000 in
theorem ct_X12_mentionOf_r125d_6 {Dy : jH → Prop} {h0 : jH} {Q : Option Value → jH → Prop} {dr : Int} (hD : jDk Dy) (hQ : ∀ (v : Int32) hx9, (-1) ≤ v.toInt ∧ v.toInt ≤ 599 → jJ jSgM Dy hx9 → jSm fp_X12_mentionOf_r125d h0 hx9 → dr = v.toInt → vw hx9 = vw h0 → Q (some (.int v)) hx9) : ∀ r : Nat, ∀ (l1 : Int32) (l2 : Int32) (l3 : Int32) (l4 : Int32) (l5 : Int32) (h : jH), 600 - l5.toInt < (r : Int) → (-1) ≤ l1.toInt ∧ l1.toInt ≤ 599 → 0 ≤ l2.toInt ∧ l2.toInt ≤ 5 → 0 ≤ l3.toInt ∧ l3.toInt ≤ 146399 → (-1) ≤ l4.toInt ∧ l4.toInt ≤ 599 → 0 ≤ l5.toInt ∧ l5.toInt ≤ 600 → jJ jSgM Dy h → jSm fp_X12_mentionOf_r125d h0 h → d_X12_mentionOf_r125d_6 r l1.toInt l2.toInt l3.toInt l4.toInt l5.toInt (vw h) = dr → vw h = vw h0 → jX m_X12_mentionOf 4 0 0 6 [(0, .ref 125), (1, .int l1), (2, .int l2), (3, .int l3), (4, .int l4), (5, .int l5)] [] h 0 0 Q := by
  intro r
  induction r with
  | zero =>
    intro l1 l2 l3 l4 l5 h hm y0 y1 y2 y3 y4   J Sm D EV
    exfalso
    omega
  | succ r ih =>
    intro l1 l2 l3 l4 l5 h hm y0 y1 y2 y3 y4   J Sm D EV
    rw [d_X12_mentionOf_r125d_6.eq_2] at D
    refine x_iload (x := l5) rfl rfl ?_
    refine x_iconst (v := 3) rfl ki_3 ?_
    refine x_aloadn (x := 125) rfl rfl ?_
    refine z_getR (N := 92) (b := 126) 12 2 rfl f_12_8 rfl J rfl 16002 ⟨rfl, rfl⟩ rfl ?_
    refine x_iconst (v := 0) rfl ki_0 ?_
    refine z_iald (N := 50660) rfl J rfl sg_126_0_1_1_0_1 jk_0 (by omega) (fun v1 qv1 ev1 => ?_)
    try rw [vrn (n := 0) (by decide) qv1] at D
    refine z_imul rfl jk_3 rfl (by omega) (fun v2 ev2 => ?_)
    refine x_icge (tgt := 80) rfl rfl (ti_ge rfl rfl ⟨fun c3 => ?_, fun c3 => ?_⟩)
    ·
      rw [if_pos (by omega)] at D
      refine x_iload (x := l4) rfl rfl ?_
      refine x_iret rfl rfl ?_
      exact hQ _ _ (jr_of rfl (by omega)) J Sm (D.symm.trans (show l4.toInt = l4.toInt from by omega)) EV
    ·
      rw [if_neg (by omega)] at D
      refine x_aloadn (x := 125) rfl rfl ?_
      refine z_getR (N := 92) (b := 139) 12 29 rfl f_12_72 rfl J rfl 16029 ⟨rfl, rfl⟩ rfl ?_
      refine x_iload (x := l5) rfl rfl ?_
      refine z_iald (N := 600) rfl J rfl sg_139_0_600_1_0_1 rfl (by omega) (fun v4 qv4 ev4 => ?_)
      try rw [vrd qv4 (show l5.toInt = l5.toInt from by omega)] at D
      refine x_iloadn (x := l1) rfl rfl ?_
      refine x_icne (tgt := 74) rfl rfl (ti_ne rfl rfl ⟨fun c5 => ?_, fun c5 => ?_⟩)
      ·
        rw [if_neg (by omega)] at D
        exact jX.sub (jsb_c rfl (jsb_c rfl (jsb_c rfl (jsb_c rfl (jsb_c rfl (jsb_c rfl jsb_n)))))) (ct_X12_mentionOf_r125d_74 hD hQ ih l1 l2 l3 l4 l5 h (jr_of rfl (by omega)) (jr_of rfl (by omega)) (jr_of rfl (by omega)) (jr_of rfl (by omega)) (jr_of rfl (by omega)) (by omega) J Sm D EV)
      ·
        rw [if_pos (by omega)] at D
        refine x_aloadn (x := 125) rfl rfl ?_
        refine x_iload (x := l5) rfl rfl ?_
        refine x_inv (N := m_X12_partOf) (As := [.int l5]) (b := 125) (st := []) (dx9 := 3) (mc := 0) (ms := 0) (host := "") 12 rfl t_X12_partOf ⟨Or.inl q_12_338, i_X12_partOf.1, i_X12_partOf.2⟩ ⟨by decide, rfl⟩ (congrArg Prod.fst (J.1.1 125 (12, 92) rfl)) rfl (by decide) rfl rfl ⟨by decide, by decide⟩ (sf_X12_partOf_r125d (jr_of rfl (by omega)) hD J rfl  (fun v9 h ev9 J S6 X7 X8 => ?_))
        have Sm := jSm_tr rfl Sm S6
        try rw [X7] at D
        try rw [← X8] at D
        have EV := X8.trans EV
        show jX m_X12_mentionOf 4 0 0 36 [(0, .ref 125), (1, .int l1), (2, .int l2), (3, .int l3), (4, .int l4), (5, .int l5)] [.int v9] _ 0 0 _
        refine x_iloadn (x := l2) rfl rfl ?_
        refine x_icne (tgt := 74) rfl rfl (ti_ne rfl rfl ⟨fun c10 => ?_, fun c10 => ?_⟩)
        ·
          rw [if_neg (by omega)] at D
          exact jX.sub (jsb_c rfl (jsb_c rfl (jsb_c rfl (jsb_c rfl (jsb_c rfl (jsb_c rfl jsb_n)))))) (ct_X12_mentionOf_r125d_74 hD hQ ih l1 l2 l3 l4 l5 h (jr_of rfl (by omega)) (jr_of rfl (by omega)) (jr_of rfl (by omega)) (jr_of rfl (by omega)) (jr_of rfl (by omega)) (by omega) J Sm D EV)
        ·
          rw [if_pos (by omega)] at D
          refine x_aloadn (x := 125) rfl rfl ?_
          refine x_iload (x := l5) rfl rfl ?_
          refine x_inv (N := m_X12_dayAt) (As := [.int l5]) (b := 125) (st := []) (dx9 := 3) (mc := 0) (ms := 0) (host := "") 12 rfl t_X12_dayAt ⟨Or.inl q_12_347, i_X12_dayAt.1, i_X12_dayAt.2⟩ ⟨by decide, rfl⟩ (congrArg Prod.fst (J.1.1 125 (12, 92) rfl)) rfl (by decide) rfl rfl ⟨by decide, by decide⟩ (sf_X12_dayAt_r125d (jr_of rfl (by omega)) hD J rfl  (fun v14 h ev14 J S11 X12 X13 => ?_))
          have Sm := jSm_tr rfl Sm S11
          try rw [X12] at D
          try rw [← X13] at D
          have EV := X13.trans EV
          show jX m_X12_mentionOf 4 0 0 46 [(0, .ref 125), (1, .int l1), (2, .int l2), (3, .int l3), (4, .int l4), (5, .int l5)] [.int v14] _ 0 0 _
          refine x_iloadn (x := l3) rfl rfl ?_
          refine x_icgt (tgt := 74) rfl rfl (ti_gt rfl rfl ⟨fun c15 => ?_, fun c15 => ?_⟩)
          ·
            rw [if_pos (by omega)] at D
            exact jX.sub (jsb_c rfl (jsb_c rfl (jsb_c rfl (jsb_c rfl (jsb_c rfl (jsb_c rfl jsb_n)))))) (ct_X12_mentionOf_r125d_74 hD hQ ih l1 l2 l3 l4 l5 h (jr_of rfl (by omega)) (jr_of rfl (by omega)) (jr_of rfl (by omega)) (jr_of rfl (by omega)) (jr_of rfl (by omega)) (by omega) J Sm D EV)
          ·
            rw [if_neg (by omega)] at D
            refine x_iload (x := l4) rfl rfl ?_
            refine x_iflt (tgt := 70) rfl rfl (ti_lt rfl jk_0 ⟨fun c16 => ?_, fun c16 => ?_⟩)
            ·
              rw [if_pos (by omega)] at D
              exact jX.sub (jsb_c rfl (jsb_c rfl (jsb_c rfl (jsb_c rfl (jsb_c rfl jsb_n))))) (ct_X12_mentionOf_r125d_70 hD hQ ih l1 l2 l3 l5 h (jr_of rfl (by omega)) (jr_of rfl (by omega)) (jr_of rfl (by omega)) (jr_of rfl (by omega)) (by omega) J Sm D EV)
            ·
              rw [if_neg (by omega)] at D
              refine x_aloadn (x := 125) rfl rfl ?_
              refine x_iload (x := l5) rfl rfl ?_
              refine x_inv (N := m_X12_dayAt) (As := [.int l5]) (b := 125) (st := []) (dx9 := 3) (mc := 0) (ms := 0) (host := "") 12 rfl t_X12_dayAt ⟨Or.inl q_12_347, i_X12_dayAt.1, i_X12_dayAt.2⟩ ⟨by decide, rfl⟩ (congrArg Prod.fst (J.1.1 125 (12, 92) rfl)) rfl (by decide) rfl rfl ⟨by decide, by decide⟩ (sf_X12_dayAt_r125d (jr_of rfl (by omega)) hD J rfl  (fun v20 h ev20 J S17 X18 X19 => ?_))
              have Sm := jSm_tr rfl Sm S17
              have Lkv20 : v14.toInt = v20.toInt := by (have Z := X12; try rw [← X13] at Z; exact Z.symm.trans X18)
              try rw [Lkv20] at D
              try rw [X18] at D
              try rw [← X19] at D
              have EV := X19.trans EV
              show jX m_X12_mentionOf 4 0 0 61 [(0, .ref 125), (1, .int l1), (2, .int l2), (3, .int l3), (4, .int l4), (5, .int l5)] [.int v20] _ 0 0 _
              refine x_aloadn (x := 125) rfl rfl ?_
              refine x_iload (x := l4) rfl rfl ?_
              refine x_inv (N := m_X12_dayAt) (As := [.int l4]) (b := 125) (st := [.int v20]) (dx9 := 3) (mc := 0) (ms := 0) (host := "") 12 rfl t_X12_dayAt ⟨Or.inl q_12_347, i_X12_dayAt.1, i_X12_dayAt.2⟩ ⟨by decide, rfl⟩ (congrArg Prod.fst (J.1.1 125 (12, 92) rfl)) rfl (by decide) rfl rfl ⟨by decide, by decide⟩ (sf_X12_dayAt_r125d (jr_of rfl (by omega)) hD J rfl  (fun v24 h ev24 J S21 X22 X23 => ?_))
              have Sm := jSm_tr rfl Sm S21
              try rw [X22] at D
              try rw [← X23] at D
              have EV := X23.trans EV
              show jX m_X12_mentionOf 4 0 0 67 [(0, .ref 125), (1, .int l1), (2, .int l2), (3, .int l3), (4, .int l4), (5, .int l5)] [.int v24, .int v20] _ 0 0 _
              refine x_iclt (tgt := 74) rfl rfl (ti_lt rfl rfl ⟨fun c25 => ?_, fun c25 => ?_⟩)
              ·
                rw [if_pos (by omega)] at D
                exact jX.sub (jsb_c rfl (jsb_c rfl (jsb_c rfl (jsb_c rfl (jsb_c rfl (jsb_c rfl jsb_n)))))) (ct_X12_mentionOf_r125d_74 hD hQ ih l1 l2 l3 l4 l5 h (jr_of rfl (by omega)) (jr_of rfl (by omega)) (jr_of rfl (by omega)) (jr_of rfl (by omega)) (jr_of rfl (by omega)) (by omega) J Sm D EV)
              ·
                rw [if_neg (by omega)] at D
                exact jX.sub (jsb_c rfl (jsb_c rfl (jsb_c rfl (jsb_c rfl (jsb_c rfl jsb_n))))) (ct_X12_mentionOf_r125d_70 hD hQ ih l1 l2 l3 l5 h (jr_of rfl (by omega)) (jr_of rfl (by omega)) (jr_of rfl (by omega)) (jr_of rfl (by omega)) (by omega) J Sm D EV)
set_option maxRecDepth 100000 in
set_option maxHeartbeats 4000000 in
theorem sf_X12_mentionOf_r125d {Dy : jH → Prop} {h : jH} {Q : Option Value → jH → Prop} {dr : Int} {a1 : Int32} {a2 : Int32} {a3 : Int32} (y1 : (-1) ≤ a1.toInt ∧ a1.toInt ≤ 599) (y2 : 0 ≤ a2.toInt ∧ a2.toInt ≤ 5) (y3 : 0 ≤ a3.toInt ∧ a3.toInt ≤ 146399) (hD : jDk Dy) (J : jJ jSgM Dy h) (D : d_X12_mentionOf_r125d a1.toInt a2.toInt a3.toInt (vw h) = dr) (hQ : ∀ (v : Int32) hx9, (-1) ≤ v.toInt ∧ v.toInt ≤ 599 → jJ jSgM Dy hx9 → jSm fp_X12_mentionOf_r125d h hx9 → dr = v.toInt → vw hx9 = vw h → Q (some (.int v)) hx9) : jC m_X12_mentionOf 4 0 0 [.ref 125, .int a1, .int a2, .int a3] h Q := by
  refine jC.of rfl k_X12_mentionOf rfl ?_
  have Sm := jSm_rf fp_X12_mentionOf_r125d h
  show jX m_X12_mentionOf 4 0 0 0 [(0, .ref 125), (1, .int a1), (2, .int a2), (3, .int a3)] [] _ 0 0 _
  unfold d_X12_mentionOf_r125d at D
  have EV : vw h = vw h := rfl
  refine x_iconst (v := (-1)) rfl ki_m1 ?_
  refine x_istore (lsx9 := [(4, .int (-1)), (0, .ref 125), (1, .int a1), (2, .int a2), (3, .int a3)]) rfl rfl rfl ?_
  refine x_iconst (v := 0) rfl ki_0 ?_
  refine x_istore (lsx9 := [(5, .int 0), (4, .int (-1)), (0, .ref 125), (1, .int a1), (2, .int a2), (3, .int a3)]) rfl rfl rfl ?_
  exact jX.sub (jsb_c rfl (jsb_c rfl (jsb_c rfl (jsb_c rfl (jsb_c rfl (jsb_c rfl jsb_n)))))) (ct_X12_mentionOf_r125d_6 hD hQ  601 a1 a2 a3 (-1) 0 h (by have := jk_0; omega) (jr_of rfl (by omega)) (jr_of rfl (by omega)) (jr_of rfl (by omega)) (jr_of jk_m1 (by omega)) (jr_of jk_0 (by omega)) J Sm (by rw [jk_m1, jk_0]; exact D) EV)
def fp_X12_childrenOf_r125d : jFp := []
set_option maxRecDepth 100000 in
set_option maxHeartbeats 4000000 in
theorem ct_X12_childrenOf_r125d_165 {Dy : jH → Prop} {h0 : jH} {Q : Option Value → jH → Prop} {dr : Int} {K5 : Int → Int → Int → Int → jW → Int} {R5 : Int} (hD : jDk Dy) (hQ : ∀ (v : Int32) hx9, jJ jSgM Dy hx9 → jSm fp_X12_childrenOf_r125d h0 hx9 → dr = v.toInt → vw hx9 = vw h0 → Q (some (.int v)) hx9) (k5 : ∀ (l1 : Int32) (l2 : Int32) (l3 : Int32) (l4 : Int32) (h : jH), 600 - l4.toInt < R5 → (-1) ≤ l1.toInt ∧ l1.toInt ≤ 599 → 0 ≤ l2.toInt ∧ l2.toInt ≤ 146399 → 0 ≤ l4.toInt ∧ l4.toInt ≤ 600 → jJ jSgM Dy h → jSm fp_X12_childrenOf_r125d h0 h → K5 l1.toInt l2.toInt l3.toInt l4.toInt (vw h) = dr → vw h = vw h0 → jX m_X12_childrenOf 6 0 0 5 [(0, .ref 125), (1, .int l1), (2, .int l2), (3, .int l3), (4, .int l4)] [] h 0 0 Q) : ∀ (l1 : Int32) (l2 : Int32) (l3 : Int32) (l4 : Int32) (h : jH), (-1) ≤ l1.toInt ∧ l1.toInt ≤ 599 → 0 ≤ l2.toInt ∧ l2.toInt ≤ 146399 → 0 ≤ l4.toInt ∧ l4.toInt ≤ 599 → 600 - l4.toInt ≤ R5 → jJ jSgM Dy h → jSm fp_X12_childrenOf_r125d h0 h → d_X12_childrenOf_r125d_165 K5  l1.toInt l2.toInt l3.toInt l4.toInt (vw h) = dr → vw h = vw h0 → jX m_X12_childrenOf 6 0 0 165 [(0, .ref 125), (1, .int l1), (2, .int l2), (3, .int l3), (4, .int l4)] [] h 0 0 Q := by
  intro l1 l2 l3 l4 h y0 y1 y2  m5 J Sm D EV
  have el3 := jfull l3
  unfold d_X12_childrenOf_r125d_165 at D
  refine z_iinc (x := l4) (lsx9 := fun v1 => [(4, .int v1), (0, .ref 125), (1, .int l1), (2, .int l2), (3, .int l3)]) rfl rfl rfl jko_1 (by omega) rfl (fun _ => rfl) (fun v1 ev1 => ?_)
  refine x_goto (tgt := 5) rfl rfl ?_
  try rw [show (l4.toInt + 1) = v1.toInt from by omega] at D
  exact jX.sub (jsb_c rfl (jsb_c rfl (jsb_c rfl (jsb_c rfl (jsb_c rfl jsb_n))))) (k5 l1 l2 l3 v1 h (by omega) (jr_of rfl (by omega)) (jr_of rfl (by omega)) (jr_of rfl (by omega)) J Sm D EV)
set_option maxRecDepth 100000 in
set_option maxHeartbeats 4000000 in
theorem ct_X12_childrenOf_r125d_200163 {Dy : jH → Prop} {h0 : jH} {Q : Option Value → jH → Prop} {dr : Int} {K5 : Int → Int → Int → Int → jW → Int} {R5 : Int} (hD : jDk Dy) (hQ : ∀ (v : Int32) hx9, jJ jSgM Dy hx9 → jSm fp_X12_childrenOf_r125d h0 hx9 → dr = v.toInt → vw hx9 = vw h0 → Q (some (.int v)) hx9) (k5 : ∀ (l1 : Int32) (l2 : Int32) (l3 : Int32) (l4 : Int32) (h : jH), 600 - l4.toInt < R5 → (-1) ≤ l1.toInt ∧ l1.toInt ≤ 599 → 0 ≤ l2.toInt ∧ l2.toInt ≤ 146399 → 0 ≤ l4.toInt ∧ l4.toInt ≤ 600 → jJ jSgM Dy h → jSm fp_X12_childrenOf_r125d h0 h → K5 l1.toInt l2.toInt l3.toInt l4.toInt (vw h) = dr → vw h = vw h0 → jX m_X12_childrenOf 6 0 0 5 [(0, .ref 125), (1, .int l1), (2, .int l2), (3, .int l3), (4, .int l4)] [] h 0 0 Q) : ∀ (l1 : Int32) (l2 : Int32) (l4 : Int32) (s1 : Int32) (h : jH), (-1) ≤ l1.toInt ∧ l1.toInt ≤ 599 → 0 ≤ l2.toInt ∧ l2.toInt ≤ 146399 → 0 ≤ l4.toInt ∧ l4.toInt ≤ 599 → 600 - l4.toInt ≤ R5 → jJ jSgM Dy h → jSm fp_X12_childrenOf_r125d h0 h → d_X12_childrenOf_r125d_200163 K5  l1.toInt l2.toInt l4.toInt s1.toInt (vw h) = dr → vw h = vw h0 → jX m_X12_childrenOf 6 0 0 163 [(0, .ref 125), (1, .int l1), (2, .int l2), (4, .int l4)] [.int 0, .int s1] h 0 0 Q := by
  intro l1 l2 l4 s1 h y0 y1 y2  m5 J Sm D EV
  have es1 := jfull s1
  unfold d_X12_childrenOf_r125d_200163 at D
  refine z_iadd rfl rfl jk_0 (by omega) (fun v1 ev1 => ?_)
  refine x_istoren (lsx9 := [(3, .int v1), (0, .ref 125), (1, .int l1), (2, .int l2), (4, .int l4)]) rfl rfl rfl ?_
  try rw [show (s1.toInt + 0) = v1.toInt from by omega] at D
  exact jX.sub (jsb_c rfl (jsb_c rfl (jsb_c rfl (jsb_c rfl (jsb_c rfl jsb_n))))) (ct_X12_childrenOf_r125d_165 hD hQ k5 l1 l2 v1 l4 h (jr_of rfl (by omega)) (jr_of rfl (by omega)) (jr_of rfl (by omega)) (by omega) J Sm D EV)
set_option maxRecDepth 100000 in
set_option maxHeartbeats 4000000 in
theorem ct_X12_childrenOf_r125d_300163 {Dy : jH → Prop} {h0 : jH} {Q : Option Value → jH → Prop} {dr : Int} {K5 : Int → Int → Int → Int → jW → Int} {R5 : Int} (hD : jDk Dy) (hQ : ∀ (v : Int32) hx9, jJ jSgM Dy hx9 → jSm fp_X12_childrenOf_r125d h0 hx9 → dr = v.toInt → vw hx9 = vw h0 → Q (some (.int v)) hx9) (k5 : ∀ (l1 : Int32) (l2 : Int32) (l3 : Int32) (l4 : Int32) (h : jH), 600 - l4.toInt < R5 → (-1) ≤ l1.toInt ∧ l1.toInt ≤ 599 → 0 ≤ l2.toInt ∧ l2.toInt ≤ 146399 → 0 ≤ l4.toInt ∧ l4.toInt ≤ 600 → jJ jSgM Dy h → jSm fp_X12_childrenOf_r125d h0 h → K5 l1.toInt l2.toInt l3.toInt l4.toInt (vw h) = dr → vw h = vw h0 → jX m_X12_childrenOf 6 0 0 5 [(0, .ref 125), (1, .int l1), (2, .int l2), (3, .int l3), (4, .int l4)] [] h 0 0 Q) : ∀ (l1 : Int32) (l2 : Int32) (l4 : Int32) (s1 : Int32) (h : jH), (-1) ≤ l1.toInt ∧ l1.toInt ≤ 599 → 0 ≤ l2.toInt ∧ l2.toInt ≤ 146399 → 0 ≤ l4.toInt ∧ l4.toInt ≤ 599 → 600 - l4.toInt ≤ R5 → jJ jSgM Dy h → jSm fp_X12_childrenOf_r125d h0 h → d_X12_childrenOf_r125d_300163 K5  l1.toInt l2.toInt l4.toInt s1.toInt (vw h) = dr → vw h = vw h0 → jX m_X12_childrenOf 6 0 0 163 [(0, .ref 125), (1, .int l1), (2, .int l2), (4, .int l4)] [.int 1, .int s1] h 0 0 Q := by
  intro l1 l2 l4 s1 h y0 y1 y2  m5 J Sm D EV
  have es1 := jfull s1
  unfold d_X12_childrenOf_r125d_300163 at D
  refine z_iaddW rfl rfl jk_1 (fun v1 ev1 => ?_)
  have fv1 := jfull v1
  try rw [← ev1] at D
  refine x_istoren (lsx9 := [(3, .int v1), (0, .ref 125), (1, .int l1), (2, .int l2), (4, .int l4)]) rfl rfl rfl ?_
  exact jX.sub (jsb_c rfl (jsb_c rfl (jsb_c rfl (jsb_c rfl (jsb_c rfl jsb_n))))) (ct_X12_childrenOf_r125d_165 hD hQ k5 l1 l2 v1 l4 h (jr_of rfl (by omega)) (jr_of rfl (by omega)) (jr_of rfl (by omega)) (by omega) J Sm D EV)
set_option maxRecDepth 100000 in
set_option maxHeartbeats 4000000 in
theorem ct_X12_childrenOf_r125d_300144 {Dy : jH → Prop} {h0 : jH} {Q : Option Value → jH → Prop} {dr : Int} {K5 : Int → Int → Int → Int → jW → Int} {K50 : Int → Int → Int → Int → Int → Int → jW → Int} {R5 : Int} {R50 : Int} (hD : jDk Dy) (hQ : ∀ (v : Int32) hx9, jJ jSgM Dy hx9 → jSm fp_X12_childrenOf_r125d h0 hx9 → dr = v.toInt → vw hx9 = vw h0 → Q (some (.int v)) hx9) (k5 : ∀ (l1 : Int32) (l2 : Int32) (l3 : Int32) (l4 : Int32) (h : jH), 600 - l4.toInt < R5 → (-1) ≤ l1.toInt ∧ l1.toInt ≤ 599 → 0 ≤ l2.toInt ∧ l2.toInt ≤ 146399 → 0 ≤ l4.toInt ∧ l4.toInt ≤ 600 → jJ jSgM Dy h → jSm fp_X12_childrenOf_r125d h0 h → K5 l1.toInt l2.toInt l3.toInt l4.toInt (vw h) = dr → vw h = vw h0 → jX m_X12_childrenOf 6 0 0 5 [(0, .ref 125), (1, .int l1), (2, .int l2), (3, .int l3), (4, .int l4)] [] h 0 0 Q) (k50 : ∀ (l1 : Int32) (l2 : Int32) (l3 : Int32) (l4 : Int32) (l5 : Int32) (l6 : Int32) (g0 : Int32) (h : jH), 600 - l6.toInt < R50 → (-1) ≤ l1.toInt ∧ l1.toInt ≤ 599 → 0 ≤ l2.toInt ∧ l2.toInt ≤ 146399 → 0 ≤ l4.toInt ∧ l4.toInt ≤ 599 → 0 ≤ l5.toInt ∧ l5.toInt ≤ 1 → 0 ≤ l6.toInt ∧ l6.toInt ≤ 600 → l6.toInt % 3 = 0 → 0 ≤ g0.toInt ∧ g0.toInt ≤ 200 → jiv h 126 (0 : Int32).toNatClampNeg = g0 → 600 - l4.toInt ≤ R5 → jJ jSgM Dy h → jSm fp_X12_childrenOf_r125d h0 h → K50 l1.toInt l2.toInt l3.toInt l4.toInt l5.toInt l6.toInt (vw h) = dr → vw h = vw h0 → jX m_X12_childrenOf 6 0 0 50 [(0, .ref 125), (1, .int l1), (2, .int l2), (3, .int l3), (4, .int l4), (5, .int l5), (6, .int l6)] [] h 0 0 Q) : ∀ (l1 : Int32) (l2 : Int32) (l3 : Int32) (l4 : Int32) (l6 : Int32) (g0 : Int32) (h : jH), (-1) ≤ l1.toInt ∧ l1.toInt ≤ 599 → 0 ≤ l2.toInt ∧ l2.toInt ≤ 146399 → 0 ≤ l4.toInt ∧ l4.toInt ≤ 599 → 0 ≤ l6.toInt ∧ l6.toInt ≤ 597 → l6.toInt % 3 = 0 → 0 ≤ g0.toInt ∧ g0.toInt ≤ 200 → jiv h 126 (0 : Int32).toNatClampNeg = g0 → 600 - l4.toInt ≤ R5 → 600 - l6.toInt ≤ R50 → jJ jSgM Dy h → jSm fp_X12_childrenOf_r125d h0 h → d_X12_childrenOf_r125d_300144 K5 K50  l1.toInt l2.toInt l3.toInt l4.toInt l6.toInt (vw h) = dr → vw h = vw h0 → jX m_X12_childrenOf 6 0 0 144 [(0, .ref 125), (1, .int l1), (2, .int l2), (3, .int l3), (4, .int l4), (6, .int l6)] [.int 1] h 0 0 Q := by
  intro l1 l2 l3 l4 l6 g0 h y0 y1 y2 y3 y4 y5 z0 m5 m50 J Sm D EV
  have el3 := jfull l3
  unfold d_X12_childrenOf_r125d_300144 at D
  try rw [vrn (n := 0) (by decide) z0] at D
  refine x_istore (lsx9 := [(5, .int 1), (0, .ref 125), (1, .int l1), (2, .int l2), (3, .int l3), (4, .int l4), (6, .int l6)]) rfl rfl rfl ?_
  refine z_iinc (x := l6) (lsx9 := fun v1 => [(6, .int v1), (5, .int 1), (0, .ref 125), (1, .int l1), (2, .int l2), (3, .int l3), (4, .int l4)]) rfl rfl rfl jko_3 (by omega) rfl (fun _ => rfl) (fun v1 ev1 => ?_)
  refine x_goto (tgt := 50) rfl rfl ?_
  try rw [show (l6.toInt + 3) = v1.toInt from by omega] at D
  exact jX.sub (jsb_c rfl (jsb_c rfl (jsb_c rfl (jsb_c rfl (jsb_c rfl (jsb_c rfl (jsb_c rfl jsb_n))))))) (k50 l1 l2 l3 l4 1 v1 g0 h (by omega) (jr_of rfl (by omega)) (jr_of rfl (by omega)) (jr_of rfl (by omega)) (jr_of jk_1 (by omega)) (jr_of rfl (by omega)) (jr_mod rfl (by omega)) (jr_of rfl (by omega)) z0 (by omega) J Sm (by rw [jk_1]; exact D) EV)
set_option maxRecDepth 100000 in
set_option maxHeartbeats 4000000 in
theorem ct_X12_childrenOf_r125d_200144 {Dy : jH → Prop} {h0 : jH} {Q : Option Value → jH → Prop} {dr : Int} {K5 : Int → Int → Int → Int → jW → Int} {K50 : Int → Int → Int → Int → Int → Int → jW → Int} {R5 : Int} {R50 : Int} (hD : jDk Dy) (hQ : ∀ (v : Int32) hx9, jJ jSgM Dy hx9 → jSm fp_X12_childrenOf_r125d h0 hx9 → dr = v.toInt → vw hx9 = vw h0 → Q (some (.int v)) hx9) (k5 : ∀ (l1 : Int32) (l2 : Int32) (l3 : Int32) (l4 : Int32) (h : jH), 600 - l4.toInt < R5 → (-1) ≤ l1.toInt ∧ l1.toInt ≤ 599 → 0 ≤ l2.toInt ∧ l2.toInt ≤ 146399 → 0 ≤ l4.toInt ∧ l4.toInt ≤ 600 → jJ jSgM Dy h → jSm fp_X12_childrenOf_r125d h0 h → K5 l1.toInt l2.toInt l3.toInt l4.toInt (vw h) = dr → vw h = vw h0 → jX m_X12_childrenOf 6 0 0 5 [(0, .ref 125), (1, .int l1), (2, .int l2), (3, .int l3), (4, .int l4)] [] h 0 0 Q) (k50 : ∀ (l1 : Int32) (l2 : Int32) (l3 : Int32) (l4 : Int32) (l5 : Int32) (l6 : Int32) (g0 : Int32) (h : jH), 600 - l6.toInt < R50 → (-1) ≤ l1.toInt ∧ l1.toInt ≤ 599 → 0 ≤ l2.toInt ∧ l2.toInt ≤ 146399 → 0 ≤ l4.toInt ∧ l4.toInt ≤ 599 → 0 ≤ l5.toInt ∧ l5.toInt ≤ 1 → 0 ≤ l6.toInt ∧ l6.toInt ≤ 600 → l6.toInt % 3 = 0 → 0 ≤ g0.toInt ∧ g0.toInt ≤ 200 → jiv h 126 (0 : Int32).toNatClampNeg = g0 → 600 - l4.toInt ≤ R5 → jJ jSgM Dy h → jSm fp_X12_childrenOf_r125d h0 h → K50 l1.toInt l2.toInt l3.toInt l4.toInt l5.toInt l6.toInt (vw h) = dr → vw h = vw h0 → jX m_X12_childrenOf 6 0 0 50 [(0, .ref 125), (1, .int l1), (2, .int l2), (3, .int l3), (4, .int l4), (5, .int l5), (6, .int l6)] [] h 0 0 Q) : ∀ (l1 : Int32) (l2 : Int32) (l3 : Int32) (l4 : Int32) (l6 : Int32) (g0 : Int32) (h : jH), (-1) ≤ l1.toInt ∧ l1.toInt ≤ 599 → 0 ≤ l2.toInt ∧ l2.toInt ≤ 146399 → 0 ≤ l4.toInt ∧ l4.toInt ≤ 599 → 0 ≤ l6.toInt ∧ l6.toInt ≤ 597 → l6.toInt % 3 = 0 → 0 ≤ g0.toInt ∧ g0.toInt ≤ 200 → jiv h 126 (0 : Int32).toNatClampNeg = g0 → 600 - l4.toInt ≤ R5 → 600 - l6.toInt ≤ R50 → jJ jSgM Dy h → jSm fp_X12_childrenOf_r125d h0 h → d_X12_childrenOf_r125d_200144 K5 K50  l1.toInt l2.toInt l3.toInt l4.toInt l6.toInt (vw h) = dr → vw h = vw h0 → jX m_X12_childrenOf 6 0 0 144 [(0, .ref 125), (1, .int l1), (2, .int l2), (3, .int l3), (4, .int l4), (6, .int l6)] [.int 0] h 0 0 Q := by
  intro l1 l2 l3 l4 l6 g0 h y0 y1 y2 y3 y4 y5 z0 m5 m50 J Sm D EV
  have el3 := jfull l3
  unfold d_X12_childrenOf_r125d_200144 at D
  try rw [vrn (n := 0) (by decide) z0] at D
  refine x_istore (lsx9 := [(5, .int 0), (0, .ref 125), (1, .int l1), (2, .int l2), (3, .int l3), (4, .int l4), (6, .int l6)]) rfl rfl rfl ?_
  refine z_iinc (x := l6) (lsx9 := fun v1 => [(6, .int v1), (5, .int 0), (0, .ref 125), (1, .int l1), (2, .int l2), (3, .int l3), (4, .int l4)]) rfl rfl rfl jko_3 (by omega) rfl (fun _ => rfl) (fun v1 ev1 => ?_)
  refine x_goto (tgt := 50) rfl rfl ?_
  try rw [show (l6.toInt + 3) = v1.toInt from by omega] at D
  exact jX.sub (jsb_c rfl (jsb_c rfl (jsb_c rfl (jsb_c rfl (jsb_c rfl (jsb_c rfl (jsb_c rfl jsb_n))))))) (k50 l1 l2 l3 l4 0 v1 g0 h (by omega) (jr_of rfl (by omega)) (jr_of rfl (by omega)) (jr_of rfl (by omega)) (jr_of jk_0 (by omega)) (jr_of rfl (by omega)) (jr_mod rfl (by omega)) (jr_of rfl (by omega)) z0 (by omega) J Sm (by rw [jk_0]; exact D) EV)
set_option maxRecDepth 100000 in
set_option maxHeartbeats 4000000 in
theorem ct_X12_childrenOf_r125d_139 {Dy : jH → Prop} {h0 : jH} {Q : Option Value → jH → Prop} {dr : Int} {K5 : Int → Int → Int → Int → jW → Int} {K50 : Int → Int → Int → Int → Int → Int → jW → Int} {R5 : Int} {R50 : Int} (hD : jDk Dy) (hQ : ∀ (v : Int32) hx9, jJ jSgM Dy hx9 → jSm fp_X12_childrenOf_r125d h0 hx9 → dr = v.toInt → vw hx9 = vw h0 → Q (some (.int v)) hx9) (k5 : ∀ (l1 : Int32) (l2 : Int32) (l3 : Int32) (l4 : Int32) (h : jH), 600 - l4.toInt < R5 → (-1) ≤ l1.toInt ∧ l1.toInt ≤ 599 → 0 ≤ l2.toInt ∧ l2.toInt ≤ 146399 → 0 ≤ l4.toInt ∧ l4.toInt ≤ 600 → jJ jSgM Dy h → jSm fp_X12_childrenOf_r125d h0 h → K5 l1.toInt l2.toInt l3.toInt l4.toInt (vw h) = dr → vw h = vw h0 → jX m_X12_childrenOf 6 0 0 5 [(0, .ref 125), (1, .int l1), (2, .int l2), (3, .int l3), (4, .int l4)] [] h 0 0 Q) (k50 : ∀ (l1 : Int32) (l2 : Int32) (l3 : Int32) (l4 : Int32) (l5 : Int32) (l6 : Int32) (g0 : Int32) (h : jH), 600 - l6.toInt < R50 → (-1) ≤ l1.toInt ∧ l1.toInt ≤ 599 → 0 ≤ l2.toInt ∧ l2.toInt ≤ 146399 → 0 ≤ l4.toInt ∧ l4.toInt ≤ 599 → 0 ≤ l5.toInt ∧ l5.toInt ≤ 1 → 0 ≤ l6.toInt ∧ l6.toInt ≤ 600 → l6.toInt % 3 = 0 → 0 ≤ g0.toInt ∧ g0.toInt ≤ 200 → jiv h 126 (0 : Int32).toNatClampNeg = g0 → 600 - l4.toInt ≤ R5 → jJ jSgM Dy h → jSm fp_X12_childrenOf_r125d h0 h → K50 l1.toInt l2.toInt l3.toInt l4.toInt l5.toInt l6.toInt (vw h) = dr → vw h = vw h0 → jX m_X12_childrenOf 6 0 0 50 [(0, .ref 125), (1, .int l1), (2, .int l2), (3, .int l3), (4, .int l4), (5, .int l5), (6, .int l6)] [] h 0 0 Q) : ∀ (l1 : Int32) (l2 : Int32) (l3 : Int32) (l4 : Int32) (l6 : Int32) (g0 : Int32) (h : jH), (-1) ≤ l1.toInt ∧ l1.toInt ≤ 599 → 0 ≤ l2.toInt ∧ l2.toInt ≤ 146399 → 0 ≤ l4.toInt ∧ l4.toInt ≤ 599 → 0 ≤ l6.toInt ∧ l6.toInt ≤ 597 → l6.toInt % 3 = 0 → 0 ≤ g0.toInt ∧ g0.toInt ≤ 200 → jiv h 126 (0 : Int32).toNatClampNeg = g0 → 600 - l4.toInt ≤ R5 → 600 - l6.toInt ≤ R50 → jJ jSgM Dy h → jSm fp_X12_childrenOf_r125d h0 h → d_X12_childrenOf_r125d_139 K5 K50  l1.toInt l2.toInt l3.toInt l4.toInt l6.toInt (vw h) = dr → vw h = vw h0 → jX m_X12_childrenOf 6 0 0 139 [(0, .ref 125), (1, .int l1), (2, .int l2), (3, .int l3), (4, .int l4), (6, .int l6)] [] h 0 0 Q := by
  intro l1 l2 l3 l4 l6 g0 h y0 y1 y2 y3 y4 y5 z0 m5 m50 J Sm D EV
  have el3 := jfull l3
  unfold d_X12_childrenOf_r125d_139 at D
  try rw [vrn (n := 0) (by decide) z0] at D
  refine x_iconst (v := 1) rfl ki_1 ?_
  refine x_goto (tgt := 144) rfl rfl ?_
  exact jX.sub (jsb_c rfl (jsb_c rfl (jsb_c rfl (jsb_c rfl (jsb_c rfl (jsb_c rfl jsb_n)))))) (ct_X12_childrenOf_r125d_300144 hD hQ k5 k50 l1 l2 l3 l4 l6 g0 h (jr_of rfl (by omega)) (jr_of rfl (by omega)) (jr_of rfl (by omega)) (jr_of rfl (by omega)) (jr_mod rfl (by omega)) (jr_of rfl (by omega)) z0 (by omega) (by omega) J Sm D EV)
set_option maxRecDepth 100000 in
set_option maxHeartbeats 4000000 in
theorem ct_X12_childrenOf_r125d_143 {Dy : jH → Prop} {h0 : jH} {Q : Option Value → jH → Prop} {dr : Int} {K5 : Int → Int → Int → Int → jW → Int} {K50 : Int → Int → Int → Int → Int → Int → jW → Int} {R5 : Int} {R50 : Int} (hD : jDk Dy) (hQ : ∀ (v : Int32) hx9, jJ jSgM Dy hx9 → jSm fp_X12_childrenOf_r125d h0 hx9 → dr = v.toInt → vw hx9 = vw h0 → Q (some (.int v)) hx9) (k5 : ∀ (l1 : Int32) (l2 : Int32) (l3 : Int32) (l4 : Int32) (h : jH), 600 - l4.toInt < R5 → (-1) ≤ l1.toInt ∧ l1.toInt ≤ 599 → 0 ≤ l2.toInt ∧ l2.toInt ≤ 146399 → 0 ≤ l4.toInt ∧ l4.toInt ≤ 600 → jJ jSgM Dy h → jSm fp_X12_childrenOf_r125d h0 h → K5 l1.toInt l2.toInt l3.toInt l4.toInt (vw h) = dr → vw h = vw h0 → jX m_X12_childrenOf 6 0 0 5 [(0, .ref 125), (1, .int l1), (2, .int l2), (3, .int l3), (4, .int l4)] [] h 0 0 Q) (k50 : ∀ (l1 : Int32) (l2 : Int32) (l3 : Int32) (l4 : Int32) (l5 : Int32) (l6 : Int32) (g0 : Int32) (h : jH), 600 - l6.toInt < R50 → (-1) ≤ l1.toInt ∧ l1.toInt ≤ 599 → 0 ≤ l2.toInt ∧ l2.toInt ≤ 146399 → 0 ≤ l4.toInt ∧ l4.toInt ≤ 599 → 0 ≤ l5.toInt ∧ l5.toInt ≤ 1 → 0 ≤ l6.toInt ∧ l6.toInt ≤ 600 → l6.toInt % 3 = 0 → 0 ≤ g0.toInt ∧ g0.toInt ≤ 200 → jiv h 126 (0 : Int32).toNatClampNeg = g0 → 600 - l4.toInt ≤ R5 → jJ jSgM Dy h → jSm fp_X12_childrenOf_r125d h0 h → K50 l1.toInt l2.toInt l3.toInt l4.toInt l5.toInt l6.toInt (vw h) = dr → vw h = vw h0 → jX m_X12_childrenOf 6 0 0 50 [(0, .ref 125), (1, .int l1), (2, .int l2), (3, .int l3), (4, .int l4), (5, .int l5), (6, .int l6)] [] h 0 0 Q) : ∀ (l1 : Int32) (l2 : Int32) (l3 : Int32) (l4 : Int32) (l6 : Int32) (g0 : Int32) (h : jH), (-1) ≤ l1.toInt ∧ l1.toInt ≤ 599 → 0 ≤ l2.toInt ∧ l2.toInt ≤ 146399 → 0 ≤ l4.toInt ∧ l4.toInt ≤ 599 → 0 ≤ l6.toInt ∧ l6.toInt ≤ 597 → l6.toInt % 3 = 0 → 0 ≤ g0.toInt ∧ g0.toInt ≤ 200 → jiv h 126 (0 : Int32).toNatClampNeg = g0 → 600 - l4.toInt ≤ R5 → 600 - l6.toInt ≤ R50 → jJ jSgM Dy h → jSm fp_X12_childrenOf_r125d h0 h → d_X12_childrenOf_r125d_143 K5 K50  l1.toInt l2.toInt l3.toInt l4.toInt l6.toInt (vw h) = dr → vw h = vw h0 → jX m_X12_childrenOf 6 0 0 143 [(0, .ref 125), (1, .int l1), (2, .int l2), (3, .int l3), (4, .int l4), (6, .int l6)] [] h 0 0 Q := by
  intro l1 l2 l3 l4 l6 g0 h y0 y1 y2 y3 y4 y5 z0 m5 m50 J Sm D EV
  have el3 := jfull l3
  unfold d_X12_childrenOf_r125d_143 at D
  try rw [vrn (n := 0) (by decide) z0] at D
  refine x_iconst (v := 0) rfl ki_0 ?_
  exact jX.sub (jsb_c rfl (jsb_c rfl (jsb_c rfl (jsb_c rfl (jsb_c rfl (jsb_c rfl jsb_n)))))) (ct_X12_childrenOf_r125d_200144 hD hQ k5 k50 l1 l2 l3 l4 l6 g0 h (jr_of rfl (by omega)) (jr_of rfl (by omega)) (jr_of rfl (by omega)) (jr_of rfl (by omega)) (jr_mod rfl (by omega)) (jr_of rfl (by omega)) z0 (by omega) (by omega) J Sm D EV)
set_option maxRecDepth 100000 in
set_option maxHeartbeats 4000000 in
theorem ct_X12_childrenOf_r125d_300101 {Dy : jH → Prop} {h0 : jH} {Q : Option Value → jH → Prop} {dr : Int} {K5 : Int → Int → Int → Int → jW → Int} {K50 : Int → Int → Int → Int → Int → Int → jW → Int} {R5 : Int} {R50 : Int} (hD : jDk Dy) (hQ : ∀ (v : Int32) hx9, jJ jSgM Dy hx9 → jSm fp_X12_childrenOf_r125d h0 hx9 → dr = v.toInt → vw hx9 = vw h0 → Q (some (.int v)) hx9) (k5 : ∀ (l1 : Int32) (l2 : Int32) (l3 : Int32) (l4 : Int32) (h : jH), 600 - l4.toInt < R5 → (-1) ≤ l1.toInt ∧ l1.toInt ≤ 599 → 0 ≤ l2.toInt ∧ l2.toInt ≤ 146399 → 0 ≤ l4.toInt ∧ l4.toInt ≤ 600 → jJ jSgM Dy h → jSm fp_X12_childrenOf_r125d h0 h → K5 l1.toInt l2.toInt l3.toInt l4.toInt (vw h) = dr → vw h = vw h0 → jX m_X12_childrenOf 6 0 0 5 [(0, .ref 125), (1, .int l1), (2, .int l2), (3, .int l3), (4, .int l4)] [] h 0 0 Q) (k50 : ∀ (l1 : Int32) (l2 : Int32) (l3 : Int32) (l4 : Int32) (l5 : Int32) (l6 : Int32) (g0 : Int32) (h : jH), 600 - l6.toInt < R50 → (-1) ≤ l1.toInt ∧ l1.toInt ≤ 599 → 0 ≤ l2.toInt ∧ l2.toInt ≤ 146399 → 0 ≤ l4.toInt ∧ l4.toInt ≤ 599 → 0 ≤ l5.toInt ∧ l5.toInt ≤ 1 → 0 ≤ l6.toInt ∧ l6.toInt ≤ 600 → l6.toInt % 3 = 0 → 0 ≤ g0.toInt ∧ g0.toInt ≤ 200 → jiv h 126 (0 : Int32).toNatClampNeg = g0 → 600 - l4.toInt ≤ R5 → jJ jSgM Dy h → jSm fp_X12_childrenOf_r125d h0 h → K50 l1.toInt l2.toInt l3.toInt l4.toInt l5.toInt l6.toInt (vw h) = dr → vw h = vw h0 → jX m_X12_childrenOf 6 0 0 50 [(0, .ref 125), (1, .int l1), (2, .int l2), (3, .int l3), (4, .int l4), (5, .int l5), (6, .int l6)] [] h 0 0 Q) : ∀ (l1 : Int32) (l2 : Int32) (l3 : Int32) (l4 : Int32) (l5 : Int32) (l6 : Int32) (g0 : Int32) (h : jH), (-1) ≤ l1.toInt ∧ l1.toInt ≤ 599 → 0 ≤ l2.toInt ∧ l2.toInt ≤ 146399 → 0 ≤ l4.toInt ∧ l4.toInt ≤ 599 → 0 ≤ l5.toInt ∧ l5.toInt ≤ 1 → 0 ≤ l6.toInt ∧ l6.toInt ≤ 597 → l6.toInt % 3 = 0 → 0 ≤ g0.toInt ∧ g0.toInt ≤ 200 → jiv h 126 (0 : Int32).toNatClampNeg = g0 → 600 - l4.toInt ≤ R5 → 600 - l6.toInt ≤ R50 → jJ jSgM Dy h → jSm fp_X12_childrenOf_r125d h0 h → d_X12_childrenOf_r125d_300101 K5 K50  l1.toInt l2.toInt l3.toInt l4.toInt l5.toInt l6.toInt (vw h) = dr → vw h = vw h0 → jX m_X12_childrenOf 6 0 0 101 [(0, .ref 125), (1, .int l1), (2, .int l2), (3, .int l3), (4, .int l4), (5, .int l5), (6, .int l6)] [.int 1] h 0 0 Q := by
  intro l1 l2 l3 l4 l5 l6 g0 h y0 y1 y2 y3 y4 y5 y6 z0 m5 m50 J Sm D EV
  have el3 := jfull l3
  unfold d_X12_childrenOf_r125d_300101 at D
  try rw [vrn (n := 0) (by decide) z0] at D
  refine x_istore (lsx9 := [(7, .int 1), (0, .ref 125), (1, .int l1), (2, .int l2), (3, .int l3), (4, .int l4), (5, .int l5), (6, .int l6)]) rfl rfl rfl ?_
  refine x_iload (x := l5) rfl rfl ?_
  refine x_ifne (tgt := 139) rfl rfl (ti_ne rfl jk_0 ⟨fun c1 => ?_, fun c1 => ?_⟩)
  ·
    rw [if_neg (by omega)] at D
    exact jX.sub (jsb_c rfl (jsb_c rfl (jsb_c rfl (jsb_c rfl (jsb_c rfl (jsb_c rfl jsb_n)))))) (ct_X12_childrenOf_r125d_139 hD hQ k5 k50 l1 l2 l3 l4 l6 g0 h (jr_of rfl (by omega)) (jr_of rfl (by omega)) (jr_of rfl (by omega)) (jr_of rfl (by omega)) (jr_mod rfl (by omega)) (jr_of rfl (by omega)) z0 (by omega) (by omega) J Sm D EV)
  ·
    rw [if_pos (by omega)] at D
    refine x_iload (x := 1) rfl rfl ?_
    refine x_ifeq (tgt := 143) rfl rfl (ti_eq jk_1 jk_0 (br_f (by omega) ?_))
    refine x_aloadn (x := 125) rfl rfl ?_
    refine z_getR (N := 92) (b := 139) 12 29 rfl f_12_72 rfl J rfl 16029 ⟨rfl, rfl⟩ rfl ?_
    refine x_iload (x := l6) rfl rfl ?_
    refine x_iconst (v := 1) rfl ki_1 ?_
    refine z_iadd rfl rfl jk_1 (by omega) (fun v2 ev2 => ?_)
    refine z_iald (N := 600) rfl J rfl sg_139_0_600_1_0_1 rfl (by omega) (fun v3 qv3 ev3 => ?_)
    try rw [vrd qv3 (show (l6.toInt + 1) = v2.toInt from by omega)] at D
    refine x_iloadn (x := l1) rfl rfl ?_
    refine x_iceq (tgt := 139) rfl rfl (ti_eq rfl rfl ⟨fun c4 => ?_, fun c4 => ?_⟩)
    ·
      rw [if_pos (by omega)] at D
      exact jX.sub (jsb_c rfl (jsb_c rfl (jsb_c rfl (jsb_c rfl (jsb_c rfl (jsb_c rfl jsb_n)))))) (ct_X12_childrenOf_r125d_139 hD hQ k5 k50 l1 l2 l3 l4 l6 g0 h (jr_of rfl (by omega)) (jr_of rfl (by omega)) (jr_of rfl (by omega)) (jr_of rfl (by omega)) (jr_mod rfl (by omega)) (jr_of rfl (by omega)) z0 (by omega) (by omega) J Sm D EV)
    ·
      rw [if_neg (by omega)] at D
      refine x_aloadn (x := 125) rfl rfl ?_
      refine z_getR (N := 92) (b := 139) 12 29 rfl f_12_72 rfl J rfl 16029 ⟨rfl, rfl⟩ rfl ?_
      refine x_iload (x := l6) rfl rfl ?_
      refine x_iconst (v := 2) rfl ki_2 ?_
      refine z_iadd rfl rfl jk_2 (by omega) (fun v5 ev5 => ?_)
      refine z_iald (N := 600) rfl J rfl sg_139_0_600_1_0_1 rfl (by omega) (fun v6 qv6 ev6 => ?_)
      try rw [vrd qv6 (show (l6.toInt + 2) = v5.toInt from by omega)] at D
      refine x_iloadn (x := l1) rfl rfl ?_
      refine x_icne (tgt := 143) rfl rfl (ti_ne rfl rfl ⟨fun c7 => ?_, fun c7 => ?_⟩)
      ·
        rw [if_neg (by omega)] at D
        exact jX.sub (jsb_c rfl (jsb_c rfl (jsb_c rfl (jsb_c rfl (jsb_c rfl (jsb_c rfl jsb_n)))))) (ct_X12_childrenOf_r125d_143 hD hQ k5 k50 l1 l2 l3 l4 l6 g0 h (jr_of rfl (by omega)) (jr_of rfl (by omega)) (jr_of rfl (by omega)) (jr_of rfl (by omega)) (jr_mod rfl (by omega)) (jr_of rfl (by omega)) z0 (by omega) (by omega) J Sm D EV)
      ·
        rw [if_pos (by omega)] at D
        exact jX.sub (jsb_c rfl (jsb_c rfl (jsb_c rfl (jsb_c rfl (jsb_c rfl (jsb_c rfl jsb_n)))))) (ct_X12_childrenOf_r125d_139 hD hQ k5 k50 l1 l2 l3 l4 l6 g0 h (jr_of rfl (by omega)) (jr_of rfl (by omega)) (jr_of rfl (by omega)) (jr_of rfl (by omega)) (jr_mod rfl (by omega)) (jr_of rfl (by omega)) z0 (by omega) (by omega) J Sm D EV)
set_option maxRecDepth 100000 in
set_option maxHeartbeats 4000000 in
theorem ct_X12_childrenOf_r125d_200101 {Dy : jH → Prop} {h0 : jH} {Q : Option Value → jH → Prop} {dr : Int} {K5 : Int → Int → Int → Int → jW → Int} {K50 : Int → Int → Int → Int → Int → Int → jW → Int} {R5 : Int} {R50 : Int} (hD : jDk Dy) (hQ : ∀ (v : Int32) hx9, jJ jSgM Dy hx9 → jSm fp_X12_childrenOf_r125d h0 hx9 → dr = v.toInt → vw hx9 = vw h0 → Q (some (.int v)) hx9) (k5 : ∀ (l1 : Int32) (l2 : Int32) (l3 : Int32) (l4 : Int32) (h : jH), 600 - l4.toInt < R5 → (-1) ≤ l1.toInt ∧ l1.toInt ≤ 599 → 0 ≤ l2.toInt ∧ l2.toInt ≤ 146399 → 0 ≤ l4.toInt ∧ l4.toInt ≤ 600 → jJ jSgM Dy h → jSm fp_X12_childrenOf_r125d h0 h → K5 l1.toInt l2.toInt l3.toInt l4.toInt (vw h) = dr → vw h = vw h0 → jX m_X12_childrenOf 6 0 0 5 [(0, .ref 125), (1, .int l1), (2, .int l2), (3, .int l3), (4, .int l4)] [] h 0 0 Q) (k50 : ∀ (l1 : Int32) (l2 : Int32) (l3 : Int32) (l4 : Int32) (l5 : Int32) (l6 : Int32) (g0 : Int32) (h : jH), 600 - l6.toInt < R50 → (-1) ≤ l1.toInt ∧ l1.toInt ≤ 599 → 0 ≤ l2.toInt ∧ l2.toInt ≤ 146399 → 0 ≤ l4.toInt ∧ l4.toInt ≤ 599 → 0 ≤ l5.toInt ∧ l5.toInt ≤ 1 → 0 ≤ l6.toInt ∧ l6.toInt ≤ 600 → l6.toInt % 3 = 0 → 0 ≤ g0.toInt ∧ g0.toInt ≤ 200 → jiv h 126 (0 : Int32).toNatClampNeg = g0 → 600 - l4.toInt ≤ R5 → jJ jSgM Dy h → jSm fp_X12_childrenOf_r125d h0 h → K50 l1.toInt l2.toInt l3.toInt l4.toInt l5.toInt l6.toInt (vw h) = dr → vw h = vw h0 → jX m_X12_childrenOf 6 0 0 50 [(0, .ref 125), (1, .int l1), (2, .int l2), (3, .int l3), (4, .int l4), (5, .int l5), (6, .int l6)] [] h 0 0 Q) : ∀ (l1 : Int32) (l2 : Int32) (l3 : Int32) (l4 : Int32) (l5 : Int32) (l6 : Int32) (g0 : Int32) (h : jH), (-1) ≤ l1.toInt ∧ l1.toInt ≤ 599 → 0 ≤ l2.toInt ∧ l2.toInt ≤ 146399 → 0 ≤ l4.toInt ∧ l4.toInt ≤ 599 → 0 ≤ l5.toInt ∧ l5.toInt ≤ 1 → 0 ≤ l6.toInt ∧ l6.toInt ≤ 597 → l6.toInt % 3 = 0 → 0 ≤ g0.toInt ∧ g0.toInt ≤ 200 → jiv h 126 (0 : Int32).toNatClampNeg = g0 → 600 - l4.toInt ≤ R5 → 600 - l6.toInt ≤ R50 → jJ jSgM Dy h → jSm fp_X12_childrenOf_r125d h0 h → d_X12_childrenOf_r125d_200101 K5 K50  l1.toInt l2.toInt l3.toInt l4.toInt l5.toInt l6.toInt (vw h) = dr → vw h = vw h0 → jX m_X12_childrenOf 6 0 0 101 [(0, .ref 125), (1, .int l1), (2, .int l2), (3, .int l3), (4, .int l4), (5, .int l5), (6, .int l6)] [.int 0] h 0 0 Q := by
  intro l1 l2 l3 l4 l5 l6 g0 h y0 y1 y2 y3 y4 y5 y6 z0 m5 m50 J Sm D EV
  have el3 := jfull l3
  unfold d_X12_childrenOf_r125d_200101 at D
  try rw [vrn (n := 0) (by decide) z0] at D
  refine x_istore (lsx9 := [(7, .int 0), (0, .ref 125), (1, .int l1), (2, .int l2), (3, .int l3), (4, .int l4), (5, .int l5), (6, .int l6)]) rfl rfl rfl ?_
  refine x_iload (x := l5) rfl rfl ?_
  refine x_ifne (tgt := 139) rfl rfl (ti_ne rfl jk_0 ⟨fun c1 => ?_, fun c1 => ?_⟩)
  ·
    rw [if_neg (by omega)] at D
    exact jX.sub (jsb_c rfl (jsb_c rfl (jsb_c rfl (jsb_c rfl (jsb_c rfl (jsb_c rfl jsb_n)))))) (ct_X12_childrenOf_r125d_139 hD hQ k5 k50 l1 l2 l3 l4 l6 g0 h (jr_of rfl (by omega)) (jr_of rfl (by omega)) (jr_of rfl (by omega)) (jr_of rfl (by omega)) (jr_mod rfl (by omega)) (jr_of rfl (by omega)) z0 (by omega) (by omega) J Sm D EV)
  ·
    rw [if_pos (by omega)] at D
    refine x_iload (x := 0) rfl rfl ?_
    refine x_ifeq (tgt := 143) rfl rfl (ti_eq jk_0 jk_0 (br_t (by omega) ?_))
    exact jX.sub (jsb_c rfl (jsb_c rfl (jsb_c rfl (jsb_c rfl (jsb_c rfl (jsb_c rfl jsb_n)))))) (ct_X12_childrenOf_r125d_143 hD hQ k5 k50 l1 l2 l3 l4 l6 g0 h (jr_of rfl (by omega)) (jr_of rfl (by omega)) (jr_of rfl (by omega)) (jr_of rfl (by omega)) (jr_mod rfl (by omega)) (jr_of rfl (by omega)) z0 (by omega) (by omega) J Sm D EV)
set_option maxRecDepth 100000 in
set_option maxHeartbeats 4000000 in
theorem ct_X12_childrenOf_r125d_100 {Dy : jH → Prop} {h0 : jH} {Q : Option Value → jH → Prop} {dr : Int} {K5 : Int → Int → Int → Int → jW → Int} {K50 : Int → Int → Int → Int → Int → Int → jW → Int} {R5 : Int} {R50 : Int} (hD : jDk Dy) (hQ : ∀ (v : Int32) hx9, jJ jSgM Dy hx9 → jSm fp_X12_childrenOf_r125d h0 hx9 → dr = v.toInt → vw hx9 = vw h0 → Q (some (.int v)) hx9) (k5 : ∀ (l1 : Int32) (l2 : Int32) (l3 : Int32) (l4 : Int32) (h : jH), 600 - l4.toInt < R5 → (-1) ≤ l1.toInt ∧ l1.toInt ≤ 599 → 0 ≤ l2.toInt ∧ l2.toInt ≤ 146399 → 0 ≤ l4.toInt ∧ l4.toInt ≤ 600 → jJ jSgM Dy h → jSm fp_X12_childrenOf_r125d h0 h → K5 l1.toInt l2.toInt l3.toInt l4.toInt (vw h) = dr → vw h = vw h0 → jX m_X12_childrenOf 6 0 0 5 [(0, .ref 125), (1, .int l1), (2, .int l2), (3, .int l3), (4, .int l4)] [] h 0 0 Q) (k50 : ∀ (l1 : Int32) (l2 : Int32) (l3 : Int32) (l4 : Int32) (l5 : Int32) (l6 : Int32) (g0 : Int32) (h : jH), 600 - l6.toInt < R50 → (-1) ≤ l1.toInt ∧ l1.toInt ≤ 599 → 0 ≤ l2.toInt ∧ l2.toInt ≤ 146399 → 0 ≤ l4.toInt ∧ l4.toInt ≤ 599 → 0 ≤ l5.toInt ∧ l5.toInt ≤ 1 → 0 ≤ l6.toInt ∧ l6.toInt ≤ 600 → l6.toInt % 3 = 0 → 0 ≤ g0.toInt ∧ g0.toInt ≤ 200 → jiv h 126 (0 : Int32).toNatClampNeg = g0 → 600 - l4.toInt ≤ R5 → jJ jSgM Dy h → jSm fp_X12_childrenOf_r125d h0 h → K50 l1.toInt l2.toInt l3.toInt l4.toInt l5.toInt l6.toInt (vw h) = dr → vw h = vw h0 → jX m_X12_childrenOf 6 0 0 50 [(0, .ref 125), (1, .int l1), (2, .int l2), (3, .int l3), (4, .int l4), (5, .int l5), (6, .int l6)] [] h 0 0 Q) : ∀ (l1 : Int32) (l2 : Int32) (l3 : Int32) (l4 : Int32) (l5 : Int32) (l6 : Int32) (g0 : Int32) (h : jH), (-1) ≤ l1.toInt ∧ l1.toInt ≤ 599 → 0 ≤ l2.toInt ∧ l2.toInt ≤ 146399 → 0 ≤ l4.toInt ∧ l4.toInt ≤ 599 → 0 ≤ l5.toInt ∧ l5.toInt ≤ 1 → 0 ≤ l6.toInt ∧ l6.toInt ≤ 597 → l6.toInt % 3 = 0 → 0 ≤ g0.toInt ∧ g0.toInt ≤ 200 → jiv h 126 (0 : Int32).toNatClampNeg = g0 → 600 - l4.toInt ≤ R5 → 600 - l6.toInt ≤ R50 → jJ jSgM Dy h → jSm fp_X12_childrenOf_r125d h0 h → d_X12_childrenOf_r125d_100 K5 K50  l1.toInt l2.toInt l3.toInt l4.toInt l5.toInt l6.toInt (vw h) = dr → vw h = vw h0 → jX m_X12_childrenOf 6 0 0 100 [(0, .ref 125), (1, .int l1), (2, .int l2), (3, .int l3), (4, .int l4), (5, .int l5), (6, .int l6)] [] h 0 0 Q := by
  intro l1 l2 l3 l4 l5 l6 g0 h y0 y1 y2 y3 y4 y5 y6 z0 m5 m50 J Sm D EV
  have el3 := jfull l3
  unfold d_X12_childrenOf_r125d_100 at D
  try rw [vrn (n := 0) (by decide) z0] at D
  refine x_iconst (v := 0) rfl ki_0 ?_
  exact jX.sub (jsb_c rfl (jsb_c rfl (jsb_c rfl (jsb_c rfl (jsb_c rfl (jsb_c rfl (jsb_c rfl jsb_n))))))) (ct_X12_childrenOf_r125d_200101 hD hQ k5 k50 l1 l2 l3 l4 l5 l6 g0 h (jr_of rfl (by omega)) (jr_of rfl (by omega)) (jr_of rfl (by omega)) (jr_of rfl (by omega)) (jr_of rfl (by omega)) (jr_mod rfl (by omega)) (jr_of rfl (by omega)) z0 (by omega) (by omega) J Sm D EV)
set_option maxRecDepth 100000 in
set_option maxHeartbeats 4000000 in
theorem ct_X12_childrenOf_r125d_50 {Dy : jH → Prop} {h0 : jH} {Q : Option Value → jH → Prop} {dr : Int} {K5 : Int → Int → Int → Int → jW → Int} {R5 : Int} (hD : jDk Dy) (hQ : ∀ (v : Int32) hx9, jJ jSgM Dy hx9 → jSm fp_X12_childrenOf_r125d h0 hx9 → dr = v.toInt → vw hx9 = vw h0 → Q (some (.int v)) hx9) (k5 : ∀ (l1 : Int32) (l2 : Int32) (l3 : Int32) (l4 : Int32) (h : jH), 600 - l4.toInt < R5 → (-1) ≤ l1.toInt ∧ l1.toInt ≤ 599 → 0 ≤ l2.toInt ∧ l2.toInt ≤ 146399 → 0 ≤ l4.toInt ∧ l4.toInt ≤ 600 → jJ jSgM Dy h → jSm fp_X12_childrenOf_r125d h0 h → K5 l1.toInt l2.toInt l3.toInt l4.toInt (vw h) = dr → vw h = vw h0 → jX m_X12_childrenOf 6 0 0 5 [(0, .ref 125), (1, .int l1), (2, .int l2), (3, .int l3), (4, .int l4)] [] h 0 0 Q) : ∀ r : Nat, ∀ (l1 : Int32) (l2 : Int32) (l3 : Int32) (l4 : Int32) (l5 : Int32) (l6 : Int32) (g0 : Int32) (h : jH), 600 - l6.toInt < (r : Int) → (-1) ≤ l1.toInt ∧ l1.toInt ≤ 599 → 0 ≤ l2.toInt ∧ l2.toInt ≤ 146399 → 0 ≤ l4.toInt ∧ l4.toInt ≤ 599 → 0 ≤ l5.toInt ∧ l5.toInt ≤ 1 → 0 ≤ l6.toInt ∧ l6.toInt ≤ 600 → l6.toInt % 3 = 0 → 0 ≤ g0.toInt ∧ g0.toInt ≤ 200 → jiv h 126 (0 : Int32).toNatClampNeg = g0 → 600 - l4.toInt ≤ R5 → jJ jSgM Dy h → jSm fp_X12_childrenOf_r125d h0 h → d_X12_childrenOf_r125d_50 K5 r l1.toInt l2.toInt l3.toInt l4.toInt l5.toInt l6.toInt (vw h) = dr → vw h = vw h0 → jX m_X12_childrenOf 6 0 0 50 [(0, .ref 125), (1, .int l1), (2, .int l2), (3, .int l3), (4, .int l4), (5, .int l5), (6, .int l6)] [] h 0 0 Q := by
  intro r
  induction r with
  | zero =>
    intro l1 l2 l3 l4 l5 l6 g0 h hm y0 y1 y2 y3 y4 y5 y6 z0 m5 J Sm D EV
    exfalso
    have el3 := jfull l3
    omega
  | succ r ih =>
    intro l1 l2 l3 l4 l5 l6 g0 h hm y0 y1 y2 y3 y4 y5 y6 z0 m5 J Sm D EV
    have el3 := jfull l3
    rw [d_X12_childrenOf_r125d_50.eq_2] at D
    try rw [vrn (n := 0) (by decide) z0] at D
    refine x_iload (x := l6) rfl rfl ?_
    refine x_iconst (v := 3) rfl ki_3 ?_
    refine x_aloadn (x := 125) rfl rfl ?_
    refine z_getR (N := 92) (b := 126) 12 2 rfl f_12_8 rfl J rfl 16002 ⟨rfl, rfl⟩ rfl ?_
    refine x_iconst (v := 0) rfl ki_0 ?_
    refine z_ialdM (N := 50660) (v := g0) rfl J rfl jk_0 (by omega) z0 ?_
    refine z_imul rfl jk_3 rfl (by omega) (fun v1 ev1 => ?_)
    refine x_icge (tgt := 152) rfl rfl (ti_ge rfl rfl ⟨fun c2 => ?_, fun c2 => ?_⟩)
    ·
      rw [if_pos (by omega)] at D
      refine x_iloadn (x := l3) rfl rfl ?_
      refine x_iload (x := l5) rfl rfl ?_
      refine x_ifeq (tgt := 162) rfl rfl (ti_eq rfl jk_0 ⟨fun c3 => ?_, fun c3 => ?_⟩)
      ·
        rw [if_pos (by omega)] at D
        refine x_iconst (v := 0) rfl ki_0 ?_
        exact jX.sub (jsb_c rfl (jsb_c rfl (jsb_c rfl (jsb_c rfl jsb_n)))) (ct_X12_childrenOf_r125d_200163 hD hQ k5 l1 l2 l4 l3 h (jr_of rfl (by omega)) (jr_of rfl (by omega)) (jr_of rfl (by omega)) (by omega) J Sm D EV)
      ·
        rw [if_neg (by omega)] at D
        refine x_iconst (v := 1) rfl ki_1 ?_
        refine x_goto (tgt := 163) rfl rfl ?_
        exact jX.sub (jsb_c rfl (jsb_c rfl (jsb_c rfl (jsb_c rfl jsb_n)))) (ct_X12_childrenOf_r125d_300163 hD hQ k5 l1 l2 l4 l3 h (jr_of rfl (by omega)) (jr_of rfl (by omega)) (jr_of rfl (by omega)) (by omega) J Sm D EV)
    ·
      rw [if_neg (by omega)] at D
      refine x_aloadn (x := 125) rfl rfl ?_
      refine z_getR (N := 92) (b := 139) 12 29 rfl f_12_72 rfl J rfl 16029 ⟨rfl, rfl⟩ rfl ?_
      refine x_iload (x := l6) rfl rfl ?_
      refine z_iald (N := 600) rfl J rfl sg_139_0_600_1_0_1 rfl (by omega) (fun v4 qv4 ev4 => ?_)
      try rw [vrd qv4 (show l6.toInt = l6.toInt from by omega)] at D
      refine x_iload (x := l4) rfl rfl ?_
      refine x_icne (tgt := 100) rfl rfl (ti_ne rfl rfl ⟨fun c5 => ?_, fun c5 => ?_⟩)
      ·
        rw [if_neg (by omega)] at D
        exact jX.sub (jsb_c rfl (jsb_c rfl (jsb_c rfl (jsb_c rfl (jsb_c rfl (jsb_c rfl (jsb_c rfl jsb_n))))))) (ct_X12_childrenOf_r125d_100 hD hQ k5 ih l1 l2 l3 l4 l5 l6 g0 h (jr_of rfl (by omega)) (jr_of rfl (by omega)) (jr_of rfl (by omega)) (jr_of rfl (by omega)) (jr_of rfl (by omega)) (jr_mod rfl (by omega)) (jr_of rfl (by omega)) z0 (by omega) (by omega) J Sm D EV)
      ·
        rw [if_pos (by omega)] at D
        refine x_aloadn (x := 125) rfl rfl ?_
        refine x_iload (x := l6) rfl rfl ?_
        refine x_iconst (v := 3) rfl ki_3 ?_
        refine z_idiv rfl rfl jk_3 (by omega) (by omega) (fun v6 ev6 => ?_)
        refine x_inv (N := m_X12_bookOf) (As := [.int v6]) (b := 125) (st := []) (dx9 := 5) (mc := 0) (ms := 0) (host := "") 12 rfl t_X12_bookOf ⟨Or.inl q_12_299, i_X12_bookOf.1, i_X12_bookOf.2⟩ ⟨by decide, rfl⟩ (congrArg Prod.fst (J.1.1 125 (12, 92) rfl)) rfl (by decide) rfl rfl ⟨by decide, by decide⟩ (jC.of rfl k_X12_bookOf rfl ?_)
        show jX m_X12_bookOf 5 0 0 0 [(0, .ref 125), (1, .int v6)] [] _ 0 0 _
        refine x_aloadn (x := 125) rfl rfl ?_
        refine z_getR (N := 92) (b := 126) 12 2 rfl f_12_8 rfl J rfl 16002 ⟨rfl, rfl⟩ rfl ?_
        refine x_aloadn (x := 125) rfl rfl ?_
        refine x_iloadn (x := v6) rfl rfl ?_
        refine x_inv (N := m_X12_at) (As := [.int v6]) (b := 125) (st := [.ref 126]) (dx9 := 4) (mc := 0) (ms := 0) (host := "") 12 rfl t_X12_at ⟨Or.inl q_12_254, i_X12_at.1, i_X12_at.2⟩ ⟨by decide, rfl⟩ (congrArg Prod.fst (J.1.1 125 (12, 92) rfl)) rfl (by decide) rfl rfl ⟨by decide, by decide⟩ (jC.of rfl k_X12_at rfl ?_)
        show jX m_X12_at 4 0 0 0 [(0, .ref 125), (1, .int v6)] [] _ 0 0 _
        refine x_bipush (v := 20) rfl kb_20 ?_
        refine x_bipush (v := 90) rfl kb_90 ?_
        refine x_iloadn (x := v6) rfl rfl ?_
        refine z_imul rfl jk_90 rfl (by omega) (fun v7 ev7 => ?_)
        refine z_iadd rfl jk_20 rfl (by omega) (fun v8 ev8 => ?_)
        refine x_iret rfl rfl ?_
        show jX m_X12_bookOf 5 0 0 9 [(0, .ref 125), (1, .int v6)] [.int v8, .ref 126] _ 0 0 _
        refine z_iald (N := 50660) rfl J rfl sg_126_20_18020_90_0_1 rfl (by omega) (fun v9 qv9 ev9 => ?_)
        try rw [vrd qv9 (show (20 + (90 * (l6.toInt / 3))) = v8.toInt from by omega)] at D
        refine x_iret rfl rfl ?_
        show jX m_X12_childrenOf 6 0 0 83 [(0, .ref 125), (1, .int l1), (2, .int l2), (3, .int l3), (4, .int l4), (5, .int l5), (6, .int l6)] [.int v9] _ 0 0 _
        refine x_ifne (tgt := 100) rfl rfl (ti_ne rfl jk_0 ⟨fun c10 => ?_, fun c10 => ?_⟩)
        ·
          rw [if_neg (by omega)] at D
          exact jX.sub (jsb_c rfl (jsb_c rfl (jsb_c rfl (jsb_c rfl (jsb_c rfl (jsb_c rfl (jsb_c rfl jsb_n))))))) (ct_X12_childrenOf_r125d_100 hD hQ k5 ih l1 l2 l3 l4 l5 l6 g0 h (jr_of rfl (by omega)) (jr_of rfl (by omega)) (jr_of rfl (by omega)) (jr_of rfl (by omega)) (jr_of rfl (by omega)) (jr_mod rfl (by omega)) (jr_of rfl (by omega)) z0 (by omega) (by omega) J Sm D EV)
        ·
          rw [if_pos (by omega)] at D
          refine x_aloadn (x := 125) rfl rfl ?_
          refine x_iload (x := l6) rfl rfl ?_
          refine x_inv (N := m_X12_dayAt) (As := [.int l6]) (b := 125) (st := []) (dx9 := 3) (mc := 0) (ms := 0) (host := "") 12 rfl t_X12_dayAt ⟨Or.inl q_12_347, i_X12_dayAt.1, i_X12_dayAt.2⟩ ⟨by decide, rfl⟩ (congrArg Prod.fst (J.1.1 125 (12, 92) rfl)) rfl (by decide) rfl rfl ⟨by decide, by decide⟩ (sf_X12_dayAt_r125d (jr_of rfl (by omega)) hD J rfl  (fun v14 h ev14 J S11 X12 X13 => ?_))
          have Sm := jSm_tr rfl Sm S11
          try rw [X12] at D
          try rw [← X13] at D
          have EV := X13.trans EV
          show jX m_X12_childrenOf 6 0 0 92 [(0, .ref 125), (1, .int l1), (2, .int l2), (3, .int l3), (4, .int l4), (5, .int l5), (6, .int l6)] [.int v14] _ 0 0 _
          refine x_iloadn (x := l2) rfl rfl ?_
          refine x_icgt (tgt := 100) rfl rfl (ti_gt rfl rfl ⟨fun c15 => ?_, fun c15 => ?_⟩)
          ·
            rw [if_pos (by omega)] at D
            exact jX.sub (jsb_c rfl (jsb_c rfl (jsb_c rfl (jsb_c rfl (jsb_c rfl (jsb_c rfl (jsb_c rfl jsb_n))))))) (ct_X12_childrenOf_r125d_100 hD hQ k5 ih l1 l2 l3 l4 l5 l6 g0 h (jr_of rfl (by omega)) (jr_of rfl (by omega)) (jr_of rfl (by omega)) (jr_of rfl (by omega)) (jr_of rfl (by omega)) (jr_mod rfl (by omega)) (jr_of rfl (by omega)) (jmc S11 rfl z0) (by omega) (by omega) J Sm D EV)
          ·
            rw [if_neg (by omega)] at D
            refine x_iconst (v := 1) rfl ki_1 ?_
            refine x_goto (tgt := 101) rfl rfl ?_
            exact jX.sub (jsb_c rfl (jsb_c rfl (jsb_c rfl (jsb_c rfl (jsb_c rfl (jsb_c rfl (jsb_c rfl jsb_n))))))) (ct_X12_childrenOf_r125d_300101 hD hQ k5 ih l1 l2 l3 l4 l5 l6 g0 h (jr_of rfl (by omega)) (jr_of rfl (by omega)) (jr_of rfl (by omega)) (jr_of rfl (by omega)) (jr_of rfl (by omega)) (jr_mod rfl (by omega)) (jr_of rfl (by omega)) (jmc S11 rfl z0) (by omega) (by omega) J Sm D EV)
set_option maxRecDepth 100000 in
set_option maxHeartbeats 4000000 in
theorem ct_X12_childrenOf_r125d_5 {Dy : jH → Prop} {h0 : jH} {Q : Option Value → jH → Prop} {dr : Int} (hD : jDk Dy) (hQ : ∀ (v : Int32) hx9, jJ jSgM Dy hx9 → jSm fp_X12_childrenOf_r125d h0 hx9 → dr = v.toInt → vw hx9 = vw h0 → Q (some (.int v)) hx9) : ∀ r : Nat, ∀ (l1 : Int32) (l2 : Int32) (l3 : Int32) (l4 : Int32) (h : jH), 600 - l4.toInt < (r : Int) → (-1) ≤ l1.toInt ∧ l1.toInt ≤ 599 → 0 ≤ l2.toInt ∧ l2.toInt ≤ 146399 → 0 ≤ l4.toInt ∧ l4.toInt ≤ 600 → jJ jSgM Dy h → jSm fp_X12_childrenOf_r125d h0 h → d_X12_childrenOf_r125d_5 r l1.toInt l2.toInt l3.toInt l4.toInt (vw h) = dr → vw h = vw h0 → jX m_X12_childrenOf 6 0 0 5 [(0, .ref 125), (1, .int l1), (2, .int l2), (3, .int l3), (4, .int l4)] [] h 0 0 Q := by
  intro r
  induction r with
  | zero =>
    intro l1 l2 l3 l4 h hm y0 y1 y2   J Sm D EV
    exfalso
    have el3 := jfull l3
    omega
  | succ r ih =>
    intro l1 l2 l3 l4 h hm y0 y1 y2   J Sm D EV
    have el3 := jfull l3
    rw [d_X12_childrenOf_r125d_5.eq_2] at D
    refine x_iload (x := l4) rfl rfl ?_
    refine x_iconst (v := 3) rfl ki_3 ?_
    refine x_aloadn (x := 125) rfl rfl ?_
    refine z_getR (N := 92) (b := 126) 12 2 rfl f_12_8 rfl J rfl 16002 ⟨rfl, rfl⟩ rfl ?_
    refine x_iconst (v := 0) rfl ki_0 ?_
    refine z_iald (N := 50660) rfl J rfl sg_126_0_1_1_0_1 jk_0 (by omega) (fun v1 qv1 ev1 => ?_)
    try rw [vrn (n := 0) (by decide) qv1] at D
    refine z_imul rfl jk_3 rfl (by omega) (fun v2 ev2 => ?_)
    refine x_icge (tgt := 171) rfl rfl (ti_ge rfl rfl ⟨fun c3 => ?_, fun c3 => ?_⟩)
    ·
      rw [if_pos (by omega)] at D
      refine x_iloadn (x := l3) rfl rfl ?_
      refine x_iret rfl rfl ?_
      exact hQ _ _ J Sm (D.symm.trans (show l3.toInt = l3.toInt from by omega)) EV
    ·
      rw [if_neg (by omega)] at D
      refine x_aloadn (x := 125) rfl rfl ?_
      refine z_getR (N := 92) (b := 139) 12 29 rfl f_12_72 rfl J rfl 16029 ⟨rfl, rfl⟩ rfl ?_
      refine x_iload (x := l4) rfl rfl ?_
      refine z_iald (N := 600) rfl J rfl sg_139_0_600_1_0_1 rfl (by omega) (fun v4 qv4 ev4 => ?_)
      try rw [vrd qv4 (show l4.toInt = l4.toInt from by omega)] at D
      refine x_iload (x := l4) rfl rfl ?_
      refine x_icne (tgt := 165) rfl rfl (ti_ne rfl rfl ⟨fun c5 => ?_, fun c5 => ?_⟩)
      ·
        rw [if_neg (by omega)] at D
        exact jX.sub (jsb_c rfl (jsb_c rfl (jsb_c rfl (jsb_c rfl (jsb_c rfl jsb_n))))) (ct_X12_childrenOf_r125d_165 hD hQ ih l1 l2 l3 l4 h (jr_of rfl (by omega)) (jr_of rfl (by omega)) (jr_of rfl (by omega)) (by omega) J Sm D EV)
      ·
        rw [if_pos (by omega)] at D
        refine x_aloadn (x := 125) rfl rfl ?_
        refine x_iload (x := l4) rfl rfl ?_
        refine x_iconst (v := 5) rfl ki_5 ?_
        refine x_iloadn (x := l2) rfl rfl ?_
        refine x_inv (N := m_X12_hasPart) (As := [.int l4, .int 5, .int l2]) (b := 125) (st := []) (dx9 := 5) (mc := 0) (ms := 0) (host := "") 12 rfl t_X12_hasPart ⟨Or.inl q_12_691, i_X12_hasPart.1, i_X12_hasPart.2⟩ ⟨by decide, rfl⟩ (congrArg Prod.fst (J.1.1 125 (12, 92) rfl)) rfl (by decide) rfl rfl ⟨by decide, by decide⟩ (jC.of rfl k_X12_hasPart rfl ?_)
        show jX m_X12_hasPart 5 0 0 0 [(0, .ref 125), (1, .int l4), (2, .int 5), (3, .int l2)] [] _ 0 0 _
        refine x_aloadn (x := 125) rfl rfl ?_
        refine x_iloadn (x := l4) rfl rfl ?_
        refine x_iloadn (x := 5) rfl rfl ?_
        refine x_iloadn (x := l2) rfl rfl ?_
        refine x_inv (N := m_X12_mentionOf) (As := [.int l4, .int 5, .int l2]) (b := 125) (st := []) (dx9 := 4) (mc := 0) (ms := 0) (host := "") 12 rfl t_X12_mentionOf ⟨Or.inl q_12_405, i_X12_mentionOf.1, i_X12_mentionOf.2⟩ ⟨by decide, rfl⟩ (congrArg Prod.fst (J.1.1 125 (12, 92) rfl)) rfl (by decide) rfl rfl ⟨by decide, by decide⟩ (sf_X12_mentionOf_r125d (jr_of rfl (by omega)) (jr_of jk_5 (by omega)) (jr_of rfl (by omega)) hD J rfl  (fun v9 h ev9 J S6 X7 X8 => ?_))
        have Sm := jSm_tr rfl Sm S6
        try rw [jk_5] at X7
        try rw [X7] at D
        try rw [← X8] at D
        have EV := X8.trans EV
        show jX m_X12_hasPart 5 0 0 7 [(0, .ref 125), (1, .int l4), (2, .int 5), (3, .int l2)] [.int v9] _ 0 0 _
        refine x_iconst (v := (-1)) rfl ki_m1 ?_
        refine x_iceq (tgt := 15) rfl rfl (ti_eq rfl jk_m1 ⟨fun c10 => ?_, fun c10 => ?_⟩)
        ·
          rw [if_pos (by omega)] at D
          refine x_iconst (v := 0) rfl ki_0 ?_
          refine x_zret rfl rfl (by decide) ?_
          show jX m_X12_childrenOf 6 0 0 38 [(0, .ref 125), (1, .int l1), (2, .int l2), (3, .int l3), (4, .int l4)] [.int 0] _ 0 0 _
          refine x_ifeq (tgt := 44) rfl rfl (ti_eq jk_0 jk_0 (br_t (by omega) ?_))
          refine x_iconst (v := 0) rfl ki_0 ?_
          refine x_istore (lsx9 := [(5, .int 0), (0, .ref 125), (1, .int l1), (2, .int l2), (3, .int l3), (4, .int l4)]) rfl rfl rfl ?_
          refine x_iconst (v := 0) rfl ki_0 ?_
          refine x_istore (lsx9 := [(6, .int 0), (5, .int 0), (0, .ref 125), (1, .int l1), (2, .int l2), (3, .int l3), (4, .int l4)]) rfl rfl rfl ?_
          exact jX.sub (jsb_c rfl (jsb_c rfl (jsb_c rfl (jsb_c rfl (jsb_c rfl (jsb_c rfl (jsb_c rfl jsb_n))))))) (ct_X12_childrenOf_r125d_50 hD hQ ih 601 l1 l2 l3 l4 0 0 v1 h (by have := jk_0; omega) (jr_of rfl (by omega)) (jr_of rfl (by omega)) (jr_of rfl (by omega)) (jr_of jk_0 (by omega)) (jr_of jk_0 (by omega)) (jr_mod jk_0 (by omega)) (jr_of rfl (by omega)) (jmc S6 rfl qv1) (by omega) J Sm (by rw [jk_0]; exact D) EV)
        ·
          rw [if_neg (by omega)] at D
          refine x_iconst (v := 1) rfl ki_1 ?_
          refine x_goto (tgt := 16) rfl rfl ?_
          refine x_zret rfl rfl (by decide) ?_
          show jX m_X12_childrenOf 6 0 0 38 [(0, .ref 125), (1, .int l1), (2, .int l2), (3, .int l3), (4, .int l4)] [.int 1] _ 0 0 _
          refine x_ifeq (tgt := 44) rfl rfl (ti_eq jk_1 jk_0 (br_f (by omega) ?_))
          refine x_goto (tgt := 165) rfl rfl ?_
          exact jX.sub (jsb_c rfl (jsb_c rfl (jsb_c rfl (jsb_c rfl (jsb_c rfl jsb_n))))) (ct_X12_childrenOf_r125d_165 hD hQ ih l1 l2 l3 l4 h (jr_of rfl (by omega)) (jr_of rfl (by omega)) (jr_of rfl (by omega)) (by omega) J Sm D EV)
set_option maxRecDepth 100000 in
set_option maxHeartbeats 4000000 in
theorem sf_X12_childrenOf_r125d {Dy : jH → Prop} {h : jH} {Q : Option Value → jH → Prop} {dr : Int} {a1 : Int32} {a2 : Int32} (y1 : (-1) ≤ a1.toInt ∧ a1.toInt ≤ 599) (y2 : 0 ≤ a2.toInt ∧ a2.toInt ≤ 146399) (hD : jDk Dy) (J : jJ jSgM Dy h) (D : d_X12_childrenOf_r125d a1.toInt a2.toInt (vw h) = dr) (hQ : ∀ (v : Int32) hx9, jJ jSgM Dy hx9 → jSm fp_X12_childrenOf_r125d h hx9 → dr = v.toInt → vw hx9 = vw h → Q (some (.int v)) hx9) : jC m_X12_childrenOf 6 0 0 [.ref 125, .int a1, .int a2] h Q := by
  refine jC.of rfl k_X12_childrenOf rfl ?_
  have Sm := jSm_rf fp_X12_childrenOf_r125d h
  show jX m_X12_childrenOf 6 0 0 0 [(0, .ref 125), (1, .int a1), (2, .int a2)] [] _ 0 0 _
  unfold d_X12_childrenOf_r125d at D
  have EV : vw h = vw h := rfl
  refine x_iconst (v := 0) rfl ki_0 ?_
  refine x_istoren (lsx9 := [(3, .int 0), (0, .ref 125), (1, .int a1), (2, .int a2)]) rfl rfl rfl ?_
  refine x_iconst (v := 0) rfl ki_0 ?_
  refine x_istore (lsx9 := [(4, .int 0), (3, .int 0), (0, .ref 125), (1, .int a1), (2, .int a2)]) rfl rfl rfl ?_
  exact jX.sub (jsb_c rfl (jsb_c rfl (jsb_c rfl (jsb_c rfl (jsb_c rfl jsb_n))))) (ct_X12_childrenOf_r125d_5 hD hQ  601 a1 a2 0 0 h (by have := jk_0; omega) (jr_of rfl (by omega)) (jr_of rfl (by omega)) (jr_of jk_0 (by omega)) J Sm (by rw [jk_0]; exact D) EV)
def fp_X12_hasAge_r125d : jFp := []
set_option maxRecDepth 100000 in
set_option maxHeartbeats 4000000 in
theorem ct_X12_hasAge_r125d_300025 {Dy : jH → Prop} {h0 : jH} {Q : Option Value → jH → Prop} {dr : Int} (hD : jDk Dy) (hQ : ∀ (v : Int32) hx9, 0 ≤ v.toInt ∧ v.toInt ≤ 1 → jJ jSgM Dy hx9 → jSm fp_X12_hasAge_r125d h0 hx9 → dr = v.toInt → vw hx9 = vw h0 → Q (some (.int v)) hx9) : ∀ (h : jH), jJ jSgM Dy h → jSm fp_X12_hasAge_r125d h0 h → d_X12_hasAge_r125d_300025  (vw h) = dr → vw h = vw h0 → jX m_X12_hasAge 4 0 0 25 [] [.int 1] h 0 0 Q := by
  intro  h    J Sm D EV
  unfold d_X12_hasAge_r125d_300025 at D
  refine x_zret rfl rfl (by decide) ?_
  exact hQ _ _ (jr_of jk_1 (by omega)) J Sm (D.symm.trans (show 1 = (1 : Int32).toInt from by have := jk_1; omega)) EV
set_option maxRecDepth 100000 in
set_option maxHeartbeats 4000000 in
theorem ct_X12_hasAge_r125d_200025 {Dy : jH → Prop} {h0 : jH} {Q : Option Value → jH → Prop} {dr : Int} (hD : jDk Dy) (hQ : ∀ (v : Int32) hx9, 0 ≤ v.toInt ∧ v.toInt ≤ 1 → jJ jSgM Dy hx9 → jSm fp_X12_hasAge_r125d h0 hx9 → dr = v.toInt → vw hx9 = vw h0 → Q (some (.int v)) hx9) : ∀ (h : jH), jJ jSgM Dy h → jSm fp_X12_hasAge_r125d h0 h → d_X12_hasAge_r125d_200025  (vw h) = dr → vw h = vw h0 → jX m_X12_hasAge 4 0 0 25 [] [.int 0] h 0 0 Q := by
  intro  h    J Sm D EV
  unfold d_X12_hasAge_r125d_200025 at D
  refine x_zret rfl rfl (by decide) ?_
  exact hQ _ _ (jr_of jk_0 (by omega)) J Sm (D.symm.trans (show 0 = (0 : Int32).toInt from by have := jk_0; omega)) EV
set_option maxRecDepth 100000 in
set_option maxHeartbeats 4000000 in
theorem ct_X12_hasAge_r125d_24 {Dy : jH → Prop} {h0 : jH} {Q : Option Value → jH → Prop} {dr : Int} (hD : jDk Dy) (hQ : ∀ (v : Int32) hx9, 0 ≤ v.toInt ∧ v.toInt ≤ 1 → jJ jSgM Dy hx9 → jSm fp_X12_hasAge_r125d h0 hx9 → dr = v.toInt → vw hx9 = vw h0 → Q (some (.int v)) hx9) : ∀ (h : jH), jJ jSgM Dy h → jSm fp_X12_hasAge_r125d h0 h → d_X12_hasAge_r125d_24  (vw h) = dr → vw h = vw h0 → jX m_X12_hasAge 4 0 0 24 [] [] h 0 0 Q := by
  intro  h    J Sm D EV
  unfold d_X12_hasAge_r125d_24 at D
  refine x_iconst (v := 0) rfl ki_0 ?_
  exact jX.sub jsb_n (ct_X12_hasAge_r125d_200025 hD hQ  h J Sm D EV)
set_option maxRecDepth 100000 in
set_option maxHeartbeats 4000000 in
theorem sf_X12_hasAge_r125d {Dy : jH → Prop} {h : jH} {Q : Option Value → jH → Prop} {dr : Int} {a1 : Int32} (y1 : 0 ≤ a1.toInt ∧ a1.toInt ≤ 599) (hD : jDk Dy) (J : jJ jSgM Dy h) (D : d_X12_hasAge_r125d a1.toInt (vw h) = dr) (hQ : ∀ (v : Int32) hx9, 0 ≤ v.toInt ∧ v.toInt ≤ 1 → jJ jSgM Dy hx9 → jSm fp_X12_hasAge_r125d h hx9 → dr = v.toInt → vw hx9 = vw h → Q (some (.int v)) hx9) : jC m_X12_hasAge 4 0 0 [.ref 125, .int a1] h Q := by
  refine jC.of rfl k_X12_hasAge rfl ?_
  have Sm := jSm_rf fp_X12_hasAge_r125d h
  show jX m_X12_hasAge 4 0 0 0 [(0, .ref 125), (1, .int a1)] [] _ 0 0 _
  unfold d_X12_hasAge_r125d at D
  have EV : vw h = vw h := rfl
  refine x_aloadn (x := 125) rfl rfl ?_
  refine x_iloadn (x := a1) rfl rfl ?_
  refine x_inv (N := m_X12_partOf) (As := [.int a1]) (b := 125) (st := []) (dx9 := 3) (mc := 0) (ms := 0) (host := "") 12 rfl t_X12_partOf ⟨Or.inl q_12_338, i_X12_partOf.1, i_X12_partOf.2⟩ ⟨by decide, rfl⟩ (congrArg Prod.fst (J.1.1 125 (12, 92) rfl)) rfl (by decide) rfl rfl ⟨by decide, by decide⟩ (sf_X12_partOf_r125d (jr_of rfl (by omega)) hD J rfl  (fun v4 h ev4 J S1 X2 X3 => ?_))
  have Sm := jSm_tr rfl Sm S1
  try rw [X2] at D
  try rw [← X3] at D
  have EV := X3.trans EV
  show jX m_X12_hasAge 4 0 0 5 [(0, .ref 125), (1, .int a1)] [.int v4] _ 0 0 _
  refine x_iconst (v := 5) rfl ki_5 ?_
  refine x_icne (tgt := 24) rfl rfl (ti_ne rfl jk_5 ⟨fun c5 => ?_, fun c5 => ?_⟩)
  ·
    rw [if_neg (by omega)] at D
    exact jX.sub jsb_n (ct_X12_hasAge_r125d_24 hD hQ  h J Sm D EV)
  ·
    rw [if_pos (by omega)] at D
    refine x_aloadn (x := 125) rfl rfl ?_
    refine x_iloadn (x := a1) rfl rfl ?_
    refine x_iconst (v := 3) rfl ki_3 ?_
    refine z_idiv rfl rfl jk_3 (by omega) (by omega) (fun v6 ev6 => ?_)
    refine x_inv (N := m_X12_numberOf) (As := [.int v6]) (b := 125) (st := []) (dx9 := 3) (mc := 0) (ms := 0) (host := "") 12 rfl t_X12_numberOf ⟨Or.inl q_12_296, i_X12_numberOf.1, i_X12_numberOf.2⟩ ⟨by decide, rfl⟩ (congrArg Prod.fst (J.1.1 125 (12, 92) rfl)) rfl (by decide) rfl rfl ⟨by decide, by decide⟩ (jC.of rfl k_X12_numberOf rfl ?_)
    show jX m_X12_numberOf 3 0 0 0 [(0, .ref 125), (1, .int v6)] [] _ 0 0 _
    refine x_aloadn (x := 125) rfl rfl ?_
    refine z_getR (N := 92) (b := 126) 12 2 rfl f_12_8 rfl J rfl 16002 ⟨rfl, rfl⟩ rfl ?_
    refine x_aloadn (x := 125) rfl rfl ?_
    refine x_iloadn (x := v6) rfl rfl ?_
    refine x_inv (N := m_X12_at) (As := [.int v6]) (b := 125) (st := [.ref 126]) (dx9 := 2) (mc := 0) (ms := 0) (host := "") 12 rfl t_X12_at ⟨Or.inl q_12_254, i_X12_at.1, i_X12_at.2⟩ ⟨by decide, rfl⟩ (congrArg Prod.fst (J.1.1 125 (12, 92) rfl)) rfl (by decide) rfl rfl ⟨by decide, by decide⟩ (jC.of rfl k_X12_at rfl ?_)
    show jX m_X12_at 2 0 0 0 [(0, .ref 125), (1, .int v6)] [] _ 0 0 _
    refine x_bipush (v := 20) rfl kb_20 ?_
    refine x_bipush (v := 90) rfl kb_90 ?_
    refine x_iloadn (x := v6) rfl rfl ?_
    refine z_imul rfl jk_90 rfl (by omega) (fun v7 ev7 => ?_)
    refine z_iadd rfl jk_20 rfl (by omega) (fun v8 ev8 => ?_)
    refine x_iret rfl rfl ?_
    show jX m_X12_numberOf 3 0 0 9 [(0, .ref 125), (1, .int v6)] [.int v8, .ref 126] _ 0 0 _
    refine x_iconst (v := 4) rfl ki_4 ?_
    refine z_iadd rfl rfl jk_4 (by omega) (fun v9 ev9 => ?_)
    refine z_iald0 (N := 50660) rfl J rfl rfl (by omega) (fun v10 qv10 => ?_)
    have ev10 := jfull v10
    try rw [vrd qv10 (show ((20 + (90 * (a1.toInt / 3))) + 4) = v9.toInt from by omega)] at D
    refine x_iret rfl rfl ?_
    show jX m_X12_hasAge 4 0 0 16 [(0, .ref 125), (1, .int a1)] [.int v10] _ 0 0 _
    refine x_iconst (v := (-1)) rfl ki_m1 ?_
    refine x_iceq (tgt := 24) rfl rfl (ti_eq rfl jk_m1 ⟨fun c11 => ?_, fun c11 => ?_⟩)
    ·
      rw [if_pos (by omega)] at D
      exact jX.sub jsb_n (ct_X12_hasAge_r125d_24 hD hQ  h J Sm D EV)
    ·
      rw [if_neg (by omega)] at D
      refine x_iconst (v := 1) rfl ki_1 ?_
      refine x_goto (tgt := 25) rfl rfl ?_
      exact jX.sub jsb_n (ct_X12_hasAge_r125d_300025 hD hQ  h J Sm D EV)
def fp_X12_isMand : jFp := []
set_option maxRecDepth 100000 in
set_option maxHeartbeats 4000000 in
theorem ct_X12_isMand_200015 {Dy : jH → Prop} {h0 : jH} {Q : Option Value → jH → Prop} {dr : Int} (hD : jDk Dy) (hQ : ∀ (v : Int32) hx9, 0 ≤ v.toInt ∧ v.toInt ≤ 1 → jJ jSgM Dy hx9 → jSm fp_X12_isMand h0 hx9 → dr = v.toInt → vw hx9 = vw h0 → Q (some (.int v)) hx9) : ∀ (h : jH), jJ jSgM Dy h → jSm fp_X12_isMand h0 h → d_X12_isMand_200015  (vw h) = dr → vw h = vw h0 → jX m_X12_isMan 1 0 0 15 [] [.int 0] h 0 0 Q := by
  intro  h    J Sm D EV
  unfold d_X12_isMand_200015 at D
  refine x_zret rfl rfl (by decide) ?_
  exact hQ _ _ (jr_of jk_0 (by omega)) J Sm (D.symm.trans (show 0 = (0 : Int32).toInt from by have := jk_0; omega)) EV
set_option maxRecDepth 100000 in
set_option maxHeartbeats 4000000 in
theorem ct_X12_isMand_300015 {Dy : jH → Prop} {h0 : jH} {Q : Option Value → jH → Prop} {dr : Int} (hD : jDk Dy) (hQ : ∀ (v : Int32) hx9, 0 ≤ v.toInt ∧ v.toInt ≤ 1 → jJ jSgM Dy hx9 → jSm fp_X12_isMand h0 hx9 → dr = v.toInt → vw hx9 = vw h0 → Q (some (.int v)) hx9) : ∀ (h : jH), jJ jSgM Dy h → jSm fp_X12_isMand h0 h → d_X12_isMand_300015  (vw h) = dr → vw h = vw h0 → jX m_X12_isMan 1 0 0 15 [] [.int 1] h 0 0 Q := by
  intro  h    J Sm D EV
  unfold d_X12_isMand_300015 at D
  refine x_zret rfl rfl (by decide) ?_
  exact hQ _ _ (jr_of jk_1 (by omega)) J Sm (D.symm.trans (show 1 = (1 : Int32).toInt from by have := jk_1; omega)) EV
set_option maxRecDepth 100000 in
set_option maxHeartbeats 4000000 in
theorem ct_X12_isMand_10 {Dy : jH → Prop} {h0 : jH} {Q : Option Value → jH → Prop} {dr : Int} (hD : jDk Dy) (hQ : ∀ (v : Int32) hx9, 0 ≤ v.toInt ∧ v.toInt ≤ 1 → jJ jSgM Dy hx9 → jSm fp_X12_isMand h0 hx9 → dr = v.toInt → vw hx9 = vw h0 → Q (some (.int v)) hx9) : ∀ (h : jH), jJ jSgM Dy h → jSm fp_X12_isMand h0 h → d_X12_isMand_10  (vw h) = dr → vw h = vw h0 → jX m_X12_isMan 1 0 0 10 [] [] h 0 0 Q := by
  intro  h    J Sm D EV
  unfold d_X12_isMand_10 at D
  refine x_iconst (v := 1) rfl ki_1 ?_
  refine x_goto (tgt := 15) rfl rfl ?_
  exact jX.sub jsb_n (ct_X12_isMand_300015 hD hQ  h J Sm D EV)
set_option maxRecDepth 100000 in
set_option maxHeartbeats 4000000 in
theorem sf_X12_isMand {Dy : jH → Prop} {h : jH} {Q : Option Value → jH → Prop} {dr : Int} {a1 : Int32} (y1 : 0 ≤ a1.toInt ∧ a1.toInt ≤ 6) (hD : jDk Dy) (J : jJ jSgM Dy h) (D : d_X12_isMand a1.toInt (vw h) = dr) (hQ : ∀ (v : Int32) hx9, 0 ≤ v.toInt ∧ v.toInt ≤ 1 → jJ jSgM Dy hx9 → jSm fp_X12_isMand h hx9 → dr = v.toInt → vw hx9 = vw h → Q (some (.int v)) hx9) : jC m_X12_isMan 1 0 0 [.int a1] h Q := by
  refine jC.of rfl k_X12_isMan rfl ?_
  have Sm := jSm_rf fp_X12_isMand h
  show jX m_X12_isMan 1 0 0 0 [(0, .int a1)] [] _ 0 0 _
  unfold d_X12_isMand at D
  have EV : vw h = vw h := rfl
  refine x_iloadn (x := a1) rfl rfl ?_
  refine x_iconst (v := 3) rfl ki_3 ?_
  refine x_iceq (tgt := 10) rfl rfl (ti_eq rfl jk_3 ⟨fun c1 => ?_, fun c1 => ?_⟩)
  ·
    rw [if_pos (by omega)] at D
    exact jX.sub jsb_n (ct_X12_isMand_10 hD hQ  h J Sm D EV)
  ·
    rw [if_neg (by omega)] at D
    refine x_iloadn (x := a1) rfl rfl ?_
    refine x_iconst (v := 1) rfl ki_1 ?_
    refine x_icne (tgt := 14) rfl rfl (ti_ne rfl jk_1 ⟨fun c2 => ?_, fun c2 => ?_⟩)
    ·
      rw [if_neg (by omega)] at D
      refine x_iconst (v := 0) rfl ki_0 ?_
      exact jX.sub jsb_n (ct_X12_isMand_200015 hD hQ  h J Sm D EV)
    ·
      rw [if_pos (by omega)] at D
      exact jX.sub jsb_n (ct_X12_isMand_10 hD hQ  h J Sm D EV)
def fp_X12_isWomand : jFp := []
set_option maxRecDepth 100000 in
set_option maxHeartbeats 4000000 in
theorem ct_X12_isWomand_200015 {Dy : jH → Prop} {h0 : jH} {Q : Option Value → jH → Prop} {dr : Int} (hD : jDk Dy) (hQ : ∀ (v : Int32) hx9, 0 ≤ v.toInt ∧ v.toInt ≤ 1 → jJ jSgM Dy hx9 → jSm fp_X12_isWomand h0 hx9 → dr = v.toInt → vw hx9 = vw h0 → Q (some (.int v)) hx9) : ∀ (h : jH), jJ jSgM Dy h → jSm fp_X12_isWomand h0 h → d_X12_isWomand_200015  (vw h) = dr → vw h = vw h0 → jX m_X12_isWoman 1 0 0 15 [] [.int 0] h 0 0 Q := by
  intro  h    J Sm D EV
  unfold d_X12_isWomand_200015 at D
  refine x_zret rfl rfl (by decide) ?_
  exact hQ _ _ (jr_of jk_0 (by omega)) J Sm (D.symm.trans (show 0 = (0 : Int32).toInt from by have := jk_0; omega)) EV
set_option maxRecDepth 100000 in
set_option maxHeartbeats 4000000 in
theorem ct_X12_isWomand_300015 {Dy : jH → Prop} {h0 : jH} {Q : Option Value → jH → Prop} {dr : Int} (hD : jDk Dy) (hQ : ∀ (v : Int32) hx9, 0 ≤ v.toInt ∧ v.toInt ≤ 1 → jJ jSgM Dy hx9 → jSm fp_X12_isWomand h0 hx9 → dr = v.toInt → vw hx9 = vw h0 → Q (some (.int v)) hx9) : ∀ (h : jH), jJ jSgM Dy h → jSm fp_X12_isWomand h0 h → d_X12_isWomand_300015  (vw h) = dr → vw h = vw h0 → jX m_X12_isWoman 1 0 0 15 [] [.int 1] h 0 0 Q := by
  intro  h    J Sm D EV
  unfold d_X12_isWomand_300015 at D
  refine x_zret rfl rfl (by decide) ?_
  exact hQ _ _ (jr_of jk_1 (by omega)) J Sm (D.symm.trans (show 1 = (1 : Int32).toInt from by have := jk_1; omega)) EV
set_option maxRecDepth 100000 in
set_option maxHeartbeats 4000000 in
theorem ct_X12_isWomand_10 {Dy : jH → Prop} {h0 : jH} {Q : Option Value → jH → Prop} {dr : Int} (hD : jDk Dy) (hQ : ∀ (v : Int32) hx9, 0 ≤ v.toInt ∧ v.toInt ≤ 1 → jJ jSgM Dy hx9 → jSm fp_X12_isWomand h0 hx9 → dr = v.toInt → vw hx9 = vw h0 → Q (some (.int v)) hx9) : ∀ (h : jH), jJ jSgM Dy h → jSm fp_X12_isWomand h0 h → d_X12_isWomand_10  (vw h) = dr → vw h = vw h0 → jX m_X12_isWoman 1 0 0 10 [] [] h 0 0 Q := by
  intro  h    J Sm D EV
  unfold d_X12_isWomand_10 at D
  refine x_iconst (v := 1) rfl ki_1 ?_
  refine x_goto (tgt := 15) rfl rfl ?_
  exact jX.sub jsb_n (ct_X12_isWomand_300015 hD hQ  h J Sm D EV)
set_option maxRecDepth 100000 in
set_option maxHeartbeats 4000000 in
theorem sf_X12_isWomand {Dy : jH → Prop} {h : jH} {Q : Option Value → jH → Prop} {dr : Int} {a1 : Int32} (y1 : 0 ≤ a1.toInt ∧ a1.toInt ≤ 6) (hD : jDk Dy) (J : jJ jSgM Dy h) (D : d_X12_isWomand a1.toInt (vw h) = dr) (hQ : ∀ (v : Int32) hx9, 0 ≤ v.toInt ∧ v.toInt ≤ 1 → jJ jSgM Dy hx9 → jSm fp_X12_isWomand h hx9 → dr = v.toInt → vw hx9 = vw h → Q (some (.int v)) hx9) : jC m_X12_isWoman 1 0 0 [.int a1] h Q := by
  refine jC.of rfl k_X12_isWoman rfl ?_
  have Sm := jSm_rf fp_X12_isWomand h
  show jX m_X12_isWoman 1 0 0 0 [(0, .int a1)] [] _ 0 0 _
  unfold d_X12_isWomand at D
  have EV : vw h = vw h := rfl
  refine x_iloadn (x := a1) rfl rfl ?_
  refine x_iconst (v := 4) rfl ki_4 ?_
  refine x_iceq (tgt := 10) rfl rfl (ti_eq rfl jk_4 ⟨fun c1 => ?_, fun c1 => ?_⟩)
  ·
    rw [if_pos (by omega)] at D
    exact jX.sub jsb_n (ct_X12_isWomand_10 hD hQ  h J Sm D EV)
  ·
    rw [if_neg (by omega)] at D
    refine x_iloadn (x := a1) rfl rfl ?_
    refine x_iconst (v := 2) rfl ki_2 ?_
    refine x_icne (tgt := 14) rfl rfl (ti_ne rfl jk_2 ⟨fun c2 => ?_, fun c2 => ?_⟩)
    ·
      rw [if_neg (by omega)] at D
      refine x_iconst (v := 0) rfl ki_0 ?_
      exact jX.sub jsb_n (ct_X12_isWomand_200015 hD hQ  h J Sm D EV)
    ·
      rw [if_pos (by omega)] at D
      exact jX.sub jsb_n (ct_X12_isWomand_10 hD hQ  h J Sm D EV)
def fp_X12_addSpan_r125d : jFp := [(125, 32, 33), (125, 33, 34), (125, 34, 35), (125, 35, 36)]
set_option maxRecDepth 100000 in
set_option maxHeartbeats 4000000 in
theorem ct_X12_addSpan_r125d_222 {Dy : jH → Prop} {h0 : jH} {Q : Option Value → jH → Prop} {dr : jW} (hD : jDk Dy) (hQ : ∀ hx9, jJ jSgM Dy hx9 → jSm fp_X12_addSpan_r125d h0 hx9 → dr = vw hx9 → Q none hx9) : ∀ (h : jH), jJ jSgM Dy h → jSm fp_X12_addSpan_r125d h0 h → d_X12_addSpan_r125d_222  (vw h) = dr → jX m_X12_addSpan 5 0 0 222 [] [] h 0 0 Q := by
  intro  h    J Sm D
  unfold d_X12_addSpan_r125d_222 at D
  refine x_vret rfl rfl ?_
  exact hQ _ J Sm D.symm
set_option maxRecDepth 100000 in
set_option maxHeartbeats 4000000 in
theorem ct_X12_addSpan_r125d_195 {Dy : jH → Prop} {h0 : jH} {Q : Option Value → jH → Prop} {dr : jW} (hD : jDk Dy) (hQ : ∀ hx9, jJ jSgM Dy hx9 → jSm fp_X12_addSpan_r125d h0 hx9 → dr = vw hx9 → Q none hx9) : ∀ (l2 : Int32) (l3 : Int32) (s0 : Int32) (s1 : Int32) (h : jH), 0 ≤ l2.toInt ∧ l2.toInt ≤ 6 → 0 ≤ l3.toInt ∧ l3.toInt ≤ 146399 → (-366) ≤ s0.toInt ∧ s0.toInt ≤ 146399 → 0 ≤ s1.toInt ∧ s1.toInt ≤ 146399 → jJ jSgM Dy h → jSm fp_X12_addSpan_r125d h0 h → d_X12_addSpan_r125d_195  l2.toInt l3.toInt s0.toInt s1.toInt (vw h) = dr → jX m_X12_addSpan 5 0 0 195 [(0, .ref 125), (2, .int l2), (3, .int l3)] [.int s0, .int s1, .ref 125] h 0 0 Q := by
  intro l2 l3 s0 s1 h y0 y1 y2 y3   J Sm D
  unfold d_X12_addSpan_r125d_195 at D
  refine x_inst (N := m_X12_more) (As := [.int s1, .int s0]) (st := [.ref 125]) (dx9 := 4) (mc := 0) (ms := 0) (host := "") rfl t_X12_more ⟨Or.inl q_12_431, s_X12_more⟩ rfl (by decide) rfl rfl ⟨by decide, by decide⟩ (jC.of rfl k_X12_more rfl ?_)
  show jX m_X12_more 4 0 0 0 [(0, .int s1), (1, .int s0)] [] _ 0 0 _
  refine x_iloadn (x := s1) rfl rfl ?_
  refine x_iloadn (x := s0) rfl rfl ?_
  refine x_icle (tgt := 9) rfl rfl (ti_le rfl rfl ⟨fun c1 => ?_, fun c1 => ?_⟩)
  ·
    rw [if_pos (by omega)] at D
    refine x_iloadn (x := s0) rfl rfl ?_
    refine x_iret rfl rfl ?_
    show jX m_X12_addSpan 5 0 0 198 [(0, .ref 125), (2, .int l2), (3, .int l3)] [.int s0, .ref 125] _ 0 0 _
    refine z_putI (N := 92) (w := s0.toInt) 12 34 rfl f_12_418 rfl (jfin_no TX12 RX12 92 rfl rfl) hD J Sm rfl rfl rfl (pw_125_34 (by omega)) rfl (fun h w2 J Sm => ?_)
    rw [vwf w2 (show s0.toInt = s0.toInt from by omega)] at D
    refine x_iloadn (x := l2) rfl rfl ?_
    refine x_iconst (v := 2) rfl ki_2 ?_
    refine x_icne (tgt := 222) rfl rfl (ti_ne rfl jk_2 ⟨fun c3 => ?_, fun c3 => ?_⟩)
    ·
      rw [if_neg (by omega)] at D
      exact jX.sub jsb_n (ct_X12_addSpan_r125d_222 hD hQ  h J Sm D)
    ·
      rw [if_pos (by omega)] at D
      refine x_aloadn (x := 125) rfl rfl ?_
      refine x_aloadn (x := 125) rfl rfl ?_
      refine z_getI (N := 92) 12 32 rfl f_12_412 rfl J rfl sg_125_32_33_1_0_1 (fun v4 qv4 ev4 => ?_)
      try rw [vrf (jmb_w w2 qv4 rfl)] at D
      refine x_iloadn (x := l3) rfl rfl ?_
      refine x_sipush (v := 18300) rfl ks_18300 ?_
      refine z_isub rfl rfl jk_18300 (by omega) (fun v5 ev5 => ?_)
      refine x_inst (N := m_X12_more) (As := [.int v4, .int v5]) (st := [.ref 125]) (dx9 := 4) (mc := 0) (ms := 0) (host := "") rfl t_X12_more ⟨Or.inl q_12_431, s_X12_more⟩ rfl (by decide) rfl rfl ⟨by decide, by decide⟩ (jC.of rfl k_X12_more rfl ?_)
      show jX m_X12_more 4 0 0 0 [(0, .int v4), (1, .int v5)] [] _ 0 0 _
      refine x_iloadn (x := v4) rfl rfl ?_
      refine x_iloadn (x := v5) rfl rfl ?_
      refine x_icle (tgt := 9) rfl rfl (ti_le rfl rfl ⟨fun c6 => ?_, fun c6 => ?_⟩)
      ·
        rw [if_pos (by omega)] at D
        refine x_iloadn (x := v5) rfl rfl ?_
        refine x_iret rfl rfl ?_
        show jX m_X12_addSpan 5 0 0 219 [(0, .ref 125), (2, .int l2), (3, .int l3)] [.int v5, .ref 125] _ 0 0 _
        refine z_putI (N := 92) (w := v5.toInt) 12 32 rfl f_12_412 rfl (jfin_no TX12 RX12 92 rfl rfl) hD J Sm rfl rfl rfl (pw_125_32 (by omega)) rfl (fun h w7 J Sm => ?_)
        rw [vwf w7 (show (l3.toInt - 18300) = v5.toInt from by omega)] at D
        exact jX.sub jsb_n (ct_X12_addSpan_r125d_222 hD hQ  h J Sm D)
      ·
        rw [if_neg (by omega)] at D
        refine x_iloadn (x := v4) rfl rfl ?_
        refine x_goto (tgt := 10) rfl rfl ?_
        refine x_iret rfl rfl ?_
        show jX m_X12_addSpan 5 0 0 219 [(0, .ref 125), (2, .int l2), (3, .int l3)] [.int v4, .ref 125] _ 0 0 _
        refine z_putI (N := 92) (w := v4.toInt) 12 32 rfl f_12_412 rfl (jfin_no TX12 RX12 92 rfl rfl) hD J Sm rfl rfl rfl (pw_125_32 (by omega)) rfl (fun h w8 J Sm => ?_)
        rw [vwf w8 (show v4.toInt = v4.toInt from by omega)] at D
        exact jX.sub jsb_n (ct_X12_addSpan_r125d_222 hD hQ  h J Sm D)
  ·
    rw [if_neg (by omega)] at D
    refine x_iloadn (x := s1) rfl rfl ?_
    refine x_goto (tgt := 10) rfl rfl ?_
    refine x_iret rfl rfl ?_
    show jX m_X12_addSpan 5 0 0 198 [(0, .ref 125), (2, .int l2), (3, .int l3)] [.int s1, .ref 125] _ 0 0 _
    refine z_putI (N := 92) (w := s1.toInt) 12 34 rfl f_12_418 rfl (jfin_no TX12 RX12 92 rfl rfl) hD J Sm rfl rfl rfl (pw_125_34 (by omega)) rfl (fun h w9 J Sm => ?_)
    rw [vwf w9 (show s1.toInt = s1.toInt from by omega)] at D
    refine x_iloadn (x := l2) rfl rfl ?_
    refine x_iconst (v := 2) rfl ki_2 ?_
    refine x_icne (tgt := 222) rfl rfl (ti_ne rfl jk_2 ⟨fun c10 => ?_, fun c10 => ?_⟩)
    ·
      rw [if_neg (by omega)] at D
      exact jX.sub jsb_n (ct_X12_addSpan_r125d_222 hD hQ  h J Sm D)
    ·
      rw [if_pos (by omega)] at D
      refine x_aloadn (x := 125) rfl rfl ?_
      refine x_aloadn (x := 125) rfl rfl ?_
      refine z_getI (N := 92) 12 32 rfl f_12_412 rfl J rfl sg_125_32_33_1_0_1 (fun v11 qv11 ev11 => ?_)
      try rw [vrf (jmb_w w9 qv11 rfl)] at D
      refine x_iloadn (x := l3) rfl rfl ?_
      refine x_sipush (v := 18300) rfl ks_18300 ?_
      refine z_isub rfl rfl jk_18300 (by omega) (fun v12 ev12 => ?_)
      refine x_inst (N := m_X12_more) (As := [.int v11, .int v12]) (st := [.ref 125]) (dx9 := 4) (mc := 0) (ms := 0) (host := "") rfl t_X12_more ⟨Or.inl q_12_431, s_X12_more⟩ rfl (by decide) rfl rfl ⟨by decide, by decide⟩ (jC.of rfl k_X12_more rfl ?_)
      show jX m_X12_more 4 0 0 0 [(0, .int v11), (1, .int v12)] [] _ 0 0 _
      refine x_iloadn (x := v11) rfl rfl ?_
      refine x_iloadn (x := v12) rfl rfl ?_
      refine x_icle (tgt := 9) rfl rfl (ti_le rfl rfl ⟨fun c13 => ?_, fun c13 => ?_⟩)
      ·
        rw [if_pos (by omega)] at D
        refine x_iloadn (x := v12) rfl rfl ?_
        refine x_iret rfl rfl ?_
        show jX m_X12_addSpan 5 0 0 219 [(0, .ref 125), (2, .int l2), (3, .int l3)] [.int v12, .ref 125] _ 0 0 _
        refine z_putI (N := 92) (w := v12.toInt) 12 32 rfl f_12_412 rfl (jfin_no TX12 RX12 92 rfl rfl) hD J Sm rfl rfl rfl (pw_125_32 (by omega)) rfl (fun h w14 J Sm => ?_)
        rw [vwf w14 (show (l3.toInt - 18300) = v12.toInt from by omega)] at D
        exact jX.sub jsb_n (ct_X12_addSpan_r125d_222 hD hQ  h J Sm D)
      ·
        rw [if_neg (by omega)] at D
        refine x_iloadn (x := v11) rfl rfl ?_
        refine x_goto (tgt := 10) rfl rfl ?_
        refine x_iret rfl rfl ?_
        show jX m_X12_addSpan 5 0 0 219 [(0, .ref 125), (2, .int l2), (3, .int l3)] [.int v11, .ref 125] _ 0 0 _
        refine z_putI (N := 92) (w := v11.toInt) 12 32 rfl f_12_412 rfl (jfin_no TX12 RX12 92 rfl rfl) hD J Sm rfl rfl rfl (pw_125_32 (by omega)) rfl (fun h w15 J Sm => ?_)
        rw [vwf w15 (show v11.toInt = v11.toInt from by omega)] at D
        exact jX.sub jsb_n (ct_X12_addSpan_r125d_222 hD hQ  h J Sm D)
set_option maxRecDepth 100000 in
set_option maxHeartbeats 4000000 in
theorem ct_X12_addSpan_r125d_170 {Dy : jH → Prop} {h0 : jH} {Q : Option Value → jH → Prop} {dr : jW} (hD : jDk Dy) (hQ : ∀ hx9, jJ jSgM Dy hx9 → jSm fp_X12_addSpan_r125d h0 hx9 → dr = vw hx9 → Q none hx9) : ∀ (l2 : Int32) (l3 : Int32) (s0 : Int32) (s1 : Int32) (h : jH), 0 ≤ l2.toInt ∧ l2.toInt ≤ 6 → 0 ≤ l3.toInt ∧ l3.toInt ≤ 146399 → (-5124) ≤ s0.toInt ∧ s0.toInt ≤ 146399 → (-2147483648) ≤ s1.toInt ∧ s1.toInt ≤ 146399 → jJ jSgM Dy h → jSm fp_X12_addSpan_r125d h0 h → d_X12_addSpan_r125d_170  l2.toInt l3.toInt s0.toInt s1.toInt (vw h) = dr → jX m_X12_addSpan 5 0 0 170 [(0, .ref 125), (2, .int l2), (3, .int l3)] [.int s0, .int s1, .ref 125] h 0 0 Q := by
  intro l2 l3 s0 s1 h y0 y1 y2 y3   J Sm D
  unfold d_X12_addSpan_r125d_170 at D
  refine x_inst (N := m_X12_less) (As := [.int s1, .int s0]) (st := [.ref 125]) (dx9 := 4) (mc := 0) (ms := 0) (host := "") rfl t_X12_less ⟨Or.inl q_12_428, s_X12_less⟩ rfl (by decide) rfl rfl ⟨by decide, by decide⟩ (jC.of rfl k_X12_less rfl ?_)
  show jX m_X12_less 4 0 0 0 [(0, .int s1), (1, .int s0)] [] _ 0 0 _
  refine x_iloadn (x := s1) rfl rfl ?_
  refine x_iloadn (x := s0) rfl rfl ?_
  refine x_icge (tgt := 9) rfl rfl (ti_ge rfl rfl ⟨fun c1 => ?_, fun c1 => ?_⟩)
  ·
    rw [if_pos (by omega)] at D
    refine x_iloadn (x := s0) rfl rfl ?_
    refine x_iret rfl rfl ?_
    show jX m_X12_addSpan 5 0 0 173 [(0, .ref 125), (2, .int l2), (3, .int l3)] [.int s0, .ref 125] _ 0 0 _
    refine z_putI (N := 92) (w := s0.toInt) 12 33 rfl f_12_415 rfl (jfin_no TX12 RX12 92 rfl rfl) hD J Sm rfl rfl rfl (pw_125_33 (by omega)) rfl (fun h w2 J Sm => ?_)
    rw [vwf w2 (show s0.toInt = s0.toInt from by omega)] at D
    refine x_aloadn (x := 125) rfl rfl ?_
    refine x_aloadn (x := 125) rfl rfl ?_
    refine z_getI (N := 92) 12 34 rfl f_12_418 rfl J rfl sg_125_34_35_1_0_1 (fun v3 qv3 ev3 => ?_)
    try rw [vrf (jmb_w w2 qv3 rfl)] at D
    refine x_iloadn (x := l2) rfl rfl ?_
    refine x_iconst (v := 1) rfl ki_1 ?_
    refine x_icne (tgt := 194) rfl rfl (ti_ne rfl jk_1 ⟨fun c4 => ?_, fun c4 => ?_⟩)
    ·
      rw [if_neg (by omega)] at D
      refine x_iloadn (x := l3) rfl rfl ?_
      exact jX.sub (jsb_c rfl (jsb_c rfl (jsb_c rfl jsb_n))) (ct_X12_addSpan_r125d_195 hD hQ  l2 l3 l3 v3 h (jr_of rfl (by omega)) (jr_of rfl (by omega)) (jr_of rfl (by omega)) (jr_of rfl (by omega)) J Sm D)
    ·
      rw [if_pos (by omega)] at D
      refine x_iloadn (x := l3) rfl rfl ?_
      refine x_sipush (v := 366) rfl ks_366 ?_
      refine z_isub rfl rfl jk_366 (by omega) (fun v5 ev5 => ?_)
      refine x_goto (tgt := 195) rfl rfl ?_
      try rw [show (l3.toInt - 366) = v5.toInt from by omega] at D
      exact jX.sub (jsb_c rfl (jsb_c rfl (jsb_c rfl jsb_n))) (ct_X12_addSpan_r125d_195 hD hQ  l2 l3 v5 v3 h (jr_of rfl (by omega)) (jr_of rfl (by omega)) (jr_of rfl (by omega)) (jr_of rfl (by omega)) J Sm D)
  ·
    rw [if_neg (by omega)] at D
    refine x_iloadn (x := s1) rfl rfl ?_
    refine x_goto (tgt := 10) rfl rfl ?_
    refine x_iret rfl rfl ?_
    show jX m_X12_addSpan 5 0 0 173 [(0, .ref 125), (2, .int l2), (3, .int l3)] [.int s1, .ref 125] _ 0 0 _
    refine z_putI (N := 92) (w := s1.toInt) 12 33 rfl f_12_415 rfl (jfin_no TX12 RX12 92 rfl rfl) hD J Sm rfl rfl rfl (pw_125_33 (by omega)) rfl (fun h w6 J Sm => ?_)
    rw [vwf w6 (show s1.toInt = s1.toInt from by omega)] at D
    refine x_aloadn (x := 125) rfl rfl ?_
    refine x_aloadn (x := 125) rfl rfl ?_
    refine z_getI (N := 92) 12 34 rfl f_12_418 rfl J rfl sg_125_34_35_1_0_1 (fun v7 qv7 ev7 => ?_)
    try rw [vrf (jmb_w w6 qv7 rfl)] at D
    refine x_iloadn (x := l2) rfl rfl ?_
    refine x_iconst (v := 1) rfl ki_1 ?_
    refine x_icne (tgt := 194) rfl rfl (ti_ne rfl jk_1 ⟨fun c8 => ?_, fun c8 => ?_⟩)
    ·
      rw [if_neg (by omega)] at D
      refine x_iloadn (x := l3) rfl rfl ?_
      exact jX.sub (jsb_c rfl (jsb_c rfl (jsb_c rfl jsb_n))) (ct_X12_addSpan_r125d_195 hD hQ  l2 l3 l3 v7 h (jr_of rfl (by omega)) (jr_of rfl (by omega)) (jr_of rfl (by omega)) (jr_of rfl (by omega)) J Sm D)
    ·
      rw [if_pos (by omega)] at D
      refine x_iloadn (x := l3) rfl rfl ?_
      refine x_sipush (v := 366) rfl ks_366 ?_
      refine z_isub rfl rfl jk_366 (by omega) (fun v9 ev9 => ?_)
      refine x_goto (tgt := 195) rfl rfl ?_
      try rw [show (l3.toInt - 366) = v9.toInt from by omega] at D
      exact jX.sub (jsb_c rfl (jsb_c rfl (jsb_c rfl jsb_n))) (ct_X12_addSpan_r125d_195 hD hQ  l2 l3 v9 v7 h (jr_of rfl (by omega)) (jr_of rfl (by omega)) (jr_of rfl (by omega)) (jr_of rfl (by omega)) J Sm D)
set_option maxRecDepth 100000 in
set_option maxHeartbeats 4000000 in
theorem ct_X12_addSpan_r125d_161 {Dy : jH → Prop} {h0 : jH} {Q : Option Value → jH → Prop} {dr : jW} (hD : jDk Dy) (hQ : ∀ hx9, jJ jSgM Dy hx9 → jSm fp_X12_addSpan_r125d h0 hx9 → dr = vw hx9 → Q none hx9) : ∀ (l2 : Int32) (l3 : Int32) (s0 : Int32) (h : jH), 0 ≤ l2.toInt ∧ l2.toInt ≤ 6 → 0 ≤ l3.toInt ∧ l3.toInt ≤ 146399 → (-2147483648) ≤ s0.toInt ∧ s0.toInt ≤ 146399 → jJ jSgM Dy h → jSm fp_X12_addSpan_r125d h0 h → d_X12_addSpan_r125d_161  l2.toInt l3.toInt s0.toInt (vw h) = dr → jX m_X12_addSpan 5 0 0 161 [(0, .ref 125), (2, .int l2), (3, .int l3)] [.int s0, .ref 125] h 0 0 Q := by
  intro l2 l3 s0 h y0 y1 y2   J Sm D
  unfold d_X12_addSpan_r125d_161 at D
  refine x_iloadn (x := l3) rfl rfl ?_
  refine x_sipush (v := 5124) rfl ks_5124 ?_
  refine z_isub rfl rfl jk_5124 (by omega) (fun v1 ev1 => ?_)
  refine x_goto (tgt := 170) rfl rfl ?_
  try rw [show (l3.toInt - 5124) = v1.toInt from by omega] at D
  exact jX.sub (jsb_c rfl (jsb_c rfl (jsb_c rfl jsb_n))) (ct_X12_addSpan_r125d_170 hD hQ  l2 l3 v1 s0 h (jr_of rfl (by omega)) (jr_of rfl (by omega)) (jr_of rfl (by omega)) (jr_of rfl (by omega)) J Sm D)
set_option maxRecDepth 100000 in
set_option maxHeartbeats 4000000 in
theorem ct_X12_addSpan_r125d_142 {Dy : jH → Prop} {h0 : jH} {Q : Option Value → jH → Prop} {dr : jW} (hD : jDk Dy) (hQ : ∀ hx9, jJ jSgM Dy hx9 → jSm fp_X12_addSpan_r125d h0 hx9 → dr = vw hx9 → Q none hx9) : ∀ (l2 : Int32) (l3 : Int32) (h : jH), 0 ≤ l2.toInt ∧ l2.toInt ≤ 6 → 0 ≤ l3.toInt ∧ l3.toInt ≤ 146399 → jJ jSgM Dy h → jSm fp_X12_addSpan_r125d h0 h → d_X12_addSpan_r125d_142  l2.toInt l3.toInt (vw h) = dr → jX m_X12_addSpan 5 0 0 142 [(0, .ref 125), (2, .int l2), (3, .int l3)] [] h 0 0 Q := by
  intro l2 l3 h y0 y1   J Sm D
  unfold d_X12_addSpan_r125d_142 at D
  refine x_aloadn (x := 125) rfl rfl ?_
  refine x_aloadn (x := 125) rfl rfl ?_
  refine z_getI (N := 92) 12 33 rfl f_12_415 rfl J rfl sg_125_33_34_1_0_1 (fun v1 qv1 ev1 => ?_)
  try rw [vrf qv1] at D
  refine x_iloadn (x := l2) rfl rfl ?_
  refine x_inst (N := m_X12_isMan) (As := [.int l2]) (st := [.int v1, .ref 125]) (dx9 := 1) (mc := 0) (ms := 0) (host := "") rfl t_X12_isMan ⟨Or.inl q_12_341, s_X12_isMan⟩ rfl (by decide) rfl rfl ⟨by decide, by decide⟩ (sf_X12_isMand (jr_of rfl (by omega)) hD J rfl  (fun v5 h ev5 J S2 X3 X4 => ?_))
  have Sm := jSm_tr rfl Sm S2
  try rw [X3] at D
  try rw [← X4] at D
  show jX m_X12_addSpan 5 0 0 151 [(0, .ref 125), (2, .int l2), (3, .int l3)] [.int v5, .int v1, .ref 125] _ 0 0 _
  refine x_ifne (tgt := 161) rfl rfl (ti_ne rfl jk_0 ⟨fun c6 => ?_, fun c6 => ?_⟩)
  ·
    rw [if_neg (by omega)] at D
    exact jX.sub (jsb_c rfl (jsb_c rfl (jsb_c rfl jsb_n))) (ct_X12_addSpan_r125d_161 hD hQ  l2 l3 v1 h (jr_of rfl (by omega)) (jr_of rfl (by omega)) (jr_of rfl (by omega)) J Sm D)
  ·
    rw [if_pos (by omega)] at D
    refine x_iloadn (x := l2) rfl rfl ?_
    refine x_inst (N := m_X12_isWoman) (As := [.int l2]) (st := [.int v1, .ref 125]) (dx9 := 1) (mc := 0) (ms := 0) (host := "") rfl t_X12_isWoman ⟨Or.inl q_12_344, s_X12_isWoman⟩ rfl (by decide) rfl rfl ⟨by decide, by decide⟩ (sf_X12_isWomand (jr_of rfl (by omega)) hD J rfl  (fun v10 h ev10 J S7 X8 X9 => ?_))
    have Sm := jSm_tr rfl Sm S7
    try rw [X8] at D
    try rw [← X9] at D
    show jX m_X12_addSpan 5 0 0 158 [(0, .ref 125), (2, .int l2), (3, .int l3)] [.int v10, .int v1, .ref 125] _ 0 0 _
    refine x_ifeq (tgt := 169) rfl rfl (ti_eq rfl jk_0 ⟨fun c11 => ?_, fun c11 => ?_⟩)
    ·
      rw [if_pos (by omega)] at D
      refine x_iloadn (x := l3) rfl rfl ?_
      exact jX.sub (jsb_c rfl (jsb_c rfl (jsb_c rfl jsb_n))) (ct_X12_addSpan_r125d_170 hD hQ  l2 l3 l3 v1 h (jr_of rfl (by omega)) (jr_of rfl (by omega)) (jr_of rfl (by omega)) (jr_of rfl (by omega)) J Sm D)
    ·
      rw [if_neg (by omega)] at D
      exact jX.sub (jsb_c rfl (jsb_c rfl (jsb_c rfl jsb_n))) (ct_X12_addSpan_r125d_161 hD hQ  l2 l3 v1 h (jr_of rfl (by omega)) (jr_of rfl (by omega)) (jr_of rfl (by omega)) J Sm D)
set_option maxRecDepth 100000 in
set_option maxHeartbeats 4000000 in
theorem ct_X12_addSpan_r125d_40 {Dy : jH → Prop} {h0 : jH} {Q : Option Value → jH → Prop} {dr : jW} (hD : jDk Dy) (hQ : ∀ hx9, jJ jSgM Dy hx9 → jSm fp_X12_addSpan_r125d h0 hx9 → dr = vw hx9 → Q none hx9) : ∀ (l1 : Int32) (l2 : Int32) (l3 : Int32) (h : jH), 0 ≤ l1.toInt ∧ l1.toInt ≤ 599 → 0 ≤ l2.toInt ∧ l2.toInt ≤ 6 → 0 ≤ l3.toInt ∧ l3.toInt ≤ 146399 → jJ jSgM Dy h → jSm fp_X12_addSpan_r125d h0 h → d_X12_addSpan_r125d_40  l1.toInt l2.toInt l3.toInt (vw h) = dr → jX m_X12_addSpan 5 0 0 40 [(0, .ref 125), (1, .int l1), (2, .int l2), (3, .int l3)] [] h 0 0 Q := by
  intro l1 l2 l3 h y0 y1 y2   J Sm D
  unfold d_X12_addSpan_r125d_40 at D
  refine x_iloadn (x := l2) rfl rfl ?_
  refine x_iconst (v := 5) rfl ki_5 ?_
  refine x_icne (tgt := 142) rfl rfl (ti_ne rfl jk_5 ⟨fun c1 => ?_, fun c1 => ?_⟩)
  ·
    rw [if_neg (by omega)] at D
    exact jX.sub (jsb_c rfl (jsb_c rfl (jsb_c rfl jsb_n))) (ct_X12_addSpan_r125d_142 hD hQ  l2 l3 h (jr_of rfl (by omega)) (jr_of rfl (by omega)) J Sm D)
  ·
    rw [if_pos (by omega)] at D
    refine x_aloadn (x := 125) rfl rfl ?_
    refine x_aloadn (x := 125) rfl rfl ?_
    refine z_getI (N := 92) 12 34 rfl f_12_418 rfl J rfl sg_125_34_35_1_0_1 (fun v2 qv2 ev2 => ?_)
    try rw [vrf qv2] at D
    refine x_iloadn (x := l3) rfl rfl ?_
    refine x_inst (N := m_X12_more) (As := [.int v2, .int l3]) (st := [.ref 125]) (dx9 := 4) (mc := 0) (ms := 0) (host := "") rfl t_X12_more ⟨Or.inl q_12_431, s_X12_more⟩ rfl (by decide) rfl rfl ⟨by decide, by decide⟩ (jC.of rfl k_X12_more rfl ?_)
    show jX m_X12_more 4 0 0 0 [(0, .int v2), (1, .int l3)] [] _ 0 0 _
    refine x_iloadn (x := v2) rfl rfl ?_
    refine x_iloadn (x := l3) rfl rfl ?_
    refine x_icle (tgt := 9) rfl rfl (ti_le rfl rfl ⟨fun c3 => ?_, fun c3 => ?_⟩)
    ·
      rw [if_pos (by omega)] at D
      refine x_iloadn (x := l3) rfl rfl ?_
      refine x_iret rfl rfl ?_
      show jX m_X12_addSpan 5 0 0 54 [(0, .ref 125), (1, .int l1), (2, .int l2), (3, .int l3)] [.int l3, .ref 125] _ 0 0 _
      refine z_putI (N := 92) (w := l3.toInt) 12 34 rfl f_12_418 rfl (jfin_no TX12 RX12 92 rfl rfl) hD J Sm rfl rfl rfl (pw_125_34 (by omega)) rfl (fun h w4 J Sm => ?_)
      rw [vwf w4 (show l3.toInt = l3.toInt from by omega)] at D
      refine x_aloadn (x := 125) rfl rfl ?_
      refine x_aloadn (x := 125) rfl rfl ?_
      refine z_getI (N := 92) 12 35 rfl f_12_421 rfl J rfl sg_125_35_36_1_0_1 (fun v5 qv5 ev5 => ?_)
      try rw [vrf (jmb_w w4 qv5 rfl)] at D
      refine x_iloadn (x := l3) rfl rfl ?_
      refine x_inst (N := m_X12_less) (As := [.int v5, .int l3]) (st := [.ref 125]) (dx9 := 4) (mc := 0) (ms := 0) (host := "") rfl t_X12_less ⟨Or.inl q_12_428, s_X12_less⟩ rfl (by decide) rfl rfl ⟨by decide, by decide⟩ (jC.of rfl k_X12_less rfl ?_)
      show jX m_X12_less 4 0 0 0 [(0, .int v5), (1, .int l3)] [] _ 0 0 _
      refine x_iloadn (x := v5) rfl rfl ?_
      refine x_iloadn (x := l3) rfl rfl ?_
      refine x_icge (tgt := 9) rfl rfl (ti_ge rfl rfl ⟨fun c6 => ?_, fun c6 => ?_⟩)
      ·
        rw [if_pos (by omega)] at D
        refine x_iloadn (x := l3) rfl rfl ?_
        refine x_iret rfl rfl ?_
        show jX m_X12_addSpan 5 0 0 66 [(0, .ref 125), (1, .int l1), (2, .int l2), (3, .int l3)] [.int l3, .ref 125] _ 0 0 _
        refine z_putI (N := 92) (w := l3.toInt) 12 35 rfl f_12_421 rfl (jfin_no TX12 RX12 92 rfl rfl) hD J Sm rfl rfl rfl (pw_125_35 (by omega)) rfl (fun h w7 J Sm => ?_)
        rw [vwf w7 (show l3.toInt = l3.toInt from by omega)] at D
        refine x_aloadn (x := 125) rfl rfl ?_
        refine x_iloadn (x := l1) rfl rfl ?_
        refine x_inv (N := m_X12_hasAge) (As := [.int l1]) (b := 125) (st := []) (dx9 := 4) (mc := 0) (ms := 0) (host := "") 12 rfl t_X12_hasAge ⟨Or.inl q_12_350, i_X12_hasAge.1, i_X12_hasAge.2⟩ ⟨by decide, rfl⟩ (congrArg Prod.fst (J.1.1 125 (12, 92) rfl)) rfl (by decide) rfl rfl ⟨by decide, by decide⟩ (sf_X12_hasAge_r125d (jr_of rfl (by omega)) hD J rfl  (fun v11 h ev11 J S8 X9 X10 => ?_))
        have Sm := jSm_tr rfl Sm S8
        try rw [X9] at D
        try rw [← X10] at D
        show jX m_X12_addSpan 5 0 0 74 [(0, .ref 125), (1, .int l1), (2, .int l2), (3, .int l3)] [.int v11] _ 0 0 _
        refine x_ifeq (tgt := 142) rfl rfl (ti_eq rfl jk_0 ⟨fun c12 => ?_, fun c12 => ?_⟩)
        ·
          rw [if_pos (by omega)] at D
          exact jX.sub (jsb_c rfl (jsb_c rfl (jsb_c rfl jsb_n))) (ct_X12_addSpan_r125d_142 hD hQ  l2 l3 h (jr_of rfl (by omega)) (jr_of rfl (by omega)) J Sm D)
        ·
          rw [if_neg (by omega)] at D
          refine x_iloadn (x := l3) rfl rfl ?_
          refine x_sipush (v := 366) rfl ks_366 ?_
          refine z_idiv rfl rfl jk_366 (by omega) (by omega) (fun v13 ev13 => ?_)
          refine x_aloadn (x := 125) rfl rfl ?_
          refine x_iloadn (x := l1) rfl rfl ?_
          refine x_iconst (v := 3) rfl ki_3 ?_
          refine z_idiv rfl rfl jk_3 (by omega) (by omega) (fun v14 ev14 => ?_)
          refine x_inv (N := m_X12_numberOf) (As := [.int v14]) (b := 125) (st := [.int v13]) (dx9 := 4) (mc := 0) (ms := 0) (host := "") 12 rfl t_X12_numberOf ⟨Or.inl q_12_296, i_X12_numberOf.1, i_X12_numberOf.2⟩ ⟨by decide, rfl⟩ (congrArg Prod.fst (J.1.1 125 (12, 92) rfl)) rfl (by decide) rfl rfl ⟨by decide, by decide⟩ (jC.of rfl k_X12_numberOf rfl ?_)
          show jX m_X12_numberOf 4 0 0 0 [(0, .ref 125), (1, .int v14)] [] _ 0 0 _
          refine x_aloadn (x := 125) rfl rfl ?_
          refine z_getR (N := 92) (b := 126) 12 2 rfl f_12_8 rfl J rfl 16002 ⟨rfl, rfl⟩ rfl ?_
          refine x_aloadn (x := 125) rfl rfl ?_
          refine x_iloadn (x := v14) rfl rfl ?_
          refine x_inv (N := m_X12_at) (As := [.int v14]) (b := 125) (st := [.ref 126]) (dx9 := 3) (mc := 0) (ms := 0) (host := "") 12 rfl t_X12_at ⟨Or.inl q_12_254, i_X12_at.1, i_X12_at.2⟩ ⟨by decide, rfl⟩ (congrArg Prod.fst (J.1.1 125 (12, 92) rfl)) rfl (by decide) rfl rfl ⟨by decide, by decide⟩ (jC.of rfl k_X12_at rfl ?_)
          show jX m_X12_at 3 0 0 0 [(0, .ref 125), (1, .int v14)] [] _ 0 0 _
          refine x_bipush (v := 20) rfl kb_20 ?_
          refine x_bipush (v := 90) rfl kb_90 ?_
          refine x_iloadn (x := v14) rfl rfl ?_
          refine z_imul rfl jk_90 rfl (by omega) (fun v15 ev15 => ?_)
          refine z_iadd rfl jk_20 rfl (by omega) (fun v16 ev16 => ?_)
          refine x_iret rfl rfl ?_
          show jX m_X12_numberOf 4 0 0 9 [(0, .ref 125), (1, .int v14)] [.int v16, .ref 126] _ 0 0 _
          refine x_iconst (v := 4) rfl ki_4 ?_
          refine z_iadd rfl rfl jk_4 (by omega) (fun v17 ev17 => ?_)
          refine z_iald0 (N := 50660) rfl J rfl rfl (by omega) (fun v18 qv18 => ?_)
          have ev18 := jfull v18
          try rw [vrd (jmb_w w4 (jmb_w w7 (jmb_c S8 qv18 rfl) rfl) rfl) (show ((20 + (90 * (l1.toInt / 3))) + 4) = v17.toInt from by omega)] at D
          refine x_iret rfl rfl ?_
          show jX m_X12_addSpan 5 0 0 89 [(0, .ref 125), (1, .int l1), (2, .int l2), (3, .int l3)] [.int v18, .int v13] _ 0 0 _
          refine z_isubW rfl rfl rfl (fun v19 ev19 => ?_)
          have fv19 := jfull v19
          try rw [show (l3.toInt / 366) = v13.toInt from by omega] at D
          try rw [← ev19] at D
          refine x_istore (lsx9 := [(4, .int v19), (0, .ref 125), (1, .int l1), (2, .int l2), (3, .int l3)]) rfl rfl rfl ?_
          refine x_aloadn (x := 125) rfl rfl ?_
          refine x_aloadn (x := 125) rfl rfl ?_
          refine z_getI (N := 92) 12 32 rfl f_12_412 rfl J rfl sg_125_32_33_1_0_1 (fun v20 qv20 ev20 => ?_)
          try rw [vrf (jmb_w w4 (jmb_w w7 (jmb_c S8 qv20 rfl) rfl) rfl)] at D
          refine x_iload (x := v19) rfl rfl ?_
          refine x_aloadn (x := 125) rfl rfl ?_
          refine z_getI (N := 92) 12 27 rfl f_12_69 rfl J rfl sg_125_27_28_1_0_1 (fun v21 qv21 ev21 => ?_)
          try rw [vrf (jmb_w w4 (jmb_w w7 (jmb_c S8 qv21 rfl) rfl) rfl)] at D
          refine z_isubW rfl rfl rfl (fun v22 ev22 => ?_)
          have fv22 := jfull v22
          try rw [← ev22] at D
          refine x_sipush (v := 366) rfl ks_366 ?_
          refine z_imulW rfl rfl jk_366 (fun v23 ev23 => ?_)
          have fv23 := jfull v23
          try rw [← ev23] at D
          refine x_inst (N := m_X12_more) (As := [.int v20, .int v23]) (st := [.ref 125]) (dx9 := 4) (mc := 0) (ms := 0) (host := "") rfl t_X12_more ⟨Or.inl q_12_431, s_X12_more⟩ rfl (by decide) rfl rfl ⟨by decide, by decide⟩ (jC.of rfl k_X12_more rfl ?_)
          show jX m_X12_more 4 0 0 0 [(0, .int v20), (1, .int v23)] [] _ 0 0 _
          refine x_iloadn (x := v20) rfl rfl ?_
          refine x_iloadn (x := v23) rfl rfl ?_
          refine x_icle (tgt := 9) rfl rfl (ti_le rfl rfl ⟨fun c24 => ?_, fun c24 => ?_⟩)
          ·
            rw [if_pos (by omega)] at D
            refine x_iloadn (x := v23) rfl rfl ?_
            refine x_iret rfl rfl ?_
            show jX m_X12_addSpan 5 0 0 111 [(4, .int v19), (0, .ref 125), (1, .int l1), (2, .int l2), (3, .int l3)] [.int v23, .ref 125] _ 0 0 _
            refine z_putI (N := 92) (w := v23.toInt) 12 32 rfl f_12_412 rfl (jfin_no TX12 RX12 92 rfl rfl) hD J Sm rfl rfl rfl (pw_125_32 (by omega)) rfl (fun h w25 J Sm => ?_)
            rw [vwf w25 (show v23.toInt = v23.toInt from by omega)] at D
            refine x_aloadn (x := 125) rfl rfl ?_
            refine x_aloadn (x := 125) rfl rfl ?_
            refine z_getI (N := 92) 12 33 rfl f_12_415 rfl J rfl sg_125_33_34_1_0_1 (fun v26 qv26 ev26 => ?_)
            try rw [vrf (jmb_w w4 (jmb_w w7 (jmb_c S8 (jmb_w w25 qv26 rfl) rfl) rfl) rfl)] at D
            refine x_iload (x := v19) rfl rfl ?_
            refine x_aloadn (x := 125) rfl rfl ?_
            refine z_getM (N := 92) (v := v21) 12 27 rfl f_12_69 rfl J rfl (jmo w25 rfl qv21) ?_
            refine z_iaddW rfl rfl rfl (fun v27 ev27 => ?_)
            have fv27 := jfull v27
            try rw [← ev27] at D
            refine x_sipush (v := 366) rfl ks_366 ?_
            refine z_imulW rfl rfl jk_366 (fun v28 ev28 => ?_)
            have fv28 := jfull v28
            try rw [← ev28] at D
            refine x_sipush (v := 366) rfl ks_366 ?_
            refine z_iaddW rfl rfl jk_366 (fun v29 ev29 => ?_)
            have fv29 := jfull v29
            try rw [← ev29] at D
            refine x_iconst (v := 1) rfl ki_1 ?_
            refine z_isubW rfl rfl jk_1 (fun v30 ev30 => ?_)
            have fv30 := jfull v30
            try rw [← ev30] at D
            refine x_inst (N := m_X12_less) (As := [.int v26, .int v30]) (st := [.ref 125]) (dx9 := 4) (mc := 0) (ms := 0) (host := "") rfl t_X12_less ⟨Or.inl q_12_428, s_X12_less⟩ rfl (by decide) rfl rfl ⟨by decide, by decide⟩ (jC.of rfl k_X12_less rfl ?_)
            show jX m_X12_less 4 0 0 0 [(0, .int v26), (1, .int v30)] [] _ 0 0 _
            refine x_iloadn (x := v26) rfl rfl ?_
            refine x_iloadn (x := v30) rfl rfl ?_
            refine x_icge (tgt := 9) rfl rfl (ti_ge rfl rfl ⟨fun c31 => ?_, fun c31 => ?_⟩)
            ·
              rw [if_pos (by omega)] at D
              refine x_iloadn (x := v30) rfl rfl ?_
              refine x_iret rfl rfl ?_
              show jX m_X12_addSpan 5 0 0 139 [(4, .int v19), (0, .ref 125), (1, .int l1), (2, .int l2), (3, .int l3)] [.int v30, .ref 125] _ 0 0 _
              refine z_putI (N := 92) (w := v30.toInt) 12 33 rfl f_12_415 rfl (jfin_no TX12 RX12 92 rfl rfl) hD J Sm rfl rfl rfl (pw_125_33 (by omega)) rfl (fun h w32 J Sm => ?_)
              rw [vwf w32 (show v30.toInt = v30.toInt from by omega)] at D
              exact jX.sub (jsb_c rfl (jsb_c rfl (jsb_c rfl jsb_n))) (ct_X12_addSpan_r125d_142 hD hQ  l2 l3 h (jr_of rfl (by omega)) (jr_of rfl (by omega)) J Sm D)
            ·
              rw [if_neg (by omega)] at D
              refine x_iloadn (x := v26) rfl rfl ?_
              refine x_goto (tgt := 10) rfl rfl ?_
              refine x_iret rfl rfl ?_
              show jX m_X12_addSpan 5 0 0 139 [(4, .int v19), (0, .ref 125), (1, .int l1), (2, .int l2), (3, .int l3)] [.int v26, .ref 125] _ 0 0 _
              refine z_putI (N := 92) (w := v26.toInt) 12 33 rfl f_12_415 rfl (jfin_no TX12 RX12 92 rfl rfl) hD J Sm rfl rfl rfl (pw_125_33 (by omega)) rfl (fun h w33 J Sm => ?_)
              rw [vwf w33 (show v26.toInt = v26.toInt from by omega)] at D
              exact jX.sub (jsb_c rfl (jsb_c rfl (jsb_c rfl jsb_n))) (ct_X12_addSpan_r125d_142 hD hQ  l2 l3 h (jr_of rfl (by omega)) (jr_of rfl (by omega)) J Sm D)
          ·
            rw [if_neg (by omega)] at D
            refine x_iloadn (x := v20) rfl rfl ?_
            refine x_goto (tgt := 10) rfl rfl ?_
            refine x_iret rfl rfl ?_
            show jX m_X12_addSpan 5 0 0 111 [(4, .int v19), (0, .ref 125), (1, .int l1), (2, .int l2), (3, .int l3)] [.int v20, .ref 125] _ 0 0 _
            refine z_putI (N := 92) (w := v20.toInt) 12 32 rfl f_12_412 rfl (jfin_no TX12 RX12 92 rfl rfl) hD J Sm rfl rfl rfl (pw_125_32 (by omega)) rfl (fun h w34 J Sm => ?_)
            rw [vwf w34 (show v20.toInt = v20.toInt from by omega)] at D
            refine x_aloadn (x := 125) rfl rfl ?_
            refine x_aloadn (x := 125) rfl rfl ?_
            refine z_getI (N := 92) 12 33 rfl f_12_415 rfl J rfl sg_125_33_34_1_0_1 (fun v35 qv35 ev35 => ?_)
            try rw [vrf (jmb_w w4 (jmb_w w7 (jmb_c S8 (jmb_w w34 qv35 rfl) rfl) rfl) rfl)] at D
            refine x_iload (x := v19) rfl rfl ?_
            refine x_aloadn (x := 125) rfl rfl ?_
            refine z_getM (N := 92) (v := v21) 12 27 rfl f_12_69 rfl J rfl (jmo w34 rfl qv21) ?_
            refine z_iaddW rfl rfl rfl (fun v36 ev36 => ?_)
            have fv36 := jfull v36
            try rw [← ev36] at D
            refine x_sipush (v := 366) rfl ks_366 ?_
            refine z_imulW rfl rfl jk_366 (fun v37 ev37 => ?_)
            have fv37 := jfull v37
            try rw [← ev37] at D
            refine x_sipush (v := 366) rfl ks_366 ?_
            refine z_iaddW rfl rfl jk_366 (fun v38 ev38 => ?_)
            have fv38 := jfull v38
            try rw [← ev38] at D
            refine x_iconst (v := 1) rfl ki_1 ?_
            refine z_isubW rfl rfl jk_1 (fun v39 ev39 => ?_)
            have fv39 := jfull v39
            try rw [← ev39] at D
            refine x_inst (N := m_X12_less) (As := [.int v35, .int v39]) (st := [.ref 125]) (dx9 := 4) (mc := 0) (ms := 0) (host := "") rfl t_X12_less ⟨Or.inl q_12_428, s_X12_less⟩ rfl (by decide) rfl rfl ⟨by decide, by decide⟩ (jC.of rfl k_X12_less rfl ?_)
            show jX m_X12_less 4 0 0 0 [(0, .int v35), (1, .int v39)] [] _ 0 0 _
            refine x_iloadn (x := v35) rfl rfl ?_
            refine x_iloadn (x := v39) rfl rfl ?_
            refine x_icge (tgt := 9) rfl rfl (ti_ge rfl rfl ⟨fun c40 => ?_, fun c40 => ?_⟩)
            ·
              rw [if_pos (by omega)] at D
              refine x_iloadn (x := v39) rfl rfl ?_
              refine x_iret rfl rfl ?_
              show jX m_X12_addSpan 5 0 0 139 [(4, .int v19), (0, .ref 125), (1, .int l1), (2, .int l2), (3, .int l3)] [.int v39, .ref 125] _ 0 0 _
              refine z_putI (N := 92) (w := v39.toInt) 12 33 rfl f_12_415 rfl (jfin_no TX12 RX12 92 rfl rfl) hD J Sm rfl rfl rfl (pw_125_33 (by omega)) rfl (fun h w41 J Sm => ?_)
              rw [vwf w41 (show v39.toInt = v39.toInt from by omega)] at D
              exact jX.sub (jsb_c rfl (jsb_c rfl (jsb_c rfl jsb_n))) (ct_X12_addSpan_r125d_142 hD hQ  l2 l3 h (jr_of rfl (by omega)) (jr_of rfl (by omega)) J Sm D)
            ·
              rw [if_neg (by omega)] at D
              refine x_iloadn (x := v35) rfl rfl ?_
              refine x_goto (tgt := 10) rfl rfl ?_
              refine x_iret rfl rfl ?_
              show jX m_X12_addSpan 5 0 0 139 [(4, .int v19), (0, .ref 125), (1, .int l1), (2, .int l2), (3, .int l3)] [.int v35, .ref 125] _ 0 0 _
              refine z_putI (N := 92) (w := v35.toInt) 12 33 rfl f_12_415 rfl (jfin_no TX12 RX12 92 rfl rfl) hD J Sm rfl rfl rfl (pw_125_33 (by omega)) rfl (fun h w42 J Sm => ?_)
              rw [vwf w42 (show v35.toInt = v35.toInt from by omega)] at D
              exact jX.sub (jsb_c rfl (jsb_c rfl (jsb_c rfl jsb_n))) (ct_X12_addSpan_r125d_142 hD hQ  l2 l3 h (jr_of rfl (by omega)) (jr_of rfl (by omega)) J Sm D)
      ·
        rw [if_neg (by omega)] at D
        refine x_iloadn (x := v5) rfl rfl ?_
        refine x_goto (tgt := 10) rfl rfl ?_
        refine x_iret rfl rfl ?_
        show jX m_X12_addSpan 5 0 0 66 [(0, .ref 125), (1, .int l1), (2, .int l2), (3, .int l3)] [.int v5, .ref 125] _ 0 0 _
        refine z_putI (N := 92) (w := v5.toInt) 12 35 rfl f_12_421 rfl (jfin_no TX12 RX12 92 rfl rfl) hD J Sm rfl rfl rfl (pw_125_35 (by omega)) rfl (fun h w43 J Sm => ?_)
        rw [vwf w43 (show v5.toInt = v5.toInt from by omega)] at D
        refine x_aloadn (x := 125) rfl rfl ?_
        refine x_iloadn (x := l1) rfl rfl ?_
        refine x_inv (N := m_X12_hasAge) (As := [.int l1]) (b := 125) (st := []) (dx9 := 4) (mc := 0) (ms := 0) (host := "") 12 rfl t_X12_hasAge ⟨Or.inl q_12_350, i_X12_hasAge.1, i_X12_hasAge.2⟩ ⟨by decide, rfl⟩ (congrArg Prod.fst (J.1.1 125 (12, 92) rfl)) rfl (by decide) rfl rfl ⟨by decide, by decide⟩ (sf_X12_hasAge_r125d (jr_of rfl (by omega)) hD J rfl  (fun v47 h ev47 J S44 X45 X46 => ?_))
        have Sm := jSm_tr rfl Sm S44
        try rw [X45] at D
        try rw [← X46] at D
        show jX m_X12_addSpan 5 0 0 74 [(0, .ref 125), (1, .int l1), (2, .int l2), (3, .int l3)] [.int v47] _ 0 0 _
        refine x_ifeq (tgt := 142) rfl rfl (ti_eq rfl jk_0 ⟨fun c48 => ?_, fun c48 => ?_⟩)
        ·
          rw [if_pos (by omega)] at D
          exact jX.sub (jsb_c rfl (jsb_c rfl (jsb_c rfl jsb_n))) (ct_X12_addSpan_r125d_142 hD hQ  l2 l3 h (jr_of rfl (by omega)) (jr_of rfl (by omega)) J Sm D)
        ·
          rw [if_neg (by omega)] at D
          refine x_iloadn (x := l3) rfl rfl ?_
          refine x_sipush (v := 366) rfl ks_366 ?_
          refine z_idiv rfl rfl jk_366 (by omega) (by omega) (fun v49 ev49 => ?_)
          refine x_aloadn (x := 125) rfl rfl ?_
          refine x_iloadn (x := l1) rfl rfl ?_
          refine x_iconst (v := 3) rfl ki_3 ?_
          refine z_idiv rfl rfl jk_3 (by omega) (by omega) (fun v50 ev50 => ?_)
          refine x_inv (N := m_X12_numberOf) (As := [.int v50]) (b := 125) (st := [.int v49]) (dx9 := 4) (mc := 0) (ms := 0) (host := "") 12 rfl t_X12_numberOf ⟨Or.inl q_12_296, i_X12_numberOf.1, i_X12_numberOf.2⟩ ⟨by decide, rfl⟩ (congrArg Prod.fst (J.1.1 125 (12, 92) rfl)) rfl (by decide) rfl rfl ⟨by decide, by decide⟩ (jC.of rfl k_X12_numberOf rfl ?_)
          show jX m_X12_numberOf 4 0 0 0 [(0, .ref 125), (1, .int v50)] [] _ 0 0 _
          refine x_aloadn (x := 125) rfl rfl ?_
          refine z_getR (N := 92) (b := 126) 12 2 rfl f_12_8 rfl J rfl 16002 ⟨rfl, rfl⟩ rfl ?_
          refine x_aloadn (x := 125) rfl rfl ?_
          refine x_iloadn (x := v50) rfl rfl ?_
          refine x_inv (N := m_X12_at) (As := [.int v50]) (b := 125) (st := [.ref 126]) (dx9 := 3) (mc := 0) (ms := 0) (host := "") 12 rfl t_X12_at ⟨Or.inl q_12_254, i_X12_at.1, i_X12_at.2⟩ ⟨by decide, rfl⟩ (congrArg Prod.fst (J.1.1 125 (12, 92) rfl)) rfl (by decide) rfl rfl ⟨by decide, by decide⟩ (jC.of rfl k_X12_at rfl ?_)
          show jX m_X12_at 3 0 0 0 [(0, .ref 125), (1, .int v50)] [] _ 0 0 _
          refine x_bipush (v := 20) rfl kb_20 ?_
          refine x_bipush (v := 90) rfl kb_90 ?_
          refine x_iloadn (x := v50) rfl rfl ?_
          refine z_imul rfl jk_90 rfl (by omega) (fun v51 ev51 => ?_)
          refine z_iadd rfl jk_20 rfl (by omega) (fun v52 ev52 => ?_)
          refine x_iret rfl rfl ?_
          show jX m_X12_numberOf 4 0 0 9 [(0, .ref 125), (1, .int v50)] [.int v52, .ref 126] _ 0 0 _
          refine x_iconst (v := 4) rfl ki_4 ?_
          refine z_iadd rfl rfl jk_4 (by omega) (fun v53 ev53 => ?_)
          refine z_iald0 (N := 50660) rfl J rfl rfl (by omega) (fun v54 qv54 => ?_)
          have ev54 := jfull v54
          try rw [vrd (jmb_w w4 (jmb_w w43 (jmb_c S44 qv54 rfl) rfl) rfl) (show ((20 + (90 * (l1.toInt / 3))) + 4) = v53.toInt from by omega)] at D
          refine x_iret rfl rfl ?_
          show jX m_X12_addSpan 5 0 0 89 [(0, .ref 125), (1, .int l1), (2, .int l2), (3, .int l3)] [.int v54, .int v49] _ 0 0 _
          refine z_isubW rfl rfl rfl (fun v55 ev55 => ?_)
          have fv55 := jfull v55
          try rw [show (l3.toInt / 366) = v49.toInt from by omega] at D
          try rw [← ev55] at D
          refine x_istore (lsx9 := [(4, .int v55), (0, .ref 125), (1, .int l1), (2, .int l2), (3, .int l3)]) rfl rfl rfl ?_
          refine x_aloadn (x := 125) rfl rfl ?_
          refine x_aloadn (x := 125) rfl rfl ?_
          refine z_getI (N := 92) 12 32 rfl f_12_412 rfl J rfl sg_125_32_33_1_0_1 (fun v56 qv56 ev56 => ?_)
          try rw [vrf (jmb_w w4 (jmb_w w43 (jmb_c S44 qv56 rfl) rfl) rfl)] at D
          refine x_iload (x := v55) rfl rfl ?_
          refine x_aloadn (x := 125) rfl rfl ?_
          refine z_getI (N := 92) 12 27 rfl f_12_69 rfl J rfl sg_125_27_28_1_0_1 (fun v57 qv57 ev57 => ?_)
          try rw [vrf (jmb_w w4 (jmb_w w43 (jmb_c S44 qv57 rfl) rfl) rfl)] at D
          refine z_isubW rfl rfl rfl (fun v58 ev58 => ?_)
          have fv58 := jfull v58
          try rw [← ev58] at D
          refine x_sipush (v := 366) rfl ks_366 ?_
          refine z_imulW rfl rfl jk_366 (fun v59 ev59 => ?_)
          have fv59 := jfull v59
          try rw [← ev59] at D
          refine x_inst (N := m_X12_more) (As := [.int v56, .int v59]) (st := [.ref 125]) (dx9 := 4) (mc := 0) (ms := 0) (host := "") rfl t_X12_more ⟨Or.inl q_12_431, s_X12_more⟩ rfl (by decide) rfl rfl ⟨by decide, by decide⟩ (jC.of rfl k_X12_more rfl ?_)
          show jX m_X12_more 4 0 0 0 [(0, .int v56), (1, .int v59)] [] _ 0 0 _
          refine x_iloadn (x := v56) rfl rfl ?_
          refine x_iloadn (x := v59) rfl rfl ?_
          refine x_icle (tgt := 9) rfl rfl (ti_le rfl rfl ⟨fun c60 => ?_, fun c60 => ?_⟩)
          ·
            rw [if_pos (by omega)] at D
            refine x_iloadn (x := v59) rfl rfl ?_
            refine x_iret rfl rfl ?_
            show jX m_X12_addSpan 5 0 0 111 [(4, .int v55), (0, .ref 125), (1, .int l1), (2, .int l2), (3, .int l3)] [.int v59, .ref 125] _ 0 0 _
            refine z_putI (N := 92) (w := v59.toInt) 12 32 rfl f_12_412 rfl (jfin_no TX12 RX12 92 rfl rfl) hD J Sm rfl rfl rfl (pw_125_32 (by omega)) rfl (fun h w61 J Sm => ?_)
            rw [vwf w61 (show v59.toInt = v59.toInt from by omega)] at D
            refine x_aloadn (x := 125) rfl rfl ?_
            refine x_aloadn (x := 125) rfl rfl ?_
            refine z_getI (N := 92) 12 33 rfl f_12_415 rfl J rfl sg_125_33_34_1_0_1 (fun v62 qv62 ev62 => ?_)
            try rw [vrf (jmb_w w4 (jmb_w w43 (jmb_c S44 (jmb_w w61 qv62 rfl) rfl) rfl) rfl)] at D
            refine x_iload (x := v55) rfl rfl ?_
            refine x_aloadn (x := 125) rfl rfl ?_
            refine z_getM (N := 92) (v := v57) 12 27 rfl f_12_69 rfl J rfl (jmo w61 rfl qv57) ?_
            refine z_iaddW rfl rfl rfl (fun v63 ev63 => ?_)
            have fv63 := jfull v63
            try rw [← ev63] at D
            refine x_sipush (v := 366) rfl ks_366 ?_
            refine z_imulW rfl rfl jk_366 (fun v64 ev64 => ?_)
            have fv64 := jfull v64
            try rw [← ev64] at D
            refine x_sipush (v := 366) rfl ks_366 ?_
            refine z_iaddW rfl rfl jk_366 (fun v65 ev65 => ?_)
            have fv65 := jfull v65
            try rw [← ev65] at D
            refine x_iconst (v := 1) rfl ki_1 ?_
            refine z_isubW rfl rfl jk_1 (fun v66 ev66 => ?_)
            have fv66 := jfull v66
            try rw [← ev66] at D
            refine x_inst (N := m_X12_less) (As := [.int v62, .int v66]) (st := [.ref 125]) (dx9 := 4) (mc := 0) (ms := 0) (host := "") rfl t_X12_less ⟨Or.inl q_12_428, s_X12_less⟩ rfl (by decide) rfl rfl ⟨by decide, by decide⟩ (jC.of rfl k_X12_less rfl ?_)
            show jX m_X12_less 4 0 0 0 [(0, .int v62), (1, .int v66)] [] _ 0 0 _
            refine x_iloadn (x := v62) rfl rfl ?_
            refine x_iloadn (x := v66) rfl rfl ?_
            refine x_icge (tgt := 9) rfl rfl (ti_ge rfl rfl ⟨fun c67 => ?_, fun c67 => ?_⟩)
            ·
              rw [if_pos (by omega)] at D
              refine x_iloadn (x := v66) rfl rfl ?_
              refine x_iret rfl rfl ?_
              show jX m_X12_addSpan 5 0 0 139 [(4, .int v55), (0, .ref 125), (1, .int l1), (2, .int l2), (3, .int l3)] [.int v66, .ref 125] _ 0 0 _
              refine z_putI (N := 92) (w := v66.toInt) 12 33 rfl f_12_415 rfl (jfin_no TX12 RX12 92 rfl rfl) hD J Sm rfl rfl rfl (pw_125_33 (by omega)) rfl (fun h w68 J Sm => ?_)
              rw [vwf w68 (show v66.toInt = v66.toInt from by omega)] at D
              exact jX.sub (jsb_c rfl (jsb_c rfl (jsb_c rfl jsb_n))) (ct_X12_addSpan_r125d_142 hD hQ  l2 l3 h (jr_of rfl (by omega)) (jr_of rfl (by omega)) J Sm D)
            ·
              rw [if_neg (by omega)] at D
              refine x_iloadn (x := v62) rfl rfl ?_
              refine x_goto (tgt := 10) rfl rfl ?_
              refine x_iret rfl rfl ?_
              show jX m_X12_addSpan 5 0 0 139 [(4, .int v55), (0, .ref 125), (1, .int l1), (2, .int l2), (3, .int l3)] [.int v62, .ref 125] _ 0 0 _
              refine z_putI (N := 92) (w := v62.toInt) 12 33 rfl f_12_415 rfl (jfin_no TX12 RX12 92 rfl rfl) hD J Sm rfl rfl rfl (pw_125_33 (by omega)) rfl (fun h w69 J Sm => ?_)
              rw [vwf w69 (show v62.toInt = v62.toInt from by omega)] at D
              exact jX.sub (jsb_c rfl (jsb_c rfl (jsb_c rfl jsb_n))) (ct_X12_addSpan_r125d_142 hD hQ  l2 l3 h (jr_of rfl (by omega)) (jr_of rfl (by omega)) J Sm D)
          ·
            rw [if_neg (by omega)] at D
            refine x_iloadn (x := v56) rfl rfl ?_
            refine x_goto (tgt := 10) rfl rfl ?_
            refine x_iret rfl rfl ?_
            show jX m_X12_addSpan 5 0 0 111 [(4, .int v55), (0, .ref 125), (1, .int l1), (2, .int l2), (3, .int l3)] [.int v56, .ref 125] _ 0 0 _
            refine z_putI (N := 92) (w := v56.toInt) 12 32 rfl f_12_412 rfl (jfin_no TX12 RX12 92 rfl rfl) hD J Sm rfl rfl rfl (pw_125_32 (by omega)) rfl (fun h w70 J Sm => ?_)
            rw [vwf w70 (show v56.toInt = v56.toInt from by omega)] at D
            refine x_aloadn (x := 125) rfl rfl ?_
            refine x_aloadn (x := 125) rfl rfl ?_
            refine z_getI (N := 92) 12 33 rfl f_12_415 rfl J rfl sg_125_33_34_1_0_1 (fun v71 qv71 ev71 => ?_)
            try rw [vrf (jmb_w w4 (jmb_w w43 (jmb_c S44 (jmb_w w70 qv71 rfl) rfl) rfl) rfl)] at D
            refine x_iload (x := v55) rfl rfl ?_
            refine x_aloadn (x := 125) rfl rfl ?_
            refine z_getM (N := 92) (v := v57) 12 27 rfl f_12_69 rfl J rfl (jmo w70 rfl qv57) ?_
            refine z_iaddW rfl rfl rfl (fun v72 ev72 => ?_)
            have fv72 := jfull v72
            try rw [← ev72] at D
            refine x_sipush (v := 366) rfl ks_366 ?_
            refine z_imulW rfl rfl jk_366 (fun v73 ev73 => ?_)
            have fv73 := jfull v73
            try rw [← ev73] at D
            refine x_sipush (v := 366) rfl ks_366 ?_
            refine z_iaddW rfl rfl jk_366 (fun v74 ev74 => ?_)
            have fv74 := jfull v74
            try rw [← ev74] at D
            refine x_iconst (v := 1) rfl ki_1 ?_
            refine z_isubW rfl rfl jk_1 (fun v75 ev75 => ?_)
            have fv75 := jfull v75
            try rw [← ev75] at D
            refine x_inst (N := m_X12_less) (As := [.int v71, .int v75]) (st := [.ref 125]) (dx9 := 4) (mc := 0) (ms := 0) (host := "") rfl t_X12_less ⟨Or.inl q_12_428, s_X12_less⟩ rfl (by decide) rfl rfl ⟨by decide, by decide⟩ (jC.of rfl k_X12_less rfl ?_)
            show jX m_X12_less 4 0 0 0 [(0, .int v71), (1, .int v75)] [] _ 0 0 _
            refine x_iloadn (x := v71) rfl rfl ?_
            refine x_iloadn (x := v75) rfl rfl ?_
            refine x_icge (tgt := 9) rfl rfl (ti_ge rfl rfl ⟨fun c76 => ?_, fun c76 => ?_⟩)
            ·
              rw [if_pos (by omega)] at D
              refine x_iloadn (x := v75) rfl rfl ?_
              refine x_iret rfl rfl ?_
              show jX m_X12_addSpan 5 0 0 139 [(4, .int v55), (0, .ref 125), (1, .int l1), (2, .int l2), (3, .int l3)] [.int v75, .ref 125] _ 0 0 _
              refine z_putI (N := 92) (w := v75.toInt) 12 33 rfl f_12_415 rfl (jfin_no TX12 RX12 92 rfl rfl) hD J Sm rfl rfl rfl (pw_125_33 (by omega)) rfl (fun h w77 J Sm => ?_)
              rw [vwf w77 (show v75.toInt = v75.toInt from by omega)] at D
              exact jX.sub (jsb_c rfl (jsb_c rfl (jsb_c rfl jsb_n))) (ct_X12_addSpan_r125d_142 hD hQ  l2 l3 h (jr_of rfl (by omega)) (jr_of rfl (by omega)) J Sm D)
            ·
              rw [if_neg (by omega)] at D
              refine x_iloadn (x := v71) rfl rfl ?_
              refine x_goto (tgt := 10) rfl rfl ?_
              refine x_iret rfl rfl ?_
              show jX m_X12_addSpan 5 0 0 139 [(4, .int v55), (0, .ref 125), (1, .int l1), (2, .int l2), (3, .int l3)] [.int v71, .ref 125] _ 0 0 _
              refine z_putI (N := 92) (w := v71.toInt) 12 33 rfl f_12_415 rfl (jfin_no TX12 RX12 92 rfl rfl) hD J Sm rfl rfl rfl (pw_125_33 (by omega)) rfl (fun h w78 J Sm => ?_)
              rw [vwf w78 (show v71.toInt = v71.toInt from by omega)] at D
              exact jX.sub (jsb_c rfl (jsb_c rfl (jsb_c rfl jsb_n))) (ct_X12_addSpan_r125d_142 hD hQ  l2 l3 h (jr_of rfl (by omega)) (jr_of rfl (by omega)) J Sm D)
    ·
      rw [if_neg (by omega)] at D
      refine x_iloadn (x := v2) rfl rfl ?_
      refine x_goto (tgt := 10) rfl rfl ?_
      refine x_iret rfl rfl ?_
      show jX m_X12_addSpan 5 0 0 54 [(0, .ref 125), (1, .int l1), (2, .int l2), (3, .int l3)] [.int v2, .ref 125] _ 0 0 _
      refine z_putI (N := 92) (w := v2.toInt) 12 34 rfl f_12_418 rfl (jfin_no TX12 RX12 92 rfl rfl) hD J Sm rfl rfl rfl (pw_125_34 (by omega)) rfl (fun h w79 J Sm => ?_)
      rw [vwf w79 (show v2.toInt = v2.toInt from by omega)] at D
      refine x_aloadn (x := 125) rfl rfl ?_
      refine x_aloadn (x := 125) rfl rfl ?_
      refine z_getI (N := 92) 12 35 rfl f_12_421 rfl J rfl sg_125_35_36_1_0_1 (fun v80 qv80 ev80 => ?_)
      try rw [vrf (jmb_w w79 qv80 rfl)] at D
      refine x_iloadn (x := l3) rfl rfl ?_
      refine x_inst (N := m_X12_less) (As := [.int v80, .int l3]) (st := [.ref 125]) (dx9 := 4) (mc := 0) (ms := 0) (host := "") rfl t_X12_less ⟨Or.inl q_12_428, s_X12_less⟩ rfl (by decide) rfl rfl ⟨by decide, by decide⟩ (jC.of rfl k_X12_less rfl ?_)
      show jX m_X12_less 4 0 0 0 [(0, .int v80), (1, .int l3)] [] _ 0 0 _
      refine x_iloadn (x := v80) rfl rfl ?_
      refine x_iloadn (x := l3) rfl rfl ?_
      refine x_icge (tgt := 9) rfl rfl (ti_ge rfl rfl ⟨fun c81 => ?_, fun c81 => ?_⟩)
      ·
        rw [if_pos (by omega)] at D
        refine x_iloadn (x := l3) rfl rfl ?_
        refine x_iret rfl rfl ?_
        show jX m_X12_addSpan 5 0 0 66 [(0, .ref 125), (1, .int l1), (2, .int l2), (3, .int l3)] [.int l3, .ref 125] _ 0 0 _
        refine z_putI (N := 92) (w := l3.toInt) 12 35 rfl f_12_421 rfl (jfin_no TX12 RX12 92 rfl rfl) hD J Sm rfl rfl rfl (pw_125_35 (by omega)) rfl (fun h w82 J Sm => ?_)
        rw [vwf w82 (show l3.toInt = l3.toInt from by omega)] at D
        refine x_aloadn (x := 125) rfl rfl ?_
        refine x_iloadn (x := l1) rfl rfl ?_
        refine x_inv (N := m_X12_hasAge) (As := [.int l1]) (b := 125) (st := []) (dx9 := 4) (mc := 0) (ms := 0) (host := "") 12 rfl t_X12_hasAge ⟨Or.inl q_12_350, i_X12_hasAge.1, i_X12_hasAge.2⟩ ⟨by decide, rfl⟩ (congrArg Prod.fst (J.1.1 125 (12, 92) rfl)) rfl (by decide) rfl rfl ⟨by decide, by decide⟩ (sf_X12_hasAge_r125d (jr_of rfl (by omega)) hD J rfl  (fun v86 h ev86 J S83 X84 X85 => ?_))
        have Sm := jSm_tr rfl Sm S83
        try rw [X84] at D
        try rw [← X85] at D
        show jX m_X12_addSpan 5 0 0 74 [(0, .ref 125), (1, .int l1), (2, .int l2), (3, .int l3)] [.int v86] _ 0 0 _
        refine x_ifeq (tgt := 142) rfl rfl (ti_eq rfl jk_0 ⟨fun c87 => ?_, fun c87 => ?_⟩)
        ·
          rw [if_pos (by omega)] at D
          exact jX.sub (jsb_c rfl (jsb_c rfl (jsb_c rfl jsb_n))) (ct_X12_addSpan_r125d_142 hD hQ  l2 l3 h (jr_of rfl (by omega)) (jr_of rfl (by omega)) J Sm D)
        ·
          rw [if_neg (by omega)] at D
          refine x_iloadn (x := l3) rfl rfl ?_
          refine x_sipush (v := 366) rfl ks_366 ?_
          refine z_idiv rfl rfl jk_366 (by omega) (by omega) (fun v88 ev88 => ?_)
          refine x_aloadn (x := 125) rfl rfl ?_
          refine x_iloadn (x := l1) rfl rfl ?_
          refine x_iconst (v := 3) rfl ki_3 ?_
          refine z_idiv rfl rfl jk_3 (by omega) (by omega) (fun v89 ev89 => ?_)
          refine x_inv (N := m_X12_numberOf) (As := [.int v89]) (b := 125) (st := [.int v88]) (dx9 := 4) (mc := 0) (ms := 0) (host := "") 12 rfl t_X12_numberOf ⟨Or.inl q_12_296, i_X12_numberOf.1, i_X12_numberOf.2⟩ ⟨by decide, rfl⟩ (congrArg Prod.fst (J.1.1 125 (12, 92) rfl)) rfl (by decide) rfl rfl ⟨by decide, by decide⟩ (jC.of rfl k_X12_numberOf rfl ?_)
          show jX m_X12_numberOf 4 0 0 0 [(0, .ref 125), (1, .int v89)] [] _ 0 0 _
          refine x_aloadn (x := 125) rfl rfl ?_
          refine z_getR (N := 92) (b := 126) 12 2 rfl f_12_8 rfl J rfl 16002 ⟨rfl, rfl⟩ rfl ?_
          refine x_aloadn (x := 125) rfl rfl ?_
          refine x_iloadn (x := v89) rfl rfl ?_
          refine x_inv (N := m_X12_at) (As := [.int v89]) (b := 125) (st := [.ref 126]) (dx9 := 3) (mc := 0) (ms := 0) (host := "") 12 rfl t_X12_at ⟨Or.inl q_12_254, i_X12_at.1, i_X12_at.2⟩ ⟨by decide, rfl⟩ (congrArg Prod.fst (J.1.1 125 (12, 92) rfl)) rfl (by decide) rfl rfl ⟨by decide, by decide⟩ (jC.of rfl k_X12_at rfl ?_)
          show jX m_X12_at 3 0 0 0 [(0, .ref 125), (1, .int v89)] [] _ 0 0 _
          refine x_bipush (v := 20) rfl kb_20 ?_
          refine x_bipush (v := 90) rfl kb_90 ?_
          refine x_iloadn (x := v89) rfl rfl ?_
          refine z_imul rfl jk_90 rfl (by omega) (fun v90 ev90 => ?_)
          refine z_iadd rfl jk_20 rfl (by omega) (fun v91 ev91 => ?_)
          refine x_iret rfl rfl ?_
          show jX m_X12_numberOf 4 0 0 9 [(0, .ref 125), (1, .int v89)] [.int v91, .ref 126] _ 0 0 _
          refine x_iconst (v := 4) rfl ki_4 ?_
          refine z_iadd rfl rfl jk_4 (by omega) (fun v92 ev92 => ?_)
          refine z_iald0 (N := 50660) rfl J rfl rfl (by omega) (fun v93 qv93 => ?_)
          have ev93 := jfull v93
          try rw [vrd (jmb_w w79 (jmb_w w82 (jmb_c S83 qv93 rfl) rfl) rfl) (show ((20 + (90 * (l1.toInt / 3))) + 4) = v92.toInt from by omega)] at D
          refine x_iret rfl rfl ?_
          show jX m_X12_addSpan 5 0 0 89 [(0, .ref 125), (1, .int l1), (2, .int l2), (3, .int l3)] [.int v93, .int v88] _ 0 0 _
          refine z_isubW rfl rfl rfl (fun v94 ev94 => ?_)
          have fv94 := jfull v94
          try rw [show (l3.toInt / 366) = v88.toInt from by omega] at D
          try rw [← ev94] at D
          refine x_istore (lsx9 := [(4, .int v94), (0, .ref 125), (1, .int l1), (2, .int l2), (3, .int l3)]) rfl rfl rfl ?_
          refine x_aloadn (x := 125) rfl rfl ?_
          refine x_aloadn (x := 125) rfl rfl ?_
          refine z_getI (N := 92) 12 32 rfl f_12_412 rfl J rfl sg_125_32_33_1_0_1 (fun v95 qv95 ev95 => ?_)
          try rw [vrf (jmb_w w79 (jmb_w w82 (jmb_c S83 qv95 rfl) rfl) rfl)] at D
          refine x_iload (x := v94) rfl rfl ?_
          refine x_aloadn (x := 125) rfl rfl ?_
          refine z_getI (N := 92) 12 27 rfl f_12_69 rfl J rfl sg_125_27_28_1_0_1 (fun v96 qv96 ev96 => ?_)
          try rw [vrf (jmb_w w79 (jmb_w w82 (jmb_c S83 qv96 rfl) rfl) rfl)] at D
          refine z_isubW rfl rfl rfl (fun v97 ev97 => ?_)
          have fv97 := jfull v97
          try rw [← ev97] at D
          refine x_sipush (v := 366) rfl ks_366 ?_
          refine z_imulW rfl rfl jk_366 (fun v98 ev98 => ?_)
          have fv98 := jfull v98
          try rw [← ev98] at D
          refine x_inst (N := m_X12_more) (As := [.int v95, .int v98]) (st := [.ref 125]) (dx9 := 4) (mc := 0) (ms := 0) (host := "") rfl t_X12_more ⟨Or.inl q_12_431, s_X12_more⟩ rfl (by decide) rfl rfl ⟨by decide, by decide⟩ (jC.of rfl k_X12_more rfl ?_)
          show jX m_X12_more 4 0 0 0 [(0, .int v95), (1, .int v98)] [] _ 0 0 _
          refine x_iloadn (x := v95) rfl rfl ?_
          refine x_iloadn (x := v98) rfl rfl ?_
          refine x_icle (tgt := 9) rfl rfl (ti_le rfl rfl ⟨fun c99 => ?_, fun c99 => ?_⟩)
          ·
            rw [if_pos (by omega)] at D
            refine x_iloadn (x := v98) rfl rfl ?_
            refine x_iret rfl rfl ?_
            show jX m_X12_addSpan 5 0 0 111 [(4, .int v94), (0, .ref 125), (1, .int l1), (2, .int l2), (3, .int l3)] [.int v98, .ref 125] _ 0 0 _
            refine z_putI (N := 92) (w := v98.toInt) 12 32 rfl f_12_412 rfl (jfin_no TX12 RX12 92 rfl rfl) hD J Sm rfl rfl rfl (pw_125_32 (by omega)) rfl (fun h w100 J Sm => ?_)
            rw [vwf w100 (show v98.toInt = v98.toInt from by omega)] at D
            refine x_aloadn (x := 125) rfl rfl ?_
            refine x_aloadn (x := 125) rfl rfl ?_
            refine z_getI (N := 92) 12 33 rfl f_12_415 rfl J rfl sg_125_33_34_1_0_1 (fun v101 qv101 ev101 => ?_)
            try rw [vrf (jmb_w w79 (jmb_w w82 (jmb_c S83 (jmb_w w100 qv101 rfl) rfl) rfl) rfl)] at D
            refine x_iload (x := v94) rfl rfl ?_
            refine x_aloadn (x := 125) rfl rfl ?_
            refine z_getM (N := 92) (v := v96) 12 27 rfl f_12_69 rfl J rfl (jmo w100 rfl qv96) ?_
            refine z_iaddW rfl rfl rfl (fun v102 ev102 => ?_)
            have fv102 := jfull v102
            try rw [← ev102] at D
            refine x_sipush (v := 366) rfl ks_366 ?_
            refine z_imulW rfl rfl jk_366 (fun v103 ev103 => ?_)
            have fv103 := jfull v103
            try rw [← ev103] at D
            refine x_sipush (v := 366) rfl ks_366 ?_
            refine z_iaddW rfl rfl jk_366 (fun v104 ev104 => ?_)
            have fv104 := jfull v104
            try rw [← ev104] at D
            refine x_iconst (v := 1) rfl ki_1 ?_
            refine z_isubW rfl rfl jk_1 (fun v105 ev105 => ?_)
            have fv105 := jfull v105
            try rw [← ev105] at D
            refine x_inst (N := m_X12_less) (As := [.int v101, .int v105]) (st := [.ref 125]) (dx9 := 4) (mc := 0) (ms := 0) (host := "") rfl t_X12_less ⟨Or.inl q_12_428, s_X12_less⟩ rfl (by decide) rfl rfl ⟨by decide, by decide⟩ (jC.of rfl k_X12_less rfl ?_)
            show jX m_X12_less 4 0 0 0 [(0, .int v101), (1, .int v105)] [] _ 0 0 _
            refine x_iloadn (x := v101) rfl rfl ?_
            refine x_iloadn (x := v105) rfl rfl ?_
            refine x_icge (tgt := 9) rfl rfl (ti_ge rfl rfl ⟨fun c106 => ?_, fun c106 => ?_⟩)
            ·
              rw [if_pos (by omega)] at D
              refine x_iloadn (x := v105) rfl rfl ?_
              refine x_iret rfl rfl ?_
              show jX m_X12_addSpan 5 0 0 139 [(4, .int v94), (0, .ref 125), (1, .int l1), (2, .int l2), (3, .int l3)] [.int v105, .ref 125] _ 0 0 _
              refine z_putI (N := 92) (w := v105.toInt) 12 33 rfl f_12_415 rfl (jfin_no TX12 RX12 92 rfl rfl) hD J Sm rfl rfl rfl (pw_125_33 (by omega)) rfl (fun h w107 J Sm => ?_)
              rw [vwf w107 (show v105.toInt = v105.toInt from by omega)] at D
              exact jX.sub (jsb_c rfl (jsb_c rfl (jsb_c rfl jsb_n))) (ct_X12_addSpan_r125d_142 hD hQ  l2 l3 h (jr_of rfl (by omega)) (jr_of rfl (by omega)) J Sm D)
            ·
              rw [if_neg (by omega)] at D
              refine x_iloadn (x := v101) rfl rfl ?_
              refine x_goto (tgt := 10) rfl rfl ?_
              refine x_iret rfl rfl ?_
              show jX m_X12_addSpan 5 0 0 139 [(4, .int v94), (0, .ref 125), (1, .int l1), (2, .int l2), (3, .int l3)] [.int v101, .ref 125] _ 0 0 _
              refine z_putI (N := 92) (w := v101.toInt) 12 33 rfl f_12_415 rfl (jfin_no TX12 RX12 92 rfl rfl) hD J Sm rfl rfl rfl (pw_125_33 (by omega)) rfl (fun h w108 J Sm => ?_)
              rw [vwf w108 (show v101.toInt = v101.toInt from by omega)] at D
              exact jX.sub (jsb_c rfl (jsb_c rfl (jsb_c rfl jsb_n))) (ct_X12_addSpan_r125d_142 hD hQ  l2 l3 h (jr_of rfl (by omega)) (jr_of rfl (by omega)) J Sm D)
          ·
            rw [if_neg (by omega)] at D
            refine x_iloadn (x := v95) rfl rfl ?_
            refine x_goto (tgt := 10) rfl rfl ?_
            refine x_iret rfl rfl ?_
            show jX m_X12_addSpan 5 0 0 111 [(4, .int v94), (0, .ref 125), (1, .int l1), (2, .int l2), (3, .int l3)] [.int v95, .ref 125] _ 0 0 _
            refine z_putI (N := 92) (w := v95.toInt) 12 32 rfl f_12_412 rfl (jfin_no TX12 RX12 92 rfl rfl) hD J Sm rfl rfl rfl (pw_125_32 (by omega)) rfl (fun h w109 J Sm => ?_)
            rw [vwf w109 (show v95.toInt = v95.toInt from by omega)] at D
            refine x_aloadn (x := 125) rfl rfl ?_
            refine x_aloadn (x := 125) rfl rfl ?_
            refine z_getI (N := 92) 12 33 rfl f_12_415 rfl J rfl sg_125_33_34_1_0_1 (fun v110 qv110 ev110 => ?_)
            try rw [vrf (jmb_w w79 (jmb_w w82 (jmb_c S83 (jmb_w w109 qv110 rfl) rfl) rfl) rfl)] at D
            refine x_iload (x := v94) rfl rfl ?_
            refine x_aloadn (x := 125) rfl rfl ?_
            refine z_getM (N := 92) (v := v96) 12 27 rfl f_12_69 rfl J rfl (jmo w109 rfl qv96) ?_
            refine z_iaddW rfl rfl rfl (fun v111 ev111 => ?_)
            have fv111 := jfull v111
            try rw [← ev111] at D
            refine x_sipush (v := 366) rfl ks_366 ?_
            refine z_imulW rfl rfl jk_366 (fun v112 ev112 => ?_)
            have fv112 := jfull v112
            try rw [← ev112] at D
            refine x_sipush (v := 366) rfl ks_366 ?_
            refine z_iaddW rfl rfl jk_366 (fun v113 ev113 => ?_)
            have fv113 := jfull v113
            try rw [← ev113] at D
            refine x_iconst (v := 1) rfl ki_1 ?_
            refine z_isubW rfl rfl jk_1 (fun v114 ev114 => ?_)
            have fv114 := jfull v114
            try rw [← ev114] at D
            refine x_inst (N := m_X12_less) (As := [.int v110, .int v114]) (st := [.ref 125]) (dx9 := 4) (mc := 0) (ms := 0) (host := "") rfl t_X12_less ⟨Or.inl q_12_428, s_X12_less⟩ rfl (by decide) rfl rfl ⟨by decide, by decide⟩ (jC.of rfl k_X12_less rfl ?_)
            show jX m_X12_less 4 0 0 0 [(0, .int v110), (1, .int v114)] [] _ 0 0 _
            refine x_iloadn (x := v110) rfl rfl ?_
            refine x_iloadn (x := v114) rfl rfl ?_
            refine x_icge (tgt := 9) rfl rfl (ti_ge rfl rfl ⟨fun c115 => ?_, fun c115 => ?_⟩)
            ·
              rw [if_pos (by omega)] at D
              refine x_iloadn (x := v114) rfl rfl ?_
              refine x_iret rfl rfl ?_
              show jX m_X12_addSpan 5 0 0 139 [(4, .int v94), (0, .ref 125), (1, .int l1), (2, .int l2), (3, .int l3)] [.int v114, .ref 125] _ 0 0 _
              refine z_putI (N := 92) (w := v114.toInt) 12 33 rfl f_12_415 rfl (jfin_no TX12 RX12 92 rfl rfl) hD J Sm rfl rfl rfl (pw_125_33 (by omega)) rfl (fun h w116 J Sm => ?_)
              rw [vwf w116 (show v114.toInt = v114.toInt from by omega)] at D
              exact jX.sub (jsb_c rfl (jsb_c rfl (jsb_c rfl jsb_n))) (ct_X12_addSpan_r125d_142 hD hQ  l2 l3 h (jr_of rfl (by omega)) (jr_of rfl (by omega)) J Sm D)
            ·
              rw [if_neg (by omega)] at D
              refine x_iloadn (x := v110) rfl rfl ?_
              refine x_goto (tgt := 10) rfl rfl ?_
              refine x_iret rfl rfl ?_
              show jX m_X12_addSpan 5 0 0 139 [(4, .int v94), (0, .ref 125), (1, .int l1), (2, .int l2), (3, .int l3)] [.int v110, .ref 125] _ 0 0 _
              refine z_putI (N := 92) (w := v110.toInt) 12 33 rfl f_12_415 rfl (jfin_no TX12 RX12 92 rfl rfl) hD J Sm rfl rfl rfl (pw_125_33 (by omega)) rfl (fun h w117 J Sm => ?_)
              rw [vwf w117 (show v110.toInt = v110.toInt from by omega)] at D
              exact jX.sub (jsb_c rfl (jsb_c rfl (jsb_c rfl jsb_n))) (ct_X12_addSpan_r125d_142 hD hQ  l2 l3 h (jr_of rfl (by omega)) (jr_of rfl (by omega)) J Sm D)
      ·
        rw [if_neg (by omega)] at D
        refine x_iloadn (x := v80) rfl rfl ?_
        refine x_goto (tgt := 10) rfl rfl ?_
        refine x_iret rfl rfl ?_
        show jX m_X12_addSpan 5 0 0 66 [(0, .ref 125), (1, .int l1), (2, .int l2), (3, .int l3)] [.int v80, .ref 125] _ 0 0 _
        refine z_putI (N := 92) (w := v80.toInt) 12 35 rfl f_12_421 rfl (jfin_no TX12 RX12 92 rfl rfl) hD J Sm rfl rfl rfl (pw_125_35 (by omega)) rfl (fun h w118 J Sm => ?_)
        rw [vwf w118 (show v80.toInt = v80.toInt from by omega)] at D
        refine x_aloadn (x := 125) rfl rfl ?_
        refine x_iloadn (x := l1) rfl rfl ?_
        refine x_inv (N := m_X12_hasAge) (As := [.int l1]) (b := 125) (st := []) (dx9 := 4) (mc := 0) (ms := 0) (host := "") 12 rfl t_X12_hasAge ⟨Or.inl q_12_350, i_X12_hasAge.1, i_X12_hasAge.2⟩ ⟨by decide, rfl⟩ (congrArg Prod.fst (J.1.1 125 (12, 92) rfl)) rfl (by decide) rfl rfl ⟨by decide, by decide⟩ (sf_X12_hasAge_r125d (jr_of rfl (by omega)) hD J rfl  (fun v122 h ev122 J S119 X120 X121 => ?_))
        have Sm := jSm_tr rfl Sm S119
        try rw [X120] at D
        try rw [← X121] at D
        show jX m_X12_addSpan 5 0 0 74 [(0, .ref 125), (1, .int l1), (2, .int l2), (3, .int l3)] [.int v122] _ 0 0 _
        refine x_ifeq (tgt := 142) rfl rfl (ti_eq rfl jk_0 ⟨fun c123 => ?_, fun c123 => ?_⟩)
        ·
          rw [if_pos (by omega)] at D
          exact jX.sub (jsb_c rfl (jsb_c rfl (jsb_c rfl jsb_n))) (ct_X12_addSpan_r125d_142 hD hQ  l2 l3 h (jr_of rfl (by omega)) (jr_of rfl (by omega)) J Sm D)
        ·
          rw [if_neg (by omega)] at D
          refine x_iloadn (x := l3) rfl rfl ?_
          refine x_sipush (v := 366) rfl ks_366 ?_
          refine z_idiv rfl rfl jk_366 (by omega) (by omega) (fun v124 ev124 => ?_)
          refine x_aloadn (x := 125) rfl rfl ?_
          refine x_iloadn (x := l1) rfl rfl ?_
          refine x_iconst (v := 3) rfl ki_3 ?_
          refine z_idiv rfl rfl jk_3 (by omega) (by omega) (fun v125 ev125 => ?_)
          refine x_inv (N := m_X12_numberOf) (As := [.int v125]) (b := 125) (st := [.int v124]) (dx9 := 4) (mc := 0) (ms := 0) (host := "") 12 rfl t_X12_numberOf ⟨Or.inl q_12_296, i_X12_numberOf.1, i_X12_numberOf.2⟩ ⟨by decide, rfl⟩ (congrArg Prod.fst (J.1.1 125 (12, 92) rfl)) rfl (by decide) rfl rfl ⟨by decide, by decide⟩ (jC.of rfl k_X12_numberOf rfl ?_)
          show jX m_X12_numberOf 4 0 0 0 [(0, .ref 125), (1, .int v125)] [] _ 0 0 _
          refine x_aloadn (x := 125) rfl rfl ?_
          refine z_getR (N := 92) (b := 126) 12 2 rfl f_12_8 rfl J rfl 16002 ⟨rfl, rfl⟩ rfl ?_
          refine x_aloadn (x := 125) rfl rfl ?_
          refine x_iloadn (x := v125) rfl rfl ?_
          refine x_inv (N := m_X12_at) (As := [.int v125]) (b := 125) (st := [.ref 126]) (dx9 := 3) (mc := 0) (ms := 0) (host := "") 12 rfl t_X12_at ⟨Or.inl q_12_254, i_X12_at.1, i_X12_at.2⟩ ⟨by decide, rfl⟩ (congrArg Prod.fst (J.1.1 125 (12, 92) rfl)) rfl (by decide) rfl rfl ⟨by decide, by decide⟩ (jC.of rfl k_X12_at rfl ?_)
          show jX m_X12_at 3 0 0 0 [(0, .ref 125), (1, .int v125)] [] _ 0 0 _
          refine x_bipush (v := 20) rfl kb_20 ?_
          refine x_bipush (v := 90) rfl kb_90 ?_
          refine x_iloadn (x := v125) rfl rfl ?_
          refine z_imul rfl jk_90 rfl (by omega) (fun v126 ev126 => ?_)
          refine z_iadd rfl jk_20 rfl (by omega) (fun v127 ev127 => ?_)
          refine x_iret rfl rfl ?_
          show jX m_X12_numberOf 4 0 0 9 [(0, .ref 125), (1, .int v125)] [.int v127, .ref 126] _ 0 0 _
          refine x_iconst (v := 4) rfl ki_4 ?_
          refine z_iadd rfl rfl jk_4 (by omega) (fun v128 ev128 => ?_)
          refine z_iald0 (N := 50660) rfl J rfl rfl (by omega) (fun v129 qv129 => ?_)
          have ev129 := jfull v129
          try rw [vrd (jmb_w w79 (jmb_w w118 (jmb_c S119 qv129 rfl) rfl) rfl) (show ((20 + (90 * (l1.toInt / 3))) + 4) = v128.toInt from by omega)] at D
          refine x_iret rfl rfl ?_
          show jX m_X12_addSpan 5 0 0 89 [(0, .ref 125), (1, .int l1), (2, .int l2), (3, .int l3)] [.int v129, .int v124] _ 0 0 _
          refine z_isubW rfl rfl rfl (fun v130 ev130 => ?_)
          have fv130 := jfull v130
          try rw [show (l3.toInt / 366) = v124.toInt from by omega] at D
          try rw [← ev130] at D
          refine x_istore (lsx9 := [(4, .int v130), (0, .ref 125), (1, .int l1), (2, .int l2), (3, .int l3)]) rfl rfl rfl ?_
          refine x_aloadn (x := 125) rfl rfl ?_
          refine x_aloadn (x := 125) rfl rfl ?_
          refine z_getI (N := 92) 12 32 rfl f_12_412 rfl J rfl sg_125_32_33_1_0_1 (fun v131 qv131 ev131 => ?_)
          try rw [vrf (jmb_w w79 (jmb_w w118 (jmb_c S119 qv131 rfl) rfl) rfl)] at D
          refine x_iload (x := v130) rfl rfl ?_
          refine x_aloadn (x := 125) rfl rfl ?_
          refine z_getI (N := 92) 12 27 rfl f_12_69 rfl J rfl sg_125_27_28_1_0_1 (fun v132 qv132 ev132 => ?_)
          try rw [vrf (jmb_w w79 (jmb_w w118 (jmb_c S119 qv132 rfl) rfl) rfl)] at D
          refine z_isubW rfl rfl rfl (fun v133 ev133 => ?_)
          have fv133 := jfull v133
          try rw [← ev133] at D
          refine x_sipush (v := 366) rfl ks_366 ?_
          refine z_imulW rfl rfl jk_366 (fun v134 ev134 => ?_)
          have fv134 := jfull v134
          try rw [← ev134] at D
          refine x_inst (N := m_X12_more) (As := [.int v131, .int v134]) (st := [.ref 125]) (dx9 := 4) (mc := 0) (ms := 0) (host := "") rfl t_X12_more ⟨Or.inl q_12_431, s_X12_more⟩ rfl (by decide) rfl rfl ⟨by decide, by decide⟩ (jC.of rfl k_X12_more rfl ?_)
          show jX m_X12_more 4 0 0 0 [(0, .int v131), (1, .int v134)] [] _ 0 0 _
          refine x_iloadn (x := v131) rfl rfl ?_
          refine x_iloadn (x := v134) rfl rfl ?_
          refine x_icle (tgt := 9) rfl rfl (ti_le rfl rfl ⟨fun c135 => ?_, fun c135 => ?_⟩)
          ·
            rw [if_pos (by omega)] at D
            refine x_iloadn (x := v134) rfl rfl ?_
            refine x_iret rfl rfl ?_
            show jX m_X12_addSpan 5 0 0 111 [(4, .int v130), (0, .ref 125), (1, .int l1), (2, .int l2), (3, .int l3)] [.int v134, .ref 125] _ 0 0 _
            refine z_putI (N := 92) (w := v134.toInt) 12 32 rfl f_12_412 rfl (jfin_no TX12 RX12 92 rfl rfl) hD J Sm rfl rfl rfl (pw_125_32 (by omega)) rfl (fun h w136 J Sm => ?_)
            rw [vwf w136 (show v134.toInt = v134.toInt from by omega)] at D
            refine x_aloadn (x := 125) rfl rfl ?_
            refine x_aloadn (x := 125) rfl rfl ?_
            refine z_getI (N := 92) 12 33 rfl f_12_415 rfl J rfl sg_125_33_34_1_0_1 (fun v137 qv137 ev137 => ?_)
            try rw [vrf (jmb_w w79 (jmb_w w118 (jmb_c S119 (jmb_w w136 qv137 rfl) rfl) rfl) rfl)] at D
            refine x_iload (x := v130) rfl rfl ?_
            refine x_aloadn (x := 125) rfl rfl ?_
            refine z_getM (N := 92) (v := v132) 12 27 rfl f_12_69 rfl J rfl (jmo w136 rfl qv132) ?_
            refine z_iaddW rfl rfl rfl (fun v138 ev138 => ?_)
            have fv138 := jfull v138
            try rw [← ev138] at D
            refine x_sipush (v := 366) rfl ks_366 ?_
            refine z_imulW rfl rfl jk_366 (fun v139 ev139 => ?_)
            have fv139 := jfull v139
            try rw [← ev139] at D
            refine x_sipush (v := 366) rfl ks_366 ?_
            refine z_iaddW rfl rfl jk_366 (fun v140 ev140 => ?_)
            have fv140 := jfull v140
            try rw [← ev140] at D
            refine x_iconst (v := 1) rfl ki_1 ?_
            refine z_isubW rfl rfl jk_1 (fun v141 ev141 => ?_)
            have fv141 := jfull v141
            try rw [← ev141] at D
            refine x_inst (N := m_X12_less) (As := [.int v137, .int v141]) (st := [.ref 125]) (dx9 := 4) (mc := 0) (ms := 0) (host := "") rfl t_X12_less ⟨Or.inl q_12_428, s_X12_less⟩ rfl (by decide) rfl rfl ⟨by decide, by decide⟩ (jC.of rfl k_X12_less rfl ?_)
            show jX m_X12_less 4 0 0 0 [(0, .int v137), (1, .int v141)] [] _ 0 0 _
            refine x_iloadn (x := v137) rfl rfl ?_
            refine x_iloadn (x := v141) rfl rfl ?_
            refine x_icge (tgt := 9) rfl rfl (ti_ge rfl rfl ⟨fun c142 => ?_, fun c142 => ?_⟩)
            ·
              rw [if_pos (by omega)] at D
              refine x_iloadn (x := v141) rfl rfl ?_
              refine x_iret rfl rfl ?_
              show jX m_X12_addSpan 5 0 0 139 [(4, .int v130), (0, .ref 125), (1, .int l1), (2, .int l2), (3, .int l3)] [.int v141, .ref 125] _ 0 0 _
              refine z_putI (N := 92) (w := v141.toInt) 12 33 rfl f_12_415 rfl (jfin_no TX12 RX12 92 rfl rfl) hD J Sm rfl rfl rfl (pw_125_33 (by omega)) rfl (fun h w143 J Sm => ?_)
              rw [vwf w143 (show v141.toInt = v141.toInt from by omega)] at D
              exact jX.sub (jsb_c rfl (jsb_c rfl (jsb_c rfl jsb_n))) (ct_X12_addSpan_r125d_142 hD hQ  l2 l3 h (jr_of rfl (by omega)) (jr_of rfl (by omega)) J Sm D)
            ·
              rw [if_neg (by omega)] at D
              refine x_iloadn (x := v137) rfl rfl ?_
              refine x_goto (tgt := 10) rfl rfl ?_
              refine x_iret rfl rfl ?_
              show jX m_X12_addSpan 5 0 0 139 [(4, .int v130), (0, .ref 125), (1, .int l1), (2, .int l2), (3, .int l3)] [.int v137, .ref 125] _ 0 0 _
              refine z_putI (N := 92) (w := v137.toInt) 12 33 rfl f_12_415 rfl (jfin_no TX12 RX12 92 rfl rfl) hD J Sm rfl rfl rfl (pw_125_33 (by omega)) rfl (fun h w144 J Sm => ?_)
              rw [vwf w144 (show v137.toInt = v137.toInt from by omega)] at D
              exact jX.sub (jsb_c rfl (jsb_c rfl (jsb_c rfl jsb_n))) (ct_X12_addSpan_r125d_142 hD hQ  l2 l3 h (jr_of rfl (by omega)) (jr_of rfl (by omega)) J Sm D)
          ·
            rw [if_neg (by omega)] at D
            refine x_iloadn (x := v131) rfl rfl ?_
            refine x_goto (tgt := 10) rfl rfl ?_
            refine x_iret rfl rfl ?_
            show jX m_X12_addSpan 5 0 0 111 [(4, .int v130), (0, .ref 125), (1, .int l1), (2, .int l2), (3, .int l3)] [.int v131, .ref 125] _ 0 0 _
            refine z_putI (N := 92) (w := v131.toInt) 12 32 rfl f_12_412 rfl (jfin_no TX12 RX12 92 rfl rfl) hD J Sm rfl rfl rfl (pw_125_32 (by omega)) rfl (fun h w145 J Sm => ?_)
            rw [vwf w145 (show v131.toInt = v131.toInt from by omega)] at D
            refine x_aloadn (x := 125) rfl rfl ?_
            refine x_aloadn (x := 125) rfl rfl ?_
            refine z_getI (N := 92) 12 33 rfl f_12_415 rfl J rfl sg_125_33_34_1_0_1 (fun v146 qv146 ev146 => ?_)
            try rw [vrf (jmb_w w79 (jmb_w w118 (jmb_c S119 (jmb_w w145 qv146 rfl) rfl) rfl) rfl)] at D
            refine x_iload (x := v130) rfl rfl ?_
            refine x_aloadn (x := 125) rfl rfl ?_
            refine z_getM (N := 92) (v := v132) 12 27 rfl f_12_69 rfl J rfl (jmo w145 rfl qv132) ?_
            refine z_iaddW rfl rfl rfl (fun v147 ev147 => ?_)
            have fv147 := jfull v147
            try rw [← ev147] at D
            refine x_sipush (v := 366) rfl ks_366 ?_
            refine z_imulW rfl rfl jk_366 (fun v148 ev148 => ?_)
            have fv148 := jfull v148
            try rw [← ev148] at D
            refine x_sipush (v := 366) rfl ks_366 ?_
            refine z_iaddW rfl rfl jk_366 (fun v149 ev149 => ?_)
            have fv149 := jfull v149
            try rw [← ev149] at D
            refine x_iconst (v := 1) rfl ki_1 ?_
            refine z_isubW rfl rfl jk_1 (fun v150 ev150 => ?_)
            have fv150 := jfull v150
            try rw [← ev150] at D
            refine x_inst (N := m_X12_less) (As := [.int v146, .int v150]) (st := [.ref 125]) (dx9 := 4) (mc := 0) (ms := 0) (host := "") rfl t_X12_less ⟨Or.inl q_12_428, s_X12_less⟩ rfl (by decide) rfl rfl ⟨by decide, by decide⟩ (jC.of rfl k_X12_less rfl ?_)
            show jX m_X12_less 4 0 0 0 [(0, .int v146), (1, .int v150)] [] _ 0 0 _
            refine x_iloadn (x := v146) rfl rfl ?_
            refine x_iloadn (x := v150) rfl rfl ?_
            refine x_icge (tgt := 9) rfl rfl (ti_ge rfl rfl ⟨fun c151 => ?_, fun c151 => ?_⟩)
            ·
              rw [if_pos (by omega)] at D
              refine x_iloadn (x := v150) rfl rfl ?_
              refine x_iret rfl rfl ?_
              show jX m_X12_addSpan 5 0 0 139 [(4, .int v130), (0, .ref 125), (1, .int l1), (2, .int l2), (3, .int l3)] [.int v150, .ref 125] _ 0 0 _
              refine z_putI (N := 92) (w := v150.toInt) 12 33 rfl f_12_415 rfl (jfin_no TX12 RX12 92 rfl rfl) hD J Sm rfl rfl rfl (pw_125_33 (by omega)) rfl (fun h w152 J Sm => ?_)
              rw [vwf w152 (show v150.toInt = v150.toInt from by omega)] at D
              exact jX.sub (jsb_c rfl (jsb_c rfl (jsb_c rfl jsb_n))) (ct_X12_addSpan_r125d_142 hD hQ  l2 l3 h (jr_of rfl (by omega)) (jr_of rfl (by omega)) J Sm D)
            ·
              rw [if_neg (by omega)] at D
              refine x_iloadn (x := v146) rfl rfl ?_
              refine x_goto (tgt := 10) rfl rfl ?_
              refine x_iret rfl rfl ?_
              show jX m_X12_addSpan 5 0 0 139 [(4, .int v130), (0, .ref 125), (1, .int l1), (2, .int l2), (3, .int l3)] [.int v146, .ref 125] _ 0 0 _
              refine z_putI (N := 92) (w := v146.toInt) 12 33 rfl f_12_415 rfl (jfin_no TX12 RX12 92 rfl rfl) hD J Sm rfl rfl rfl (pw_125_33 (by omega)) rfl (fun h w153 J Sm => ?_)
              rw [vwf w153 (show v146.toInt = v146.toInt from by omega)] at D
              exact jX.sub (jsb_c rfl (jsb_c rfl (jsb_c rfl jsb_n))) (ct_X12_addSpan_r125d_142 hD hQ  l2 l3 h (jr_of rfl (by omega)) (jr_of rfl (by omega)) J Sm D)
set_option maxRecDepth 100000 in
set_option maxHeartbeats 4000000 in
theorem sf_X12_addSpan_r125d {Dy : jH → Prop} {h : jH} {Q : Option Value → jH → Prop} {dr : jW} {a1 : Int32} (y1 : 0 ≤ a1.toInt ∧ a1.toInt ≤ 599) (hD : jDk Dy) (J : jJ jSgM Dy h) (D : d_X12_addSpan_r125d a1.toInt (vw h) = dr) (hQ : ∀ hx9, jJ jSgM Dy hx9 → jSm fp_X12_addSpan_r125d h hx9 → dr = vw hx9 → Q none hx9) : jC m_X12_addSpan 5 0 0 [.ref 125, .int a1] h Q := by
  refine jC.of rfl k_X12_addSpan rfl ?_
  have Sm := jSm_rf fp_X12_addSpan_r125d h
  show jX m_X12_addSpan 5 0 0 0 [(0, .ref 125), (1, .int a1)] [] _ 0 0 _
  unfold d_X12_addSpan_r125d at D
  refine x_aloadn (x := 125) rfl rfl ?_
  refine x_iloadn (x := a1) rfl rfl ?_
  refine x_inv (N := m_X12_partOf) (As := [.int a1]) (b := 125) (st := []) (dx9 := 3) (mc := 0) (ms := 0) (host := "") 12 rfl t_X12_partOf ⟨Or.inl q_12_338, i_X12_partOf.1, i_X12_partOf.2⟩ ⟨by decide, rfl⟩ (congrArg Prod.fst (J.1.1 125 (12, 92) rfl)) rfl (by decide) rfl rfl ⟨by decide, by decide⟩ (sf_X12_partOf_r125d (jr_of rfl (by omega)) hD J rfl  (fun v4 h ev4 J S1 X2 X3 => ?_))
  have Sm := jSm_tr rfl Sm S1
  try rw [X2] at D
  try rw [← X3] at D
  show jX m_X12_addSpan 5 0 0 5 [(0, .ref 125), (1, .int a1)] [.int v4] _ 0 0 _
  refine x_istoren (lsx9 := [(2, .int v4), (0, .ref 125), (1, .int a1)]) rfl rfl rfl ?_
  refine x_aloadn (x := 125) rfl rfl ?_
  refine x_iloadn (x := a1) rfl rfl ?_
  refine x_inv (N := m_X12_dayAt) (As := [.int a1]) (b := 125) (st := []) (dx9 := 3) (mc := 0) (ms := 0) (host := "") 12 rfl t_X12_dayAt ⟨Or.inl q_12_347, i_X12_dayAt.1, i_X12_dayAt.2⟩ ⟨by decide, rfl⟩ (congrArg Prod.fst (J.1.1 125 (12, 92) rfl)) rfl (by decide) rfl rfl ⟨by decide, by decide⟩ (sf_X12_dayAt_r125d (jr_of rfl (by omega)) hD J rfl  (fun v8 h ev8 J S5 X6 X7 => ?_))
  have Sm := jSm_tr rfl Sm S5
  try rw [X6] at D
  try rw [← X7] at D
  show jX m_X12_addSpan 5 0 0 11 [(2, .int v4), (0, .ref 125), (1, .int a1)] [.int v8] _ 0 0 _
  refine x_istoren (lsx9 := [(3, .int v8), (2, .int v4), (0, .ref 125), (1, .int a1)]) rfl rfl rfl ?_
  refine x_iloadn (x := v4) rfl rfl ?_
  refine x_ifne (tgt := 40) rfl rfl (ti_ne rfl jk_0 ⟨fun c9 => ?_, fun c9 => ?_⟩)
  ·
    rw [if_neg (by omega)] at D
    exact jX.sub (jsb_c rfl (jsb_c rfl (jsb_c rfl (jsb_c rfl jsb_n)))) (ct_X12_addSpan_r125d_40 hD hQ  a1 v4 v8 h (jr_of rfl (by omega)) (jr_of rfl (by omega)) (jr_of rfl (by omega)) J Sm D)
  ·
    rw [if_pos (by omega)] at D
    refine x_aloadn (x := 125) rfl rfl ?_
    refine x_aloadn (x := 125) rfl rfl ?_
    refine z_getI (N := 92) 12 32 rfl f_12_412 rfl J rfl sg_125_32_33_1_0_1 (fun v10 qv10 ev10 => ?_)
    try rw [vrf qv10] at D
    refine x_iloadn (x := v8) rfl rfl ?_
    refine x_inst (N := m_X12_more) (As := [.int v10, .int v8]) (st := [.ref 125]) (dx9 := 4) (mc := 0) (ms := 0) (host := "") rfl t_X12_more ⟨Or.inl q_12_431, s_X12_more⟩ rfl (by decide) rfl rfl ⟨by decide, by decide⟩ (jC.of rfl k_X12_more rfl ?_)
    show jX m_X12_more 4 0 0 0 [(0, .int v10), (1, .int v8)] [] _ 0 0 _
    refine x_iloadn (x := v10) rfl rfl ?_
    refine x_iloadn (x := v8) rfl rfl ?_
    refine x_icle (tgt := 9) rfl rfl (ti_le rfl rfl ⟨fun c11 => ?_, fun c11 => ?_⟩)
    ·
      rw [if_pos (by omega)] at D
      refine x_iloadn (x := v8) rfl rfl ?_
      refine x_iret rfl rfl ?_
      show jX m_X12_addSpan 5 0 0 25 [(3, .int v8), (2, .int v4), (0, .ref 125), (1, .int a1)] [.int v8, .ref 125] _ 0 0 _
      refine z_putI (N := 92) (w := v8.toInt) 12 32 rfl f_12_412 rfl (jfin_no TX12 RX12 92 rfl rfl) hD J Sm rfl rfl rfl (pw_125_32 (by omega)) rfl (fun h w12 J Sm => ?_)
      rw [vwf w12 (show v8.toInt = v8.toInt from by omega)] at D
      refine x_aloadn (x := 125) rfl rfl ?_
      refine x_aloadn (x := 125) rfl rfl ?_
      refine z_getI (N := 92) 12 33 rfl f_12_415 rfl J rfl sg_125_33_34_1_0_1 (fun v13 qv13 ev13 => ?_)
      try rw [vrf (jmb_w w12 qv13 rfl)] at D
      refine x_iloadn (x := v8) rfl rfl ?_
      refine x_inst (N := m_X12_less) (As := [.int v13, .int v8]) (st := [.ref 125]) (dx9 := 4) (mc := 0) (ms := 0) (host := "") rfl t_X12_less ⟨Or.inl q_12_428, s_X12_less⟩ rfl (by decide) rfl rfl ⟨by decide, by decide⟩ (jC.of rfl k_X12_less rfl ?_)
      show jX m_X12_less 4 0 0 0 [(0, .int v13), (1, .int v8)] [] _ 0 0 _
      refine x_iloadn (x := v13) rfl rfl ?_
      refine x_iloadn (x := v8) rfl rfl ?_
      refine x_icge (tgt := 9) rfl rfl (ti_ge rfl rfl ⟨fun c14 => ?_, fun c14 => ?_⟩)
      ·
        rw [if_pos (by omega)] at D
        refine x_iloadn (x := v8) rfl rfl ?_
        refine x_iret rfl rfl ?_
        show jX m_X12_addSpan 5 0 0 37 [(3, .int v8), (2, .int v4), (0, .ref 125), (1, .int a1)] [.int v8, .ref 125] _ 0 0 _
        refine z_putI (N := 92) (w := v8.toInt) 12 33 rfl f_12_415 rfl (jfin_no TX12 RX12 92 rfl rfl) hD J Sm rfl rfl rfl (pw_125_33 (by omega)) rfl (fun h w15 J Sm => ?_)
        rw [vwf w15 (show v8.toInt = v8.toInt from by omega)] at D
        exact jX.sub (jsb_c rfl (jsb_c rfl (jsb_c rfl (jsb_c rfl jsb_n)))) (ct_X12_addSpan_r125d_40 hD hQ  a1 v4 v8 h (jr_of rfl (by omega)) (jr_of rfl (by omega)) (jr_of rfl (by omega)) J Sm D)
      ·
        rw [if_neg (by omega)] at D
        refine x_iloadn (x := v13) rfl rfl ?_
        refine x_goto (tgt := 10) rfl rfl ?_
        refine x_iret rfl rfl ?_
        show jX m_X12_addSpan 5 0 0 37 [(3, .int v8), (2, .int v4), (0, .ref 125), (1, .int a1)] [.int v13, .ref 125] _ 0 0 _
        refine z_putI (N := 92) (w := v13.toInt) 12 33 rfl f_12_415 rfl (jfin_no TX12 RX12 92 rfl rfl) hD J Sm rfl rfl rfl (pw_125_33 (by omega)) rfl (fun h w16 J Sm => ?_)
        rw [vwf w16 (show v13.toInt = v13.toInt from by omega)] at D
        exact jX.sub (jsb_c rfl (jsb_c rfl (jsb_c rfl (jsb_c rfl jsb_n)))) (ct_X12_addSpan_r125d_40 hD hQ  a1 v4 v8 h (jr_of rfl (by omega)) (jr_of rfl (by omega)) (jr_of rfl (by omega)) J Sm D)
    ·
      rw [if_neg (by omega)] at D
      refine x_iloadn (x := v10) rfl rfl ?_
      refine x_goto (tgt := 10) rfl rfl ?_
      refine x_iret rfl rfl ?_
      show jX m_X12_addSpan 5 0 0 25 [(3, .int v8), (2, .int v4), (0, .ref 125), (1, .int a1)] [.int v10, .ref 125] _ 0 0 _
      refine z_putI (N := 92) (w := v10.toInt) 12 32 rfl f_12_412 rfl (jfin_no TX12 RX12 92 rfl rfl) hD J Sm rfl rfl rfl (pw_125_32 (by omega)) rfl (fun h w17 J Sm => ?_)
      rw [vwf w17 (show v10.toInt = v10.toInt from by omega)] at D
      refine x_aloadn (x := 125) rfl rfl ?_
      refine x_aloadn (x := 125) rfl rfl ?_
      refine z_getI (N := 92) 12 33 rfl f_12_415 rfl J rfl sg_125_33_34_1_0_1 (fun v18 qv18 ev18 => ?_)
      try rw [vrf (jmb_w w17 qv18 rfl)] at D
      refine x_iloadn (x := v8) rfl rfl ?_
      refine x_inst (N := m_X12_less) (As := [.int v18, .int v8]) (st := [.ref 125]) (dx9 := 4) (mc := 0) (ms := 0) (host := "") rfl t_X12_less ⟨Or.inl q_12_428, s_X12_less⟩ rfl (by decide) rfl rfl ⟨by decide, by decide⟩ (jC.of rfl k_X12_less rfl ?_)
      show jX m_X12_less 4 0 0 0 [(0, .int v18), (1, .int v8)] [] _ 0 0 _
      refine x_iloadn (x := v18) rfl rfl ?_
      refine x_iloadn (x := v8) rfl rfl ?_
      refine x_icge (tgt := 9) rfl rfl (ti_ge rfl rfl ⟨fun c19 => ?_, fun c19 => ?_⟩)
      ·
        rw [if_pos (by omega)] at D
        refine x_iloadn (x := v8) rfl rfl ?_
        refine x_iret rfl rfl ?_
        show jX m_X12_addSpan 5 0 0 37 [(3, .int v8), (2, .int v4), (0, .ref 125), (1, .int a1)] [.int v8, .ref 125] _ 0 0 _
        refine z_putI (N := 92) (w := v8.toInt) 12 33 rfl f_12_415 rfl (jfin_no TX12 RX12 92 rfl rfl) hD J Sm rfl rfl rfl (pw_125_33 (by omega)) rfl (fun h w20 J Sm => ?_)
        rw [vwf w20 (show v8.toInt = v8.toInt from by omega)] at D
        exact jX.sub (jsb_c rfl (jsb_c rfl (jsb_c rfl (jsb_c rfl jsb_n)))) (ct_X12_addSpan_r125d_40 hD hQ  a1 v4 v8 h (jr_of rfl (by omega)) (jr_of rfl (by omega)) (jr_of rfl (by omega)) J Sm D)
      ·
        rw [if_neg (by omega)] at D
        refine x_iloadn (x := v18) rfl rfl ?_
        refine x_goto (tgt := 10) rfl rfl ?_
        refine x_iret rfl rfl ?_
        show jX m_X12_addSpan 5 0 0 37 [(3, .int v8), (2, .int v4), (0, .ref 125), (1, .int a1)] [.int v18, .ref 125] _ 0 0 _
        refine z_putI (N := 92) (w := v18.toInt) 12 33 rfl f_12_415 rfl (jfin_no TX12 RX12 92 rfl rfl) hD J Sm rfl rfl rfl (pw_125_33 (by omega)) rfl (fun h w21 J Sm => ?_)
        rw [vwf w21 (show v18.toInt = v18.toInt from by omega)] at D
        exact jX.sub (jsb_c rfl (jsb_c rfl (jsb_c rfl (jsb_c rfl jsb_n)))) (ct_X12_addSpan_r125d_40 hD hQ  a1 v4 v8 h (jr_of rfl (by omega)) (jr_of rfl (by omega)) (jr_of rfl (by omega)) J Sm D)
def fp_X12_findSpan_r125d : jFp := [(125, 32, 33), (125, 33, 34), (125, 34, 35), (125, 35, 36)]
set_option maxRecDepth 100000 in
set_option maxHeartbeats 4000000 in
theorem ct_X12_findSpan_r125d_53 {Dy : jH → Prop} {h0 : jH} {Q : Option Value → jH → Prop} {dr : jW} {K26 : Int → Int → jW → jW} {R26 : Int} (hD : jDk Dy) (hQ : ∀ hx9, jJ jSgM Dy hx9 → jSm fp_X12_findSpan_r125d h0 hx9 → dr = vw hx9 → Q none hx9) (k26 : ∀ (l1 : Int32) (l2 : Int32) (h : jH), 600 - l2.toInt < R26 → (-1) ≤ l1.toInt ∧ l1.toInt ≤ 599 → 0 ≤ l2.toInt ∧ l2.toInt ≤ 600 → jJ jSgM Dy h → jSm fp_X12_findSpan_r125d h0 h → K26 l1.toInt l2.toInt (vw h) = dr → jX m_X12_findSpan 6 0 0 26 [(0, .ref 125), (1, .int l1), (2, .int l2)] [] h 0 0 Q) : ∀ (l1 : Int32) (l2 : Int32) (h : jH), (-1) ≤ l1.toInt ∧ l1.toInt ≤ 599 → 0 ≤ l2.toInt ∧ l2.toInt ≤ 599 → 600 - l2.toInt ≤ R26 → jJ jSgM Dy h → jSm fp_X12_findSpan_r125d h0 h → d_X12_findSpan_r125d_53 K26  l1.toInt l2.toInt (vw h) = dr → jX m_X12_findSpan 6 0 0 53 [(0, .ref 125), (1, .int l1), (2, .int l2)] [] h 0 0 Q := by
  intro l1 l2 h y0 y1  m26 J Sm D
  unfold d_X12_findSpan_r125d_53 at D
  refine z_iinc (x := l2) (lsx9 := fun v1 => [(2, .int v1), (0, .ref 125), (1, .int l1)]) rfl rfl rfl jko_1 (by omega) rfl (fun _ => rfl) (fun v1 ev1 => ?_)
  refine x_goto (tgt := 26) rfl rfl ?_
  try rw [show (l2.toInt + 1) = v1.toInt from by omega] at D
  exact jX.sub (jsb_c rfl (jsb_c rfl (jsb_c rfl jsb_n))) (k26 l1 v1 h (by omega) (jr_of rfl (by omega)) (jr_of rfl (by omega)) J Sm D)
set_option maxRecDepth 100000 in
set_option maxHeartbeats 4000000 in
theorem ct_X12_findSpan_r125d_26 {Dy : jH → Prop} {h0 : jH} {Q : Option Value → jH → Prop} {dr : jW} (hD : jDk Dy) (hQ : ∀ hx9, jJ jSgM Dy hx9 → jSm fp_X12_findSpan_r125d h0 hx9 → dr = vw hx9 → Q none hx9) : ∀ r : Nat, ∀ (l1 : Int32) (l2 : Int32) (h : jH), 600 - l2.toInt < (r : Int) → (-1) ≤ l1.toInt ∧ l1.toInt ≤ 599 → 0 ≤ l2.toInt ∧ l2.toInt ≤ 600 → jJ jSgM Dy h → jSm fp_X12_findSpan_r125d h0 h → d_X12_findSpan_r125d_26 r l1.toInt l2.toInt (vw h) = dr → jX m_X12_findSpan 6 0 0 26 [(0, .ref 125), (1, .int l1), (2, .int l2)] [] h 0 0 Q := by
  intro r
  induction r with
  | zero =>
    intro l1 l2 h hm y0 y1   J Sm D
    exfalso
    omega
  | succ r ih =>
    intro l1 l2 h hm y0 y1   J Sm D
    rw [d_X12_findSpan_r125d_26.eq_2] at D
    refine x_iloadn (x := l2) rfl rfl ?_
    refine x_iconst (v := 3) rfl ki_3 ?_
    refine x_aloadn (x := 125) rfl rfl ?_
    refine z_getR (N := 92) (b := 126) 12 2 rfl f_12_8 rfl J rfl 16002 ⟨rfl, rfl⟩ rfl ?_
    refine x_iconst (v := 0) rfl ki_0 ?_
    refine z_iald (N := 50660) rfl J rfl sg_126_0_1_1_0_1 jk_0 (by omega) (fun v1 qv1 ev1 => ?_)
    try rw [vrn (n := 0) (by decide) qv1] at D
    refine z_imul rfl jk_3 rfl (by omega) (fun v2 ev2 => ?_)
    refine x_icge (tgt := 59) rfl rfl (ti_ge rfl rfl ⟨fun c3 => ?_, fun c3 => ?_⟩)
    ·
      rw [if_pos (by omega)] at D
      refine x_aloadn (x := 125) rfl rfl ?_
      refine x_aloadn (x := 125) rfl rfl ?_
      refine z_getI (N := 92) 12 35 rfl f_12_421 rfl J rfl sg_125_35_36_1_0_1 (fun v4 qv4 ev4 => ?_)
      try rw [vrf qv4] at D
      refine x_aloadn (x := 125) rfl rfl ?_
      refine z_getI (N := 92) 12 33 rfl f_12_415 rfl J rfl sg_125_33_34_1_0_1 (fun v5 qv5 ev5 => ?_)
      try rw [vrf qv5] at D
      refine x_ldcw (v := 40260) rfl z_12_427 ?_
      refine z_iadd rfl rfl jk_40260 (by omega) (fun v6 ev6 => ?_)
      refine x_inst (N := m_X12_less) (As := [.int v4, .int v6]) (st := [.ref 125]) (dx9 := 5) (mc := 0) (ms := 0) (host := "") rfl t_X12_less ⟨Or.inl q_12_428, s_X12_less⟩ rfl (by decide) rfl rfl ⟨by decide, by decide⟩ (jC.of rfl k_X12_less rfl ?_)
      show jX m_X12_less 5 0 0 0 [(0, .int v4), (1, .int v6)] [] _ 0 0 _
      refine x_iloadn (x := v4) rfl rfl ?_
      refine x_iloadn (x := v6) rfl rfl ?_
      refine x_icge (tgt := 9) rfl rfl (ti_ge rfl rfl ⟨fun c7 => ?_, fun c7 => ?_⟩)
      ·
        rw [if_pos (by omega)] at D
        refine x_iloadn (x := v6) rfl rfl ?_
        refine x_iret rfl rfl ?_
        show jX m_X12_findSpan 6 0 0 75 [(0, .ref 125), (1, .int l1), (2, .int l2)] [.int v6, .ref 125] _ 0 0 _
        refine z_putI (N := 92) (w := v6.toInt) 12 35 rfl f_12_421 rfl (jfin_no TX12 RX12 92 rfl rfl) hD J Sm rfl rfl rfl (pw_125_35 (by omega)) rfl (fun h w8 J Sm => ?_)
        rw [vwf w8 (show (v5.toInt + 40260) = v6.toInt from by omega)] at D
        refine x_aloadn (x := 125) rfl rfl ?_
        refine x_aloadn (x := 125) rfl rfl ?_
        refine z_getI (N := 92) 12 32 rfl f_12_412 rfl J rfl sg_125_32_33_1_0_1 (fun v9 qv9 ev9 => ?_)
        try rw [vrf (jmb_w w8 qv9 rfl)] at D
        refine x_aloadn (x := 125) rfl rfl ?_
        refine z_getI (N := 92) 12 34 rfl f_12_418 rfl J rfl sg_125_34_35_1_0_1 (fun v10 qv10 ev10 => ?_)
        try rw [vrf (jmb_w w8 qv10 rfl)] at D
        refine x_ldcw (v := 40260) rfl z_12_427 ?_
        refine z_isub rfl rfl jk_40260 (by omega) (fun v11 ev11 => ?_)
        refine x_inst (N := m_X12_more) (As := [.int v9, .int v11]) (st := [.ref 125]) (dx9 := 5) (mc := 0) (ms := 0) (host := "") rfl t_X12_more ⟨Or.inl q_12_431, s_X12_more⟩ rfl (by decide) rfl rfl ⟨by decide, by decide⟩ (jC.of rfl k_X12_more rfl ?_)
        show jX m_X12_more 5 0 0 0 [(0, .int v9), (1, .int v11)] [] _ 0 0 _
        refine x_iloadn (x := v9) rfl rfl ?_
        refine x_iloadn (x := v11) rfl rfl ?_
        refine x_icle (tgt := 9) rfl rfl (ti_le rfl rfl ⟨fun c12 => ?_, fun c12 => ?_⟩)
        ·
          rw [if_pos (by omega)] at D
          refine x_iloadn (x := v11) rfl rfl ?_
          refine x_iret rfl rfl ?_
          show jX m_X12_findSpan 6 0 0 94 [(0, .ref 125), (1, .int l1), (2, .int l2)] [.int v11, .ref 125] _ 0 0 _
          refine z_putI (N := 92) (w := v11.toInt) 12 32 rfl f_12_412 rfl (jfin_no TX12 RX12 92 rfl rfl) hD J Sm rfl rfl rfl (pw_125_32 (by omega)) rfl (fun h w13 J Sm => ?_)
          rw [vwf w13 (show (v10.toInt - 40260) = v11.toInt from by omega)] at D
          refine x_aloadn (x := 125) rfl rfl ?_
          refine x_aloadn (x := 125) rfl rfl ?_
          refine z_getM (N := 92) (v := v11) 12 32 rfl f_12_412 rfl J rfl (jmw w13) ?_
          refine x_inst (N := m_X12_within) (As := [.int v11]) (st := [.ref 125]) (dx9 := 5) (mc := 0) (ms := 0) (host := "") rfl t_X12_within ⟨Or.inl q_12_434, s_X12_within⟩ rfl (by decide) rfl rfl ⟨by decide, by decide⟩ (jC.of rfl k_X12_within rfl ?_)
          show jX m_X12_within 5 0 0 0 [(0, .int v11)] [] _ 0 0 _
          refine x_iloadn (x := v11) rfl rfl ?_
          refine x_ifge (tgt := 8) rfl rfl (ti_ge rfl jk_0 (br_t (by omega) ?_))
          refine x_iloadn (x := v11) rfl rfl ?_
          refine x_ldcw (v := 146399) rfl z_12_392 ?_
          refine x_icle (tgt := 21) rfl rfl (ti_le rfl jk_146399 (br_t (by omega) ?_))
          refine x_iloadn (x := v11) rfl rfl ?_
          refine x_iret rfl rfl ?_
          show jX m_X12_findSpan 6 0 0 105 [(0, .ref 125), (1, .int l1), (2, .int l2)] [.int v11, .ref 125] _ 0 0 _
          refine z_putI (N := 92) (w := v11.toInt) 12 32 rfl f_12_412 rfl (jfin_no TX12 RX12 92 rfl rfl) hD J Sm rfl rfl rfl (pw_125_32 (by omega)) rfl (fun h w14 J Sm => ?_)
          rw [vwf w14 (show (v10.toInt - 40260) = v11.toInt from by omega)] at D
          refine x_aloadn (x := 125) rfl rfl ?_
          refine x_aloadn (x := 125) rfl rfl ?_
          refine z_getM (N := 92) (v := v5) 12 33 rfl f_12_415 rfl J rfl (jmo w14 rfl (jmo w13 rfl (jmo w8 rfl qv5))) ?_
          refine x_inst (N := m_X12_within) (As := [.int v5]) (st := [.ref 125]) (dx9 := 5) (mc := 0) (ms := 0) (host := "") rfl t_X12_within ⟨Or.inl q_12_434, s_X12_within⟩ rfl (by decide) rfl rfl ⟨by decide, by decide⟩ (jC.of rfl k_X12_within rfl ?_)
          show jX m_X12_within 5 0 0 0 [(0, .int v5)] [] _ 0 0 _
          refine x_iloadn (x := v5) rfl rfl ?_
          refine x_ifge (tgt := 8) rfl rfl (ti_ge rfl jk_0 ⟨fun c15 => ?_, fun c15 => ?_⟩)
          ·
            rw [if_pos (by omega)] at D
            refine x_iloadn (x := v5) rfl rfl ?_
            refine x_ldcw (v := 146399) rfl z_12_392 ?_
            refine x_icle (tgt := 21) rfl rfl (ti_le rfl jk_146399 (br_t (by omega) ?_))
            refine x_iloadn (x := v5) rfl rfl ?_
            refine x_iret rfl rfl ?_
            show jX m_X12_findSpan 6 0 0 116 [(0, .ref 125), (1, .int l1), (2, .int l2)] [.int v5, .ref 125] _ 0 0 _
            refine z_putI (N := 92) (w := v5.toInt) 12 33 rfl f_12_415 rfl (jfin_no TX12 RX12 92 rfl rfl) hD J Sm rfl rfl rfl (pw_125_33 (by omega)) rfl (fun h w16 J Sm => ?_)
            rw [vwf w16 (show v5.toInt = v5.toInt from by omega)] at D
            refine x_aloadn (x := 125) rfl rfl ?_
            refine x_aloadn (x := 125) rfl rfl ?_
            refine z_getM (N := 92) (v := v10) 12 34 rfl f_12_418 rfl J rfl (jmo w16 rfl (jmo w14 rfl (jmo w13 rfl qv10))) ?_
            refine x_inst (N := m_X12_within) (As := [.int v10]) (st := [.ref 125]) (dx9 := 5) (mc := 0) (ms := 0) (host := "") rfl t_X12_within ⟨Or.inl q_12_434, s_X12_within⟩ rfl (by decide) rfl rfl ⟨by decide, by decide⟩ (jC.of rfl k_X12_within rfl ?_)
            show jX m_X12_within 5 0 0 0 [(0, .int v10)] [] _ 0 0 _
            refine x_iloadn (x := v10) rfl rfl ?_
            refine x_ifge (tgt := 8) rfl rfl (ti_ge rfl jk_0 (br_t (by omega) ?_))
            refine x_iloadn (x := v10) rfl rfl ?_
            refine x_ldcw (v := 146399) rfl z_12_392 ?_
            refine x_icle (tgt := 21) rfl rfl (ti_le rfl jk_146399 (br_t (by omega) ?_))
            refine x_iloadn (x := v10) rfl rfl ?_
            refine x_iret rfl rfl ?_
            show jX m_X12_findSpan 6 0 0 127 [(0, .ref 125), (1, .int l1), (2, .int l2)] [.int v10, .ref 125] _ 0 0 _
            refine z_putI (N := 92) (w := v10.toInt) 12 34 rfl f_12_418 rfl (jfin_no TX12 RX12 92 rfl rfl) hD J Sm rfl rfl rfl (pw_125_34 (by omega)) rfl (fun h w17 J Sm => ?_)
            rw [vwf w17 (show v10.toInt = v10.toInt from by omega)] at D
            refine x_aloadn (x := 125) rfl rfl ?_
            refine x_aloadn (x := 125) rfl rfl ?_
            refine z_getM (N := 92) (v := v6) 12 35 rfl f_12_421 rfl J rfl (jmo w17 rfl (jmo w16 rfl (jmo w14 rfl (jmo w13 rfl (jmw w8))))) ?_
            refine x_inst (N := m_X12_within) (As := [.int v6]) (st := [.ref 125]) (dx9 := 5) (mc := 0) (ms := 0) (host := "") rfl t_X12_within ⟨Or.inl q_12_434, s_X12_within⟩ rfl (by decide) rfl rfl ⟨by decide, by decide⟩ (jC.of rfl k_X12_within rfl ?_)
            show jX m_X12_within 5 0 0 0 [(0, .int v6)] [] _ 0 0 _
            refine x_iloadn (x := v6) rfl rfl ?_
            refine x_ifge (tgt := 8) rfl rfl (ti_ge rfl jk_0 (br_t (by omega) ?_))
            refine x_iloadn (x := v6) rfl rfl ?_
            refine x_ldcw (v := 146399) rfl z_12_392 ?_
            refine x_icle (tgt := 21) rfl rfl (ti_le rfl jk_146399 (br_t (by omega) ?_))
            refine x_iloadn (x := v6) rfl rfl ?_
            refine x_iret rfl rfl ?_
            show jX m_X12_findSpan 6 0 0 138 [(0, .ref 125), (1, .int l1), (2, .int l2)] [.int v6, .ref 125] _ 0 0 _
            refine z_putI (N := 92) (w := v6.toInt) 12 35 rfl f_12_421 rfl (jfin_no TX12 RX12 92 rfl rfl) hD J Sm rfl rfl rfl (pw_125_35 (by omega)) rfl (fun h w18 J Sm => ?_)
            rw [vwf w18 (show (v5.toInt + 40260) = v6.toInt from by omega)] at D
            refine x_vret rfl rfl ?_
            exact hQ _ J Sm D.symm
          ·
            rw [if_neg (by omega)] at D
            refine x_iconst (v := 0) rfl ki_0 ?_
            refine x_goto (tgt := 22) rfl rfl ?_
            refine x_iret rfl rfl ?_
            show jX m_X12_findSpan 6 0 0 116 [(0, .ref 125), (1, .int l1), (2, .int l2)] [.int 0, .ref 125] _ 0 0 _
            refine z_putI (N := 92) (w := 0) 12 33 rfl f_12_415 rfl (jfin_no TX12 RX12 92 rfl rfl) hD J Sm rfl rfl jk_0 (pw_125_33 (by omega)) rfl (fun h w19 J Sm => ?_)
            rw [vwf w19 (show 0 = (0 : Int32).toInt from by have := jk_0; omega)] at D
            refine x_aloadn (x := 125) rfl rfl ?_
            refine x_aloadn (x := 125) rfl rfl ?_
            refine z_getM (N := 92) (v := v10) 12 34 rfl f_12_418 rfl J rfl (jmo w19 rfl (jmo w14 rfl (jmo w13 rfl qv10))) ?_
            refine x_inst (N := m_X12_within) (As := [.int v10]) (st := [.ref 125]) (dx9 := 5) (mc := 0) (ms := 0) (host := "") rfl t_X12_within ⟨Or.inl q_12_434, s_X12_within⟩ rfl (by decide) rfl rfl ⟨by decide, by decide⟩ (jC.of rfl k_X12_within rfl ?_)
            show jX m_X12_within 5 0 0 0 [(0, .int v10)] [] _ 0 0 _
            refine x_iloadn (x := v10) rfl rfl ?_
            refine x_ifge (tgt := 8) rfl rfl (ti_ge rfl jk_0 (br_t (by omega) ?_))
            refine x_iloadn (x := v10) rfl rfl ?_
            refine x_ldcw (v := 146399) rfl z_12_392 ?_
            refine x_icle (tgt := 21) rfl rfl (ti_le rfl jk_146399 (br_t (by omega) ?_))
            refine x_iloadn (x := v10) rfl rfl ?_
            refine x_iret rfl rfl ?_
            show jX m_X12_findSpan 6 0 0 127 [(0, .ref 125), (1, .int l1), (2, .int l2)] [.int v10, .ref 125] _ 0 0 _
            refine z_putI (N := 92) (w := v10.toInt) 12 34 rfl f_12_418 rfl (jfin_no TX12 RX12 92 rfl rfl) hD J Sm rfl rfl rfl (pw_125_34 (by omega)) rfl (fun h w20 J Sm => ?_)
            rw [vwf w20 (show v10.toInt = v10.toInt from by omega)] at D
            refine x_aloadn (x := 125) rfl rfl ?_
            refine x_aloadn (x := 125) rfl rfl ?_
            refine z_getM (N := 92) (v := v6) 12 35 rfl f_12_421 rfl J rfl (jmo w20 rfl (jmo w19 rfl (jmo w14 rfl (jmo w13 rfl (jmw w8))))) ?_
            refine x_inst (N := m_X12_within) (As := [.int v6]) (st := [.ref 125]) (dx9 := 5) (mc := 0) (ms := 0) (host := "") rfl t_X12_within ⟨Or.inl q_12_434, s_X12_within⟩ rfl (by decide) rfl rfl ⟨by decide, by decide⟩ (jC.of rfl k_X12_within rfl ?_)
            show jX m_X12_within 5 0 0 0 [(0, .int v6)] [] _ 0 0 _
            refine x_iloadn (x := v6) rfl rfl ?_
            refine x_ifge (tgt := 8) rfl rfl (ti_ge rfl jk_0 ⟨fun c21 => ?_, fun c21 => ?_⟩)
            ·
              rw [if_pos (by omega)] at D
              refine x_iloadn (x := v6) rfl rfl ?_
              refine x_ldcw (v := 146399) rfl z_12_392 ?_
              refine x_icle (tgt := 21) rfl rfl (ti_le rfl jk_146399 (br_t (by omega) ?_))
              refine x_iloadn (x := v6) rfl rfl ?_
              refine x_iret rfl rfl ?_
              show jX m_X12_findSpan 6 0 0 138 [(0, .ref 125), (1, .int l1), (2, .int l2)] [.int v6, .ref 125] _ 0 0 _
              refine z_putI (N := 92) (w := v6.toInt) 12 35 rfl f_12_421 rfl (jfin_no TX12 RX12 92 rfl rfl) hD J Sm rfl rfl rfl (pw_125_35 (by omega)) rfl (fun h w22 J Sm => ?_)
              rw [vwf w22 (show (v5.toInt + 40260) = v6.toInt from by omega)] at D
              refine x_vret rfl rfl ?_
              exact hQ _ J Sm D.symm
            ·
              rw [if_neg (by omega)] at D
              refine x_iconst (v := 0) rfl ki_0 ?_
              refine x_goto (tgt := 22) rfl rfl ?_
              refine x_iret rfl rfl ?_
              show jX m_X12_findSpan 6 0 0 138 [(0, .ref 125), (1, .int l1), (2, .int l2)] [.int 0, .ref 125] _ 0 0 _
              refine z_putI (N := 92) (w := 0) 12 35 rfl f_12_421 rfl (jfin_no TX12 RX12 92 rfl rfl) hD J Sm rfl rfl jk_0 (pw_125_35 (by omega)) rfl (fun h w23 J Sm => ?_)
              rw [vwf w23 (show 0 = (0 : Int32).toInt from by have := jk_0; omega)] at D
              refine x_vret rfl rfl ?_
              exact hQ _ J Sm D.symm
        ·
          rw [if_neg (by omega)] at D
          refine x_iloadn (x := v9) rfl rfl ?_
          refine x_goto (tgt := 10) rfl rfl ?_
          refine x_iret rfl rfl ?_
          show jX m_X12_findSpan 6 0 0 94 [(0, .ref 125), (1, .int l1), (2, .int l2)] [.int v9, .ref 125] _ 0 0 _
          refine z_putI (N := 92) (w := v9.toInt) 12 32 rfl f_12_412 rfl (jfin_no TX12 RX12 92 rfl rfl) hD J Sm rfl rfl rfl (pw_125_32 (by omega)) rfl (fun h w24 J Sm => ?_)
          rw [vwf w24 (show v9.toInt = v9.toInt from by omega)] at D
          refine x_aloadn (x := 125) rfl rfl ?_
          refine x_aloadn (x := 125) rfl rfl ?_
          refine z_getM (N := 92) (v := v9) 12 32 rfl f_12_412 rfl J rfl (jmw w24) ?_
          refine x_inst (N := m_X12_within) (As := [.int v9]) (st := [.ref 125]) (dx9 := 5) (mc := 0) (ms := 0) (host := "") rfl t_X12_within ⟨Or.inl q_12_434, s_X12_within⟩ rfl (by decide) rfl rfl ⟨by decide, by decide⟩ (jC.of rfl k_X12_within rfl ?_)
          show jX m_X12_within 5 0 0 0 [(0, .int v9)] [] _ 0 0 _
          refine x_iloadn (x := v9) rfl rfl ?_
          refine x_ifge (tgt := 8) rfl rfl (ti_ge rfl jk_0 (br_t (by omega) ?_))
          refine x_iloadn (x := v9) rfl rfl ?_
          refine x_ldcw (v := 146399) rfl z_12_392 ?_
          refine x_icle (tgt := 21) rfl rfl (ti_le rfl jk_146399 ⟨fun c25 => ?_, fun c25 => ?_⟩)
          ·
            rw [if_pos (by omega)] at D
            refine x_iloadn (x := v9) rfl rfl ?_
            refine x_iret rfl rfl ?_
            show jX m_X12_findSpan 6 0 0 105 [(0, .ref 125), (1, .int l1), (2, .int l2)] [.int v9, .ref 125] _ 0 0 _
            refine z_putI (N := 92) (w := v9.toInt) 12 32 rfl f_12_412 rfl (jfin_no TX12 RX12 92 rfl rfl) hD J Sm rfl rfl rfl (pw_125_32 (by omega)) rfl (fun h w26 J Sm => ?_)
            rw [vwf w26 (show v9.toInt = v9.toInt from by omega)] at D
            refine x_aloadn (x := 125) rfl rfl ?_
            refine x_aloadn (x := 125) rfl rfl ?_
            refine z_getM (N := 92) (v := v5) 12 33 rfl f_12_415 rfl J rfl (jmo w26 rfl (jmo w24 rfl (jmo w8 rfl qv5))) ?_
            refine x_inst (N := m_X12_within) (As := [.int v5]) (st := [.ref 125]) (dx9 := 5) (mc := 0) (ms := 0) (host := "") rfl t_X12_within ⟨Or.inl q_12_434, s_X12_within⟩ rfl (by decide) rfl rfl ⟨by decide, by decide⟩ (jC.of rfl k_X12_within rfl ?_)
            show jX m_X12_within 5 0 0 0 [(0, .int v5)] [] _ 0 0 _
            refine x_iloadn (x := v5) rfl rfl ?_
            refine x_ifge (tgt := 8) rfl rfl (ti_ge rfl jk_0 ⟨fun c27 => ?_, fun c27 => ?_⟩)
            ·
              rw [if_pos (by omega)] at D
              refine x_iloadn (x := v5) rfl rfl ?_
              refine x_ldcw (v := 146399) rfl z_12_392 ?_
              refine x_icle (tgt := 21) rfl rfl (ti_le rfl jk_146399 (br_t (by omega) ?_))
              refine x_iloadn (x := v5) rfl rfl ?_
              refine x_iret rfl rfl ?_
              show jX m_X12_findSpan 6 0 0 116 [(0, .ref 125), (1, .int l1), (2, .int l2)] [.int v5, .ref 125] _ 0 0 _
              refine z_putI (N := 92) (w := v5.toInt) 12 33 rfl f_12_415 rfl (jfin_no TX12 RX12 92 rfl rfl) hD J Sm rfl rfl rfl (pw_125_33 (by omega)) rfl (fun h w28 J Sm => ?_)
              rw [vwf w28 (show v5.toInt = v5.toInt from by omega)] at D
              refine x_aloadn (x := 125) rfl rfl ?_
              refine x_aloadn (x := 125) rfl rfl ?_
              refine z_getM (N := 92) (v := v10) 12 34 rfl f_12_418 rfl J rfl (jmo w28 rfl (jmo w26 rfl (jmo w24 rfl qv10))) ?_
              refine x_inst (N := m_X12_within) (As := [.int v10]) (st := [.ref 125]) (dx9 := 5) (mc := 0) (ms := 0) (host := "") rfl t_X12_within ⟨Or.inl q_12_434, s_X12_within⟩ rfl (by decide) rfl rfl ⟨by decide, by decide⟩ (jC.of rfl k_X12_within rfl ?_)
              show jX m_X12_within 5 0 0 0 [(0, .int v10)] [] _ 0 0 _
              refine x_iloadn (x := v10) rfl rfl ?_
              refine x_ifge (tgt := 8) rfl rfl (ti_ge rfl jk_0 (br_t (by omega) ?_))
              refine x_iloadn (x := v10) rfl rfl ?_
              refine x_ldcw (v := 146399) rfl z_12_392 ?_
              refine x_icle (tgt := 21) rfl rfl (ti_le rfl jk_146399 (br_t (by omega) ?_))
              refine x_iloadn (x := v10) rfl rfl ?_
              refine x_iret rfl rfl ?_
              show jX m_X12_findSpan 6 0 0 127 [(0, .ref 125), (1, .int l1), (2, .int l2)] [.int v10, .ref 125] _ 0 0 _
              refine z_putI (N := 92) (w := v10.toInt) 12 34 rfl f_12_418 rfl (jfin_no TX12 RX12 92 rfl rfl) hD J Sm rfl rfl rfl (pw_125_34 (by omega)) rfl (fun h w29 J Sm => ?_)
              rw [vwf w29 (show v10.toInt = v10.toInt from by omega)] at D
              refine x_aloadn (x := 125) rfl rfl ?_
              refine x_aloadn (x := 125) rfl rfl ?_
              refine z_getM (N := 92) (v := v6) 12 35 rfl f_12_421 rfl J rfl (jmo w29 rfl (jmo w28 rfl (jmo w26 rfl (jmo w24 rfl (jmw w8))))) ?_
              refine x_inst (N := m_X12_within) (As := [.int v6]) (st := [.ref 125]) (dx9 := 5) (mc := 0) (ms := 0) (host := "") rfl t_X12_within ⟨Or.inl q_12_434, s_X12_within⟩ rfl (by decide) rfl rfl ⟨by decide, by decide⟩ (jC.of rfl k_X12_within rfl ?_)
              show jX m_X12_within 5 0 0 0 [(0, .int v6)] [] _ 0 0 _
              refine x_iloadn (x := v6) rfl rfl ?_
              refine x_ifge (tgt := 8) rfl rfl (ti_ge rfl jk_0 (br_t (by omega) ?_))
              refine x_iloadn (x := v6) rfl rfl ?_
              refine x_ldcw (v := 146399) rfl z_12_392 ?_
              refine x_icle (tgt := 21) rfl rfl (ti_le rfl jk_146399 (br_t (by omega) ?_))
              refine x_iloadn (x := v6) rfl rfl ?_
              refine x_iret rfl rfl ?_
              show jX m_X12_findSpan 6 0 0 138 [(0, .ref 125), (1, .int l1), (2, .int l2)] [.int v6, .ref 125] _ 0 0 _
              refine z_putI (N := 92) (w := v6.toInt) 12 35 rfl f_12_421 rfl (jfin_no TX12 RX12 92 rfl rfl) hD J Sm rfl rfl rfl (pw_125_35 (by omega)) rfl (fun h w30 J Sm => ?_)
              rw [vwf w30 (show (v5.toInt + 40260) = v6.toInt from by omega)] at D
              refine x_vret rfl rfl ?_
              exact hQ _ J Sm D.symm
            ·
              rw [if_neg (by omega)] at D
              refine x_iconst (v := 0) rfl ki_0 ?_
              refine x_goto (tgt := 22) rfl rfl ?_
              refine x_iret rfl rfl ?_
              show jX m_X12_findSpan 6 0 0 116 [(0, .ref 125), (1, .int l1), (2, .int l2)] [.int 0, .ref 125] _ 0 0 _
              refine z_putI (N := 92) (w := 0) 12 33 rfl f_12_415 rfl (jfin_no TX12 RX12 92 rfl rfl) hD J Sm rfl rfl jk_0 (pw_125_33 (by omega)) rfl (fun h w31 J Sm => ?_)
              rw [vwf w31 (show 0 = (0 : Int32).toInt from by have := jk_0; omega)] at D
              refine x_aloadn (x := 125) rfl rfl ?_
              refine x_aloadn (x := 125) rfl rfl ?_
              refine z_getM (N := 92) (v := v10) 12 34 rfl f_12_418 rfl J rfl (jmo w31 rfl (jmo w26 rfl (jmo w24 rfl qv10))) ?_
              refine x_inst (N := m_X12_within) (As := [.int v10]) (st := [.ref 125]) (dx9 := 5) (mc := 0) (ms := 0) (host := "") rfl t_X12_within ⟨Or.inl q_12_434, s_X12_within⟩ rfl (by decide) rfl rfl ⟨by decide, by decide⟩ (jC.of rfl k_X12_within rfl ?_)
              show jX m_X12_within 5 0 0 0 [(0, .int v10)] [] _ 0 0 _
              refine x_iloadn (x := v10) rfl rfl ?_
              refine x_ifge (tgt := 8) rfl rfl (ti_ge rfl jk_0 (br_t (by omega) ?_))
              refine x_iloadn (x := v10) rfl rfl ?_
              refine x_ldcw (v := 146399) rfl z_12_392 ?_
              refine x_icle (tgt := 21) rfl rfl (ti_le rfl jk_146399 (br_t (by omega) ?_))
              refine x_iloadn (x := v10) rfl rfl ?_
              refine x_iret rfl rfl ?_
              show jX m_X12_findSpan 6 0 0 127 [(0, .ref 125), (1, .int l1), (2, .int l2)] [.int v10, .ref 125] _ 0 0 _
              refine z_putI (N := 92) (w := v10.toInt) 12 34 rfl f_12_418 rfl (jfin_no TX12 RX12 92 rfl rfl) hD J Sm rfl rfl rfl (pw_125_34 (by omega)) rfl (fun h w32 J Sm => ?_)
              rw [vwf w32 (show v10.toInt = v10.toInt from by omega)] at D
              refine x_aloadn (x := 125) rfl rfl ?_
              refine x_aloadn (x := 125) rfl rfl ?_
              refine z_getM (N := 92) (v := v6) 12 35 rfl f_12_421 rfl J rfl (jmo w32 rfl (jmo w31 rfl (jmo w26 rfl (jmo w24 rfl (jmw w8))))) ?_
              refine x_inst (N := m_X12_within) (As := [.int v6]) (st := [.ref 125]) (dx9 := 5) (mc := 0) (ms := 0) (host := "") rfl t_X12_within ⟨Or.inl q_12_434, s_X12_within⟩ rfl (by decide) rfl rfl ⟨by decide, by decide⟩ (jC.of rfl k_X12_within rfl ?_)
              show jX m_X12_within 5 0 0 0 [(0, .int v6)] [] _ 0 0 _
              refine x_iloadn (x := v6) rfl rfl ?_
              refine x_ifge (tgt := 8) rfl rfl (ti_ge rfl jk_0 ⟨fun c33 => ?_, fun c33 => ?_⟩)
              ·
                rw [if_pos (by omega)] at D
                refine x_iloadn (x := v6) rfl rfl ?_
                refine x_ldcw (v := 146399) rfl z_12_392 ?_
                refine x_icle (tgt := 21) rfl rfl (ti_le rfl jk_146399 (br_t (by omega) ?_))
                refine x_iloadn (x := v6) rfl rfl ?_
                refine x_iret rfl rfl ?_
                show jX m_X12_findSpan 6 0 0 138 [(0, .ref 125), (1, .int l1), (2, .int l2)] [.int v6, .ref 125] _ 0 0 _
                refine z_putI (N := 92) (w := v6.toInt) 12 35 rfl f_12_421 rfl (jfin_no TX12 RX12 92 rfl rfl) hD J Sm rfl rfl rfl (pw_125_35 (by omega)) rfl (fun h w34 J Sm => ?_)
                rw [vwf w34 (show (v5.toInt + 40260) = v6.toInt from by omega)] at D
                refine x_vret rfl rfl ?_
                exact hQ _ J Sm D.symm
              ·
                rw [if_neg (by omega)] at D
                refine x_iconst (v := 0) rfl ki_0 ?_
                refine x_goto (tgt := 22) rfl rfl ?_
                refine x_iret rfl rfl ?_
                show jX m_X12_findSpan 6 0 0 138 [(0, .ref 125), (1, .int l1), (2, .int l2)] [.int 0, .ref 125] _ 0 0 _
                refine z_putI (N := 92) (w := 0) 12 35 rfl f_12_421 rfl (jfin_no TX12 RX12 92 rfl rfl) hD J Sm rfl rfl jk_0 (pw_125_35 (by omega)) rfl (fun h w35 J Sm => ?_)
                rw [vwf w35 (show 0 = (0 : Int32).toInt from by have := jk_0; omega)] at D
                refine x_vret rfl rfl ?_
                exact hQ _ J Sm D.symm
          ·
            rw [if_neg (by omega)] at D
            refine x_ldcw (v := 146399) rfl z_12_392 ?_
            refine x_goto (tgt := 22) rfl rfl ?_
            refine x_iret rfl rfl ?_
            show jX m_X12_findSpan 6 0 0 105 [(0, .ref 125), (1, .int l1), (2, .int l2)] [.int 146399, .ref 125] _ 0 0 _
            refine z_putI (N := 92) (w := 146399) 12 32 rfl f_12_412 rfl (jfin_no TX12 RX12 92 rfl rfl) hD J Sm rfl rfl jk_146399 (pw_125_32 (by omega)) rfl (fun h w36 J Sm => ?_)
            rw [vwf w36 (show 146399 = (146399 : Int32).toInt from by have := jk_146399; omega)] at D
            refine x_aloadn (x := 125) rfl rfl ?_
            refine x_aloadn (x := 125) rfl rfl ?_
            refine z_getM (N := 92) (v := v5) 12 33 rfl f_12_415 rfl J rfl (jmo w36 rfl (jmo w24 rfl (jmo w8 rfl qv5))) ?_
            refine x_inst (N := m_X12_within) (As := [.int v5]) (st := [.ref 125]) (dx9 := 5) (mc := 0) (ms := 0) (host := "") rfl t_X12_within ⟨Or.inl q_12_434, s_X12_within⟩ rfl (by decide) rfl rfl ⟨by decide, by decide⟩ (jC.of rfl k_X12_within rfl ?_)
            show jX m_X12_within 5 0 0 0 [(0, .int v5)] [] _ 0 0 _
            refine x_iloadn (x := v5) rfl rfl ?_
            refine x_ifge (tgt := 8) rfl rfl (ti_ge rfl jk_0 ⟨fun c37 => ?_, fun c37 => ?_⟩)
            ·
              rw [if_pos (by omega)] at D
              refine x_iloadn (x := v5) rfl rfl ?_
              refine x_ldcw (v := 146399) rfl z_12_392 ?_
              refine x_icle (tgt := 21) rfl rfl (ti_le rfl jk_146399 (br_t (by omega) ?_))
              refine x_iloadn (x := v5) rfl rfl ?_
              refine x_iret rfl rfl ?_
              show jX m_X12_findSpan 6 0 0 116 [(0, .ref 125), (1, .int l1), (2, .int l2)] [.int v5, .ref 125] _ 0 0 _
              refine z_putI (N := 92) (w := v5.toInt) 12 33 rfl f_12_415 rfl (jfin_no TX12 RX12 92 rfl rfl) hD J Sm rfl rfl rfl (pw_125_33 (by omega)) rfl (fun h w38 J Sm => ?_)
              rw [vwf w38 (show v5.toInt = v5.toInt from by omega)] at D
              refine x_aloadn (x := 125) rfl rfl ?_
              refine x_aloadn (x := 125) rfl rfl ?_
              refine z_getM (N := 92) (v := v10) 12 34 rfl f_12_418 rfl J rfl (jmo w38 rfl (jmo w36 rfl (jmo w24 rfl qv10))) ?_
              refine x_inst (N := m_X12_within) (As := [.int v10]) (st := [.ref 125]) (dx9 := 5) (mc := 0) (ms := 0) (host := "") rfl t_X12_within ⟨Or.inl q_12_434, s_X12_within⟩ rfl (by decide) rfl rfl ⟨by decide, by decide⟩ (jC.of rfl k_X12_within rfl ?_)
              show jX m_X12_within 5 0 0 0 [(0, .int v10)] [] _ 0 0 _
              refine x_iloadn (x := v10) rfl rfl ?_
              refine x_ifge (tgt := 8) rfl rfl (ti_ge rfl jk_0 (br_t (by omega) ?_))
              refine x_iloadn (x := v10) rfl rfl ?_
              refine x_ldcw (v := 146399) rfl z_12_392 ?_
              refine x_icle (tgt := 21) rfl rfl (ti_le rfl jk_146399 (br_t (by omega) ?_))
              refine x_iloadn (x := v10) rfl rfl ?_
              refine x_iret rfl rfl ?_
              show jX m_X12_findSpan 6 0 0 127 [(0, .ref 125), (1, .int l1), (2, .int l2)] [.int v10, .ref 125] _ 0 0 _
              refine z_putI (N := 92) (w := v10.toInt) 12 34 rfl f_12_418 rfl (jfin_no TX12 RX12 92 rfl rfl) hD J Sm rfl rfl rfl (pw_125_34 (by omega)) rfl (fun h w39 J Sm => ?_)
              rw [vwf w39 (show v10.toInt = v10.toInt from by omega)] at D
              refine x_aloadn (x := 125) rfl rfl ?_
              refine x_aloadn (x := 125) rfl rfl ?_
              refine z_getM (N := 92) (v := v6) 12 35 rfl f_12_421 rfl J rfl (jmo w39 rfl (jmo w38 rfl (jmo w36 rfl (jmo w24 rfl (jmw w8))))) ?_
              refine x_inst (N := m_X12_within) (As := [.int v6]) (st := [.ref 125]) (dx9 := 5) (mc := 0) (ms := 0) (host := "") rfl t_X12_within ⟨Or.inl q_12_434, s_X12_within⟩ rfl (by decide) rfl rfl ⟨by decide, by decide⟩ (jC.of rfl k_X12_within rfl ?_)
              show jX m_X12_within 5 0 0 0 [(0, .int v6)] [] _ 0 0 _
              refine x_iloadn (x := v6) rfl rfl ?_
              refine x_ifge (tgt := 8) rfl rfl (ti_ge rfl jk_0 (br_t (by omega) ?_))
              refine x_iloadn (x := v6) rfl rfl ?_
              refine x_ldcw (v := 146399) rfl z_12_392 ?_
              refine x_icle (tgt := 21) rfl rfl (ti_le rfl jk_146399 (br_t (by omega) ?_))
              refine x_iloadn (x := v6) rfl rfl ?_
              refine x_iret rfl rfl ?_
              show jX m_X12_findSpan 6 0 0 138 [(0, .ref 125), (1, .int l1), (2, .int l2)] [.int v6, .ref 125] _ 0 0 _
              refine z_putI (N := 92) (w := v6.toInt) 12 35 rfl f_12_421 rfl (jfin_no TX12 RX12 92 rfl rfl) hD J Sm rfl rfl rfl (pw_125_35 (by omega)) rfl (fun h w40 J Sm => ?_)
              rw [vwf w40 (show (v5.toInt + 40260) = v6.toInt from by omega)] at D
              refine x_vret rfl rfl ?_
              exact hQ _ J Sm D.symm
            ·
              rw [if_neg (by omega)] at D
              refine x_iconst (v := 0) rfl ki_0 ?_
              refine x_goto (tgt := 22) rfl rfl ?_
              refine x_iret rfl rfl ?_
              show jX m_X12_findSpan 6 0 0 116 [(0, .ref 125), (1, .int l1), (2, .int l2)] [.int 0, .ref 125] _ 0 0 _
              refine z_putI (N := 92) (w := 0) 12 33 rfl f_12_415 rfl (jfin_no TX12 RX12 92 rfl rfl) hD J Sm rfl rfl jk_0 (pw_125_33 (by omega)) rfl (fun h w41 J Sm => ?_)
              rw [vwf w41 (show 0 = (0 : Int32).toInt from by have := jk_0; omega)] at D
              refine x_aloadn (x := 125) rfl rfl ?_
              refine x_aloadn (x := 125) rfl rfl ?_
              refine z_getM (N := 92) (v := v10) 12 34 rfl f_12_418 rfl J rfl (jmo w41 rfl (jmo w36 rfl (jmo w24 rfl qv10))) ?_
              refine x_inst (N := m_X12_within) (As := [.int v10]) (st := [.ref 125]) (dx9 := 5) (mc := 0) (ms := 0) (host := "") rfl t_X12_within ⟨Or.inl q_12_434, s_X12_within⟩ rfl (by decide) rfl rfl ⟨by decide, by decide⟩ (jC.of rfl k_X12_within rfl ?_)
              show jX m_X12_within 5 0 0 0 [(0, .int v10)] [] _ 0 0 _
              refine x_iloadn (x := v10) rfl rfl ?_
              refine x_ifge (tgt := 8) rfl rfl (ti_ge rfl jk_0 (br_t (by omega) ?_))
              refine x_iloadn (x := v10) rfl rfl ?_
              refine x_ldcw (v := 146399) rfl z_12_392 ?_
              refine x_icle (tgt := 21) rfl rfl (ti_le rfl jk_146399 (br_t (by omega) ?_))
              refine x_iloadn (x := v10) rfl rfl ?_
              refine x_iret rfl rfl ?_
              show jX m_X12_findSpan 6 0 0 127 [(0, .ref 125), (1, .int l1), (2, .int l2)] [.int v10, .ref 125] _ 0 0 _
              refine z_putI (N := 92) (w := v10.toInt) 12 34 rfl f_12_418 rfl (jfin_no TX12 RX12 92 rfl rfl) hD J Sm rfl rfl rfl (pw_125_34 (by omega)) rfl (fun h w42 J Sm => ?_)
              rw [vwf w42 (show v10.toInt = v10.toInt from by omega)] at D
              refine x_aloadn (x := 125) rfl rfl ?_
              refine x_aloadn (x := 125) rfl rfl ?_
              refine z_getM (N := 92) (v := v6) 12 35 rfl f_12_421 rfl J rfl (jmo w42 rfl (jmo w41 rfl (jmo w36 rfl (jmo w24 rfl (jmw w8))))) ?_
              refine x_inst (N := m_X12_within) (As := [.int v6]) (st := [.ref 125]) (dx9 := 5) (mc := 0) (ms := 0) (host := "") rfl t_X12_within ⟨Or.inl q_12_434, s_X12_within⟩ rfl (by decide) rfl rfl ⟨by decide, by decide⟩ (jC.of rfl k_X12_within rfl ?_)
              show jX m_X12_within 5 0 0 0 [(0, .int v6)] [] _ 0 0 _
              refine x_iloadn (x := v6) rfl rfl ?_
              refine x_ifge (tgt := 8) rfl rfl (ti_ge rfl jk_0 ⟨fun c43 => ?_, fun c43 => ?_⟩)
              ·
                rw [if_pos (by omega)] at D
                refine x_iloadn (x := v6) rfl rfl ?_
                refine x_ldcw (v := 146399) rfl z_12_392 ?_
                refine x_icle (tgt := 21) rfl rfl (ti_le rfl jk_146399 (br_t (by omega) ?_))
                refine x_iloadn (x := v6) rfl rfl ?_
                refine x_iret rfl rfl ?_
                show jX m_X12_findSpan 6 0 0 138 [(0, .ref 125), (1, .int l1), (2, .int l2)] [.int v6, .ref 125] _ 0 0 _
                refine z_putI (N := 92) (w := v6.toInt) 12 35 rfl f_12_421 rfl (jfin_no TX12 RX12 92 rfl rfl) hD J Sm rfl rfl rfl (pw_125_35 (by omega)) rfl (fun h w44 J Sm => ?_)
                rw [vwf w44 (show (v5.toInt + 40260) = v6.toInt from by omega)] at D
                refine x_vret rfl rfl ?_
                exact hQ _ J Sm D.symm
              ·
                rw [if_neg (by omega)] at D
                refine x_iconst (v := 0) rfl ki_0 ?_
                refine x_goto (tgt := 22) rfl rfl ?_
                refine x_iret rfl rfl ?_
                show jX m_X12_findSpan 6 0 0 138 [(0, .ref 125), (1, .int l1), (2, .int l2)] [.int 0, .ref 125] _ 0 0 _
                refine z_putI (N := 92) (w := 0) 12 35 rfl f_12_421 rfl (jfin_no TX12 RX12 92 rfl rfl) hD J Sm rfl rfl jk_0 (pw_125_35 (by omega)) rfl (fun h w45 J Sm => ?_)
                rw [vwf w45 (show 0 = (0 : Int32).toInt from by have := jk_0; omega)] at D
                refine x_vret rfl rfl ?_
                exact hQ _ J Sm D.symm
      ·
        rw [if_neg (by omega)] at D
        refine x_iloadn (x := v4) rfl rfl ?_
        refine x_goto (tgt := 10) rfl rfl ?_
        refine x_iret rfl rfl ?_
        show jX m_X12_findSpan 6 0 0 75 [(0, .ref 125), (1, .int l1), (2, .int l2)] [.int v4, .ref 125] _ 0 0 _
        refine z_putI (N := 92) (w := v4.toInt) 12 35 rfl f_12_421 rfl (jfin_no TX12 RX12 92 rfl rfl) hD J Sm rfl rfl rfl (pw_125_35 (by omega)) rfl (fun h w46 J Sm => ?_)
        rw [vwf w46 (show v4.toInt = v4.toInt from by omega)] at D
        refine x_aloadn (x := 125) rfl rfl ?_
        refine x_aloadn (x := 125) rfl rfl ?_
        refine z_getI (N := 92) 12 32 rfl f_12_412 rfl J rfl sg_125_32_33_1_0_1 (fun v47 qv47 ev47 => ?_)
        try rw [vrf (jmb_w w46 qv47 rfl)] at D
        refine x_aloadn (x := 125) rfl rfl ?_
        refine z_getI (N := 92) 12 34 rfl f_12_418 rfl J rfl sg_125_34_35_1_0_1 (fun v48 qv48 ev48 => ?_)
        try rw [vrf (jmb_w w46 qv48 rfl)] at D
        refine x_ldcw (v := 40260) rfl z_12_427 ?_
        refine z_isub rfl rfl jk_40260 (by omega) (fun v49 ev49 => ?_)
        refine x_inst (N := m_X12_more) (As := [.int v47, .int v49]) (st := [.ref 125]) (dx9 := 5) (mc := 0) (ms := 0) (host := "") rfl t_X12_more ⟨Or.inl q_12_431, s_X12_more⟩ rfl (by decide) rfl rfl ⟨by decide, by decide⟩ (jC.of rfl k_X12_more rfl ?_)
        show jX m_X12_more 5 0 0 0 [(0, .int v47), (1, .int v49)] [] _ 0 0 _
        refine x_iloadn (x := v47) rfl rfl ?_
        refine x_iloadn (x := v49) rfl rfl ?_
        refine x_icle (tgt := 9) rfl rfl (ti_le rfl rfl ⟨fun c50 => ?_, fun c50 => ?_⟩)
        ·
          rw [if_pos (by omega)] at D
          refine x_iloadn (x := v49) rfl rfl ?_
          refine x_iret rfl rfl ?_
          show jX m_X12_findSpan 6 0 0 94 [(0, .ref 125), (1, .int l1), (2, .int l2)] [.int v49, .ref 125] _ 0 0 _
          refine z_putI (N := 92) (w := v49.toInt) 12 32 rfl f_12_412 rfl (jfin_no TX12 RX12 92 rfl rfl) hD J Sm rfl rfl rfl (pw_125_32 (by omega)) rfl (fun h w51 J Sm => ?_)
          rw [vwf w51 (show (v48.toInt - 40260) = v49.toInt from by omega)] at D
          refine x_aloadn (x := 125) rfl rfl ?_
          refine x_aloadn (x := 125) rfl rfl ?_
          refine z_getM (N := 92) (v := v49) 12 32 rfl f_12_412 rfl J rfl (jmw w51) ?_
          refine x_inst (N := m_X12_within) (As := [.int v49]) (st := [.ref 125]) (dx9 := 5) (mc := 0) (ms := 0) (host := "") rfl t_X12_within ⟨Or.inl q_12_434, s_X12_within⟩ rfl (by decide) rfl rfl ⟨by decide, by decide⟩ (jC.of rfl k_X12_within rfl ?_)
          show jX m_X12_within 5 0 0 0 [(0, .int v49)] [] _ 0 0 _
          refine x_iloadn (x := v49) rfl rfl ?_
          refine x_ifge (tgt := 8) rfl rfl (ti_ge rfl jk_0 (br_t (by omega) ?_))
          refine x_iloadn (x := v49) rfl rfl ?_
          refine x_ldcw (v := 146399) rfl z_12_392 ?_
          refine x_icle (tgt := 21) rfl rfl (ti_le rfl jk_146399 (br_t (by omega) ?_))
          refine x_iloadn (x := v49) rfl rfl ?_
          refine x_iret rfl rfl ?_
          show jX m_X12_findSpan 6 0 0 105 [(0, .ref 125), (1, .int l1), (2, .int l2)] [.int v49, .ref 125] _ 0 0 _
          refine z_putI (N := 92) (w := v49.toInt) 12 32 rfl f_12_412 rfl (jfin_no TX12 RX12 92 rfl rfl) hD J Sm rfl rfl rfl (pw_125_32 (by omega)) rfl (fun h w52 J Sm => ?_)
          rw [vwf w52 (show (v48.toInt - 40260) = v49.toInt from by omega)] at D
          refine x_aloadn (x := 125) rfl rfl ?_
          refine x_aloadn (x := 125) rfl rfl ?_
          refine z_getM (N := 92) (v := v5) 12 33 rfl f_12_415 rfl J rfl (jmo w52 rfl (jmo w51 rfl (jmo w46 rfl qv5))) ?_
          refine x_inst (N := m_X12_within) (As := [.int v5]) (st := [.ref 125]) (dx9 := 5) (mc := 0) (ms := 0) (host := "") rfl t_X12_within ⟨Or.inl q_12_434, s_X12_within⟩ rfl (by decide) rfl rfl ⟨by decide, by decide⟩ (jC.of rfl k_X12_within rfl ?_)
          show jX m_X12_within 5 0 0 0 [(0, .int v5)] [] _ 0 0 _
          refine x_iloadn (x := v5) rfl rfl ?_
          refine x_ifge (tgt := 8) rfl rfl (ti_ge rfl jk_0 ⟨fun c53 => ?_, fun c53 => ?_⟩)
          ·
            rw [if_pos (by omega)] at D
            refine x_iloadn (x := v5) rfl rfl ?_
            refine x_ldcw (v := 146399) rfl z_12_392 ?_
            refine x_icle (tgt := 21) rfl rfl (ti_le rfl jk_146399 (br_t (by omega) ?_))
            refine x_iloadn (x := v5) rfl rfl ?_
            refine x_iret rfl rfl ?_
            show jX m_X12_findSpan 6 0 0 116 [(0, .ref 125), (1, .int l1), (2, .int l2)] [.int v5, .ref 125] _ 0 0 _
            refine z_putI (N := 92) (w := v5.toInt) 12 33 rfl f_12_415 rfl (jfin_no TX12 RX12 92 rfl rfl) hD J Sm rfl rfl rfl (pw_125_33 (by omega)) rfl (fun h w54 J Sm => ?_)
            rw [vwf w54 (show v5.toInt = v5.toInt from by omega)] at D
            refine x_aloadn (x := 125) rfl rfl ?_
            refine x_aloadn (x := 125) rfl rfl ?_
            refine z_getM (N := 92) (v := v48) 12 34 rfl f_12_418 rfl J rfl (jmo w54 rfl (jmo w52 rfl (jmo w51 rfl qv48))) ?_
            refine x_inst (N := m_X12_within) (As := [.int v48]) (st := [.ref 125]) (dx9 := 5) (mc := 0) (ms := 0) (host := "") rfl t_X12_within ⟨Or.inl q_12_434, s_X12_within⟩ rfl (by decide) rfl rfl ⟨by decide, by decide⟩ (jC.of rfl k_X12_within rfl ?_)
            show jX m_X12_within 5 0 0 0 [(0, .int v48)] [] _ 0 0 _
            refine x_iloadn (x := v48) rfl rfl ?_
            refine x_ifge (tgt := 8) rfl rfl (ti_ge rfl jk_0 (br_t (by omega) ?_))
            refine x_iloadn (x := v48) rfl rfl ?_
            refine x_ldcw (v := 146399) rfl z_12_392 ?_
            refine x_icle (tgt := 21) rfl rfl (ti_le rfl jk_146399 (br_t (by omega) ?_))
            refine x_iloadn (x := v48) rfl rfl ?_
            refine x_iret rfl rfl ?_
            show jX m_X12_findSpan 6 0 0 127 [(0, .ref 125), (1, .int l1), (2, .int l2)] [.int v48, .ref 125] _ 0 0 _
            refine z_putI (N := 92) (w := v48.toInt) 12 34 rfl f_12_418 rfl (jfin_no TX12 RX12 92 rfl rfl) hD J Sm rfl rfl rfl (pw_125_34 (by omega)) rfl (fun h w55 J Sm => ?_)
            rw [vwf w55 (show v48.toInt = v48.toInt from by omega)] at D
            refine x_aloadn (x := 125) rfl rfl ?_
            refine x_aloadn (x := 125) rfl rfl ?_
            refine z_getM (N := 92) (v := v4) 12 35 rfl f_12_421 rfl J rfl (jmo w55 rfl (jmo w54 rfl (jmo w52 rfl (jmo w51 rfl (jmw w46))))) ?_
            refine x_inst (N := m_X12_within) (As := [.int v4]) (st := [.ref 125]) (dx9 := 5) (mc := 0) (ms := 0) (host := "") rfl t_X12_within ⟨Or.inl q_12_434, s_X12_within⟩ rfl (by decide) rfl rfl ⟨by decide, by decide⟩ (jC.of rfl k_X12_within rfl ?_)
            show jX m_X12_within 5 0 0 0 [(0, .int v4)] [] _ 0 0 _
            refine x_iloadn (x := v4) rfl rfl ?_
            refine x_ifge (tgt := 8) rfl rfl (ti_ge rfl jk_0 ⟨fun c56 => ?_, fun c56 => ?_⟩)
            ·
              rw [if_pos (by omega)] at D
              refine x_iloadn (x := v4) rfl rfl ?_
              refine x_ldcw (v := 146399) rfl z_12_392 ?_
              refine x_icle (tgt := 21) rfl rfl (ti_le rfl jk_146399 (br_t (by omega) ?_))
              refine x_iloadn (x := v4) rfl rfl ?_
              refine x_iret rfl rfl ?_
              show jX m_X12_findSpan 6 0 0 138 [(0, .ref 125), (1, .int l1), (2, .int l2)] [.int v4, .ref 125] _ 0 0 _
              refine z_putI (N := 92) (w := v4.toInt) 12 35 rfl f_12_421 rfl (jfin_no TX12 RX12 92 rfl rfl) hD J Sm rfl rfl rfl (pw_125_35 (by omega)) rfl (fun h w57 J Sm => ?_)
              rw [vwf w57 (show v4.toInt = v4.toInt from by omega)] at D
              refine x_vret rfl rfl ?_
              exact hQ _ J Sm D.symm
            ·
              rw [if_neg (by omega)] at D
              refine x_iconst (v := 0) rfl ki_0 ?_
              refine x_goto (tgt := 22) rfl rfl ?_
              refine x_iret rfl rfl ?_
              show jX m_X12_findSpan 6 0 0 138 [(0, .ref 125), (1, .int l1), (2, .int l2)] [.int 0, .ref 125] _ 0 0 _
              refine z_putI (N := 92) (w := 0) 12 35 rfl f_12_421 rfl (jfin_no TX12 RX12 92 rfl rfl) hD J Sm rfl rfl jk_0 (pw_125_35 (by omega)) rfl (fun h w58 J Sm => ?_)
              rw [vwf w58 (show 0 = (0 : Int32).toInt from by have := jk_0; omega)] at D
              refine x_vret rfl rfl ?_
              exact hQ _ J Sm D.symm
          ·
            rw [if_neg (by omega)] at D
            refine x_iconst (v := 0) rfl ki_0 ?_
            refine x_goto (tgt := 22) rfl rfl ?_
            refine x_iret rfl rfl ?_
            show jX m_X12_findSpan 6 0 0 116 [(0, .ref 125), (1, .int l1), (2, .int l2)] [.int 0, .ref 125] _ 0 0 _
            refine z_putI (N := 92) (w := 0) 12 33 rfl f_12_415 rfl (jfin_no TX12 RX12 92 rfl rfl) hD J Sm rfl rfl jk_0 (pw_125_33 (by omega)) rfl (fun h w59 J Sm => ?_)
            rw [vwf w59 (show 0 = (0 : Int32).toInt from by have := jk_0; omega)] at D
            refine x_aloadn (x := 125) rfl rfl ?_
            refine x_aloadn (x := 125) rfl rfl ?_
            refine z_getM (N := 92) (v := v48) 12 34 rfl f_12_418 rfl J rfl (jmo w59 rfl (jmo w52 rfl (jmo w51 rfl qv48))) ?_
            refine x_inst (N := m_X12_within) (As := [.int v48]) (st := [.ref 125]) (dx9 := 5) (mc := 0) (ms := 0) (host := "") rfl t_X12_within ⟨Or.inl q_12_434, s_X12_within⟩ rfl (by decide) rfl rfl ⟨by decide, by decide⟩ (jC.of rfl k_X12_within rfl ?_)
            show jX m_X12_within 5 0 0 0 [(0, .int v48)] [] _ 0 0 _
            refine x_iloadn (x := v48) rfl rfl ?_
            refine x_ifge (tgt := 8) rfl rfl (ti_ge rfl jk_0 (br_t (by omega) ?_))
            refine x_iloadn (x := v48) rfl rfl ?_
            refine x_ldcw (v := 146399) rfl z_12_392 ?_
            refine x_icle (tgt := 21) rfl rfl (ti_le rfl jk_146399 (br_t (by omega) ?_))
            refine x_iloadn (x := v48) rfl rfl ?_
            refine x_iret rfl rfl ?_
            show jX m_X12_findSpan 6 0 0 127 [(0, .ref 125), (1, .int l1), (2, .int l2)] [.int v48, .ref 125] _ 0 0 _
            refine z_putI (N := 92) (w := v48.toInt) 12 34 rfl f_12_418 rfl (jfin_no TX12 RX12 92 rfl rfl) hD J Sm rfl rfl rfl (pw_125_34 (by omega)) rfl (fun h w60 J Sm => ?_)
            rw [vwf w60 (show v48.toInt = v48.toInt from by omega)] at D
            refine x_aloadn (x := 125) rfl rfl ?_
            refine x_aloadn (x := 125) rfl rfl ?_
            refine z_getM (N := 92) (v := v4) 12 35 rfl f_12_421 rfl J rfl (jmo w60 rfl (jmo w59 rfl (jmo w52 rfl (jmo w51 rfl (jmw w46))))) ?_
            refine x_inst (N := m_X12_within) (As := [.int v4]) (st := [.ref 125]) (dx9 := 5) (mc := 0) (ms := 0) (host := "") rfl t_X12_within ⟨Or.inl q_12_434, s_X12_within⟩ rfl (by decide) rfl rfl ⟨by decide, by decide⟩ (jC.of rfl k_X12_within rfl ?_)
            show jX m_X12_within 5 0 0 0 [(0, .int v4)] [] _ 0 0 _
            refine x_iloadn (x := v4) rfl rfl ?_
            refine x_ifge (tgt := 8) rfl rfl (ti_ge rfl jk_0 ⟨fun c61 => ?_, fun c61 => ?_⟩)
            ·
              rw [if_pos (by omega)] at D
              refine x_iloadn (x := v4) rfl rfl ?_
              refine x_ldcw (v := 146399) rfl z_12_392 ?_
              refine x_icle (tgt := 21) rfl rfl (ti_le rfl jk_146399 (br_t (by omega) ?_))
              refine x_iloadn (x := v4) rfl rfl ?_
              refine x_iret rfl rfl ?_
              show jX m_X12_findSpan 6 0 0 138 [(0, .ref 125), (1, .int l1), (2, .int l2)] [.int v4, .ref 125] _ 0 0 _
              refine z_putI (N := 92) (w := v4.toInt) 12 35 rfl f_12_421 rfl (jfin_no TX12 RX12 92 rfl rfl) hD J Sm rfl rfl rfl (pw_125_35 (by omega)) rfl (fun h w62 J Sm => ?_)
              rw [vwf w62 (show v4.toInt = v4.toInt from by omega)] at D
              refine x_vret rfl rfl ?_
              exact hQ _ J Sm D.symm
            ·
              rw [if_neg (by omega)] at D
              refine x_iconst (v := 0) rfl ki_0 ?_
              refine x_goto (tgt := 22) rfl rfl ?_
              refine x_iret rfl rfl ?_
              show jX m_X12_findSpan 6 0 0 138 [(0, .ref 125), (1, .int l1), (2, .int l2)] [.int 0, .ref 125] _ 0 0 _
              refine z_putI (N := 92) (w := 0) 12 35 rfl f_12_421 rfl (jfin_no TX12 RX12 92 rfl rfl) hD J Sm rfl rfl jk_0 (pw_125_35 (by omega)) rfl (fun h w63 J Sm => ?_)
              rw [vwf w63 (show 0 = (0 : Int32).toInt from by have := jk_0; omega)] at D
              refine x_vret rfl rfl ?_
              exact hQ _ J Sm D.symm
        ·
          rw [if_neg (by omega)] at D
          refine x_iloadn (x := v47) rfl rfl ?_
          refine x_goto (tgt := 10) rfl rfl ?_
          refine x_iret rfl rfl ?_
          show jX m_X12_findSpan 6 0 0 94 [(0, .ref 125), (1, .int l1), (2, .int l2)] [.int v47, .ref 125] _ 0 0 _
          refine z_putI (N := 92) (w := v47.toInt) 12 32 rfl f_12_412 rfl (jfin_no TX12 RX12 92 rfl rfl) hD J Sm rfl rfl rfl (pw_125_32 (by omega)) rfl (fun h w64 J Sm => ?_)
          rw [vwf w64 (show v47.toInt = v47.toInt from by omega)] at D
          refine x_aloadn (x := 125) rfl rfl ?_
          refine x_aloadn (x := 125) rfl rfl ?_
          refine z_getM (N := 92) (v := v47) 12 32 rfl f_12_412 rfl J rfl (jmw w64) ?_
          refine x_inst (N := m_X12_within) (As := [.int v47]) (st := [.ref 125]) (dx9 := 5) (mc := 0) (ms := 0) (host := "") rfl t_X12_within ⟨Or.inl q_12_434, s_X12_within⟩ rfl (by decide) rfl rfl ⟨by decide, by decide⟩ (jC.of rfl k_X12_within rfl ?_)
          show jX m_X12_within 5 0 0 0 [(0, .int v47)] [] _ 0 0 _
          refine x_iloadn (x := v47) rfl rfl ?_
          refine x_ifge (tgt := 8) rfl rfl (ti_ge rfl jk_0 (br_t (by omega) ?_))
          refine x_iloadn (x := v47) rfl rfl ?_
          refine x_ldcw (v := 146399) rfl z_12_392 ?_
          refine x_icle (tgt := 21) rfl rfl (ti_le rfl jk_146399 ⟨fun c65 => ?_, fun c65 => ?_⟩)
          ·
            rw [if_pos (by omega)] at D
            refine x_iloadn (x := v47) rfl rfl ?_
            refine x_iret rfl rfl ?_
            show jX m_X12_findSpan 6 0 0 105 [(0, .ref 125), (1, .int l1), (2, .int l2)] [.int v47, .ref 125] _ 0 0 _
            refine z_putI (N := 92) (w := v47.toInt) 12 32 rfl f_12_412 rfl (jfin_no TX12 RX12 92 rfl rfl) hD J Sm rfl rfl rfl (pw_125_32 (by omega)) rfl (fun h w66 J Sm => ?_)
            rw [vwf w66 (show v47.toInt = v47.toInt from by omega)] at D
            refine x_aloadn (x := 125) rfl rfl ?_
            refine x_aloadn (x := 125) rfl rfl ?_
            refine z_getM (N := 92) (v := v5) 12 33 rfl f_12_415 rfl J rfl (jmo w66 rfl (jmo w64 rfl (jmo w46 rfl qv5))) ?_
            refine x_inst (N := m_X12_within) (As := [.int v5]) (st := [.ref 125]) (dx9 := 5) (mc := 0) (ms := 0) (host := "") rfl t_X12_within ⟨Or.inl q_12_434, s_X12_within⟩ rfl (by decide) rfl rfl ⟨by decide, by decide⟩ (jC.of rfl k_X12_within rfl ?_)
            show jX m_X12_within 5 0 0 0 [(0, .int v5)] [] _ 0 0 _
            refine x_iloadn (x := v5) rfl rfl ?_
            refine x_ifge (tgt := 8) rfl rfl (ti_ge rfl jk_0 ⟨fun c67 => ?_, fun c67 => ?_⟩)
            ·
              rw [if_pos (by omega)] at D
              refine x_iloadn (x := v5) rfl rfl ?_
              refine x_ldcw (v := 146399) rfl z_12_392 ?_
              refine x_icle (tgt := 21) rfl rfl (ti_le rfl jk_146399 (br_t (by omega) ?_))
              refine x_iloadn (x := v5) rfl rfl ?_
              refine x_iret rfl rfl ?_
              show jX m_X12_findSpan 6 0 0 116 [(0, .ref 125), (1, .int l1), (2, .int l2)] [.int v5, .ref 125] _ 0 0 _
              refine z_putI (N := 92) (w := v5.toInt) 12 33 rfl f_12_415 rfl (jfin_no TX12 RX12 92 rfl rfl) hD J Sm rfl rfl rfl (pw_125_33 (by omega)) rfl (fun h w68 J Sm => ?_)
              rw [vwf w68 (show v5.toInt = v5.toInt from by omega)] at D
              refine x_aloadn (x := 125) rfl rfl ?_
              refine x_aloadn (x := 125) rfl rfl ?_
              refine z_getM (N := 92) (v := v48) 12 34 rfl f_12_418 rfl J rfl (jmo w68 rfl (jmo w66 rfl (jmo w64 rfl qv48))) ?_
              refine x_inst (N := m_X12_within) (As := [.int v48]) (st := [.ref 125]) (dx9 := 5) (mc := 0) (ms := 0) (host := "") rfl t_X12_within ⟨Or.inl q_12_434, s_X12_within⟩ rfl (by decide) rfl rfl ⟨by decide, by decide⟩ (jC.of rfl k_X12_within rfl ?_)
              show jX m_X12_within 5 0 0 0 [(0, .int v48)] [] _ 0 0 _
              refine x_iloadn (x := v48) rfl rfl ?_
              refine x_ifge (tgt := 8) rfl rfl (ti_ge rfl jk_0 (br_t (by omega) ?_))
              refine x_iloadn (x := v48) rfl rfl ?_
              refine x_ldcw (v := 146399) rfl z_12_392 ?_
              refine x_icle (tgt := 21) rfl rfl (ti_le rfl jk_146399 (br_t (by omega) ?_))
              refine x_iloadn (x := v48) rfl rfl ?_
              refine x_iret rfl rfl ?_
              show jX m_X12_findSpan 6 0 0 127 [(0, .ref 125), (1, .int l1), (2, .int l2)] [.int v48, .ref 125] _ 0 0 _
              refine z_putI (N := 92) (w := v48.toInt) 12 34 rfl f_12_418 rfl (jfin_no TX12 RX12 92 rfl rfl) hD J Sm rfl rfl rfl (pw_125_34 (by omega)) rfl (fun h w69 J Sm => ?_)
              rw [vwf w69 (show v48.toInt = v48.toInt from by omega)] at D
              refine x_aloadn (x := 125) rfl rfl ?_
              refine x_aloadn (x := 125) rfl rfl ?_
              refine z_getM (N := 92) (v := v4) 12 35 rfl f_12_421 rfl J rfl (jmo w69 rfl (jmo w68 rfl (jmo w66 rfl (jmo w64 rfl (jmw w46))))) ?_
              refine x_inst (N := m_X12_within) (As := [.int v4]) (st := [.ref 125]) (dx9 := 5) (mc := 0) (ms := 0) (host := "") rfl t_X12_within ⟨Or.inl q_12_434, s_X12_within⟩ rfl (by decide) rfl rfl ⟨by decide, by decide⟩ (jC.of rfl k_X12_within rfl ?_)
              show jX m_X12_within 5 0 0 0 [(0, .int v4)] [] _ 0 0 _
              refine x_iloadn (x := v4) rfl rfl ?_
              refine x_ifge (tgt := 8) rfl rfl (ti_ge rfl jk_0 ⟨fun c70 => ?_, fun c70 => ?_⟩)
              ·
                rw [if_pos (by omega)] at D
                refine x_iloadn (x := v4) rfl rfl ?_
                refine x_ldcw (v := 146399) rfl z_12_392 ?_
                refine x_icle (tgt := 21) rfl rfl (ti_le rfl jk_146399 (br_t (by omega) ?_))
                refine x_iloadn (x := v4) rfl rfl ?_
                refine x_iret rfl rfl ?_
                show jX m_X12_findSpan 6 0 0 138 [(0, .ref 125), (1, .int l1), (2, .int l2)] [.int v4, .ref 125] _ 0 0 _
                refine z_putI (N := 92) (w := v4.toInt) 12 35 rfl f_12_421 rfl (jfin_no TX12 RX12 92 rfl rfl) hD J Sm rfl rfl rfl (pw_125_35 (by omega)) rfl (fun h w71 J Sm => ?_)
                rw [vwf w71 (show v4.toInt = v4.toInt from by omega)] at D
                refine x_vret rfl rfl ?_
                exact hQ _ J Sm D.symm
              ·
                rw [if_neg (by omega)] at D
                refine x_iconst (v := 0) rfl ki_0 ?_
                refine x_goto (tgt := 22) rfl rfl ?_
                refine x_iret rfl rfl ?_
                show jX m_X12_findSpan 6 0 0 138 [(0, .ref 125), (1, .int l1), (2, .int l2)] [.int 0, .ref 125] _ 0 0 _
                refine z_putI (N := 92) (w := 0) 12 35 rfl f_12_421 rfl (jfin_no TX12 RX12 92 rfl rfl) hD J Sm rfl rfl jk_0 (pw_125_35 (by omega)) rfl (fun h w72 J Sm => ?_)
                rw [vwf w72 (show 0 = (0 : Int32).toInt from by have := jk_0; omega)] at D
                refine x_vret rfl rfl ?_
                exact hQ _ J Sm D.symm
            ·
              rw [if_neg (by omega)] at D
              refine x_iconst (v := 0) rfl ki_0 ?_
              refine x_goto (tgt := 22) rfl rfl ?_
              refine x_iret rfl rfl ?_
              show jX m_X12_findSpan 6 0 0 116 [(0, .ref 125), (1, .int l1), (2, .int l2)] [.int 0, .ref 125] _ 0 0 _
              refine z_putI (N := 92) (w := 0) 12 33 rfl f_12_415 rfl (jfin_no TX12 RX12 92 rfl rfl) hD J Sm rfl rfl jk_0 (pw_125_33 (by omega)) rfl (fun h w73 J Sm => ?_)
              rw [vwf w73 (show 0 = (0 : Int32).toInt from by have := jk_0; omega)] at D
              refine x_aloadn (x := 125) rfl rfl ?_
              refine x_aloadn (x := 125) rfl rfl ?_
              refine z_getM (N := 92) (v := v48) 12 34 rfl f_12_418 rfl J rfl (jmo w73 rfl (jmo w66 rfl (jmo w64 rfl qv48))) ?_
              refine x_inst (N := m_X12_within) (As := [.int v48]) (st := [.ref 125]) (dx9 := 5) (mc := 0) (ms := 0) (host := "") rfl t_X12_within ⟨Or.inl q_12_434, s_X12_within⟩ rfl (by decide) rfl rfl ⟨by decide, by decide⟩ (jC.of rfl k_X12_within rfl ?_)
              show jX m_X12_within 5 0 0 0 [(0, .int v48)] [] _ 0 0 _
              refine x_iloadn (x := v48) rfl rfl ?_
              refine x_ifge (tgt := 8) rfl rfl (ti_ge rfl jk_0 (br_t (by omega) ?_))
              refine x_iloadn (x := v48) rfl rfl ?_
              refine x_ldcw (v := 146399) rfl z_12_392 ?_
              refine x_icle (tgt := 21) rfl rfl (ti_le rfl jk_146399 (br_t (by omega) ?_))
              refine x_iloadn (x := v48) rfl rfl ?_
              refine x_iret rfl rfl ?_
              show jX m_X12_findSpan 6 0 0 127 [(0, .ref 125), (1, .int l1), (2, .int l2)] [.int v48, .ref 125] _ 0 0 _
              refine z_putI (N := 92) (w := v48.toInt) 12 34 rfl f_12_418 rfl (jfin_no TX12 RX12 92 rfl rfl) hD J Sm rfl rfl rfl (pw_125_34 (by omega)) rfl (fun h w74 J Sm => ?_)
              rw [vwf w74 (show v48.toInt = v48.toInt from by omega)] at D
              refine x_aloadn (x := 125) rfl rfl ?_
              refine x_aloadn (x := 125) rfl rfl ?_
              refine z_getM (N := 92) (v := v4) 12 35 rfl f_12_421 rfl J rfl (jmo w74 rfl (jmo w73 rfl (jmo w66 rfl (jmo w64 rfl (jmw w46))))) ?_
              refine x_inst (N := m_X12_within) (As := [.int v4]) (st := [.ref 125]) (dx9 := 5) (mc := 0) (ms := 0) (host := "") rfl t_X12_within ⟨Or.inl q_12_434, s_X12_within⟩ rfl (by decide) rfl rfl ⟨by decide, by decide⟩ (jC.of rfl k_X12_within rfl ?_)
              show jX m_X12_within 5 0 0 0 [(0, .int v4)] [] _ 0 0 _
              refine x_iloadn (x := v4) rfl rfl ?_
              refine x_ifge (tgt := 8) rfl rfl (ti_ge rfl jk_0 ⟨fun c75 => ?_, fun c75 => ?_⟩)
              ·
                rw [if_pos (by omega)] at D
                refine x_iloadn (x := v4) rfl rfl ?_
                refine x_ldcw (v := 146399) rfl z_12_392 ?_
                refine x_icle (tgt := 21) rfl rfl (ti_le rfl jk_146399 (br_t (by omega) ?_))
                refine x_iloadn (x := v4) rfl rfl ?_
                refine x_iret rfl rfl ?_
                show jX m_X12_findSpan 6 0 0 138 [(0, .ref 125), (1, .int l1), (2, .int l2)] [.int v4, .ref 125] _ 0 0 _
                refine z_putI (N := 92) (w := v4.toInt) 12 35 rfl f_12_421 rfl (jfin_no TX12 RX12 92 rfl rfl) hD J Sm rfl rfl rfl (pw_125_35 (by omega)) rfl (fun h w76 J Sm => ?_)
                rw [vwf w76 (show v4.toInt = v4.toInt from by omega)] at D
                refine x_vret rfl rfl ?_
                exact hQ _ J Sm D.symm
              ·
                rw [if_neg (by omega)] at D
                refine x_iconst (v := 0) rfl ki_0 ?_
                refine x_goto (tgt := 22) rfl rfl ?_
                refine x_iret rfl rfl ?_
                show jX m_X12_findSpan 6 0 0 138 [(0, .ref 125), (1, .int l1), (2, .int l2)] [.int 0, .ref 125] _ 0 0 _
                refine z_putI (N := 92) (w := 0) 12 35 rfl f_12_421 rfl (jfin_no TX12 RX12 92 rfl rfl) hD J Sm rfl rfl jk_0 (pw_125_35 (by omega)) rfl (fun h w77 J Sm => ?_)
                rw [vwf w77 (show 0 = (0 : Int32).toInt from by have := jk_0; omega)] at D
                refine x_vret rfl rfl ?_
                exact hQ _ J Sm D.symm
          ·
            rw [if_neg (by omega)] at D
            refine x_ldcw (v := 146399) rfl z_12_392 ?_
            refine x_goto (tgt := 22) rfl rfl ?_
            refine x_iret rfl rfl ?_
            show jX m_X12_findSpan 6 0 0 105 [(0, .ref 125), (1, .int l1), (2, .int l2)] [.int 146399, .ref 125] _ 0 0 _
            refine z_putI (N := 92) (w := 146399) 12 32 rfl f_12_412 rfl (jfin_no TX12 RX12 92 rfl rfl) hD J Sm rfl rfl jk_146399 (pw_125_32 (by omega)) rfl (fun h w78 J Sm => ?_)
            rw [vwf w78 (show 146399 = (146399 : Int32).toInt from by have := jk_146399; omega)] at D
            refine x_aloadn (x := 125) rfl rfl ?_
            refine x_aloadn (x := 125) rfl rfl ?_
            refine z_getM (N := 92) (v := v5) 12 33 rfl f_12_415 rfl J rfl (jmo w78 rfl (jmo w64 rfl (jmo w46 rfl qv5))) ?_
            refine x_inst (N := m_X12_within) (As := [.int v5]) (st := [.ref 125]) (dx9 := 5) (mc := 0) (ms := 0) (host := "") rfl t_X12_within ⟨Or.inl q_12_434, s_X12_within⟩ rfl (by decide) rfl rfl ⟨by decide, by decide⟩ (jC.of rfl k_X12_within rfl ?_)
            show jX m_X12_within 5 0 0 0 [(0, .int v5)] [] _ 0 0 _
            refine x_iloadn (x := v5) rfl rfl ?_
            refine x_ifge (tgt := 8) rfl rfl (ti_ge rfl jk_0 ⟨fun c79 => ?_, fun c79 => ?_⟩)
            ·
              rw [if_pos (by omega)] at D
              refine x_iloadn (x := v5) rfl rfl ?_
              refine x_ldcw (v := 146399) rfl z_12_392 ?_
              refine x_icle (tgt := 21) rfl rfl (ti_le rfl jk_146399 (br_t (by omega) ?_))
              refine x_iloadn (x := v5) rfl rfl ?_
              refine x_iret rfl rfl ?_
              show jX m_X12_findSpan 6 0 0 116 [(0, .ref 125), (1, .int l1), (2, .int l2)] [.int v5, .ref 125] _ 0 0 _
              refine z_putI (N := 92) (w := v5.toInt) 12 33 rfl f_12_415 rfl (jfin_no TX12 RX12 92 rfl rfl) hD J Sm rfl rfl rfl (pw_125_33 (by omega)) rfl (fun h w80 J Sm => ?_)
              rw [vwf w80 (show v5.toInt = v5.toInt from by omega)] at D
              refine x_aloadn (x := 125) rfl rfl ?_
              refine x_aloadn (x := 125) rfl rfl ?_
              refine z_getM (N := 92) (v := v48) 12 34 rfl f_12_418 rfl J rfl (jmo w80 rfl (jmo w78 rfl (jmo w64 rfl qv48))) ?_
              refine x_inst (N := m_X12_within) (As := [.int v48]) (st := [.ref 125]) (dx9 := 5) (mc := 0) (ms := 0) (host := "") rfl t_X12_within ⟨Or.inl q_12_434, s_X12_within⟩ rfl (by decide) rfl rfl ⟨by decide, by decide⟩ (jC.of rfl k_X12_within rfl ?_)
              show jX m_X12_within 5 0 0 0 [(0, .int v48)] [] _ 0 0 _
              refine x_iloadn (x := v48) rfl rfl ?_
              refine x_ifge (tgt := 8) rfl rfl (ti_ge rfl jk_0 (br_t (by omega) ?_))
              refine x_iloadn (x := v48) rfl rfl ?_
              refine x_ldcw (v := 146399) rfl z_12_392 ?_
              refine x_icle (tgt := 21) rfl rfl (ti_le rfl jk_146399 (br_t (by omega) ?_))
              refine x_iloadn (x := v48) rfl rfl ?_
              refine x_iret rfl rfl ?_
              show jX m_X12_findSpan 6 0 0 127 [(0, .ref 125), (1, .int l1), (2, .int l2)] [.int v48, .ref 125] _ 0 0 _
              refine z_putI (N := 92) (w := v48.toInt) 12 34 rfl f_12_418 rfl (jfin_no TX12 RX12 92 rfl rfl) hD J Sm rfl rfl rfl (pw_125_34 (by omega)) rfl (fun h w81 J Sm => ?_)
              rw [vwf w81 (show v48.toInt = v48.toInt from by omega)] at D
              refine x_aloadn (x := 125) rfl rfl ?_
              refine x_aloadn (x := 125) rfl rfl ?_
              refine z_getM (N := 92) (v := v4) 12 35 rfl f_12_421 rfl J rfl (jmo w81 rfl (jmo w80 rfl (jmo w78 rfl (jmo w64 rfl (jmw w46))))) ?_
              refine x_inst (N := m_X12_within) (As := [.int v4]) (st := [.ref 125]) (dx9 := 5) (mc := 0) (ms := 0) (host := "") rfl t_X12_within ⟨Or.inl q_12_434, s_X12_within⟩ rfl (by decide) rfl rfl ⟨by decide, by decide⟩ (jC.of rfl k_X12_within rfl ?_)
              show jX m_X12_within 5 0 0 0 [(0, .int v4)] [] _ 0 0 _
              refine x_iloadn (x := v4) rfl rfl ?_
              refine x_ifge (tgt := 8) rfl rfl (ti_ge rfl jk_0 ⟨fun c82 => ?_, fun c82 => ?_⟩)
              ·
                rw [if_pos (by omega)] at D
                refine x_iloadn (x := v4) rfl rfl ?_
                refine x_ldcw (v := 146399) rfl z_12_392 ?_
                refine x_icle (tgt := 21) rfl rfl (ti_le rfl jk_146399 (br_t (by omega) ?_))
                refine x_iloadn (x := v4) rfl rfl ?_
                refine x_iret rfl rfl ?_
                show jX m_X12_findSpan 6 0 0 138 [(0, .ref 125), (1, .int l1), (2, .int l2)] [.int v4, .ref 125] _ 0 0 _
                refine z_putI (N := 92) (w := v4.toInt) 12 35 rfl f_12_421 rfl (jfin_no TX12 RX12 92 rfl rfl) hD J Sm rfl rfl rfl (pw_125_35 (by omega)) rfl (fun h w83 J Sm => ?_)
                rw [vwf w83 (show v4.toInt = v4.toInt from by omega)] at D
                refine x_vret rfl rfl ?_
                exact hQ _ J Sm D.symm
              ·
                rw [if_neg (by omega)] at D
                refine x_iconst (v := 0) rfl ki_0 ?_
                refine x_goto (tgt := 22) rfl rfl ?_
                refine x_iret rfl rfl ?_
                show jX m_X12_findSpan 6 0 0 138 [(0, .ref 125), (1, .int l1), (2, .int l2)] [.int 0, .ref 125] _ 0 0 _
                refine z_putI (N := 92) (w := 0) 12 35 rfl f_12_421 rfl (jfin_no TX12 RX12 92 rfl rfl) hD J Sm rfl rfl jk_0 (pw_125_35 (by omega)) rfl (fun h w84 J Sm => ?_)
                rw [vwf w84 (show 0 = (0 : Int32).toInt from by have := jk_0; omega)] at D
                refine x_vret rfl rfl ?_
                exact hQ _ J Sm D.symm
            ·
              rw [if_neg (by omega)] at D
              refine x_iconst (v := 0) rfl ki_0 ?_
              refine x_goto (tgt := 22) rfl rfl ?_
              refine x_iret rfl rfl ?_
              show jX m_X12_findSpan 6 0 0 116 [(0, .ref 125), (1, .int l1), (2, .int l2)] [.int 0, .ref 125] _ 0 0 _
              refine z_putI (N := 92) (w := 0) 12 33 rfl f_12_415 rfl (jfin_no TX12 RX12 92 rfl rfl) hD J Sm rfl rfl jk_0 (pw_125_33 (by omega)) rfl (fun h w85 J Sm => ?_)
              rw [vwf w85 (show 0 = (0 : Int32).toInt from by have := jk_0; omega)] at D
              refine x_aloadn (x := 125) rfl rfl ?_
              refine x_aloadn (x := 125) rfl rfl ?_
              refine z_getM (N := 92) (v := v48) 12 34 rfl f_12_418 rfl J rfl (jmo w85 rfl (jmo w78 rfl (jmo w64 rfl qv48))) ?_
              refine x_inst (N := m_X12_within) (As := [.int v48]) (st := [.ref 125]) (dx9 := 5) (mc := 0) (ms := 0) (host := "") rfl t_X12_within ⟨Or.inl q_12_434, s_X12_within⟩ rfl (by decide) rfl rfl ⟨by decide, by decide⟩ (jC.of rfl k_X12_within rfl ?_)
              show jX m_X12_within 5 0 0 0 [(0, .int v48)] [] _ 0 0 _
              refine x_iloadn (x := v48) rfl rfl ?_
              refine x_ifge (tgt := 8) rfl rfl (ti_ge rfl jk_0 (br_t (by omega) ?_))
              refine x_iloadn (x := v48) rfl rfl ?_
              refine x_ldcw (v := 146399) rfl z_12_392 ?_
              refine x_icle (tgt := 21) rfl rfl (ti_le rfl jk_146399 (br_t (by omega) ?_))
              refine x_iloadn (x := v48) rfl rfl ?_
              refine x_iret rfl rfl ?_
              show jX m_X12_findSpan 6 0 0 127 [(0, .ref 125), (1, .int l1), (2, .int l2)] [.int v48, .ref 125] _ 0 0 _
              refine z_putI (N := 92) (w := v48.toInt) 12 34 rfl f_12_418 rfl (jfin_no TX12 RX12 92 rfl rfl) hD J Sm rfl rfl rfl (pw_125_34 (by omega)) rfl (fun h w86 J Sm => ?_)
              rw [vwf w86 (show v48.toInt = v48.toInt from by omega)] at D
              refine x_aloadn (x := 125) rfl rfl ?_
              refine x_aloadn (x := 125) rfl rfl ?_
              refine z_getM (N := 92) (v := v4) 12 35 rfl f_12_421 rfl J rfl (jmo w86 rfl (jmo w85 rfl (jmo w78 rfl (jmo w64 rfl (jmw w46))))) ?_
              refine x_inst (N := m_X12_within) (As := [.int v4]) (st := [.ref 125]) (dx9 := 5) (mc := 0) (ms := 0) (host := "") rfl t_X12_within ⟨Or.inl q_12_434, s_X12_within⟩ rfl (by decide) rfl rfl ⟨by decide, by decide⟩ (jC.of rfl k_X12_within rfl ?_)
              show jX m_X12_within 5 0 0 0 [(0, .int v4)] [] _ 0 0 _
              refine x_iloadn (x := v4) rfl rfl ?_
              refine x_ifge (tgt := 8) rfl rfl (ti_ge rfl jk_0 ⟨fun c87 => ?_, fun c87 => ?_⟩)
              ·
                rw [if_pos (by omega)] at D
                refine x_iloadn (x := v4) rfl rfl ?_
                refine x_ldcw (v := 146399) rfl z_12_392 ?_
                refine x_icle (tgt := 21) rfl rfl (ti_le rfl jk_146399 (br_t (by omega) ?_))
                refine x_iloadn (x := v4) rfl rfl ?_
                refine x_iret rfl rfl ?_
                show jX m_X12_findSpan 6 0 0 138 [(0, .ref 125), (1, .int l1), (2, .int l2)] [.int v4, .ref 125] _ 0 0 _
                refine z_putI (N := 92) (w := v4.toInt) 12 35 rfl f_12_421 rfl (jfin_no TX12 RX12 92 rfl rfl) hD J Sm rfl rfl rfl (pw_125_35 (by omega)) rfl (fun h w88 J Sm => ?_)
                rw [vwf w88 (show v4.toInt = v4.toInt from by omega)] at D
                refine x_vret rfl rfl ?_
                exact hQ _ J Sm D.symm
              ·
                rw [if_neg (by omega)] at D
                refine x_iconst (v := 0) rfl ki_0 ?_
                refine x_goto (tgt := 22) rfl rfl ?_
                refine x_iret rfl rfl ?_
                show jX m_X12_findSpan 6 0 0 138 [(0, .ref 125), (1, .int l1), (2, .int l2)] [.int 0, .ref 125] _ 0 0 _
                refine z_putI (N := 92) (w := 0) 12 35 rfl f_12_421 rfl (jfin_no TX12 RX12 92 rfl rfl) hD J Sm rfl rfl jk_0 (pw_125_35 (by omega)) rfl (fun h w89 J Sm => ?_)
                rw [vwf w89 (show 0 = (0 : Int32).toInt from by have := jk_0; omega)] at D
                refine x_vret rfl rfl ?_
                exact hQ _ J Sm D.symm
    ·
      rw [if_neg (by omega)] at D
      refine x_aloadn (x := 125) rfl rfl ?_
      refine z_getR (N := 92) (b := 139) 12 29 rfl f_12_72 rfl J rfl 16029 ⟨rfl, rfl⟩ rfl ?_
      refine x_iloadn (x := l2) rfl rfl ?_
      refine z_iald (N := 600) rfl J rfl sg_139_0_600_1_0_1 rfl (by omega) (fun v90 qv90 ev90 => ?_)
      try rw [vrd qv90 (show l2.toInt = l2.toInt from by omega)] at D
      refine x_iloadn (x := l1) rfl rfl ?_
      refine x_icne (tgt := 53) rfl rfl (ti_ne rfl rfl ⟨fun c91 => ?_, fun c91 => ?_⟩)
      ·
        rw [if_neg (by omega)] at D
        exact jX.sub (jsb_c rfl (jsb_c rfl (jsb_c rfl jsb_n))) (ct_X12_findSpan_r125d_53 hD hQ ih l1 l2 h (jr_of rfl (by omega)) (jr_of rfl (by omega)) (by omega) J Sm D)
      ·
        rw [if_pos (by omega)] at D
        refine x_aloadn (x := 125) rfl rfl ?_
        refine x_iloadn (x := l2) rfl rfl ?_
        refine x_inv (N := m_X12_addSpan) (As := [.int l2]) (b := 125) (st := []) (dx9 := 5) (mc := 0) (ms := 0) (host := "") 12 rfl t_X12_addSpan ⟨Or.inl q_12_424, i_X12_addSpan.1, i_X12_addSpan.2⟩ ⟨by decide, rfl⟩ (congrArg Prod.fst (J.1.1 125 (12, 92) rfl)) rfl (by decide) rfl rfl ⟨by decide, by decide⟩ (sf_X12_addSpan_r125d (jr_of rfl (by omega)) hD J rfl  (fun h J S92 X93 => ?_))
        have Sm := jSm_tr rfl Sm S92
        rw [X93] at D
        show jX m_X12_findSpan 6 0 0 53 [(0, .ref 125), (1, .int l1), (2, .int l2)] [] _ 0 0 _
        exact jX.sub (jsb_c rfl (jsb_c rfl (jsb_c rfl jsb_n))) (ct_X12_findSpan_r125d_53 hD hQ ih l1 l2 h (jr_of rfl (by omega)) (jr_of rfl (by omega)) (by omega) J Sm D)
set_option maxRecDepth 100000 in
set_option maxHeartbeats 4000000 in
theorem sf_X12_findSpan_r125d {Dy : jH → Prop} {h : jH} {Q : Option Value → jH → Prop} {dr : jW} {a1 : Int32} (y1 : (-1) ≤ a1.toInt ∧ a1.toInt ≤ 599) (hD : jDk Dy) (J : jJ jSgM Dy h) (D : d_X12_findSpan_r125d a1.toInt (vw h) = dr) (hQ : ∀ hx9, jJ jSgM Dy hx9 → jSm fp_X12_findSpan_r125d h hx9 → dr = vw hx9 → Q none hx9) : jC m_X12_findSpan 6 0 0 [.ref 125, .int a1] h Q := by
  refine jC.of rfl k_X12_findSpan rfl ?_
  have Sm := jSm_rf fp_X12_findSpan_r125d h
  show jX m_X12_findSpan 6 0 0 0 [(0, .ref 125), (1, .int a1)] [] _ 0 0 _
  unfold d_X12_findSpan_r125d at D
  refine x_aloadn (x := 125) rfl rfl ?_
  refine x_iconst (v := 0) rfl ki_0 ?_
  refine z_putI (N := 92) (w := 0) 12 32 rfl f_12_412 rfl (jfin_no TX12 RX12 92 rfl rfl) hD J Sm rfl rfl jk_0 (pw_125_32 (by omega)) rfl (fun h w1 J Sm => ?_)
  rw [vwf w1 (show 0 = (0 : Int32).toInt from by have := jk_0; omega)] at D
  refine x_aloadn (x := 125) rfl rfl ?_
  refine x_ldcw (v := 146399) rfl z_12_392 ?_
  refine z_putI (N := 92) (w := 146399) 12 33 rfl f_12_415 rfl (jfin_no TX12 RX12 92 rfl rfl) hD J Sm rfl rfl jk_146399 (pw_125_33 (by omega)) rfl (fun h w2 J Sm => ?_)
  rw [vwf w2 (show 146399 = (146399 : Int32).toInt from by have := jk_146399; omega)] at D
  refine x_aloadn (x := 125) rfl rfl ?_
  refine x_iconst (v := 0) rfl ki_0 ?_
  refine z_putI (N := 92) (w := 0) 12 34 rfl f_12_418 rfl (jfin_no TX12 RX12 92 rfl rfl) hD J Sm rfl rfl jk_0 (pw_125_34 (by omega)) rfl (fun h w3 J Sm => ?_)
  rw [vwf w3 (show 0 = (0 : Int32).toInt from by have := jk_0; omega)] at D
  refine x_aloadn (x := 125) rfl rfl ?_
  refine x_ldcw (v := 146399) rfl z_12_392 ?_
  refine z_putI (N := 92) (w := 146399) 12 35 rfl f_12_421 rfl (jfin_no TX12 RX12 92 rfl rfl) hD J Sm rfl rfl jk_146399 (pw_125_35 (by omega)) rfl (fun h w4 J Sm => ?_)
  rw [vwf w4 (show 146399 = (146399 : Int32).toInt from by have := jk_146399; omega)] at D
  refine x_iconst (v := 0) rfl ki_0 ?_
  refine x_istoren (lsx9 := [(2, .int 0), (0, .ref 125), (1, .int a1)]) rfl rfl rfl ?_
  exact jX.sub (jsb_c rfl (jsb_c rfl (jsb_c rfl jsb_n))) (ct_X12_findSpan_r125d_26 hD hQ  601 a1 0 h (by have := jk_0; omega) (jr_of rfl (by omega)) (jr_of jk_0 (by omega)) J Sm (by rw [jk_0]; exact D))
def fp_X12_isCertified_r125d : jFp := []
set_option maxRecDepth 100000 in
set_option maxHeartbeats 4000000 in
theorem ct_X12_isCertified_r125d_300105 {Dy : jH → Prop} {h0 : jH} {Q : Option Value → jH → Prop} {dr : Int} {K6 : Int → Int → Int → Int → Int → jW → Int} {R6 : Int} (hD : jDk Dy) (hQ : ∀ (v : Int32) hx9, 0 ≤ v.toInt ∧ v.toInt ≤ 1 → jJ jSgM Dy hx9 → jSm fp_X12_isCertified_r125d h0 hx9 → dr = v.toInt → vw hx9 = vw h0 → Q (some (.int v)) hx9) (k6 : ∀ (l1 : Int32) (l2 : Int32) (l3 : Int32) (l4 : Int32) (l5 : Int32) (h : jH), 100 - l5.toInt < R6 → (-1) ≤ l1.toInt ∧ l1.toInt ≤ 599 → 0 ≤ l2.toInt ∧ l2.toInt ≤ 146399 → (-1) ≤ l3.toInt ∧ l3.toInt ≤ 11 → 0 ≤ l4.toInt ∧ l4.toInt ≤ 1 → 0 ≤ l5.toInt ∧ l5.toInt ≤ 100 → jJ jSgM Dy h → jSm fp_X12_isCertified_r125d h0 h → K6 l1.toInt l2.toInt l3.toInt l4.toInt l5.toInt (vw h) = dr → vw h = vw h0 → jX m_X12_isCertified 2 0 0 6 [(0, .ref 125), (1, .int l1), (2, .int l2), (3, .int l3), (4, .int l4), (5, .int l5)] [] h 0 0 Q) : ∀ (l1 : Int32) (l2 : Int32) (l3 : Int32) (l5 : Int32) (h : jH), (-1) ≤ l1.toInt ∧ l1.toInt ≤ 599 → 0 ≤ l2.toInt ∧ l2.toInt ≤ 146399 → (-1) ≤ l3.toInt ∧ l3.toInt ≤ 11 → 0 ≤ l5.toInt ∧ l5.toInt ≤ 99 → 100 - l5.toInt ≤ R6 → jJ jSgM Dy h → jSm fp_X12_isCertified_r125d h0 h → d_X12_isCertified_r125d_300105 K6  l1.toInt l2.toInt l3.toInt l5.toInt (vw h) = dr → vw h = vw h0 → jX m_X12_isCertified 2 0 0 105 [(0, .ref 125), (1, .int l1), (2, .int l2), (3, .int l3), (5, .int l5)] [.int 1] h 0 0 Q := by
  intro l1 l2 l3 l5 h y0 y1 y2 y3  m6 J Sm D EV
  unfold d_X12_isCertified_r125d_300105 at D
  refine x_istore (lsx9 := [(4, .int 1), (0, .ref 125), (1, .int l1), (2, .int l2), (3, .int l3), (5, .int l5)]) rfl rfl rfl ?_
  refine z_iinc (x := l5) (lsx9 := fun v1 => [(5, .int v1), (4, .int 1), (0, .ref 125), (1, .int l1), (2, .int l2), (3, .int l3)]) rfl rfl rfl jko_1 (by omega) rfl (fun _ => rfl) (fun v1 ev1 => ?_)
  refine x_goto (tgt := 6) rfl rfl ?_
  try rw [show (l5.toInt + 1) = v1.toInt from by omega] at D
  exact jX.sub (jsb_c rfl (jsb_c rfl (jsb_c rfl (jsb_c rfl (jsb_c rfl (jsb_c rfl jsb_n)))))) (k6 l1 l2 l3 1 v1 h (by omega) (jr_of rfl (by omega)) (jr_of rfl (by omega)) (jr_of rfl (by omega)) (jr_of jk_1 (by omega)) (jr_of rfl (by omega)) J Sm (by rw [jk_1]; exact D) EV)
set_option maxRecDepth 100000 in
set_option maxHeartbeats 4000000 in
theorem ct_X12_isCertified_r125d_200105 {Dy : jH → Prop} {h0 : jH} {Q : Option Value → jH → Prop} {dr : Int} {K6 : Int → Int → Int → Int → Int → jW → Int} {R6 : Int} (hD : jDk Dy) (hQ : ∀ (v : Int32) hx9, 0 ≤ v.toInt ∧ v.toInt ≤ 1 → jJ jSgM Dy hx9 → jSm fp_X12_isCertified_r125d h0 hx9 → dr = v.toInt → vw hx9 = vw h0 → Q (some (.int v)) hx9) (k6 : ∀ (l1 : Int32) (l2 : Int32) (l3 : Int32) (l4 : Int32) (l5 : Int32) (h : jH), 100 - l5.toInt < R6 → (-1) ≤ l1.toInt ∧ l1.toInt ≤ 599 → 0 ≤ l2.toInt ∧ l2.toInt ≤ 146399 → (-1) ≤ l3.toInt ∧ l3.toInt ≤ 11 → 0 ≤ l4.toInt ∧ l4.toInt ≤ 1 → 0 ≤ l5.toInt ∧ l5.toInt ≤ 100 → jJ jSgM Dy h → jSm fp_X12_isCertified_r125d h0 h → K6 l1.toInt l2.toInt l3.toInt l4.toInt l5.toInt (vw h) = dr → vw h = vw h0 → jX m_X12_isCertified 2 0 0 6 [(0, .ref 125), (1, .int l1), (2, .int l2), (3, .int l3), (4, .int l4), (5, .int l5)] [] h 0 0 Q) : ∀ (l1 : Int32) (l2 : Int32) (l3 : Int32) (l5 : Int32) (h : jH), (-1) ≤ l1.toInt ∧ l1.toInt ≤ 599 → 0 ≤ l2.toInt ∧ l2.toInt ≤ 146399 → (-1) ≤ l3.toInt ∧ l3.toInt ≤ 11 → 0 ≤ l5.toInt ∧ l5.toInt ≤ 99 → 100 - l5.toInt ≤ R6 → jJ jSgM Dy h → jSm fp_X12_isCertified_r125d h0 h → d_X12_isCertified_r125d_200105 K6  l1.toInt l2.toInt l3.toInt l5.toInt (vw h) = dr → vw h = vw h0 → jX m_X12_isCertified 2 0 0 105 [(0, .ref 125), (1, .int l1), (2, .int l2), (3, .int l3), (5, .int l5)] [.int 0] h 0 0 Q := by
  intro l1 l2 l3 l5 h y0 y1 y2 y3  m6 J Sm D EV
  unfold d_X12_isCertified_r125d_200105 at D
  refine x_istore (lsx9 := [(4, .int 0), (0, .ref 125), (1, .int l1), (2, .int l2), (3, .int l3), (5, .int l5)]) rfl rfl rfl ?_
  refine z_iinc (x := l5) (lsx9 := fun v1 => [(5, .int v1), (4, .int 0), (0, .ref 125), (1, .int l1), (2, .int l2), (3, .int l3)]) rfl rfl rfl jko_1 (by omega) rfl (fun _ => rfl) (fun v1 ev1 => ?_)
  refine x_goto (tgt := 6) rfl rfl ?_
  try rw [show (l5.toInt + 1) = v1.toInt from by omega] at D
  exact jX.sub (jsb_c rfl (jsb_c rfl (jsb_c rfl (jsb_c rfl (jsb_c rfl (jsb_c rfl jsb_n)))))) (k6 l1 l2 l3 0 v1 h (by omega) (jr_of rfl (by omega)) (jr_of rfl (by omega)) (jr_of rfl (by omega)) (jr_of jk_0 (by omega)) (jr_of rfl (by omega)) J Sm (by rw [jk_0]; exact D) EV)
set_option maxRecDepth 100000 in
set_option maxHeartbeats 4000000 in
theorem ct_X12_isCertified_r125d_100 {Dy : jH → Prop} {h0 : jH} {Q : Option Value → jH → Prop} {dr : Int} {K6 : Int → Int → Int → Int → Int → jW → Int} {R6 : Int} (hD : jDk Dy) (hQ : ∀ (v : Int32) hx9, 0 ≤ v.toInt ∧ v.toInt ≤ 1 → jJ jSgM Dy hx9 → jSm fp_X12_isCertified_r125d h0 hx9 → dr = v.toInt → vw hx9 = vw h0 → Q (some (.int v)) hx9) (k6 : ∀ (l1 : Int32) (l2 : Int32) (l3 : Int32) (l4 : Int32) (l5 : Int32) (h : jH), 100 - l5.toInt < R6 → (-1) ≤ l1.toInt ∧ l1.toInt ≤ 599 → 0 ≤ l2.toInt ∧ l2.toInt ≤ 146399 → (-1) ≤ l3.toInt ∧ l3.toInt ≤ 11 → 0 ≤ l4.toInt ∧ l4.toInt ≤ 1 → 0 ≤ l5.toInt ∧ l5.toInt ≤ 100 → jJ jSgM Dy h → jSm fp_X12_isCertified_r125d h0 h → K6 l1.toInt l2.toInt l3.toInt l4.toInt l5.toInt (vw h) = dr → vw h = vw h0 → jX m_X12_isCertified 2 0 0 6 [(0, .ref 125), (1, .int l1), (2, .int l2), (3, .int l3), (4, .int l4), (5, .int l5)] [] h 0 0 Q) : ∀ (l1 : Int32) (l2 : Int32) (l3 : Int32) (l5 : Int32) (h : jH), (-1) ≤ l1.toInt ∧ l1.toInt ≤ 599 → 0 ≤ l2.toInt ∧ l2.toInt ≤ 146399 → (-1) ≤ l3.toInt ∧ l3.toInt ≤ 11 → 0 ≤ l5.toInt ∧ l5.toInt ≤ 99 → 100 - l5.toInt ≤ R6 → jJ jSgM Dy h → jSm fp_X12_isCertified_r125d h0 h → d_X12_isCertified_r125d_100 K6  l1.toInt l2.toInt l3.toInt l5.toInt (vw h) = dr → vw h = vw h0 → jX m_X12_isCertified 2 0 0 100 [(0, .ref 125), (1, .int l1), (2, .int l2), (3, .int l3), (5, .int l5)] [] h 0 0 Q := by
  intro l1 l2 l3 l5 h y0 y1 y2 y3  m6 J Sm D EV
  unfold d_X12_isCertified_r125d_100 at D
  refine x_iconst (v := 1) rfl ki_1 ?_
  refine x_goto (tgt := 105) rfl rfl ?_
  exact jX.sub (jsb_c rfl (jsb_c rfl (jsb_c rfl (jsb_c rfl (jsb_c rfl jsb_n))))) (ct_X12_isCertified_r125d_300105 hD hQ k6 l1 l2 l3 l5 h (jr_of rfl (by omega)) (jr_of rfl (by omega)) (jr_of rfl (by omega)) (jr_of rfl (by omega)) (by omega) J Sm D EV)
set_option maxRecDepth 100000 in
set_option maxHeartbeats 4000000 in
theorem ct_X12_isCertified_r125d_104 {Dy : jH → Prop} {h0 : jH} {Q : Option Value → jH → Prop} {dr : Int} {K6 : Int → Int → Int → Int → Int → jW → Int} {R6 : Int} (hD : jDk Dy) (hQ : ∀ (v : Int32) hx9, 0 ≤ v.toInt ∧ v.toInt ≤ 1 → jJ jSgM Dy hx9 → jSm fp_X12_isCertified_r125d h0 hx9 → dr = v.toInt → vw hx9 = vw h0 → Q (some (.int v)) hx9) (k6 : ∀ (l1 : Int32) (l2 : Int32) (l3 : Int32) (l4 : Int32) (l5 : Int32) (h : jH), 100 - l5.toInt < R6 → (-1) ≤ l1.toInt ∧ l1.toInt ≤ 599 → 0 ≤ l2.toInt ∧ l2.toInt ≤ 146399 → (-1) ≤ l3.toInt ∧ l3.toInt ≤ 11 → 0 ≤ l4.toInt ∧ l4.toInt ≤ 1 → 0 ≤ l5.toInt ∧ l5.toInt ≤ 100 → jJ jSgM Dy h → jSm fp_X12_isCertified_r125d h0 h → K6 l1.toInt l2.toInt l3.toInt l4.toInt l5.toInt (vw h) = dr → vw h = vw h0 → jX m_X12_isCertified 2 0 0 6 [(0, .ref 125), (1, .int l1), (2, .int l2), (3, .int l3), (4, .int l4), (5, .int l5)] [] h 0 0 Q) : ∀ (l1 : Int32) (l2 : Int32) (l3 : Int32) (l5 : Int32) (h : jH), (-1) ≤ l1.toInt ∧ l1.toInt ≤ 599 → 0 ≤ l2.toInt ∧ l2.toInt ≤ 146399 → (-1) ≤ l3.toInt ∧ l3.toInt ≤ 11 → 0 ≤ l5.toInt ∧ l5.toInt ≤ 99 → 100 - l5.toInt ≤ R6 → jJ jSgM Dy h → jSm fp_X12_isCertified_r125d h0 h → d_X12_isCertified_r125d_104 K6  l1.toInt l2.toInt l3.toInt l5.toInt (vw h) = dr → vw h = vw h0 → jX m_X12_isCertified 2 0 0 104 [(0, .ref 125), (1, .int l1), (2, .int l2), (3, .int l3), (5, .int l5)] [] h 0 0 Q := by
  intro l1 l2 l3 l5 h y0 y1 y2 y3  m6 J Sm D EV
  unfold d_X12_isCertified_r125d_104 at D
  refine x_iconst (v := 0) rfl ki_0 ?_
  exact jX.sub (jsb_c rfl (jsb_c rfl (jsb_c rfl (jsb_c rfl (jsb_c rfl jsb_n))))) (ct_X12_isCertified_r125d_200105 hD hQ k6 l1 l2 l3 l5 h (jr_of rfl (by omega)) (jr_of rfl (by omega)) (jr_of rfl (by omega)) (jr_of rfl (by omega)) (by omega) J Sm D EV)
set_option maxRecDepth 100000 in
set_option maxHeartbeats 4000000 in
theorem ct_X12_isCertified_r125d_6 {Dy : jH → Prop} {h0 : jH} {Q : Option Value → jH → Prop} {dr : Int} (hD : jDk Dy) (hQ : ∀ (v : Int32) hx9, 0 ≤ v.toInt ∧ v.toInt ≤ 1 → jJ jSgM Dy hx9 → jSm fp_X12_isCertified_r125d h0 hx9 → dr = v.toInt → vw hx9 = vw h0 → Q (some (.int v)) hx9) : ∀ r : Nat, ∀ (l1 : Int32) (l2 : Int32) (l3 : Int32) (l4 : Int32) (l5 : Int32) (h : jH), 100 - l5.toInt < (r : Int) → (-1) ≤ l1.toInt ∧ l1.toInt ≤ 599 → 0 ≤ l2.toInt ∧ l2.toInt ≤ 146399 → (-1) ≤ l3.toInt ∧ l3.toInt ≤ 11 → 0 ≤ l4.toInt ∧ l4.toInt ≤ 1 → 0 ≤ l5.toInt ∧ l5.toInt ≤ 100 → jJ jSgM Dy h → jSm fp_X12_isCertified_r125d h0 h → d_X12_isCertified_r125d_6 r l1.toInt l2.toInt l3.toInt l4.toInt l5.toInt (vw h) = dr → vw h = vw h0 → jX m_X12_isCertified 2 0 0 6 [(0, .ref 125), (1, .int l1), (2, .int l2), (3, .int l3), (4, .int l4), (5, .int l5)] [] h 0 0 Q := by
  intro r
  induction r with
  | zero =>
    intro l1 l2 l3 l4 l5 h hm y0 y1 y2 y3 y4   J Sm D EV
    exfalso
    omega
  | succ r ih =>
    intro l1 l2 l3 l4 l5 h hm y0 y1 y2 y3 y4   J Sm D EV
    rw [d_X12_isCertified_r125d_6.eq_2] at D
    refine x_iload (x := l5) rfl rfl ?_
    refine x_aloadn (x := 125) rfl rfl ?_
    refine z_getR (N := 92) (b := 126) 12 2 rfl f_12_8 rfl J rfl 16002 ⟨rfl, rfl⟩ rfl ?_
    refine x_iconst (v := 5) rfl ki_5 ?_
    refine z_iald (N := 50660) rfl J rfl sg_126_5_6_1_0_1 jk_5 (by omega) (fun v1 qv1 ev1 => ?_)
    try rw [vrn (n := 5) (by decide) qv1] at D
    refine x_icge (tgt := 113) rfl rfl (ti_ge rfl rfl ⟨fun c2 => ?_, fun c2 => ?_⟩)
    ·
      rw [if_pos (by omega)] at D
      refine x_iload (x := l4) rfl rfl ?_
      refine x_zret rfl rfl (jz01 (by omega)) ?_
      exact hQ _ _ (jr_of rfl (by omega)) J Sm (D.symm.trans (show l4.toInt = l4.toInt from by omega)) EV
    ·
      rw [if_neg (by omega)] at D
      refine x_iload (x := l4) rfl rfl ?_
      refine x_ifne (tgt := 100) rfl rfl (ti_ne rfl jk_0 ⟨fun c3 => ?_, fun c3 => ?_⟩)
      ·
        rw [if_neg (by omega)] at D
        exact jX.sub (jsb_c rfl (jsb_c rfl (jsb_c rfl (jsb_c rfl (jsb_c rfl jsb_n))))) (ct_X12_isCertified_r125d_100 hD hQ ih l1 l2 l3 l5 h (jr_of rfl (by omega)) (jr_of rfl (by omega)) (jr_of rfl (by omega)) (jr_of rfl (by omega)) (by omega) J Sm D EV)
      ·
        rw [if_pos (by omega)] at D
        refine x_aloadn (x := 125) rfl rfl ?_
        refine x_iload (x := l5) rfl rfl ?_
        refine x_iloadn (x := l1) rfl rfl ?_
        refine x_iconst (v := 4) rfl ki_4 ?_
        refine x_inv (N := m_X12_isFact) (As := [.int l5, .int l1, .int 4]) (b := 125) (st := []) (dx9 := 1) (mc := 0) (ms := 0) (host := "") 12 rfl t_X12_isFact ⟨Or.inl q_12_697, i_X12_isFact.1, i_X12_isFact.2⟩ ⟨by decide, rfl⟩ (congrArg Prod.fst (J.1.1 125 (12, 92) rfl)) rfl (by decide) rfl rfl ⟨by decide, by decide⟩ (jC.of rfl k_X12_isFact rfl ?_)
        show jX m_X12_isFact 1 0 0 0 [(0, .ref 125), (1, .int l5), (2, .int l1), (3, .int 4)] [] _ 0 0 _
        refine x_ldcw (v := 46540) rfl z_12_700 ?_
        refine x_bipush (v := 6) rfl kb_6 ?_
        refine x_iloadn (x := l5) rfl rfl ?_
        refine z_imul rfl jk_6 rfl (by omega) (fun v4 ev4 => ?_)
        refine z_iadd rfl jk_46540 rfl (by omega) (fun v5 ev5 => ?_)
        refine x_istore (lsx9 := [(4, .int v5), (0, .ref 125), (1, .int l5), (2, .int l1), (3, .int 4)]) rfl rfl rfl ?_
        refine x_aloadn (x := 125) rfl rfl ?_
        refine z_getR (N := 92) (b := 126) 12 2 rfl f_12_8 rfl J rfl 16002 ⟨rfl, rfl⟩ rfl ?_
        refine x_iload (x := v5) rfl rfl ?_
        refine x_iconst (v := 5) rfl ki_5 ?_
        refine z_iadd rfl rfl jk_5 (by omega) (fun v6 ev6 => ?_)
        refine z_iald (N := 50660) rfl J rfl sg_126_46540_47140_6_5_6 rfl (by omega) (fun v7 qv7 ev7 => ?_)
        try rw [vrd qv7 (show ((46540 + (6 * l5.toInt)) + 5) = v6.toInt from by omega)] at D
        refine x_aloadn (x := 125) rfl rfl ?_
        refine z_getI (N := 92) 12 28 rfl f_12_377 rfl J rfl sg_125_28_29_1_0_1 (fun v8 qv8 ev8 => ?_)
        try rw [vrf qv8] at D
        refine x_icgt (tgt := 59) rfl rfl (ti_gt rfl rfl ⟨fun c9 => ?_, fun c9 => ?_⟩)
        ·
          rw [if_pos (by omega)] at D
          refine x_iconst (v := 0) rfl ki_0 ?_
          refine x_zret rfl rfl (by decide) ?_
          show jX m_X12_isCertified 2 0 0 30 [(0, .ref 125), (1, .int l1), (2, .int l2), (3, .int l3), (4, .int l4), (5, .int l5)] [.int 0] _ 0 0 _
          refine x_ifeq (tgt := 104) rfl rfl (ti_eq jk_0 jk_0 (br_t (by omega) ?_))
          exact jX.sub (jsb_c rfl (jsb_c rfl (jsb_c rfl (jsb_c rfl (jsb_c rfl jsb_n))))) (ct_X12_isCertified_r125d_104 hD hQ ih l1 l2 l3 l5 h (jr_of rfl (by omega)) (jr_of rfl (by omega)) (jr_of rfl (by omega)) (jr_of rfl (by omega)) (by omega) J Sm D EV)
        ·
          rw [if_neg (by omega)] at D
          refine x_aloadn (x := 125) rfl rfl ?_
          refine z_getR (N := 92) (b := 126) 12 2 rfl f_12_8 rfl J rfl 16002 ⟨rfl, rfl⟩ rfl ?_
          refine x_iload (x := v5) rfl rfl ?_
          refine x_iconst (v := 1) rfl ki_1 ?_
          refine z_iadd rfl rfl jk_1 (by omega) (fun v10 ev10 => ?_)
          refine z_iald (N := 50660) rfl J rfl sg_126_46540_47140_6_1_2 rfl (by omega) (fun v11 qv11 ev11 => ?_)
          try rw [vrd qv11 (show ((46540 + (6 * l5.toInt)) + 1) = v10.toInt from by omega)] at D
          refine x_iloadn (x := 4) rfl rfl ?_
          refine x_icne (tgt := 59) rfl rfl (ti_ne rfl jk_4 ⟨fun c12 => ?_, fun c12 => ?_⟩)
          ·
            rw [if_neg (by omega)] at D
            refine x_iconst (v := 0) rfl ki_0 ?_
            refine x_zret rfl rfl (by decide) ?_
            show jX m_X12_isCertified 2 0 0 30 [(0, .ref 125), (1, .int l1), (2, .int l2), (3, .int l3), (4, .int l4), (5, .int l5)] [.int 0] _ 0 0 _
            refine x_ifeq (tgt := 104) rfl rfl (ti_eq jk_0 jk_0 (br_t (by omega) ?_))
            exact jX.sub (jsb_c rfl (jsb_c rfl (jsb_c rfl (jsb_c rfl (jsb_c rfl jsb_n))))) (ct_X12_isCertified_r125d_104 hD hQ ih l1 l2 l3 l5 h (jr_of rfl (by omega)) (jr_of rfl (by omega)) (jr_of rfl (by omega)) (jr_of rfl (by omega)) (by omega) J Sm D EV)
          ·
            rw [if_pos (by omega)] at D
            refine x_aloadn (x := 125) rfl rfl ?_
            refine z_getR (N := 92) (b := 139) 12 29 rfl f_12_72 rfl J rfl 16029 ⟨rfl, rfl⟩ rfl ?_
            refine x_aloadn (x := 125) rfl rfl ?_
            refine z_getR (N := 92) (b := 126) 12 2 rfl f_12_8 rfl J rfl 16002 ⟨rfl, rfl⟩ rfl ?_
            refine x_iload (x := v5) rfl rfl ?_
            refine z_iald (N := 50660) rfl J rfl sg_126_46540_47140_6_0_1 rfl (by omega) (fun v13 qv13 ev13 => ?_)
            try rw [vrd qv13 (show (46540 + (6 * l5.toInt)) = v5.toInt from by omega)] at D
            refine z_iald (N := 600) rfl J rfl sg_139_0_600_1_0_1 rfl (by omega) (fun v14 qv14 ev14 => ?_)
            try rw [vrd qv14 (show v13.toInt = v13.toInt from by omega)] at D
            refine x_iloadn (x := l1) rfl rfl ?_
            refine x_icne (tgt := 59) rfl rfl (ti_ne rfl rfl ⟨fun c15 => ?_, fun c15 => ?_⟩)
            ·
              rw [if_neg (by omega)] at D
              refine x_iconst (v := 0) rfl ki_0 ?_
              refine x_zret rfl rfl (by decide) ?_
              show jX m_X12_isCertified 2 0 0 30 [(0, .ref 125), (1, .int l1), (2, .int l2), (3, .int l3), (4, .int l4), (5, .int l5)] [.int 0] _ 0 0 _
              refine x_ifeq (tgt := 104) rfl rfl (ti_eq jk_0 jk_0 (br_t (by omega) ?_))
              exact jX.sub (jsb_c rfl (jsb_c rfl (jsb_c rfl (jsb_c rfl (jsb_c rfl jsb_n))))) (ct_X12_isCertified_r125d_104 hD hQ ih l1 l2 l3 l5 h (jr_of rfl (by omega)) (jr_of rfl (by omega)) (jr_of rfl (by omega)) (jr_of rfl (by omega)) (by omega) J Sm D EV)
            ·
              rw [if_pos (by omega)] at D
              refine x_iconst (v := 1) rfl ki_1 ?_
              refine x_goto (tgt := 60) rfl rfl ?_
              refine x_zret rfl rfl (by decide) ?_
              show jX m_X12_isCertified 2 0 0 30 [(0, .ref 125), (1, .int l1), (2, .int l2), (3, .int l3), (4, .int l4), (5, .int l5)] [.int 1] _ 0 0 _
              refine x_ifeq (tgt := 104) rfl rfl (ti_eq jk_1 jk_0 (br_f (by omega) ?_))
              refine x_iloadn (x := l2) rfl rfl ?_
              refine z_i2l rfl rfl (fun v16 ev16 => ?_)
              refine x_aloadn (x := 125) rfl rfl ?_
              refine z_getR (N := 92) (b := 126) 12 2 rfl f_12_8 rfl J rfl 16002 ⟨rfl, rfl⟩ rfl ?_
              refine x_ldcw (v := 46540) rfl z_12_700 ?_
              refine x_bipush (v := 6) rfl kb_6 ?_
              refine x_iload (x := l5) rfl rfl ?_
              refine z_imul rfl jk_6 rfl (by omega) (fun v17 ev17 => ?_)
              refine z_iadd rfl jk_46540 rfl (by omega) (fun v18 ev18 => ?_)
              refine x_iconst (v := 3) rfl ki_3 ?_
              refine z_iadd rfl rfl jk_3 (by omega) (fun v19 ev19 => ?_)
              refine z_iald (N := 50660) rfl J rfl sg_126_46540_47140_6_3_4 rfl (by omega) (fun v20 qv20 ev20 => ?_)
              try rw [vrd qv20 (show ((46540 + (6 * l5.toInt)) + 3) = v19.toInt from by omega)] at D
              refine z_i2l rfl rfl (fun v21 ev21 => ?_)
              refine x_aloadn (x := 125) rfl rfl ?_
              refine z_getR (N := 92) (b := 126) 12 2 rfl f_12_8 rfl J rfl 16002 ⟨rfl, rfl⟩ rfl ?_
              refine x_ldcw (v := 46540) rfl z_12_700 ?_
              refine x_bipush (v := 6) rfl kb_6 ?_
              refine x_iload (x := l5) rfl rfl ?_
              refine z_imul rfl jk_6 rfl (by omega) (fun v22 ev22 => ?_)
              refine z_iadd rfl jk_46540 rfl (by omega) (fun v23 ev23 => ?_)
              refine x_iconst (v := 4) rfl ki_4 ?_
              refine z_iadd rfl rfl jk_4 (by omega) (fun v24 ev24 => ?_)
              refine z_iald (N := 50660) rfl J rfl sg_126_46540_47140_6_4_5 rfl (by omega) (fun v25 qv25 ev25 => ?_)
              try rw [vrd qv25 (show ((46540 + (6 * l5.toInt)) + 4) = v24.toInt from by omega)] at D
              refine z_i2l rfl rfl (fun v26 ev26 => ?_)
              refine x_inst (N := m_X12_in) (As := [.long v16, .long v21, .long v26]) (st := []) (dx9 := 1) (mc := 0) (ms := 0) (host := "") rfl t_X12_in ⟨Or.inl q_12_188, s_X12_in⟩ rfl (by decide) rfl rfl ⟨by decide, by decide⟩ (zc_X12_in rfl rfl rfl (fun v27 ev27 => ?_))
              show jX m_X12_isCertified 2 0 0 72 [(0, .ref 125), (1, .int l1), (2, .int l2), (3, .int l3), (4, .int l4), (5, .int l5)] [.int v27] _ 0 0 _
              refine x_ifeq (tgt := 104) rfl rfl (ti_eq rfl jk_0 ⟨fun c28 => ?_, fun c28 => ?_⟩)
              ·
                rw [if_neg (by omega)] at D
                exact jX.sub (jsb_c rfl (jsb_c rfl (jsb_c rfl (jsb_c rfl (jsb_c rfl jsb_n))))) (ct_X12_isCertified_r125d_104 hD hQ ih l1 l2 l3 l5 h (jr_of rfl (by omega)) (jr_of rfl (by omega)) (jr_of rfl (by omega)) (jr_of rfl (by omega)) (by omega) J Sm D EV)
              ·
                rw [if_pos (by omega)] at D
                refine x_iloadn (x := l3) rfl rfl ?_
                refine x_iconst (v := (-1)) rfl ki_m1 ?_
                refine x_iceq (tgt := 100) rfl rfl (ti_eq rfl jk_m1 ⟨fun c29 => ?_, fun c29 => ?_⟩)
                ·
                  rw [if_pos (by omega)] at D
                  exact jX.sub (jsb_c rfl (jsb_c rfl (jsb_c rfl (jsb_c rfl (jsb_c rfl jsb_n))))) (ct_X12_isCertified_r125d_100 hD hQ ih l1 l2 l3 l5 h (jr_of rfl (by omega)) (jr_of rfl (by omega)) (jr_of rfl (by omega)) (jr_of rfl (by omega)) (by omega) J Sm D EV)
                ·
                  rw [if_neg (by omega)] at D
                  refine x_aloadn (x := 125) rfl rfl ?_
                  refine z_getR (N := 92) (b := 126) 12 2 rfl f_12_8 rfl J rfl 16002 ⟨rfl, rfl⟩ rfl ?_
                  refine x_ldcw (v := 46540) rfl z_12_700 ?_
                  refine x_bipush (v := 6) rfl kb_6 ?_
                  refine x_iload (x := l5) rfl rfl ?_
                  refine z_imul rfl jk_6 rfl (by omega) (fun v30 ev30 => ?_)
                  refine z_iadd rfl jk_46540 rfl (by omega) (fun v31 ev31 => ?_)
                  refine x_iconst (v := 2) rfl ki_2 ?_
                  refine z_iadd rfl rfl jk_2 (by omega) (fun v32 ev32 => ?_)
                  refine z_iald (N := 50660) rfl J rfl sg_126_46540_47140_6_2_3 rfl (by omega) (fun v33 qv33 ev33 => ?_)
                  try rw [vrd qv33 (show ((46540 + (6 * l5.toInt)) + 2) = v32.toInt from by omega)] at D
                  refine x_iloadn (x := l3) rfl rfl ?_
                  refine x_icne (tgt := 104) rfl rfl (ti_ne rfl rfl ⟨fun c34 => ?_, fun c34 => ?_⟩)
                  ·
                    rw [if_neg (by omega)] at D
                    exact jX.sub (jsb_c rfl (jsb_c rfl (jsb_c rfl (jsb_c rfl (jsb_c rfl jsb_n))))) (ct_X12_isCertified_r125d_104 hD hQ ih l1 l2 l3 l5 h (jr_of rfl (by omega)) (jr_of rfl (by omega)) (jr_of rfl (by omega)) (jr_of rfl (by omega)) (by omega) J Sm D EV)
                  ·
                    rw [if_pos (by omega)] at D
                    exact jX.sub (jsb_c rfl (jsb_c rfl (jsb_c rfl (jsb_c rfl (jsb_c rfl jsb_n))))) (ct_X12_isCertified_r125d_100 hD hQ ih l1 l2 l3 l5 h (jr_of rfl (by omega)) (jr_of rfl (by omega)) (jr_of rfl (by omega)) (jr_of rfl (by omega)) (by omega) J Sm D EV)
set_option maxRecDepth 100000 in
set_option maxHeartbeats 4000000 in
theorem sf_X12_isCertified_r125d {Dy : jH → Prop} {h : jH} {Q : Option Value → jH → Prop} {dr : Int} {a1 : Int32} {a2 : Int32} {a3 : Int32} (y1 : (-1) ≤ a1.toInt ∧ a1.toInt ≤ 599) (y2 : 0 ≤ a2.toInt ∧ a2.toInt ≤ 146399) (y3 : (-1) ≤ a3.toInt ∧ a3.toInt ≤ 11) (hD : jDk Dy) (J : jJ jSgM Dy h) (D : d_X12_isCertified_r125d a1.toInt a2.toInt a3.toInt (vw h) = dr) (hQ : ∀ (v : Int32) hx9, 0 ≤ v.toInt ∧ v.toInt ≤ 1 → jJ jSgM Dy hx9 → jSm fp_X12_isCertified_r125d h hx9 → dr = v.toInt → vw hx9 = vw h → Q (some (.int v)) hx9) : jC m_X12_isCertified 2 0 0 [.ref 125, .int a1, .int a2, .int a3] h Q := by
  refine jC.of rfl k_X12_isCertified rfl ?_
  have Sm := jSm_rf fp_X12_isCertified_r125d h
  show jX m_X12_isCertified 2 0 0 0 [(0, .ref 125), (1, .int a1), (2, .int a2), (3, .int a3)] [] _ 0 0 _
  unfold d_X12_isCertified_r125d at D
  have EV : vw h = vw h := rfl
  refine x_iconst (v := 0) rfl ki_0 ?_
  refine x_istore (lsx9 := [(4, .int 0), (0, .ref 125), (1, .int a1), (2, .int a2), (3, .int a3)]) rfl rfl rfl ?_
  refine x_iconst (v := 0) rfl ki_0 ?_
  refine x_istore (lsx9 := [(5, .int 0), (4, .int 0), (0, .ref 125), (1, .int a1), (2, .int a2), (3, .int a3)]) rfl rfl rfl ?_
  exact jX.sub (jsb_c rfl (jsb_c rfl (jsb_c rfl (jsb_c rfl (jsb_c rfl (jsb_c rfl jsb_n)))))) (ct_X12_isCertified_r125d_6 hD hQ  101 a1 a2 a3 0 0 h (by have := jk_0; omega) (jr_of rfl (by omega)) (jr_of rfl (by omega)) (jr_of rfl (by omega)) (jr_of jk_0 (by omega)) (jr_of jk_0 (by omega)) J Sm (by rw [jk_0]; exact D) EV)
def fp_X12_reliefOf_r125d : jFp := []
set_option maxRecDepth 100000 in
set_option maxHeartbeats 4000000 in
theorem ct_X12_reliefOf_r125d_69 {Dy : jH → Prop} {h0 : jH} {Q : Option Value → jH → Prop} {dr : Int} {K6 : Int → Int → Int → Int → Int → jW → Int} {R6 : Int} (hD : jDk Dy) (hQ : ∀ (v : Int32) hx9, jJ jSgM Dy hx9 → jSm fp_X12_reliefOf_r125d h0 hx9 → dr = v.toInt → vw hx9 = vw h0 → Q (some (.int v)) hx9) (k6 : ∀ (l1 : Int32) (l2 : Int32) (l3 : Int32) (l4 : Int32) (l5 : Int32) (h : jH), 200 - l5.toInt < R6 → (-1) ≤ l1.toInt ∧ l1.toInt ≤ 599 → (-365) ≤ l2.toInt ∧ l2.toInt ≤ 146399 → 0 ≤ l3.toInt ∧ l3.toInt ≤ 146399 → 0 ≤ l5.toInt ∧ l5.toInt ≤ 200 → jJ jSgM Dy h → jSm fp_X12_reliefOf_r125d h0 h → K6 l1.toInt l2.toInt l3.toInt l4.toInt l5.toInt (vw h) = dr → vw h = vw h0 → jX m_X12_reliefOf 3 0 0 6 [(0, .ref 125), (1, .int l1), (2, .int l2), (3, .int l3), (4, .int l4), (5, .int l5)] [] h 0 0 Q) : ∀ (l1 : Int32) (l2 : Int32) (l3 : Int32) (l5 : Int32) (s0 : Int32) (s1 : Int32) (h : jH), (-1) ≤ l1.toInt ∧ l1.toInt ≤ 599 → (-365) ≤ l2.toInt ∧ l2.toInt ≤ 146399 → 0 ≤ l3.toInt ∧ l3.toInt ≤ 146399 → 0 ≤ l5.toInt ∧ l5.toInt ≤ 199 → 200 - l5.toInt ≤ R6 → jJ jSgM Dy h → jSm fp_X12_reliefOf_r125d h0 h → d_X12_reliefOf_r125d_69 K6  l1.toInt l2.toInt l3.toInt l5.toInt s0.toInt s1.toInt (vw h) = dr → vw h = vw h0 → jX m_X12_reliefOf 3 0 0 69 [(0, .ref 125), (1, .int l1), (2, .int l2), (3, .int l3), (5, .int l5)] [.int s0, .int s1] h 0 0 Q := by
  intro l1 l2 l3 l5 s0 s1 h y0 y1 y2 y3  m6 J Sm D EV
  have es0 := jfull s0
  have es1 := jfull s1
  unfold d_X12_reliefOf_r125d_69 at D
  refine z_iaddW rfl rfl rfl (fun v1 ev1 => ?_)
  have fv1 := jfull v1
  try rw [← ev1] at D
  refine x_istore (lsx9 := [(4, .int v1), (0, .ref 125), (1, .int l1), (2, .int l2), (3, .int l3), (5, .int l5)]) rfl rfl rfl ?_
  refine z_iinc (x := l5) (lsx9 := fun v2 => [(5, .int v2), (4, .int v1), (0, .ref 125), (1, .int l1), (2, .int l2), (3, .int l3)]) rfl rfl rfl jko_1 (by omega) rfl (fun _ => rfl) (fun v2 ev2 => ?_)
  refine x_goto (tgt := 6) rfl rfl ?_
  try rw [show (l5.toInt + 1) = v2.toInt from by omega] at D
  exact jX.sub (jsb_c rfl (jsb_c rfl (jsb_c rfl (jsb_c rfl (jsb_c rfl (jsb_c rfl jsb_n)))))) (k6 l1 l2 l3 v1 v2 h (by omega) (jr_of rfl (by omega)) (jr_of rfl (by omega)) (jr_of rfl (by omega)) (jr_of rfl (by omega)) J Sm D EV)
set_option maxRecDepth 100000 in
set_option maxHeartbeats 4000000 in
theorem ct_X12_reliefOf_r125d_200069 {Dy : jH → Prop} {h0 : jH} {Q : Option Value → jH → Prop} {dr : Int} {K6 : Int → Int → Int → Int → Int → jW → Int} {R6 : Int} (hD : jDk Dy) (hQ : ∀ (v : Int32) hx9, jJ jSgM Dy hx9 → jSm fp_X12_reliefOf_r125d h0 hx9 → dr = v.toInt → vw hx9 = vw h0 → Q (some (.int v)) hx9) (k6 : ∀ (l1 : Int32) (l2 : Int32) (l3 : Int32) (l4 : Int32) (l5 : Int32) (h : jH), 200 - l5.toInt < R6 → (-1) ≤ l1.toInt ∧ l1.toInt ≤ 599 → (-365) ≤ l2.toInt ∧ l2.toInt ≤ 146399 → 0 ≤ l3.toInt ∧ l3.toInt ≤ 146399 → 0 ≤ l5.toInt ∧ l5.toInt ≤ 200 → jJ jSgM Dy h → jSm fp_X12_reliefOf_r125d h0 h → K6 l1.toInt l2.toInt l3.toInt l4.toInt l5.toInt (vw h) = dr → vw h = vw h0 → jX m_X12_reliefOf 3 0 0 6 [(0, .ref 125), (1, .int l1), (2, .int l2), (3, .int l3), (4, .int l4), (5, .int l5)] [] h 0 0 Q) : ∀ (l1 : Int32) (l2 : Int32) (l3 : Int32) (l5 : Int32) (s1 : Int32) (h : jH), (-1) ≤ l1.toInt ∧ l1.toInt ≤ 599 → (-365) ≤ l2.toInt ∧ l2.toInt ≤ 146399 → 0 ≤ l3.toInt ∧ l3.toInt ≤ 146399 → 0 ≤ l5.toInt ∧ l5.toInt ≤ 199 → 200 - l5.toInt ≤ R6 → jJ jSgM Dy h → jSm fp_X12_reliefOf_r125d h0 h → d_X12_reliefOf_r125d_200069 K6  l1.toInt l2.toInt l3.toInt l5.toInt s1.toInt (vw h) = dr → vw h = vw h0 → jX m_X12_reliefOf 3 0 0 69 [(0, .ref 125), (1, .int l1), (2, .int l2), (3, .int l3), (5, .int l5)] [.int 0, .int s1] h 0 0 Q := by
  intro l1 l2 l3 l5 s1 h y0 y1 y2 y3  m6 J Sm D EV
  have es1 := jfull s1
  unfold d_X12_reliefOf_r125d_200069 at D
  refine z_iadd rfl rfl jk_0 (by omega) (fun v1 ev1 => ?_)
  refine x_istore (lsx9 := [(4, .int v1), (0, .ref 125), (1, .int l1), (2, .int l2), (3, .int l3), (5, .int l5)]) rfl rfl rfl ?_
  refine z_iinc (x := l5) (lsx9 := fun v2 => [(5, .int v2), (4, .int v1), (0, .ref 125), (1, .int l1), (2, .int l2), (3, .int l3)]) rfl rfl rfl jko_1 (by omega) rfl (fun _ => rfl) (fun v2 ev2 => ?_)
  refine x_goto (tgt := 6) rfl rfl ?_
  try rw [show (s1.toInt + 0) = v1.toInt from by omega] at D
  try rw [show (l5.toInt + 1) = v2.toInt from by omega] at D
  exact jX.sub (jsb_c rfl (jsb_c rfl (jsb_c rfl (jsb_c rfl (jsb_c rfl (jsb_c rfl jsb_n)))))) (k6 l1 l2 l3 v1 v2 h (by omega) (jr_of rfl (by omega)) (jr_of rfl (by omega)) (jr_of rfl (by omega)) (jr_of rfl (by omega)) J Sm D EV)
set_option maxRecDepth 100000 in
set_option maxHeartbeats 4000000 in
theorem ct_X12_reliefOf_r125d_68 {Dy : jH → Prop} {h0 : jH} {Q : Option Value → jH → Prop} {dr : Int} {K6 : Int → Int → Int → Int → Int → jW → Int} {R6 : Int} (hD : jDk Dy) (hQ : ∀ (v : Int32) hx9, jJ jSgM Dy hx9 → jSm fp_X12_reliefOf_r125d h0 hx9 → dr = v.toInt → vw hx9 = vw h0 → Q (some (.int v)) hx9) (k6 : ∀ (l1 : Int32) (l2 : Int32) (l3 : Int32) (l4 : Int32) (l5 : Int32) (h : jH), 200 - l5.toInt < R6 → (-1) ≤ l1.toInt ∧ l1.toInt ≤ 599 → (-365) ≤ l2.toInt ∧ l2.toInt ≤ 146399 → 0 ≤ l3.toInt ∧ l3.toInt ≤ 146399 → 0 ≤ l5.toInt ∧ l5.toInt ≤ 200 → jJ jSgM Dy h → jSm fp_X12_reliefOf_r125d h0 h → K6 l1.toInt l2.toInt l3.toInt l4.toInt l5.toInt (vw h) = dr → vw h = vw h0 → jX m_X12_reliefOf 3 0 0 6 [(0, .ref 125), (1, .int l1), (2, .int l2), (3, .int l3), (4, .int l4), (5, .int l5)] [] h 0 0 Q) : ∀ (l1 : Int32) (l2 : Int32) (l3 : Int32) (l5 : Int32) (s0 : Int32) (h : jH), (-1) ≤ l1.toInt ∧ l1.toInt ≤ 599 → (-365) ≤ l2.toInt ∧ l2.toInt ≤ 146399 → 0 ≤ l3.toInt ∧ l3.toInt ≤ 146399 → 0 ≤ l5.toInt ∧ l5.toInt ≤ 199 → 200 - l5.toInt ≤ R6 → jJ jSgM Dy h → jSm fp_X12_reliefOf_r125d h0 h → d_X12_reliefOf_r125d_68 K6  l1.toInt l2.toInt l3.toInt l5.toInt s0.toInt (vw h) = dr → vw h = vw h0 → jX m_X12_reliefOf 3 0 0 68 [(0, .ref 125), (1, .int l1), (2, .int l2), (3, .int l3), (5, .int l5)] [.int s0] h 0 0 Q := by
  intro l1 l2 l3 l5 s0 h y0 y1 y2 y3  m6 J Sm D EV
  have es0 := jfull s0
  unfold d_X12_reliefOf_r125d_68 at D
  refine x_iconst (v := 0) rfl ki_0 ?_
  exact jX.sub (jsb_c rfl (jsb_c rfl (jsb_c rfl (jsb_c rfl (jsb_c rfl jsb_n))))) (ct_X12_reliefOf_r125d_200069 hD hQ k6 l1 l2 l3 l5 s0 h (jr_of rfl (by omega)) (jr_of rfl (by omega)) (jr_of rfl (by omega)) (jr_of rfl (by omega)) (by omega) J Sm D EV)
set_option maxRecDepth 100000 in
set_option maxHeartbeats 4000000 in
theorem ct_X12_reliefOf_r125d_6 {Dy : jH → Prop} {h0 : jH} {Q : Option Value → jH → Prop} {dr : Int} (hD : jDk Dy) (hQ : ∀ (v : Int32) hx9, jJ jSgM Dy hx9 → jSm fp_X12_reliefOf_r125d h0 hx9 → dr = v.toInt → vw hx9 = vw h0 → Q (some (.int v)) hx9) : ∀ r : Nat, ∀ (l1 : Int32) (l2 : Int32) (l3 : Int32) (l4 : Int32) (l5 : Int32) (h : jH), 200 - l5.toInt < (r : Int) → (-1) ≤ l1.toInt ∧ l1.toInt ≤ 599 → (-365) ≤ l2.toInt ∧ l2.toInt ≤ 146399 → 0 ≤ l3.toInt ∧ l3.toInt ≤ 146399 → 0 ≤ l5.toInt ∧ l5.toInt ≤ 200 → jJ jSgM Dy h → jSm fp_X12_reliefOf_r125d h0 h → d_X12_reliefOf_r125d_6 r l1.toInt l2.toInt l3.toInt l4.toInt l5.toInt (vw h) = dr → vw h = vw h0 → jX m_X12_reliefOf 3 0 0 6 [(0, .ref 125), (1, .int l1), (2, .int l2), (3, .int l3), (4, .int l4), (5, .int l5)] [] h 0 0 Q := by
  intro r
  induction r with
  | zero =>
    intro l1 l2 l3 l4 l5 h hm y0 y1 y2 y3   J Sm D EV
    exfalso
    have el4 := jfull l4
    omega
  | succ r ih =>
    intro l1 l2 l3 l4 l5 h hm y0 y1 y2 y3   J Sm D EV
    have el4 := jfull l4
    rw [d_X12_reliefOf_r125d_6.eq_2] at D
    refine x_iload (x := l5) rfl rfl ?_
    refine x_aloadn (x := 125) rfl rfl ?_
    refine z_getR (N := 92) (b := 126) 12 2 rfl f_12_8 rfl J rfl 16002 ⟨rfl, rfl⟩ rfl ?_
    refine x_iconst (v := 0) rfl ki_0 ?_
    refine z_iald (N := 50660) rfl J rfl sg_126_0_1_1_0_1 jk_0 (by omega) (fun v1 qv1 ev1 => ?_)
    try rw [vrn (n := 0) (by decide) qv1] at D
    refine x_icge (tgt := 78) rfl rfl (ti_ge rfl rfl ⟨fun c2 => ?_, fun c2 => ?_⟩)
    ·
      rw [if_pos (by omega)] at D
      refine x_iload (x := l4) rfl rfl ?_
      refine x_iret rfl rfl ?_
      exact hQ _ _ J Sm (D.symm.trans (show l4.toInt = l4.toInt from by omega)) EV
    ·
      rw [if_neg (by omega)] at D
      refine x_iload (x := l4) rfl rfl ?_
      refine x_aloadn (x := 125) rfl rfl ?_
      refine x_iload (x := l5) rfl rfl ?_
      refine x_inv (N := m_X12_bookOf) (As := [.int l5]) (b := 125) (st := [.int l4]) (dx9 := 2) (mc := 0) (ms := 0) (host := "") 12 rfl t_X12_bookOf ⟨Or.inl q_12_299, i_X12_bookOf.1, i_X12_bookOf.2⟩ ⟨by decide, rfl⟩ (congrArg Prod.fst (J.1.1 125 (12, 92) rfl)) rfl (by decide) rfl rfl ⟨by decide, by decide⟩ (jC.of rfl k_X12_bookOf rfl ?_)
      show jX m_X12_bookOf 2 0 0 0 [(0, .ref 125), (1, .int l5)] [] _ 0 0 _
      refine x_aloadn (x := 125) rfl rfl ?_
      refine z_getR (N := 92) (b := 126) 12 2 rfl f_12_8 rfl J rfl 16002 ⟨rfl, rfl⟩ rfl ?_
      refine x_aloadn (x := 125) rfl rfl ?_
      refine x_iloadn (x := l5) rfl rfl ?_
      refine x_inv (N := m_X12_at) (As := [.int l5]) (b := 125) (st := [.ref 126]) (dx9 := 1) (mc := 0) (ms := 0) (host := "") 12 rfl t_X12_at ⟨Or.inl q_12_254, i_X12_at.1, i_X12_at.2⟩ ⟨by decide, rfl⟩ (congrArg Prod.fst (J.1.1 125 (12, 92) rfl)) rfl (by decide) rfl rfl ⟨by decide, by decide⟩ (jC.of rfl k_X12_at rfl ?_)
      show jX m_X12_at 1 0 0 0 [(0, .ref 125), (1, .int l5)] [] _ 0 0 _
      refine x_bipush (v := 20) rfl kb_20 ?_
      refine x_bipush (v := 90) rfl kb_90 ?_
      refine x_iloadn (x := l5) rfl rfl ?_
      refine z_imul rfl jk_90 rfl (by omega) (fun v3 ev3 => ?_)
      refine z_iadd rfl jk_20 rfl (by omega) (fun v4 ev4 => ?_)
      refine x_iret rfl rfl ?_
      show jX m_X12_bookOf 2 0 0 9 [(0, .ref 125), (1, .int l5)] [.int v4, .ref 126] _ 0 0 _
      refine z_iald (N := 50660) rfl J rfl sg_126_20_18020_90_0_1 rfl (by omega) (fun v5 qv5 ev5 => ?_)
      try rw [vrd qv5 (show (20 + (90 * l5.toInt)) = v4.toInt from by omega)] at D
      refine x_iret rfl rfl ?_
      show jX m_X12_reliefOf 3 0 0 25 [(0, .ref 125), (1, .int l1), (2, .int l2), (3, .int l3), (4, .int l4), (5, .int l5)] [.int v5, .int l4] _ 0 0 _
      refine x_iconst (v := 4) rfl ki_4 ?_
      refine x_icne (tgt := 68) rfl rfl (ti_ne rfl jk_4 ⟨fun c6 => ?_, fun c6 => ?_⟩)
      ·
        rw [if_neg (by omega)] at D
        exact jX.sub (jsb_c rfl (jsb_c rfl (jsb_c rfl (jsb_c rfl (jsb_c rfl jsb_n))))) (ct_X12_reliefOf_r125d_68 hD hQ ih l1 l2 l3 l5 l4 h (jr_of rfl (by omega)) (jr_of rfl (by omega)) (jr_of rfl (by omega)) (jr_of rfl (by omega)) (by omega) J Sm D EV)
      ·
        rw [if_pos (by omega)] at D
        refine x_aloadn (x := 125) rfl rfl ?_
        refine z_getR (N := 92) (b := 139) 12 29 rfl f_12_72 rfl J rfl 16029 ⟨rfl, rfl⟩ rfl ?_
        refine x_iconst (v := 3) rfl ki_3 ?_
        refine x_iload (x := l5) rfl rfl ?_
        refine z_imul rfl jk_3 rfl (by omega) (fun v7 ev7 => ?_)
        refine z_iald (N := 600) rfl J rfl sg_139_0_600_1_0_1 rfl (by omega) (fun v8 qv8 ev8 => ?_)
        try rw [vrd qv8 (show (3 * l5.toInt) = v7.toInt from by omega)] at D
        refine x_iloadn (x := l1) rfl rfl ?_
        refine x_icne (tgt := 68) rfl rfl (ti_ne rfl rfl ⟨fun c9 => ?_, fun c9 => ?_⟩)
        ·
          rw [if_neg (by omega)] at D
          exact jX.sub (jsb_c rfl (jsb_c rfl (jsb_c rfl (jsb_c rfl (jsb_c rfl jsb_n))))) (ct_X12_reliefOf_r125d_68 hD hQ ih l1 l2 l3 l5 l4 h (jr_of rfl (by omega)) (jr_of rfl (by omega)) (jr_of rfl (by omega)) (jr_of rfl (by omega)) (by omega) J Sm D EV)
        ·
          rw [if_pos (by omega)] at D
          refine x_aloadn (x := 125) rfl rfl ?_
          refine x_iload (x := l5) rfl rfl ?_
          refine x_inv (N := m_X12_dayOf) (As := [.int l5]) (b := 125) (st := [.int l4]) (dx9 := 2) (mc := 0) (ms := 0) (host := "") 12 rfl t_X12_dayOf ⟨Or.inl q_12_335, i_X12_dayOf.1, i_X12_dayOf.2⟩ ⟨by decide, rfl⟩ (congrArg Prod.fst (J.1.1 125 (12, 92) rfl)) rfl (by decide) rfl rfl ⟨by decide, by decide⟩ (jC.of rfl k_X12_dayOf rfl ?_)
          show jX m_X12_dayOf 2 0 0 0 [(0, .ref 125), (1, .int l5)] [] _ 0 0 _
          refine x_aloadn (x := 125) rfl rfl ?_
          refine z_getR (N := 92) (b := 126) 12 2 rfl f_12_8 rfl J rfl 16002 ⟨rfl, rfl⟩ rfl ?_
          refine x_aloadn (x := 125) rfl rfl ?_
          refine x_iloadn (x := l5) rfl rfl ?_
          refine x_inv (N := m_X12_at) (As := [.int l5]) (b := 125) (st := [.ref 126]) (dx9 := 1) (mc := 0) (ms := 0) (host := "") 12 rfl t_X12_at ⟨Or.inl q_12_254, i_X12_at.1, i_X12_at.2⟩ ⟨by decide, rfl⟩ (congrArg Prod.fst (J.1.1 125 (12, 92) rfl)) rfl (by decide) rfl rfl ⟨by decide, by decide⟩ (jC.of rfl k_X12_at rfl ?_)
          show jX m_X12_at 1 0 0 0 [(0, .ref 125), (1, .int l5)] [] _ 0 0 _
          refine x_bipush (v := 20) rfl kb_20 ?_
          refine x_bipush (v := 90) rfl kb_90 ?_
          refine x_iloadn (x := l5) rfl rfl ?_
          refine z_imul rfl jk_90 rfl (by omega) (fun v10 ev10 => ?_)
          refine z_iadd rfl jk_20 rfl (by omega) (fun v11 ev11 => ?_)
          refine x_iret rfl rfl ?_
          show jX m_X12_dayOf 2 0 0 9 [(0, .ref 125), (1, .int l5)] [.int v11, .ref 126] _ 0 0 _
          refine x_iconst (v := 2) rfl ki_2 ?_
          refine z_iadd rfl rfl jk_2 (by omega) (fun v12 ev12 => ?_)
          refine z_iald (N := 50660) rfl J rfl sg_126_20_18020_90_2_3 rfl (by omega) (fun v13 qv13 ev13 => ?_)
          try rw [vrd qv13 (show ((20 + (90 * l5.toInt)) + 2) = v12.toInt from by omega)] at D
          refine x_iret rfl rfl ?_
          show jX m_X12_reliefOf 3 0 0 48 [(0, .ref 125), (1, .int l1), (2, .int l2), (3, .int l3), (4, .int l4), (5, .int l5)] [.int v13, .int l4] _ 0 0 _
          refine z_i2l rfl rfl (fun v14 ev14 => ?_)
          refine x_iloadn (x := l2) rfl rfl ?_
          refine z_i2l rfl rfl (fun v15 ev15 => ?_)
          refine x_iloadn (x := l3) rfl rfl ?_
          refine z_i2l rfl rfl (fun v16 ev16 => ?_)
          refine x_inst (N := m_X12_in) (As := [.long v14, .long v15, .long v16]) (st := [.int l4]) (dx9 := 1) (mc := 0) (ms := 0) (host := "") rfl t_X12_in ⟨Or.inl q_12_188, s_X12_in⟩ rfl (by decide) rfl rfl ⟨by decide, by decide⟩ (zc_X12_in rfl rfl rfl (fun v17 ev17 => ?_))
          show jX m_X12_reliefOf 3 0 0 56 [(0, .ref 125), (1, .int l1), (2, .int l2), (3, .int l3), (4, .int l4), (5, .int l5)] [.int v17, .int l4] _ 0 0 _
          refine x_ifeq (tgt := 68) rfl rfl (ti_eq rfl jk_0 ⟨fun c18 => ?_, fun c18 => ?_⟩)
          ·
            rw [if_neg (by omega)] at D
            exact jX.sub (jsb_c rfl (jsb_c rfl (jsb_c rfl (jsb_c rfl (jsb_c rfl jsb_n))))) (ct_X12_reliefOf_r125d_68 hD hQ ih l1 l2 l3 l5 l4 h (jr_of rfl (by omega)) (jr_of rfl (by omega)) (jr_of rfl (by omega)) (jr_of rfl (by omega)) (by omega) J Sm D EV)
          ·
            rw [if_pos (by omega)] at D
            refine x_aloadn (x := 125) rfl rfl ?_
            refine x_iload (x := l5) rfl rfl ?_
            refine x_inv (N := m_X12_numberOf) (As := [.int l5]) (b := 125) (st := [.int l4]) (dx9 := 2) (mc := 0) (ms := 0) (host := "") 12 rfl t_X12_numberOf ⟨Or.inl q_12_296, i_X12_numberOf.1, i_X12_numberOf.2⟩ ⟨by decide, rfl⟩ (congrArg Prod.fst (J.1.1 125 (12, 92) rfl)) rfl (by decide) rfl rfl ⟨by decide, by decide⟩ (jC.of rfl k_X12_numberOf rfl ?_)
            show jX m_X12_numberOf 2 0 0 0 [(0, .ref 125), (1, .int l5)] [] _ 0 0 _
            refine x_aloadn (x := 125) rfl rfl ?_
            refine z_getR (N := 92) (b := 126) 12 2 rfl f_12_8 rfl J rfl 16002 ⟨rfl, rfl⟩ rfl ?_
            refine x_aloadn (x := 125) rfl rfl ?_
            refine x_iloadn (x := l5) rfl rfl ?_
            refine x_inv (N := m_X12_at) (As := [.int l5]) (b := 125) (st := [.ref 126]) (dx9 := 1) (mc := 0) (ms := 0) (host := "") 12 rfl t_X12_at ⟨Or.inl q_12_254, i_X12_at.1, i_X12_at.2⟩ ⟨by decide, rfl⟩ (congrArg Prod.fst (J.1.1 125 (12, 92) rfl)) rfl (by decide) rfl rfl ⟨by decide, by decide⟩ (jC.of rfl k_X12_at rfl ?_)
            show jX m_X12_at 1 0 0 0 [(0, .ref 125), (1, .int l5)] [] _ 0 0 _
            refine x_bipush (v := 20) rfl kb_20 ?_
            refine x_bipush (v := 90) rfl kb_90 ?_
            refine x_iloadn (x := l5) rfl rfl ?_
            refine z_imul rfl jk_90 rfl (by omega) (fun v19 ev19 => ?_)
            refine z_iadd rfl jk_20 rfl (by omega) (fun v20 ev20 => ?_)
            refine x_iret rfl rfl ?_
            show jX m_X12_numberOf 2 0 0 9 [(0, .ref 125), (1, .int l5)] [.int v20, .ref 126] _ 0 0 _
            refine x_iconst (v := 4) rfl ki_4 ?_
            refine z_iadd rfl rfl jk_4 (by omega) (fun v21 ev21 => ?_)
            refine z_iald0 (N := 50660) rfl J rfl rfl (by omega) (fun v22 qv22 => ?_)
            have ev22 := jfull v22
            try rw [vrd qv22 (show ((20 + (90 * l5.toInt)) + 4) = v21.toInt from by omega)] at D
            refine x_iret rfl rfl ?_
            show jX m_X12_reliefOf 3 0 0 65 [(0, .ref 125), (1, .int l1), (2, .int l2), (3, .int l3), (4, .int l4), (5, .int l5)] [.int v22, .int l4] _ 0 0 _
            refine x_goto (tgt := 69) rfl rfl ?_
            exact jX.sub (jsb_c rfl (jsb_c rfl (jsb_c rfl (jsb_c rfl (jsb_c rfl jsb_n))))) (ct_X12_reliefOf_r125d_69 hD hQ ih l1 l2 l3 l5 v22 l4 h (jr_of rfl (by omega)) (jr_of rfl (by omega)) (jr_of rfl (by omega)) (jr_of rfl (by omega)) (by omega) J Sm D EV)
set_option maxRecDepth 100000 in
set_option maxHeartbeats 4000000 in
theorem sf_X12_reliefOf_r125d {Dy : jH → Prop} {h : jH} {Q : Option Value → jH → Prop} {dr : Int} {a1 : Int32} {a2 : Int32} {a3 : Int32} (y1 : (-1) ≤ a1.toInt ∧ a1.toInt ≤ 599) (y2 : (-365) ≤ a2.toInt ∧ a2.toInt ≤ 146399) (y3 : 0 ≤ a3.toInt ∧ a3.toInt ≤ 146399) (hD : jDk Dy) (J : jJ jSgM Dy h) (D : d_X12_reliefOf_r125d a1.toInt a2.toInt a3.toInt (vw h) = dr) (hQ : ∀ (v : Int32) hx9, jJ jSgM Dy hx9 → jSm fp_X12_reliefOf_r125d h hx9 → dr = v.toInt → vw hx9 = vw h → Q (some (.int v)) hx9) : jC m_X12_reliefOf 3 0 0 [.ref 125, .int a1, .int a2, .int a3] h Q := by
  refine jC.of rfl k_X12_reliefOf rfl ?_
  have Sm := jSm_rf fp_X12_reliefOf_r125d h
  show jX m_X12_reliefOf 3 0 0 0 [(0, .ref 125), (1, .int a1), (2, .int a2), (3, .int a3)] [] _ 0 0 _
  unfold d_X12_reliefOf_r125d at D
  have EV : vw h = vw h := rfl
  refine x_iconst (v := 0) rfl ki_0 ?_
  refine x_istore (lsx9 := [(4, .int 0), (0, .ref 125), (1, .int a1), (2, .int a2), (3, .int a3)]) rfl rfl rfl ?_
  refine x_iconst (v := 0) rfl ki_0 ?_
  refine x_istore (lsx9 := [(5, .int 0), (4, .int 0), (0, .ref 125), (1, .int a1), (2, .int a2), (3, .int a3)]) rfl rfl rfl ?_
  exact jX.sub (jsb_c rfl (jsb_c rfl (jsb_c rfl (jsb_c rfl (jsb_c rfl (jsb_c rfl jsb_n)))))) (ct_X12_reliefOf_r125d_6 hD hQ  201 a1 a2 a3 0 0 h (by have := jk_0; omega) (jr_of rfl (by omega)) (jr_of rfl (by omega)) (jr_of rfl (by omega)) (jr_of jk_0 (by omega)) J Sm (by rw [jk_0]; exact D) EV)
def fp_X12_latest_r125_c47260d : jFp := []
set_option maxRecDepth 100000 in
set_option maxHeartbeats 4000000 in
theorem ct_X12_latest_r125_c47260d_101 {Dy : jH → Prop} {h0 : jH} {Q : Option Value → jH → Prop} {dr : Int} {K10 : Int → Int → Int → Int → Int → Int → jW → Int} {R10 : Int} (hD : jDk Dy) (hQ : ∀ (v : Int32) hx9, (-2) ≤ v.toInt ∧ v.toInt ≤ 10000 → jJ jSgM Dy hx9 → jSm fp_X12_latest_r125_c47260d h0 hx9 → dr = v.toInt → vw hx9 = vw h0 → Q (some (.int v)) hx9) (k10 : ∀ (l2 : Int32) (l3 : Int32) (l4 : Int32) (l5 : Int32) (l6 : Int32) (l7 : Int32) (h : jH), 100 - l7.toInt < R10 → 0 ≤ l2.toInt ∧ l2.toInt ≤ 100 → 0 ≤ l3.toInt ∧ l3.toInt ≤ 39 → 0 ≤ l4.toInt ∧ l4.toInt ≤ 146399 → (-2) ≤ l5.toInt ∧ l5.toInt ≤ 10000 → (-1) ≤ l6.toInt ∧ l6.toInt ≤ 146399 → 0 ≤ l7.toInt ∧ l7.toInt ≤ 100 → jJ jSgM Dy h → jSm fp_X12_latest_r125_c47260d h0 h → K10 l2.toInt l3.toInt l4.toInt l5.toInt l6.toInt l7.toInt (vw h) = dr → vw h = vw h0 → jX m_X12_latest 1 0 0 10 [(0, .ref 125), (1, .int 47260), (2, .int l2), (3, .int l3), (4, .int l4), (5, .int l5), (6, .int l6), (7, .int l7)] [] h 0 0 Q) : ∀ (l2 : Int32) (l3 : Int32) (l4 : Int32) (l5 : Int32) (l6 : Int32) (l7 : Int32) (h : jH), 1 ≤ l2.toInt ∧ l2.toInt ≤ 100 → 0 ≤ l3.toInt ∧ l3.toInt ≤ 39 → 0 ≤ l4.toInt ∧ l4.toInt ≤ 146399 → (-2) ≤ l5.toInt ∧ l5.toInt ≤ 10000 → (-1) ≤ l6.toInt ∧ l6.toInt ≤ 146399 → 0 ≤ l7.toInt ∧ l7.toInt ≤ 99 → 100 - l7.toInt ≤ R10 → jJ jSgM Dy h → jSm fp_X12_latest_r125_c47260d h0 h → d_X12_latest_r125_c47260d_101 K10  l2.toInt l3.toInt l4.toInt l5.toInt l6.toInt l7.toInt (vw h) = dr → vw h = vw h0 → jX m_X12_latest 1 0 0 101 [(0, .ref 125), (1, .int 47260), (2, .int l2), (3, .int l3), (4, .int l4), (5, .int l5), (6, .int l6), (7, .int l7)] [] h 0 0 Q := by
  intro l2 l3 l4 l5 l6 l7 h y0 y1 y2 y3 y4 y5  m10 J Sm D EV
  unfold d_X12_latest_r125_c47260d_101 at D
  refine z_iinc (x := l7) (lsx9 := fun v1 => [(7, .int v1), (0, .ref 125), (1, .int 47260), (2, .int l2), (3, .int l3), (4, .int l4), (5, .int l5), (6, .int l6)]) rfl rfl rfl jko_1 (by omega) rfl (fun _ => rfl) (fun v1 ev1 => ?_)
  refine x_goto (tgt := 10) rfl rfl ?_
  try rw [show (l7.toInt + 1) = v1.toInt from by omega] at D
  exact jX.sub (jsb_c rfl (jsb_c rfl (jsb_c rfl (jsb_c rfl (jsb_c rfl (jsb_c rfl (jsb_c rfl (jsb_c rfl jsb_n)))))))) (k10 l2 l3 l4 l5 l6 v1 h (by omega) (jr_of rfl (by omega)) (jr_of rfl (by omega)) (jr_of rfl (by omega)) (jr_of rfl (by omega)) (jr_of rfl (by omega)) (jr_of rfl (by omega)) J Sm D EV)
set_option maxRecDepth 100000 in
set_option maxHeartbeats 4000000 in
theorem ct_X12_latest_r125_c47260d_10 {Dy : jH → Prop} {h0 : jH} {Q : Option Value → jH → Prop} {dr : Int} (hD : jDk Dy) (hQ : ∀ (v : Int32) hx9, (-2) ≤ v.toInt ∧ v.toInt ≤ 10000 → jJ jSgM Dy hx9 → jSm fp_X12_latest_r125_c47260d h0 hx9 → dr = v.toInt → vw hx9 = vw h0 → Q (some (.int v)) hx9) : ∀ r : Nat, ∀ (l2 : Int32) (l3 : Int32) (l4 : Int32) (l5 : Int32) (l6 : Int32) (l7 : Int32) (h : jH), 100 - l7.toInt < (r : Int) → 0 ≤ l2.toInt ∧ l2.toInt ≤ 100 → 0 ≤ l3.toInt ∧ l3.toInt ≤ 39 → 0 ≤ l4.toInt ∧ l4.toInt ≤ 146399 → (-2) ≤ l5.toInt ∧ l5.toInt ≤ 10000 → (-1) ≤ l6.toInt ∧ l6.toInt ≤ 146399 → 0 ≤ l7.toInt ∧ l7.toInt ≤ 100 → jJ jSgM Dy h → jSm fp_X12_latest_r125_c47260d h0 h → d_X12_latest_r125_c47260d_10 r l2.toInt l3.toInt l4.toInt l5.toInt l6.toInt l7.toInt (vw h) = dr → vw h = vw h0 → jX m_X12_latest 1 0 0 10 [(0, .ref 125), (1, .int 47260), (2, .int l2), (3, .int l3), (4, .int l4), (5, .int l5), (6, .int l6), (7, .int l7)] [] h 0 0 Q := by
  intro r
  induction r with
  | zero =>
    intro l2 l3 l4 l5 l6 l7 h hm y0 y1 y2 y3 y4 y5   J Sm D EV
    exfalso
    omega
  | succ r ih =>
    intro l2 l3 l4 l5 l6 l7 h hm y0 y1 y2 y3 y4 y5   J Sm D EV
    rw [d_X12_latest_r125_c47260d_10.eq_2] at D
    refine x_iload (x := l7) rfl rfl ?_
    refine x_iloadn (x := l2) rfl rfl ?_
    refine x_icge (tgt := 107) rfl rfl (ti_ge rfl rfl ⟨fun c1 => ?_, fun c1 => ?_⟩)
    ·
      rw [if_pos (by omega)] at D
      refine x_iload (x := l5) rfl rfl ?_
      refine x_iret rfl rfl ?_
      exact hQ _ _ (jr_of rfl (by omega)) J Sm (D.symm.trans (show l5.toInt = l5.toInt from by omega)) EV
    ·
      rw [if_neg (by omega)] at D
      refine x_iloadn (x := 47260) rfl rfl ?_
      refine x_iconst (v := 4) rfl ki_4 ?_
      refine x_iload (x := l7) rfl rfl ?_
      refine z_imul rfl jk_4 rfl (by omega) (fun v2 ev2 => ?_)
      refine z_iadd rfl jk_47260 rfl (by omega) (fun v3 ev3 => ?_)
      refine x_istore (lsx9 := [(8, .int v3), (0, .ref 125), (1, .int 47260), (2, .int l2), (3, .int l3), (4, .int l4), (5, .int l5), (6, .int l6), (7, .int l7)]) rfl rfl rfl ?_
      refine x_aloadn (x := 125) rfl rfl ?_
      refine z_getR (N := 92) (b := 126) 12 2 rfl f_12_8 rfl J rfl 16002 ⟨rfl, rfl⟩ rfl ?_
      refine x_iload (x := v3) rfl rfl ?_
      refine z_iald (N := 50660) rfl J rfl sg_126_47260_47660_4_0_1 rfl (by omega) (fun v4 qv4 ev4 => ?_)
      try rw [vrd qv4 (show (47260 + (4 * l7.toInt)) = v3.toInt from by omega)] at D
      refine x_iloadn (x := l3) rfl rfl ?_
      refine x_icne (tgt := 101) rfl rfl (ti_ne rfl rfl ⟨fun c5 => ?_, fun c5 => ?_⟩)
      ·
        rw [if_neg (by omega)] at D
        exact jX.sub (jsb_c rfl (jsb_c rfl (jsb_c rfl (jsb_c rfl (jsb_c rfl (jsb_c rfl (jsb_c rfl (jsb_c rfl jsb_n)))))))) (ct_X12_latest_r125_c47260d_101 hD hQ ih l2 l3 l4 l5 l6 l7 h (jr_of rfl (by omega)) (jr_of rfl (by omega)) (jr_of rfl (by omega)) (jr_of rfl (by omega)) (jr_of rfl (by omega)) (jr_of rfl (by omega)) (by omega) J Sm D EV)
      ·
        rw [if_pos (by omega)] at D
        refine x_aloadn (x := 125) rfl rfl ?_
        refine z_getR (N := 92) (b := 126) 12 2 rfl f_12_8 rfl J rfl 16002 ⟨rfl, rfl⟩ rfl ?_
        refine x_iload (x := v3) rfl rfl ?_
        refine x_iconst (v := 3) rfl ki_3 ?_
        refine z_iadd rfl rfl jk_3 (by omega) (fun v6 ev6 => ?_)
        refine z_iald (N := 50660) rfl J rfl sg_126_47260_47660_4_3_4 rfl (by omega) (fun v7 qv7 ev7 => ?_)
        try rw [vrd qv7 (show ((47260 + (4 * l7.toInt)) + 3) = v6.toInt from by omega)] at D
        refine x_aloadn (x := 125) rfl rfl ?_
        refine z_getI (N := 92) 12 28 rfl f_12_377 rfl J rfl sg_125_28_29_1_0_1 (fun v8 qv8 ev8 => ?_)
        try rw [vrf qv8] at D
        refine x_icgt (tgt := 101) rfl rfl (ti_gt rfl rfl ⟨fun c9 => ?_, fun c9 => ?_⟩)
        ·
          rw [if_pos (by omega)] at D
          exact jX.sub (jsb_c rfl (jsb_c rfl (jsb_c rfl (jsb_c rfl (jsb_c rfl (jsb_c rfl (jsb_c rfl (jsb_c rfl jsb_n)))))))) (ct_X12_latest_r125_c47260d_101 hD hQ ih l2 l3 l4 l5 l6 l7 h (jr_of rfl (by omega)) (jr_of rfl (by omega)) (jr_of rfl (by omega)) (jr_of rfl (by omega)) (jr_of rfl (by omega)) (jr_of rfl (by omega)) (by omega) J Sm D EV)
        ·
          rw [if_neg (by omega)] at D
          refine x_aloadn (x := 125) rfl rfl ?_
          refine z_getR (N := 92) (b := 126) 12 2 rfl f_12_8 rfl J rfl 16002 ⟨rfl, rfl⟩ rfl ?_
          refine x_iload (x := v3) rfl rfl ?_
          refine x_iconst (v := 2) rfl ki_2 ?_
          refine z_iadd rfl rfl jk_2 (by omega) (fun v10 ev10 => ?_)
          refine z_iald (N := 50660) rfl J rfl sg_126_47260_47660_4_2_3 rfl (by omega) (fun v11 qv11 ev11 => ?_)
          try rw [vrd qv11 (show ((47260 + (4 * l7.toInt)) + 2) = v10.toInt from by omega)] at D
          refine x_iload (x := l4) rfl rfl ?_
          refine x_icgt (tgt := 101) rfl rfl (ti_gt rfl rfl ⟨fun c12 => ?_, fun c12 => ?_⟩)
          ·
            rw [if_pos (by omega)] at D
            exact jX.sub (jsb_c rfl (jsb_c rfl (jsb_c rfl (jsb_c rfl (jsb_c rfl (jsb_c rfl (jsb_c rfl (jsb_c rfl jsb_n)))))))) (ct_X12_latest_r125_c47260d_101 hD hQ ih l2 l3 l4 l5 l6 l7 h (jr_of rfl (by omega)) (jr_of rfl (by omega)) (jr_of rfl (by omega)) (jr_of rfl (by omega)) (jr_of rfl (by omega)) (jr_of rfl (by omega)) (by omega) J Sm D EV)
          ·
            rw [if_neg (by omega)] at D
            refine x_aloadn (x := 125) rfl rfl ?_
            refine z_getR (N := 92) (b := 126) 12 2 rfl f_12_8 rfl J rfl 16002 ⟨rfl, rfl⟩ rfl ?_
            refine x_iload (x := v3) rfl rfl ?_
            refine x_iconst (v := 2) rfl ki_2 ?_
            refine z_iadd rfl rfl jk_2 (by omega) (fun v13 ev13 => ?_)
            refine z_iald (N := 50660) rfl J rfl sg_126_47260_47660_4_2_3 rfl (by omega) (fun v14 qv14 ev14 => ?_)
            try rw [show v11.toInt = v14.toInt from ((vrd qv11 (show ((47260 + (4 * l7.toInt)) + 2) = v10.toInt from by omega)).symm.trans (vrd qv14 (show ((47260 + (4 * l7.toInt)) + 2) = v13.toInt from by omega)))] at D
            try rw [vrd qv14 (show ((47260 + (4 * l7.toInt)) + 2) = v13.toInt from by omega)] at D
            refine x_iload (x := l6) rfl rfl ?_
            refine x_iclt (tgt := 101) rfl rfl (ti_lt rfl rfl ⟨fun c15 => ?_, fun c15 => ?_⟩)
            ·
              rw [if_pos (by omega)] at D
              exact jX.sub (jsb_c rfl (jsb_c rfl (jsb_c rfl (jsb_c rfl (jsb_c rfl (jsb_c rfl (jsb_c rfl (jsb_c rfl jsb_n)))))))) (ct_X12_latest_r125_c47260d_101 hD hQ ih l2 l3 l4 l5 l6 l7 h (jr_of rfl (by omega)) (jr_of rfl (by omega)) (jr_of rfl (by omega)) (jr_of rfl (by omega)) (jr_of rfl (by omega)) (jr_of rfl (by omega)) (by omega) J Sm D EV)
            ·
              rw [if_neg (by omega)] at D
              refine x_aloadn (x := 125) rfl rfl ?_
              refine z_getR (N := 92) (b := 126) 12 2 rfl f_12_8 rfl J rfl 16002 ⟨rfl, rfl⟩ rfl ?_
              refine x_iload (x := v3) rfl rfl ?_
              refine x_iconst (v := 2) rfl ki_2 ?_
              refine z_iadd rfl rfl jk_2 (by omega) (fun v16 ev16 => ?_)
              refine z_iald (N := 50660) rfl J rfl sg_126_47260_47660_4_2_3 rfl (by omega) (fun v17 qv17 ev17 => ?_)
              try rw [show v14.toInt = v17.toInt from ((vrd qv14 (show ((47260 + (4 * l7.toInt)) + 2) = v13.toInt from by omega)).symm.trans (vrd qv17 (show ((47260 + (4 * l7.toInt)) + 2) = v16.toInt from by omega)))] at D
              try rw [vrd qv17 (show ((47260 + (4 * l7.toInt)) + 2) = v16.toInt from by omega)] at D
              refine x_istore (lsx9 := [(6, .int v17), (8, .int v3), (0, .ref 125), (1, .int 47260), (2, .int l2), (3, .int l3), (4, .int l4), (5, .int l5), (7, .int l7)]) rfl rfl rfl ?_
              refine x_aloadn (x := 125) rfl rfl ?_
              refine z_getR (N := 92) (b := 126) 12 2 rfl f_12_8 rfl J rfl 16002 ⟨rfl, rfl⟩ rfl ?_
              refine x_iload (x := v3) rfl rfl ?_
              refine x_iconst (v := 1) rfl ki_1 ?_
              refine z_iadd rfl rfl jk_1 (by omega) (fun v18 ev18 => ?_)
              refine z_iald (N := 50660) rfl J rfl sg_126_47260_47660_4_1_2 rfl (by omega) (fun v19 qv19 ev19 => ?_)
              try rw [vrd qv19 (show ((47260 + (4 * l7.toInt)) + 1) = v18.toInt from by omega)] at D
              refine x_istore (lsx9 := [(5, .int v19), (6, .int v17), (8, .int v3), (0, .ref 125), (1, .int 47260), (2, .int l2), (3, .int l3), (4, .int l4), (7, .int l7)]) rfl rfl rfl ?_
              exact jX.sub (jsb_c rfl (jsb_c rfl (jsb_c rfl (jsb_c rfl (jsb_c rfl (jsb_c rfl (jsb_c rfl (jsb_c rfl jsb_n)))))))) (ct_X12_latest_r125_c47260d_101 hD hQ ih l2 l3 l4 v19 v17 l7 h (jr_of rfl (by omega)) (jr_of rfl (by omega)) (jr_of rfl (by omega)) (jr_of rfl (by omega)) (jr_of rfl (by omega)) (jr_of rfl (by omega)) (by omega) J Sm D EV)
set_option maxRecDepth 100000 in
set_option maxHeartbeats 4000000 in
theorem sf_X12_latest_r125_c47260d {Dy : jH → Prop} {h : jH} {Q : Option Value → jH → Prop} {dr : Int} {a2 : Int32} {a3 : Int32} {a4 : Int32} (y2 : 0 ≤ a2.toInt ∧ a2.toInt ≤ 100) (y3 : 0 ≤ a3.toInt ∧ a3.toInt ≤ 39) (y4 : 0 ≤ a4.toInt ∧ a4.toInt ≤ 146399) (hD : jDk Dy) (J : jJ jSgM Dy h) (D : d_X12_latest_r125_c47260d a2.toInt a3.toInt a4.toInt (vw h) = dr) (hQ : ∀ (v : Int32) hx9, (-2) ≤ v.toInt ∧ v.toInt ≤ 10000 → jJ jSgM Dy hx9 → jSm fp_X12_latest_r125_c47260d h hx9 → dr = v.toInt → vw hx9 = vw h → Q (some (.int v)) hx9) : jC m_X12_latest 1 0 0 [.ref 125, .int 47260, .int a2, .int a3, .int a4] h Q := by
  refine jC.of rfl k_X12_latest rfl ?_
  have Sm := jSm_rf fp_X12_latest_r125_c47260d h
  show jX m_X12_latest 1 0 0 0 [(0, .ref 125), (1, .int 47260), (2, .int a2), (3, .int a3), (4, .int a4)] [] _ 0 0 _
  unfold d_X12_latest_r125_c47260d at D
  have EV : vw h = vw h := rfl
  refine x_bipush (v := (-2)) rfl kb_m2 ?_
  refine x_istore (lsx9 := [(5, .int (-2)), (0, .ref 125), (1, .int 47260), (2, .int a2), (3, .int a3), (4, .int a4)]) rfl rfl rfl ?_
  refine x_iconst (v := (-1)) rfl ki_m1 ?_
  refine x_istore (lsx9 := [(6, .int (-1)), (5, .int (-2)), (0, .ref 125), (1, .int 47260), (2, .int a2), (3, .int a3), (4, .int a4)]) rfl rfl rfl ?_
  refine x_iconst (v := 0) rfl ki_0 ?_
  refine x_istore (lsx9 := [(7, .int 0), (6, .int (-1)), (5, .int (-2)), (0, .ref 125), (1, .int 47260), (2, .int a2), (3, .int a3), (4, .int a4)]) rfl rfl rfl ?_
  exact jX.sub (jsb_c rfl (jsb_c rfl (jsb_c rfl (jsb_c rfl (jsb_c rfl (jsb_c rfl (jsb_c rfl (jsb_c rfl jsb_n)))))))) (ct_X12_latest_r125_c47260d_10 hD hQ  101 a2 a3 a4 (-2) (-1) 0 h (by have := jk_0; omega) (jr_of rfl (by omega)) (jr_of rfl (by omega)) (jr_of rfl (by omega)) (jr_of jk_m2 (by omega)) (jr_of jk_m1 (by omega)) (jr_of jk_0 (by omega)) J Sm (by rw [jk_m2, jk_m1, jk_0]; exact D) EV)
def fp_X12_latest_r125_c47900d : jFp := []
set_option maxRecDepth 100000 in
set_option maxHeartbeats 4000000 in
theorem ct_X12_latest_r125_c47900d_101 {Dy : jH → Prop} {h0 : jH} {Q : Option Value → jH → Prop} {dr : Int} {K10 : Int → Int → Int → Int → Int → Int → jW → Int} {R10 : Int} (hD : jDk Dy) (hQ : ∀ (v : Int32) hx9, (-2) ≤ v.toInt ∧ v.toInt ≤ 599 → jJ jSgM Dy hx9 → jSm fp_X12_latest_r125_c47900d h0 hx9 → dr = v.toInt → vw hx9 = vw h0 → Q (some (.int v)) hx9) (k10 : ∀ (l2 : Int32) (l3 : Int32) (l4 : Int32) (l5 : Int32) (l6 : Int32) (l7 : Int32) (h : jH), 100 - l7.toInt < R10 → 0 ≤ l2.toInt ∧ l2.toInt ≤ 100 → 0 ≤ l3.toInt ∧ l3.toInt ≤ 39 → 0 ≤ l4.toInt ∧ l4.toInt ≤ 146399 → (-2) ≤ l5.toInt ∧ l5.toInt ≤ 599 → (-1) ≤ l6.toInt ∧ l6.toInt ≤ 146399 → 0 ≤ l7.toInt ∧ l7.toInt ≤ 100 → jJ jSgM Dy h → jSm fp_X12_latest_r125_c47900d h0 h → K10 l2.toInt l3.toInt l4.toInt l5.toInt l6.toInt l7.toInt (vw h) = dr → vw h = vw h0 → jX m_X12_latest 1 0 0 10 [(0, .ref 125), (1, .int 47900), (2, .int l2), (3, .int l3), (4, .int l4), (5, .int l5), (6, .int l6), (7, .int l7)] [] h 0 0 Q) : ∀ (l2 : Int32) (l3 : Int32) (l4 : Int32) (l5 : Int32) (l6 : Int32) (l7 : Int32) (h : jH), 1 ≤ l2.toInt ∧ l2.toInt ≤ 100 → 0 ≤ l3.toInt ∧ l3.toInt ≤ 39 → 0 ≤ l4.toInt ∧ l4.toInt ≤ 146399 → (-2) ≤ l5.toInt ∧ l5.toInt ≤ 599 → (-1) ≤ l6.toInt ∧ l6.toInt ≤ 146399 → 0 ≤ l7.toInt ∧ l7.toInt ≤ 99 → 100 - l7.toInt ≤ R10 → jJ jSgM Dy h → jSm fp_X12_latest_r125_c47900d h0 h → d_X12_latest_r125_c47900d_101 K10  l2.toInt l3.toInt l4.toInt l5.toInt l6.toInt l7.toInt (vw h) = dr → vw h = vw h0 → jX m_X12_latest 1 0 0 101 [(0, .ref 125), (1, .int 47900), (2, .int l2), (3, .int l3), (4, .int l4), (5, .int l5), (6, .int l6), (7, .int l7)] [] h 0 0 Q := by
  intro l2 l3 l4 l5 l6 l7 h y0 y1 y2 y3 y4 y5  m10 J Sm D EV
  unfold d_X12_latest_r125_c47900d_101 at D
  refine z_iinc (x := l7) (lsx9 := fun v1 => [(7, .int v1), (0, .ref 125), (1, .int 47900), (2, .int l2), (3, .int l3), (4, .int l4), (5, .int l5), (6, .int l6)]) rfl rfl rfl jko_1 (by omega) rfl (fun _ => rfl) (fun v1 ev1 => ?_)
  refine x_goto (tgt := 10) rfl rfl ?_
  try rw [show (l7.toInt + 1) = v1.toInt from by omega] at D
  exact jX.sub (jsb_c rfl (jsb_c rfl (jsb_c rfl (jsb_c rfl (jsb_c rfl (jsb_c rfl (jsb_c rfl (jsb_c rfl jsb_n)))))))) (k10 l2 l3 l4 l5 l6 v1 h (by omega) (jr_of rfl (by omega)) (jr_of rfl (by omega)) (jr_of rfl (by omega)) (jr_of rfl (by omega)) (jr_of rfl (by omega)) (jr_of rfl (by omega)) J Sm D EV)
set_option maxRecDepth 100000 in
set_option maxHeartbeats 4000000 in
theorem ct_X12_latest_r125_c47900d_10 {Dy : jH → Prop} {h0 : jH} {Q : Option Value → jH → Prop} {dr : Int} (hD : jDk Dy) (hQ : ∀ (v : Int32) hx9, (-2) ≤ v.toInt ∧ v.toInt ≤ 599 → jJ jSgM Dy hx9 → jSm fp_X12_latest_r125_c47900d h0 hx9 → dr = v.toInt → vw hx9 = vw h0 → Q (some (.int v)) hx9) : ∀ r : Nat, ∀ (l2 : Int32) (l3 : Int32) (l4 : Int32) (l5 : Int32) (l6 : Int32) (l7 : Int32) (h : jH), 100 - l7.toInt < (r : Int) → 0 ≤ l2.toInt ∧ l2.toInt ≤ 100 → 0 ≤ l3.toInt ∧ l3.toInt ≤ 39 → 0 ≤ l4.toInt ∧ l4.toInt ≤ 146399 → (-2) ≤ l5.toInt ∧ l5.toInt ≤ 599 → (-1) ≤ l6.toInt ∧ l6.toInt ≤ 146399 → 0 ≤ l7.toInt ∧ l7.toInt ≤ 100 → jJ jSgM Dy h → jSm fp_X12_latest_r125_c47900d h0 h → d_X12_latest_r125_c47900d_10 r l2.toInt l3.toInt l4.toInt l5.toInt l6.toInt l7.toInt (vw h) = dr → vw h = vw h0 → jX m_X12_latest 1 0 0 10 [(0, .ref 125), (1, .int 47900), (2, .int l2), (3, .int l3), (4, .int l4), (5, .int l5), (6, .int l6), (7, .int l7)] [] h 0 0 Q := by
  intro r
  induction r with
  | zero =>
    intro l2 l3 l4 l5 l6 l7 h hm y0 y1 y2 y3 y4 y5   J Sm D EV
    exfalso
    omega
  | succ r ih =>
    intro l2 l3 l4 l5 l6 l7 h hm y0 y1 y2 y3 y4 y5   J Sm D EV
    rw [d_X12_latest_r125_c47900d_10.eq_2] at D
    refine x_iload (x := l7) rfl rfl ?_
    refine x_iloadn (x := l2) rfl rfl ?_
    refine x_icge (tgt := 107) rfl rfl (ti_ge rfl rfl ⟨fun c1 => ?_, fun c1 => ?_⟩)
    ·
      rw [if_pos (by omega)] at D
      refine x_iload (x := l5) rfl rfl ?_
      refine x_iret rfl rfl ?_
      exact hQ _ _ (jr_of rfl (by omega)) J Sm (D.symm.trans (show l5.toInt = l5.toInt from by omega)) EV
    ·
      rw [if_neg (by omega)] at D
      refine x_iloadn (x := 47900) rfl rfl ?_
      refine x_iconst (v := 4) rfl ki_4 ?_
      refine x_iload (x := l7) rfl rfl ?_
      refine z_imul rfl jk_4 rfl (by omega) (fun v2 ev2 => ?_)
      refine z_iadd rfl jk_47900 rfl (by omega) (fun v3 ev3 => ?_)
      refine x_istore (lsx9 := [(8, .int v3), (0, .ref 125), (1, .int 47900), (2, .int l2), (3, .int l3), (4, .int l4), (5, .int l5), (6, .int l6), (7, .int l7)]) rfl rfl rfl ?_
      refine x_aloadn (x := 125) rfl rfl ?_
      refine z_getR (N := 92) (b := 126) 12 2 rfl f_12_8 rfl J rfl 16002 ⟨rfl, rfl⟩ rfl ?_
      refine x_iload (x := v3) rfl rfl ?_
      refine z_iald (N := 50660) rfl J rfl sg_126_47900_48300_4_0_1 rfl (by omega) (fun v4 qv4 ev4 => ?_)
      try rw [vrd qv4 (show (47900 + (4 * l7.toInt)) = v3.toInt from by omega)] at D
      refine x_iloadn (x := l3) rfl rfl ?_
      refine x_icne (tgt := 101) rfl rfl (ti_ne rfl rfl ⟨fun c5 => ?_, fun c5 => ?_⟩)
      ·
        rw [if_neg (by omega)] at D
        exact jX.sub (jsb_c rfl (jsb_c rfl (jsb_c rfl (jsb_c rfl (jsb_c rfl (jsb_c rfl (jsb_c rfl (jsb_c rfl jsb_n)))))))) (ct_X12_latest_r125_c47900d_101 hD hQ ih l2 l3 l4 l5 l6 l7 h (jr_of rfl (by omega)) (jr_of rfl (by omega)) (jr_of rfl (by omega)) (jr_of rfl (by omega)) (jr_of rfl (by omega)) (jr_of rfl (by omega)) (by omega) J Sm D EV)
      ·
        rw [if_pos (by omega)] at D
        refine x_aloadn (x := 125) rfl rfl ?_
        refine z_getR (N := 92) (b := 126) 12 2 rfl f_12_8 rfl J rfl 16002 ⟨rfl, rfl⟩ rfl ?_
        refine x_iload (x := v3) rfl rfl ?_
        refine x_iconst (v := 3) rfl ki_3 ?_
        refine z_iadd rfl rfl jk_3 (by omega) (fun v6 ev6 => ?_)
        refine z_iald (N := 50660) rfl J rfl sg_126_47900_48300_4_3_4 rfl (by omega) (fun v7 qv7 ev7 => ?_)
        try rw [vrd qv7 (show ((47900 + (4 * l7.toInt)) + 3) = v6.toInt from by omega)] at D
        refine x_aloadn (x := 125) rfl rfl ?_
        refine z_getI (N := 92) 12 28 rfl f_12_377 rfl J rfl sg_125_28_29_1_0_1 (fun v8 qv8 ev8 => ?_)
        try rw [vrf qv8] at D
        refine x_icgt (tgt := 101) rfl rfl (ti_gt rfl rfl ⟨fun c9 => ?_, fun c9 => ?_⟩)
        ·
          rw [if_pos (by omega)] at D
          exact jX.sub (jsb_c rfl (jsb_c rfl (jsb_c rfl (jsb_c rfl (jsb_c rfl (jsb_c rfl (jsb_c rfl (jsb_c rfl jsb_n)))))))) (ct_X12_latest_r125_c47900d_101 hD hQ ih l2 l3 l4 l5 l6 l7 h (jr_of rfl (by omega)) (jr_of rfl (by omega)) (jr_of rfl (by omega)) (jr_of rfl (by omega)) (jr_of rfl (by omega)) (jr_of rfl (by omega)) (by omega) J Sm D EV)
        ·
          rw [if_neg (by omega)] at D
          refine x_aloadn (x := 125) rfl rfl ?_
          refine z_getR (N := 92) (b := 126) 12 2 rfl f_12_8 rfl J rfl 16002 ⟨rfl, rfl⟩ rfl ?_
          refine x_iload (x := v3) rfl rfl ?_
          refine x_iconst (v := 2) rfl ki_2 ?_
          refine z_iadd rfl rfl jk_2 (by omega) (fun v10 ev10 => ?_)
          refine z_iald (N := 50660) rfl J rfl sg_126_47900_48300_4_2_3 rfl (by omega) (fun v11 qv11 ev11 => ?_)
          try rw [vrd qv11 (show ((47900 + (4 * l7.toInt)) + 2) = v10.toInt from by omega)] at D
          refine x_iload (x := l4) rfl rfl ?_
          refine x_icgt (tgt := 101) rfl rfl (ti_gt rfl rfl ⟨fun c12 => ?_, fun c12 => ?_⟩)
          ·
            rw [if_pos (by omega)] at D
            exact jX.sub (jsb_c rfl (jsb_c rfl (jsb_c rfl (jsb_c rfl (jsb_c rfl (jsb_c rfl (jsb_c rfl (jsb_c rfl jsb_n)))))))) (ct_X12_latest_r125_c47900d_101 hD hQ ih l2 l3 l4 l5 l6 l7 h (jr_of rfl (by omega)) (jr_of rfl (by omega)) (jr_of rfl (by omega)) (jr_of rfl (by omega)) (jr_of rfl (by omega)) (jr_of rfl (by omega)) (by omega) J Sm D EV)
          ·
            rw [if_neg (by omega)] at D
            refine x_aloadn (x := 125) rfl rfl ?_
            refine z_getR (N := 92) (b := 126) 12 2 rfl f_12_8 rfl J rfl 16002 ⟨rfl, rfl⟩ rfl ?_
            refine x_iload (x := v3) rfl rfl ?_
            refine x_iconst (v := 2) rfl ki_2 ?_
            refine z_iadd rfl rfl jk_2 (by omega) (fun v13 ev13 => ?_)
            refine z_iald (N := 50660) rfl J rfl sg_126_47900_48300_4_2_3 rfl (by omega) (fun v14 qv14 ev14 => ?_)
            try rw [show v11.toInt = v14.toInt from ((vrd qv11 (show ((47900 + (4 * l7.toInt)) + 2) = v10.toInt from by omega)).symm.trans (vrd qv14 (show ((47900 + (4 * l7.toInt)) + 2) = v13.toInt from by omega)))] at D
            try rw [vrd qv14 (show ((47900 + (4 * l7.toInt)) + 2) = v13.toInt from by omega)] at D
            refine x_iload (x := l6) rfl rfl ?_
            refine x_iclt (tgt := 101) rfl rfl (ti_lt rfl rfl ⟨fun c15 => ?_, fun c15 => ?_⟩)
            ·
              rw [if_pos (by omega)] at D
              exact jX.sub (jsb_c rfl (jsb_c rfl (jsb_c rfl (jsb_c rfl (jsb_c rfl (jsb_c rfl (jsb_c rfl (jsb_c rfl jsb_n)))))))) (ct_X12_latest_r125_c47900d_101 hD hQ ih l2 l3 l4 l5 l6 l7 h (jr_of rfl (by omega)) (jr_of rfl (by omega)) (jr_of rfl (by omega)) (jr_of rfl (by omega)) (jr_of rfl (by omega)) (jr_of rfl (by omega)) (by omega) J Sm D EV)
            ·
              rw [if_neg (by omega)] at D
              refine x_aloadn (x := 125) rfl rfl ?_
              refine z_getR (N := 92) (b := 126) 12 2 rfl f_12_8 rfl J rfl 16002 ⟨rfl, rfl⟩ rfl ?_
              refine x_iload (x := v3) rfl rfl ?_
              refine x_iconst (v := 2) rfl ki_2 ?_
              refine z_iadd rfl rfl jk_2 (by omega) (fun v16 ev16 => ?_)
              refine z_iald (N := 50660) rfl J rfl sg_126_47900_48300_4_2_3 rfl (by omega) (fun v17 qv17 ev17 => ?_)
              try rw [show v14.toInt = v17.toInt from ((vrd qv14 (show ((47900 + (4 * l7.toInt)) + 2) = v13.toInt from by omega)).symm.trans (vrd qv17 (show ((47900 + (4 * l7.toInt)) + 2) = v16.toInt from by omega)))] at D
              try rw [vrd qv17 (show ((47900 + (4 * l7.toInt)) + 2) = v16.toInt from by omega)] at D
              refine x_istore (lsx9 := [(6, .int v17), (8, .int v3), (0, .ref 125), (1, .int 47900), (2, .int l2), (3, .int l3), (4, .int l4), (5, .int l5), (7, .int l7)]) rfl rfl rfl ?_
              refine x_aloadn (x := 125) rfl rfl ?_
              refine z_getR (N := 92) (b := 126) 12 2 rfl f_12_8 rfl J rfl 16002 ⟨rfl, rfl⟩ rfl ?_
              refine x_iload (x := v3) rfl rfl ?_
              refine x_iconst (v := 1) rfl ki_1 ?_
              refine z_iadd rfl rfl jk_1 (by omega) (fun v18 ev18 => ?_)
              refine z_iald (N := 50660) rfl J rfl sg_126_47900_48300_4_1_2 rfl (by omega) (fun v19 qv19 ev19 => ?_)
              try rw [vrd qv19 (show ((47900 + (4 * l7.toInt)) + 1) = v18.toInt from by omega)] at D
              refine x_istore (lsx9 := [(5, .int v19), (6, .int v17), (8, .int v3), (0, .ref 125), (1, .int 47900), (2, .int l2), (3, .int l3), (4, .int l4), (7, .int l7)]) rfl rfl rfl ?_
              exact jX.sub (jsb_c rfl (jsb_c rfl (jsb_c rfl (jsb_c rfl (jsb_c rfl (jsb_c rfl (jsb_c rfl (jsb_c rfl jsb_n)))))))) (ct_X12_latest_r125_c47900d_101 hD hQ ih l2 l3 l4 v19 v17 l7 h (jr_of rfl (by omega)) (jr_of rfl (by omega)) (jr_of rfl (by omega)) (jr_of rfl (by omega)) (jr_of rfl (by omega)) (jr_of rfl (by omega)) (by omega) J Sm D EV)
set_option maxRecDepth 100000 in
set_option maxHeartbeats 4000000 in
theorem sf_X12_latest_r125_c47900d {Dy : jH → Prop} {h : jH} {Q : Option Value → jH → Prop} {dr : Int} {a2 : Int32} {a3 : Int32} {a4 : Int32} (y2 : 0 ≤ a2.toInt ∧ a2.toInt ≤ 100) (y3 : 0 ≤ a3.toInt ∧ a3.toInt ≤ 39) (y4 : 0 ≤ a4.toInt ∧ a4.toInt ≤ 146399) (hD : jDk Dy) (J : jJ jSgM Dy h) (D : d_X12_latest_r125_c47900d a2.toInt a3.toInt a4.toInt (vw h) = dr) (hQ : ∀ (v : Int32) hx9, (-2) ≤ v.toInt ∧ v.toInt ≤ 599 → jJ jSgM Dy hx9 → jSm fp_X12_latest_r125_c47900d h hx9 → dr = v.toInt → vw hx9 = vw h → Q (some (.int v)) hx9) : jC m_X12_latest 1 0 0 [.ref 125, .int 47900, .int a2, .int a3, .int a4] h Q := by
  refine jC.of rfl k_X12_latest rfl ?_
  have Sm := jSm_rf fp_X12_latest_r125_c47900d h
  show jX m_X12_latest 1 0 0 0 [(0, .ref 125), (1, .int 47900), (2, .int a2), (3, .int a3), (4, .int a4)] [] _ 0 0 _
  unfold d_X12_latest_r125_c47900d at D
  have EV : vw h = vw h := rfl
  refine x_bipush (v := (-2)) rfl kb_m2 ?_
  refine x_istore (lsx9 := [(5, .int (-2)), (0, .ref 125), (1, .int 47900), (2, .int a2), (3, .int a3), (4, .int a4)]) rfl rfl rfl ?_
  refine x_iconst (v := (-1)) rfl ki_m1 ?_
  refine x_istore (lsx9 := [(6, .int (-1)), (5, .int (-2)), (0, .ref 125), (1, .int 47900), (2, .int a2), (3, .int a3), (4, .int a4)]) rfl rfl rfl ?_
  refine x_iconst (v := 0) rfl ki_0 ?_
  refine x_istore (lsx9 := [(7, .int 0), (6, .int (-1)), (5, .int (-2)), (0, .ref 125), (1, .int 47900), (2, .int a2), (3, .int a3), (4, .int a4)]) rfl rfl rfl ?_
  exact jX.sub (jsb_c rfl (jsb_c rfl (jsb_c rfl (jsb_c rfl (jsb_c rfl (jsb_c rfl (jsb_c rfl (jsb_c rfl jsb_n)))))))) (ct_X12_latest_r125_c47900d_10 hD hQ  101 a2 a3 a4 (-2) (-1) 0 h (by have := jk_0; omega) (jr_of rfl (by omega)) (jr_of rfl (by omega)) (jr_of rfl (by omega)) (jr_of jk_m2 (by omega)) (jr_of jk_m1 (by omega)) (jr_of jk_0 (by omega)) J Sm (by rw [jk_m2, jk_m1, jk_0]; exact D) EV)
def fp_X12_splitOf_r125d : jFp := []
set_option maxRecDepth 100000 in
set_option maxHeartbeats 4000000 in
theorem ct_X12_splitOf_r125d_44 {Dy : jH → Prop} {h0 : jH} {Q : Option Value → jH → Prop} {dr : Int} {K4 : Int → Int → Int → jW → Int} {R4 : Int} (hD : jDk Dy) (hQ : ∀ (v : Int32) hx9, (-1) ≤ v.toInt ∧ v.toInt ≤ 47894 → (v.toInt = -1 ∨ (47660 ≤ v.toInt ∧ v.toInt ≤ 47894 ∧ v.toInt % 6 = 2)) → jJ jSgM Dy hx9 → jSm fp_X12_splitOf_r125d h0 hx9 → dr = v.toInt → vw hx9 = vw h0 → Q (some (.int v)) hx9) (k4 : ∀ (l1 : Int32) (l2 : Int32) (l3 : Int32) (h : jH), 40 - l3.toInt < R4 → 0 ≤ l1.toInt ∧ l1.toInt ≤ 39 → (-1) ≤ l2.toInt ∧ l2.toInt ≤ 47894 → l2.toInt % 3 = 2 → 0 ≤ l3.toInt ∧ l3.toInt ≤ 40 → (l2.toInt = -1 ∨ (47660 ≤ l2.toInt ∧ l2.toInt ≤ 47894 ∧ l2.toInt % 6 = 2)) → jJ jSgM Dy h → jSm fp_X12_splitOf_r125d h0 h → K4 l1.toInt l2.toInt l3.toInt (vw h) = dr → vw h = vw h0 → jX m_X12_splitOf 1 0 0 4 [(0, .ref 125), (1, .int l1), (2, .int l2), (3, .int l3)] [] h 0 0 Q) : ∀ (l1 : Int32) (l3 : Int32) (s0 : Int32) (h : jH), 0 ≤ l1.toInt ∧ l1.toInt ≤ 39 → 0 ≤ l3.toInt ∧ l3.toInt ≤ 39 → (-1) ≤ s0.toInt ∧ s0.toInt ≤ 47894 → s0.toInt % 3 = 2 → (s0.toInt = -1 ∨ (47660 ≤ s0.toInt ∧ s0.toInt ≤ 47894 ∧ s0.toInt % 6 = 2)) → 40 - l3.toInt ≤ R4 → jJ jSgM Dy h → jSm fp_X12_splitOf_r125d h0 h → d_X12_splitOf_r125d_44 K4  l1.toInt l3.toInt s0.toInt (vw h) = dr → vw h = vw h0 → jX m_X12_splitOf 1 0 0 44 [(0, .ref 125), (1, .int l1), (3, .int l3)] [.int s0] h 0 0 Q := by
  intro l1 l3 s0 h y0 y1 y2 y3 y4  m4 J Sm D EV
  unfold d_X12_splitOf_r125d_44 at D
  refine x_istoren (lsx9 := [(2, .int s0), (0, .ref 125), (1, .int l1), (3, .int l3)]) rfl rfl rfl ?_
  refine z_iinc (x := l3) (lsx9 := fun v1 => [(3, .int v1), (2, .int s0), (0, .ref 125), (1, .int l1)]) rfl rfl rfl jko_1 (by omega) rfl (fun _ => rfl) (fun v1 ev1 => ?_)
  refine x_goto (tgt := 4) rfl rfl ?_
  try rw [show (l3.toInt + 1) = v1.toInt from by omega] at D
  exact jX.sub (jsb_c rfl (jsb_c rfl (jsb_c rfl (jsb_c rfl jsb_n)))) (k4 l1 s0 v1 h (by omega) (jr_of rfl (by omega)) (jr_of rfl (by omega)) (jr_mod rfl (by omega)) (jr_of rfl (by omega)) (by omega) J Sm D EV)
set_option maxRecDepth 100000 in
set_option maxHeartbeats 4000000 in
theorem ct_X12_splitOf_r125d_4 {Dy : jH → Prop} {h0 : jH} {Q : Option Value → jH → Prop} {dr : Int} (hD : jDk Dy) (hQ : ∀ (v : Int32) hx9, (-1) ≤ v.toInt ∧ v.toInt ≤ 47894 → (v.toInt = -1 ∨ (47660 ≤ v.toInt ∧ v.toInt ≤ 47894 ∧ v.toInt % 6 = 2)) → jJ jSgM Dy hx9 → jSm fp_X12_splitOf_r125d h0 hx9 → dr = v.toInt → vw hx9 = vw h0 → Q (some (.int v)) hx9) : ∀ r : Nat, ∀ (l1 : Int32) (l2 : Int32) (l3 : Int32) (h : jH), 40 - l3.toInt < (r : Int) → 0 ≤ l1.toInt ∧ l1.toInt ≤ 39 → (-1) ≤ l2.toInt ∧ l2.toInt ≤ 47894 → l2.toInt % 3 = 2 → 0 ≤ l3.toInt ∧ l3.toInt ≤ 40 → (l2.toInt = -1 ∨ (47660 ≤ l2.toInt ∧ l2.toInt ≤ 47894 ∧ l2.toInt % 6 = 2)) → jJ jSgM Dy h → jSm fp_X12_splitOf_r125d h0 h → d_X12_splitOf_r125d_4 r l1.toInt l2.toInt l3.toInt (vw h) = dr → vw h = vw h0 → jX m_X12_splitOf 1 0 0 4 [(0, .ref 125), (1, .int l1), (2, .int l2), (3, .int l3)] [] h 0 0 Q := by
  intro r
  induction r with
  | zero =>
    intro l1 l2 l3 h hm y0 y1 y2 y3 y4   J Sm D EV
    exfalso
    omega
  | succ r ih =>
    intro l1 l2 l3 h hm y0 y1 y2 y3 y4   J Sm D EV
    rw [d_X12_splitOf_r125d_4.eq_2] at D
    refine x_iloadn (x := l3) rfl rfl ?_
    refine x_aloadn (x := 125) rfl rfl ?_
    refine z_getR (N := 92) (b := 126) 12 2 rfl f_12_8 rfl J rfl 16002 ⟨rfl, rfl⟩ rfl ?_
    refine x_bipush (v := 9) rfl kb_9 ?_
    refine z_iald (N := 50660) rfl J rfl sg_126_9_10_1_0_1 jk_9 (by omega) (fun v1 qv1 ev1 => ?_)
    try rw [vrn (n := 9) (by decide) qv1] at D
    refine x_icge (tgt := 51) rfl rfl (ti_ge rfl rfl ⟨fun c2 => ?_, fun c2 => ?_⟩)
    ·
      rw [if_pos (by omega)] at D
      refine x_iloadn (x := l2) rfl rfl ?_
      refine x_iret rfl rfl ?_
      exact hQ _ _ (jr_of rfl (by omega)) (by omega) J Sm (D.symm.trans (show l2.toInt = l2.toInt from by omega)) EV
    ·
      rw [if_neg (by omega)] at D
      refine x_aloadn (x := 125) rfl rfl ?_
      refine z_getR (N := 92) (b := 126) 12 2 rfl f_12_8 rfl J rfl 16002 ⟨rfl, rfl⟩ rfl ?_
      refine x_ldcw (v := 47660) rfl z_12_799 ?_
      refine x_bipush (v := 6) rfl kb_6 ?_
      refine x_iloadn (x := l3) rfl rfl ?_
      refine z_imul rfl jk_6 rfl (by omega) (fun v3 ev3 => ?_)
      refine z_iadd rfl jk_47660 rfl (by omega) (fun v4 ev4 => ?_)
      refine z_iald (N := 50660) rfl J rfl sg_126_47660_47900_6_0_1 rfl (by omega) (fun v5 qv5 ev5 => ?_)
      try rw [vrd qv5 (show (47660 + (6 * l3.toInt)) = v4.toInt from by omega)] at D
      refine x_iloadn (x := l1) rfl rfl ?_
      refine x_icne (tgt := 43) rfl rfl (ti_ne rfl rfl ⟨fun c6 => ?_, fun c6 => ?_⟩)
      ·
        rw [if_neg (by omega)] at D
        refine x_iloadn (x := l2) rfl rfl ?_
        exact jX.sub (jsb_c rfl (jsb_c rfl (jsb_c rfl jsb_n))) (ct_X12_splitOf_r125d_44 hD hQ ih l1 l3 l2 h (jr_of rfl (by omega)) (jr_of rfl (by omega)) (jr_of rfl (by omega)) (jr_mod rfl (by omega)) (by omega) (by omega) J Sm D EV)
      ·
        rw [if_pos (by omega)] at D
        refine x_ldcw (v := 47660) rfl z_12_799 ?_
        refine x_bipush (v := 6) rfl kb_6 ?_
        refine x_iloadn (x := l3) rfl rfl ?_
        refine z_imul rfl jk_6 rfl (by omega) (fun v7 ev7 => ?_)
        refine z_iadd rfl jk_47660 rfl (by omega) (fun v8 ev8 => ?_)
        refine x_goto (tgt := 44) rfl rfl ?_
        try rw [show (47660 + (6 * l3.toInt)) = v8.toInt from by omega] at D
        exact jX.sub (jsb_c rfl (jsb_c rfl (jsb_c rfl jsb_n))) (ct_X12_splitOf_r125d_44 hD hQ ih l1 l3 v8 h (jr_of rfl (by omega)) (jr_of rfl (by omega)) (jr_of rfl (by omega)) (jr_mod rfl (by omega)) (by omega) (by omega) J Sm D EV)
set_option maxRecDepth 100000 in
set_option maxHeartbeats 4000000 in
theorem sf_X12_splitOf_r125d {Dy : jH → Prop} {h : jH} {Q : Option Value → jH → Prop} {dr : Int} {a1 : Int32} (y1 : 0 ≤ a1.toInt ∧ a1.toInt ≤ 39) (hD : jDk Dy) (J : jJ jSgM Dy h) (D : d_X12_splitOf_r125d a1.toInt (vw h) = dr) (hQ : ∀ (v : Int32) hx9, (-1) ≤ v.toInt ∧ v.toInt ≤ 47894 → (v.toInt = -1 ∨ (47660 ≤ v.toInt ∧ v.toInt ≤ 47894 ∧ v.toInt % 6 = 2)) → jJ jSgM Dy hx9 → jSm fp_X12_splitOf_r125d h hx9 → dr = v.toInt → vw hx9 = vw h → Q (some (.int v)) hx9) : jC m_X12_splitOf 1 0 0 [.ref 125, .int a1] h Q := by
  refine jC.of rfl k_X12_splitOf rfl ?_
  have Sm := jSm_rf fp_X12_splitOf_r125d h
  show jX m_X12_splitOf 1 0 0 0 [(0, .ref 125), (1, .int a1)] [] _ 0 0 _
  unfold d_X12_splitOf_r125d at D
  have EV : vw h = vw h := rfl
  refine x_iconst (v := (-1)) rfl ki_m1 ?_
  refine x_istoren (lsx9 := [(2, .int (-1)), (0, .ref 125), (1, .int a1)]) rfl rfl rfl ?_
  refine x_iconst (v := 0) rfl ki_0 ?_
  refine x_istoren (lsx9 := [(3, .int 0), (2, .int (-1)), (0, .ref 125), (1, .int a1)]) rfl rfl rfl ?_
  exact jX.sub (jsb_c rfl (jsb_c rfl (jsb_c rfl (jsb_c rfl jsb_n)))) (ct_X12_splitOf_r125d_4 hD hQ  41 a1 (-1) 0 h (by have := jk_0; omega) (jr_of rfl (by omega)) (jr_of jk_m1 (by omega)) (jr_mod jk_m1 (by omega)) (jr_of jk_0 (by omega)) (by have := jk_m1; omega) J Sm (by rw [jk_m1, jk_0]; exact D) EV)
def fp_X12_findHouses_r125_c0d : jFp := [(162, 0, 40), (163, 0, 40), (164, 0, 40)]
set_option maxRecDepth 100000 in
set_option maxHeartbeats 4000000 in
theorem ct_X12_findHouses_r125_c0d_316 {Dy : jH → Prop} {h0 : jH} {Q : Option Value → jH → Prop} {dr : jW} {K75 : Int → Int → Int → jW → jW} {R75 : Int} (hD : jDk Dy) (hQ : ∀ hx9, jJ jSgM Dy hx9 → jSm fp_X12_findHouses_r125_c0d h0 hx9 → dr = vw hx9 → Q none hx9) (k75 : ∀ (l1 : Int32) (l3 : Int32) (l4 : Int32) (h : jH), 40 - l4.toInt < R75 → 0 ≤ l1.toInt ∧ l1.toInt ≤ 146399 → 0 ≤ l3.toInt ∧ l3.toInt ≤ 40 → 0 ≤ l4.toInt ∧ l4.toInt ≤ 40 → jJ jSgM Dy h → jSm fp_X12_findHouses_r125_c0d h0 h → K75 l1.toInt l3.toInt l4.toInt (vw h) = dr → jX m_X12_findHouses 2 0 0 75 [(0, .ref 125), (1, .int l1), (2, .int 0), (3, .int l3), (4, .int l4)] [] h 0 0 Q) : ∀ (l1 : Int32) (l3 : Int32) (l4 : Int32) (s0 : Int32) (s1 : Int32) (h : jH), 0 ≤ l1.toInt ∧ l1.toInt ≤ 146399 → 1 ≤ l3.toInt ∧ l3.toInt ≤ 40 → 0 ≤ l4.toInt ∧ l4.toInt ≤ 39 → (-1) ≤ s0.toInt ∧ s0.toInt ≤ 599 → 0 ≤ s1.toInt ∧ s1.toInt ≤ 39 → 40 - l4.toInt ≤ R75 → jJ jSgM Dy h → jSm fp_X12_findHouses_r125_c0d h0 h → d_X12_findHouses_r125_c0d_316 K75  l1.toInt l3.toInt l4.toInt s0.toInt s1.toInt (vw h) = dr → jX m_X12_findHouses 2 0 0 316 [(0, .ref 125), (1, .int l1), (2, .int 0), (3, .int l3), (4, .int l4)] [.int s0, .int s1, .ref 163] h 0 0 Q := by
  intro l1 l3 l4 s0 s1 h y0 y1 y2 y3 y4  m75 J Sm D
  unfold d_X12_findHouses_r125_c0d_316 at D
  refine z_iast (N := 80) (l := 0) (u := 40) (w := s0.toInt) rfl hD J Sm rfl rfl rfl (by omega) rfl (wr_163_0 (by omega) (fun q1 q2 q3 q4 => by omega)) rfl (fun h w1 J Sm => ?_)
  rw [vww w1 (show s1.toInt = s1.toInt from by omega) (show s0.toInt = s0.toInt from by omega)] at D
  refine z_iinc (x := l4) (lsx9 := fun v2 => [(4, .int v2), (0, .ref 125), (1, .int l1), (2, .int 0), (3, .int l3)]) rfl rfl rfl jko_1 (by omega) rfl (fun _ => rfl) (fun v2 ev2 => ?_)
  refine x_goto (tgt := 75) rfl rfl ?_
  try rw [show (l4.toInt + 1) = v2.toInt from by omega] at D
  exact jX.sub (jsb_c rfl (jsb_c rfl (jsb_c rfl (jsb_c rfl (jsb_c rfl jsb_n))))) (k75 l1 l3 v2 h (by omega) (jr_of rfl (by omega)) (jr_of rfl (by omega)) (jr_of rfl (by omega)) J Sm D)
set_option maxRecDepth 100000 in
set_option maxHeartbeats 4000000 in
theorem ct_X12_findHouses_r125_c0d_100316 {Dy : jH → Prop} {h0 : jH} {Q : Option Value → jH → Prop} {dr : jW} {K75 : Int → Int → Int → jW → jW} {R75 : Int} (hD : jDk Dy) (hQ : ∀ hx9, jJ jSgM Dy hx9 → jSm fp_X12_findHouses_r125_c0d h0 hx9 → dr = vw hx9 → Q none hx9) (k75 : ∀ (l1 : Int32) (l3 : Int32) (l4 : Int32) (h : jH), 40 - l4.toInt < R75 → 0 ≤ l1.toInt ∧ l1.toInt ≤ 146399 → 0 ≤ l3.toInt ∧ l3.toInt ≤ 40 → 0 ≤ l4.toInt ∧ l4.toInt ≤ 40 → jJ jSgM Dy h → jSm fp_X12_findHouses_r125_c0d h0 h → K75 l1.toInt l3.toInt l4.toInt (vw h) = dr → jX m_X12_findHouses 2 0 0 75 [(0, .ref 125), (1, .int l1), (2, .int 0), (3, .int l3), (4, .int l4)] [] h 0 0 Q) : ∀ (l1 : Int32) (l3 : Int32) (l4 : Int32) (s1 : Int32) (h : jH), 0 ≤ l1.toInt ∧ l1.toInt ≤ 146399 → 1 ≤ l3.toInt ∧ l3.toInt ≤ 40 → 0 ≤ l4.toInt ∧ l4.toInt ≤ 39 → 0 ≤ s1.toInt ∧ s1.toInt ≤ 39 → 40 - l4.toInt ≤ R75 → jJ jSgM Dy h → jSm fp_X12_findHouses_r125_c0d h0 h → d_X12_findHouses_r125_c0d_100316 K75  l1.toInt l3.toInt l4.toInt s1.toInt (vw h) = dr → jX m_X12_findHouses 2 0 0 316 [(0, .ref 125), (1, .int l1), (2, .int 0), (3, .int l3), (4, .int l4)] [.int (-1), .int s1, .ref 163] h 0 0 Q := by
  intro l1 l3 l4 s1 h y0 y1 y2 y3  m75 J Sm D
  unfold d_X12_findHouses_r125_c0d_100316 at D
  refine z_iast (N := 80) (l := 0) (u := 40) (w := (-1)) rfl hD J Sm rfl rfl rfl (by omega) jk_m1 (wr_163_0 (by omega) (fun q1 q2 q3 q4 => by omega)) rfl (fun h w1 J Sm => ?_)
  rw [vww w1 (show s1.toInt = s1.toInt from by omega) (show (-1) = ((-1) : Int32).toInt from by have := jk_m1; omega)] at D
  refine z_iinc (x := l4) (lsx9 := fun v2 => [(4, .int v2), (0, .ref 125), (1, .int l1), (2, .int 0), (3, .int l3)]) rfl rfl rfl jko_1 (by omega) rfl (fun _ => rfl) (fun v2 ev2 => ?_)
  refine x_goto (tgt := 75) rfl rfl ?_
  try rw [show (l4.toInt + 1) = v2.toInt from by omega] at D
  exact jX.sub (jsb_c rfl (jsb_c rfl (jsb_c rfl (jsb_c rfl (jsb_c rfl jsb_n))))) (k75 l1 l3 v2 h (by omega) (jr_of rfl (by omega)) (jr_of rfl (by omega)) (jr_of rfl (by omega)) J Sm D)
set_option maxRecDepth 100000 in
set_option maxHeartbeats 4000000 in
theorem ct_X12_findHouses_r125_c0d_293 {Dy : jH → Prop} {h0 : jH} {Q : Option Value → jH → Prop} {dr : jW} {K75 : Int → Int → Int → jW → jW} {R75 : Int} (hD : jDk Dy) (hQ : ∀ hx9, jJ jSgM Dy hx9 → jSm fp_X12_findHouses_r125_c0d h0 hx9 → dr = vw hx9 → Q none hx9) (k75 : ∀ (l1 : Int32) (l3 : Int32) (l4 : Int32) (h : jH), 40 - l4.toInt < R75 → 0 ≤ l1.toInt ∧ l1.toInt ≤ 146399 → 0 ≤ l3.toInt ∧ l3.toInt ≤ 40 → 0 ≤ l4.toInt ∧ l4.toInt ≤ 40 → jJ jSgM Dy h → jSm fp_X12_findHouses_r125_c0d h0 h → K75 l1.toInt l3.toInt l4.toInt (vw h) = dr → jX m_X12_findHouses 2 0 0 75 [(0, .ref 125), (1, .int l1), (2, .int 0), (3, .int l3), (4, .int l4)] [] h 0 0 Q) : ∀ (l1 : Int32) (l3 : Int32) (l4 : Int32) (s0 : Int32) (h : jH), 0 ≤ l1.toInt ∧ l1.toInt ≤ 146399 → 1 ≤ l3.toInt ∧ l3.toInt ≤ 40 → 0 ≤ l4.toInt ∧ l4.toInt ≤ 39 → 0 ≤ s0.toInt ∧ s0.toInt ≤ 39 → 40 - l4.toInt ≤ R75 → jJ jSgM Dy h → jSm fp_X12_findHouses_r125_c0d h0 h → d_X12_findHouses_r125_c0d_293 K75  l1.toInt l3.toInt l4.toInt s0.toInt (vw h) = dr → jX m_X12_findHouses 2 0 0 293 [(0, .ref 125), (1, .int l1), (2, .int 0), (3, .int l3), (4, .int l4)] [.int s0, .ref 163] h 0 0 Q := by
  intro l1 l3 l4 s0 h y0 y1 y2 y3  m75 J Sm D
  unfold d_X12_findHouses_r125_c0d_293 at D
  refine x_iconst (v := (-1)) rfl ki_m1 ?_
  refine x_goto (tgt := 316) rfl rfl ?_
  exact jX.sub (jsb_c rfl (jsb_c rfl (jsb_c rfl (jsb_c rfl (jsb_c rfl jsb_n))))) (ct_X12_findHouses_r125_c0d_100316 hD hQ k75 l1 l3 l4 s0 h (jr_of rfl (by omega)) (jr_of rfl (by omega)) (jr_of rfl (by omega)) (jr_of rfl (by omega)) (by omega) J Sm D)
set_option maxRecDepth 100000 in
set_option maxHeartbeats 4000000 in
theorem ct_X12_findHouses_r125_c0d_208 {Dy : jH → Prop} {h0 : jH} {Q : Option Value → jH → Prop} {dr : jW} {K75 : Int → Int → Int → jW → jW} {K93 : Int → Int → Int → Int → Int → jW → jW} {R75 : Int} {R93 : Int} (hD : jDk Dy) (hQ : ∀ hx9, jJ jSgM Dy hx9 → jSm fp_X12_findHouses_r125_c0d h0 hx9 → dr = vw hx9 → Q none hx9) (k75 : ∀ (l1 : Int32) (l3 : Int32) (l4 : Int32) (h : jH), 40 - l4.toInt < R75 → 0 ≤ l1.toInt ∧ l1.toInt ≤ 146399 → 0 ≤ l3.toInt ∧ l3.toInt ≤ 40 → 0 ≤ l4.toInt ∧ l4.toInt ≤ 40 → jJ jSgM Dy h → jSm fp_X12_findHouses_r125_c0d h0 h → K75 l1.toInt l3.toInt l4.toInt (vw h) = dr → jX m_X12_findHouses 2 0 0 75 [(0, .ref 125), (1, .int l1), (2, .int 0), (3, .int l3), (4, .int l4)] [] h 0 0 Q) (k93 : ∀ (l1 : Int32) (l3 : Int32) (l4 : Int32) (l5 : Int32) (l6 : Int32) (h : jH), 40 - l6.toInt < R93 → 0 ≤ l1.toInt ∧ l1.toInt ≤ 146399 → 1 ≤ l3.toInt ∧ l3.toInt ≤ 40 → 0 ≤ l4.toInt ∧ l4.toInt ≤ 39 → 0 ≤ l6.toInt ∧ l6.toInt ≤ 40 → 40 - l4.toInt ≤ R75 → jJ jSgM Dy h → jSm fp_X12_findHouses_r125_c0d h0 h → K93 l1.toInt l3.toInt l4.toInt l5.toInt l6.toInt (vw h) = dr → jX m_X12_findHouses 2 0 0 93 [(0, .ref 125), (1, .int l1), (2, .int 0), (3, .int l3), (4, .int l4), (5, .int l5), (6, .int l6)] [] h 0 0 Q) : ∀ (l1 : Int32) (l3 : Int32) (l4 : Int32) (l5 : Int32) (l6 : Int32) (h : jH), 0 ≤ l1.toInt ∧ l1.toInt ≤ 146399 → 1 ≤ l3.toInt ∧ l3.toInt ≤ 40 → 0 ≤ l4.toInt ∧ l4.toInt ≤ 39 → 0 ≤ l6.toInt ∧ l6.toInt ≤ 39 → 40 - l4.toInt ≤ R75 → 40 - l6.toInt ≤ R93 → jJ jSgM Dy h → jSm fp_X12_findHouses_r125_c0d h0 h → d_X12_findHouses_r125_c0d_208 K75 K93  l1.toInt l3.toInt l4.toInt l5.toInt l6.toInt (vw h) = dr → jX m_X12_findHouses 2 0 0 208 [(0, .ref 125), (1, .int l1), (2, .int 0), (3, .int l3), (4, .int l4), (5, .int l5), (6, .int l6)] [] h 0 0 Q := by
  intro l1 l3 l4 l5 l6 h y0 y1 y2 y3  m75 m93 J Sm D
  have el5 := jfull l5
  unfold d_X12_findHouses_r125_c0d_208 at D
  refine z_iinc (x := l6) (lsx9 := fun v1 => [(6, .int v1), (0, .ref 125), (1, .int l1), (2, .int 0), (3, .int l3), (4, .int l4), (5, .int l5)]) rfl rfl rfl jko_1 (by omega) rfl (fun _ => rfl) (fun v1 ev1 => ?_)
  refine x_goto (tgt := 93) rfl rfl ?_
  try rw [show (l6.toInt + 1) = v1.toInt from by omega] at D
  exact jX.sub (jsb_c rfl (jsb_c rfl (jsb_c rfl (jsb_c rfl (jsb_c rfl (jsb_c rfl (jsb_c rfl jsb_n))))))) (k93 l1 l3 l4 l5 v1 h (by omega) (jr_of rfl (by omega)) (jr_of rfl (by omega)) (jr_of rfl (by omega)) (jr_of rfl (by omega)) (by omega) J Sm D)
set_option maxRecDepth 100000 in
set_option maxHeartbeats 4000000 in
theorem ct_X12_findHouses_r125_c0d_93 {Dy : jH → Prop} {h0 : jH} {Q : Option Value → jH → Prop} {dr : jW} {K75 : Int → Int → Int → jW → jW} {R75 : Int} (hD : jDk Dy) (hQ : ∀ hx9, jJ jSgM Dy hx9 → jSm fp_X12_findHouses_r125_c0d h0 hx9 → dr = vw hx9 → Q none hx9) (k75 : ∀ (l1 : Int32) (l3 : Int32) (l4 : Int32) (h : jH), 40 - l4.toInt < R75 → 0 ≤ l1.toInt ∧ l1.toInt ≤ 146399 → 0 ≤ l3.toInt ∧ l3.toInt ≤ 40 → 0 ≤ l4.toInt ∧ l4.toInt ≤ 40 → jJ jSgM Dy h → jSm fp_X12_findHouses_r125_c0d h0 h → K75 l1.toInt l3.toInt l4.toInt (vw h) = dr → jX m_X12_findHouses 2 0 0 75 [(0, .ref 125), (1, .int l1), (2, .int 0), (3, .int l3), (4, .int l4)] [] h 0 0 Q) : ∀ r : Nat, ∀ (l1 : Int32) (l3 : Int32) (l4 : Int32) (l5 : Int32) (l6 : Int32) (h : jH), 40 - l6.toInt < (r : Int) → 0 ≤ l1.toInt ∧ l1.toInt ≤ 146399 → 1 ≤ l3.toInt ∧ l3.toInt ≤ 40 → 0 ≤ l4.toInt ∧ l4.toInt ≤ 39 → 0 ≤ l6.toInt ∧ l6.toInt ≤ 40 → 40 - l4.toInt ≤ R75 → jJ jSgM Dy h → jSm fp_X12_findHouses_r125_c0d h0 h → d_X12_findHouses_r125_c0d_93 K75 r l1.toInt l3.toInt l4.toInt l5.toInt l6.toInt (vw h) = dr → jX m_X12_findHouses 2 0 0 93 [(0, .ref 125), (1, .int l1), (2, .int 0), (3, .int l3), (4, .int l4), (5, .int l5), (6, .int l6)] [] h 0 0 Q := by
  intro r
  induction r with
  | zero =>
    intro l1 l3 l4 l5 l6 h hm y0 y1 y2 y3  m75 J Sm D
    exfalso
    have el5 := jfull l5
    omega
  | succ r ih =>
    intro l1 l3 l4 l5 l6 h hm y0 y1 y2 y3  m75 J Sm D
    have el5 := jfull l5
    rw [d_X12_findHouses_r125_c0d_93.eq_2] at D
    refine x_iload (x := l6) rfl rfl ?_
    refine x_aloadn (x := 125) rfl rfl ?_
    refine z_getR (N := 92) (b := 126) 12 2 rfl f_12_8 rfl J rfl 16002 ⟨rfl, rfl⟩ rfl ?_
    refine x_bipush (v := 9) rfl kb_9 ?_
    refine z_iald (N := 50660) rfl J rfl sg_126_9_10_1_0_1 jk_9 (by omega) (fun v1 qv1 ev1 => ?_)
    try rw [vrn (n := 9) (by decide) qv1] at D
    refine x_icge (tgt := 214) rfl rfl (ti_ge rfl rfl ⟨fun c2 => ?_, fun c2 => ?_⟩)
    ·
      rw [if_pos (by omega)] at D
      refine x_aloadn (x := 125) rfl rfl ?_
      refine z_getR (N := 92) (b := 162) 12 77 rfl f_12_144 rfl J rfl 16077 ⟨rfl, rfl⟩ rfl ?_
      refine x_bipush (v := 40) rfl kb_40 ?_
      refine x_iloadn (x := 0) rfl rfl ?_
      refine y_imul (v := 0) rfl (by decide) ?_
      refine x_iload (x := l4) rfl rfl ?_
      refine z_iadd rfl jk_0 rfl (by omega) (fun v3 ev3 => ?_)
      refine x_iload (x := l5) rfl rfl ?_
      refine z_iast (N := 80) (l := 0) (u := 40) (w := l5.toInt) rfl hD J Sm rfl rfl rfl (by omega) rfl (wr_162_0 (by omega)) rfl (fun h w4 J Sm => ?_)
      rw [vww w4 (show (0 + l4.toInt) = v3.toInt from by omega) (show l5.toInt = l5.toInt from by omega)] at D
      refine x_aloadn (x := 125) rfl rfl ?_
      refine x_ldcw (v := 47900) rfl z_12_808 ?_
      refine x_aloadn (x := 125) rfl rfl ?_
      refine z_getR (N := 92) (b := 126) 12 2 rfl f_12_8 rfl J rfl 16002 ⟨rfl, rfl⟩ rfl ?_
      refine x_bipush (v := 10) rfl kb_10 ?_
      refine z_iald (N := 50660) rfl J rfl sg_126_10_11_1_0_1 jk_10 (by omega) (fun v5 qv5 ev5 => ?_)
      try rw [vrn (n := 10) (by decide) (jmb_w w4 qv5 rfl)] at D
      refine x_iload (x := l4) rfl rfl ?_
      refine x_iloadn (x := l1) rfl rfl ?_
      refine x_inv (N := m_X12_latest) (As := [.int 47900, .int v5, .int l4, .int l1]) (b := 125) (st := []) (dx9 := 1) (mc := 0) (ms := 0) (host := "") 12 rfl t_X12_latest ⟨Or.inl q_12_801, i_X12_latest.1, i_X12_latest.2⟩ ⟨by decide, rfl⟩ (congrArg Prod.fst (J.1.1 125 (12, 92) rfl)) rfl (by decide) rfl rfl ⟨by decide, by decide⟩ (sf_X12_latest_r125_c47900d (jr_of rfl (by omega)) (jr_of rfl (by omega)) (jr_of rfl (by omega)) hD J rfl  (fun v9 h ev9 J S6 X7 X8 => ?_))
      have Sm := jSm_tr rfl Sm S6
      try rw [X7] at D
      try rw [← X8] at D
      show jX m_X12_findHouses 2 0 0 245 [(0, .ref 125), (1, .int l1), (2, .int 0), (3, .int l3), (4, .int l4), (5, .int l5), (6, .int l6)] [.int v9] _ 0 0 _
      refine x_istore (lsx9 := [(6, .int v9), (0, .ref 125), (1, .int l1), (2, .int 0), (3, .int l3), (4, .int l4), (5, .int l5)]) rfl rfl rfl ?_
      refine x_aloadn (x := 125) rfl rfl ?_
      refine x_iload (x := l4) rfl rfl ?_
      refine x_inv (N := m_X12_splitOf) (As := [.int l4]) (b := 125) (st := []) (dx9 := 1) (mc := 0) (ms := 0) (host := "") 12 rfl t_X12_splitOf ⟨Or.inl q_12_805, i_X12_splitOf.1, i_X12_splitOf.2⟩ ⟨by decide, rfl⟩ (congrArg Prod.fst (J.1.1 125 (12, 92) rfl)) rfl (by decide) rfl rfl ⟨by decide, by decide⟩ (sf_X12_splitOf_r125d (jr_of rfl (by omega)) hD J rfl  (fun v13 h ev13 xv13 J S10 X11 X12 => ?_))
      have Sm := jSm_tr rfl Sm S10
      try rw [X11] at D
      try rw [← X12] at D
      show jX m_X12_findHouses 2 0 0 253 [(6, .int v9), (0, .ref 125), (1, .int l1), (2, .int 0), (3, .int l3), (4, .int l4), (5, .int l5)] [.int v13] _ 0 0 _
      refine x_istore (lsx9 := [(7, .int v13), (6, .int v9), (0, .ref 125), (1, .int l1), (2, .int 0), (3, .int l3), (4, .int l4), (5, .int l5)]) rfl rfl rfl ?_
      refine x_aloadn (x := 125) rfl rfl ?_
      refine z_getR (N := 92) (b := 163) 12 78 rfl f_12_147 rfl J rfl 16078 ⟨rfl, rfl⟩ rfl ?_
      refine x_bipush (v := 40) rfl kb_40 ?_
      refine x_iloadn (x := 0) rfl rfl ?_
      refine y_imul (v := 0) rfl (by decide) ?_
      refine x_iload (x := l4) rfl rfl ?_
      refine z_iadd rfl jk_0 rfl (by omega) (fun v14 ev14 => ?_)
      refine x_iload (x := v9) rfl rfl ?_
      refine x_iflt (tgt := 281) rfl rfl (ti_lt rfl jk_0 ⟨fun c15 => ?_, fun c15 => ?_⟩)
      ·
        rw [if_pos (by omega)] at D
        refine x_iload (x := v9) rfl rfl ?_
        refine x_iconst (v := (-1)) rfl ki_m1 ?_
        refine x_iceq (tgt := 293) rfl rfl (ti_eq rfl jk_m1 ⟨fun c16 => ?_, fun c16 => ?_⟩)
        ·
          rw [if_pos (by omega)] at D
          try rw [show (0 + l4.toInt) = v14.toInt from by omega] at D
          exact jX.sub (jsb_c rfl (jsb_c rfl (jsb_c rfl (jsb_c rfl (jsb_c rfl jsb_n))))) (ct_X12_findHouses_r125_c0d_293 hD hQ k75 l1 l3 l4 v14 h (jr_of rfl (by omega)) (jr_of rfl (by omega)) (jr_of rfl (by omega)) (jr_of rfl (by omega)) (by omega) J Sm D)
        ·
          rw [if_neg (by omega)] at D
          refine x_iload (x := v13) rfl rfl ?_
          refine x_iconst (v := (-1)) rfl ki_m1 ?_
          refine x_icne (tgt := 297) rfl rfl (ti_ne rfl jk_m1 ⟨fun c17 => ?_, fun c17 => ?_⟩)
          ·
            rw [if_neg (by omega)] at D
            refine x_aloadn (x := 125) rfl rfl ?_
            refine z_getR (N := 92) (b := 163) 12 78 rfl f_12_147 rfl J rfl 16078 ⟨rfl, rfl⟩ rfl ?_
            refine x_bipush (v := 40) rfl kb_40 ?_
            refine x_iloadn (x := 0) rfl rfl ?_
            refine y_imul (v := 0) rfl (by decide) ?_
            refine x_aloadn (x := 125) rfl rfl ?_
            refine z_getR (N := 92) (b := 126) 12 2 rfl f_12_8 rfl J rfl 16002 ⟨rfl, rfl⟩ rfl ?_
            refine x_iload (x := v13) rfl rfl ?_
            refine x_iconst (v := 1) rfl ki_1 ?_
            refine z_iadd rfl rfl jk_1 (by omega) (fun v18 ev18 => ?_)
            refine z_iald (N := 50660) rfl J rfl sg_126_47660_47900_6_1_2 rfl (by omega) (fun v19 qv19 ev19 => ?_)
            try rw [vrd (jmb_w w4 (jmb_c S6 (jmb_c S10 qv19 rfl) rfl) rfl) (show (v13.toInt + 1) = v18.toInt from by omega)] at D
            refine z_iadd rfl jk_0 rfl (by omega) (fun v20 ev20 => ?_)
            refine z_iald (N := 80) rfl J rfl sg_163_0_80_1_0_1 rfl (by omega) (fun v21 qv21 ev21 => ?_)
            try rw [vrd (jmb_w w4 (jmb_c S6 (jmb_c S10 qv21 rfl) rfl) rfl) (show (0 + v19.toInt) = v20.toInt from by omega)] at D
            try rw [show (0 + l4.toInt) = v14.toInt from by omega] at D
            exact jX.sub (jsb_c rfl (jsb_c rfl (jsb_c rfl (jsb_c rfl (jsb_c rfl jsb_n))))) (ct_X12_findHouses_r125_c0d_316 hD hQ k75 l1 l3 l4 v21 v14 h (jr_of rfl (by omega)) (jr_of rfl (by omega)) (jr_of rfl (by omega)) (jr_of rfl (by omega)) (jr_of rfl (by omega)) (by omega) J Sm D)
          ·
            rw [if_pos (by omega)] at D
            try rw [show (0 + l4.toInt) = v14.toInt from by omega] at D
            exact jX.sub (jsb_c rfl (jsb_c rfl (jsb_c rfl (jsb_c rfl (jsb_c rfl jsb_n))))) (ct_X12_findHouses_r125_c0d_293 hD hQ k75 l1 l3 l4 v14 h (jr_of rfl (by omega)) (jr_of rfl (by omega)) (jr_of rfl (by omega)) (jr_of rfl (by omega)) (by omega) J Sm D)
      ·
        rw [if_neg (by omega)] at D
        refine x_aloadn (x := 125) rfl rfl ?_
        refine z_getR (N := 92) (b := 139) 12 29 rfl f_12_72 rfl J rfl 16029 ⟨rfl, rfl⟩ rfl ?_
        refine x_iload (x := v9) rfl rfl ?_
        refine z_iald (N := 600) rfl J rfl sg_139_0_600_1_0_1 rfl (by omega) (fun v22 qv22 ev22 => ?_)
        try rw [vrd (jmb_w w4 (jmb_c S6 (jmb_c S10 qv22 rfl) rfl) rfl) (show v9.toInt = v9.toInt from by omega)] at D
        refine x_goto (tgt := 316) rfl rfl ?_
        try rw [show (0 + l4.toInt) = v14.toInt from by omega] at D
        exact jX.sub (jsb_c rfl (jsb_c rfl (jsb_c rfl (jsb_c rfl (jsb_c rfl jsb_n))))) (ct_X12_findHouses_r125_c0d_316 hD hQ k75 l1 l3 l4 v22 v14 h (jr_of rfl (by omega)) (jr_of rfl (by omega)) (jr_of rfl (by omega)) (jr_of rfl (by omega)) (jr_of rfl (by omega)) (by omega) J Sm D)
    ·
      rw [if_neg (by omega)] at D
      refine x_ldcw (v := 47660) rfl z_12_799 ?_
      refine x_bipush (v := 6) rfl kb_6 ?_
      refine x_iload (x := l6) rfl rfl ?_
      refine z_imul rfl jk_6 rfl (by omega) (fun v23 ev23 => ?_)
      refine z_iadd rfl jk_47660 rfl (by omega) (fun v24 ev24 => ?_)
      refine x_istore (lsx9 := [(7, .int v24), (0, .ref 125), (1, .int l1), (2, .int 0), (3, .int l3), (4, .int l4), (5, .int l5), (6, .int l6)]) rfl rfl rfl ?_
      refine x_aloadn (x := 125) rfl rfl ?_
      refine z_getR (N := 92) (b := 126) 12 2 rfl f_12_8 rfl J rfl 16002 ⟨rfl, rfl⟩ rfl ?_
      refine x_iload (x := v24) rfl rfl ?_
      refine x_iconst (v := 1) rfl ki_1 ?_
      refine z_iadd rfl rfl jk_1 (by omega) (fun v25 ev25 => ?_)
      refine z_iald (N := 50660) rfl J rfl sg_126_47660_47900_6_1_2 rfl (by omega) (fun v26 qv26 ev26 => ?_)
      try rw [vrd qv26 (show ((47660 + (6 * l6.toInt)) + 1) = v25.toInt from by omega)] at D
      refine x_iload (x := l4) rfl rfl ?_
      refine x_icne (tgt := 208) rfl rfl (ti_ne rfl rfl ⟨fun c27 => ?_, fun c27 => ?_⟩)
      ·
        rw [if_neg (by omega)] at D
        exact jX.sub (jsb_c rfl (jsb_c rfl (jsb_c rfl (jsb_c rfl (jsb_c rfl (jsb_c rfl (jsb_c rfl jsb_n))))))) (ct_X12_findHouses_r125_c0d_208 hD hQ k75 ih l1 l3 l4 l5 l6 h (jr_of rfl (by omega)) (jr_of rfl (by omega)) (jr_of rfl (by omega)) (jr_of rfl (by omega)) (by omega) (by omega) J Sm D)
      ·
        rw [if_pos (by omega)] at D
        refine x_aloadn (x := 125) rfl rfl ?_
        refine z_getR (N := 92) (b := 126) 12 2 rfl f_12_8 rfl J rfl 16002 ⟨rfl, rfl⟩ rfl ?_
        refine x_iload (x := v24) rfl rfl ?_
        refine x_iconst (v := 4) rfl ki_4 ?_
        refine z_iadd rfl rfl jk_4 (by omega) (fun v28 ev28 => ?_)
        refine z_iald (N := 50660) rfl J rfl sg_126_47660_47900_6_4_5 rfl (by omega) (fun v29 qv29 ev29 => ?_)
        try rw [vrd qv29 (show ((47660 + (6 * l6.toInt)) + 4) = v28.toInt from by omega)] at D
        refine x_iloadn (x := l1) rfl rfl ?_
        refine x_icgt (tgt := 208) rfl rfl (ti_gt rfl rfl ⟨fun c30 => ?_, fun c30 => ?_⟩)
        ·
          rw [if_pos (by omega)] at D
          exact jX.sub (jsb_c rfl (jsb_c rfl (jsb_c rfl (jsb_c rfl (jsb_c rfl (jsb_c rfl (jsb_c rfl jsb_n))))))) (ct_X12_findHouses_r125_c0d_208 hD hQ k75 ih l1 l3 l4 l5 l6 h (jr_of rfl (by omega)) (jr_of rfl (by omega)) (jr_of rfl (by omega)) (jr_of rfl (by omega)) (by omega) (by omega) J Sm D)
        ·
          rw [if_neg (by omega)] at D
          refine x_aloadn (x := 125) rfl rfl ?_
          refine z_getR (N := 92) (b := 126) 12 2 rfl f_12_8 rfl J rfl 16002 ⟨rfl, rfl⟩ rfl ?_
          refine x_iload (x := v24) rfl rfl ?_
          refine x_iconst (v := 5) rfl ki_5 ?_
          refine z_iadd rfl rfl jk_5 (by omega) (fun v31 ev31 => ?_)
          refine z_iald (N := 50660) rfl J rfl sg_126_47660_47900_6_5_6 rfl (by omega) (fun v32 qv32 ev32 => ?_)
          try rw [vrd qv32 (show ((47660 + (6 * l6.toInt)) + 5) = v31.toInt from by omega)] at D
          refine x_aloadn (x := 125) rfl rfl ?_
          refine z_getI (N := 92) 12 28 rfl f_12_377 rfl J rfl sg_125_28_29_1_0_1 (fun v33 qv33 ev33 => ?_)
          try rw [vrf qv33] at D
          refine x_icgt (tgt := 208) rfl rfl (ti_gt rfl rfl ⟨fun c34 => ?_, fun c34 => ?_⟩)
          ·
            rw [if_pos (by omega)] at D
            exact jX.sub (jsb_c rfl (jsb_c rfl (jsb_c rfl (jsb_c rfl (jsb_c rfl (jsb_c rfl (jsb_c rfl jsb_n))))))) (ct_X12_findHouses_r125_c0d_208 hD hQ k75 ih l1 l3 l4 l5 l6 h (jr_of rfl (by omega)) (jr_of rfl (by omega)) (jr_of rfl (by omega)) (jr_of rfl (by omega)) (by omega) (by omega) J Sm D)
          ·
            rw [if_neg (by omega)] at D
            refine x_iload (x := l5) rfl rfl ?_
            refine z_i2l rfl rfl (fun v35 ev35 => ?_)
            refine x_aloadn (x := 125) rfl rfl ?_
            refine z_getR (N := 92) (b := 126) 12 2 rfl f_12_8 rfl J rfl 16002 ⟨rfl, rfl⟩ rfl ?_
            refine x_iload (x := v24) rfl rfl ?_
            refine x_iconst (v := 2) rfl ki_2 ?_
            refine z_iadd rfl rfl jk_2 (by omega) (fun v36 ev36 => ?_)
            refine z_iald (N := 50660) rfl J rfl sg_126_47660_47900_6_2_3 rfl (by omega) (fun v37 qv37 ev37 => ?_)
            try rw [vrd qv37 (show ((47660 + (6 * l6.toInt)) + 2) = v36.toInt from by omega)] at D
            refine z_i2l rfl rfl (fun v38 ev38 => ?_)
            refine z_lmulW rfl rfl rfl (fun v39 ev39 => ?_)
            have fv39 := jfullL v39
            try rw [show l5.toInt = v35.toInt from by omega] at D
            try rw [show v37.toInt = v38.toInt from by omega] at D
            try rw [← ev39] at D
            refine x_aloadn (x := 125) rfl rfl ?_
            refine z_getR (N := 92) (b := 126) 12 2 rfl f_12_8 rfl J rfl 16002 ⟨rfl, rfl⟩ rfl ?_
            refine x_iload (x := v24) rfl rfl ?_
            refine x_iconst (v := 3) rfl ki_3 ?_
            refine z_iadd rfl rfl jk_3 (by omega) (fun v40 ev40 => ?_)
            refine z_iald (N := 50660) rfl J rfl sg_126_47660_47900_6_3_4 rfl (by omega) (fun v41 qv41 ev41 => ?_)
            try rw [vrd qv41 (show ((47660 + (6 * l6.toInt)) + 3) = v40.toInt from by omega)] at D
            have sv41 := jspt_at (p := l6.toInt) hD J (by omega) (by omega) qv1 qv41
            refine z_i2l rfl rfl (fun v42 ev42 => ?_)
            refine z_ldivW rfl rfl rfl (by omega) (fun v43 ev43 => ?_)
            have fv43 := jfullL v43
            try rw [show v41.toInt = v42.toInt from by omega] at D
            try rw [← ev43] at D
            refine z_l2iD rfl rfl (fun v44 ev44 => ?_)
            have fv44 := jfull v44
            try rw [← ev44] at D
            refine x_istore (lsx9 := [(8, .int v44), (7, .int v24), (0, .ref 125), (1, .int l1), (2, .int 0), (3, .int l3), (4, .int l4), (5, .int l5), (6, .int l6)]) rfl rfl rfl ?_
            refine x_aloadn (x := 125) rfl rfl ?_
            refine z_getR (N := 92) (b := 164) 12 79 rfl f_12_150 rfl J rfl 16079 ⟨rfl, rfl⟩ rfl ?_
            refine x_aloadn (x := 125) rfl rfl ?_
            refine z_getR (N := 92) (b := 126) 12 2 rfl f_12_8 rfl J rfl 16002 ⟨rfl, rfl⟩ rfl ?_
            refine x_iload (x := v24) rfl rfl ?_
            refine z_iald (N := 50660) rfl J rfl sg_126_47660_47900_6_0_1 rfl (by omega) (fun v45 qv45 ev45 => ?_)
            try rw [vrd qv45 (show (47660 + (6 * l6.toInt)) = v24.toInt from by omega)] at D
            refine x_iload (x := v44) rfl rfl ?_
            refine z_iast (N := 40) (l := 0) (u := 40) (w := v44.toInt) rfl hD J Sm rfl rfl rfl (by omega) rfl (wr_164) rfl (fun h w46 J Sm => ?_)
            rw [vww w46 (show v45.toInt = v45.toInt from by omega) (show v44.toInt = v44.toInt from by omega)] at D
            refine x_iload (x := l5) rfl rfl ?_
            refine x_iload (x := v44) rfl rfl ?_
            refine z_isubW rfl rfl rfl (fun v47 ev47 => ?_)
            have fv47 := jfull v47
            try rw [show v35.toInt = l5.toInt from by omega] at D
            try rw [← ev47] at D
            refine x_istore (lsx9 := [(5, .int v47), (8, .int v44), (7, .int v24), (0, .ref 125), (1, .int l1), (2, .int 0), (3, .int l3), (4, .int l4), (6, .int l6)]) rfl rfl rfl ?_
            exact jX.sub (jsb_c rfl (jsb_c rfl (jsb_c rfl (jsb_c rfl (jsb_c rfl (jsb_c rfl (jsb_c rfl jsb_n))))))) (ct_X12_findHouses_r125_c0d_208 hD hQ k75 ih l1 l3 l4 v47 l6 h (jr_of rfl (by omega)) (jr_of rfl (by omega)) (jr_of rfl (by omega)) (jr_of rfl (by omega)) (by omega) (by omega) J Sm D)
set_option maxRecDepth 100000 in
set_option maxHeartbeats 4000000 in
theorem ct_X12_findHouses_r125_c0d_75 {Dy : jH → Prop} {h0 : jH} {Q : Option Value → jH → Prop} {dr : jW} (hD : jDk Dy) (hQ : ∀ hx9, jJ jSgM Dy hx9 → jSm fp_X12_findHouses_r125_c0d h0 hx9 → dr = vw hx9 → Q none hx9) : ∀ r : Nat, ∀ (l1 : Int32) (l3 : Int32) (l4 : Int32) (h : jH), 40 - l4.toInt < (r : Int) → 0 ≤ l1.toInt ∧ l1.toInt ≤ 146399 → 0 ≤ l3.toInt ∧ l3.toInt ≤ 40 → 0 ≤ l4.toInt ∧ l4.toInt ≤ 40 → jJ jSgM Dy h → jSm fp_X12_findHouses_r125_c0d h0 h → d_X12_findHouses_r125_c0d_75 r l1.toInt l3.toInt l4.toInt (vw h) = dr → jX m_X12_findHouses 2 0 0 75 [(0, .ref 125), (1, .int l1), (2, .int 0), (3, .int l3), (4, .int l4)] [] h 0 0 Q := by
  intro r
  induction r with
  | zero =>
    intro l1 l3 l4 h hm y0 y1 y2   J Sm D
    exfalso
    omega
  | succ r ih =>
    intro l1 l3 l4 h hm y0 y1 y2   J Sm D
    rw [d_X12_findHouses_r125_c0d_75.eq_2] at D
    refine x_iload (x := l4) rfl rfl ?_
    refine x_iloadn (x := l3) rfl rfl ?_
    refine x_icge (tgt := 323) rfl rfl (ti_ge rfl rfl ⟨fun c1 => ?_, fun c1 => ?_⟩)
    ·
      rw [if_pos (by omega)] at D
      refine x_vret rfl rfl ?_
      exact hQ _ J Sm D.symm
    ·
      rw [if_neg (by omega)] at D
      refine x_aloadn (x := 125) rfl rfl ?_
      refine z_getR (N := 92) (b := 164) 12 79 rfl f_12_150 rfl J rfl 16079 ⟨rfl, rfl⟩ rfl ?_
      refine x_iload (x := l4) rfl rfl ?_
      refine z_iald0 (N := 40) rfl J rfl rfl (by omega) (fun v2 qv2 => ?_)
      have ev2 := jfull v2
      try rw [vrd qv2 (show l4.toInt = l4.toInt from by omega)] at D
      refine x_istore (lsx9 := [(5, .int v2), (0, .ref 125), (1, .int l1), (2, .int 0), (3, .int l3), (4, .int l4)]) rfl rfl rfl ?_
      refine x_iconst (v := 0) rfl ki_0 ?_
      refine x_istore (lsx9 := [(6, .int 0), (5, .int v2), (0, .ref 125), (1, .int l1), (2, .int 0), (3, .int l3), (4, .int l4)]) rfl rfl rfl ?_
      exact jX.sub (jsb_c rfl (jsb_c rfl (jsb_c rfl (jsb_c rfl (jsb_c rfl (jsb_c rfl (jsb_c rfl jsb_n))))))) (ct_X12_findHouses_r125_c0d_93 hD hQ ih 41 l1 l3 l4 v2 0 h (by have := jk_0; omega) (jr_of rfl (by omega)) (jr_of rfl (by omega)) (jr_of rfl (by omega)) (jr_of jk_0 (by omega)) (by omega) J Sm (by rw [jk_0]; exact D))
set_option maxRecDepth 100000 in
set_option maxHeartbeats 4000000 in
theorem ct_X12_findHouses_r125_c0d_65 {Dy : jH → Prop} {h0 : jH} {Q : Option Value → jH → Prop} {dr : jW} {K11 : Int → Int → Int → jW → jW} {R11 : Int} (hD : jDk Dy) (hQ : ∀ hx9, jJ jSgM Dy hx9 → jSm fp_X12_findHouses_r125_c0d h0 hx9 → dr = vw hx9 → Q none hx9) (k11 : ∀ (l1 : Int32) (l3 : Int32) (l4 : Int32) (h : jH), 40 - l4.toInt < R11 → 0 ≤ l1.toInt ∧ l1.toInt ≤ 146399 → 0 ≤ l3.toInt ∧ l3.toInt ≤ 40 → 0 ≤ l4.toInt ∧ l4.toInt ≤ 40 → jJ jSgM Dy h → jSm fp_X12_findHouses_r125_c0d h0 h → K11 l1.toInt l3.toInt l4.toInt (vw h) = dr → jX m_X12_findHouses 2 0 0 11 [(0, .ref 125), (1, .int l1), (2, .int 0), (3, .int l3), (4, .int l4)] [] h 0 0 Q) : ∀ (l1 : Int32) (l3 : Int32) (l4 : Int32) (s0 : Int32) (s1 : Int32) (h : jH), 0 ≤ l1.toInt ∧ l1.toInt ≤ 146399 → 1 ≤ l3.toInt ∧ l3.toInt ≤ 40 → 0 ≤ l4.toInt ∧ l4.toInt ≤ 39 → (-1) ≤ s0.toInt ∧ s0.toInt ≤ 10000 → 0 ≤ s1.toInt ∧ s1.toInt ≤ 39 → 40 - l4.toInt ≤ R11 → jJ jSgM Dy h → jSm fp_X12_findHouses_r125_c0d h0 h → d_X12_findHouses_r125_c0d_65 K11  l1.toInt l3.toInt l4.toInt s0.toInt s1.toInt (vw h) = dr → jX m_X12_findHouses 2 0 0 65 [(0, .ref 125), (1, .int l1), (2, .int 0), (3, .int l3), (4, .int l4)] [.int s0, .int s1, .ref 164] h 0 0 Q := by
  intro l1 l3 l4 s0 s1 h y0 y1 y2 y3 y4  m11 J Sm D
  unfold d_X12_findHouses_r125_c0d_65 at D
  refine z_iast (N := 40) (l := 0) (u := 40) (w := s0.toInt) rfl hD J Sm rfl rfl rfl (by omega) rfl (wr_164) rfl (fun h w1 J Sm => ?_)
  rw [vww w1 (show s1.toInt = s1.toInt from by omega) (show s0.toInt = s0.toInt from by omega)] at D
  refine z_iinc (x := l4) (lsx9 := fun v2 => [(4, .int v2), (0, .ref 125), (1, .int l1), (2, .int 0), (3, .int l3)]) rfl rfl rfl jko_1 (by omega) rfl (fun _ => rfl) (fun v2 ev2 => ?_)
  refine x_goto (tgt := 11) rfl rfl ?_
  try rw [show (l4.toInt + 1) = v2.toInt from by omega] at D
  exact jX.sub (jsb_c rfl (jsb_c rfl (jsb_c rfl (jsb_c rfl (jsb_c rfl jsb_n))))) (k11 l1 l3 v2 h (by omega) (jr_of rfl (by omega)) (jr_of rfl (by omega)) (jr_of rfl (by omega)) J Sm D)
set_option maxRecDepth 100000 in
set_option maxHeartbeats 4000000 in
theorem ct_X12_findHouses_r125_c0d_200065 {Dy : jH → Prop} {h0 : jH} {Q : Option Value → jH → Prop} {dr : jW} {K11 : Int → Int → Int → jW → jW} {R11 : Int} (hD : jDk Dy) (hQ : ∀ hx9, jJ jSgM Dy hx9 → jSm fp_X12_findHouses_r125_c0d h0 hx9 → dr = vw hx9 → Q none hx9) (k11 : ∀ (l1 : Int32) (l3 : Int32) (l4 : Int32) (h : jH), 40 - l4.toInt < R11 → 0 ≤ l1.toInt ∧ l1.toInt ≤ 146399 → 0 ≤ l3.toInt ∧ l3.toInt ≤ 40 → 0 ≤ l4.toInt ∧ l4.toInt ≤ 40 → jJ jSgM Dy h → jSm fp_X12_findHouses_r125_c0d h0 h → K11 l1.toInt l3.toInt l4.toInt (vw h) = dr → jX m_X12_findHouses 2 0 0 11 [(0, .ref 125), (1, .int l1), (2, .int 0), (3, .int l3), (4, .int l4)] [] h 0 0 Q) : ∀ (l1 : Int32) (l3 : Int32) (l4 : Int32) (s1 : Int32) (h : jH), 0 ≤ l1.toInt ∧ l1.toInt ≤ 146399 → 1 ≤ l3.toInt ∧ l3.toInt ≤ 40 → 0 ≤ l4.toInt ∧ l4.toInt ≤ 39 → 0 ≤ s1.toInt ∧ s1.toInt ≤ 39 → 40 - l4.toInt ≤ R11 → jJ jSgM Dy h → jSm fp_X12_findHouses_r125_c0d h0 h → d_X12_findHouses_r125_c0d_200065 K11  l1.toInt l3.toInt l4.toInt s1.toInt (vw h) = dr → jX m_X12_findHouses 2 0 0 65 [(0, .ref 125), (1, .int l1), (2, .int 0), (3, .int l3), (4, .int l4)] [.int 0, .int s1, .ref 164] h 0 0 Q := by
  intro l1 l3 l4 s1 h y0 y1 y2 y3  m11 J Sm D
  unfold d_X12_findHouses_r125_c0d_200065 at D
  refine z_iast (N := 40) (l := 0) (u := 40) (w := 0) rfl hD J Sm rfl rfl rfl (by omega) jk_0 (wr_164) rfl (fun h w1 J Sm => ?_)
  rw [vww w1 (show s1.toInt = s1.toInt from by omega) (show 0 = (0 : Int32).toInt from by have := jk_0; omega)] at D
  refine z_iinc (x := l4) (lsx9 := fun v2 => [(4, .int v2), (0, .ref 125), (1, .int l1), (2, .int 0), (3, .int l3)]) rfl rfl rfl jko_1 (by omega) rfl (fun _ => rfl) (fun v2 ev2 => ?_)
  refine x_goto (tgt := 11) rfl rfl ?_
  try rw [show (l4.toInt + 1) = v2.toInt from by omega] at D
  exact jX.sub (jsb_c rfl (jsb_c rfl (jsb_c rfl (jsb_c rfl (jsb_c rfl jsb_n))))) (k11 l1 l3 v2 h (by omega) (jr_of rfl (by omega)) (jr_of rfl (by omega)) (jr_of rfl (by omega)) J Sm D)
set_option maxRecDepth 100000 in
set_option maxHeartbeats 4000000 in
theorem ct_X12_findHouses_r125_c0d_59 {Dy : jH → Prop} {h0 : jH} {Q : Option Value → jH → Prop} {dr : jW} {K11 : Int → Int → Int → jW → jW} {R11 : Int} (hD : jDk Dy) (hQ : ∀ hx9, jJ jSgM Dy hx9 → jSm fp_X12_findHouses_r125_c0d h0 hx9 → dr = vw hx9 → Q none hx9) (k11 : ∀ (l1 : Int32) (l3 : Int32) (l4 : Int32) (h : jH), 40 - l4.toInt < R11 → 0 ≤ l1.toInt ∧ l1.toInt ≤ 146399 → 0 ≤ l3.toInt ∧ l3.toInt ≤ 40 → 0 ≤ l4.toInt ∧ l4.toInt ≤ 40 → jJ jSgM Dy h → jSm fp_X12_findHouses_r125_c0d h0 h → K11 l1.toInt l3.toInt l4.toInt (vw h) = dr → jX m_X12_findHouses 2 0 0 11 [(0, .ref 125), (1, .int l1), (2, .int 0), (3, .int l3), (4, .int l4)] [] h 0 0 Q) : ∀ (l1 : Int32) (l3 : Int32) (l4 : Int32) (s0 : Int32) (h : jH), 0 ≤ l1.toInt ∧ l1.toInt ≤ 146399 → 1 ≤ l3.toInt ∧ l3.toInt ≤ 40 → 0 ≤ l4.toInt ∧ l4.toInt ≤ 39 → 0 ≤ s0.toInt ∧ s0.toInt ≤ 39 → 40 - l4.toInt ≤ R11 → jJ jSgM Dy h → jSm fp_X12_findHouses_r125_c0d h0 h → d_X12_findHouses_r125_c0d_59 K11  l1.toInt l3.toInt l4.toInt s0.toInt (vw h) = dr → jX m_X12_findHouses 2 0 0 59 [(0, .ref 125), (1, .int l1), (2, .int 0), (3, .int l3), (4, .int l4)] [.int s0, .ref 164] h 0 0 Q := by
  intro l1 l3 l4 s0 h y0 y1 y2 y3  m11 J Sm D
  unfold d_X12_findHouses_r125_c0d_59 at D
  refine x_iconst (v := 0) rfl ki_0 ?_
  refine x_goto (tgt := 65) rfl rfl ?_
  exact jX.sub (jsb_c rfl (jsb_c rfl (jsb_c rfl (jsb_c rfl (jsb_c rfl jsb_n))))) (ct_X12_findHouses_r125_c0d_200065 hD hQ k11 l1 l3 l4 s0 h (jr_of rfl (by omega)) (jr_of rfl (by omega)) (jr_of rfl (by omega)) (jr_of rfl (by omega)) (by omega) J Sm D)
set_option maxRecDepth 100000 in
set_option maxHeartbeats 4000000 in
theorem ct_X12_findHouses_r125_c0d_11 {Dy : jH → Prop} {h0 : jH} {Q : Option Value → jH → Prop} {dr : jW} (hD : jDk Dy) (hQ : ∀ hx9, jJ jSgM Dy hx9 → jSm fp_X12_findHouses_r125_c0d h0 hx9 → dr = vw hx9 → Q none hx9) : ∀ r : Nat, ∀ (l1 : Int32) (l3 : Int32) (l4 : Int32) (h : jH), 40 - l4.toInt < (r : Int) → 0 ≤ l1.toInt ∧ l1.toInt ≤ 146399 → 0 ≤ l3.toInt ∧ l3.toInt ≤ 40 → 0 ≤ l4.toInt ∧ l4.toInt ≤ 40 → jJ jSgM Dy h → jSm fp_X12_findHouses_r125_c0d h0 h → d_X12_findHouses_r125_c0d_11 r l1.toInt l3.toInt l4.toInt (vw h) = dr → jX m_X12_findHouses 2 0 0 11 [(0, .ref 125), (1, .int l1), (2, .int 0), (3, .int l3), (4, .int l4)] [] h 0 0 Q := by
  intro r
  induction r with
  | zero =>
    intro l1 l3 l4 h hm y0 y1 y2   J Sm D
    exfalso
    omega
  | succ r ih =>
    intro l1 l3 l4 h hm y0 y1 y2   J Sm D
    rw [d_X12_findHouses_r125_c0d_11.eq_2] at D
    refine x_iload (x := l4) rfl rfl ?_
    refine x_iloadn (x := l3) rfl rfl ?_
    refine x_icge (tgt := 72) rfl rfl (ti_ge rfl rfl ⟨fun c1 => ?_, fun c1 => ?_⟩)
    ·
      rw [if_pos (by omega)] at D
      refine x_iconst (v := 0) rfl ki_0 ?_
      refine x_istore (lsx9 := [(4, .int 0), (0, .ref 125), (1, .int l1), (2, .int 0), (3, .int l3)]) rfl rfl rfl ?_
      exact jX.sub (jsb_c rfl (jsb_c rfl (jsb_c rfl (jsb_c rfl (jsb_c rfl jsb_n))))) (ct_X12_findHouses_r125_c0d_75 hD hQ  41 l1 l3 0 h (by have := jk_0; omega) (jr_of rfl (by omega)) (jr_of rfl (by omega)) (jr_of jk_0 (by omega)) J Sm (by rw [jk_0]; exact D))
    ·
      rw [if_neg (by omega)] at D
      refine x_aloadn (x := 125) rfl rfl ?_
      refine x_ldcw (v := 47260) rfl z_12_800 ?_
      refine x_aloadn (x := 125) rfl rfl ?_
      refine z_getR (N := 92) (b := 126) 12 2 rfl f_12_8 rfl J rfl 16002 ⟨rfl, rfl⟩ rfl ?_
      refine x_bipush (v := 8) rfl kb_8 ?_
      refine z_iald (N := 50660) rfl J rfl sg_126_8_9_1_0_1 jk_8 (by omega) (fun v2 qv2 ev2 => ?_)
      try rw [vrn (n := 8) (by decide) qv2] at D
      refine x_iload (x := l4) rfl rfl ?_
      refine x_iloadn (x := l1) rfl rfl ?_
      refine x_inv (N := m_X12_latest) (As := [.int 47260, .int v2, .int l4, .int l1]) (b := 125) (st := []) (dx9 := 1) (mc := 0) (ms := 0) (host := "") 12 rfl t_X12_latest ⟨Or.inl q_12_801, i_X12_latest.1, i_X12_latest.2⟩ ⟨by decide, rfl⟩ (congrArg Prod.fst (J.1.1 125 (12, 92) rfl)) rfl (by decide) rfl rfl ⟨by decide, by decide⟩ (sf_X12_latest_r125_c47260d (jr_of rfl (by omega)) (jr_of rfl (by omega)) (jr_of rfl (by omega)) hD J rfl  (fun v6 h ev6 J S3 X4 X5 => ?_))
      have Sm := jSm_tr rfl Sm S3
      try rw [X4] at D
      try rw [← X5] at D
      show jX m_X12_findHouses 2 0 0 34 [(0, .ref 125), (1, .int l1), (2, .int 0), (3, .int l3), (4, .int l4)] [.int v6] _ 0 0 _
      refine x_istore (lsx9 := [(5, .int v6), (0, .ref 125), (1, .int l1), (2, .int 0), (3, .int l3), (4, .int l4)]) rfl rfl rfl ?_
      refine x_aloadn (x := 125) rfl rfl ?_
      refine z_getR (N := 92) (b := 164) 12 79 rfl f_12_150 rfl J rfl 16079 ⟨rfl, rfl⟩ rfl ?_
      refine x_iload (x := l4) rfl rfl ?_
      refine x_aloadn (x := 125) rfl rfl ?_
      refine x_iload (x := l4) rfl rfl ?_
      refine x_inv (N := m_X12_splitOf) (As := [.int l4]) (b := 125) (st := [.int l4, .ref 164]) (dx9 := 1) (mc := 0) (ms := 0) (host := "") 12 rfl t_X12_splitOf ⟨Or.inl q_12_805, i_X12_splitOf.1, i_X12_splitOf.2⟩ ⟨by decide, rfl⟩ (congrArg Prod.fst (J.1.1 125 (12, 92) rfl)) rfl (by decide) rfl rfl ⟨by decide, by decide⟩ (sf_X12_splitOf_r125d (jr_of rfl (by omega)) hD J rfl  (fun v10 h ev10 xv10 J S7 X8 X9 => ?_))
      have Sm := jSm_tr rfl Sm S7
      try rw [X8] at D
      try rw [← X9] at D
      show jX m_X12_findHouses 2 0 0 48 [(5, .int v6), (0, .ref 125), (1, .int l1), (2, .int 0), (3, .int l3), (4, .int l4)] [.int v10, .int l4, .ref 164] _ 0 0 _
      refine x_iconst (v := (-1)) rfl ki_m1 ?_
      refine x_icne (tgt := 59) rfl rfl (ti_ne rfl jk_m1 ⟨fun c11 => ?_, fun c11 => ?_⟩)
      ·
        rw [if_neg (by omega)] at D
        exact jX.sub (jsb_c rfl (jsb_c rfl (jsb_c rfl (jsb_c rfl (jsb_c rfl jsb_n))))) (ct_X12_findHouses_r125_c0d_59 hD hQ ih l1 l3 l4 l4 h (jr_of rfl (by omega)) (jr_of rfl (by omega)) (jr_of rfl (by omega)) (jr_of rfl (by omega)) (by omega) J Sm D)
      ·
        rw [if_pos (by omega)] at D
        refine x_iload (x := v6) rfl rfl ?_
        refine x_bipush (v := (-2)) rfl kb_m2 ?_
        refine x_icne (tgt := 63) rfl rfl (ti_ne rfl jk_m2 ⟨fun c12 => ?_, fun c12 => ?_⟩)
        ·
          rw [if_neg (by omega)] at D
          refine x_iload (x := v6) rfl rfl ?_
          exact jX.sub (jsb_c rfl (jsb_c rfl (jsb_c rfl (jsb_c rfl (jsb_c rfl jsb_n))))) (ct_X12_findHouses_r125_c0d_65 hD hQ ih l1 l3 l4 v6 l4 h (jr_of rfl (by omega)) (jr_of rfl (by omega)) (jr_of rfl (by omega)) (jr_of rfl (by omega)) (jr_of rfl (by omega)) (by omega) J Sm D)
        ·
          rw [if_pos (by omega)] at D
          exact jX.sub (jsb_c rfl (jsb_c rfl (jsb_c rfl (jsb_c rfl (jsb_c rfl jsb_n))))) (ct_X12_findHouses_r125_c0d_59 hD hQ ih l1 l3 l4 l4 h (jr_of rfl (by omega)) (jr_of rfl (by omega)) (jr_of rfl (by omega)) (jr_of rfl (by omega)) (by omega) J Sm D)
set_option maxRecDepth 100000 in
set_option maxHeartbeats 4000000 in
theorem sf_X12_findHouses_r125_c0d {Dy : jH → Prop} {h : jH} {Q : Option Value → jH → Prop} {dr : jW} {a1 : Int32} (y1 : 0 ≤ a1.toInt ∧ a1.toInt ≤ 146399) (hD : jDk Dy) (J : jJ jSgM Dy h) (D : d_X12_findHouses_r125_c0d a1.toInt (vw h) = dr) (hQ : ∀ hx9, jJ jSgM Dy hx9 → jSm fp_X12_findHouses_r125_c0d h hx9 → dr = vw hx9 → Q none hx9) : jC m_X12_findHouses 2 0 0 [.ref 125, .int a1, .int 0] h Q := by
  refine jC.of rfl k_X12_findHouses rfl ?_
  have Sm := jSm_rf fp_X12_findHouses_r125_c0d h
  show jX m_X12_findHouses 2 0 0 0 [(0, .ref 125), (1, .int a1), (2, .int 0)] [] _ 0 0 _
  unfold d_X12_findHouses_r125_c0d at D
  refine x_aloadn (x := 125) rfl rfl ?_
  refine z_getR (N := 92) (b := 126) 12 2 rfl f_12_8 rfl J rfl 16002 ⟨rfl, rfl⟩ rfl ?_
  refine x_bipush (v := 7) rfl kb_7 ?_
  refine z_iald (N := 50660) rfl J rfl sg_126_7_8_1_0_1 jk_7 (by omega) (fun v1 qv1 ev1 => ?_)
  try rw [vrn (n := 7) (by decide) qv1] at D
  refine x_istoren (lsx9 := [(3, .int v1), (0, .ref 125), (1, .int a1), (2, .int 0)]) rfl rfl rfl ?_
  refine x_iconst (v := 0) rfl ki_0 ?_
  refine x_istore (lsx9 := [(4, .int 0), (3, .int v1), (0, .ref 125), (1, .int a1), (2, .int 0)]) rfl rfl rfl ?_
  exact jX.sub (jsb_c rfl (jsb_c rfl (jsb_c rfl (jsb_c rfl (jsb_c rfl jsb_n))))) (ct_X12_findHouses_r125_c0d_11 hD hQ  41 a1 v1 0 h (by have := jk_0; omega) (jr_of rfl (by omega)) (jr_of rfl (by omega)) (jr_of jk_0 (by omega)) J Sm (by rw [jk_0]; exact D))
def fp_X12_valueHeld_r125d : jFp := [(162, 0, 40), (163, 0, 40), (164, 0, 40)]
set_option maxRecDepth 100000 in
set_option maxHeartbeats 4000000 in
theorem ct_X12_valueHeld_r125d_200046 {Dy : jH → Prop} {h0 : jH} {Q : Option Value → jH → Prop} {dr : (Int × jW)} {K11 : Int → Int → Int → jW → (Int × jW)} {R11 : Int} (hD : jDk Dy) (hQ : ∀ (v : Int32) hx9, jJ jSgM Dy hx9 → jSm fp_X12_valueHeld_r125d h0 hx9 → dr.1 = v.toInt → dr.2 = vw hx9 → Q (some (.int v)) hx9) (k11 : ∀ (l1 : Int32) (l3 : Int32) (l4 : Int32) (h : jH), 40 - l4.toInt < R11 → (-1) ≤ l1.toInt ∧ l1.toInt ≤ 599 → 0 ≤ l4.toInt ∧ l4.toInt ≤ 40 → jJ jSgM Dy h → jSm fp_X12_valueHeld_r125d h0 h → K11 l1.toInt l3.toInt l4.toInt (vw h) = dr → jX m_X12_valueHeld 3 0 0 11 [(0, .ref 125), (1, .int l1), (3, .int l3), (4, .int l4)] [] h 0 0 Q) : ∀ (l1 : Int32) (l4 : Int32) (s1 : Int32) (h : jH), (-1) ≤ l1.toInt ∧ l1.toInt ≤ 599 → 0 ≤ l4.toInt ∧ l4.toInt ≤ 39 → 40 - l4.toInt ≤ R11 → jJ jSgM Dy h → jSm fp_X12_valueHeld_r125d h0 h → d_X12_valueHeld_r125d_200046 K11  l1.toInt l4.toInt s1.toInt (vw h) = dr → jX m_X12_valueHeld 3 0 0 46 [(0, .ref 125), (1, .int l1), (4, .int l4)] [.int 0, .int s1] h 0 0 Q := by
  intro l1 l4 s1 h y0 y1  m11 J Sm D
  have es1 := jfull s1
  unfold d_X12_valueHeld_r125d_200046 at D
  refine z_iadd rfl rfl jk_0 (by omega) (fun v1 ev1 => ?_)
  refine x_istoren (lsx9 := [(3, .int v1), (0, .ref 125), (1, .int l1), (4, .int l4)]) rfl rfl rfl ?_
  refine z_iinc (x := l4) (lsx9 := fun v2 => [(4, .int v2), (3, .int v1), (0, .ref 125), (1, .int l1)]) rfl rfl rfl jko_1 (by omega) rfl (fun _ => rfl) (fun v2 ev2 => ?_)
  refine x_goto (tgt := 11) rfl rfl ?_
  try rw [show (s1.toInt + 0) = v1.toInt from by omega] at D
  try rw [show (l4.toInt + 1) = v2.toInt from by omega] at D
  exact jX.sub (jsb_c rfl (jsb_c rfl (jsb_c rfl (jsb_c rfl jsb_n)))) (k11 l1 v1 v2 h (by omega) (jr_of rfl (by omega)) (jr_of rfl (by omega)) J Sm D)
set_option maxRecDepth 100000 in
set_option maxHeartbeats 4000000 in
theorem ct_X12_valueHeld_r125d_46 {Dy : jH → Prop} {h0 : jH} {Q : Option Value → jH → Prop} {dr : (Int × jW)} {K11 : Int → Int → Int → jW → (Int × jW)} {R11 : Int} (hD : jDk Dy) (hQ : ∀ (v : Int32) hx9, jJ jSgM Dy hx9 → jSm fp_X12_valueHeld_r125d h0 hx9 → dr.1 = v.toInt → dr.2 = vw hx9 → Q (some (.int v)) hx9) (k11 : ∀ (l1 : Int32) (l3 : Int32) (l4 : Int32) (h : jH), 40 - l4.toInt < R11 → (-1) ≤ l1.toInt ∧ l1.toInt ≤ 599 → 0 ≤ l4.toInt ∧ l4.toInt ≤ 40 → jJ jSgM Dy h → jSm fp_X12_valueHeld_r125d h0 h → K11 l1.toInt l3.toInt l4.toInt (vw h) = dr → jX m_X12_valueHeld 3 0 0 11 [(0, .ref 125), (1, .int l1), (3, .int l3), (4, .int l4)] [] h 0 0 Q) : ∀ (l1 : Int32) (l4 : Int32) (s0 : Int32) (s1 : Int32) (h : jH), (-1) ≤ l1.toInt ∧ l1.toInt ≤ 599 → 0 ≤ l4.toInt ∧ l4.toInt ≤ 39 → 40 - l4.toInt ≤ R11 → jJ jSgM Dy h → jSm fp_X12_valueHeld_r125d h0 h → d_X12_valueHeld_r125d_46 K11  l1.toInt l4.toInt s0.toInt s1.toInt (vw h) = dr → jX m_X12_valueHeld 3 0 0 46 [(0, .ref 125), (1, .int l1), (4, .int l4)] [.int s0, .int s1] h 0 0 Q := by
  intro l1 l4 s0 s1 h y0 y1  m11 J Sm D
  have es0 := jfull s0
  have es1 := jfull s1
  unfold d_X12_valueHeld_r125d_46 at D
  refine z_iaddW rfl rfl rfl (fun v1 ev1 => ?_)
  have fv1 := jfull v1
  try rw [← ev1] at D
  refine x_istoren (lsx9 := [(3, .int v1), (0, .ref 125), (1, .int l1), (4, .int l4)]) rfl rfl rfl ?_
  refine z_iinc (x := l4) (lsx9 := fun v2 => [(4, .int v2), (3, .int v1), (0, .ref 125), (1, .int l1)]) rfl rfl rfl jko_1 (by omega) rfl (fun _ => rfl) (fun v2 ev2 => ?_)
  refine x_goto (tgt := 11) rfl rfl ?_
  try rw [show (l4.toInt + 1) = v2.toInt from by omega] at D
  exact jX.sub (jsb_c rfl (jsb_c rfl (jsb_c rfl (jsb_c rfl jsb_n)))) (k11 l1 v1 v2 h (by omega) (jr_of rfl (by omega)) (jr_of rfl (by omega)) J Sm D)
set_option maxRecDepth 100000 in
set_option maxHeartbeats 4000000 in
theorem ct_X12_valueHeld_r125d_11 {Dy : jH → Prop} {h0 : jH} {Q : Option Value → jH → Prop} {dr : (Int × jW)} (hD : jDk Dy) (hQ : ∀ (v : Int32) hx9, jJ jSgM Dy hx9 → jSm fp_X12_valueHeld_r125d h0 hx9 → dr.1 = v.toInt → dr.2 = vw hx9 → Q (some (.int v)) hx9) : ∀ r : Nat, ∀ (l1 : Int32) (l3 : Int32) (l4 : Int32) (h : jH), 40 - l4.toInt < (r : Int) → (-1) ≤ l1.toInt ∧ l1.toInt ≤ 599 → 0 ≤ l4.toInt ∧ l4.toInt ≤ 40 → jJ jSgM Dy h → jSm fp_X12_valueHeld_r125d h0 h → d_X12_valueHeld_r125d_11 r l1.toInt l3.toInt l4.toInt (vw h) = dr → jX m_X12_valueHeld 3 0 0 11 [(0, .ref 125), (1, .int l1), (3, .int l3), (4, .int l4)] [] h 0 0 Q := by
  intro r
  induction r with
  | zero =>
    intro l1 l3 l4 h hm y0 y1   J Sm D
    exfalso
    have el3 := jfull l3
    omega
  | succ r ih =>
    intro l1 l3 l4 h hm y0 y1   J Sm D
    have el3 := jfull l3
    rw [d_X12_valueHeld_r125d_11.eq_2] at D
    refine x_iload (x := l4) rfl rfl ?_
    refine x_aloadn (x := 125) rfl rfl ?_
    refine z_getR (N := 92) (b := 126) 12 2 rfl f_12_8 rfl J rfl 16002 ⟨rfl, rfl⟩ rfl ?_
    refine x_bipush (v := 7) rfl kb_7 ?_
    refine z_iald (N := 50660) rfl J rfl sg_126_7_8_1_0_1 jk_7 (by omega) (fun v1 qv1 ev1 => ?_)
    try rw [vrn (n := 7) (by decide) qv1] at D
    refine x_icge (tgt := 54) rfl rfl (ti_ge rfl rfl ⟨fun c2 => ?_, fun c2 => ?_⟩)
    ·
      rw [if_pos (by omega)] at D
      refine x_iloadn (x := l3) rfl rfl ?_
      refine x_iret rfl rfl ?_
      exact hQ _ _ J Sm ((congrArg Prod.fst D).symm.trans (show l3.toInt = l3.toInt from by omega)) (congrArg Prod.snd D).symm
    ·
      rw [if_neg (by omega)] at D
      refine x_iloadn (x := l3) rfl rfl ?_
      refine x_aloadn (x := 125) rfl rfl ?_
      refine z_getR (N := 92) (b := 163) 12 78 rfl f_12_147 rfl J rfl 16078 ⟨rfl, rfl⟩ rfl ?_
      refine x_iload (x := l4) rfl rfl ?_
      refine z_iald (N := 80) rfl J rfl sg_163_0_80_1_0_1 rfl (by omega) (fun v3 qv3 ev3 => ?_)
      try rw [vrd qv3 (show l4.toInt = l4.toInt from by omega)] at D
      refine x_iloadn (x := l1) rfl rfl ?_
      refine x_icne (tgt := 45) rfl rfl (ti_ne rfl rfl ⟨fun c4 => ?_, fun c4 => ?_⟩)
      ·
        rw [if_neg (by omega)] at D
        refine x_iconst (v := 0) rfl ki_0 ?_
        exact jX.sub (jsb_c rfl (jsb_c rfl (jsb_c rfl jsb_n))) (ct_X12_valueHeld_r125d_200046 hD hQ ih l1 l4 l3 h (jr_of rfl (by omega)) (jr_of rfl (by omega)) (by omega) J Sm D)
      ·
        rw [if_pos (by omega)] at D
        refine x_aloadn (x := 125) rfl rfl ?_
        refine z_getR (N := 92) (b := 162) 12 77 rfl f_12_144 rfl J rfl 16077 ⟨rfl, rfl⟩ rfl ?_
        refine x_iload (x := l4) rfl rfl ?_
        refine z_iald0 (N := 80) rfl J rfl rfl (by omega) (fun v5 qv5 => ?_)
        have ev5 := jfull v5
        try rw [vrd qv5 (show l4.toInt = l4.toInt from by omega)] at D
        refine x_goto (tgt := 46) rfl rfl ?_
        exact jX.sub (jsb_c rfl (jsb_c rfl (jsb_c rfl jsb_n))) (ct_X12_valueHeld_r125d_46 hD hQ ih l1 l4 v5 l3 h (jr_of rfl (by omega)) (jr_of rfl (by omega)) (by omega) J Sm D)
set_option maxRecDepth 100000 in
set_option maxHeartbeats 4000000 in
theorem sf_X12_valueHeld_r125d {Dy : jH → Prop} {h : jH} {Q : Option Value → jH → Prop} {dr : (Int × jW)} {a1 : Int32} {a2 : Int32} (y1 : (-1) ≤ a1.toInt ∧ a1.toInt ≤ 599) (y2 : 0 ≤ a2.toInt ∧ a2.toInt ≤ 146399) (hD : jDk Dy) (J : jJ jSgM Dy h) (D : d_X12_valueHeld_r125d a1.toInt a2.toInt (vw h) = dr) (hQ : ∀ (v : Int32) hx9, jJ jSgM Dy hx9 → jSm fp_X12_valueHeld_r125d h hx9 → dr.1 = v.toInt → dr.2 = vw hx9 → Q (some (.int v)) hx9) : jC m_X12_valueHeld 3 0 0 [.ref 125, .int a1, .int a2] h Q := by
  refine jC.of rfl k_X12_valueHeld rfl ?_
  have Sm := jSm_rf fp_X12_valueHeld_r125d h
  show jX m_X12_valueHeld 3 0 0 0 [(0, .ref 125), (1, .int a1), (2, .int a2)] [] _ 0 0 _
  unfold d_X12_valueHeld_r125d at D
  refine x_aloadn (x := 125) rfl rfl ?_
  refine x_iloadn (x := a2) rfl rfl ?_
  refine x_iconst (v := 0) rfl ki_0 ?_
  refine x_inv (N := m_X12_findHouses) (As := [.int a2, .int 0]) (b := 125) (st := []) (dx9 := 2) (mc := 0) (ms := 0) (host := "") 12 rfl t_X12_findHouses ⟨Or.inl q_12_694, i_X12_findHouses.1, i_X12_findHouses.2⟩ ⟨by decide, rfl⟩ (congrArg Prod.fst (J.1.1 125 (12, 92) rfl)) rfl (by decide) rfl rfl ⟨by decide, by decide⟩ (sf_X12_findHouses_r125_c0d (jr_of rfl (by omega)) hD J rfl  (fun h J S1 X2 => ?_))
  have Sm := jSm_tr rfl Sm S1
  rw [X2] at D
  show jX m_X12_valueHeld 3 0 0 6 [(0, .ref 125), (1, .int a1), (2, .int a2)] [] _ 0 0 _
  refine x_iconst (v := 0) rfl ki_0 ?_
  refine x_istoren (lsx9 := [(3, .int 0), (0, .ref 125), (1, .int a1), (2, .int a2)]) rfl rfl rfl ?_
  refine x_iconst (v := 0) rfl ki_0 ?_
  refine x_istore (lsx9 := [(4, .int 0), (3, .int 0), (0, .ref 125), (1, .int a1), (2, .int a2)]) rfl rfl rfl ?_
  exact jX.sub (jsb_c rfl (jsb_c rfl (jsb_c rfl (jsb_c rfl jsb_n)))) (ct_X12_valueHeld_r125d_11 hD hQ  41 a1 0 0 h (by have := jk_0; omega) (jr_of rfl (by omega)) (jr_of jk_0 (by omega)) J Sm (by rw [jk_0]; exact D))
def fp_X12_yearsOf_r125d : jFp := []
set_option maxRecDepth 100000 in
set_option maxHeartbeats 4000000 in
theorem ct_X12_yearsOf_r125d_97 {Dy : jH → Prop} {h0 : jH} {Q : Option Value → jH → Prop} {dr : Int} (hD : jDk Dy) (hQ : ∀ (v : Int32) hx9, jJ jSgM Dy hx9 → jSm fp_X12_yearsOf_r125d h0 hx9 → dr = v.toInt → vw hx9 = vw h0 → Q (some (.int v)) hx9) : ∀ (s0 : Int32) (h : jH), jJ jSgM Dy h → jSm fp_X12_yearsOf_r125d h0 h → d_X12_yearsOf_r125d_97  s0.toInt (vw h) = dr → vw h = vw h0 → jX m_X12_yearsOf 4 0 0 97 [] [.int s0] h 0 0 Q := by
  intro s0 h    J Sm D EV
  have es0 := jfull s0
  unfold d_X12_yearsOf_r125d_97 at D
  refine x_iret rfl rfl ?_
  exact hQ _ _ J Sm (D.symm.trans (show s0.toInt = s0.toInt from by omega)) EV
set_option maxRecDepth 100000 in
set_option maxHeartbeats 4000000 in
theorem ct_X12_yearsOf_r125d_200097 {Dy : jH → Prop} {h0 : jH} {Q : Option Value → jH → Prop} {dr : Int} (hD : jDk Dy) (hQ : ∀ (v : Int32) hx9, jJ jSgM Dy hx9 → jSm fp_X12_yearsOf_r125d h0 hx9 → dr = v.toInt → vw hx9 = vw h0 → Q (some (.int v)) hx9) : ∀ (h : jH), jJ jSgM Dy h → jSm fp_X12_yearsOf_r125d h0 h → d_X12_yearsOf_r125d_200097  (vw h) = dr → vw h = vw h0 → jX m_X12_yearsOf 4 0 0 97 [] [.int 0] h 0 0 Q := by
  intro  h    J Sm D EV
  unfold d_X12_yearsOf_r125d_200097 at D
  refine x_iret rfl rfl ?_
  exact hQ _ _ J Sm (D.symm.trans (show 0 = (0 : Int32).toInt from by have := jk_0; omega)) EV
set_option maxRecDepth 100000 in
set_option maxHeartbeats 4000000 in
theorem ct_X12_yearsOf_r125d_75 {Dy : jH → Prop} {h0 : jH} {Q : Option Value → jH → Prop} {dr : Int} {K5 : Int → Int → Int → Int → jW → Int} {R5 : Int} (hD : jDk Dy) (hQ : ∀ (v : Int32) hx9, jJ jSgM Dy hx9 → jSm fp_X12_yearsOf_r125d h0 hx9 → dr = v.toInt → vw hx9 = vw h0 → Q (some (.int v)) hx9) (k5 : ∀ (l1 : Int32) (l2 : Int32) (l3 : Int32) (l4 : Int32) (h : jH), 600 - l4.toInt < R5 → (-1) ≤ l1.toInt ∧ l1.toInt ≤ 599 → 0 ≤ l2.toInt ∧ l2.toInt ≤ 146399 → (-1) ≤ l3.toInt ∧ l3.toInt ≤ 146399 → 0 ≤ l4.toInt ∧ l4.toInt ≤ 600 → jJ jSgM Dy h → jSm fp_X12_yearsOf_r125d h0 h → K5 l1.toInt l2.toInt l3.toInt l4.toInt (vw h) = dr → vw h = vw h0 → jX m_X12_yearsOf 4 0 0 5 [(0, .ref 125), (1, .int l1), (2, .int l2), (3, .int l3), (4, .int l4)] [] h 0 0 Q) : ∀ (l1 : Int32) (l2 : Int32) (l4 : Int32) (s0 : Int32) (h : jH), (-1) ≤ l1.toInt ∧ l1.toInt ≤ 599 → 0 ≤ l2.toInt ∧ l2.toInt ≤ 146399 → 0 ≤ l4.toInt ∧ l4.toInt ≤ 599 → (-1) ≤ s0.toInt ∧ s0.toInt ≤ 146399 → 600 - l4.toInt ≤ R5 → jJ jSgM Dy h → jSm fp_X12_yearsOf_r125d h0 h → d_X12_yearsOf_r125d_75 K5  l1.toInt l2.toInt l4.toInt s0.toInt (vw h) = dr → vw h = vw h0 → jX m_X12_yearsOf 4 0 0 75 [(0, .ref 125), (1, .int l1), (2, .int l2), (4, .int l4)] [.int s0] h 0 0 Q := by
  intro l1 l2 l4 s0 h y0 y1 y2 y3  m5 J Sm D EV
  unfold d_X12_yearsOf_r125d_75 at D
  refine x_istoren (lsx9 := [(3, .int s0), (0, .ref 125), (1, .int l1), (2, .int l2), (4, .int l4)]) rfl rfl rfl ?_
  refine z_iinc (x := l4) (lsx9 := fun v1 => [(4, .int v1), (3, .int s0), (0, .ref 125), (1, .int l1), (2, .int l2)]) rfl rfl rfl jko_1 (by omega) rfl (fun _ => rfl) (fun v1 ev1 => ?_)
  refine x_goto (tgt := 5) rfl rfl ?_
  try rw [show (l4.toInt + 1) = v1.toInt from by omega] at D
  exact jX.sub (jsb_c rfl (jsb_c rfl (jsb_c rfl (jsb_c rfl (jsb_c rfl jsb_n))))) (k5 l1 l2 s0 v1 h (by omega) (jr_of rfl (by omega)) (jr_of rfl (by omega)) (jr_of rfl (by omega)) (jr_of rfl (by omega)) J Sm D EV)
set_option maxRecDepth 100000 in
set_option maxHeartbeats 4000000 in
theorem ct_X12_yearsOf_r125d_74 {Dy : jH → Prop} {h0 : jH} {Q : Option Value → jH → Prop} {dr : Int} {K5 : Int → Int → Int → Int → jW → Int} {R5 : Int} (hD : jDk Dy) (hQ : ∀ (v : Int32) hx9, jJ jSgM Dy hx9 → jSm fp_X12_yearsOf_r125d h0 hx9 → dr = v.toInt → vw hx9 = vw h0 → Q (some (.int v)) hx9) (k5 : ∀ (l1 : Int32) (l2 : Int32) (l3 : Int32) (l4 : Int32) (h : jH), 600 - l4.toInt < R5 → (-1) ≤ l1.toInt ∧ l1.toInt ≤ 599 → 0 ≤ l2.toInt ∧ l2.toInt ≤ 146399 → (-1) ≤ l3.toInt ∧ l3.toInt ≤ 146399 → 0 ≤ l4.toInt ∧ l4.toInt ≤ 600 → jJ jSgM Dy h → jSm fp_X12_yearsOf_r125d h0 h → K5 l1.toInt l2.toInt l3.toInt l4.toInt (vw h) = dr → vw h = vw h0 → jX m_X12_yearsOf 4 0 0 5 [(0, .ref 125), (1, .int l1), (2, .int l2), (3, .int l3), (4, .int l4)] [] h 0 0 Q) : ∀ (l1 : Int32) (l2 : Int32) (l3 : Int32) (l4 : Int32) (h : jH), (-1) ≤ l1.toInt ∧ l1.toInt ≤ 599 → 0 ≤ l2.toInt ∧ l2.toInt ≤ 146399 → (-1) ≤ l3.toInt ∧ l3.toInt ≤ 146399 → 0 ≤ l4.toInt ∧ l4.toInt ≤ 599 → 600 - l4.toInt ≤ R5 → jJ jSgM Dy h → jSm fp_X12_yearsOf_r125d h0 h → d_X12_yearsOf_r125d_74 K5  l1.toInt l2.toInt l3.toInt l4.toInt (vw h) = dr → vw h = vw h0 → jX m_X12_yearsOf 4 0 0 74 [(0, .ref 125), (1, .int l1), (2, .int l2), (3, .int l3), (4, .int l4)] [] h 0 0 Q := by
  intro l1 l2 l3 l4 h y0 y1 y2 y3  m5 J Sm D EV
  unfold d_X12_yearsOf_r125d_74 at D
  refine x_iloadn (x := l3) rfl rfl ?_
  exact jX.sub (jsb_c rfl (jsb_c rfl (jsb_c rfl (jsb_c rfl jsb_n)))) (ct_X12_yearsOf_r125d_75 hD hQ k5 l1 l2 l4 l3 h (jr_of rfl (by omega)) (jr_of rfl (by omega)) (jr_of rfl (by omega)) (jr_of rfl (by omega)) (by omega) J Sm D EV)
set_option maxRecDepth 100000 in
set_option maxHeartbeats 4000000 in
theorem ct_X12_yearsOf_r125d_65 {Dy : jH → Prop} {h0 : jH} {Q : Option Value → jH → Prop} {dr : Int} {K5 : Int → Int → Int → Int → jW → Int} {R5 : Int} (hD : jDk Dy) (hQ : ∀ (v : Int32) hx9, jJ jSgM Dy hx9 → jSm fp_X12_yearsOf_r125d h0 hx9 → dr = v.toInt → vw hx9 = vw h0 → Q (some (.int v)) hx9) (k5 : ∀ (l1 : Int32) (l2 : Int32) (l3 : Int32) (l4 : Int32) (h : jH), 600 - l4.toInt < R5 → (-1) ≤ l1.toInt ∧ l1.toInt ≤ 599 → 0 ≤ l2.toInt ∧ l2.toInt ≤ 146399 → (-1) ≤ l3.toInt ∧ l3.toInt ≤ 146399 → 0 ≤ l4.toInt ∧ l4.toInt ≤ 600 → jJ jSgM Dy h → jSm fp_X12_yearsOf_r125d h0 h → K5 l1.toInt l2.toInt l3.toInt l4.toInt (vw h) = dr → vw h = vw h0 → jX m_X12_yearsOf 4 0 0 5 [(0, .ref 125), (1, .int l1), (2, .int l2), (3, .int l3), (4, .int l4)] [] h 0 0 Q) : ∀ (l1 : Int32) (l2 : Int32) (l4 : Int32) (h : jH), (-1) ≤ l1.toInt ∧ l1.toInt ≤ 599 → 0 ≤ l2.toInt ∧ l2.toInt ≤ 146399 → 0 ≤ l4.toInt ∧ l4.toInt ≤ 599 → 600 - l4.toInt ≤ R5 → jJ jSgM Dy h → jSm fp_X12_yearsOf_r125d h0 h → d_X12_yearsOf_r125d_65 K5  l1.toInt l2.toInt l4.toInt (vw h) = dr → vw h = vw h0 → jX m_X12_yearsOf 4 0 0 65 [(0, .ref 125), (1, .int l1), (2, .int l2), (4, .int l4)] [] h 0 0 Q := by
  intro l1 l2 l4 h y0 y1 y2  m5 J Sm D EV
  unfold d_X12_yearsOf_r125d_65 at D
  refine x_aloadn (x := 125) rfl rfl ?_
  refine x_iload (x := l4) rfl rfl ?_
  refine x_inv (N := m_X12_dayAt) (As := [.int l4]) (b := 125) (st := []) (dx9 := 3) (mc := 0) (ms := 0) (host := "") 12 rfl t_X12_dayAt ⟨Or.inl q_12_347, i_X12_dayAt.1, i_X12_dayAt.2⟩ ⟨by decide, rfl⟩ (congrArg Prod.fst (J.1.1 125 (12, 92) rfl)) rfl (by decide) rfl rfl ⟨by decide, by decide⟩ (sf_X12_dayAt_r125d (jr_of rfl (by omega)) hD J rfl  (fun v4 h ev4 J S1 X2 X3 => ?_))
  have Sm := jSm_tr rfl Sm S1
  try rw [X2] at D
  try rw [← X3] at D
  have EV := X3.trans EV
  show jX m_X12_yearsOf 4 0 0 71 [(0, .ref 125), (1, .int l1), (2, .int l2), (4, .int l4)] [.int v4] _ 0 0 _
  refine x_goto (tgt := 75) rfl rfl ?_
  exact jX.sub (jsb_c rfl (jsb_c rfl (jsb_c rfl (jsb_c rfl jsb_n)))) (ct_X12_yearsOf_r125d_75 hD hQ k5 l1 l2 l4 v4 h (jr_of rfl (by omega)) (jr_of rfl (by omega)) (jr_of rfl (by omega)) (jr_of rfl (by omega)) (by omega) J Sm D EV)
set_option maxRecDepth 100000 in
set_option maxHeartbeats 4000000 in
theorem ct_X12_yearsOf_r125d_300044 {Dy : jH → Prop} {h0 : jH} {Q : Option Value → jH → Prop} {dr : Int} {K5 : Int → Int → Int → Int → jW → Int} {R5 : Int} (hD : jDk Dy) (hQ : ∀ (v : Int32) hx9, jJ jSgM Dy hx9 → jSm fp_X12_yearsOf_r125d h0 hx9 → dr = v.toInt → vw hx9 = vw h0 → Q (some (.int v)) hx9) (k5 : ∀ (l1 : Int32) (l2 : Int32) (l3 : Int32) (l4 : Int32) (h : jH), 600 - l4.toInt < R5 → (-1) ≤ l1.toInt ∧ l1.toInt ≤ 599 → 0 ≤ l2.toInt ∧ l2.toInt ≤ 146399 → (-1) ≤ l3.toInt ∧ l3.toInt ≤ 146399 → 0 ≤ l4.toInt ∧ l4.toInt ≤ 600 → jJ jSgM Dy h → jSm fp_X12_yearsOf_r125d h0 h → K5 l1.toInt l2.toInt l3.toInt l4.toInt (vw h) = dr → vw h = vw h0 → jX m_X12_yearsOf 4 0 0 5 [(0, .ref 125), (1, .int l1), (2, .int l2), (3, .int l3), (4, .int l4)] [] h 0 0 Q) : ∀ (l1 : Int32) (l2 : Int32) (l3 : Int32) (l4 : Int32) (h : jH), (-1) ≤ l1.toInt ∧ l1.toInt ≤ 599 → 0 ≤ l2.toInt ∧ l2.toInt ≤ 146399 → (-1) ≤ l3.toInt ∧ l3.toInt ≤ 146399 → 0 ≤ l4.toInt ∧ l4.toInt ≤ 599 → 600 - l4.toInt ≤ R5 → jJ jSgM Dy h → jSm fp_X12_yearsOf_r125d h0 h → d_X12_yearsOf_r125d_300044 K5  l1.toInt l2.toInt l3.toInt l4.toInt (vw h) = dr → vw h = vw h0 → jX m_X12_yearsOf 4 0 0 44 [(0, .ref 125), (1, .int l1), (2, .int l2), (3, .int l3), (4, .int l4)] [.int 1] h 0 0 Q := by
  intro l1 l2 l3 l4 h y0 y1 y2 y3  m5 J Sm D EV
  unfold d_X12_yearsOf_r125d_300044 at D
  refine x_istore (lsx9 := [(5, .int 1), (0, .ref 125), (1, .int l1), (2, .int l2), (3, .int l3), (4, .int l4)]) rfl rfl rfl ?_
  refine x_iload (x := 1) rfl rfl ?_
  refine x_ifeq (tgt := 74) rfl rfl (ti_eq jk_1 jk_0 (br_f (by omega) ?_))
  refine x_iloadn (x := l3) rfl rfl ?_
  refine x_iflt (tgt := 65) rfl rfl (ti_lt rfl jk_0 ⟨fun c1 => ?_, fun c1 => ?_⟩)
  ·
    rw [if_pos (by omega)] at D
    exact jX.sub (jsb_c rfl (jsb_c rfl (jsb_c rfl (jsb_c rfl jsb_n)))) (ct_X12_yearsOf_r125d_65 hD hQ k5 l1 l2 l4 h (jr_of rfl (by omega)) (jr_of rfl (by omega)) (jr_of rfl (by omega)) (by omega) J Sm D EV)
  ·
    rw [if_neg (by omega)] at D
    refine x_aloadn (x := 125) rfl rfl ?_
    refine x_iload (x := l4) rfl rfl ?_
    refine x_inv (N := m_X12_dayAt) (As := [.int l4]) (b := 125) (st := []) (dx9 := 3) (mc := 0) (ms := 0) (host := "") 12 rfl t_X12_dayAt ⟨Or.inl q_12_347, i_X12_dayAt.1, i_X12_dayAt.2⟩ ⟨by decide, rfl⟩ (congrArg Prod.fst (J.1.1 125 (12, 92) rfl)) rfl (by decide) rfl rfl ⟨by decide, by decide⟩ (sf_X12_dayAt_r125d (jr_of rfl (by omega)) hD J rfl  (fun v5 h ev5 J S2 X3 X4 => ?_))
    have Sm := jSm_tr rfl Sm S2
    try rw [X3] at D
    try rw [← X4] at D
    have EV := X4.trans EV
    show jX m_X12_yearsOf 4 0 0 61 [(5, .int 1), (0, .ref 125), (1, .int l1), (2, .int l2), (3, .int l3), (4, .int l4)] [.int v5] _ 0 0 _
    refine x_iloadn (x := l3) rfl rfl ?_
    refine x_icge (tgt := 74) rfl rfl (ti_ge rfl rfl ⟨fun c6 => ?_, fun c6 => ?_⟩)
    ·
      rw [if_pos (by omega)] at D
      exact jX.sub (jsb_c rfl (jsb_c rfl (jsb_c rfl (jsb_c rfl (jsb_c rfl jsb_n))))) (ct_X12_yearsOf_r125d_74 hD hQ k5 l1 l2 l3 l4 h (jr_of rfl (by omega)) (jr_of rfl (by omega)) (jr_of rfl (by omega)) (jr_of rfl (by omega)) (by omega) J Sm D EV)
    ·
      rw [if_neg (by omega)] at D
      exact jX.sub (jsb_c rfl (jsb_c rfl (jsb_c rfl (jsb_c rfl jsb_n)))) (ct_X12_yearsOf_r125d_65 hD hQ k5 l1 l2 l4 h (jr_of rfl (by omega)) (jr_of rfl (by omega)) (jr_of rfl (by omega)) (by omega) J Sm D EV)
set_option maxRecDepth 100000 in
set_option maxHeartbeats 4000000 in
theorem ct_X12_yearsOf_r125d_200044 {Dy : jH → Prop} {h0 : jH} {Q : Option Value → jH → Prop} {dr : Int} {K5 : Int → Int → Int → Int → jW → Int} {R5 : Int} (hD : jDk Dy) (hQ : ∀ (v : Int32) hx9, jJ jSgM Dy hx9 → jSm fp_X12_yearsOf_r125d h0 hx9 → dr = v.toInt → vw hx9 = vw h0 → Q (some (.int v)) hx9) (k5 : ∀ (l1 : Int32) (l2 : Int32) (l3 : Int32) (l4 : Int32) (h : jH), 600 - l4.toInt < R5 → (-1) ≤ l1.toInt ∧ l1.toInt ≤ 599 → 0 ≤ l2.toInt ∧ l2.toInt ≤ 146399 → (-1) ≤ l3.toInt ∧ l3.toInt ≤ 146399 → 0 ≤ l4.toInt ∧ l4.toInt ≤ 600 → jJ jSgM Dy h → jSm fp_X12_yearsOf_r125d h0 h → K5 l1.toInt l2.toInt l3.toInt l4.toInt (vw h) = dr → vw h = vw h0 → jX m_X12_yearsOf 4 0 0 5 [(0, .ref 125), (1, .int l1), (2, .int l2), (3, .int l3), (4, .int l4)] [] h 0 0 Q) : ∀ (l1 : Int32) (l2 : Int32) (l3 : Int32) (l4 : Int32) (h : jH), (-1) ≤ l1.toInt ∧ l1.toInt ≤ 599 → 0 ≤ l2.toInt ∧ l2.toInt ≤ 146399 → (-1) ≤ l3.toInt ∧ l3.toInt ≤ 146399 → 0 ≤ l4.toInt ∧ l4.toInt ≤ 599 → 600 - l4.toInt ≤ R5 → jJ jSgM Dy h → jSm fp_X12_yearsOf_r125d h0 h → d_X12_yearsOf_r125d_200044 K5  l1.toInt l2.toInt l3.toInt l4.toInt (vw h) = dr → vw h = vw h0 → jX m_X12_yearsOf 4 0 0 44 [(0, .ref 125), (1, .int l1), (2, .int l2), (3, .int l3), (4, .int l4)] [.int 0] h 0 0 Q := by
  intro l1 l2 l3 l4 h y0 y1 y2 y3  m5 J Sm D EV
  unfold d_X12_yearsOf_r125d_200044 at D
  refine x_istore (lsx9 := [(5, .int 0), (0, .ref 125), (1, .int l1), (2, .int l2), (3, .int l3), (4, .int l4)]) rfl rfl rfl ?_
  refine x_iload (x := 0) rfl rfl ?_
  refine x_ifeq (tgt := 74) rfl rfl (ti_eq jk_0 jk_0 (br_t (by omega) ?_))
  exact jX.sub (jsb_c rfl (jsb_c rfl (jsb_c rfl (jsb_c rfl (jsb_c rfl jsb_n))))) (ct_X12_yearsOf_r125d_74 hD hQ k5 l1 l2 l3 l4 h (jr_of rfl (by omega)) (jr_of rfl (by omega)) (jr_of rfl (by omega)) (jr_of rfl (by omega)) (by omega) J Sm D EV)
set_option maxRecDepth 100000 in
set_option maxHeartbeats 4000000 in
theorem ct_X12_yearsOf_r125d_43 {Dy : jH → Prop} {h0 : jH} {Q : Option Value → jH → Prop} {dr : Int} {K5 : Int → Int → Int → Int → jW → Int} {R5 : Int} (hD : jDk Dy) (hQ : ∀ (v : Int32) hx9, jJ jSgM Dy hx9 → jSm fp_X12_yearsOf_r125d h0 hx9 → dr = v.toInt → vw hx9 = vw h0 → Q (some (.int v)) hx9) (k5 : ∀ (l1 : Int32) (l2 : Int32) (l3 : Int32) (l4 : Int32) (h : jH), 600 - l4.toInt < R5 → (-1) ≤ l1.toInt ∧ l1.toInt ≤ 599 → 0 ≤ l2.toInt ∧ l2.toInt ≤ 146399 → (-1) ≤ l3.toInt ∧ l3.toInt ≤ 146399 → 0 ≤ l4.toInt ∧ l4.toInt ≤ 600 → jJ jSgM Dy h → jSm fp_X12_yearsOf_r125d h0 h → K5 l1.toInt l2.toInt l3.toInt l4.toInt (vw h) = dr → vw h = vw h0 → jX m_X12_yearsOf 4 0 0 5 [(0, .ref 125), (1, .int l1), (2, .int l2), (3, .int l3), (4, .int l4)] [] h 0 0 Q) : ∀ (l1 : Int32) (l2 : Int32) (l3 : Int32) (l4 : Int32) (h : jH), (-1) ≤ l1.toInt ∧ l1.toInt ≤ 599 → 0 ≤ l2.toInt ∧ l2.toInt ≤ 146399 → (-1) ≤ l3.toInt ∧ l3.toInt ≤ 146399 → 0 ≤ l4.toInt ∧ l4.toInt ≤ 599 → 600 - l4.toInt ≤ R5 → jJ jSgM Dy h → jSm fp_X12_yearsOf_r125d h0 h → d_X12_yearsOf_r125d_43 K5  l1.toInt l2.toInt l3.toInt l4.toInt (vw h) = dr → vw h = vw h0 → jX m_X12_yearsOf 4 0 0 43 [(0, .ref 125), (1, .int l1), (2, .int l2), (3, .int l3), (4, .int l4)] [] h 0 0 Q := by
  intro l1 l2 l3 l4 h y0 y1 y2 y3  m5 J Sm D EV
  unfold d_X12_yearsOf_r125d_43 at D
  refine x_iconst (v := 0) rfl ki_0 ?_
  exact jX.sub (jsb_c rfl (jsb_c rfl (jsb_c rfl (jsb_c rfl (jsb_c rfl jsb_n))))) (ct_X12_yearsOf_r125d_200044 hD hQ k5 l1 l2 l3 l4 h (jr_of rfl (by omega)) (jr_of rfl (by omega)) (jr_of rfl (by omega)) (jr_of rfl (by omega)) (by omega) J Sm D EV)
set_option maxRecDepth 100000 in
set_option maxHeartbeats 4000000 in
theorem ct_X12_yearsOf_r125d_5 {Dy : jH → Prop} {h0 : jH} {Q : Option Value → jH → Prop} {dr : Int} (hD : jDk Dy) (hQ : ∀ (v : Int32) hx9, jJ jSgM Dy hx9 → jSm fp_X12_yearsOf_r125d h0 hx9 → dr = v.toInt → vw hx9 = vw h0 → Q (some (.int v)) hx9) : ∀ r : Nat, ∀ (l1 : Int32) (l2 : Int32) (l3 : Int32) (l4 : Int32) (h : jH), 600 - l4.toInt < (r : Int) → (-1) ≤ l1.toInt ∧ l1.toInt ≤ 599 → 0 ≤ l2.toInt ∧ l2.toInt ≤ 146399 → (-1) ≤ l3.toInt ∧ l3.toInt ≤ 146399 → 0 ≤ l4.toInt ∧ l4.toInt ≤ 600 → jJ jSgM Dy h → jSm fp_X12_yearsOf_r125d h0 h → d_X12_yearsOf_r125d_5 r l1.toInt l2.toInt l3.toInt l4.toInt (vw h) = dr → vw h = vw h0 → jX m_X12_yearsOf 4 0 0 5 [(0, .ref 125), (1, .int l1), (2, .int l2), (3, .int l3), (4, .int l4)] [] h 0 0 Q := by
  intro r
  induction r with
  | zero =>
    intro l1 l2 l3 l4 h hm y0 y1 y2 y3   J Sm D EV
    exfalso
    omega
  | succ r ih =>
    intro l1 l2 l3 l4 h hm y0 y1 y2 y3   J Sm D EV
    rw [d_X12_yearsOf_r125d_5.eq_2] at D
    refine x_iload (x := l4) rfl rfl ?_
    refine x_iconst (v := 3) rfl ki_3 ?_
    refine x_aloadn (x := 125) rfl rfl ?_
    refine z_getR (N := 92) (b := 126) 12 2 rfl f_12_8 rfl J rfl 16002 ⟨rfl, rfl⟩ rfl ?_
    refine x_iconst (v := 0) rfl ki_0 ?_
    refine z_iald (N := 50660) rfl J rfl sg_126_0_1_1_0_1 jk_0 (by omega) (fun v1 qv1 ev1 => ?_)
    try rw [vrn (n := 0) (by decide) qv1] at D
    refine z_imul rfl jk_3 rfl (by omega) (fun v2 ev2 => ?_)
    refine x_icge (tgt := 82) rfl rfl (ti_ge rfl rfl ⟨fun c3 => ?_, fun c3 => ?_⟩)
    ·
      rw [if_pos (by omega)] at D
      refine x_iloadn (x := l3) rfl rfl ?_
      refine x_ifge (tgt := 90) rfl rfl (ti_ge rfl jk_0 ⟨fun c4 => ?_, fun c4 => ?_⟩)
      ·
        rw [if_pos (by omega)] at D
        refine x_iloadn (x := l2) rfl rfl ?_
        refine x_iloadn (x := l3) rfl rfl ?_
        refine z_isub rfl rfl rfl (by omega) (fun v5 ev5 => ?_)
        refine x_sipush (v := 366) rfl ks_366 ?_
        refine z_idivW rfl rfl jk_366 (by omega) (fun v6 ev6 => ?_)
        have fv6 := jfull v6
        try rw [show (l2.toInt - l3.toInt) = v5.toInt from by omega] at D
        try rw [← ev6] at D
        exact jX.sub jsb_n (ct_X12_yearsOf_r125d_97 hD hQ  v6 h J Sm D EV)
      ·
        rw [if_neg (by omega)] at D
        refine x_iconst (v := 0) rfl ki_0 ?_
        refine x_goto (tgt := 97) rfl rfl ?_
        exact jX.sub jsb_n (ct_X12_yearsOf_r125d_200097 hD hQ  h J Sm D EV)
    ·
      rw [if_neg (by omega)] at D
      refine x_aloadn (x := 125) rfl rfl ?_
      refine z_getR (N := 92) (b := 139) 12 29 rfl f_12_72 rfl J rfl 16029 ⟨rfl, rfl⟩ rfl ?_
      refine x_iload (x := l4) rfl rfl ?_
      refine z_iald (N := 600) rfl J rfl sg_139_0_600_1_0_1 rfl (by omega) (fun v7 qv7 ev7 => ?_)
      try rw [vrd qv7 (show l4.toInt = l4.toInt from by omega)] at D
      refine x_iloadn (x := l1) rfl rfl ?_
      refine x_icne (tgt := 43) rfl rfl (ti_ne rfl rfl ⟨fun c8 => ?_, fun c8 => ?_⟩)
      ·
        rw [if_neg (by omega)] at D
        exact jX.sub (jsb_c rfl (jsb_c rfl (jsb_c rfl (jsb_c rfl (jsb_c rfl jsb_n))))) (ct_X12_yearsOf_r125d_43 hD hQ ih l1 l2 l3 l4 h (jr_of rfl (by omega)) (jr_of rfl (by omega)) (jr_of rfl (by omega)) (jr_of rfl (by omega)) (by omega) J Sm D EV)
      ·
        rw [if_pos (by omega)] at D
        refine x_aloadn (x := 125) rfl rfl ?_
        refine x_iload (x := l4) rfl rfl ?_
        refine x_inv (N := m_X12_dayAt) (As := [.int l4]) (b := 125) (st := []) (dx9 := 3) (mc := 0) (ms := 0) (host := "") 12 rfl t_X12_dayAt ⟨Or.inl q_12_347, i_X12_dayAt.1, i_X12_dayAt.2⟩ ⟨by decide, rfl⟩ (congrArg Prod.fst (J.1.1 125 (12, 92) rfl)) rfl (by decide) rfl rfl ⟨by decide, by decide⟩ (sf_X12_dayAt_r125d (jr_of rfl (by omega)) hD J rfl  (fun v12 h ev12 J S9 X10 X11 => ?_))
        have Sm := jSm_tr rfl Sm S9
        try rw [X10] at D
        try rw [← X11] at D
        have EV := X11.trans EV
        show jX m_X12_yearsOf 4 0 0 35 [(0, .ref 125), (1, .int l1), (2, .int l2), (3, .int l3), (4, .int l4)] [.int v12] _ 0 0 _
        refine x_iloadn (x := l2) rfl rfl ?_
        refine x_icgt (tgt := 43) rfl rfl (ti_gt rfl rfl ⟨fun c13 => ?_, fun c13 => ?_⟩)
        ·
          rw [if_pos (by omega)] at D
          exact jX.sub (jsb_c rfl (jsb_c rfl (jsb_c rfl (jsb_c rfl (jsb_c rfl jsb_n))))) (ct_X12_yearsOf_r125d_43 hD hQ ih l1 l2 l3 l4 h (jr_of rfl (by omega)) (jr_of rfl (by omega)) (jr_of rfl (by omega)) (jr_of rfl (by omega)) (by omega) J Sm D EV)
        ·
          rw [if_neg (by omega)] at D
          refine x_iconst (v := 1) rfl ki_1 ?_
          refine x_goto (tgt := 44) rfl rfl ?_
          exact jX.sub (jsb_c rfl (jsb_c rfl (jsb_c rfl (jsb_c rfl (jsb_c rfl jsb_n))))) (ct_X12_yearsOf_r125d_300044 hD hQ ih l1 l2 l3 l4 h (jr_of rfl (by omega)) (jr_of rfl (by omega)) (jr_of rfl (by omega)) (jr_of rfl (by omega)) (by omega) J Sm D EV)
set_option maxRecDepth 100000 in
set_option maxHeartbeats 4000000 in
theorem sf_X12_yearsOf_r125d {Dy : jH → Prop} {h : jH} {Q : Option Value → jH → Prop} {dr : Int} {a1 : Int32} {a2 : Int32} (y1 : (-1) ≤ a1.toInt ∧ a1.toInt ≤ 599) (y2 : 0 ≤ a2.toInt ∧ a2.toInt ≤ 146399) (hD : jDk Dy) (J : jJ jSgM Dy h) (D : d_X12_yearsOf_r125d a1.toInt a2.toInt (vw h) = dr) (hQ : ∀ (v : Int32) hx9, jJ jSgM Dy hx9 → jSm fp_X12_yearsOf_r125d h hx9 → dr = v.toInt → vw hx9 = vw h → Q (some (.int v)) hx9) : jC m_X12_yearsOf 4 0 0 [.ref 125, .int a1, .int a2] h Q := by
  refine jC.of rfl k_X12_yearsOf rfl ?_
  have Sm := jSm_rf fp_X12_yearsOf_r125d h
  show jX m_X12_yearsOf 4 0 0 0 [(0, .ref 125), (1, .int a1), (2, .int a2)] [] _ 0 0 _
  unfold d_X12_yearsOf_r125d at D
  have EV : vw h = vw h := rfl
  refine x_iconst (v := (-1)) rfl ki_m1 ?_
  refine x_istoren (lsx9 := [(3, .int (-1)), (0, .ref 125), (1, .int a1), (2, .int a2)]) rfl rfl rfl ?_
  refine x_iconst (v := 0) rfl ki_0 ?_
  refine x_istore (lsx9 := [(4, .int 0), (3, .int (-1)), (0, .ref 125), (1, .int a1), (2, .int a2)]) rfl rfl rfl ?_
  exact jX.sub (jsb_c rfl (jsb_c rfl (jsb_c rfl (jsb_c rfl (jsb_c rfl jsb_n))))) (ct_X12_yearsOf_r125d_5 hD hQ  601 a1 a2 (-1) 0 h (by have := jk_0; omega) (jr_of rfl (by omega)) (jr_of rfl (by omega)) (jr_of jk_m1 (by omega)) (jr_of jk_0 (by omega)) J Sm (by rw [jk_m1, jk_0]; exact D) EV)
