set_option maxRecDepth 100000 in
set_option maxHeartbeats 4000000 in
theorem ct_X12_leastFilled_r125d_6 {Dy : jH → Prop} {h0 : jH} {Q : Option Value → jH → Prop} {dr : (Int × jW)} (hD : jDk Dy) (hQ : ∀ (v : Int32) hx9, jJ jSgM Dy hx9 → jSm fp_X12_leastFilled_r125d h0 hx9 → dr.1 = v.toInt → dr.2 = vw hx9 → Q (some (.int v)) hx9) : ∀ r : Nat, ∀ (l1 : Int32) (l2 : Int32) (l3 : Int32) (l4 : Int32) (l5 : Int32) (h : jH), 600 - l5.toInt < (r : Int) → 0 ≤ l1.toInt ∧ l1.toInt ≤ 5 → 0 ≤ l2.toInt ∧ l2.toInt ≤ 146399 → 0 ≤ l3.toInt ∧ l3.toInt ≤ 146399 → 0 ≤ l5.toInt ∧ l5.toInt ≤ 600 → jJ jSgM Dy h → jSm fp_X12_leastFilled_r125d h0 h → d_X12_leastFilled_r125d_6 r l1.toInt l2.toInt l3.toInt l4.toInt l5.toInt (vw h) = dr → jX m_X12_leastFilled 7 0 0 6 [(0, .ref 125), (1, .int l1), (2, .int l2), (3, .int l3), (4, .int l4), (5, .int l5)] [] h 0 0 Q := by
  intro r
  induction r with
  | zero =>
    intro l1 l2 l3 l4 l5 h hm y0 y1 y2 y3   J Sm D
    exfalso
    have el4 := jfull l4
    omega
  | succ r ih =>
    intro l1 l2 l3 l4 l5 h hm y0 y1 y2 y3   J Sm D
    have el4 := jfull l4
    rw [d_X12_leastFilled_r125d_6.eq_2] at D
    refine x_iload (x := l5) rfl rfl ?_
    refine x_iconst (v := 3) rfl ki_3 ?_
    refine x_aloadn (x := 125) rfl rfl ?_
    refine z_getR (N := 92) (b := 126) 12 2 rfl f_12_8 rfl J rfl 16002 ⟨rfl, rfl⟩ rfl ?_
    refine x_iconst (v := 0) rfl ki_0 ?_
    refine z_iald (N := 50660) rfl J rfl sg_126_0_1_1_0_1 jk_0 (by omega) (fun v1 qv1 ev1 => ?_)
    try rw [vrn (n := 0) (by decide) qv1] at D
    refine z_imul rfl jk_3 rfl (by omega) (fun v2 ev2 => ?_)
    refine x_icge (tgt := 139) rfl rfl (ti_ge rfl rfl ⟨fun c3 => ?_, fun c3 => ?_⟩)
    ·
      rw [if_pos (by omega)] at D
      exact jX.sub (jsb_c rfl jsb_n) (ct_X12_leastFilled_r125d_139 hD hQ  l4 h J Sm D)
    ·
      rw [if_neg (by omega)] at D
      refine x_iloadn (x := l1) rfl rfl ?_
      refine x_iconst (v := 2) rfl ki_2 ?_
      refine z_irem rfl rfl jk_2 (by omega) (by omega) (fun v4 ev4 => ?_)
      refine x_ifne (tgt := 139) rfl rfl (ti_ne rfl jk_0 ⟨fun c5 => ?_, fun c5 => ?_⟩)
      ·
        rw [if_neg (by omega)] at D
        exact jX.sub (jsb_c rfl jsb_n) (ct_X12_leastFilled_r125d_139 hD hQ  l4 h J Sm D)
      ·
        rw [if_pos (by omega)] at D
        refine x_iloadn (x := l1) rfl rfl ?_
        refine x_iconst (v := 4) rfl ki_4 ?_
        refine x_icge (tgt := 139) rfl rfl (ti_ge rfl jk_4 ⟨fun c6 => ?_, fun c6 => ?_⟩)
        ·
          rw [if_pos (by omega)] at D
          exact jX.sub (jsb_c rfl jsb_n) (ct_X12_leastFilled_r125d_139 hD hQ  l4 h J Sm D)
        ·
          rw [if_neg (by omega)] at D
          refine x_aloadn (x := 125) rfl rfl ?_
          refine z_getR (N := 92) (b := 139) 12 29 rfl f_12_72 rfl J rfl 16029 ⟨rfl, rfl⟩ rfl ?_
          refine x_iload (x := l5) rfl rfl ?_
          refine z_iald (N := 600) rfl J rfl sg_139_0_600_1_0_1 rfl (by omega) (fun v7 qv7 ev7 => ?_)
          try rw [vrd qv7 (show l5.toInt = l5.toInt from by omega)] at D
          refine x_iload (x := l5) rfl rfl ?_
          refine x_icne (tgt := 133) rfl rfl (ti_ne rfl rfl ⟨fun c8 => ?_, fun c8 => ?_⟩)
          ·
            rw [if_neg (by omega)] at D
            exact jX.sub (jsb_c rfl (jsb_c rfl (jsb_c rfl (jsb_c rfl (jsb_c rfl (jsb_c rfl jsb_n)))))) (ct_X12_leastFilled_r125d_133 hD hQ ih l1 l2 l3 l4 l5 h (jr_of rfl (by omega)) (jr_of rfl (by omega)) (jr_of rfl (by omega)) (jr_of rfl (by omega)) (by omega) J Sm D)
          ·
            rw [if_pos (by omega)] at D
            refine x_aloadn (x := 125) rfl rfl ?_
            refine x_iload (x := l5) rfl rfl ?_
            refine x_iloadn (x := l1) rfl rfl ?_
            refine x_ifne (tgt := 53) rfl rfl (ti_ne rfl jk_0 ⟨fun c9 => ?_, fun c9 => ?_⟩)
            ·
              rw [if_neg (by omega)] at D
              refine x_iconst (v := 5) rfl ki_5 ?_
              exact jX.sub (jsb_c rfl (jsb_c rfl (jsb_c rfl (jsb_c rfl (jsb_c rfl (jsb_c rfl jsb_n)))))) (ct_X12_leastFilled_r125d_700054 hD hQ ih l1 l2 l3 l4 l5 l5 h (jr_of rfl (by omega)) (jr_of rfl (by omega)) (jr_of rfl (by omega)) (jr_of rfl (by omega)) (jr_of rfl (by omega)) (by omega) (by omega) J Sm D)
            ·
              rw [if_pos (by omega)] at D
              refine x_iconst (v := 0) rfl ki_0 ?_
              refine x_goto (tgt := 54) rfl rfl ?_
              exact jX.sub (jsb_c rfl (jsb_c rfl (jsb_c rfl (jsb_c rfl (jsb_c rfl (jsb_c rfl jsb_n)))))) (ct_X12_leastFilled_r125d_200054 hD hQ ih l1 l2 l3 l4 l5 l5 h (jr_of rfl (by omega)) (jr_of rfl (by omega)) (jr_of rfl (by omega)) (jr_of rfl (by omega)) (jr_of rfl (by omega)) (by omega) J Sm D)
set_option maxRecDepth 100000 in
set_option maxHeartbeats 4000000 in
theorem sf_X12_leastFilled_r125d {Dy : jH → Prop} {h : jH} {Q : Option Value → jH → Prop} {dr : (Int × jW)} {a1 : Int32} {a2 : Int32} {a3 : Int32} (y1 : 0 ≤ a1.toInt ∧ a1.toInt ≤ 5) (y2 : 0 ≤ a2.toInt ∧ a2.toInt ≤ 146399) (y3 : 0 ≤ a3.toInt ∧ a3.toInt ≤ 146399) (hD : jDk Dy) (J : jJ jSgM Dy h) (D : d_X12_leastFilled_r125d a1.toInt a2.toInt a3.toInt (vw h) = dr) (hQ : ∀ (v : Int32) hx9, jJ jSgM Dy hx9 → jSm fp_X12_leastFilled_r125d h hx9 → dr.1 = v.toInt → dr.2 = vw hx9 → Q (some (.int v)) hx9) : jC m_X12_leastFilled 7 0 0 [.ref 125, .int a1, .int a2, .int a3] h Q := by
  refine jC.of rfl k_X12_leastFilled rfl ?_
  have Sm := jSm_rf fp_X12_leastFilled_r125d h
  show jX m_X12_leastFilled 7 0 0 0 [(0, .ref 125), (1, .int a1), (2, .int a2), (3, .int a3)] [] _ 0 0 _
  unfold d_X12_leastFilled_r125d at D
  refine x_iconst (v := 0) rfl ki_0 ?_
  refine x_istore (lsx9 := [(4, .int 0), (0, .ref 125), (1, .int a1), (2, .int a2), (3, .int a3)]) rfl rfl rfl ?_
  refine x_iconst (v := 0) rfl ki_0 ?_
  refine x_istore (lsx9 := [(5, .int 0), (4, .int 0), (0, .ref 125), (1, .int a1), (2, .int a2), (3, .int a3)]) rfl rfl rfl ?_
  exact jX.sub (jsb_c rfl (jsb_c rfl (jsb_c rfl (jsb_c rfl (jsb_c rfl (jsb_c rfl jsb_n)))))) (ct_X12_leastFilled_r125d_6 hD hQ  601 a1 a2 a3 0 0 h (by have := jk_0; omega) (jr_of rfl (by omega)) (jr_of rfl (by omega)) (jr_of rfl (by omega)) (jr_of jk_0 (by omega)) J Sm (by rw [jk_0]; exact D))
def fp_X12_linesWithin_r125d : jFp := []
set_option maxRecDepth 100000 in
set_option maxHeartbeats 4000000 in
theorem ct_X12_linesWithin_r125d_300064 {Dy : jH → Prop} {h0 : jH} {Q : Option Value → jH → Prop} {dr : Int} {K6 : Int → Int → Int → Int → Int → jW → Int} {R6 : Int} (hD : jDk Dy) (hQ : ∀ (v : Int32) hx9, jJ jSgM Dy hx9 → jSm fp_X12_linesWithin_r125d h0 hx9 → dr = v.toInt → vw hx9 = vw h0 → Q (some (.int v)) hx9) (k6 : ∀ (l1 : Int32) (l2 : Int32) (l3 : Int32) (l4 : Int32) (l5 : Int32) (h : jH), 200 - l5.toInt < R6 → 0 ≤ l1.toInt ∧ l1.toInt ≤ 5 → 0 ≤ l2.toInt ∧ l2.toInt ≤ 146399 → (-146399) ≤ l3.toInt ∧ l3.toInt ≤ 292798 → 0 ≤ l5.toInt ∧ l5.toInt ≤ 200 → jJ jSgM Dy h → jSm fp_X12_linesWithin_r125d h0 h → K6 l1.toInt l2.toInt l3.toInt l4.toInt l5.toInt (vw h) = dr → vw h = vw h0 → jX m_X12_linesWithin 3 0 0 6 [(0, .ref 125), (1, .int l1), (2, .int l2), (3, .int l3), (4, .int l4), (5, .int l5)] [] h 0 0 Q) : ∀ (l1 : Int32) (l2 : Int32) (l3 : Int32) (l5 : Int32) (s1 : Int32) (h : jH), 0 ≤ l1.toInt ∧ l1.toInt ≤ 5 → 0 ≤ l2.toInt ∧ l2.toInt ≤ 146399 → 0 ≤ l3.toInt ∧ l3.toInt ≤ 292798 → 0 ≤ l5.toInt ∧ l5.toInt ≤ 199 → 200 - l5.toInt ≤ R6 → jJ jSgM Dy h → jSm fp_X12_linesWithin_r125d h0 h → d_X12_linesWithin_r125d_300064 K6  l1.toInt l2.toInt l3.toInt l5.toInt s1.toInt (vw h) = dr → vw h = vw h0 → jX m_X12_linesWithin 3 0 0 64 [(0, .ref 125), (1, .int l1), (2, .int l2), (3, .int l3), (5, .int l5)] [.int 1, .int s1] h 0 0 Q := by
  intro l1 l2 l3 l5 s1 h y0 y1 y2 y3  m6 J Sm D EV
  have es1 := jfull s1
  unfold d_X12_linesWithin_r125d_300064 at D
  refine z_iaddW rfl rfl jk_1 (fun v1 ev1 => ?_)
  have fv1 := jfull v1
  try rw [← ev1] at D
  refine x_istore (lsx9 := [(4, .int v1), (0, .ref 125), (1, .int l1), (2, .int l2), (3, .int l3), (5, .int l5)]) rfl rfl rfl ?_
  refine z_iinc (x := l5) (lsx9 := fun v2 => [(5, .int v2), (4, .int v1), (0, .ref 125), (1, .int l1), (2, .int l2), (3, .int l3)]) rfl rfl rfl jko_1 (by omega) rfl (fun _ => rfl) (fun v2 ev2 => ?_)
  refine x_goto (tgt := 6) rfl rfl ?_
  try rw [show (l5.toInt + 1) = v2.toInt from by omega] at D
  exact jX.sub (jsb_c rfl (jsb_c rfl (jsb_c rfl (jsb_c rfl (jsb_c rfl (jsb_c rfl jsb_n)))))) (k6 l1 l2 l3 v1 v2 h (by omega) (jr_of rfl (by omega)) (jr_of rfl (by omega)) (jr_of rfl (by omega)) (jr_of rfl (by omega)) J Sm D EV)
set_option maxRecDepth 100000 in
set_option maxHeartbeats 4000000 in
theorem ct_X12_linesWithin_r125d_200064 {Dy : jH → Prop} {h0 : jH} {Q : Option Value → jH → Prop} {dr : Int} {K6 : Int → Int → Int → Int → Int → jW → Int} {R6 : Int} (hD : jDk Dy) (hQ : ∀ (v : Int32) hx9, jJ jSgM Dy hx9 → jSm fp_X12_linesWithin_r125d h0 hx9 → dr = v.toInt → vw hx9 = vw h0 → Q (some (.int v)) hx9) (k6 : ∀ (l1 : Int32) (l2 : Int32) (l3 : Int32) (l4 : Int32) (l5 : Int32) (h : jH), 200 - l5.toInt < R6 → 0 ≤ l1.toInt ∧ l1.toInt ≤ 5 → 0 ≤ l2.toInt ∧ l2.toInt ≤ 146399 → (-146399) ≤ l3.toInt ∧ l3.toInt ≤ 292798 → 0 ≤ l5.toInt ∧ l5.toInt ≤ 200 → jJ jSgM Dy h → jSm fp_X12_linesWithin_r125d h0 h → K6 l1.toInt l2.toInt l3.toInt l4.toInt l5.toInt (vw h) = dr → vw h = vw h0 → jX m_X12_linesWithin 3 0 0 6 [(0, .ref 125), (1, .int l1), (2, .int l2), (3, .int l3), (4, .int l4), (5, .int l5)] [] h 0 0 Q) : ∀ (l1 : Int32) (l2 : Int32) (l3 : Int32) (l5 : Int32) (s1 : Int32) (h : jH), 0 ≤ l1.toInt ∧ l1.toInt ≤ 5 → 0 ≤ l2.toInt ∧ l2.toInt ≤ 146399 → (-146399) ≤ l3.toInt ∧ l3.toInt ≤ 292798 → 0 ≤ l5.toInt ∧ l5.toInt ≤ 199 → 200 - l5.toInt ≤ R6 → jJ jSgM Dy h → jSm fp_X12_linesWithin_r125d h0 h → d_X12_linesWithin_r125d_200064 K6  l1.toInt l2.toInt l3.toInt l5.toInt s1.toInt (vw h) = dr → vw h = vw h0 → jX m_X12_linesWithin 3 0 0 64 [(0, .ref 125), (1, .int l1), (2, .int l2), (3, .int l3), (5, .int l5)] [.int 0, .int s1] h 0 0 Q := by
  intro l1 l2 l3 l5 s1 h y0 y1 y2 y3  m6 J Sm D EV
  have es1 := jfull s1
  unfold d_X12_linesWithin_r125d_200064 at D
  refine z_iadd rfl rfl jk_0 (by omega) (fun v1 ev1 => ?_)
  refine x_istore (lsx9 := [(4, .int v1), (0, .ref 125), (1, .int l1), (2, .int l2), (3, .int l3), (5, .int l5)]) rfl rfl rfl ?_
  refine z_iinc (x := l5) (lsx9 := fun v2 => [(5, .int v2), (4, .int v1), (0, .ref 125), (1, .int l1), (2, .int l2), (3, .int l3)]) rfl rfl rfl jko_1 (by omega) rfl (fun _ => rfl) (fun v2 ev2 => ?_)
  refine x_goto (tgt := 6) rfl rfl ?_
  try rw [show (s1.toInt + 0) = v1.toInt from by omega] at D
  try rw [show (l5.toInt + 1) = v2.toInt from by omega] at D
  exact jX.sub (jsb_c rfl (jsb_c rfl (jsb_c rfl (jsb_c rfl (jsb_c rfl (jsb_c rfl jsb_n)))))) (k6 l1 l2 l3 v1 v2 h (by omega) (jr_of rfl (by omega)) (jr_of rfl (by omega)) (jr_of rfl (by omega)) (jr_of rfl (by omega)) J Sm D EV)
set_option maxRecDepth 100000 in
set_option maxHeartbeats 4000000 in
theorem ct_X12_linesWithin_r125d_63 {Dy : jH → Prop} {h0 : jH} {Q : Option Value → jH → Prop} {dr : Int} {K6 : Int → Int → Int → Int → Int → jW → Int} {R6 : Int} (hD : jDk Dy) (hQ : ∀ (v : Int32) hx9, jJ jSgM Dy hx9 → jSm fp_X12_linesWithin_r125d h0 hx9 → dr = v.toInt → vw hx9 = vw h0 → Q (some (.int v)) hx9) (k6 : ∀ (l1 : Int32) (l2 : Int32) (l3 : Int32) (l4 : Int32) (l5 : Int32) (h : jH), 200 - l5.toInt < R6 → 0 ≤ l1.toInt ∧ l1.toInt ≤ 5 → 0 ≤ l2.toInt ∧ l2.toInt ≤ 146399 → (-146399) ≤ l3.toInt ∧ l3.toInt ≤ 292798 → 0 ≤ l5.toInt ∧ l5.toInt ≤ 200 → jJ jSgM Dy h → jSm fp_X12_linesWithin_r125d h0 h → K6 l1.toInt l2.toInt l3.toInt l4.toInt l5.toInt (vw h) = dr → vw h = vw h0 → jX m_X12_linesWithin 3 0 0 6 [(0, .ref 125), (1, .int l1), (2, .int l2), (3, .int l3), (4, .int l4), (5, .int l5)] [] h 0 0 Q) : ∀ (l1 : Int32) (l2 : Int32) (l3 : Int32) (l5 : Int32) (s0 : Int32) (h : jH), 0 ≤ l1.toInt ∧ l1.toInt ≤ 5 → 0 ≤ l2.toInt ∧ l2.toInt ≤ 146399 → (-146399) ≤ l3.toInt ∧ l3.toInt ≤ 292798 → 0 ≤ l5.toInt ∧ l5.toInt ≤ 199 → 200 - l5.toInt ≤ R6 → jJ jSgM Dy h → jSm fp_X12_linesWithin_r125d h0 h → d_X12_linesWithin_r125d_63 K6  l1.toInt l2.toInt l3.toInt l5.toInt s0.toInt (vw h) = dr → vw h = vw h0 → jX m_X12_linesWithin 3 0 0 63 [(0, .ref 125), (1, .int l1), (2, .int l2), (3, .int l3), (5, .int l5)] [.int s0] h 0 0 Q := by
  intro l1 l2 l3 l5 s0 h y0 y1 y2 y3  m6 J Sm D EV
  have es0 := jfull s0
  unfold d_X12_linesWithin_r125d_63 at D
  refine x_iconst (v := 0) rfl ki_0 ?_
  exact jX.sub (jsb_c rfl (jsb_c rfl (jsb_c rfl (jsb_c rfl (jsb_c rfl jsb_n))))) (ct_X12_linesWithin_r125d_200064 hD hQ k6 l1 l2 l3 l5 s0 h (jr_of rfl (by omega)) (jr_of rfl (by omega)) (jr_of rfl (by omega)) (jr_of rfl (by omega)) (by omega) J Sm D EV)
set_option maxRecDepth 100000 in
set_option maxHeartbeats 4000000 in
theorem ct_X12_linesWithin_r125d_6 {Dy : jH → Prop} {h0 : jH} {Q : Option Value → jH → Prop} {dr : Int} (hD : jDk Dy) (hQ : ∀ (v : Int32) hx9, jJ jSgM Dy hx9 → jSm fp_X12_linesWithin_r125d h0 hx9 → dr = v.toInt → vw hx9 = vw h0 → Q (some (.int v)) hx9) : ∀ r : Nat, ∀ (l1 : Int32) (l2 : Int32) (l3 : Int32) (l4 : Int32) (l5 : Int32) (h : jH), 200 - l5.toInt < (r : Int) → 0 ≤ l1.toInt ∧ l1.toInt ≤ 5 → 0 ≤ l2.toInt ∧ l2.toInt ≤ 146399 → (-146399) ≤ l3.toInt ∧ l3.toInt ≤ 292798 → 0 ≤ l5.toInt ∧ l5.toInt ≤ 200 → jJ jSgM Dy h → jSm fp_X12_linesWithin_r125d h0 h → d_X12_linesWithin_r125d_6 r l1.toInt l2.toInt l3.toInt l4.toInt l5.toInt (vw h) = dr → vw h = vw h0 → jX m_X12_linesWithin 3 0 0 6 [(0, .ref 125), (1, .int l1), (2, .int l2), (3, .int l3), (4, .int l4), (5, .int l5)] [] h 0 0 Q := by
  intro r
  induction r with
  | zero =>
    intro l1 l2 l3 l4 l5 h hm y0 y1 y2 y3   J Sm D EV
    exfalso
    have el4 := jfull l4
    omega
  | succ r ih =>
    intro l1 l2 l3 l4 l5 h hm y0 y1 y2 y3   J Sm D EV
    have el4 := jfull l4
    rw [d_X12_linesWithin_r125d_6.eq_2] at D
    refine x_iload (x := l5) rfl rfl ?_
    refine x_aloadn (x := 125) rfl rfl ?_
    refine z_getR (N := 92) (b := 126) 12 2 rfl f_12_8 rfl J rfl 16002 ⟨rfl, rfl⟩ rfl ?_
    refine x_iconst (v := 0) rfl ki_0 ?_
    refine z_iald (N := 50660) rfl J rfl sg_126_0_1_1_0_1 jk_0 (by omega) (fun v1 qv1 ev1 => ?_)
    try rw [vrn (n := 0) (by decide) qv1] at D
    refine x_icge (tgt := 73) rfl rfl (ti_ge rfl rfl ⟨fun c2 => ?_, fun c2 => ?_⟩)
    ·
      rw [if_pos (by omega)] at D
      refine x_iload (x := l4) rfl rfl ?_
      refine x_iret rfl rfl ?_
      exact hQ _ _ J Sm (D.symm.trans (show l4.toInt = l4.toInt from by omega)) EV
    ·
      rw [if_neg (by omega)] at D
      refine x_iload (x := l4) rfl rfl ?_
      refine x_aloadn (x := 125) rfl rfl ?_
      refine x_iload (x := l5) rfl rfl ?_
      refine x_inv (N := m_X12_bookOf) (As := [.int l5]) (b := 125) (st := [.int l4]) (dx9 := 2) (mc := 0) (ms := 0) (host := "") 12 rfl t_X12_bookOf ⟨Or.inl q_12_299, i_X12_bookOf.1, i_X12_bookOf.2⟩ ⟨by decide, rfl⟩ (congrArg Prod.fst (J.1.1 125 (12, 92) rfl)) rfl (by decide) rfl rfl ⟨by decide, by decide⟩ (jC.of rfl k_X12_bookOf rfl ?_)
      show jX m_X12_bookOf 2 0 0 0 [(0, .ref 125), (1, .int l5)] [] _ 0 0 _
      refine x_aloadn (x := 125) rfl rfl ?_
      refine z_getR (N := 92) (b := 126) 12 2 rfl f_12_8 rfl J rfl 16002 ⟨rfl, rfl⟩ rfl ?_
      refine x_aloadn (x := 125) rfl rfl ?_
      refine x_iloadn (x := l5) rfl rfl ?_
      refine x_inv (N := m_X12_at) (As := [.int l5]) (b := 125) (st := [.ref 126]) (dx9 := 1) (mc := 0) (ms := 0) (host := "") 12 rfl t_X12_at ⟨Or.inl q_12_254, i_X12_at.1, i_X12_at.2⟩ ⟨by decide, rfl⟩ (congrArg Prod.fst (J.1.1 125 (12, 92) rfl)) rfl (by decide) rfl rfl ⟨by decide, by decide⟩ (jC.of rfl k_X12_at rfl ?_)
      show jX m_X12_at 1 0 0 0 [(0, .ref 125), (1, .int l5)] [] _ 0 0 _
      refine x_bipush (v := 20) rfl kb_20 ?_
      refine x_bipush (v := 90) rfl kb_90 ?_
      refine x_iloadn (x := l5) rfl rfl ?_
      refine z_imul rfl jk_90 rfl (by omega) (fun v3 ev3 => ?_)
      refine z_iadd rfl jk_20 rfl (by omega) (fun v4 ev4 => ?_)
      refine x_iret rfl rfl ?_
      show jX m_X12_bookOf 2 0 0 9 [(0, .ref 125), (1, .int l5)] [.int v4, .ref 126] _ 0 0 _
      refine z_iald (N := 50660) rfl J rfl sg_126_20_18020_90_0_1 rfl (by omega) (fun v5 qv5 ev5 => ?_)
      try rw [vrd qv5 (show (20 + (90 * l5.toInt)) = v4.toInt from by omega)] at D
      refine x_iret rfl rfl ?_
      show jX m_X12_linesWithin 3 0 0 25 [(0, .ref 125), (1, .int l1), (2, .int l2), (3, .int l3), (4, .int l4), (5, .int l5)] [.int v5, .int l4] _ 0 0 _
      refine x_iloadn (x := l1) rfl rfl ?_
      refine x_icne (tgt := 63) rfl rfl (ti_ne rfl rfl ⟨fun c6 => ?_, fun c6 => ?_⟩)
      ·
        rw [if_neg (by omega)] at D
        exact jX.sub (jsb_c rfl (jsb_c rfl (jsb_c rfl (jsb_c rfl (jsb_c rfl jsb_n))))) (ct_X12_linesWithin_r125d_63 hD hQ ih l1 l2 l3 l5 l4 h (jr_of rfl (by omega)) (jr_of rfl (by omega)) (jr_of rfl (by omega)) (jr_of rfl (by omega)) (by omega) J Sm D EV)
      ·
        rw [if_pos (by omega)] at D
        refine x_aloadn (x := 125) rfl rfl ?_
        refine x_iload (x := l5) rfl rfl ?_
        refine x_aloadn (x := 125) rfl rfl ?_
        refine z_getI (N := 92) 12 28 rfl f_12_377 rfl J rfl sg_125_28_29_1_0_1 (fun v7 qv7 ev7 => ?_)
        try rw [vrf qv7] at D
        refine x_inv (N := m_X12_isKnown) (As := [.int l5, .int v7]) (b := 125) (st := [.int l4]) (dx9 := 2) (mc := 0) (ms := 0) (host := "") 12 rfl t_X12_isKnown ⟨Or.inl q_12_383, i_X12_isKnown.1, i_X12_isKnown.2⟩ ⟨by decide, rfl⟩ (congrArg Prod.fst (J.1.1 125 (12, 92) rfl)) rfl (by decide) rfl rfl ⟨by decide, by decide⟩ (jC.of rfl k_X12_isKnown rfl ?_)
        show jX m_X12_isKnown 2 0 0 0 [(0, .ref 125), (1, .int l5), (2, .int v7)] [] _ 0 0 _
        refine x_aloadn (x := 125) rfl rfl ?_
        refine z_getR (N := 92) (b := 126) 12 2 rfl f_12_8 rfl J rfl 16002 ⟨rfl, rfl⟩ rfl ?_
        refine x_aloadn (x := 125) rfl rfl ?_
        refine x_iloadn (x := l5) rfl rfl ?_
        refine x_inv (N := m_X12_at) (As := [.int l5]) (b := 125) (st := [.ref 126]) (dx9 := 1) (mc := 0) (ms := 0) (host := "") 12 rfl t_X12_at ⟨Or.inl q_12_254, i_X12_at.1, i_X12_at.2⟩ ⟨by decide, rfl⟩ (congrArg Prod.fst (J.1.1 125 (12, 92) rfl)) rfl (by decide) rfl rfl ⟨by decide, by decide⟩ (jC.of rfl k_X12_at rfl ?_)
        show jX m_X12_at 1 0 0 0 [(0, .ref 125), (1, .int l5)] [] _ 0 0 _
        refine x_bipush (v := 20) rfl kb_20 ?_
        refine x_bipush (v := 90) rfl kb_90 ?_
        refine x_iloadn (x := l5) rfl rfl ?_
        refine z_imul rfl jk_90 rfl (by omega) (fun v8 ev8 => ?_)
        refine z_iadd rfl jk_20 rfl (by omega) (fun v9 ev9 => ?_)
        refine x_iret rfl rfl ?_
        show jX m_X12_isKnown 2 0 0 9 [(0, .ref 125), (1, .int l5), (2, .int v7)] [.int v9, .ref 126] _ 0 0 _
        refine x_iconst (v := 3) rfl ki_3 ?_
        refine z_iadd rfl rfl jk_3 (by omega) (fun v10 ev10 => ?_)
        refine z_iald (N := 50660) rfl J rfl sg_126_20_18020_90_3_4 rfl (by omega) (fun v11 qv11 ev11 => ?_)
        try rw [vrd qv11 (show ((20 + (90 * l5.toInt)) + 3) = v10.toInt from by omega)] at D
        refine x_iloadn (x := v7) rfl rfl ?_
        refine x_icgt (tgt := 20) rfl rfl (ti_gt rfl rfl ⟨fun c12 => ?_, fun c12 => ?_⟩)
        ·
          rw [if_pos (by omega)] at D
          refine x_iconst (v := 0) rfl ki_0 ?_
          refine x_zret rfl rfl (by decide) ?_
          show jX m_X12_linesWithin 3 0 0 39 [(0, .ref 125), (1, .int l1), (2, .int l2), (3, .int l3), (4, .int l4), (5, .int l5)] [.int 0, .int l4] _ 0 0 _
          refine x_ifeq (tgt := 63) rfl rfl (ti_eq jk_0 jk_0 (br_t (by omega) ?_))
          exact jX.sub (jsb_c rfl (jsb_c rfl (jsb_c rfl (jsb_c rfl (jsb_c rfl jsb_n))))) (ct_X12_linesWithin_r125d_63 hD hQ ih l1 l2 l3 l5 l4 h (jr_of rfl (by omega)) (jr_of rfl (by omega)) (jr_of rfl (by omega)) (jr_of rfl (by omega)) (by omega) J Sm D EV)
        ·
          rw [if_neg (by omega)] at D
          refine x_iconst (v := 1) rfl ki_1 ?_
          refine x_goto (tgt := 21) rfl rfl ?_
          refine x_zret rfl rfl (by decide) ?_
          show jX m_X12_linesWithin 3 0 0 39 [(0, .ref 125), (1, .int l1), (2, .int l2), (3, .int l3), (4, .int l4), (5, .int l5)] [.int 1, .int l4] _ 0 0 _
          refine x_ifeq (tgt := 63) rfl rfl (ti_eq jk_1 jk_0 (br_f (by omega) ?_))
          refine x_aloadn (x := 125) rfl rfl ?_
          refine x_iload (x := l5) rfl rfl ?_
          refine x_inv (N := m_X12_dayOf) (As := [.int l5]) (b := 125) (st := [.int l4]) (dx9 := 2) (mc := 0) (ms := 0) (host := "") 12 rfl t_X12_dayOf ⟨Or.inl q_12_335, i_X12_dayOf.1, i_X12_dayOf.2⟩ ⟨by decide, rfl⟩ (congrArg Prod.fst (J.1.1 125 (12, 92) rfl)) rfl (by decide) rfl rfl ⟨by decide, by decide⟩ (jC.of rfl k_X12_dayOf rfl ?_)
          show jX m_X12_dayOf 2 0 0 0 [(0, .ref 125), (1, .int l5)] [] _ 0 0 _
          refine x_aloadn (x := 125) rfl rfl ?_
          refine z_getR (N := 92) (b := 126) 12 2 rfl f_12_8 rfl J rfl 16002 ⟨rfl, rfl⟩ rfl ?_
          refine x_aloadn (x := 125) rfl rfl ?_
          refine x_iloadn (x := l5) rfl rfl ?_
          refine x_inv (N := m_X12_at) (As := [.int l5]) (b := 125) (st := [.ref 126]) (dx9 := 1) (mc := 0) (ms := 0) (host := "") 12 rfl t_X12_at ⟨Or.inl q_12_254, i_X12_at.1, i_X12_at.2⟩ ⟨by decide, rfl⟩ (congrArg Prod.fst (J.1.1 125 (12, 92) rfl)) rfl (by decide) rfl rfl ⟨by decide, by decide⟩ (jC.of rfl k_X12_at rfl ?_)
          show jX m_X12_at 1 0 0 0 [(0, .ref 125), (1, .int l5)] [] _ 0 0 _
          refine x_bipush (v := 20) rfl kb_20 ?_
          refine x_bipush (v := 90) rfl kb_90 ?_
          refine x_iloadn (x := l5) rfl rfl ?_
          refine z_imul rfl jk_90 rfl (by omega) (fun v13 ev13 => ?_)
          refine z_iadd rfl jk_20 rfl (by omega) (fun v14 ev14 => ?_)
          refine x_iret rfl rfl ?_
          show jX m_X12_dayOf 2 0 0 9 [(0, .ref 125), (1, .int l5)] [.int v14, .ref 126] _ 0 0 _
          refine x_iconst (v := 2) rfl ki_2 ?_
          refine z_iadd rfl rfl jk_2 (by omega) (fun v15 ev15 => ?_)
          refine z_iald (N := 50660) rfl J rfl sg_126_20_18020_90_2_3 rfl (by omega) (fun v16 qv16 ev16 => ?_)
          try rw [vrd qv16 (show ((20 + (90 * l5.toInt)) + 2) = v15.toInt from by omega)] at D
          refine x_iret rfl rfl ?_
          show jX m_X12_linesWithin 3 0 0 48 [(0, .ref 125), (1, .int l1), (2, .int l2), (3, .int l3), (4, .int l4), (5, .int l5)] [.int v16, .int l4] _ 0 0 _
          refine z_i2l rfl rfl (fun v17 ev17 => ?_)
          refine x_iloadn (x := l2) rfl rfl ?_
          refine z_i2l rfl rfl (fun v18 ev18 => ?_)
          refine x_iloadn (x := l3) rfl rfl ?_
          refine z_i2l rfl rfl (fun v19 ev19 => ?_)
          refine x_inst (N := m_X12_in) (As := [.long v17, .long v18, .long v19]) (st := [.int l4]) (dx9 := 1) (mc := 0) (ms := 0) (host := "") rfl t_X12_in ⟨Or.inl q_12_188, s_X12_in⟩ rfl (by decide) rfl rfl ⟨by decide, by decide⟩ (zc_X12_in rfl rfl rfl (fun v20 ev20 => ?_))
          show jX m_X12_linesWithin 3 0 0 56 [(0, .ref 125), (1, .int l1), (2, .int l2), (3, .int l3), (4, .int l4), (5, .int l5)] [.int v20, .int l4] _ 0 0 _
          refine x_ifeq (tgt := 63) rfl rfl (ti_eq rfl jk_0 ⟨fun c21 => ?_, fun c21 => ?_⟩)
          ·
            rw [if_neg (by omega)] at D
            exact jX.sub (jsb_c rfl (jsb_c rfl (jsb_c rfl (jsb_c rfl (jsb_c rfl jsb_n))))) (ct_X12_linesWithin_r125d_63 hD hQ ih l1 l2 l3 l5 l4 h (jr_of rfl (by omega)) (jr_of rfl (by omega)) (jr_of rfl (by omega)) (jr_of rfl (by omega)) (by omega) J Sm D EV)
          ·
            rw [if_pos (by omega)] at D
            refine x_iconst (v := 1) rfl ki_1 ?_
            refine x_goto (tgt := 64) rfl rfl ?_
            exact jX.sub (jsb_c rfl (jsb_c rfl (jsb_c rfl (jsb_c rfl (jsb_c rfl jsb_n))))) (ct_X12_linesWithin_r125d_300064 hD hQ ih l1 l2 l3 l5 l4 h (jr_of rfl (by omega)) (jr_of rfl (by omega)) (jr_of rfl (by omega)) (jr_of rfl (by omega)) (by omega) J Sm D EV)
set_option maxRecDepth 100000 in
set_option maxHeartbeats 4000000 in
theorem sf_X12_linesWithin_r125d {Dy : jH → Prop} {h : jH} {Q : Option Value → jH → Prop} {dr : Int} {a1 : Int32} {a2 : Int32} {a3 : Int32} (y1 : 0 ≤ a1.toInt ∧ a1.toInt ≤ 5) (y2 : 0 ≤ a2.toInt ∧ a2.toInt ≤ 146399) (y3 : (-146399) ≤ a3.toInt ∧ a3.toInt ≤ 292798) (hD : jDk Dy) (J : jJ jSgM Dy h) (D : d_X12_linesWithin_r125d a1.toInt a2.toInt a3.toInt (vw h) = dr) (hQ : ∀ (v : Int32) hx9, jJ jSgM Dy hx9 → jSm fp_X12_linesWithin_r125d h hx9 → dr = v.toInt → vw hx9 = vw h → Q (some (.int v)) hx9) : jC m_X12_linesWithin 3 0 0 [.ref 125, .int a1, .int a2, .int a3] h Q := by
  refine jC.of rfl k_X12_linesWithin rfl ?_
  have Sm := jSm_rf fp_X12_linesWithin_r125d h
  show jX m_X12_linesWithin 3 0 0 0 [(0, .ref 125), (1, .int a1), (2, .int a2), (3, .int a3)] [] _ 0 0 _
  unfold d_X12_linesWithin_r125d at D
  have EV : vw h = vw h := rfl
  refine x_iconst (v := 0) rfl ki_0 ?_
  refine x_istore (lsx9 := [(4, .int 0), (0, .ref 125), (1, .int a1), (2, .int a2), (3, .int a3)]) rfl rfl rfl ?_
  refine x_iconst (v := 0) rfl ki_0 ?_
  refine x_istore (lsx9 := [(5, .int 0), (4, .int 0), (0, .ref 125), (1, .int a1), (2, .int a2), (3, .int a3)]) rfl rfl rfl ?_
  exact jX.sub (jsb_c rfl (jsb_c rfl (jsb_c rfl (jsb_c rfl (jsb_c rfl (jsb_c rfl jsb_n)))))) (ct_X12_linesWithin_r125d_6 hD hQ  201 a1 a2 a3 0 0 h (by have := jk_0; omega) (jr_of rfl (by omega)) (jr_of rfl (by omega)) (jr_of rfl (by omega)) (jr_of jk_0 (by omega)) J Sm (by rw [jk_0]; exact D) EV)
def fp_X12_mostFilled_r125d : jFp := []
set_option maxRecDepth 100000 in
set_option maxHeartbeats 4000000 in
theorem ct_X12_mostFilled_r125d_89 {Dy : jH → Prop} {h0 : jH} {Q : Option Value → jH → Prop} {dr : Int} {K5 : Int → Int → Int → Int → jW → Int} {R5 : Int} (hD : jDk Dy) (hQ : ∀ (v : Int32) hx9, 0 ≤ v.toInt ∧ v.toInt ≤ 2147483647 → jJ jSgM Dy hx9 → jSm fp_X12_mostFilled_r125d h0 hx9 → dr = v.toInt → vw hx9 = vw h0 → Q (some (.int v)) hx9) (k5 : ∀ (l1 : Int32) (l2 : Int32) (l3 : Int32) (l4 : Int32) (h : jH), 200 - l4.toInt < R5 → 0 ≤ l1.toInt ∧ l1.toInt ≤ 5 → (-146398) ≤ l2.toInt ∧ l2.toInt ≤ 146400 → 0 ≤ l3.toInt ∧ l3.toInt ≤ 2147483647 → 0 ≤ l4.toInt ∧ l4.toInt ≤ 200 → jJ jSgM Dy h → jSm fp_X12_mostFilled_r125d h0 h → K5 l1.toInt l2.toInt l3.toInt l4.toInt (vw h) = dr → vw h = vw h0 → jX m_X12_mostFilled 4 0 0 5 [(0, .ref 125), (1, .int l1), (2, .int l2), (3, .int l3), (4, .int l4)] [] h 0 0 Q) : ∀ (l1 : Int32) (l2 : Int32) (l3 : Int32) (l4 : Int32) (h : jH), 0 ≤ l1.toInt ∧ l1.toInt ≤ 5 → (-146398) ≤ l2.toInt ∧ l2.toInt ≤ 146400 → 0 ≤ l3.toInt ∧ l3.toInt ≤ 2147483647 → 0 ≤ l4.toInt ∧ l4.toInt ≤ 199 → 200 - l4.toInt ≤ R5 → jJ jSgM Dy h → jSm fp_X12_mostFilled_r125d h0 h → d_X12_mostFilled_r125d_89 K5  l1.toInt l2.toInt l3.toInt l4.toInt (vw h) = dr → vw h = vw h0 → jX m_X12_mostFilled 4 0 0 89 [(0, .ref 125), (1, .int l1), (2, .int l2), (3, .int l3), (4, .int l4)] [] h 0 0 Q := by
  intro l1 l2 l3 l4 h y0 y1 y2 y3  m5 J Sm D EV
  unfold d_X12_mostFilled_r125d_89 at D
  refine z_iinc (x := l4) (lsx9 := fun v1 => [(4, .int v1), (0, .ref 125), (1, .int l1), (2, .int l2), (3, .int l3)]) rfl rfl rfl jko_1 (by omega) rfl (fun _ => rfl) (fun v1 ev1 => ?_)
  refine x_goto (tgt := 5) rfl rfl ?_
  try rw [show (l4.toInt + 1) = v1.toInt from by omega] at D
  exact jX.sub (jsb_c rfl (jsb_c rfl (jsb_c rfl (jsb_c rfl (jsb_c rfl jsb_n))))) (k5 l1 l2 l3 v1 h (by omega) (jr_of rfl (by omega)) (jr_of rfl (by omega)) (jr_of rfl (by omega)) (jr_of rfl (by omega)) J Sm D EV)
set_option maxRecDepth 100000 in
set_option maxHeartbeats 4000000 in
theorem ct_X12_mostFilled_r125d_5 {Dy : jH → Prop} {h0 : jH} {Q : Option Value → jH → Prop} {dr : Int} (hD : jDk Dy) (hQ : ∀ (v : Int32) hx9, 0 ≤ v.toInt ∧ v.toInt ≤ 2147483647 → jJ jSgM Dy hx9 → jSm fp_X12_mostFilled_r125d h0 hx9 → dr = v.toInt → vw hx9 = vw h0 → Q (some (.int v)) hx9) : ∀ r : Nat, ∀ (l1 : Int32) (l2 : Int32) (l3 : Int32) (l4 : Int32) (h : jH), 200 - l4.toInt < (r : Int) → 0 ≤ l1.toInt ∧ l1.toInt ≤ 5 → (-146398) ≤ l2.toInt ∧ l2.toInt ≤ 146400 → 0 ≤ l3.toInt ∧ l3.toInt ≤ 2147483647 → 0 ≤ l4.toInt ∧ l4.toInt ≤ 200 → jJ jSgM Dy h → jSm fp_X12_mostFilled_r125d h0 h → d_X12_mostFilled_r125d_5 r l1.toInt l2.toInt l3.toInt l4.toInt (vw h) = dr → vw h = vw h0 → jX m_X12_mostFilled 4 0 0 5 [(0, .ref 125), (1, .int l1), (2, .int l2), (3, .int l3), (4, .int l4)] [] h 0 0 Q := by
  intro r
  induction r with
  | zero =>
    intro l1 l2 l3 l4 h hm y0 y1 y2 y3   J Sm D EV
    exfalso
    omega
  | succ r ih =>
    intro l1 l2 l3 l4 h hm y0 y1 y2 y3   J Sm D EV
    rw [d_X12_mostFilled_r125d_5.eq_2] at D
    refine x_iload (x := l4) rfl rfl ?_
    refine x_aloadn (x := 125) rfl rfl ?_
    refine z_getR (N := 92) (b := 126) 12 2 rfl f_12_8 rfl J rfl 16002 ⟨rfl, rfl⟩ rfl ?_
    refine x_iconst (v := 0) rfl ki_0 ?_
    refine z_iald (N := 50660) rfl J rfl sg_126_0_1_1_0_1 jk_0 (by omega) (fun v1 qv1 ev1 => ?_)
    try rw [vrn (n := 0) (by decide) qv1] at D
    refine x_icge (tgt := 95) rfl rfl (ti_ge rfl rfl ⟨fun c2 => ?_, fun c2 => ?_⟩)
    ·
      rw [if_pos (by omega)] at D
      refine x_iloadn (x := l3) rfl rfl ?_
      refine x_iret rfl rfl ?_
      exact hQ _ _ (jr_of rfl (by omega)) J Sm (D.symm.trans (show l3.toInt = l3.toInt from by omega)) EV
    ·
      rw [if_neg (by omega)] at D
      refine x_aloadn (x := 125) rfl rfl ?_
      refine x_iload (x := l4) rfl rfl ?_
      refine x_inv (N := m_X12_bookOf) (As := [.int l4]) (b := 125) (st := []) (dx9 := 3) (mc := 0) (ms := 0) (host := "") 12 rfl t_X12_bookOf ⟨Or.inl q_12_299, i_X12_bookOf.1, i_X12_bookOf.2⟩ ⟨by decide, rfl⟩ (congrArg Prod.fst (J.1.1 125 (12, 92) rfl)) rfl (by decide) rfl rfl ⟨by decide, by decide⟩ (jC.of rfl k_X12_bookOf rfl ?_)
      show jX m_X12_bookOf 3 0 0 0 [(0, .ref 125), (1, .int l4)] [] _ 0 0 _
      refine x_aloadn (x := 125) rfl rfl ?_
      refine z_getR (N := 92) (b := 126) 12 2 rfl f_12_8 rfl J rfl 16002 ⟨rfl, rfl⟩ rfl ?_
      refine x_aloadn (x := 125) rfl rfl ?_
      refine x_iloadn (x := l4) rfl rfl ?_
      refine x_inv (N := m_X12_at) (As := [.int l4]) (b := 125) (st := [.ref 126]) (dx9 := 2) (mc := 0) (ms := 0) (host := "") 12 rfl t_X12_at ⟨Or.inl q_12_254, i_X12_at.1, i_X12_at.2⟩ ⟨by decide, rfl⟩ (congrArg Prod.fst (J.1.1 125 (12, 92) rfl)) rfl (by decide) rfl rfl ⟨by decide, by decide⟩ (jC.of rfl k_X12_at rfl ?_)
      show jX m_X12_at 2 0 0 0 [(0, .ref 125), (1, .int l4)] [] _ 0 0 _
      refine x_bipush (v := 20) rfl kb_20 ?_
      refine x_bipush (v := 90) rfl kb_90 ?_
      refine x_iloadn (x := l4) rfl rfl ?_
      refine z_imul rfl jk_90 rfl (by omega) (fun v3 ev3 => ?_)
      refine z_iadd rfl jk_20 rfl (by omega) (fun v4 ev4 => ?_)
      refine x_iret rfl rfl ?_
      show jX m_X12_bookOf 3 0 0 9 [(0, .ref 125), (1, .int l4)] [.int v4, .ref 126] _ 0 0 _
      refine z_iald (N := 50660) rfl J rfl sg_126_20_18020_90_0_1 rfl (by omega) (fun v5 qv5 ev5 => ?_)
      try rw [vrd qv5 (show (20 + (90 * l4.toInt)) = v4.toInt from by omega)] at D
      refine x_iret rfl rfl ?_
      show jX m_X12_mostFilled 4 0 0 22 [(0, .ref 125), (1, .int l1), (2, .int l2), (3, .int l3), (4, .int l4)] [.int v5] _ 0 0 _
      refine x_iloadn (x := l1) rfl rfl ?_
      refine x_icne (tgt := 89) rfl rfl (ti_ne rfl rfl ⟨fun c6 => ?_, fun c6 => ?_⟩)
      ·
        rw [if_neg (by omega)] at D
        exact jX.sub (jsb_c rfl (jsb_c rfl (jsb_c rfl (jsb_c rfl (jsb_c rfl jsb_n))))) (ct_X12_mostFilled_r125d_89 hD hQ ih l1 l2 l3 l4 h (jr_of rfl (by omega)) (jr_of rfl (by omega)) (jr_of rfl (by omega)) (jr_of rfl (by omega)) (by omega) J Sm D EV)
      ·
        rw [if_pos (by omega)] at D
        refine x_aloadn (x := 125) rfl rfl ?_
        refine x_iload (x := l4) rfl rfl ?_
        refine x_aloadn (x := 125) rfl rfl ?_
        refine z_getI (N := 92) 12 28 rfl f_12_377 rfl J rfl sg_125_28_29_1_0_1 (fun v7 qv7 ev7 => ?_)
        try rw [vrf qv7] at D
        refine x_inv (N := m_X12_isKnown) (As := [.int l4, .int v7]) (b := 125) (st := []) (dx9 := 3) (mc := 0) (ms := 0) (host := "") 12 rfl t_X12_isKnown ⟨Or.inl q_12_383, i_X12_isKnown.1, i_X12_isKnown.2⟩ ⟨by decide, rfl⟩ (congrArg Prod.fst (J.1.1 125 (12, 92) rfl)) rfl (by decide) rfl rfl ⟨by decide, by decide⟩ (jC.of rfl k_X12_isKnown rfl ?_)
        show jX m_X12_isKnown 3 0 0 0 [(0, .ref 125), (1, .int l4), (2, .int v7)] [] _ 0 0 _
        refine x_aloadn (x := 125) rfl rfl ?_
        refine z_getR (N := 92) (b := 126) 12 2 rfl f_12_8 rfl J rfl 16002 ⟨rfl, rfl⟩ rfl ?_
        refine x_aloadn (x := 125) rfl rfl ?_
        refine x_iloadn (x := l4) rfl rfl ?_
        refine x_inv (N := m_X12_at) (As := [.int l4]) (b := 125) (st := [.ref 126]) (dx9 := 2) (mc := 0) (ms := 0) (host := "") 12 rfl t_X12_at ⟨Or.inl q_12_254, i_X12_at.1, i_X12_at.2⟩ ⟨by decide, rfl⟩ (congrArg Prod.fst (J.1.1 125 (12, 92) rfl)) rfl (by decide) rfl rfl ⟨by decide, by decide⟩ (jC.of rfl k_X12_at rfl ?_)
        show jX m_X12_at 2 0 0 0 [(0, .ref 125), (1, .int l4)] [] _ 0 0 _
        refine x_bipush (v := 20) rfl kb_20 ?_
        refine x_bipush (v := 90) rfl kb_90 ?_
        refine x_iloadn (x := l4) rfl rfl ?_
        refine z_imul rfl jk_90 rfl (by omega) (fun v8 ev8 => ?_)
        refine z_iadd rfl jk_20 rfl (by omega) (fun v9 ev9 => ?_)
        refine x_iret rfl rfl ?_
        show jX m_X12_isKnown 3 0 0 9 [(0, .ref 125), (1, .int l4), (2, .int v7)] [.int v9, .ref 126] _ 0 0 _
        refine x_iconst (v := 3) rfl ki_3 ?_
        refine z_iadd rfl rfl jk_3 (by omega) (fun v10 ev10 => ?_)
        refine z_iald (N := 50660) rfl J rfl sg_126_20_18020_90_3_4 rfl (by omega) (fun v11 qv11 ev11 => ?_)
        try rw [vrd qv11 (show ((20 + (90 * l4.toInt)) + 3) = v10.toInt from by omega)] at D
        refine x_iloadn (x := v7) rfl rfl ?_
        refine x_icgt (tgt := 20) rfl rfl (ti_gt rfl rfl ⟨fun c12 => ?_, fun c12 => ?_⟩)
        ·
          rw [if_pos (by omega)] at D
          refine x_iconst (v := 0) rfl ki_0 ?_
          refine x_zret rfl rfl (by decide) ?_
          show jX m_X12_mostFilled 4 0 0 36 [(0, .ref 125), (1, .int l1), (2, .int l2), (3, .int l3), (4, .int l4)] [.int 0] _ 0 0 _
          refine x_ifeq (tgt := 89) rfl rfl (ti_eq jk_0 jk_0 (br_t (by omega) ?_))
          exact jX.sub (jsb_c rfl (jsb_c rfl (jsb_c rfl (jsb_c rfl (jsb_c rfl jsb_n))))) (ct_X12_mostFilled_r125d_89 hD hQ ih l1 l2 l3 l4 h (jr_of rfl (by omega)) (jr_of rfl (by omega)) (jr_of rfl (by omega)) (jr_of rfl (by omega)) (by omega) J Sm D EV)
        ·
          rw [if_neg (by omega)] at D
          refine x_iconst (v := 1) rfl ki_1 ?_
          refine x_goto (tgt := 21) rfl rfl ?_
          refine x_zret rfl rfl (by decide) ?_
          show jX m_X12_mostFilled 4 0 0 36 [(0, .ref 125), (1, .int l1), (2, .int l2), (3, .int l3), (4, .int l4)] [.int 1] _ 0 0 _
          refine x_ifeq (tgt := 89) rfl rfl (ti_eq jk_1 jk_0 (br_f (by omega) ?_))
          refine x_aloadn (x := 125) rfl rfl ?_
          refine x_iloadn (x := l1) rfl rfl ?_
          refine x_aloadn (x := 125) rfl rfl ?_
          refine x_iload (x := l4) rfl rfl ?_
          refine x_inv (N := m_X12_dayOf) (As := [.int l4]) (b := 125) (st := [.int l1, .ref 125]) (dx9 := 3) (mc := 0) (ms := 0) (host := "") 12 rfl t_X12_dayOf ⟨Or.inl q_12_335, i_X12_dayOf.1, i_X12_dayOf.2⟩ ⟨by decide, rfl⟩ (congrArg Prod.fst (J.1.1 125 (12, 92) rfl)) rfl (by decide) rfl rfl ⟨by decide, by decide⟩ (jC.of rfl k_X12_dayOf rfl ?_)
          show jX m_X12_dayOf 3 0 0 0 [(0, .ref 125), (1, .int l4)] [] _ 0 0 _
          refine x_aloadn (x := 125) rfl rfl ?_
          refine z_getR (N := 92) (b := 126) 12 2 rfl f_12_8 rfl J rfl 16002 ⟨rfl, rfl⟩ rfl ?_
          refine x_aloadn (x := 125) rfl rfl ?_
          refine x_iloadn (x := l4) rfl rfl ?_
          refine x_inv (N := m_X12_at) (As := [.int l4]) (b := 125) (st := [.ref 126]) (dx9 := 2) (mc := 0) (ms := 0) (host := "") 12 rfl t_X12_at ⟨Or.inl q_12_254, i_X12_at.1, i_X12_at.2⟩ ⟨by decide, rfl⟩ (congrArg Prod.fst (J.1.1 125 (12, 92) rfl)) rfl (by decide) rfl rfl ⟨by decide, by decide⟩ (jC.of rfl k_X12_at rfl ?_)
          show jX m_X12_at 2 0 0 0 [(0, .ref 125), (1, .int l4)] [] _ 0 0 _
          refine x_bipush (v := 20) rfl kb_20 ?_
          refine x_bipush (v := 90) rfl kb_90 ?_
          refine x_iloadn (x := l4) rfl rfl ?_
          refine z_imul rfl jk_90 rfl (by omega) (fun v13 ev13 => ?_)
          refine z_iadd rfl jk_20 rfl (by omega) (fun v14 ev14 => ?_)
          refine x_iret rfl rfl ?_
          show jX m_X12_dayOf 3 0 0 9 [(0, .ref 125), (1, .int l4)] [.int v14, .ref 126] _ 0 0 _
          refine x_iconst (v := 2) rfl ki_2 ?_
          refine z_iadd rfl rfl jk_2 (by omega) (fun v15 ev15 => ?_)
          refine z_iald (N := 50660) rfl J rfl sg_126_20_18020_90_2_3 rfl (by omega) (fun v16 qv16 ev16 => ?_)
          try rw [vrd qv16 (show ((20 + (90 * l4.toInt)) + 2) = v15.toInt from by omega)] at D
          refine x_iret rfl rfl ?_
          show jX m_X12_mostFilled 4 0 0 47 [(0, .ref 125), (1, .int l1), (2, .int l2), (3, .int l3), (4, .int l4)] [.int v16, .int l1, .ref 125] _ 0 0 _
          refine x_aloadn (x := 125) rfl rfl ?_
          refine x_iload (x := l4) rfl rfl ?_
          refine x_inv (N := m_X12_dayOf) (As := [.int l4]) (b := 125) (st := [.int v16, .int l1, .ref 125]) (dx9 := 3) (mc := 0) (ms := 0) (host := "") 12 rfl t_X12_dayOf ⟨Or.inl q_12_335, i_X12_dayOf.1, i_X12_dayOf.2⟩ ⟨by decide, rfl⟩ (congrArg Prod.fst (J.1.1 125 (12, 92) rfl)) rfl (by decide) rfl rfl ⟨by decide, by decide⟩ (jC.of rfl k_X12_dayOf rfl ?_)
          show jX m_X12_dayOf 3 0 0 0 [(0, .ref 125), (1, .int l4)] [] _ 0 0 _
          refine x_aloadn (x := 125) rfl rfl ?_
          refine z_getR (N := 92) (b := 126) 12 2 rfl f_12_8 rfl J rfl 16002 ⟨rfl, rfl⟩ rfl ?_
          refine x_aloadn (x := 125) rfl rfl ?_
          refine x_iloadn (x := l4) rfl rfl ?_
          refine x_inv (N := m_X12_at) (As := [.int l4]) (b := 125) (st := [.ref 126]) (dx9 := 2) (mc := 0) (ms := 0) (host := "") 12 rfl t_X12_at ⟨Or.inl q_12_254, i_X12_at.1, i_X12_at.2⟩ ⟨by decide, rfl⟩ (congrArg Prod.fst (J.1.1 125 (12, 92) rfl)) rfl (by decide) rfl rfl ⟨by decide, by decide⟩ (jC.of rfl k_X12_at rfl ?_)
          show jX m_X12_at 2 0 0 0 [(0, .ref 125), (1, .int l4)] [] _ 0 0 _
          refine x_bipush (v := 20) rfl kb_20 ?_
          refine x_bipush (v := 90) rfl kb_90 ?_
          refine x_iloadn (x := l4) rfl rfl ?_
          refine z_imul rfl jk_90 rfl (by omega) (fun v17 ev17 => ?_)
          refine z_iadd rfl jk_20 rfl (by omega) (fun v18 ev18 => ?_)
          refine x_iret rfl rfl ?_
          show jX m_X12_dayOf 3 0 0 9 [(0, .ref 125), (1, .int l4)] [.int v18, .ref 126] _ 0 0 _
          refine x_iconst (v := 2) rfl ki_2 ?_
          refine z_iadd rfl rfl jk_2 (by omega) (fun v19 ev19 => ?_)
          refine z_iald (N := 50660) rfl J rfl sg_126_20_18020_90_2_3 rfl (by omega) (fun v20 qv20 ev20 => ?_)
          try have kqv20 : v16.toInt = v20.toInt := ((vrd qv16 (show ((20 + (90 * l4.toInt)) + 2) = v15.toInt from by omega)).symm.trans (vrd qv20 (show ((20 + (90 * l4.toInt)) + 2) = v19.toInt from by omega)))
          try rw [show v16.toInt = v20.toInt from ((vrd qv16 (show ((20 + (90 * l4.toInt)) + 2) = v15.toInt from by omega)).symm.trans (vrd qv20 (show ((20 + (90 * l4.toInt)) + 2) = v19.toInt from by omega)))] at D
          try rw [vrd qv20 (show ((20 + (90 * l4.toInt)) + 2) = v19.toInt from by omega)] at D
          refine x_iret rfl rfl ?_
          show jX m_X12_mostFilled 4 0 0 53 [(0, .ref 125), (1, .int l1), (2, .int l2), (3, .int l3), (4, .int l4)] [.int v20, .int v16, .int l1, .ref 125] _ 0 0 _
          refine x_iloadn (x := l2) rfl rfl ?_
          refine z_iadd rfl rfl rfl (by omega) (fun v21 ev21 => ?_)
          refine x_iconst (v := 1) rfl ki_1 ?_
          refine z_isub rfl rfl jk_1 (by omega) (fun v22 ev22 => ?_)
          try rw [show v20.toInt = v16.toInt from by omega] at D
          try rw [show ((v16.toInt + l2.toInt) - 1) = v22.toInt from by omega] at D
          refine x_inv (N := m_X12_isTorn) (As := [.int l1, .int v16, .int v22]) (b := 125) (st := []) (dx9 := 1) (mc := 0) (ms := 0) (host := "") 12 rfl t_X12_isTorn ⟨Or.inl q_12_474, i_X12_isTorn.1, i_X12_isTorn.2⟩ ⟨by decide, rfl⟩ (congrArg Prod.fst (J.1.1 125 (12, 92) rfl)) rfl (by decide) rfl rfl ⟨by decide, by decide⟩ (sf_X12_isTorn_r125d (jr_of rfl (by omega)) (jr_of rfl (by omega)) (jr_of rfl (by omega)) hD J rfl  (fun v26 h ev26 J S23 X24 X25 => ?_))
          have Sm := jSm_tr rfl Sm S23
          have qv20 := jmc S23 rfl qv20
          try rw [X24] at D
          try rw [← X25] at D
          have EV := X25.trans EV
          show jX m_X12_mostFilled 4 0 0 60 [(0, .ref 125), (1, .int l1), (2, .int l2), (3, .int l3), (4, .int l4)] [.int v26] _ 0 0 _
          refine x_ifne (tgt := 89) rfl rfl (ti_ne rfl jk_0 ⟨fun c27 => ?_, fun c27 => ?_⟩)
          ·
            rw [if_neg (by omega)] at D
            exact jX.sub (jsb_c rfl (jsb_c rfl (jsb_c rfl (jsb_c rfl (jsb_c rfl jsb_n))))) (ct_X12_mostFilled_r125d_89 hD hQ ih l1 l2 l3 l4 h (jr_of rfl (by omega)) (jr_of rfl (by omega)) (jr_of rfl (by omega)) (jr_of rfl (by omega)) (by omega) J Sm D EV)
          ·
            rw [if_pos (by omega)] at D
            refine x_iloadn (x := l3) rfl rfl ?_
            refine x_aloadn (x := 125) rfl rfl ?_
            refine x_iloadn (x := l1) rfl rfl ?_
            refine x_aloadn (x := 125) rfl rfl ?_
            refine x_iload (x := l4) rfl rfl ?_
            refine x_inv (N := m_X12_dayOf) (As := [.int l4]) (b := 125) (st := [.int l1, .ref 125, .int l3]) (dx9 := 3) (mc := 0) (ms := 0) (host := "") 12 rfl t_X12_dayOf ⟨Or.inl q_12_335, i_X12_dayOf.1, i_X12_dayOf.2⟩ ⟨by decide, rfl⟩ (congrArg Prod.fst (J.1.1 125 (12, 92) rfl)) rfl (by decide) rfl rfl ⟨by decide, by decide⟩ (jC.of rfl k_X12_dayOf rfl ?_)
            show jX m_X12_dayOf 3 0 0 0 [(0, .ref 125), (1, .int l4)] [] _ 0 0 _
            refine x_aloadn (x := 125) rfl rfl ?_
            refine z_getR (N := 92) (b := 126) 12 2 rfl f_12_8 rfl J rfl 16002 ⟨rfl, rfl⟩ rfl ?_
            refine x_aloadn (x := 125) rfl rfl ?_
            refine x_iloadn (x := l4) rfl rfl ?_
            refine x_inv (N := m_X12_at) (As := [.int l4]) (b := 125) (st := [.ref 126]) (dx9 := 2) (mc := 0) (ms := 0) (host := "") 12 rfl t_X12_at ⟨Or.inl q_12_254, i_X12_at.1, i_X12_at.2⟩ ⟨by decide, rfl⟩ (congrArg Prod.fst (J.1.1 125 (12, 92) rfl)) rfl (by decide) rfl rfl ⟨by decide, by decide⟩ (jC.of rfl k_X12_at rfl ?_)
            show jX m_X12_at 2 0 0 0 [(0, .ref 125), (1, .int l4)] [] _ 0 0 _
            refine x_bipush (v := 20) rfl kb_20 ?_
            refine x_bipush (v := 90) rfl kb_90 ?_
            refine x_iloadn (x := l4) rfl rfl ?_
            refine z_imul rfl jk_90 rfl (by omega) (fun v28 ev28 => ?_)
            refine z_iadd rfl jk_20 rfl (by omega) (fun v29 ev29 => ?_)
            refine x_iret rfl rfl ?_
            show jX m_X12_dayOf 3 0 0 9 [(0, .ref 125), (1, .int l4)] [.int v29, .ref 126] _ 0 0 _
            refine x_iconst (v := 2) rfl ki_2 ?_
            refine z_iadd rfl rfl jk_2 (by omega) (fun v30 ev30 => ?_)
            refine z_iald (N := 50660) rfl J rfl sg_126_20_18020_90_2_3 rfl (by omega) (fun v31 qv31 ev31 => ?_)
            try have kqv31 : v16.toInt = v31.toInt := (show v16.toInt = v20.toInt from by omega).trans ((vrd qv20 (show ((20 + (90 * l4.toInt)) + 2) = v19.toInt from by omega)).symm.trans (vrd qv31 (show ((20 + (90 * l4.toInt)) + 2) = v30.toInt from by omega)))
            try rw [show v16.toInt = v31.toInt from (show v16.toInt = v20.toInt from by omega).trans ((vrd qv20 (show ((20 + (90 * l4.toInt)) + 2) = v19.toInt from by omega)).symm.trans (vrd qv31 (show ((20 + (90 * l4.toInt)) + 2) = v30.toInt from by omega)))] at D
            try rw [vrd qv31 (show ((20 + (90 * l4.toInt)) + 2) = v30.toInt from by omega)] at D
            refine x_iret rfl rfl ?_
            show jX m_X12_mostFilled 4 0 0 72 [(0, .ref 125), (1, .int l1), (2, .int l2), (3, .int l3), (4, .int l4)] [.int v31, .int l1, .ref 125, .int l3] _ 0 0 _
            refine x_aloadn (x := 125) rfl rfl ?_
            refine x_iload (x := l4) rfl rfl ?_
            refine x_inv (N := m_X12_dayOf) (As := [.int l4]) (b := 125) (st := [.int v31, .int l1, .ref 125, .int l3]) (dx9 := 3) (mc := 0) (ms := 0) (host := "") 12 rfl t_X12_dayOf ⟨Or.inl q_12_335, i_X12_dayOf.1, i_X12_dayOf.2⟩ ⟨by decide, rfl⟩ (congrArg Prod.fst (J.1.1 125 (12, 92) rfl)) rfl (by decide) rfl rfl ⟨by decide, by decide⟩ (jC.of rfl k_X12_dayOf rfl ?_)
            show jX m_X12_dayOf 3 0 0 0 [(0, .ref 125), (1, .int l4)] [] _ 0 0 _
            refine x_aloadn (x := 125) rfl rfl ?_
            refine z_getR (N := 92) (b := 126) 12 2 rfl f_12_8 rfl J rfl 16002 ⟨rfl, rfl⟩ rfl ?_
            refine x_aloadn (x := 125) rfl rfl ?_
            refine x_iloadn (x := l4) rfl rfl ?_
            refine x_inv (N := m_X12_at) (As := [.int l4]) (b := 125) (st := [.ref 126]) (dx9 := 2) (mc := 0) (ms := 0) (host := "") 12 rfl t_X12_at ⟨Or.inl q_12_254, i_X12_at.1, i_X12_at.2⟩ ⟨by decide, rfl⟩ (congrArg Prod.fst (J.1.1 125 (12, 92) rfl)) rfl (by decide) rfl rfl ⟨by decide, by decide⟩ (jC.of rfl k_X12_at rfl ?_)
            show jX m_X12_at 2 0 0 0 [(0, .ref 125), (1, .int l4)] [] _ 0 0 _
            refine x_bipush (v := 20) rfl kb_20 ?_
            refine x_bipush (v := 90) rfl kb_90 ?_
            refine x_iloadn (x := l4) rfl rfl ?_
            refine z_imul rfl jk_90 rfl (by omega) (fun v32 ev32 => ?_)
            refine z_iadd rfl jk_20 rfl (by omega) (fun v33 ev33 => ?_)
            refine x_iret rfl rfl ?_
            show jX m_X12_dayOf 3 0 0 9 [(0, .ref 125), (1, .int l4)] [.int v33, .ref 126] _ 0 0 _
            refine x_iconst (v := 2) rfl ki_2 ?_
            refine z_iadd rfl rfl jk_2 (by omega) (fun v34 ev34 => ?_)
            refine z_iald (N := 50660) rfl J rfl sg_126_20_18020_90_2_3 rfl (by omega) (fun v35 qv35 ev35 => ?_)
            try have kqv35 : v31.toInt = v35.toInt := ((vrd qv31 (show ((20 + (90 * l4.toInt)) + 2) = v30.toInt from by omega)).symm.trans (vrd qv35 (show ((20 + (90 * l4.toInt)) + 2) = v34.toInt from by omega)))
            try rw [show v31.toInt = v35.toInt from ((vrd qv31 (show ((20 + (90 * l4.toInt)) + 2) = v30.toInt from by omega)).symm.trans (vrd qv35 (show ((20 + (90 * l4.toInt)) + 2) = v34.toInt from by omega)))] at D
            try rw [vrd qv35 (show ((20 + (90 * l4.toInt)) + 2) = v34.toInt from by omega)] at D
            refine x_iret rfl rfl ?_
            show jX m_X12_mostFilled 4 0 0 78 [(0, .ref 125), (1, .int l1), (2, .int l2), (3, .int l3), (4, .int l4)] [.int v35, .int v31, .int l1, .ref 125, .int l3] _ 0 0 _
            refine x_iloadn (x := l2) rfl rfl ?_
            refine z_iadd rfl rfl rfl (by omega) (fun v36 ev36 => ?_)
            refine x_iconst (v := 1) rfl ki_1 ?_
            refine z_isub rfl rfl jk_1 (by omega) (fun v37 ev37 => ?_)
            try rw [show v35.toInt = v31.toInt from by omega] at D
            try rw [show v22.toInt = v37.toInt from by omega] at D
            refine x_inv (N := m_X12_linesWithin) (As := [.int l1, .int v31, .int v37]) (b := 125) (st := [.int l3]) (dx9 := 3) (mc := 0) (ms := 0) (host := "") 12 rfl t_X12_linesWithin ⟨Or.inl q_12_477, i_X12_linesWithin.1, i_X12_linesWithin.2⟩ ⟨by decide, rfl⟩ (congrArg Prod.fst (J.1.1 125 (12, 92) rfl)) rfl (by decide) rfl rfl ⟨by decide, by decide⟩ (sf_X12_linesWithin_r125d (jr_of rfl (by omega)) (jr_of rfl (by omega)) (jr_of rfl (by omega)) hD J rfl  (fun v41 h J S38 X39 X40 => ?_))
            have ev41 := jfull v41
            have Sm := jSm_tr rfl Sm S38
            try rw [X39] at D
            try rw [← X40] at D
            have EV := X40.trans EV
            show jX m_X12_mostFilled 4 0 0 85 [(0, .ref 125), (1, .int l1), (2, .int l2), (3, .int l3), (4, .int l4)] [.int v41, .int l3] _ 0 0 _
            refine x_inst (N := m_X12_more) (As := [.int l3, .int v41]) (st := []) (dx9 := 3) (mc := 0) (ms := 0) (host := "") rfl t_X12_more ⟨Or.inl q_12_431, s_X12_more⟩ rfl (by decide) rfl rfl ⟨by decide, by decide⟩ (jC.of rfl k_X12_more rfl ?_)
            show jX m_X12_more 3 0 0 0 [(0, .int l3), (1, .int v41)] [] _ 0 0 _
            refine x_iloadn (x := l3) rfl rfl ?_
            refine x_iloadn (x := v41) rfl rfl ?_
            refine x_icle (tgt := 9) rfl rfl (ti_le rfl rfl ⟨fun c42 => ?_, fun c42 => ?_⟩)
            ·
              rw [if_pos (by omega)] at D
              refine x_iloadn (x := v41) rfl rfl ?_
              refine x_iret rfl rfl ?_
              show jX m_X12_mostFilled 4 0 0 88 [(0, .ref 125), (1, .int l1), (2, .int l2), (3, .int l3), (4, .int l4)] [.int v41] _ 0 0 _
              refine x_istoren (lsx9 := [(3, .int v41), (0, .ref 125), (1, .int l1), (2, .int l2), (4, .int l4)]) rfl rfl rfl ?_
              exact jX.sub (jsb_c rfl (jsb_c rfl (jsb_c rfl (jsb_c rfl (jsb_c rfl jsb_n))))) (ct_X12_mostFilled_r125d_89 hD hQ ih l1 l2 v41 l4 h (jr_of rfl (by omega)) (jr_of rfl (by omega)) (jr_of rfl (by omega)) (jr_of rfl (by omega)) (by omega) J Sm D EV)
            ·
              rw [if_neg (by omega)] at D
              refine x_iloadn (x := l3) rfl rfl ?_
              refine x_goto (tgt := 10) rfl rfl ?_
              refine x_iret rfl rfl ?_
              show jX m_X12_mostFilled 4 0 0 88 [(0, .ref 125), (1, .int l1), (2, .int l2), (3, .int l3), (4, .int l4)] [.int l3] _ 0 0 _
              refine x_istoren (lsx9 := [(3, .int l3), (0, .ref 125), (1, .int l1), (2, .int l2), (4, .int l4)]) rfl rfl rfl ?_
              exact jX.sub (jsb_c rfl (jsb_c rfl (jsb_c rfl (jsb_c rfl (jsb_c rfl jsb_n))))) (ct_X12_mostFilled_r125d_89 hD hQ ih l1 l2 l3 l4 h (jr_of rfl (by omega)) (jr_of rfl (by omega)) (jr_of rfl (by omega)) (jr_of rfl (by omega)) (by omega) J Sm D EV)
