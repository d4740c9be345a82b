set_option maxRecDepth 100000 in
set_option maxHeartbeats 4000000 in
theorem ct_X12_findTurns_r125d_222 {Dy : jH → Prop} {h0 : jH} {Q : Option Value → jH → Prop} {dr : jW} {K14 : Int → Int → Int → Int → Int → jW → jW} {R14 : Int} (hD : jDk Dy) (hQ : ∀ hx9, jJ jSgM Dy hx9 → jSm fp_X12_findTurns_r125d h0 hx9 → dr = vw hx9 → Q none hx9) (k14 : ∀ (l1 : Int32) (l2 : Int32) (l3 : Int32) (l4 : Int32) (l5 : Int32) (h : jH), 400 - l5.toInt < R14 → 0 ≤ l1.toInt ∧ l1.toInt ≤ 3 → 0 ≤ l2.toInt ∧ l2.toInt ≤ 399 → 0 ≤ l3.toInt ∧ l3.toInt ≤ 40 → 0 ≤ l4.toInt ∧ l4.toInt ≤ 39 → 0 ≤ l5.toInt ∧ l5.toInt ≤ 400 → jJ jSgM Dy h → jSm fp_X12_findTurns_r125d h0 h → K14 l1.toInt l2.toInt l3.toInt l4.toInt l5.toInt (vw h) = dr → jX m_X12_findTurns 11 0 0 14 [(0, .ref 125), (1, .int l1), (2, .int l2), (3, .int l3), (4, .int l4), (5, .int l5)] [] h 0 0 Q) : ∀ (l1 : Int32) (l2 : Int32) (l3 : Int32) (l4 : Int32) (l5 : Int32) (g0 : Int32) (h : jH), 0 ≤ l1.toInt ∧ l1.toInt ≤ 3 → 0 ≤ l2.toInt ∧ l2.toInt ≤ 399 → 0 ≤ l3.toInt ∧ l3.toInt ≤ 40 → 0 ≤ l4.toInt ∧ l4.toInt ≤ 39 → 0 ≤ l5.toInt ∧ l5.toInt ≤ 399 → (-1) ≤ g0.toInt ∧ g0.toInt ≤ 39 → (g0.toInt = -1 ∨ 1 ≤ l3.toInt) → jiv h 168 l5.toNatClampNeg = g0 → 400 - l5.toInt ≤ R14 → jJ jSgM Dy h → jSm fp_X12_findTurns_r125d h0 h → d_X12_findTurns_r125d_222 K14  l1.toInt l2.toInt l3.toInt l4.toInt l5.toInt (vw h) = dr → jX m_X12_findTurns 11 0 0 222 [(0, .ref 125), (1, .int l1), (2, .int l2), (3, .int l3), (4, .int l4), (5, .int l5)] [] h 0 0 Q := by
  intro l1 l2 l3 l4 l5 g0 h y0 y1 y2 y3 y4 y5 y6 z0 m14 J Sm D
  unfold d_X12_findTurns_r125d_222 at D
  refine x_aloadn (x := 125) rfl rfl ?_
  refine z_getR (N := 92) (b := 168) 12 83 rfl f_12_162 rfl J rfl 16083 ⟨rfl, rfl⟩ rfl ?_
  refine x_iload (x := l5) rfl rfl ?_
  refine z_ialdM (N := 400) (v := g0) rfl J rfl rfl (by omega) z0 ?_
  try rw [vrd z0 (show l5.toInt = l5.toInt from by omega)] at D
  refine x_iconst (v := (-1)) rfl ki_m1 ?_
  refine x_icne (tgt := 238) rfl rfl (ti_ne rfl jk_m1 ⟨fun c1 => ?_, fun c1 => ?_⟩)
  ·
    rw [if_neg (by omega)] at D
    refine x_aloadn (x := 125) rfl rfl ?_
    refine z_getR (N := 92) (b := 168) 12 83 rfl f_12_162 rfl J rfl 16083 ⟨rfl, rfl⟩ rfl ?_
    refine x_iload (x := l5) rfl rfl ?_
    refine z_ialdM (N := 400) (v := g0) rfl J rfl rfl (by omega) z0 ?_
    refine x_iconst (v := 1) rfl ki_1 ?_
    refine z_iadd rfl rfl jk_1 (by omega) (fun v2 ev2 => ?_)
    refine x_iloadn (x := l3) rfl rfl ?_
    refine z_iremQ rfl rfl rfl (by omega) (by omega) (fun v3 ev3 => ?_)
    try rw [show (g0.toInt + 1) = v2.toInt from by omega] at D
    try rw [← ev3.1] at D
    exact jX.sub (jsb_c rfl (jsb_c rfl (jsb_c rfl (jsb_c rfl (jsb_c rfl jsb_n))))) (ct_X12_findTurns_r125d_249 hD hQ k14 l1 l2 l3 l5 v3 g0 h (jr_of rfl (by omega)) (jr_of rfl (by omega)) (jr_of rfl (by omega)) (jr_of rfl (by omega)) (jr_of rfl (by omega)) (jr_of rfl (by omega)) (by omega) z0 (by omega) J Sm D)
  ·
    rw [if_pos (by omega)] at D
    refine x_iload (x := l4) rfl rfl ?_
    refine x_goto (tgt := 249) rfl rfl ?_
    exact jX.sub (jsb_c rfl (jsb_c rfl (jsb_c rfl (jsb_c rfl (jsb_c rfl jsb_n))))) (ct_X12_findTurns_r125d_249 hD hQ k14 l1 l2 l3 l5 l4 g0 h (jr_of rfl (by omega)) (jr_of rfl (by omega)) (jr_of rfl (by omega)) (jr_of rfl (by omega)) (jr_of rfl (by omega)) (jr_of rfl (by omega)) (by omega) z0 (by omega) J Sm D)
set_option maxRecDepth 100000 in
set_option maxHeartbeats 4000000 in
theorem ct_X12_findTurns_r125d_216 {Dy : jH → Prop} {h0 : jH} {Q : Option Value → jH → Prop} {dr : jW} {K14 : Int → Int → Int → Int → Int → jW → jW} {K72 : Int → Int → Int → Int → Int → Int → Int → Int → jW → jW} {R14 : Int} {R72 : Int} (hD : jDk Dy) (hQ : ∀ hx9, jJ jSgM Dy hx9 → jSm fp_X12_findTurns_r125d h0 hx9 → dr = vw hx9 → Q none hx9) (k14 : ∀ (l1 : Int32) (l2 : Int32) (l3 : Int32) (l4 : Int32) (l5 : Int32) (h : jH), 400 - l5.toInt < R14 → 0 ≤ l1.toInt ∧ l1.toInt ≤ 3 → 0 ≤ l2.toInt ∧ l2.toInt ≤ 399 → 0 ≤ l3.toInt ∧ l3.toInt ≤ 40 → 0 ≤ l4.toInt ∧ l4.toInt ≤ 39 → 0 ≤ l5.toInt ∧ l5.toInt ≤ 400 → jJ jSgM Dy h → jSm fp_X12_findTurns_r125d h0 h → K14 l1.toInt l2.toInt l3.toInt l4.toInt l5.toInt (vw h) = dr → jX m_X12_findTurns 11 0 0 14 [(0, .ref 125), (1, .int l1), (2, .int l2), (3, .int l3), (4, .int l4), (5, .int l5)] [] h 0 0 Q) (k72 : ∀ (l1 : Int32) (l2 : Int32) (l3 : Int32) (l4 : Int32) (l5 : Int32) (l6 : Int32) (l7 : Int32) (l8 : Int32) (g0 : Int32) (h : jH), 40 - l8.toInt < R72 → 0 ≤ l1.toInt ∧ l1.toInt ≤ 3 → 0 ≤ l2.toInt ∧ l2.toInt ≤ 399 → 0 ≤ l3.toInt ∧ l3.toInt ≤ 40 → 0 ≤ l4.toInt ∧ l4.toInt ≤ 39 → 0 ≤ l5.toInt ∧ l5.toInt ≤ 399 → 0 ≤ l6.toInt ∧ l6.toInt ≤ 146034 → l6.toInt % 366 = 0 → 0 ≤ l7.toInt ∧ l7.toInt ≤ 359 → 0 ≤ l8.toInt ∧ l8.toInt ≤ 40 → (-1) ≤ g0.toInt ∧ g0.toInt ≤ 39 → jTc l7 h → (g0.toInt = -1 ∨ 1 ≤ l3.toInt) → jiv h 168 l5.toNatClampNeg = g0 → 400 - l5.toInt ≤ R14 → jJ jSgM Dy h → jSm fp_X12_findTurns_r125d h0 h → K72 l1.toInt l2.toInt l3.toInt l4.toInt l5.toInt l6.toInt l7.toInt l8.toInt (vw h) = dr → jX m_X12_findTurns 11 0 0 72 [(0, .ref 125), (1, .int l1), (2, .int l2), (3, .int l3), (4, .int l4), (5, .int l5), (6, .int l6), (7, .int l7), (8, .int l8)] [] h 0 0 Q) : ∀ (l1 : Int32) (l2 : Int32) (l3 : Int32) (l4 : Int32) (l5 : Int32) (l6 : Int32) (l7 : Int32) (l8 : Int32) (g0 : Int32) (h : jH), 0 ≤ l1.toInt ∧ l1.toInt ≤ 3 → 0 ≤ l2.toInt ∧ l2.toInt ≤ 399 → 1 ≤ l3.toInt ∧ l3.toInt ≤ 40 → 0 ≤ l4.toInt ∧ l4.toInt ≤ 39 → 0 ≤ l5.toInt ∧ l5.toInt ≤ 399 → 0 ≤ l6.toInt ∧ l6.toInt ≤ 146034 → l6.toInt % 366 = 0 → 0 ≤ l7.toInt ∧ l7.toInt ≤ 359 → 0 ≤ l8.toInt ∧ l8.toInt ≤ 39 → (-1) ≤ g0.toInt ∧ g0.toInt ≤ 39 → jTc l7 h → (g0.toInt = -1 ∨ 1 ≤ l3.toInt) → jiv h 168 l5.toNatClampNeg = g0 → 400 - l5.toInt ≤ R14 → 40 - l8.toInt ≤ R72 → jJ jSgM Dy h → jSm fp_X12_findTurns_r125d h0 h → d_X12_findTurns_r125d_216 K14 K72  l1.toInt l2.toInt l3.toInt l4.toInt l5.toInt l6.toInt l7.toInt l8.toInt (vw h) = dr → jX m_X12_findTurns 11 0 0 216 [(0, .ref 125), (1, .int l1), (2, .int l2), (3, .int l3), (4, .int l4), (5, .int l5), (6, .int l6), (7, .int l7), (8, .int l8)] [] h 0 0 Q := by
  intro l1 l2 l3 l4 l5 l6 l7 l8 g0 h y0 y1 y2 y3 y4 y5 y6 y7 y8 y9 C0 y11 z0 m14 m72 J Sm D
  unfold d_X12_findTurns_r125d_216 at D
  refine z_iinc (x := l8) (lsx9 := fun v1 => [(8, .int v1), (0, .ref 125), (1, .int l1), (2, .int l2), (3, .int l3), (4, .int l4), (5, .int l5), (6, .int l6), (7, .int l7)]) rfl rfl rfl jko_1 (by omega) rfl (fun _ => rfl) (fun v1 ev1 => ?_)
  refine x_goto (tgt := 72) rfl rfl ?_
  try rw [show (l8.toInt + 1) = v1.toInt from by omega] at D
  exact jX.sub (jsb_c rfl (jsb_c rfl (jsb_c rfl (jsb_c rfl (jsb_c rfl (jsb_c rfl (jsb_c rfl (jsb_c rfl (jsb_c rfl jsb_n))))))))) (k72 l1 l2 l3 l4 l5 l6 l7 v1 g0 h (by omega) (jr_of rfl (by omega)) (jr_of rfl (by omega)) (jr_of rfl (by omega)) (jr_of rfl (by omega)) (jr_of rfl (by omega)) (jr_of rfl (by omega)) (jr_mod rfl (by omega)) (jr_of rfl (by omega)) (jr_of rfl (by omega)) (jr_of rfl (by omega)) C0 (by omega) z0 (by omega) J Sm D)
set_option maxRecDepth 100000 in
set_option maxHeartbeats 4000000 in
theorem ct_X12_findTurns_r125d_300186 {Dy : jH → Prop} {h0 : jH} {Q : Option Value → jH → Prop} {dr : jW} {K14 : Int → Int → Int → Int → Int → jW → jW} {K72 : Int → Int → Int → Int → Int → Int → Int → Int → jW → jW} {R14 : Int} {R72 : Int} (hD : jDk Dy) (hQ : ∀ hx9, jJ jSgM Dy hx9 → jSm fp_X12_findTurns_r125d h0 hx9 → dr = vw hx9 → Q none hx9) (k14 : ∀ (l1 : Int32) (l2 : Int32) (l3 : Int32) (l4 : Int32) (l5 : Int32) (h : jH), 400 - l5.toInt < R14 → 0 ≤ l1.toInt ∧ l1.toInt ≤ 3 → 0 ≤ l2.toInt ∧ l2.toInt ≤ 399 → 0 ≤ l3.toInt ∧ l3.toInt ≤ 40 → 0 ≤ l4.toInt ∧ l4.toInt ≤ 39 → 0 ≤ l5.toInt ∧ l5.toInt ≤ 400 → jJ jSgM Dy h → jSm fp_X12_findTurns_r125d h0 h → K14 l1.toInt l2.toInt l3.toInt l4.toInt l5.toInt (vw h) = dr → jX m_X12_findTurns 11 0 0 14 [(0, .ref 125), (1, .int l1), (2, .int l2), (3, .int l3), (4, .int l4), (5, .int l5)] [] h 0 0 Q) (k72 : ∀ (l1 : Int32) (l2 : Int32) (l3 : Int32) (l4 : Int32) (l5 : Int32) (l6 : Int32) (l7 : Int32) (l8 : Int32) (g0 : Int32) (h : jH), 40 - l8.toInt < R72 → 0 ≤ l1.toInt ∧ l1.toInt ≤ 3 → 0 ≤ l2.toInt ∧ l2.toInt ≤ 399 → 0 ≤ l3.toInt ∧ l3.toInt ≤ 40 → 0 ≤ l4.toInt ∧ l4.toInt ≤ 39 → 0 ≤ l5.toInt ∧ l5.toInt ≤ 399 → 0 ≤ l6.toInt ∧ l6.toInt ≤ 146034 → l6.toInt % 366 = 0 → 0 ≤ l7.toInt ∧ l7.toInt ≤ 359 → 0 ≤ l8.toInt ∧ l8.toInt ≤ 40 → (-1) ≤ g0.toInt ∧ g0.toInt ≤ 39 → jTc l7 h → (g0.toInt = -1 ∨ 1 ≤ l3.toInt) → jiv h 168 l5.toNatClampNeg = g0 → 400 - l5.toInt ≤ R14 → jJ jSgM Dy h → jSm fp_X12_findTurns_r125d h0 h → K72 l1.toInt l2.toInt l3.toInt l4.toInt l5.toInt l6.toInt l7.toInt l8.toInt (vw h) = dr → jX m_X12_findTurns 11 0 0 72 [(0, .ref 125), (1, .int l1), (2, .int l2), (3, .int l3), (4, .int l4), (5, .int l5), (6, .int l6), (7, .int l7), (8, .int l8)] [] h 0 0 Q) : ∀ (l1 : Int32) (l2 : Int32) (l3 : Int32) (l4 : Int32) (l5 : Int32) (l6 : Int32) (l7 : Int32) (l8 : Int32) (l9 : Int32) (g0 : Int32) (h : jH), 0 ≤ l1.toInt ∧ l1.toInt ≤ 3 → 0 ≤ l2.toInt ∧ l2.toInt ≤ 399 → 1 ≤ l3.toInt ∧ l3.toInt ≤ 40 → 0 ≤ l4.toInt ∧ l4.toInt ≤ 39 → 0 ≤ l5.toInt ∧ l5.toInt ≤ 399 → 0 ≤ l6.toInt ∧ l6.toInt ≤ 146034 → l6.toInt % 366 = 0 → 0 ≤ l7.toInt ∧ l7.toInt ≤ 359 → 0 ≤ l8.toInt ∧ l8.toInt ≤ 39 → 0 ≤ l9.toInt ∧ l9.toInt ≤ 39 → (-1) ≤ g0.toInt ∧ g0.toInt ≤ (-1) → jTc l7 h → (g0.toInt = -1 ∨ 1 ≤ l3.toInt) → jiv h 168 l5.toNatClampNeg = g0 → 400 - l5.toInt ≤ R14 → 40 - l8.toInt ≤ R72 → jJ jSgM Dy h → jSm fp_X12_findTurns_r125d h0 h → d_X12_findTurns_r125d_300186 K14 K72  l1.toInt l2.toInt l3.toInt l4.toInt l5.toInt l6.toInt l7.toInt l8.toInt l9.toInt (vw h) = dr → jX m_X12_findTurns 11 0 0 186 [(0, .ref 125), (1, .int l1), (2, .int l2), (3, .int l3), (4, .int l4), (5, .int l5), (6, .int l6), (7, .int l7), (8, .int l8), (9, .int l9)] [.int 1] h 0 0 Q := by
  intro l1 l2 l3 l4 l5 l6 l7 l8 l9 g0 h y0 y1 y2 y3 y4 y5 y6 y7 y8 y9 y10 C0 y12 z0 m14 m72 J Sm D
  unfold d_X12_findTurns_r125d_300186 at D
  refine x_istore (lsx9 := [(11, .int 1), (0, .ref 125), (1, .int l1), (2, .int l2), (3, .int l3), (4, .int l4), (5, .int l5), (6, .int l6), (7, .int l7), (8, .int l8), (9, .int l9)]) rfl rfl rfl ?_
  refine x_iload (x := 1) rfl rfl ?_
  refine x_ifeq (tgt := 205) rfl rfl (ti_eq jk_1 jk_0 (br_f (by omega) ?_))
  refine x_aloadn (x := 125) rfl rfl ?_
  refine z_getR (N := 92) (b := 168) 12 83 rfl f_12_162 rfl J rfl 16083 ⟨rfl, rfl⟩ rfl ?_
  refine x_iload (x := l5) rfl rfl ?_
  refine x_iload (x := l9) rfl rfl ?_
  refine z_iast (N := 400) (l := 0) (u := 400) (w := l9.toInt) rfl hD J Sm rfl rfl rfl (by omega) rfl (wr_168 (fun q1 q2 q3 q4 => by omega)) rfl (fun h w1 J Sm => ?_)
  rw [vww w1 (show l5.toInt = l5.toInt from by omega) (show l9.toInt = l9.toInt from by omega)] at D
  refine x_goto (tgt := 216) rfl rfl ?_
  exact jX.sub (jsb_c rfl (jsb_c rfl (jsb_c rfl (jsb_c rfl (jsb_c rfl (jsb_c rfl (jsb_c rfl (jsb_c rfl (jsb_c rfl jsb_n))))))))) (ct_X12_findTurns_r125d_216 hD hQ k14 k72 l1 l2 l3 l4 l5 l6 l7 l8 l9 h (jr_of rfl (by omega)) (jr_of rfl (by omega)) (jr_of rfl (by omega)) (jr_of rfl (by omega)) (jr_of rfl (by omega)) (jr_of rfl (by omega)) (jr_mod rfl (by omega)) (jr_of rfl (by omega)) (jr_of rfl (by omega)) (jr_of rfl (by omega)) (jtc_e (jeq_o w1 rfl jeq_0) C0) (by omega) (jmw w1) (by omega) (by omega) J Sm D)
set_option maxRecDepth 100000 in
set_option maxHeartbeats 4000000 in
theorem ct_X12_findTurns_r125d_200186 {Dy : jH → Prop} {h0 : jH} {Q : Option Value → jH → Prop} {dr : jW} {K14 : Int → Int → Int → Int → Int → jW → jW} {K72 : Int → Int → Int → Int → Int → Int → Int → Int → jW → jW} {R14 : Int} {R72 : Int} (hD : jDk Dy) (hQ : ∀ hx9, jJ jSgM Dy hx9 → jSm fp_X12_findTurns_r125d h0 hx9 → dr = vw hx9 → Q none hx9) (k14 : ∀ (l1 : Int32) (l2 : Int32) (l3 : Int32) (l4 : Int32) (l5 : Int32) (h : jH), 400 - l5.toInt < R14 → 0 ≤ l1.toInt ∧ l1.toInt ≤ 3 → 0 ≤ l2.toInt ∧ l2.toInt ≤ 399 → 0 ≤ l3.toInt ∧ l3.toInt ≤ 40 → 0 ≤ l4.toInt ∧ l4.toInt ≤ 39 → 0 ≤ l5.toInt ∧ l5.toInt ≤ 400 → jJ jSgM Dy h → jSm fp_X12_findTurns_r125d h0 h → K14 l1.toInt l2.toInt l3.toInt l4.toInt l5.toInt (vw h) = dr → jX m_X12_findTurns 11 0 0 14 [(0, .ref 125), (1, .int l1), (2, .int l2), (3, .int l3), (4, .int l4), (5, .int l5)] [] h 0 0 Q) (k72 : ∀ (l1 : Int32) (l2 : Int32) (l3 : Int32) (l4 : Int32) (l5 : Int32) (l6 : Int32) (l7 : Int32) (l8 : Int32) (g0 : Int32) (h : jH), 40 - l8.toInt < R72 → 0 ≤ l1.toInt ∧ l1.toInt ≤ 3 → 0 ≤ l2.toInt ∧ l2.toInt ≤ 399 → 0 ≤ l3.toInt ∧ l3.toInt ≤ 40 → 0 ≤ l4.toInt ∧ l4.toInt ≤ 39 → 0 ≤ l5.toInt ∧ l5.toInt ≤ 399 → 0 ≤ l6.toInt ∧ l6.toInt ≤ 146034 → l6.toInt % 366 = 0 → 0 ≤ l7.toInt ∧ l7.toInt ≤ 359 → 0 ≤ l8.toInt ∧ l8.toInt ≤ 40 → (-1) ≤ g0.toInt ∧ g0.toInt ≤ 39 → jTc l7 h → (g0.toInt = -1 ∨ 1 ≤ l3.toInt) → jiv h 168 l5.toNatClampNeg = g0 → 400 - l5.toInt ≤ R14 → jJ jSgM Dy h → jSm fp_X12_findTurns_r125d h0 h → K72 l1.toInt l2.toInt l3.toInt l4.toInt l5.toInt l6.toInt l7.toInt l8.toInt (vw h) = dr → jX m_X12_findTurns 11 0 0 72 [(0, .ref 125), (1, .int l1), (2, .int l2), (3, .int l3), (4, .int l4), (5, .int l5), (6, .int l6), (7, .int l7), (8, .int l8)] [] h 0 0 Q) : ∀ (l1 : Int32) (l2 : Int32) (l3 : Int32) (l4 : Int32) (l5 : Int32) (l6 : Int32) (l7 : Int32) (l8 : Int32) (l9 : Int32) (g0 : Int32) (h : jH), 0 ≤ l1.toInt ∧ l1.toInt ≤ 3 → 0 ≤ l2.toInt ∧ l2.toInt ≤ 399 → 1 ≤ l3.toInt ∧ l3.toInt ≤ 40 → 0 ≤ l4.toInt ∧ l4.toInt ≤ 39 → 0 ≤ l5.toInt ∧ l5.toInt ≤ 399 → 0 ≤ l6.toInt ∧ l6.toInt ≤ 146034 → l6.toInt % 366 = 0 → 0 ≤ l7.toInt ∧ l7.toInt ≤ 359 → 0 ≤ l8.toInt ∧ l8.toInt ≤ 39 → 0 ≤ l9.toInt ∧ l9.toInt ≤ 39 → (-1) ≤ g0.toInt ∧ g0.toInt ≤ (-1) → jTc l7 h → (g0.toInt = -1 ∨ 1 ≤ l3.toInt) → jiv h 168 l5.toNatClampNeg = g0 → 400 - l5.toInt ≤ R14 → 40 - l8.toInt ≤ R72 → jJ jSgM Dy h → jSm fp_X12_findTurns_r125d h0 h → d_X12_findTurns_r125d_200186 K14 K72  l1.toInt l2.toInt l3.toInt l4.toInt l5.toInt l6.toInt l7.toInt l8.toInt l9.toInt (vw h) = dr → jX m_X12_findTurns 11 0 0 186 [(0, .ref 125), (1, .int l1), (2, .int l2), (3, .int l3), (4, .int l4), (5, .int l5), (6, .int l6), (7, .int l7), (8, .int l8), (9, .int l9)] [.int 0] h 0 0 Q := by
  intro l1 l2 l3 l4 l5 l6 l7 l8 l9 g0 h y0 y1 y2 y3 y4 y5 y6 y7 y8 y9 y10 C0 y12 z0 m14 m72 J Sm D
  unfold d_X12_findTurns_r125d_200186 at D
  refine x_istore (lsx9 := [(11, .int 0), (0, .ref 125), (1, .int l1), (2, .int l2), (3, .int l3), (4, .int l4), (5, .int l5), (6, .int l6), (7, .int l7), (8, .int l8), (9, .int l9)]) rfl rfl rfl ?_
  refine x_iload (x := 0) rfl rfl ?_
  refine x_ifeq (tgt := 205) rfl rfl (ti_eq jk_0 jk_0 (br_t (by omega) ?_))
  refine x_aloadn (x := 125) rfl rfl ?_
  refine z_getR (N := 92) (b := 169) 12 84 rfl f_12_165 rfl J rfl 16084 ⟨rfl, rfl⟩ rfl ?_
  refine x_iload (x := l5) rfl rfl ?_
  refine x_dup2 rfl rfl rfl ?_
  refine z_iald0 (N := 400) rfl J rfl rfl (by omega) (fun v1 qv1 => ?_)
  have ev1 := jfull v1
  try rw [vrd qv1 (show l5.toInt = l5.toInt from by omega)] at D
  refine x_iconst (v := 1) rfl ki_1 ?_
  refine z_iaddW rfl rfl jk_1 (fun v2 ev2 => ?_)
  have fv2 := jfull v2
  try rw [← ev2] at D
  refine z_iast (N := 400) (l := 0) (u := 400) (w := v2.toInt) rfl hD J Sm rfl rfl rfl (by omega) rfl (wr_169) rfl (fun h w3 J Sm => ?_)
  rw [vww w3 (show l5.toInt = l5.toInt from by omega) (show v2.toInt = v2.toInt from by omega)] at D
  exact jX.sub (jsb_c rfl (jsb_c rfl (jsb_c rfl (jsb_c rfl (jsb_c rfl (jsb_c rfl (jsb_c rfl (jsb_c rfl (jsb_c rfl jsb_n))))))))) (ct_X12_findTurns_r125d_216 hD hQ k14 k72 l1 l2 l3 l4 l5 l6 l7 l8 g0 h (jr_of rfl (by omega)) (jr_of rfl (by omega)) (jr_of rfl (by omega)) (jr_of rfl (by omega)) (jr_of rfl (by omega)) (jr_of rfl (by omega)) (jr_mod rfl (by omega)) (jr_of rfl (by omega)) (jr_of rfl (by omega)) (jr_of rfl (by omega)) (jtc_e (jeq_o w3 rfl jeq_0) C0) (by omega) (jmo w3 rfl z0) (by omega) (by omega) J Sm D)
set_option maxRecDepth 100000 in
set_option maxHeartbeats 4000000 in
theorem ct_X12_findTurns_r125d_185 {Dy : jH → Prop} {h0 : jH} {Q : Option Value → jH → Prop} {dr : jW} {K14 : Int → Int → Int → Int → Int → jW → jW} {K72 : Int → Int → Int → Int → Int → Int → Int → Int → jW → jW} {R14 : Int} {R72 : Int} (hD : jDk Dy) (hQ : ∀ hx9, jJ jSgM Dy hx9 → jSm fp_X12_findTurns_r125d h0 hx9 → dr = vw hx9 → Q none hx9) (k14 : ∀ (l1 : Int32) (l2 : Int32) (l3 : Int32) (l4 : Int32) (l5 : Int32) (h : jH), 400 - l5.toInt < R14 → 0 ≤ l1.toInt ∧ l1.toInt ≤ 3 → 0 ≤ l2.toInt ∧ l2.toInt ≤ 399 → 0 ≤ l3.toInt ∧ l3.toInt ≤ 40 → 0 ≤ l4.toInt ∧ l4.toInt ≤ 39 → 0 ≤ l5.toInt ∧ l5.toInt ≤ 400 → jJ jSgM Dy h → jSm fp_X12_findTurns_r125d h0 h → K14 l1.toInt l2.toInt l3.toInt l4.toInt l5.toInt (vw h) = dr → jX m_X12_findTurns 11 0 0 14 [(0, .ref 125), (1, .int l1), (2, .int l2), (3, .int l3), (4, .int l4), (5, .int l5)] [] h 0 0 Q) (k72 : ∀ (l1 : Int32) (l2 : Int32) (l3 : Int32) (l4 : Int32) (l5 : Int32) (l6 : Int32) (l7 : Int32) (l8 : Int32) (g0 : Int32) (h : jH), 40 - l8.toInt < R72 → 0 ≤ l1.toInt ∧ l1.toInt ≤ 3 → 0 ≤ l2.toInt ∧ l2.toInt ≤ 399 → 0 ≤ l3.toInt ∧ l3.toInt ≤ 40 → 0 ≤ l4.toInt ∧ l4.toInt ≤ 39 → 0 ≤ l5.toInt ∧ l5.toInt ≤ 399 → 0 ≤ l6.toInt ∧ l6.toInt ≤ 146034 → l6.toInt % 366 = 0 → 0 ≤ l7.toInt ∧ l7.toInt ≤ 359 → 0 ≤ l8.toInt ∧ l8.toInt ≤ 40 → (-1) ≤ g0.toInt ∧ g0.toInt ≤ 39 → jTc l7 h → (g0.toInt = -1 ∨ 1 ≤ l3.toInt) → jiv h 168 l5.toNatClampNeg = g0 → 400 - l5.toInt ≤ R14 → jJ jSgM Dy h → jSm fp_X12_findTurns_r125d h0 h → K72 l1.toInt l2.toInt l3.toInt l4.toInt l5.toInt l6.toInt l7.toInt l8.toInt (vw h) = dr → jX m_X12_findTurns 11 0 0 72 [(0, .ref 125), (1, .int l1), (2, .int l2), (3, .int l3), (4, .int l4), (5, .int l5), (6, .int l6), (7, .int l7), (8, .int l8)] [] h 0 0 Q) : ∀ (l1 : Int32) (l2 : Int32) (l3 : Int32) (l4 : Int32) (l5 : Int32) (l6 : Int32) (l7 : Int32) (l8 : Int32) (l9 : Int32) (g0 : Int32) (h : jH), 0 ≤ l1.toInt ∧ l1.toInt ≤ 3 → 0 ≤ l2.toInt ∧ l2.toInt ≤ 399 → 1 ≤ l3.toInt ∧ l3.toInt ≤ 40 → 0 ≤ l4.toInt ∧ l4.toInt ≤ 39 → 0 ≤ l5.toInt ∧ l5.toInt ≤ 399 → 0 ≤ l6.toInt ∧ l6.toInt ≤ 146034 → l6.toInt % 366 = 0 → 0 ≤ l7.toInt ∧ l7.toInt ≤ 359 → 0 ≤ l8.toInt ∧ l8.toInt ≤ 39 → 0 ≤ l9.toInt ∧ l9.toInt ≤ 39 → (-1) ≤ g0.toInt ∧ g0.toInt ≤ (-1) → jTc l7 h → (g0.toInt = -1 ∨ 1 ≤ l3.toInt) → jiv h 168 l5.toNatClampNeg = g0 → 400 - l5.toInt ≤ R14 → 40 - l8.toInt ≤ R72 → jJ jSgM Dy h → jSm fp_X12_findTurns_r125d h0 h → d_X12_findTurns_r125d_185 K14 K72  l1.toInt l2.toInt l3.toInt l4.toInt l5.toInt l6.toInt l7.toInt l8.toInt l9.toInt (vw h) = dr → jX m_X12_findTurns 11 0 0 185 [(0, .ref 125), (1, .int l1), (2, .int l2), (3, .int l3), (4, .int l4), (5, .int l5), (6, .int l6), (7, .int l7), (8, .int l8), (9, .int l9)] [] h 0 0 Q := by
  intro l1 l2 l3 l4 l5 l6 l7 l8 l9 g0 h y0 y1 y2 y3 y4 y5 y6 y7 y8 y9 y10 C0 y12 z0 m14 m72 J Sm D
  unfold d_X12_findTurns_r125d_185 at D
  refine x_iconst (v := 0) rfl ki_0 ?_
  exact jX.sub (jsb_c rfl (jsb_c rfl (jsb_c rfl (jsb_c rfl (jsb_c rfl (jsb_c rfl (jsb_c rfl (jsb_c rfl (jsb_c rfl (jsb_c rfl jsb_n)))))))))) (ct_X12_findTurns_r125d_200186 hD hQ k14 k72 l1 l2 l3 l4 l5 l6 l7 l8 l9 g0 h (jr_of rfl (by omega)) (jr_of rfl (by omega)) (jr_of rfl (by omega)) (jr_of rfl (by omega)) (jr_of rfl (by omega)) (jr_of rfl (by omega)) (jr_mod rfl (by omega)) (jr_of rfl (by omega)) (jr_of rfl (by omega)) (jr_of rfl (by omega)) (jr_of rfl (by omega)) C0 (by omega) z0 (by omega) (by omega) J Sm D)
set_option maxRecDepth 100000 in
set_option maxHeartbeats 4000000 in
theorem ct_X12_findTurns_r125d_72 {Dy : jH → Prop} {h0 : jH} {Q : Option Value → jH → Prop} {dr : jW} {K14 : Int → Int → Int → Int → Int → jW → jW} {R14 : Int} (hD : jDk Dy) (hQ : ∀ hx9, jJ jSgM Dy hx9 → jSm fp_X12_findTurns_r125d h0 hx9 → dr = vw hx9 → Q none hx9) (k14 : ∀ (l1 : Int32) (l2 : Int32) (l3 : Int32) (l4 : Int32) (l5 : Int32) (h : jH), 400 - l5.toInt < R14 → 0 ≤ l1.toInt ∧ l1.toInt ≤ 3 → 0 ≤ l2.toInt ∧ l2.toInt ≤ 399 → 0 ≤ l3.toInt ∧ l3.toInt ≤ 40 → 0 ≤ l4.toInt ∧ l4.toInt ≤ 39 → 0 ≤ l5.toInt ∧ l5.toInt ≤ 400 → jJ jSgM Dy h → jSm fp_X12_findTurns_r125d h0 h → K14 l1.toInt l2.toInt l3.toInt l4.toInt l5.toInt (vw h) = dr → jX m_X12_findTurns 11 0 0 14 [(0, .ref 125), (1, .int l1), (2, .int l2), (3, .int l3), (4, .int l4), (5, .int l5)] [] h 0 0 Q) : ∀ r : Nat, ∀ (l1 : Int32) (l2 : Int32) (l3 : Int32) (l4 : Int32) (l5 : Int32) (l6 : Int32) (l7 : Int32) (l8 : Int32) (g0 : Int32) (h : jH), 40 - l8.toInt < (r : Int) → 0 ≤ l1.toInt ∧ l1.toInt ≤ 3 → 0 ≤ l2.toInt ∧ l2.toInt ≤ 399 → 0 ≤ l3.toInt ∧ l3.toInt ≤ 40 → 0 ≤ l4.toInt ∧ l4.toInt ≤ 39 → 0 ≤ l5.toInt ∧ l5.toInt ≤ 399 → 0 ≤ l6.toInt ∧ l6.toInt ≤ 146034 → l6.toInt % 366 = 0 → 0 ≤ l7.toInt ∧ l7.toInt ≤ 359 → 0 ≤ l8.toInt ∧ l8.toInt ≤ 40 → (-1) ≤ g0.toInt ∧ g0.toInt ≤ 39 → jTc l7 h → (g0.toInt = -1 ∨ 1 ≤ l3.toInt) → jiv h 168 l5.toNatClampNeg = g0 → 400 - l5.toInt ≤ R14 → jJ jSgM Dy h → jSm fp_X12_findTurns_r125d h0 h → d_X12_findTurns_r125d_72 K14 r l1.toInt l2.toInt l3.toInt l4.toInt l5.toInt l6.toInt l7.toInt l8.toInt (vw h) = dr → jX m_X12_findTurns 11 0 0 72 [(0, .ref 125), (1, .int l1), (2, .int l2), (3, .int l3), (4, .int l4), (5, .int l5), (6, .int l6), (7, .int l7), (8, .int l8)] [] h 0 0 Q := by
  intro r
  induction r with
  | zero =>
    intro l1 l2 l3 l4 l5 l6 l7 l8 g0 h hm y0 y1 y2 y3 y4 y5 y6 y7 y8 y9 C0 y11 z0 m14 J Sm D
    exfalso
    omega
  | succ r ih =>
    intro l1 l2 l3 l4 l5 l6 l7 l8 g0 h hm y0 y1 y2 y3 y4 y5 y6 y7 y8 y9 C0 y11 z0 m14 J Sm D
    rw [d_X12_findTurns_r125d_72.eq_2] at D
    refine x_iload (x := l8) rfl rfl ?_
    refine x_iloadn (x := l3) rfl rfl ?_
    refine x_icge (tgt := 222) rfl rfl (ti_ge rfl rfl ⟨fun c1 => ?_, fun c1 => ?_⟩)
    ·
      rw [if_pos (by omega)] at D
      exact jX.sub (jsb_c rfl (jsb_c rfl (jsb_c rfl (jsb_c rfl (jsb_c rfl (jsb_c rfl jsb_n)))))) (ct_X12_findTurns_r125d_222 hD hQ k14 l1 l2 l3 l4 l5 g0 h (jr_of rfl (by omega)) (jr_of rfl (by omega)) (jr_of rfl (by omega)) (jr_of rfl (by omega)) (jr_of rfl (by omega)) (jr_of rfl (by omega)) (by omega) z0 (by omega) J Sm D)
    ·
      rw [if_neg (by omega)] at D
      refine x_aloadn (x := 125) rfl rfl ?_
      refine z_getR (N := 92) (b := 168) 12 83 rfl f_12_162 rfl J rfl 16083 ⟨rfl, rfl⟩ rfl ?_
      refine x_iload (x := l5) rfl rfl ?_
      refine z_ialdM (N := 400) (v := g0) rfl J rfl rfl (by omega) z0 ?_
      try rw [vrd z0 (show l5.toInt = l5.toInt from by omega)] at D
      refine x_iconst (v := (-1)) rfl ki_m1 ?_
      refine x_icne (tgt := 222) rfl rfl (ti_ne rfl jk_m1 ⟨fun c2 => ?_, fun c2 => ?_⟩)
      ·
        rw [if_neg (by omega)] at D
        exact jX.sub (jsb_c rfl (jsb_c rfl (jsb_c rfl (jsb_c rfl (jsb_c rfl (jsb_c rfl jsb_n)))))) (ct_X12_findTurns_r125d_222 hD hQ k14 l1 l2 l3 l4 l5 g0 h (jr_of rfl (by omega)) (jr_of rfl (by omega)) (jr_of rfl (by omega)) (jr_of rfl (by omega)) (jr_of rfl (by omega)) (jr_of rfl (by omega)) (by omega) z0 (by omega) J Sm D)
      ·
        rw [if_pos (by omega)] at D
        refine x_iload (x := l4) rfl rfl ?_
        refine x_iload (x := l8) rfl rfl ?_
        refine z_iadd rfl rfl rfl (by omega) (fun v3 ev3 => ?_)
        refine x_iloadn (x := l3) rfl rfl ?_
        refine z_iremQ rfl rfl rfl (by omega) (by omega) (fun v4 ev4 => ?_)
        try rw [show (l4.toInt + l8.toInt) = v3.toInt from by omega] at D
        try rw [← ev4.1] at D
        refine x_istore (lsx9 := [(9, .int v4), (0, .ref 125), (1, .int l1), (2, .int l2), (3, .int l3), (4, .int l4), (5, .int l5), (6, .int l6), (7, .int l7), (8, .int l8)]) rfl rfl rfl ?_
        refine x_aloadn (x := 125) rfl rfl ?_
        refine z_getR (N := 92) (b := 163) 12 78 rfl f_12_147 rfl J rfl 16078 ⟨rfl, rfl⟩ rfl ?_
        refine x_bipush (v := 40) rfl kb_40 ?_
        refine x_iload (x := v4) rfl rfl ?_
        refine z_iadd rfl jk_40 rfl (by omega) (fun v5 ev5 => ?_)
        refine z_iald (N := 80) rfl J rfl sg_163_0_80_1_0_1 rfl (by omega) (fun v6 qv6 ev6 => ?_)
        try rw [vrd qv6 (show (40 + v4.toInt) = v5.toInt from by omega)] at D
        refine x_istore (lsx9 := [(10, .int v6), (9, .int v4), (0, .ref 125), (1, .int l1), (2, .int l2), (3, .int l3), (4, .int l4), (5, .int l5), (6, .int l6), (7, .int l7), (8, .int l8)]) rfl rfl rfl ?_
        refine x_iload (x := v6) rfl rfl ?_
        refine x_iconst (v := (-1)) rfl ki_m1 ?_
        refine x_iceq (tgt := 185) rfl rfl (ti_eq rfl jk_m1 ⟨fun c7 => ?_, fun c7 => ?_⟩)
        ·
          rw [if_pos (by omega)] at D
          exact jX.sub (jsb_c rfl (jsb_c rfl (jsb_c rfl (jsb_c rfl (jsb_c rfl (jsb_c rfl (jsb_c rfl (jsb_c rfl (jsb_c rfl (jsb_c rfl jsb_n)))))))))) (ct_X12_findTurns_r125d_185 hD hQ k14 ih l1 l2 l3 l4 l5 l6 l7 l8 v4 g0 h (jr_of rfl (by omega)) (jr_of rfl (by omega)) (jr_of rfl (by omega)) (jr_of rfl (by omega)) (jr_of rfl (by omega)) (jr_of rfl (by omega)) (jr_mod rfl (by omega)) (jr_of rfl (by omega)) (jr_of rfl (by omega)) (jr_of rfl (by omega)) (jr_of rfl (by omega)) C0 (by omega) z0 (by omega) (by omega) J Sm D)
        ·
          rw [if_neg (by omega)] at D
          refine x_aloadn (x := 125) rfl rfl ?_
          refine x_iload (x := v6) rfl rfl ?_
          refine x_iconst (v := 5) rfl ki_5 ?_
          refine x_iload (x := l6) rfl rfl ?_
          refine x_inv (N := m_X12_hasPart) (As := [.int v6, .int 5, .int l6]) (b := 125) (st := []) (dx9 := 10) (mc := 0) (ms := 0) (host := "") 12 rfl t_X12_hasPart ⟨Or.inl q_12_691, i_X12_hasPart.1, i_X12_hasPart.2⟩ ⟨by decide, rfl⟩ (congrArg Prod.fst (J.1.1 125 (12, 92) rfl)) rfl (by decide) rfl rfl ⟨by decide, by decide⟩ (jC.of rfl k_X12_hasPart rfl ?_)
          show jX m_X12_hasPart 10 0 0 0 [(0, .ref 125), (1, .int v6), (2, .int 5), (3, .int l6)] [] _ 0 0 _
          refine x_aloadn (x := 125) rfl rfl ?_
          refine x_iloadn (x := v6) rfl rfl ?_
          refine x_iloadn (x := 5) rfl rfl ?_
          refine x_iloadn (x := l6) rfl rfl ?_
          refine x_inv (N := m_X12_mentionOf) (As := [.int v6, .int 5, .int l6]) (b := 125) (st := []) (dx9 := 4) (mc := 0) (ms := 0) (host := "") 12 rfl t_X12_mentionOf ⟨Or.inl q_12_405, i_X12_mentionOf.1, i_X12_mentionOf.2⟩ ⟨by decide, rfl⟩ (congrArg Prod.fst (J.1.1 125 (12, 92) rfl)) rfl (by decide) rfl rfl ⟨by decide, by decide⟩ (sf_X12_mentionOf_r125d (jr_of rfl (by omega)) (jr_of jk_5 (by omega)) (jr_of rfl (by omega)) hD J rfl  (fun v11 h ev11 J S8 X9 X10 => ?_))
          have Sm := jSm_tr rfl Sm S8
          try rw [jk_5] at X9
          try rw [X9] at D
          try rw [← X10] at D
          show jX m_X12_hasPart 10 0 0 7 [(0, .ref 125), (1, .int v6), (2, .int 5), (3, .int l6)] [.int v11] _ 0 0 _
          refine x_iconst (v := (-1)) rfl ki_m1 ?_
          refine x_iceq (tgt := 15) rfl rfl (ti_eq rfl jk_m1 ⟨fun c12 => ?_, fun c12 => ?_⟩)
          ·
            rw [if_pos (by omega)] at D
            refine x_iconst (v := 0) rfl ki_0 ?_
            refine x_zret rfl rfl (by decide) ?_
            show jX m_X12_findTurns 11 0 0 125 [(10, .int v6), (9, .int v4), (0, .ref 125), (1, .int l1), (2, .int l2), (3, .int l3), (4, .int l4), (5, .int l5), (6, .int l6), (7, .int l7), (8, .int l8)] [.int 0] _ 0 0 _
            refine x_ifne (tgt := 185) rfl rfl (ti_ne jk_0 jk_0 (bn_f (by omega) ?_))
            refine x_aloadn (x := 125) rfl rfl ?_
            refine x_iload (x := v4) rfl rfl ?_
            refine x_iload (x := l5) rfl rfl ?_
            refine x_aloadn (x := 125) rfl rfl ?_
            refine z_getR (N := 92) (b := 126) 12 2 rfl f_12_8 rfl J rfl 16002 ⟨rfl, rfl⟩ rfl ?_
            refine x_aloadn (x := 125) rfl rfl ?_
            refine x_iload (x := l7) rfl rfl ?_
            refine x_bipush (v := 12) rfl kb_12 ?_
            refine z_idiv rfl rfl jk_12 (by omega) (by omega) (fun v13 ev13 => ?_)
            refine x_iload (x := l7) rfl rfl ?_
            refine x_bipush (v := 12) rfl kb_12 ?_
            refine z_irem rfl rfl jk_12 (by omega) (by omega) (fun v14 ev14 => ?_)
            refine x_inv (N := m_X12_clauseAt) (As := [.int v13, .int v14]) (b := 125) (st := [.ref 126, .int l5, .int v4, .ref 125]) (dx9 := 10) (mc := 0) (ms := 0) (host := "") 12 rfl t_X12_clauseAt ⟨Or.inl q_12_679, i_X12_clauseAt.1, i_X12_clauseAt.2⟩ ⟨by decide, rfl⟩ (congrArg Prod.fst (J.1.1 125 (12, 92) rfl)) rfl (by decide) rfl rfl ⟨by decide, by decide⟩ (jC.of rfl k_X12_clauseAt rfl ?_)
            show jX m_X12_clauseAt 10 0 0 0 [(0, .ref 125), (1, .int v13), (2, .int v14)] [] _ 0 0 _
            refine x_iloadn (x := v13) rfl rfl ?_
            refine x_inst (N := m_X12_textAt) (As := [.int v13]) (st := []) (dx9 := 9) (mc := 0) (ms := 0) (host := "") rfl t_X12_textAt ⟨Or.inl q_12_676, s_X12_textAt⟩ rfl (by decide) rfl rfl ⟨by decide, by decide⟩ (jC.of rfl k_X12_textAt rfl ?_)
            show jX m_X12_textAt 9 0 0 0 [(0, .int v13)] [] _ 0 0 _
            refine x_sipush (v := 18820) rfl ks_18820 ?_
            refine x_sipush (v := 924) rfl ks_924 ?_
            refine x_iloadn (x := v13) rfl rfl ?_
            refine z_imul rfl jk_924 rfl (by omega) (fun v15 ev15 => ?_)
            refine z_iadd rfl jk_18820 rfl (by omega) (fun v16 ev16 => ?_)
            refine x_iret rfl rfl ?_
            show jX m_X12_clauseAt 10 0 0 4 [(0, .ref 125), (1, .int v13), (2, .int v14)] [.int v16] _ 0 0 _
            refine x_iconst (v := 4) rfl ki_4 ?_
            refine z_iadd rfl rfl jk_4 (by omega) (fun v17 ev17 => ?_)
            refine x_bipush (v := 10) rfl kb_10 ?_
            refine x_iloadn (x := v14) rfl rfl ?_
            refine z_imul rfl jk_10 rfl (by omega) (fun v18 ev18 => ?_)
            refine z_iadd rfl rfl rfl (by omega) (fun v19 ev19 => ?_)
            refine x_iret rfl rfl ?_
            show jX m_X12_findTurns 11 0 0 151 [(10, .int v6), (9, .int v4), (0, .ref 125), (1, .int l1), (2, .int l2), (3, .int l3), (4, .int l4), (5, .int l5), (6, .int l6), (7, .int l7), (8, .int l8)] [.int v19, .ref 126, .int l5, .int v4, .ref 125] _ 0 0 _
            refine x_iconst (v := 2) rfl ki_2 ?_
            refine z_iadd rfl rfl jk_2 (by omega) (fun v20 ev20 => ?_)
            refine z_iald0 (N := 50660) rfl J rfl rfl (by omega) (fun v21 qv21 => ?_)
            have ev21 := jfull v21
            try rw [vrd qv21 (show ((((18820 + (924 * (l7.toInt / 12))) + 4) + (10 * (l7.toInt % 12))) + 2) = v20.toInt from by omega)] at D
            have sv21 := jwv_2 (t := l7.toInt / 12) (c := l7.toInt % 12) hD J (by omega) (by omega) ((jtc_e (jeq_c S8 rfl jeq_0) C0).resolve_left (by omega)) (by omega) qv21
            refine x_inv (N := m_X12_servedLately) (As := [.int v4, .int l5, .int v21]) (b := 125) (st := []) (dx9 := 1) (mc := 0) (ms := 0) (host := "") 12 rfl t_X12_servedLately ⟨Or.inl q_12_835, i_X12_servedLately.1, i_X12_servedLately.2⟩ ⟨by decide, rfl⟩ (congrArg Prod.fst (J.1.1 125 (12, 92) rfl)) rfl (by decide) rfl rfl ⟨by decide, by decide⟩ (sf_X12_servedLately_r125d (jr_of rfl (by omega)) (jr_of rfl (by omega)) (jr_of rfl (by omega)) hD J rfl  (fun v25 h ev25 J S22 X23 X24 => ?_))
            have Sm := jSm_tr rfl Sm S22
            try rw [X23] at D
            try rw [← X24] at D
            show jX m_X12_findTurns 11 0 0 157 [(10, .int v6), (9, .int v4), (0, .ref 125), (1, .int l1), (2, .int l2), (3, .int l3), (4, .int l4), (5, .int l5), (6, .int l6), (7, .int l7), (8, .int l8)] [.int v25] _ 0 0 _
            refine x_ifne (tgt := 185) rfl rfl (ti_ne rfl jk_0 ⟨fun c26 => ?_, fun c26 => ?_⟩)
            ·
              rw [if_neg (by omega)] at D
              exact jX.sub (jsb_c rfl (jsb_c rfl (jsb_c rfl (jsb_c rfl (jsb_c rfl (jsb_c rfl (jsb_c rfl (jsb_c rfl (jsb_c rfl (jsb_c rfl jsb_n)))))))))) (ct_X12_findTurns_r125d_185 hD hQ k14 ih l1 l2 l3 l4 l5 l6 l7 l8 v4 g0 h (jr_of rfl (by omega)) (jr_of rfl (by omega)) (jr_of rfl (by omega)) (jr_of rfl (by omega)) (jr_of rfl (by omega)) (jr_of rfl (by omega)) (jr_mod rfl (by omega)) (jr_of rfl (by omega)) (jr_of rfl (by omega)) (jr_of rfl (by omega)) (jr_of rfl (by omega)) (jtc_e (jeq_c S22 rfl (jeq_c S8 rfl jeq_0)) C0) (by omega) (jmc S22 rfl (jmc S8 rfl z0)) (by omega) (by omega) J Sm D)
            ·
              rw [if_pos (by omega)] at D
              refine x_aloadn (x := 125) rfl rfl ?_
              refine x_iload (x := l7) rfl rfl ?_
              refine x_bipush (v := 12) rfl kb_12 ?_
              refine z_idiv rfl rfl jk_12 (by omega) (by omega) (fun v27 ev27 => ?_)
              refine x_iload (x := l7) rfl rfl ?_
              refine x_bipush (v := 12) rfl kb_12 ?_
              refine z_irem rfl rfl jk_12 (by omega) (by omega) (fun v28 ev28 => ?_)
              refine x_iload (x := v6) rfl rfl ?_
              refine x_iload (x := l6) rfl rfl ?_
              try rw [show (l7.toInt / 12) = v27.toInt from by omega] at D
              try rw [show (l7.toInt % 12) = v28.toInt from by omega] at D
              refine x_inv (N := m_X12_holdsFor) (As := [.int v27, .int v28, .int v6, .int l6]) (b := 125) (st := []) (dx9 := 10) (mc := 0) (ms := 0) (host := "") 12 rfl t_X12_holdsFor ⟨Or.inl q_12_749, i_X12_holdsFor.1, i_X12_holdsFor.2⟩ ⟨by decide, rfl⟩ (congrArg Prod.fst (J.1.1 125 (12, 92) rfl)) rfl (by decide) rfl rfl ⟨by decide, by decide⟩ (sf_X12_holdsFor_r125d (jr_of rfl (by omega)) (jr_of rfl (by omega)) (jr_of rfl (by omega)) (jr_of rfl (by omega)) (jtc_h (jtc_e (jeq_c S22 rfl (jeq_c S8 rfl jeq_0)) C0) (by omega) ev27 ev28) hD J rfl  (fun v32 h ev32 J S29 X30 X31 => ?_))
              have Sm := jSm_tr rfl Sm S29
              try rw [X30] at D
              try rw [X31] at D
              show jX m_X12_findTurns 11 0 0 178 [(10, .int v6), (9, .int v4), (0, .ref 125), (1, .int l1), (2, .int l2), (3, .int l3), (4, .int l4), (5, .int l5), (6, .int l6), (7, .int l7), (8, .int l8)] [.int v32] _ 0 0 _
              refine x_ifeq (tgt := 185) rfl rfl (ti_eq rfl jk_0 ⟨fun c33 => ?_, fun c33 => ?_⟩)
              ·
                rw [if_pos (by omega)] at D
                exact jX.sub (jsb_c rfl (jsb_c rfl (jsb_c rfl (jsb_c rfl (jsb_c rfl (jsb_c rfl (jsb_c rfl (jsb_c rfl (jsb_c rfl (jsb_c rfl jsb_n)))))))))) (ct_X12_findTurns_r125d_185 hD hQ k14 ih l1 l2 l3 l4 l5 l6 l7 l8 v4 g0 h (jr_of rfl (by omega)) (jr_of rfl (by omega)) (jr_of rfl (by omega)) (jr_of rfl (by omega)) (jr_of rfl (by omega)) (jr_of rfl (by omega)) (jr_mod rfl (by omega)) (jr_of rfl (by omega)) (jr_of rfl (by omega)) (jr_of rfl (by omega)) (jr_of rfl (by omega)) (jtc_e (jeq_c S29 rfl (jeq_c S22 rfl (jeq_c S8 rfl jeq_0))) C0) (by omega) (jmc S29 rfl (jmc S22 rfl (jmc S8 rfl z0))) (by omega) (by omega) J Sm D)
              ·
                rw [if_neg (by omega)] at D
                refine x_iconst (v := 1) rfl ki_1 ?_
                refine x_goto (tgt := 186) rfl rfl ?_
                exact jX.sub (jsb_c rfl (jsb_c rfl (jsb_c rfl (jsb_c rfl (jsb_c rfl (jsb_c rfl (jsb_c rfl (jsb_c rfl (jsb_c rfl (jsb_c rfl jsb_n)))))))))) (ct_X12_findTurns_r125d_300186 hD hQ k14 ih l1 l2 l3 l4 l5 l6 l7 l8 v4 g0 h (jr_of rfl (by omega)) (jr_of rfl (by omega)) (jr_of rfl (by omega)) (jr_of rfl (by omega)) (jr_of rfl (by omega)) (jr_of rfl (by omega)) (jr_mod rfl (by omega)) (jr_of rfl (by omega)) (jr_of rfl (by omega)) (jr_of rfl (by omega)) (jr_of rfl (by omega)) (jtc_e (jeq_c S29 rfl (jeq_c S22 rfl (jeq_c S8 rfl jeq_0))) C0) (by omega) (jmc S29 rfl (jmc S22 rfl (jmc S8 rfl z0))) (by omega) (by omega) J Sm D)
          ·
            rw [if_neg (by omega)] at D
            refine x_iconst (v := 1) rfl ki_1 ?_
            refine x_goto (tgt := 16) rfl rfl ?_
            refine x_zret rfl rfl (by decide) ?_
            show jX m_X12_findTurns 11 0 0 125 [(10, .int v6), (9, .int v4), (0, .ref 125), (1, .int l1), (2, .int l2), (3, .int l3), (4, .int l4), (5, .int l5), (6, .int l6), (7, .int l7), (8, .int l8)] [.int 1] _ 0 0 _
            refine x_ifne (tgt := 185) rfl rfl (ti_ne jk_1 jk_0 (bn_t (by omega) ?_))
            exact jX.sub (jsb_c rfl (jsb_c rfl (jsb_c rfl (jsb_c rfl (jsb_c rfl (jsb_c rfl (jsb_c rfl (jsb_c rfl (jsb_c rfl (jsb_c rfl jsb_n)))))))))) (ct_X12_findTurns_r125d_185 hD hQ k14 ih l1 l2 l3 l4 l5 l6 l7 l8 v4 g0 h (jr_of rfl (by omega)) (jr_of rfl (by omega)) (jr_of rfl (by omega)) (jr_of rfl (by omega)) (jr_of rfl (by omega)) (jr_of rfl (by omega)) (jr_mod rfl (by omega)) (jr_of rfl (by omega)) (jr_of rfl (by omega)) (jr_of rfl (by omega)) (jr_of rfl (by omega)) (jtc_e (jeq_c S8 rfl jeq_0) C0) (by omega) (jmc S8 rfl z0) (by omega) (by omega) J Sm D)
