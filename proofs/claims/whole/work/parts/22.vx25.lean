def fp_X2_readWhich_r95_r9d : jFp := [(68, 2, 3), (68, 3, 4), (68, 4, 5), (68, 5, 6), (96, 0, 72)]
set_option maxRecDepth 100000 in
set_option maxHeartbeats 4000000 in
theorem sf_X2_readWhich_r95_r9d {Dy : jH → Prop} {h : jH} {Q : Option Value → jH → Prop} {dr : (Int × jW)} (hD : jDk Dy) (J : jJ jSgX Dy h) {p0 p1 : Int32} (zp0 : jiv h 68 5 = p0) (zp1 : jiv h 68 3 = p1) (rl_p0 : (p0.toInt ≠ 3 ∨ p1.toInt ≤ 399)) (D : d_X2_readWhich_r95_r9d (vw h) = dr) (hQ : ∀ (v : Int32) hx9, 0 ≤ v.toInt ∧ v.toInt ≤ 1 → jJ jSgX Dy hx9 → jSm fp_X2_readWhich_r95_r9d h hx9 → ∀ u0 u1 : Int32, jiv hx9 68 5 = u0 → jiv hx9 68 3 = u1 → (u0.toInt ≠ 3 ∨ u1.toInt ≤ 399) → dr.1 = v.toInt → dr.2 = vw hx9 → Q (some (.int v)) hx9) : jC m_X2_readWhich 5 0 0 [.ref 95, .ref 9] h Q := by
  refine jC.of rfl k_X2_readWhich rfl ?_
  have Sm := jSm_rf fp_X2_readWhich_r95_r9d h
  have ep0 := (show 0 ≤ p0.toInt ∧ p0.toInt ≤ 3 from zp0 ▸ jrg_f J sg_68_5_6_1_0_1)
  have ep1 := (show 0 ≤ p1.toInt ∧ p1.toInt ≤ 400 from zp1 ▸ jrg_f J sg_68_3_4_1_0_1)
  show jX m_X2_readWhich 5 0 0 0 [(0, .ref 95), (1, .ref 9)] [] _ 0 0 _
  unfold d_X2_readWhich_r95_r9d at D
  try rw [vrf zp0] at D
  try rw [vrf zp1] at D
  refine x_aloadn (x := 95) rfl rfl ?_
  refine z_getR (N := 6) (b := 68) 2 0 rfl f_2_30 rfl J rfl 12160 ⟨rfl, rfl⟩ rfl ?_
  refine x_aloadn (x := 9) rfl rfl ?_
  refine x_inv (N := m_X9_wordOf) (As := [.ref 9]) (b := 68) (st := []) (dx9 := 4) (mc := 0) (ms := 0) (host := "") 9 rfl t_X9_wordOf ⟨Or.inl q_2_67, i_X9_wordOf.1, i_X9_wordOf.2⟩ ⟨by decide, rfl⟩ (congrArg Prod.fst (J.1.1 68 (9, 6) rfl)) rfl (by decide) rfl rfl ⟨by decide, by decide⟩ (sf_X9_wordOf_r68_r9d  hD J rfl  (fun v4 h J S1 X2 X3 => ?_))
  have ev4 := jfull v4
  have Sm := jSm_tr rfl Sm S1
  try rw [X2] at D
  try rw [← X3] at D
  show jX m_X2_readWhich 5 0 0 8 [(0, .ref 95), (1, .ref 9)] [.int v4] _ 0 0 _
  refine x_istoren (lsx9 := [(2, .int v4), (0, .ref 95), (1, .ref 9)]) rfl rfl rfl ?_
  refine x_iloadn (x := v4) rfl rfl ?_
  refine x_iconst (v := (-1)) rfl ki_m1 ?_
  refine x_icne (tgt := 22) rfl rfl (ti_ne rfl jk_m1 ⟨fun c5 => ?_, fun c5 => ?_⟩)
  ·
    rw [if_neg (by omega)] at D
    refine x_aloadn (x := 95) rfl rfl ?_
    refine x_iconst (v := 1) rfl ki_1 ?_
    refine x_iloadn (x := v4) rfl rfl ?_
    refine x_inv (N := m_X2_note) (As := [.int 1, .int v4]) (b := 95) (st := []) (dx9 := 1) (mc := 0) (ms := 0) (host := "") 2 rfl t_X2_note ⟨Or.inl q_2_82, i_X2_note.1, i_X2_note.2⟩ ⟨by decide, rfl⟩ (congrArg Prod.fst (J.1.1 95 (2, 6) rfl)) rfl (by decide) rfl rfl ⟨by decide, by decide⟩ (sf_X2_note_r95d (jr_of jk_1 (by omega)) hD J rfl  (fun h J S6 X7 => ?_))
    have Sm := jSm_tr rfl Sm S6
    try rw [jk_1] at X7
    rw [X7] at D
    show jX m_X2_readWhich 5 0 0 28 [(2, .int v4), (0, .ref 95), (1, .ref 9)] [] _ 0 0 _
    refine x_aloadn (x := 95) rfl rfl ?_
    refine z_getR (N := 6) (b := 68) 2 0 rfl f_2_30 rfl J rfl 12160 ⟨rfl, rfl⟩ rfl ?_
    refine x_inv (N := m_X9_step) (As := []) (b := 68) (st := []) (dx9 := 2) (mc := 0) (ms := 0) (host := "") 9 rfl t_X9_step ⟨Or.inl q_2_62, i_X9_step.1, i_X9_step.2⟩ ⟨by decide, rfl⟩ (congrArg Prod.fst (J.1.1 68 (9, 6) rfl)) rfl (by decide) rfl rfl ⟨by decide, by decide⟩ (sf_X9_step_r68d  hD J (jmc S6 rfl (jmc S1 rfl zp0)) (jmc S6 rfl (jmc S1 rfl zp1)) (by omega) rfl  (fun h J S8 u9 u10 qu9 qu10 ru9 X11 => ?_))
    have Sm := jSm_tr rfl Sm S8
    rw [X11] at D
    have eu9 := (show 0 ≤ u9.toInt ∧ u9.toInt ≤ 3 from qu9 ▸ jrg_f J sg_68_5_6_1_0_1)
    try rw [vrf qu9] at D
    have eu10 := (show 0 ≤ u10.toInt ∧ u10.toInt ≤ 400 from qu10 ▸ jrg_f J sg_68_3_4_1_0_1)
    try rw [vrf qu10] at D
    show jX m_X2_readWhich 5 0 0 35 [(2, .int v4), (0, .ref 95), (1, .ref 9)] [] _ 0 0 _
    refine x_iconst (v := 1) rfl ki_1 ?_
    refine x_zret rfl rfl (by decide) ?_
    exact hQ _ _ (jr_of jk_1 (by omega)) J Sm _ _ qu9 qu10 (by omega) ((congrArg Prod.fst D).symm.trans (show 1 = (1 : Int32).toInt from by have := jk_1; omega)) (congrArg Prod.snd D).symm
  ·
    rw [if_pos (by omega)] at D
    refine x_aloadn (x := 95) rfl rfl ?_
    refine z_getR (N := 6) (b := 68) 2 0 rfl f_2_30 rfl J rfl 12160 ⟨rfl, rfl⟩ rfl ?_
    refine x_inv (N := m_X9_blame) (As := []) (b := 68) (st := []) (dx9 := 4) (mc := 0) (ms := 0) (host := "") 9 rfl t_X9_blame ⟨Or.inl q_2_59, i_X9_blame.1, i_X9_blame.2⟩ ⟨by decide, rfl⟩ (congrArg Prod.fst (J.1.1 68 (9, 6) rfl)) rfl (by decide) rfl rfl ⟨by decide, by decide⟩ (jC.of rfl k_X9_blame rfl ?_)
    show jX m_X9_blame 4 0 0 0 [(0, .ref 68)] [] _ 0 0 _
    refine x_aloadn (x := 68) rfl rfl ?_
    refine x_aloadn (x := 68) rfl rfl ?_
    refine z_getM (N := 6) (v := p1) 9 3 rfl f_9_22 rfl J rfl (jmc S1 rfl zp1) ?_
    refine z_putI (N := 6) (w := p1.toInt) 9 2 rfl f_9_19 rfl (jfin_no TX9 RX9 6 rfl rfl) hD J Sm rfl rfl rfl (pw_68_2 (by omega)) rfl (fun h w12 J Sm => ?_)
    rw [vwf w12 (show p1.toInt = p1.toInt from by omega)] at D
    refine x_iconst (v := 0) rfl ki_0 ?_
    refine x_zret rfl rfl (by decide) ?_
    show jX m_X2_readWhich 5 0 0 21 [(2, .int v4), (0, .ref 95), (1, .ref 9)] [.int 0] _ 0 0 _
    refine x_zret rfl rfl (by decide) ?_
    exact hQ _ _ (jr_of jk_0 (by omega)) J Sm _ _ (jmo w12 rfl (jmc S1 rfl zp0)) (jmo w12 rfl (jmc S1 rfl zp1)) (by omega) ((congrArg Prod.fst D).symm.trans (show 0 = (0 : Int32).toInt from by have := jk_0; omega)) (congrArg Prod.snd D).symm
def fp_X9_wordOf_r68_r12d : jFp := []
set_option maxRecDepth 100000 in
set_option maxHeartbeats 4000000 in
theorem ct_X9_wordOf_r68_r12d_110 {Dy : jH → Prop} {h0 : jH} {Q : Option Value → jH → Prop} {dr : Int} {K23 : Int → Int → Int → Int → jW → Int} {R23 : Int} (hD : jDk Dy) (hQ : ∀ (v : Int32) hx9, jJ jSgX Dy hx9 → jSm fp_X9_wordOf_r68_r12d h0 hx9 → dr = v.toInt → vw hx9 = vw h0 → Q (some (.int v)) hx9) (k23 : ∀ (l2 : Int32) (l3 : Int32) (l4 : Int32) (l5 : Int32) (g0 : Int32) (h : jH), 3 - l5.toInt < R23 → 0 ≤ l3.toInt ∧ l3.toInt ≤ 403 → 0 ≤ l4.toInt ∧ l4.toInt ≤ 1 → 0 ≤ l5.toInt ∧ l5.toInt ≤ 3 → 0 ≤ g0.toInt ∧ g0.toInt ≤ 400 → l3.toInt - l5.toInt ≤ 400 → jiv h 68 3 = g0 → jJ jSgX Dy h → jSm fp_X9_wordOf_r68_r12d h0 h → K23 l2.toInt l3.toInt l4.toInt l5.toInt (vw h) = dr → vw h = vw h0 → jX m_X9_wordOf 4 0 0 23 [(0, .ref 68), (1, .ref 12), (2, .int l2), (3, .int l3), (4, .int l4), (5, .int l5)] [] h 0 0 Q) : ∀ (l2 : Int32) (l3 : Int32) (l4 : Int32) (l5 : Int32) (g0 : Int32) (h : jH), 0 ≤ l3.toInt ∧ l3.toInt ≤ 403 → 0 ≤ l4.toInt ∧ l4.toInt ≤ 1 → 0 ≤ l5.toInt ∧ l5.toInt ≤ 2 → 0 ≤ g0.toInt ∧ g0.toInt ≤ 400 → l3.toInt - l5.toInt ≤ 401 → jiv h 68 3 = g0 → 3 - l5.toInt ≤ R23 → jJ jSgX Dy h → jSm fp_X9_wordOf_r68_r12d h0 h → d_X9_wordOf_r68_r12d_110 K23  l2.toInt l3.toInt l4.toInt l5.toInt (vw h) = dr → vw h = vw h0 → jX m_X9_wordOf 4 0 0 110 [(0, .ref 68), (1, .ref 12), (2, .int l2), (3, .int l3), (4, .int l4), (5, .int l5)] [] h 0 0 Q := by
  intro l2 l3 l4 l5 g0 h y0 y1 y2 y3 y4 z0 m23 J Sm D EV
  have el2 := jfull l2
  unfold d_X9_wordOf_r68_r12d_110 at D
  try rw [vrf z0] at D
  refine z_iinc (x := l5) (lsx9 := fun v1 => [(5, .int v1), (0, .ref 68), (1, .ref 12), (2, .int l2), (3, .int l3), (4, .int l4)]) rfl rfl rfl jko_1 (by omega) rfl (fun _ => rfl) (fun v1 ev1 => ?_)
  refine x_goto (tgt := 23) rfl rfl ?_
  try rw [show (l5.toInt + 1) = v1.toInt from by omega] at D
  exact jX.sub (jsb_c rfl (jsb_c rfl (jsb_c rfl (jsb_c rfl (jsb_c rfl (jsb_c rfl jsb_n)))))) (k23 l2 l3 l4 v1 g0 h (by omega) (jr_of rfl (by omega)) (jr_of rfl (by omega)) (jr_of rfl (by omega)) (jr_of rfl (by omega)) (by omega) z0 J Sm D EV)
set_option maxRecDepth 100000 in
set_option maxHeartbeats 4000000 in
theorem ct_X9_wordOf_r68_r12d_300105 {Dy : jH → Prop} {h0 : jH} {Q : Option Value → jH → Prop} {dr : Int} {K23 : Int → Int → Int → Int → jW → Int} {R23 : Int} (hD : jDk Dy) (hQ : ∀ (v : Int32) hx9, jJ jSgX Dy hx9 → jSm fp_X9_wordOf_r68_r12d h0 hx9 → dr = v.toInt → vw hx9 = vw h0 → Q (some (.int v)) hx9) (k23 : ∀ (l2 : Int32) (l3 : Int32) (l4 : Int32) (l5 : Int32) (g0 : Int32) (h : jH), 3 - l5.toInt < R23 → 0 ≤ l3.toInt ∧ l3.toInt ≤ 403 → 0 ≤ l4.toInt ∧ l4.toInt ≤ 1 → 0 ≤ l5.toInt ∧ l5.toInt ≤ 3 → 0 ≤ g0.toInt ∧ g0.toInt ≤ 400 → l3.toInt - l5.toInt ≤ 400 → jiv h 68 3 = g0 → jJ jSgX Dy h → jSm fp_X9_wordOf_r68_r12d h0 h → K23 l2.toInt l3.toInt l4.toInt l5.toInt (vw h) = dr → vw h = vw h0 → jX m_X9_wordOf 4 0 0 23 [(0, .ref 68), (1, .ref 12), (2, .int l2), (3, .int l3), (4, .int l4), (5, .int l5)] [] h 0 0 Q) : ∀ (l2 : Int32) (l3 : Int32) (l5 : Int32) (g0 : Int32) (h : jH), 0 ≤ l3.toInt ∧ l3.toInt ≤ 399 → 0 ≤ l5.toInt ∧ l5.toInt ≤ 2 → 0 ≤ g0.toInt ∧ g0.toInt ≤ 400 → l3.toInt - l5.toInt ≤ 400 → jiv h 68 3 = g0 → 3 - l5.toInt ≤ R23 → jJ jSgX Dy h → jSm fp_X9_wordOf_r68_r12d h0 h → d_X9_wordOf_r68_r12d_300105 K23  l2.toInt l3.toInt l5.toInt (vw h) = dr → vw h = vw h0 → jX m_X9_wordOf 4 0 0 105 [(0, .ref 68), (1, .ref 12), (2, .int l2), (3, .int l3), (5, .int l5)] [.int 1] h 0 0 Q := by
  intro l2 l3 l5 g0 h y0 y1 y2 y3 z0 m23 J Sm D EV
  have el2 := jfull l2
  unfold d_X9_wordOf_r68_r12d_300105 at D
  try rw [vrf z0] at D
  refine x_istore (lsx9 := [(4, .int 1), (0, .ref 68), (1, .ref 12), (2, .int l2), (3, .int l3), (5, .int l5)]) rfl rfl rfl ?_
  refine z_iinc (x := l3) (lsx9 := fun v1 => [(3, .int v1), (4, .int 1), (0, .ref 68), (1, .ref 12), (2, .int l2), (5, .int l5)]) rfl rfl rfl jko_1 (by omega) rfl (fun _ => rfl) (fun v1 ev1 => ?_)
  try rw [show (l3.toInt + 1) = v1.toInt from by omega] at D
  exact jX.sub (jsb_c rfl (jsb_c rfl (jsb_c rfl (jsb_c rfl (jsb_c rfl (jsb_c rfl jsb_n)))))) (ct_X9_wordOf_r68_r12d_110 hD hQ k23 l2 v1 1 l5 g0 h (jr_of rfl (by omega)) (jr_of jk_1 (by omega)) (jr_of rfl (by omega)) (jr_of rfl (by omega)) (by omega) z0 (by omega) J Sm (by rw [jk_1]; exact D) EV)
set_option maxRecDepth 100000 in
set_option maxHeartbeats 4000000 in
theorem ct_X9_wordOf_r68_r12d_200105 {Dy : jH → Prop} {h0 : jH} {Q : Option Value → jH → Prop} {dr : Int} {K23 : Int → Int → Int → Int → jW → Int} {R23 : Int} (hD : jDk Dy) (hQ : ∀ (v : Int32) hx9, jJ jSgX Dy hx9 → jSm fp_X9_wordOf_r68_r12d h0 hx9 → dr = v.toInt → vw hx9 = vw h0 → Q (some (.int v)) hx9) (k23 : ∀ (l2 : Int32) (l3 : Int32) (l4 : Int32) (l5 : Int32) (g0 : Int32) (h : jH), 3 - l5.toInt < R23 → 0 ≤ l3.toInt ∧ l3.toInt ≤ 403 → 0 ≤ l4.toInt ∧ l4.toInt ≤ 1 → 0 ≤ l5.toInt ∧ l5.toInt ≤ 3 → 0 ≤ g0.toInt ∧ g0.toInt ≤ 400 → l3.toInt - l5.toInt ≤ 400 → jiv h 68 3 = g0 → jJ jSgX Dy h → jSm fp_X9_wordOf_r68_r12d h0 h → K23 l2.toInt l3.toInt l4.toInt l5.toInt (vw h) = dr → vw h = vw h0 → jX m_X9_wordOf 4 0 0 23 [(0, .ref 68), (1, .ref 12), (2, .int l2), (3, .int l3), (4, .int l4), (5, .int l5)] [] h 0 0 Q) : ∀ (l2 : Int32) (l3 : Int32) (l5 : Int32) (g0 : Int32) (h : jH), 0 ≤ l3.toInt ∧ l3.toInt ≤ 402 → 0 ≤ l5.toInt ∧ l5.toInt ≤ 2 → 0 ≤ g0.toInt ∧ g0.toInt ≤ 400 → l3.toInt - l5.toInt ≤ 400 → jiv h 68 3 = g0 → 3 - l5.toInt ≤ R23 → jJ jSgX Dy h → jSm fp_X9_wordOf_r68_r12d h0 h → d_X9_wordOf_r68_r12d_200105 K23  l2.toInt l3.toInt l5.toInt (vw h) = dr → vw h = vw h0 → jX m_X9_wordOf 4 0 0 105 [(0, .ref 68), (1, .ref 12), (2, .int l2), (3, .int l3), (5, .int l5)] [.int 0] h 0 0 Q := by
  intro l2 l3 l5 g0 h y0 y1 y2 y3 z0 m23 J Sm D EV
  have el2 := jfull l2
  unfold d_X9_wordOf_r68_r12d_200105 at D
  try rw [vrf z0] at D
  refine x_istore (lsx9 := [(4, .int 0), (0, .ref 68), (1, .ref 12), (2, .int l2), (3, .int l3), (5, .int l5)]) rfl rfl rfl ?_
  refine z_iinc (x := l3) (lsx9 := fun v1 => [(3, .int v1), (4, .int 0), (0, .ref 68), (1, .ref 12), (2, .int l2), (5, .int l5)]) rfl rfl rfl jko_1 (by omega) rfl (fun _ => rfl) (fun v1 ev1 => ?_)
  try rw [show (l3.toInt + 1) = v1.toInt from by omega] at D
  exact jX.sub (jsb_c rfl (jsb_c rfl (jsb_c rfl (jsb_c rfl (jsb_c rfl (jsb_c rfl jsb_n)))))) (ct_X9_wordOf_r68_r12d_110 hD hQ k23 l2 v1 0 l5 g0 h (jr_of rfl (by omega)) (jr_of jk_0 (by omega)) (jr_of rfl (by omega)) (jr_of rfl (by omega)) (by omega) z0 (by omega) J Sm (by rw [jk_0]; exact D) EV)
set_option maxRecDepth 100000 in
set_option maxHeartbeats 4000000 in
theorem ct_X9_wordOf_r68_r12d_104 {Dy : jH → Prop} {h0 : jH} {Q : Option Value → jH → Prop} {dr : Int} {K23 : Int → Int → Int → Int → jW → Int} {R23 : Int} (hD : jDk Dy) (hQ : ∀ (v : Int32) hx9, jJ jSgX Dy hx9 → jSm fp_X9_wordOf_r68_r12d h0 hx9 → dr = v.toInt → vw hx9 = vw h0 → Q (some (.int v)) hx9) (k23 : ∀ (l2 : Int32) (l3 : Int32) (l4 : Int32) (l5 : Int32) (g0 : Int32) (h : jH), 3 - l5.toInt < R23 → 0 ≤ l3.toInt ∧ l3.toInt ≤ 403 → 0 ≤ l4.toInt ∧ l4.toInt ≤ 1 → 0 ≤ l5.toInt ∧ l5.toInt ≤ 3 → 0 ≤ g0.toInt ∧ g0.toInt ≤ 400 → l3.toInt - l5.toInt ≤ 400 → jiv h 68 3 = g0 → jJ jSgX Dy h → jSm fp_X9_wordOf_r68_r12d h0 h → K23 l2.toInt l3.toInt l4.toInt l5.toInt (vw h) = dr → vw h = vw h0 → jX m_X9_wordOf 4 0 0 23 [(0, .ref 68), (1, .ref 12), (2, .int l2), (3, .int l3), (4, .int l4), (5, .int l5)] [] h 0 0 Q) : ∀ (l2 : Int32) (l3 : Int32) (l5 : Int32) (g0 : Int32) (h : jH), 0 ≤ l3.toInt ∧ l3.toInt ≤ 402 → 0 ≤ l5.toInt ∧ l5.toInt ≤ 2 → 0 ≤ g0.toInt ∧ g0.toInt ≤ 400 → l3.toInt - l5.toInt ≤ 400 → jiv h 68 3 = g0 → 3 - l5.toInt ≤ R23 → jJ jSgX Dy h → jSm fp_X9_wordOf_r68_r12d h0 h → d_X9_wordOf_r68_r12d_104 K23  l2.toInt l3.toInt l5.toInt (vw h) = dr → vw h = vw h0 → jX m_X9_wordOf 4 0 0 104 [(0, .ref 68), (1, .ref 12), (2, .int l2), (3, .int l3), (5, .int l5)] [] h 0 0 Q := by
  intro l2 l3 l5 g0 h y0 y1 y2 y3 z0 m23 J Sm D EV
  have el2 := jfull l2
  unfold d_X9_wordOf_r68_r12d_104 at D
  try rw [vrf z0] at D
  refine x_iconst (v := 0) rfl ki_0 ?_
  exact jX.sub (jsb_c rfl (jsb_c rfl (jsb_c rfl (jsb_c rfl (jsb_c rfl jsb_n))))) (ct_X9_wordOf_r68_r12d_200105 hD hQ k23 l2 l3 l5 g0 h (jr_of rfl (by omega)) (jr_of rfl (by omega)) (jr_of rfl (by omega)) (by omega) z0 (by omega) J Sm D EV)
set_option maxRecDepth 100000 in
set_option maxHeartbeats 4000000 in
theorem ct_X9_wordOf_r68_r12d_62 {Dy : jH → Prop} {h0 : jH} {Q : Option Value → jH → Prop} {dr : Int} {K23 : Int → Int → Int → Int → jW → Int} {R23 : Int} (hD : jDk Dy) (hQ : ∀ (v : Int32) hx9, jJ jSgX Dy hx9 → jSm fp_X9_wordOf_r68_r12d h0 hx9 → dr = v.toInt → vw hx9 = vw h0 → Q (some (.int v)) hx9) (k23 : ∀ (l2 : Int32) (l3 : Int32) (l4 : Int32) (l5 : Int32) (g0 : Int32) (h : jH), 3 - l5.toInt < R23 → 0 ≤ l3.toInt ∧ l3.toInt ≤ 403 → 0 ≤ l4.toInt ∧ l4.toInt ≤ 1 → 0 ≤ l5.toInt ∧ l5.toInt ≤ 3 → 0 ≤ g0.toInt ∧ g0.toInt ≤ 400 → l3.toInt - l5.toInt ≤ 400 → jiv h 68 3 = g0 → jJ jSgX Dy h → jSm fp_X9_wordOf_r68_r12d h0 h → K23 l2.toInt l3.toInt l4.toInt l5.toInt (vw h) = dr → vw h = vw h0 → jX m_X9_wordOf 4 0 0 23 [(0, .ref 68), (1, .ref 12), (2, .int l2), (3, .int l3), (4, .int l4), (5, .int l5)] [] h 0 0 Q) : ∀ (l2 : Int32) (l5 : Int32) (g0 : Int32) (h : jH), 0 ≤ l5.toInt ∧ l5.toInt ≤ 2 → 0 ≤ g0.toInt ∧ g0.toInt ≤ 400 → jiv h 68 3 = g0 → 3 - l5.toInt ≤ R23 → jJ jSgX Dy h → jSm fp_X9_wordOf_r68_r12d h0 h → d_X9_wordOf_r68_r12d_62 K23  l2.toInt l5.toInt (vw h) = dr → vw h = vw h0 → jX m_X9_wordOf 4 0 0 62 [(0, .ref 68), (1, .ref 12), (2, .int l2), (5, .int l5)] [] h 0 0 Q := by
  intro l2 l5 g0 h y0 y1 z0 m23 J Sm D EV
  have el2 := jfull l2
  unfold d_X9_wordOf_r68_r12d_62 at D
  try rw [vrf z0] at D
  refine z_iincW (x := l2) (lsx9 := fun v1 => [(2, .int v1), (0, .ref 68), (1, .ref 12), (5, .int l5)]) rfl rfl rfl jko_1 rfl (fun _ => rfl) (fun v1 ev1 => ?_)
  have fv1 := jfull v1
  try rw [← ev1] at D
  refine x_aloadn (x := 68) rfl rfl ?_
  refine z_getM (N := 6) (v := g0) 9 3 rfl f_9_22 rfl J rfl z0 ?_
  refine x_istoren (lsx9 := [(3, .int g0), (2, .int v1), (0, .ref 68), (1, .ref 12), (5, .int l5)]) rfl rfl rfl ?_
  refine x_iconst (v := 1) rfl ki_1 ?_
  refine x_istore (lsx9 := [(4, .int 1), (3, .int g0), (2, .int v1), (0, .ref 68), (1, .ref 12), (5, .int l5)]) rfl rfl rfl ?_
  refine x_goto (tgt := 110) rfl rfl ?_
  exact jX.sub (jsb_c rfl (jsb_c rfl (jsb_c rfl (jsb_c rfl (jsb_c rfl (jsb_c rfl jsb_n)))))) (ct_X9_wordOf_r68_r12d_110 hD hQ k23 v1 g0 1 l5 g0 h (jr_of rfl (by omega)) (jr_of jk_1 (by omega)) (jr_of rfl (by omega)) (jr_of rfl (by omega)) (by omega) z0 (by omega) J Sm (by rw [jk_1]; exact D) EV)
set_option maxRecDepth 100000 in
set_option maxHeartbeats 4000000 in
theorem ct_X9_wordOf_r68_r12d_23 {Dy : jH → Prop} {h0 : jH} {Q : Option Value → jH → Prop} {dr : Int} (hD : jDk Dy) (hQ : ∀ (v : Int32) hx9, jJ jSgX Dy hx9 → jSm fp_X9_wordOf_r68_r12d h0 hx9 → dr = v.toInt → vw hx9 = vw h0 → Q (some (.int v)) hx9) : ∀ r : Nat, ∀ (l2 : Int32) (l3 : Int32) (l4 : Int32) (l5 : Int32) (g0 : Int32) (h : jH), 3 - l5.toInt < (r : Int) → 0 ≤ l3.toInt ∧ l3.toInt ≤ 403 → 0 ≤ l4.toInt ∧ l4.toInt ≤ 1 → 0 ≤ l5.toInt ∧ l5.toInt ≤ 3 → 0 ≤ g0.toInt ∧ g0.toInt ≤ 400 → l3.toInt - l5.toInt ≤ 400 → jiv h 68 3 = g0 → jJ jSgX Dy h → jSm fp_X9_wordOf_r68_r12d h0 h → d_X9_wordOf_r68_r12d_23 r l2.toInt l3.toInt l4.toInt l5.toInt (vw h) = dr → vw h = vw h0 → jX m_X9_wordOf 4 0 0 23 [(0, .ref 68), (1, .ref 12), (2, .int l2), (3, .int l3), (4, .int l4), (5, .int l5)] [] h 0 0 Q := by
  intro r
  induction r with
  | zero =>
    intro l2 l3 l4 l5 g0 h hm y0 y1 y2 y3 y4 z0  J Sm D EV
    exfalso
    have el2 := jfull l2
    omega
  | succ r ih =>
    intro l2 l3 l4 l5 g0 h hm y0 y1 y2 y3 y4 z0  J Sm D EV
    have el2 := jfull l2
    rw [d_X9_wordOf_r68_r12d_23.eq_2] at D
    try rw [vrf z0] at D
    refine x_iload (x := l5) rfl rfl ?_
    refine x_aloadn (x := 12) rfl rfl ?_
    refine x_invS (N := m_J0_length_8abf5) (i := 7) (As := []) (st := [.int l5]) (dx9 := 1) (by decide) rfl t_J0_length_8abf5 ⟨q_9_38, i_J0_length_8abf5.1, i_J0_length_8abf5.2⟩ rfl rfl (by decide) rfl rfl (zc_slen (N := 3) (v := 3) rfl J rfl rfl (by decide) ?_)
    show jX m_X9_wordOf 4 0 0 29 [(0, .ref 68), (1, .ref 12), (2, .int l2), (3, .int l3), (4, .int l4), (5, .int l5)] [.int 3, .int l5] _ 0 0 _
    refine x_icge (tgt := 116) rfl rfl (ti_ge rfl jk_3 ⟨fun c1 => ?_, fun c1 => ?_⟩)
    ·
      rw [if_pos (by omega)] at D
      refine x_iconst (v := (-1)) rfl ki_m1 ?_
      refine x_iret rfl rfl ?_
      exact hQ _ _ J Sm (D.symm.trans (show (-1) = ((-1) : Int32).toInt from by have := jk_m1; omega)) EV
    ·
      rw [if_neg (by omega)] at D
      refine x_aloadn (x := 12) rfl rfl ?_
      refine x_iload (x := l5) rfl rfl ?_
      refine x_invS (N := m_J0_charAt_5068e) (i := 7) (As := [.int l5]) (st := []) (dx9 := 3) (by decide) rfl t_J0_charAt_5068e ⟨q_9_43, i_J0_charAt_5068e.1, i_J0_charAt_5068e.2⟩ rfl rfl (by decide) rfl rfl (zc_scharD (N := 3) rfl J rfl rfl rfl (by omega) (fun v2 ev2 => ?_))
      try rw [← ev2.1] at D
      show jX m_X9_wordOf 4 0 0 38 [(0, .ref 68), (1, .ref 12), (2, .int l2), (3, .int l3), (4, .int l4), (5, .int l5)] [.int v2] _ 0 0 _
      refine x_istore (lsx9 := [(6, .int v2), (0, .ref 68), (1, .ref 12), (2, .int l2), (3, .int l3), (4, .int l4), (5, .int l5)]) rfl rfl rfl ?_
      refine x_iload (x := v2) rfl rfl ?_
      refine x_bipush (v := 32) rfl kb_32 ?_
      refine x_icne (tgt := 76) rfl rfl (ti_ne rfl jk_32 ⟨fun c3 => ?_, fun c3 => ?_⟩)
      ·
        rw [if_neg (by omega)] at D
        refine x_iload (x := l4) rfl rfl ?_
        refine x_ifeq (tgt := 104) rfl rfl (ti_eq rfl jk_0 ⟨fun c4 => ?_, fun c4 => ?_⟩)
        ·
          rw [if_pos (by omega)] at D
          exact jX.sub (jsb_c rfl (jsb_c rfl (jsb_c rfl (jsb_c rfl (jsb_c rfl jsb_n))))) (ct_X9_wordOf_r68_r12d_104 hD hQ ih l2 l3 l5 g0 h (jr_of rfl (by omega)) (jr_of rfl (by omega)) (jr_of rfl (by omega)) (by omega) z0 (by omega) J Sm D EV)
        ·
          rw [if_neg (by omega)] at D
          refine x_iloadn (x := l3) rfl rfl ?_
          refine x_aloadn (x := 68) rfl rfl ?_
          refine z_getI (N := 6) 9 4 rfl f_9_25 rfl J rfl sg_68_4_5_1_0_1 (fun v5 qv5 ev5 => ?_)
          try rw [vrf qv5] at D
          refine x_icge (tgt := 104) rfl rfl (ti_ge rfl rfl ⟨fun c6 => ?_, fun c6 => ?_⟩)
          ·
            rw [if_pos (by omega)] at D
            exact jX.sub (jsb_c rfl (jsb_c rfl (jsb_c rfl (jsb_c rfl (jsb_c rfl jsb_n))))) (ct_X9_wordOf_r68_r12d_104 hD hQ ih l2 l3 l5 g0 h (jr_of rfl (by omega)) (jr_of rfl (by omega)) (jr_of rfl (by omega)) (by omega) z0 (by omega) J Sm D EV)
          ·
            rw [if_neg (by omega)] at D
            refine x_aloadn (x := 68) rfl rfl ?_
            refine z_getR (N := 6) (b := 69) 9 0 rfl f_9_11 rfl J rfl 8704 ⟨rfl, rfl⟩ rfl ?_
            refine x_iloadn (x := l3) rfl rfl ?_
            refine z_iald (N := 400) rfl J rfl sg_69_0_400_1_0_1 rfl (by omega) (fun v7 qv7 ev7 => ?_)
            try rw [vrd qv7 (show l3.toInt = l3.toInt from by omega)] at D
            refine x_iload (x := v2) rfl rfl ?_
            refine x_icne (tgt := 104) rfl rfl (ti_ne rfl rfl ⟨fun c8 => ?_, fun c8 => ?_⟩)
            ·
              rw [if_neg (by omega)] at D
              exact jX.sub (jsb_c rfl (jsb_c rfl (jsb_c rfl (jsb_c rfl (jsb_c rfl jsb_n))))) (ct_X9_wordOf_r68_r12d_104 hD hQ ih l2 l3 l5 g0 h (jr_of rfl (by omega)) (jr_of rfl (by omega)) (jr_of rfl (by omega)) (by omega) z0 (by omega) J Sm D EV)
            ·
              rw [if_pos (by omega)] at D
              refine x_iconst (v := 1) rfl ki_1 ?_
              refine x_goto (tgt := 105) rfl rfl ?_
              exact jX.sub (jsb_c rfl (jsb_c rfl (jsb_c rfl (jsb_c rfl (jsb_c rfl jsb_n))))) (ct_X9_wordOf_r68_r12d_300105 hD hQ ih l2 l3 l5 g0 h (jr_of rfl (by omega)) (jr_of rfl (by omega)) (jr_of rfl (by omega)) (by omega) z0 (by omega) J Sm D EV)
      ·
        rw [if_pos (by omega)] at D
        refine x_iload (x := l4) rfl rfl ?_
        refine x_ifeq (tgt := 62) rfl rfl (ti_eq rfl jk_0 ⟨fun c9 => ?_, fun c9 => ?_⟩)
        ·
          rw [if_pos (by omega)] at D
          exact jX.sub (jsb_c rfl (jsb_c rfl (jsb_c rfl (jsb_c rfl jsb_n)))) (ct_X9_wordOf_r68_r12d_62 hD hQ ih l2 l5 g0 h (jr_of rfl (by omega)) (jr_of rfl (by omega)) z0 (by omega) J Sm D EV)
        ·
          rw [if_neg (by omega)] at D
          refine x_iloadn (x := l3) rfl rfl ?_
          refine x_aloadn (x := 68) rfl rfl ?_
          refine z_getI (N := 6) 9 4 rfl f_9_25 rfl J rfl sg_68_4_5_1_0_1 (fun v10 qv10 ev10 => ?_)
          try rw [vrf qv10] at D
          refine x_icne (tgt := 62) rfl rfl (ti_ne rfl rfl ⟨fun c11 => ?_, fun c11 => ?_⟩)
          ·
            rw [if_neg (by omega)] at D
            exact jX.sub (jsb_c rfl (jsb_c rfl (jsb_c rfl (jsb_c rfl jsb_n)))) (ct_X9_wordOf_r68_r12d_62 hD hQ ih l2 l5 g0 h (jr_of rfl (by omega)) (jr_of rfl (by omega)) z0 (by omega) J Sm D EV)
          ·
            rw [if_pos (by omega)] at D
            refine x_iloadn (x := l2) rfl rfl ?_
            refine x_iret rfl rfl ?_
            exact hQ _ _ J Sm (D.symm.trans (show l2.toInt = l2.toInt from by omega)) EV
set_option maxRecDepth 100000 in
set_option maxHeartbeats 4000000 in
theorem sf_X9_wordOf_r68_r12d {Dy : jH → Prop} {h : jH} {Q : Option Value → jH → Prop} {dr : Int} (hD : jDk Dy) (J : jJ jSgX Dy h) (D : d_X9_wordOf_r68_r12d (vw h) = dr) (hQ : ∀ (v : Int32) hx9, jJ jSgX Dy hx9 → jSm fp_X9_wordOf_r68_r12d h hx9 → dr = v.toInt → vw hx9 = vw h → Q (some (.int v)) hx9) : jC m_X9_wordOf 4 0 0 [.ref 68, .ref 12] h Q := by
  refine jC.of rfl k_X9_wordOf rfl ?_
  have Sm := jSm_rf fp_X9_wordOf_r68_r12d h
  show jX m_X9_wordOf 4 0 0 0 [(0, .ref 68), (1, .ref 12)] [] _ 0 0 _
  unfold d_X9_wordOf_r68_r12d at D
  have EV : vw h = vw h := rfl
  refine x_aloadn (x := 68) rfl rfl ?_
  refine z_getI (N := 6) 9 5 rfl f_9_28 rfl J rfl sg_68_5_6_1_0_1 (fun v1 qv1 ev1 => ?_)
  try rw [vrf qv1] at D
  refine x_iconst (v := 1) rfl ki_1 ?_
  refine x_iceq (tgt := 10) rfl rfl (ti_eq rfl jk_1 ⟨fun c2 => ?_, fun c2 => ?_⟩)
  ·
    rw [if_pos (by omega)] at D
    refine x_iconst (v := 0) rfl ki_0 ?_
    refine x_istoren (lsx9 := [(2, .int 0), (0, .ref 68), (1, .ref 12)]) rfl rfl rfl ?_
    refine x_aloadn (x := 68) rfl rfl ?_
    refine z_getI (N := 6) 9 3 rfl f_9_22 rfl J rfl sg_68_3_4_1_0_1 (fun v3 qv3 ev3 => ?_)
    try rw [vrf qv3] at D
    refine x_istoren (lsx9 := [(3, .int v3), (2, .int 0), (0, .ref 68), (1, .ref 12)]) rfl rfl rfl ?_
    refine x_iconst (v := 1) rfl ki_1 ?_
    refine x_istore (lsx9 := [(4, .int 1), (3, .int v3), (2, .int 0), (0, .ref 68), (1, .ref 12)]) rfl rfl rfl ?_
    refine x_iconst (v := 0) rfl ki_0 ?_
    refine x_istore (lsx9 := [(5, .int 0), (4, .int 1), (3, .int v3), (2, .int 0), (0, .ref 68), (1, .ref 12)]) rfl rfl rfl ?_
    exact jX.sub (jsb_c rfl (jsb_c rfl (jsb_c rfl (jsb_c rfl (jsb_c rfl (jsb_c rfl jsb_n)))))) (ct_X9_wordOf_r68_r12d_23 hD hQ  4 0 v3 1 0 v3 h (by have := jk_0; omega) (jr_of rfl (by omega)) (jr_of jk_1 (by omega)) (jr_of jk_0 (by omega)) (jr_of rfl (by omega)) (by have := jk_0; omega) qv3 J Sm (by rw [jk_0, jk_1]; exact D) EV)
  ·
    rw [if_neg (by omega)] at D
    refine x_iconst (v := (-1)) rfl ki_m1 ?_
    refine x_iret rfl rfl ?_
    exact hQ _ _ J Sm (D.symm.trans (show (-1) = ((-1) : Int32).toInt from by have := jk_m1; omega)) EV
def fp_X9_wordOf_r68_r13d : jFp := []
set_option maxRecDepth 100000 in
set_option maxHeartbeats 4000000 in
theorem ct_X9_wordOf_r68_r13d_110 {Dy : jH → Prop} {h0 : jH} {Q : Option Value → jH → Prop} {dr : Int} {K23 : Int → Int → Int → Int → jW → Int} {R23 : Int} (hD : jDk Dy) (hQ : ∀ (v : Int32) hx9, jJ jSgX Dy hx9 → jSm fp_X9_wordOf_r68_r13d h0 hx9 → dr = v.toInt → vw hx9 = vw h0 → Q (some (.int v)) hx9) (k23 : ∀ (l2 : Int32) (l3 : Int32) (l4 : Int32) (l5 : Int32) (g0 : Int32) (h : jH), 7 - l5.toInt < R23 → 0 ≤ l3.toInt ∧ l3.toInt ≤ 407 → 0 ≤ l4.toInt ∧ l4.toInt ≤ 1 → 0 ≤ l5.toInt ∧ l5.toInt ≤ 7 → 0 ≤ g0.toInt ∧ g0.toInt ≤ 400 → l3.toInt - l5.toInt ≤ 400 → jiv h 68 3 = g0 → jJ jSgX Dy h → jSm fp_X9_wordOf_r68_r13d h0 h → K23 l2.toInt l3.toInt l4.toInt l5.toInt (vw h) = dr → vw h = vw h0 → jX m_X9_wordOf 4 0 0 23 [(0, .ref 68), (1, .ref 13), (2, .int l2), (3, .int l3), (4, .int l4), (5, .int l5)] [] h 0 0 Q) : ∀ (l2 : Int32) (l3 : Int32) (l4 : Int32) (l5 : Int32) (g0 : Int32) (h : jH), 0 ≤ l3.toInt ∧ l3.toInt ≤ 407 → 0 ≤ l4.toInt ∧ l4.toInt ≤ 1 → 0 ≤ l5.toInt ∧ l5.toInt ≤ 6 → 0 ≤ g0.toInt ∧ g0.toInt ≤ 400 → l3.toInt - l5.toInt ≤ 401 → jiv h 68 3 = g0 → 7 - l5.toInt ≤ R23 → jJ jSgX Dy h → jSm fp_X9_wordOf_r68_r13d h0 h → d_X9_wordOf_r68_r13d_110 K23  l2.toInt l3.toInt l4.toInt l5.toInt (vw h) = dr → vw h = vw h0 → jX m_X9_wordOf 4 0 0 110 [(0, .ref 68), (1, .ref 13), (2, .int l2), (3, .int l3), (4, .int l4), (5, .int l5)] [] h 0 0 Q := by
  intro l2 l3 l4 l5 g0 h y0 y1 y2 y3 y4 z0 m23 J Sm D EV
  have el2 := jfull l2
  unfold d_X9_wordOf_r68_r13d_110 at D
  try rw [vrf z0] at D
  refine z_iinc (x := l5) (lsx9 := fun v1 => [(5, .int v1), (0, .ref 68), (1, .ref 13), (2, .int l2), (3, .int l3), (4, .int l4)]) rfl rfl rfl jko_1 (by omega) rfl (fun _ => rfl) (fun v1 ev1 => ?_)
  refine x_goto (tgt := 23) rfl rfl ?_
  try rw [show (l5.toInt + 1) = v1.toInt from by omega] at D
  exact jX.sub (jsb_c rfl (jsb_c rfl (jsb_c rfl (jsb_c rfl (jsb_c rfl (jsb_c rfl jsb_n)))))) (k23 l2 l3 l4 v1 g0 h (by omega) (jr_of rfl (by omega)) (jr_of rfl (by omega)) (jr_of rfl (by omega)) (jr_of rfl (by omega)) (by omega) z0 J Sm D EV)
set_option maxRecDepth 100000 in
set_option maxHeartbeats 4000000 in
theorem ct_X9_wordOf_r68_r13d_300105 {Dy : jH → Prop} {h0 : jH} {Q : Option Value → jH → Prop} {dr : Int} {K23 : Int → Int → Int → Int → jW → Int} {R23 : Int} (hD : jDk Dy) (hQ : ∀ (v : Int32) hx9, jJ jSgX Dy hx9 → jSm fp_X9_wordOf_r68_r13d h0 hx9 → dr = v.toInt → vw hx9 = vw h0 → Q (some (.int v)) hx9) (k23 : ∀ (l2 : Int32) (l3 : Int32) (l4 : Int32) (l5 : Int32) (g0 : Int32) (h : jH), 7 - l5.toInt < R23 → 0 ≤ l3.toInt ∧ l3.toInt ≤ 407 → 0 ≤ l4.toInt ∧ l4.toInt ≤ 1 → 0 ≤ l5.toInt ∧ l5.toInt ≤ 7 → 0 ≤ g0.toInt ∧ g0.toInt ≤ 400 → l3.toInt - l5.toInt ≤ 400 → jiv h 68 3 = g0 → jJ jSgX Dy h → jSm fp_X9_wordOf_r68_r13d h0 h → K23 l2.toInt l3.toInt l4.toInt l5.toInt (vw h) = dr → vw h = vw h0 → jX m_X9_wordOf 4 0 0 23 [(0, .ref 68), (1, .ref 13), (2, .int l2), (3, .int l3), (4, .int l4), (5, .int l5)] [] h 0 0 Q) : ∀ (l2 : Int32) (l3 : Int32) (l5 : Int32) (g0 : Int32) (h : jH), 0 ≤ l3.toInt ∧ l3.toInt ≤ 399 → 0 ≤ l5.toInt ∧ l5.toInt ≤ 6 → 0 ≤ g0.toInt ∧ g0.toInt ≤ 400 → l3.toInt - l5.toInt ≤ 400 → jiv h 68 3 = g0 → 7 - l5.toInt ≤ R23 → jJ jSgX Dy h → jSm fp_X9_wordOf_r68_r13d h0 h → d_X9_wordOf_r68_r13d_300105 K23  l2.toInt l3.toInt l5.toInt (vw h) = dr → vw h = vw h0 → jX m_X9_wordOf 4 0 0 105 [(0, .ref 68), (1, .ref 13), (2, .int l2), (3, .int l3), (5, .int l5)] [.int 1] h 0 0 Q := by
  intro l2 l3 l5 g0 h y0 y1 y2 y3 z0 m23 J Sm D EV
  have el2 := jfull l2
  unfold d_X9_wordOf_r68_r13d_300105 at D
  try rw [vrf z0] at D
  refine x_istore (lsx9 := [(4, .int 1), (0, .ref 68), (1, .ref 13), (2, .int l2), (3, .int l3), (5, .int l5)]) rfl rfl rfl ?_
  refine z_iinc (x := l3) (lsx9 := fun v1 => [(3, .int v1), (4, .int 1), (0, .ref 68), (1, .ref 13), (2, .int l2), (5, .int l5)]) rfl rfl rfl jko_1 (by omega) rfl (fun _ => rfl) (fun v1 ev1 => ?_)
  try rw [show (l3.toInt + 1) = v1.toInt from by omega] at D
  exact jX.sub (jsb_c rfl (jsb_c rfl (jsb_c rfl (jsb_c rfl (jsb_c rfl (jsb_c rfl jsb_n)))))) (ct_X9_wordOf_r68_r13d_110 hD hQ k23 l2 v1 1 l5 g0 h (jr_of rfl (by omega)) (jr_of jk_1 (by omega)) (jr_of rfl (by omega)) (jr_of rfl (by omega)) (by omega) z0 (by omega) J Sm (by rw [jk_1]; exact D) EV)
set_option maxRecDepth 100000 in
set_option maxHeartbeats 4000000 in
theorem ct_X9_wordOf_r68_r13d_200105 {Dy : jH → Prop} {h0 : jH} {Q : Option Value → jH → Prop} {dr : Int} {K23 : Int → Int → Int → Int → jW → Int} {R23 : Int} (hD : jDk Dy) (hQ : ∀ (v : Int32) hx9, jJ jSgX Dy hx9 → jSm fp_X9_wordOf_r68_r13d h0 hx9 → dr = v.toInt → vw hx9 = vw h0 → Q (some (.int v)) hx9) (k23 : ∀ (l2 : Int32) (l3 : Int32) (l4 : Int32) (l5 : Int32) (g0 : Int32) (h : jH), 7 - l5.toInt < R23 → 0 ≤ l3.toInt ∧ l3.toInt ≤ 407 → 0 ≤ l4.toInt ∧ l4.toInt ≤ 1 → 0 ≤ l5.toInt ∧ l5.toInt ≤ 7 → 0 ≤ g0.toInt ∧ g0.toInt ≤ 400 → l3.toInt - l5.toInt ≤ 400 → jiv h 68 3 = g0 → jJ jSgX Dy h → jSm fp_X9_wordOf_r68_r13d h0 h → K23 l2.toInt l3.toInt l4.toInt l5.toInt (vw h) = dr → vw h = vw h0 → jX m_X9_wordOf 4 0 0 23 [(0, .ref 68), (1, .ref 13), (2, .int l2), (3, .int l3), (4, .int l4), (5, .int l5)] [] h 0 0 Q) : ∀ (l2 : Int32) (l3 : Int32) (l5 : Int32) (g0 : Int32) (h : jH), 0 ≤ l3.toInt ∧ l3.toInt ≤ 406 → 0 ≤ l5.toInt ∧ l5.toInt ≤ 6 → 0 ≤ g0.toInt ∧ g0.toInt ≤ 400 → l3.toInt - l5.toInt ≤ 400 → jiv h 68 3 = g0 → 7 - l5.toInt ≤ R23 → jJ jSgX Dy h → jSm fp_X9_wordOf_r68_r13d h0 h → d_X9_wordOf_r68_r13d_200105 K23  l2.toInt l3.toInt l5.toInt (vw h) = dr → vw h = vw h0 → jX m_X9_wordOf 4 0 0 105 [(0, .ref 68), (1, .ref 13), (2, .int l2), (3, .int l3), (5, .int l5)] [.int 0] h 0 0 Q := by
  intro l2 l3 l5 g0 h y0 y1 y2 y3 z0 m23 J Sm D EV
  have el2 := jfull l2
  unfold d_X9_wordOf_r68_r13d_200105 at D
  try rw [vrf z0] at D
  refine x_istore (lsx9 := [(4, .int 0), (0, .ref 68), (1, .ref 13), (2, .int l2), (3, .int l3), (5, .int l5)]) rfl rfl rfl ?_
  refine z_iinc (x := l3) (lsx9 := fun v1 => [(3, .int v1), (4, .int 0), (0, .ref 68), (1, .ref 13), (2, .int l2), (5, .int l5)]) rfl rfl rfl jko_1 (by omega) rfl (fun _ => rfl) (fun v1 ev1 => ?_)
  try rw [show (l3.toInt + 1) = v1.toInt from by omega] at D
  exact jX.sub (jsb_c rfl (jsb_c rfl (jsb_c rfl (jsb_c rfl (jsb_c rfl (jsb_c rfl jsb_n)))))) (ct_X9_wordOf_r68_r13d_110 hD hQ k23 l2 v1 0 l5 g0 h (jr_of rfl (by omega)) (jr_of jk_0 (by omega)) (jr_of rfl (by omega)) (jr_of rfl (by omega)) (by omega) z0 (by omega) J Sm (by rw [jk_0]; exact D) EV)
set_option maxRecDepth 100000 in
set_option maxHeartbeats 4000000 in
theorem ct_X9_wordOf_r68_r13d_104 {Dy : jH → Prop} {h0 : jH} {Q : Option Value → jH → Prop} {dr : Int} {K23 : Int → Int → Int → Int → jW → Int} {R23 : Int} (hD : jDk Dy) (hQ : ∀ (v : Int32) hx9, jJ jSgX Dy hx9 → jSm fp_X9_wordOf_r68_r13d h0 hx9 → dr = v.toInt → vw hx9 = vw h0 → Q (some (.int v)) hx9) (k23 : ∀ (l2 : Int32) (l3 : Int32) (l4 : Int32) (l5 : Int32) (g0 : Int32) (h : jH), 7 - l5.toInt < R23 → 0 ≤ l3.toInt ∧ l3.toInt ≤ 407 → 0 ≤ l4.toInt ∧ l4.toInt ≤ 1 → 0 ≤ l5.toInt ∧ l5.toInt ≤ 7 → 0 ≤ g0.toInt ∧ g0.toInt ≤ 400 → l3.toInt - l5.toInt ≤ 400 → jiv h 68 3 = g0 → jJ jSgX Dy h → jSm fp_X9_wordOf_r68_r13d h0 h → K23 l2.toInt l3.toInt l4.toInt l5.toInt (vw h) = dr → vw h = vw h0 → jX m_X9_wordOf 4 0 0 23 [(0, .ref 68), (1, .ref 13), (2, .int l2), (3, .int l3), (4, .int l4), (5, .int l5)] [] h 0 0 Q) : ∀ (l2 : Int32) (l3 : Int32) (l5 : Int32) (g0 : Int32) (h : jH), 0 ≤ l3.toInt ∧ l3.toInt ≤ 406 → 0 ≤ l5.toInt ∧ l5.toInt ≤ 6 → 0 ≤ g0.toInt ∧ g0.toInt ≤ 400 → l3.toInt - l5.toInt ≤ 400 → jiv h 68 3 = g0 → 7 - l5.toInt ≤ R23 → jJ jSgX Dy h → jSm fp_X9_wordOf_r68_r13d h0 h → d_X9_wordOf_r68_r13d_104 K23  l2.toInt l3.toInt l5.toInt (vw h) = dr → vw h = vw h0 → jX m_X9_wordOf 4 0 0 104 [(0, .ref 68), (1, .ref 13), (2, .int l2), (3, .int l3), (5, .int l5)] [] h 0 0 Q := by
  intro l2 l3 l5 g0 h y0 y1 y2 y3 z0 m23 J Sm D EV
  have el2 := jfull l2
  unfold d_X9_wordOf_r68_r13d_104 at D
  try rw [vrf z0] at D
  refine x_iconst (v := 0) rfl ki_0 ?_
  exact jX.sub (jsb_c rfl (jsb_c rfl (jsb_c rfl (jsb_c rfl (jsb_c rfl jsb_n))))) (ct_X9_wordOf_r68_r13d_200105 hD hQ k23 l2 l3 l5 g0 h (jr_of rfl (by omega)) (jr_of rfl (by omega)) (jr_of rfl (by omega)) (by omega) z0 (by omega) J Sm D EV)
set_option maxRecDepth 100000 in
set_option maxHeartbeats 4000000 in
theorem ct_X9_wordOf_r68_r13d_62 {Dy : jH → Prop} {h0 : jH} {Q : Option Value → jH → Prop} {dr : Int} {K23 : Int → Int → Int → Int → jW → Int} {R23 : Int} (hD : jDk Dy) (hQ : ∀ (v : Int32) hx9, jJ jSgX Dy hx9 → jSm fp_X9_wordOf_r68_r13d h0 hx9 → dr = v.toInt → vw hx9 = vw h0 → Q (some (.int v)) hx9) (k23 : ∀ (l2 : Int32) (l3 : Int32) (l4 : Int32) (l5 : Int32) (g0 : Int32) (h : jH), 7 - l5.toInt < R23 → 0 ≤ l3.toInt ∧ l3.toInt ≤ 407 → 0 ≤ l4.toInt ∧ l4.toInt ≤ 1 → 0 ≤ l5.toInt ∧ l5.toInt ≤ 7 → 0 ≤ g0.toInt ∧ g0.toInt ≤ 400 → l3.toInt - l5.toInt ≤ 400 → jiv h 68 3 = g0 → jJ jSgX Dy h → jSm fp_X9_wordOf_r68_r13d h0 h → K23 l2.toInt l3.toInt l4.toInt l5.toInt (vw h) = dr → vw h = vw h0 → jX m_X9_wordOf 4 0 0 23 [(0, .ref 68), (1, .ref 13), (2, .int l2), (3, .int l3), (4, .int l4), (5, .int l5)] [] h 0 0 Q) : ∀ (l2 : Int32) (l5 : Int32) (g0 : Int32) (h : jH), 0 ≤ l5.toInt ∧ l5.toInt ≤ 6 → 0 ≤ g0.toInt ∧ g0.toInt ≤ 400 → jiv h 68 3 = g0 → 7 - l5.toInt ≤ R23 → jJ jSgX Dy h → jSm fp_X9_wordOf_r68_r13d h0 h → d_X9_wordOf_r68_r13d_62 K23  l2.toInt l5.toInt (vw h) = dr → vw h = vw h0 → jX m_X9_wordOf 4 0 0 62 [(0, .ref 68), (1, .ref 13), (2, .int l2), (5, .int l5)] [] h 0 0 Q := by
  intro l2 l5 g0 h y0 y1 z0 m23 J Sm D EV
  have el2 := jfull l2
  unfold d_X9_wordOf_r68_r13d_62 at D
  try rw [vrf z0] at D
  refine z_iincW (x := l2) (lsx9 := fun v1 => [(2, .int v1), (0, .ref 68), (1, .ref 13), (5, .int l5)]) rfl rfl rfl jko_1 rfl (fun _ => rfl) (fun v1 ev1 => ?_)
  have fv1 := jfull v1
  try rw [← ev1] at D
  refine x_aloadn (x := 68) rfl rfl ?_
  refine z_getM (N := 6) (v := g0) 9 3 rfl f_9_22 rfl J rfl z0 ?_
  refine x_istoren (lsx9 := [(3, .int g0), (2, .int v1), (0, .ref 68), (1, .ref 13), (5, .int l5)]) rfl rfl rfl ?_
  refine x_iconst (v := 1) rfl ki_1 ?_
  refine x_istore (lsx9 := [(4, .int 1), (3, .int g0), (2, .int v1), (0, .ref 68), (1, .ref 13), (5, .int l5)]) rfl rfl rfl ?_
  refine x_goto (tgt := 110) rfl rfl ?_
  exact jX.sub (jsb_c rfl (jsb_c rfl (jsb_c rfl (jsb_c rfl (jsb_c rfl (jsb_c rfl jsb_n)))))) (ct_X9_wordOf_r68_r13d_110 hD hQ k23 v1 g0 1 l5 g0 h (jr_of rfl (by omega)) (jr_of jk_1 (by omega)) (jr_of rfl (by omega)) (jr_of rfl (by omega)) (by omega) z0 (by omega) J Sm (by rw [jk_1]; exact D) EV)
set_option maxRecDepth 100000 in
set_option maxHeartbeats 4000000 in
theorem ct_X9_wordOf_r68_r13d_23 {Dy : jH → Prop} {h0 : jH} {Q : Option Value → jH → Prop} {dr : Int} (hD : jDk Dy) (hQ : ∀ (v : Int32) hx9, jJ jSgX Dy hx9 → jSm fp_X9_wordOf_r68_r13d h0 hx9 → dr = v.toInt → vw hx9 = vw h0 → Q (some (.int v)) hx9) : ∀ r : Nat, ∀ (l2 : Int32) (l3 : Int32) (l4 : Int32) (l5 : Int32) (g0 : Int32) (h : jH), 7 - l5.toInt < (r : Int) → 0 ≤ l3.toInt ∧ l3.toInt ≤ 407 → 0 ≤ l4.toInt ∧ l4.toInt ≤ 1 → 0 ≤ l5.toInt ∧ l5.toInt ≤ 7 → 0 ≤ g0.toInt ∧ g0.toInt ≤ 400 → l3.toInt - l5.toInt ≤ 400 → jiv h 68 3 = g0 → jJ jSgX Dy h → jSm fp_X9_wordOf_r68_r13d h0 h → d_X9_wordOf_r68_r13d_23 r l2.toInt l3.toInt l4.toInt l5.toInt (vw h) = dr → vw h = vw h0 → jX m_X9_wordOf 4 0 0 23 [(0, .ref 68), (1, .ref 13), (2, .int l2), (3, .int l3), (4, .int l4), (5, .int l5)] [] h 0 0 Q := by
  intro r
  induction r with
  | zero =>
    intro l2 l3 l4 l5 g0 h hm y0 y1 y2 y3 y4 z0  J Sm D EV
    exfalso
    have el2 := jfull l2
    omega
  | succ r ih =>
    intro l2 l3 l4 l5 g0 h hm y0 y1 y2 y3 y4 z0  J Sm D EV
    have el2 := jfull l2
    rw [d_X9_wordOf_r68_r13d_23.eq_2] at D
    try rw [vrf z0] at D
    refine x_iload (x := l5) rfl rfl ?_
    refine x_aloadn (x := 13) rfl rfl ?_
    refine x_invS (N := m_J0_length_8abf5) (i := 8) (As := []) (st := [.int l5]) (dx9 := 1) (by decide) rfl t_J0_length_8abf5 ⟨q_9_38, i_J0_length_8abf5.1, i_J0_length_8abf5.2⟩ rfl rfl (by decide) rfl rfl (zc_slen (N := 7) (v := 7) rfl J rfl rfl (by decide) ?_)
    show jX m_X9_wordOf 4 0 0 29 [(0, .ref 68), (1, .ref 13), (2, .int l2), (3, .int l3), (4, .int l4), (5, .int l5)] [.int 7, .int l5] _ 0 0 _
    refine x_icge (tgt := 116) rfl rfl (ti_ge rfl jk_7 ⟨fun c1 => ?_, fun c1 => ?_⟩)
    ·
      rw [if_pos (by omega)] at D
      refine x_iconst (v := (-1)) rfl ki_m1 ?_
      refine x_iret rfl rfl ?_
      exact hQ _ _ J Sm (D.symm.trans (show (-1) = ((-1) : Int32).toInt from by have := jk_m1; omega)) EV
    ·
      rw [if_neg (by omega)] at D
      refine x_aloadn (x := 13) rfl rfl ?_
      refine x_iload (x := l5) rfl rfl ?_
      refine x_invS (N := m_J0_charAt_5068e) (i := 8) (As := [.int l5]) (st := []) (dx9 := 3) (by decide) rfl t_J0_charAt_5068e ⟨q_9_43, i_J0_charAt_5068e.1, i_J0_charAt_5068e.2⟩ rfl rfl (by decide) rfl rfl (zc_scharD (N := 7) rfl J rfl rfl rfl (by omega) (fun v2 ev2 => ?_))
      try rw [← ev2.1] at D
      show jX m_X9_wordOf 4 0 0 38 [(0, .ref 68), (1, .ref 13), (2, .int l2), (3, .int l3), (4, .int l4), (5, .int l5)] [.int v2] _ 0 0 _
      refine x_istore (lsx9 := [(6, .int v2), (0, .ref 68), (1, .ref 13), (2, .int l2), (3, .int l3), (4, .int l4), (5, .int l5)]) rfl rfl rfl ?_
      refine x_iload (x := v2) rfl rfl ?_
      refine x_bipush (v := 32) rfl kb_32 ?_
      refine x_icne (tgt := 76) rfl rfl (ti_ne rfl jk_32 ⟨fun c3 => ?_, fun c3 => ?_⟩)
      ·
        rw [if_neg (by omega)] at D
        refine x_iload (x := l4) rfl rfl ?_
        refine x_ifeq (tgt := 104) rfl rfl (ti_eq rfl jk_0 ⟨fun c4 => ?_, fun c4 => ?_⟩)
        ·
          rw [if_pos (by omega)] at D
          exact jX.sub (jsb_c rfl (jsb_c rfl (jsb_c rfl (jsb_c rfl (jsb_c rfl jsb_n))))) (ct_X9_wordOf_r68_r13d_104 hD hQ ih l2 l3 l5 g0 h (jr_of rfl (by omega)) (jr_of rfl (by omega)) (jr_of rfl (by omega)) (by omega) z0 (by omega) J Sm D EV)
        ·
          rw [if_neg (by omega)] at D
          refine x_iloadn (x := l3) rfl rfl ?_
          refine x_aloadn (x := 68) rfl rfl ?_
          refine z_getI (N := 6) 9 4 rfl f_9_25 rfl J rfl sg_68_4_5_1_0_1 (fun v5 qv5 ev5 => ?_)
          try rw [vrf qv5] at D
          refine x_icge (tgt := 104) rfl rfl (ti_ge rfl rfl ⟨fun c6 => ?_, fun c6 => ?_⟩)
          ·
            rw [if_pos (by omega)] at D
            exact jX.sub (jsb_c rfl (jsb_c rfl (jsb_c rfl (jsb_c rfl (jsb_c rfl jsb_n))))) (ct_X9_wordOf_r68_r13d_104 hD hQ ih l2 l3 l5 g0 h (jr_of rfl (by omega)) (jr_of rfl (by omega)) (jr_of rfl (by omega)) (by omega) z0 (by omega) J Sm D EV)
          ·
            rw [if_neg (by omega)] at D
            refine x_aloadn (x := 68) rfl rfl ?_
            refine z_getR (N := 6) (b := 69) 9 0 rfl f_9_11 rfl J rfl 8704 ⟨rfl, rfl⟩ rfl ?_
            refine x_iloadn (x := l3) rfl rfl ?_
            refine z_iald (N := 400) rfl J rfl sg_69_0_400_1_0_1 rfl (by omega) (fun v7 qv7 ev7 => ?_)
            try rw [vrd qv7 (show l3.toInt = l3.toInt from by omega)] at D
            refine x_iload (x := v2) rfl rfl ?_
            refine x_icne (tgt := 104) rfl rfl (ti_ne rfl rfl ⟨fun c8 => ?_, fun c8 => ?_⟩)
            ·
              rw [if_neg (by omega)] at D
              exact jX.sub (jsb_c rfl (jsb_c rfl (jsb_c rfl (jsb_c rfl (jsb_c rfl jsb_n))))) (ct_X9_wordOf_r68_r13d_104 hD hQ ih l2 l3 l5 g0 h (jr_of rfl (by omega)) (jr_of rfl (by omega)) (jr_of rfl (by omega)) (by omega) z0 (by omega) J Sm D EV)
            ·
              rw [if_pos (by omega)] at D
              refine x_iconst (v := 1) rfl ki_1 ?_
              refine x_goto (tgt := 105) rfl rfl ?_
              exact jX.sub (jsb_c rfl (jsb_c rfl (jsb_c rfl (jsb_c rfl (jsb_c rfl jsb_n))))) (ct_X9_wordOf_r68_r13d_300105 hD hQ ih l2 l3 l5 g0 h (jr_of rfl (by omega)) (jr_of rfl (by omega)) (jr_of rfl (by omega)) (by omega) z0 (by omega) J Sm D EV)
      ·
        rw [if_pos (by omega)] at D
        refine x_iload (x := l4) rfl rfl ?_
        refine x_ifeq (tgt := 62) rfl rfl (ti_eq rfl jk_0 ⟨fun c9 => ?_, fun c9 => ?_⟩)
        ·
          rw [if_pos (by omega)] at D
          exact jX.sub (jsb_c rfl (jsb_c rfl (jsb_c rfl (jsb_c rfl jsb_n)))) (ct_X9_wordOf_r68_r13d_62 hD hQ ih l2 l5 g0 h (jr_of rfl (by omega)) (jr_of rfl (by omega)) z0 (by omega) J Sm D EV)
        ·
          rw [if_neg (by omega)] at D
          refine x_iloadn (x := l3) rfl rfl ?_
          refine x_aloadn (x := 68) rfl rfl ?_
          refine z_getI (N := 6) 9 4 rfl f_9_25 rfl J rfl sg_68_4_5_1_0_1 (fun v10 qv10 ev10 => ?_)
          try rw [vrf qv10] at D
          refine x_icne (tgt := 62) rfl rfl (ti_ne rfl rfl ⟨fun c11 => ?_, fun c11 => ?_⟩)
          ·
            rw [if_neg (by omega)] at D
            exact jX.sub (jsb_c rfl (jsb_c rfl (jsb_c rfl (jsb_c rfl jsb_n)))) (ct_X9_wordOf_r68_r13d_62 hD hQ ih l2 l5 g0 h (jr_of rfl (by omega)) (jr_of rfl (by omega)) z0 (by omega) J Sm D EV)
          ·
            rw [if_pos (by omega)] at D
            refine x_iloadn (x := l2) rfl rfl ?_
            refine x_iret rfl rfl ?_
            exact hQ _ _ J Sm (D.symm.trans (show l2.toInt = l2.toInt from by omega)) EV
set_option maxRecDepth 100000 in
set_option maxHeartbeats 4000000 in
theorem sf_X9_wordOf_r68_r13d {Dy : jH → Prop} {h : jH} {Q : Option Value → jH → Prop} {dr : Int} (hD : jDk Dy) (J : jJ jSgX Dy h) (D : d_X9_wordOf_r68_r13d (vw h) = dr) (hQ : ∀ (v : Int32) hx9, jJ jSgX Dy hx9 → jSm fp_X9_wordOf_r68_r13d h hx9 → dr = v.toInt → vw hx9 = vw h → Q (some (.int v)) hx9) : jC m_X9_wordOf 4 0 0 [.ref 68, .ref 13] h Q := by
  refine jC.of rfl k_X9_wordOf rfl ?_
  have Sm := jSm_rf fp_X9_wordOf_r68_r13d h
  show jX m_X9_wordOf 4 0 0 0 [(0, .ref 68), (1, .ref 13)] [] _ 0 0 _
  unfold d_X9_wordOf_r68_r13d at D
  have EV : vw h = vw h := rfl
  refine x_aloadn (x := 68) rfl rfl ?_
  refine z_getI (N := 6) 9 5 rfl f_9_28 rfl J rfl sg_68_5_6_1_0_1 (fun v1 qv1 ev1 => ?_)
  try rw [vrf qv1] at D
  refine x_iconst (v := 1) rfl ki_1 ?_
  refine x_iceq (tgt := 10) rfl rfl (ti_eq rfl jk_1 ⟨fun c2 => ?_, fun c2 => ?_⟩)
  ·
    rw [if_pos (by omega)] at D
    refine x_iconst (v := 0) rfl ki_0 ?_
    refine x_istoren (lsx9 := [(2, .int 0), (0, .ref 68), (1, .ref 13)]) rfl rfl rfl ?_
    refine x_aloadn (x := 68) rfl rfl ?_
    refine z_getI (N := 6) 9 3 rfl f_9_22 rfl J rfl sg_68_3_4_1_0_1 (fun v3 qv3 ev3 => ?_)
    try rw [vrf qv3] at D
    refine x_istoren (lsx9 := [(3, .int v3), (2, .int 0), (0, .ref 68), (1, .ref 13)]) rfl rfl rfl ?_
    refine x_iconst (v := 1) rfl ki_1 ?_
    refine x_istore (lsx9 := [(4, .int 1), (3, .int v3), (2, .int 0), (0, .ref 68), (1, .ref 13)]) rfl rfl rfl ?_
    refine x_iconst (v := 0) rfl ki_0 ?_
    refine x_istore (lsx9 := [(5, .int 0), (4, .int 1), (3, .int v3), (2, .int 0), (0, .ref 68), (1, .ref 13)]) rfl rfl rfl ?_
    exact jX.sub (jsb_c rfl (jsb_c rfl (jsb_c rfl (jsb_c rfl (jsb_c rfl (jsb_c rfl jsb_n)))))) (ct_X9_wordOf_r68_r13d_23 hD hQ  8 0 v3 1 0 v3 h (by have := jk_0; omega) (jr_of rfl (by omega)) (jr_of jk_1 (by omega)) (jr_of jk_0 (by omega)) (jr_of rfl (by omega)) (by have := jk_0; omega) qv3 J Sm (by rw [jk_0, jk_1]; exact D) EV)
  ·
    rw [if_neg (by omega)] at D
    refine x_iconst (v := (-1)) rfl ki_m1 ?_
    refine x_iret rfl rfl ?_
    exact hQ _ _ J Sm (D.symm.trans (show (-1) = ((-1) : Int32).toInt from by have := jk_m1; omega)) EV
def fp_X9_wordOf_r68_r5d : jFp := []
set_option maxRecDepth 100000 in
set_option maxHeartbeats 4000000 in
theorem ct_X9_wordOf_r68_r5d_110 {Dy : jH → Prop} {h0 : jH} {Q : Option Value → jH → Prop} {dr : Int} {K23 : Int → Int → Int → Int → jW → Int} {R23 : Int} (hD : jDk Dy) (hQ : ∀ (v : Int32) hx9, jJ jSgX Dy hx9 → jSm fp_X9_wordOf_r68_r5d h0 hx9 → dr = v.toInt → vw hx9 = vw h0 → Q (some (.int v)) hx9) (k23 : ∀ (l2 : Int32) (l3 : Int32) (l4 : Int32) (l5 : Int32) (g0 : Int32) (h : jH), 53 - l5.toInt < R23 → 0 ≤ l3.toInt ∧ l3.toInt ≤ 453 → 0 ≤ l4.toInt ∧ l4.toInt ≤ 1 → 0 ≤ l5.toInt ∧ l5.toInt ≤ 53 → 0 ≤ g0.toInt ∧ g0.toInt ≤ 400 → l3.toInt - l5.toInt ≤ 400 → jiv h 68 3 = g0 → jJ jSgX Dy h → jSm fp_X9_wordOf_r68_r5d h0 h → K23 l2.toInt l3.toInt l4.toInt l5.toInt (vw h) = dr → vw h = vw h0 → jX m_X9_wordOf 4 0 0 23 [(0, .ref 68), (1, .ref 5), (2, .int l2), (3, .int l3), (4, .int l4), (5, .int l5)] [] h 0 0 Q) : ∀ (l2 : Int32) (l3 : Int32) (l4 : Int32) (l5 : Int32) (g0 : Int32) (h : jH), 0 ≤ l3.toInt ∧ l3.toInt ≤ 453 → 0 ≤ l4.toInt ∧ l4.toInt ≤ 1 → 0 ≤ l5.toInt ∧ l5.toInt ≤ 52 → 0 ≤ g0.toInt ∧ g0.toInt ≤ 400 → l3.toInt - l5.toInt ≤ 401 → jiv h 68 3 = g0 → 53 - l5.toInt ≤ R23 → jJ jSgX Dy h → jSm fp_X9_wordOf_r68_r5d h0 h → d_X9_wordOf_r68_r5d_110 K23  l2.toInt l3.toInt l4.toInt l5.toInt (vw h) = dr → vw h = vw h0 → jX m_X9_wordOf 4 0 0 110 [(0, .ref 68), (1, .ref 5), (2, .int l2), (3, .int l3), (4, .int l4), (5, .int l5)] [] h 0 0 Q := by
  intro l2 l3 l4 l5 g0 h y0 y1 y2 y3 y4 z0 m23 J Sm D EV
  have el2 := jfull l2
  unfold d_X9_wordOf_r68_r5d_110 at D
  try rw [vrf z0] at D
  refine z_iinc (x := l5) (lsx9 := fun v1 => [(5, .int v1), (0, .ref 68), (1, .ref 5), (2, .int l2), (3, .int l3), (4, .int l4)]) rfl rfl rfl jko_1 (by omega) rfl (fun _ => rfl) (fun v1 ev1 => ?_)
  refine x_goto (tgt := 23) rfl rfl ?_
  try rw [show (l5.toInt + 1) = v1.toInt from by omega] at D
  exact jX.sub (jsb_c rfl (jsb_c rfl (jsb_c rfl (jsb_c rfl (jsb_c rfl (jsb_c rfl jsb_n)))))) (k23 l2 l3 l4 v1 g0 h (by omega) (jr_of rfl (by omega)) (jr_of rfl (by omega)) (jr_of rfl (by omega)) (jr_of rfl (by omega)) (by omega) z0 J Sm D EV)
set_option maxRecDepth 100000 in
set_option maxHeartbeats 4000000 in
theorem ct_X9_wordOf_r68_r5d_300105 {Dy : jH → Prop} {h0 : jH} {Q : Option Value → jH → Prop} {dr : Int} {K23 : Int → Int → Int → Int → jW → Int} {R23 : Int} (hD : jDk Dy) (hQ : ∀ (v : Int32) hx9, jJ jSgX Dy hx9 → jSm fp_X9_wordOf_r68_r5d h0 hx9 → dr = v.toInt → vw hx9 = vw h0 → Q (some (.int v)) hx9) (k23 : ∀ (l2 : Int32) (l3 : Int32) (l4 : Int32) (l5 : Int32) (g0 : Int32) (h : jH), 53 - l5.toInt < R23 → 0 ≤ l3.toInt ∧ l3.toInt ≤ 453 → 0 ≤ l4.toInt ∧ l4.toInt ≤ 1 → 0 ≤ l5.toInt ∧ l5.toInt ≤ 53 → 0 ≤ g0.toInt ∧ g0.toInt ≤ 400 → l3.toInt - l5.toInt ≤ 400 → jiv h 68 3 = g0 → jJ jSgX Dy h → jSm fp_X9_wordOf_r68_r5d h0 h → K23 l2.toInt l3.toInt l4.toInt l5.toInt (vw h) = dr → vw h = vw h0 → jX m_X9_wordOf 4 0 0 23 [(0, .ref 68), (1, .ref 5), (2, .int l2), (3, .int l3), (4, .int l4), (5, .int l5)] [] h 0 0 Q) : ∀ (l2 : Int32) (l3 : Int32) (l5 : Int32) (g0 : Int32) (h : jH), 0 ≤ l3.toInt ∧ l3.toInt ≤ 399 → 0 ≤ l5.toInt ∧ l5.toInt ≤ 52 → 0 ≤ g0.toInt ∧ g0.toInt ≤ 400 → l3.toInt - l5.toInt ≤ 400 → jiv h 68 3 = g0 → 53 - l5.toInt ≤ R23 → jJ jSgX Dy h → jSm fp_X9_wordOf_r68_r5d h0 h → d_X9_wordOf_r68_r5d_300105 K23  l2.toInt l3.toInt l5.toInt (vw h) = dr → vw h = vw h0 → jX m_X9_wordOf 4 0 0 105 [(0, .ref 68), (1, .ref 5), (2, .int l2), (3, .int l3), (5, .int l5)] [.int 1] h 0 0 Q := by
  intro l2 l3 l5 g0 h y0 y1 y2 y3 z0 m23 J Sm D EV
  have el2 := jfull l2
  unfold d_X9_wordOf_r68_r5d_300105 at D
  try rw [vrf z0] at D
  refine x_istore (lsx9 := [(4, .int 1), (0, .ref 68), (1, .ref 5), (2, .int l2), (3, .int l3), (5, .int l5)]) rfl rfl rfl ?_
  refine z_iinc (x := l3) (lsx9 := fun v1 => [(3, .int v1), (4, .int 1), (0, .ref 68), (1, .ref 5), (2, .int l2), (5, .int l5)]) rfl rfl rfl jko_1 (by omega) rfl (fun _ => rfl) (fun v1 ev1 => ?_)
  try rw [show (l3.toInt + 1) = v1.toInt from by omega] at D
  exact jX.sub (jsb_c rfl (jsb_c rfl (jsb_c rfl (jsb_c rfl (jsb_c rfl (jsb_c rfl jsb_n)))))) (ct_X9_wordOf_r68_r5d_110 hD hQ k23 l2 v1 1 l5 g0 h (jr_of rfl (by omega)) (jr_of jk_1 (by omega)) (jr_of rfl (by omega)) (jr_of rfl (by omega)) (by omega) z0 (by omega) J Sm (by rw [jk_1]; exact D) EV)
set_option maxRecDepth 100000 in
set_option maxHeartbeats 4000000 in
theorem ct_X9_wordOf_r68_r5d_200105 {Dy : jH → Prop} {h0 : jH} {Q : Option Value → jH → Prop} {dr : Int} {K23 : Int → Int → Int → Int → jW → Int} {R23 : Int} (hD : jDk Dy) (hQ : ∀ (v : Int32) hx9, jJ jSgX Dy hx9 → jSm fp_X9_wordOf_r68_r5d h0 hx9 → dr = v.toInt → vw hx9 = vw h0 → Q (some (.int v)) hx9) (k23 : ∀ (l2 : Int32) (l3 : Int32) (l4 : Int32) (l5 : Int32) (g0 : Int32) (h : jH), 53 - l5.toInt < R23 → 0 ≤ l3.toInt ∧ l3.toInt ≤ 453 → 0 ≤ l4.toInt ∧ l4.toInt ≤ 1 → 0 ≤ l5.toInt ∧ l5.toInt ≤ 53 → 0 ≤ g0.toInt ∧ g0.toInt ≤ 400 → l3.toInt - l5.toInt ≤ 400 → jiv h 68 3 = g0 → jJ jSgX Dy h → jSm fp_X9_wordOf_r68_r5d h0 h → K23 l2.toInt l3.toInt l4.toInt l5.toInt (vw h) = dr → vw h = vw h0 → jX m_X9_wordOf 4 0 0 23 [(0, .ref 68), (1, .ref 5), (2, .int l2), (3, .int l3), (4, .int l4), (5, .int l5)] [] h 0 0 Q) : ∀ (l2 : Int32) (l3 : Int32) (l5 : Int32) (g0 : Int32) (h : jH), 0 ≤ l3.toInt ∧ l3.toInt ≤ 452 → 0 ≤ l5.toInt ∧ l5.toInt ≤ 52 → 0 ≤ g0.toInt ∧ g0.toInt ≤ 400 → l3.toInt - l5.toInt ≤ 400 → jiv h 68 3 = g0 → 53 - l5.toInt ≤ R23 → jJ jSgX Dy h → jSm fp_X9_wordOf_r68_r5d h0 h → d_X9_wordOf_r68_r5d_200105 K23  l2.toInt l3.toInt l5.toInt (vw h) = dr → vw h = vw h0 → jX m_X9_wordOf 4 0 0 105 [(0, .ref 68), (1, .ref 5), (2, .int l2), (3, .int l3), (5, .int l5)] [.int 0] h 0 0 Q := by
  intro l2 l3 l5 g0 h y0 y1 y2 y3 z0 m23 J Sm D EV
  have el2 := jfull l2
  unfold d_X9_wordOf_r68_r5d_200105 at D
  try rw [vrf z0] at D
  refine x_istore (lsx9 := [(4, .int 0), (0, .ref 68), (1, .ref 5), (2, .int l2), (3, .int l3), (5, .int l5)]) rfl rfl rfl ?_
  refine z_iinc (x := l3) (lsx9 := fun v1 => [(3, .int v1), (4, .int 0), (0, .ref 68), (1, .ref 5), (2, .int l2), (5, .int l5)]) rfl rfl rfl jko_1 (by omega) rfl (fun _ => rfl) (fun v1 ev1 => ?_)
  try rw [show (l3.toInt + 1) = v1.toInt from by omega] at D
  exact jX.sub (jsb_c rfl (jsb_c rfl (jsb_c rfl (jsb_c rfl (jsb_c rfl (jsb_c rfl jsb_n)))))) (ct_X9_wordOf_r68_r5d_110 hD hQ k23 l2 v1 0 l5 g0 h (jr_of rfl (by omega)) (jr_of jk_0 (by omega)) (jr_of rfl (by omega)) (jr_of rfl (by omega)) (by omega) z0 (by omega) J Sm (by rw [jk_0]; exact D) EV)
set_option maxRecDepth 100000 in
set_option maxHeartbeats 4000000 in
theorem ct_X9_wordOf_r68_r5d_104 {Dy : jH → Prop} {h0 : jH} {Q : Option Value → jH → Prop} {dr : Int} {K23 : Int → Int → Int → Int → jW → Int} {R23 : Int} (hD : jDk Dy) (hQ : ∀ (v : Int32) hx9, jJ jSgX Dy hx9 → jSm fp_X9_wordOf_r68_r5d h0 hx9 → dr = v.toInt → vw hx9 = vw h0 → Q (some (.int v)) hx9) (k23 : ∀ (l2 : Int32) (l3 : Int32) (l4 : Int32) (l5 : Int32) (g0 : Int32) (h : jH), 53 - l5.toInt < R23 → 0 ≤ l3.toInt ∧ l3.toInt ≤ 453 → 0 ≤ l4.toInt ∧ l4.toInt ≤ 1 → 0 ≤ l5.toInt ∧ l5.toInt ≤ 53 → 0 ≤ g0.toInt ∧ g0.toInt ≤ 400 → l3.toInt - l5.toInt ≤ 400 → jiv h 68 3 = g0 → jJ jSgX Dy h → jSm fp_X9_wordOf_r68_r5d h0 h → K23 l2.toInt l3.toInt l4.toInt l5.toInt (vw h) = dr → vw h = vw h0 → jX m_X9_wordOf 4 0 0 23 [(0, .ref 68), (1, .ref 5), (2, .int l2), (3, .int l3), (4, .int l4), (5, .int l5)] [] h 0 0 Q) : ∀ (l2 : Int32) (l3 : Int32) (l5 : Int32) (g0 : Int32) (h : jH), 0 ≤ l3.toInt ∧ l3.toInt ≤ 452 → 0 ≤ l5.toInt ∧ l5.toInt ≤ 52 → 0 ≤ g0.toInt ∧ g0.toInt ≤ 400 → l3.toInt - l5.toInt ≤ 400 → jiv h 68 3 = g0 → 53 - l5.toInt ≤ R23 → jJ jSgX Dy h → jSm fp_X9_wordOf_r68_r5d h0 h → d_X9_wordOf_r68_r5d_104 K23  l2.toInt l3.toInt l5.toInt (vw h) = dr → vw h = vw h0 → jX m_X9_wordOf 4 0 0 104 [(0, .ref 68), (1, .ref 5), (2, .int l2), (3, .int l3), (5, .int l5)] [] h 0 0 Q := by
  intro l2 l3 l5 g0 h y0 y1 y2 y3 z0 m23 J Sm D EV
  have el2 := jfull l2
  unfold d_X9_wordOf_r68_r5d_104 at D
  try rw [vrf z0] at D
  refine x_iconst (v := 0) rfl ki_0 ?_
  exact jX.sub (jsb_c rfl (jsb_c rfl (jsb_c rfl (jsb_c rfl (jsb_c rfl jsb_n))))) (ct_X9_wordOf_r68_r5d_200105 hD hQ k23 l2 l3 l5 g0 h (jr_of rfl (by omega)) (jr_of rfl (by omega)) (jr_of rfl (by omega)) (by omega) z0 (by omega) J Sm D EV)
set_option maxRecDepth 100000 in
set_option maxHeartbeats 4000000 in
theorem ct_X9_wordOf_r68_r5d_62 {Dy : jH → Prop} {h0 : jH} {Q : Option Value → jH → Prop} {dr : Int} {K23 : Int → Int → Int → Int → jW → Int} {R23 : Int} (hD : jDk Dy) (hQ : ∀ (v : Int32) hx9, jJ jSgX Dy hx9 → jSm fp_X9_wordOf_r68_r5d h0 hx9 → dr = v.toInt → vw hx9 = vw h0 → Q (some (.int v)) hx9) (k23 : ∀ (l2 : Int32) (l3 : Int32) (l4 : Int32) (l5 : Int32) (g0 : Int32) (h : jH), 53 - l5.toInt < R23 → 0 ≤ l3.toInt ∧ l3.toInt ≤ 453 → 0 ≤ l4.toInt ∧ l4.toInt ≤ 1 → 0 ≤ l5.toInt ∧ l5.toInt ≤ 53 → 0 ≤ g0.toInt ∧ g0.toInt ≤ 400 → l3.toInt - l5.toInt ≤ 400 → jiv h 68 3 = g0 → jJ jSgX Dy h → jSm fp_X9_wordOf_r68_r5d h0 h → K23 l2.toInt l3.toInt l4.toInt l5.toInt (vw h) = dr → vw h = vw h0 → jX m_X9_wordOf 4 0 0 23 [(0, .ref 68), (1, .ref 5), (2, .int l2), (3, .int l3), (4, .int l4), (5, .int l5)] [] h 0 0 Q) : ∀ (l2 : Int32) (l5 : Int32) (g0 : Int32) (h : jH), 0 ≤ l5.toInt ∧ l5.toInt ≤ 52 → 0 ≤ g0.toInt ∧ g0.toInt ≤ 400 → jiv h 68 3 = g0 → 53 - l5.toInt ≤ R23 → jJ jSgX Dy h → jSm fp_X9_wordOf_r68_r5d h0 h → d_X9_wordOf_r68_r5d_62 K23  l2.toInt l5.toInt (vw h) = dr → vw h = vw h0 → jX m_X9_wordOf 4 0 0 62 [(0, .ref 68), (1, .ref 5), (2, .int l2), (5, .int l5)] [] h 0 0 Q := by
  intro l2 l5 g0 h y0 y1 z0 m23 J Sm D EV
  have el2 := jfull l2
  unfold d_X9_wordOf_r68_r5d_62 at D
  try rw [vrf z0] at D
  refine z_iincW (x := l2) (lsx9 := fun v1 => [(2, .int v1), (0, .ref 68), (1, .ref 5), (5, .int l5)]) rfl rfl rfl jko_1 rfl (fun _ => rfl) (fun v1 ev1 => ?_)
  have fv1 := jfull v1
  try rw [← ev1] at D
  refine x_aloadn (x := 68) rfl rfl ?_
  refine z_getM (N := 6) (v := g0) 9 3 rfl f_9_22 rfl J rfl z0 ?_
  refine x_istoren (lsx9 := [(3, .int g0), (2, .int v1), (0, .ref 68), (1, .ref 5), (5, .int l5)]) rfl rfl rfl ?_
  refine x_iconst (v := 1) rfl ki_1 ?_
  refine x_istore (lsx9 := [(4, .int 1), (3, .int g0), (2, .int v1), (0, .ref 68), (1, .ref 5), (5, .int l5)]) rfl rfl rfl ?_
  refine x_goto (tgt := 110) rfl rfl ?_
  exact jX.sub (jsb_c rfl (jsb_c rfl (jsb_c rfl (jsb_c rfl (jsb_c rfl (jsb_c rfl jsb_n)))))) (ct_X9_wordOf_r68_r5d_110 hD hQ k23 v1 g0 1 l5 g0 h (jr_of rfl (by omega)) (jr_of jk_1 (by omega)) (jr_of rfl (by omega)) (jr_of rfl (by omega)) (by omega) z0 (by omega) J Sm (by rw [jk_1]; exact D) EV)
set_option maxRecDepth 100000 in
set_option maxHeartbeats 4000000 in
theorem ct_X9_wordOf_r68_r5d_23 {Dy : jH → Prop} {h0 : jH} {Q : Option Value → jH → Prop} {dr : Int} (hD : jDk Dy) (hQ : ∀ (v : Int32) hx9, jJ jSgX Dy hx9 → jSm fp_X9_wordOf_r68_r5d h0 hx9 → dr = v.toInt → vw hx9 = vw h0 → Q (some (.int v)) hx9) : ∀ r : Nat, ∀ (l2 : Int32) (l3 : Int32) (l4 : Int32) (l5 : Int32) (g0 : Int32) (h : jH), 53 - l5.toInt < (r : Int) → 0 ≤ l3.toInt ∧ l3.toInt ≤ 453 → 0 ≤ l4.toInt ∧ l4.toInt ≤ 1 → 0 ≤ l5.toInt ∧ l5.toInt ≤ 53 → 0 ≤ g0.toInt ∧ g0.toInt ≤ 400 → l3.toInt - l5.toInt ≤ 400 → jiv h 68 3 = g0 → jJ jSgX Dy h → jSm fp_X9_wordOf_r68_r5d h0 h → d_X9_wordOf_r68_r5d_23 r l2.toInt l3.toInt l4.toInt l5.toInt (vw h) = dr → vw h = vw h0 → jX m_X9_wordOf 4 0 0 23 [(0, .ref 68), (1, .ref 5), (2, .int l2), (3, .int l3), (4, .int l4), (5, .int l5)] [] h 0 0 Q := by
  intro r
  induction r with
  | zero =>
    intro l2 l3 l4 l5 g0 h hm y0 y1 y2 y3 y4 z0  J Sm D EV
    exfalso
    have el2 := jfull l2
    omega
  | succ r ih =>
    intro l2 l3 l4 l5 g0 h hm y0 y1 y2 y3 y4 z0  J Sm D EV
    have el2 := jfull l2
    rw [d_X9_wordOf_r68_r5d_23.eq_2] at D
    try rw [vrf z0] at D
    refine x_iload (x := l5) rfl rfl ?_
    refine x_aloadn (x := 5) rfl rfl ?_
    refine x_invS (N := m_J0_length_8abf5) (i := 0) (As := []) (st := [.int l5]) (dx9 := 1) (by decide) rfl t_J0_length_8abf5 ⟨q_9_38, i_J0_length_8abf5.1, i_J0_length_8abf5.2⟩ rfl rfl (by decide) rfl rfl (zc_slen (N := 53) (v := 53) rfl J rfl rfl (by decide) ?_)
    show jX m_X9_wordOf 4 0 0 29 [(0, .ref 68), (1, .ref 5), (2, .int l2), (3, .int l3), (4, .int l4), (5, .int l5)] [.int 53, .int l5] _ 0 0 _
    refine x_icge (tgt := 116) rfl rfl (ti_ge rfl jk_53 ⟨fun c1 => ?_, fun c1 => ?_⟩)
    ·
      rw [if_pos (by omega)] at D
      refine x_iconst (v := (-1)) rfl ki_m1 ?_
      refine x_iret rfl rfl ?_
      exact hQ _ _ J Sm (D.symm.trans (show (-1) = ((-1) : Int32).toInt from by have := jk_m1; omega)) EV
    ·
      rw [if_neg (by omega)] at D
      refine x_aloadn (x := 5) rfl rfl ?_
      refine x_iload (x := l5) rfl rfl ?_
      refine x_invS (N := m_J0_charAt_5068e) (i := 0) (As := [.int l5]) (st := []) (dx9 := 3) (by decide) rfl t_J0_charAt_5068e ⟨q_9_43, i_J0_charAt_5068e.1, i_J0_charAt_5068e.2⟩ rfl rfl (by decide) rfl rfl (zc_scharD (N := 53) rfl J rfl rfl rfl (by omega) (fun v2 ev2 => ?_))
      try rw [← ev2.1] at D
      show jX m_X9_wordOf 4 0 0 38 [(0, .ref 68), (1, .ref 5), (2, .int l2), (3, .int l3), (4, .int l4), (5, .int l5)] [.int v2] _ 0 0 _
      refine x_istore (lsx9 := [(6, .int v2), (0, .ref 68), (1, .ref 5), (2, .int l2), (3, .int l3), (4, .int l4), (5, .int l5)]) rfl rfl rfl ?_
      refine x_iload (x := v2) rfl rfl ?_
      refine x_bipush (v := 32) rfl kb_32 ?_
      refine x_icne (tgt := 76) rfl rfl (ti_ne rfl jk_32 ⟨fun c3 => ?_, fun c3 => ?_⟩)
      ·
        rw [if_neg (by omega)] at D
        refine x_iload (x := l4) rfl rfl ?_
        refine x_ifeq (tgt := 104) rfl rfl (ti_eq rfl jk_0 ⟨fun c4 => ?_, fun c4 => ?_⟩)
        ·
          rw [if_pos (by omega)] at D
          exact jX.sub (jsb_c rfl (jsb_c rfl (jsb_c rfl (jsb_c rfl (jsb_c rfl jsb_n))))) (ct_X9_wordOf_r68_r5d_104 hD hQ ih l2 l3 l5 g0 h (jr_of rfl (by omega)) (jr_of rfl (by omega)) (jr_of rfl (by omega)) (by omega) z0 (by omega) J Sm D EV)
        ·
          rw [if_neg (by omega)] at D
          refine x_iloadn (x := l3) rfl rfl ?_
          refine x_aloadn (x := 68) rfl rfl ?_
          refine z_getI (N := 6) 9 4 rfl f_9_25 rfl J rfl sg_68_4_5_1_0_1 (fun v5 qv5 ev5 => ?_)
          try rw [vrf qv5] at D
          refine x_icge (tgt := 104) rfl rfl (ti_ge rfl rfl ⟨fun c6 => ?_, fun c6 => ?_⟩)
          ·
            rw [if_pos (by omega)] at D
            exact jX.sub (jsb_c rfl (jsb_c rfl (jsb_c rfl (jsb_c rfl (jsb_c rfl jsb_n))))) (ct_X9_wordOf_r68_r5d_104 hD hQ ih l2 l3 l5 g0 h (jr_of rfl (by omega)) (jr_of rfl (by omega)) (jr_of rfl (by omega)) (by omega) z0 (by omega) J Sm D EV)
          ·
            rw [if_neg (by omega)] at D
            refine x_aloadn (x := 68) rfl rfl ?_
            refine z_getR (N := 6) (b := 69) 9 0 rfl f_9_11 rfl J rfl 8704 ⟨rfl, rfl⟩ rfl ?_
            refine x_iloadn (x := l3) rfl rfl ?_
            refine z_iald (N := 400) rfl J rfl sg_69_0_400_1_0_1 rfl (by omega) (fun v7 qv7 ev7 => ?_)
            try rw [vrd qv7 (show l3.toInt = l3.toInt from by omega)] at D
            refine x_iload (x := v2) rfl rfl ?_
            refine x_icne (tgt := 104) rfl rfl (ti_ne rfl rfl ⟨fun c8 => ?_, fun c8 => ?_⟩)
            ·
              rw [if_neg (by omega)] at D
              exact jX.sub (jsb_c rfl (jsb_c rfl (jsb_c rfl (jsb_c rfl (jsb_c rfl jsb_n))))) (ct_X9_wordOf_r68_r5d_104 hD hQ ih l2 l3 l5 g0 h (jr_of rfl (by omega)) (jr_of rfl (by omega)) (jr_of rfl (by omega)) (by omega) z0 (by omega) J Sm D EV)
            ·
              rw [if_pos (by omega)] at D
              refine x_iconst (v := 1) rfl ki_1 ?_
              refine x_goto (tgt := 105) rfl rfl ?_
              exact jX.sub (jsb_c rfl (jsb_c rfl (jsb_c rfl (jsb_c rfl (jsb_c rfl jsb_n))))) (ct_X9_wordOf_r68_r5d_300105 hD hQ ih l2 l3 l5 g0 h (jr_of rfl (by omega)) (jr_of rfl (by omega)) (jr_of rfl (by omega)) (by omega) z0 (by omega) J Sm D EV)
      ·
        rw [if_pos (by omega)] at D
        refine x_iload (x := l4) rfl rfl ?_
        refine x_ifeq (tgt := 62) rfl rfl (ti_eq rfl jk_0 ⟨fun c9 => ?_, fun c9 => ?_⟩)
        ·
          rw [if_pos (by omega)] at D
          exact jX.sub (jsb_c rfl (jsb_c rfl (jsb_c rfl (jsb_c rfl jsb_n)))) (ct_X9_wordOf_r68_r5d_62 hD hQ ih l2 l5 g0 h (jr_of rfl (by omega)) (jr_of rfl (by omega)) z0 (by omega) J Sm D EV)
        ·
          rw [if_neg (by omega)] at D
          refine x_iloadn (x := l3) rfl rfl ?_
          refine x_aloadn (x := 68) rfl rfl ?_
          refine z_getI (N := 6) 9 4 rfl f_9_25 rfl J rfl sg_68_4_5_1_0_1 (fun v10 qv10 ev10 => ?_)
          try rw [vrf qv10] at D
          refine x_icne (tgt := 62) rfl rfl (ti_ne rfl rfl ⟨fun c11 => ?_, fun c11 => ?_⟩)
          ·
            rw [if_neg (by omega)] at D
            exact jX.sub (jsb_c rfl (jsb_c rfl (jsb_c rfl (jsb_c rfl jsb_n)))) (ct_X9_wordOf_r68_r5d_62 hD hQ ih l2 l5 g0 h (jr_of rfl (by omega)) (jr_of rfl (by omega)) z0 (by omega) J Sm D EV)
          ·
            rw [if_pos (by omega)] at D
            refine x_iloadn (x := l2) rfl rfl ?_
            refine x_iret rfl rfl ?_
            exact hQ _ _ J Sm (D.symm.trans (show l2.toInt = l2.toInt from by omega)) EV
set_option maxRecDepth 100000 in
set_option maxHeartbeats 4000000 in
theorem sf_X9_wordOf_r68_r5d {Dy : jH → Prop} {h : jH} {Q : Option Value → jH → Prop} {dr : Int} (hD : jDk Dy) (J : jJ jSgX Dy h) (D : d_X9_wordOf_r68_r5d (vw h) = dr) (hQ : ∀ (v : Int32) hx9, jJ jSgX Dy hx9 → jSm fp_X9_wordOf_r68_r5d h hx9 → dr = v.toInt → vw hx9 = vw h → Q (some (.int v)) hx9) : jC m_X9_wordOf 4 0 0 [.ref 68, .ref 5] h Q := by
  refine jC.of rfl k_X9_wordOf rfl ?_
  have Sm := jSm_rf fp_X9_wordOf_r68_r5d h
  show jX m_X9_wordOf 4 0 0 0 [(0, .ref 68), (1, .ref 5)] [] _ 0 0 _
  unfold d_X9_wordOf_r68_r5d at D
  have EV : vw h = vw h := rfl
  refine x_aloadn (x := 68) rfl rfl ?_
  refine z_getI (N := 6) 9 5 rfl f_9_28 rfl J rfl sg_68_5_6_1_0_1 (fun v1 qv1 ev1 => ?_)
  try rw [vrf qv1] at D
  refine x_iconst (v := 1) rfl ki_1 ?_
  refine x_iceq (tgt := 10) rfl rfl (ti_eq rfl jk_1 ⟨fun c2 => ?_, fun c2 => ?_⟩)
  ·
    rw [if_pos (by omega)] at D
    refine x_iconst (v := 0) rfl ki_0 ?_
    refine x_istoren (lsx9 := [(2, .int 0), (0, .ref 68), (1, .ref 5)]) rfl rfl rfl ?_
    refine x_aloadn (x := 68) rfl rfl ?_
    refine z_getI (N := 6) 9 3 rfl f_9_22 rfl J rfl sg_68_3_4_1_0_1 (fun v3 qv3 ev3 => ?_)
    try rw [vrf qv3] at D
    refine x_istoren (lsx9 := [(3, .int v3), (2, .int 0), (0, .ref 68), (1, .ref 5)]) rfl rfl rfl ?_
    refine x_iconst (v := 1) rfl ki_1 ?_
    refine x_istore (lsx9 := [(4, .int 1), (3, .int v3), (2, .int 0), (0, .ref 68), (1, .ref 5)]) rfl rfl rfl ?_
    refine x_iconst (v := 0) rfl ki_0 ?_
    refine x_istore (lsx9 := [(5, .int 0), (4, .int 1), (3, .int v3), (2, .int 0), (0, .ref 68), (1, .ref 5)]) rfl rfl rfl ?_
    exact jX.sub (jsb_c rfl (jsb_c rfl (jsb_c rfl (jsb_c rfl (jsb_c rfl (jsb_c rfl jsb_n)))))) (ct_X9_wordOf_r68_r5d_23 hD hQ  54 0 v3 1 0 v3 h (by have := jk_0; omega) (jr_of rfl (by omega)) (jr_of jk_1 (by omega)) (jr_of jk_0 (by omega)) (jr_of rfl (by omega)) (by have := jk_0; omega) qv3 J Sm (by rw [jk_0, jk_1]; exact D) EV)
  ·
    rw [if_neg (by omega)] at D
    refine x_iconst (v := (-1)) rfl ki_m1 ?_
    refine x_iret rfl rfl ?_
    exact hQ _ _ J Sm (D.symm.trans (show (-1) = ((-1) : Int32).toInt from by have := jk_m1; omega)) EV
def fp_X9_wordOf_r68_r6d : jFp := []
set_option maxRecDepth 100000 in
set_option maxHeartbeats 4000000 in
theorem ct_X9_wordOf_r68_r6d_110 {Dy : jH → Prop} {h0 : jH} {Q : Option Value → jH → Prop} {dr : Int} {K23 : Int → Int → Int → Int → jW → Int} {R23 : Int} (hD : jDk Dy) (hQ : ∀ (v : Int32) hx9, jJ jSgX Dy hx9 → jSm fp_X9_wordOf_r68_r6d h0 hx9 → dr = v.toInt → vw hx9 = vw h0 → Q (some (.int v)) hx9) (k23 : ∀ (l2 : Int32) (l3 : Int32) (l4 : Int32) (l5 : Int32) (g0 : Int32) (h : jH), 7 - l5.toInt < R23 → 0 ≤ l3.toInt ∧ l3.toInt ≤ 407 → 0 ≤ l4.toInt ∧ l4.toInt ≤ 1 → 0 ≤ l5.toInt ∧ l5.toInt ≤ 7 → 0 ≤ g0.toInt ∧ g0.toInt ≤ 400 → l3.toInt - l5.toInt ≤ 400 → jiv h 68 3 = g0 → jJ jSgX Dy h → jSm fp_X9_wordOf_r68_r6d h0 h → K23 l2.toInt l3.toInt l4.toInt l5.toInt (vw h) = dr → vw h = vw h0 → jX m_X9_wordOf 4 0 0 23 [(0, .ref 68), (1, .ref 6), (2, .int l2), (3, .int l3), (4, .int l4), (5, .int l5)] [] h 0 0 Q) : ∀ (l2 : Int32) (l3 : Int32) (l4 : Int32) (l5 : Int32) (g0 : Int32) (h : jH), 0 ≤ l3.toInt ∧ l3.toInt ≤ 407 → 0 ≤ l4.toInt ∧ l4.toInt ≤ 1 → 0 ≤ l5.toInt ∧ l5.toInt ≤ 6 → 0 ≤ g0.toInt ∧ g0.toInt ≤ 400 → l3.toInt - l5.toInt ≤ 401 → jiv h 68 3 = g0 → 7 - l5.toInt ≤ R23 → jJ jSgX Dy h → jSm fp_X9_wordOf_r68_r6d h0 h → d_X9_wordOf_r68_r6d_110 K23  l2.toInt l3.toInt l4.toInt l5.toInt (vw h) = dr → vw h = vw h0 → jX m_X9_wordOf 4 0 0 110 [(0, .ref 68), (1, .ref 6), (2, .int l2), (3, .int l3), (4, .int l4), (5, .int l5)] [] h 0 0 Q := by
  intro l2 l3 l4 l5 g0 h y0 y1 y2 y3 y4 z0 m23 J Sm D EV
  have el2 := jfull l2
  unfold d_X9_wordOf_r68_r6d_110 at D
  try rw [vrf z0] at D
  refine z_iinc (x := l5) (lsx9 := fun v1 => [(5, .int v1), (0, .ref 68), (1, .ref 6), (2, .int l2), (3, .int l3), (4, .int l4)]) rfl rfl rfl jko_1 (by omega) rfl (fun _ => rfl) (fun v1 ev1 => ?_)
  refine x_goto (tgt := 23) rfl rfl ?_
  try rw [show (l5.toInt + 1) = v1.toInt from by omega] at D
  exact jX.sub (jsb_c rfl (jsb_c rfl (jsb_c rfl (jsb_c rfl (jsb_c rfl (jsb_c rfl jsb_n)))))) (k23 l2 l3 l4 v1 g0 h (by omega) (jr_of rfl (by omega)) (jr_of rfl (by omega)) (jr_of rfl (by omega)) (jr_of rfl (by omega)) (by omega) z0 J Sm D EV)
set_option maxRecDepth 100000 in
set_option maxHeartbeats 4000000 in
theorem ct_X9_wordOf_r68_r6d_300105 {Dy : jH → Prop} {h0 : jH} {Q : Option Value → jH → Prop} {dr : Int} {K23 : Int → Int → Int → Int → jW → Int} {R23 : Int} (hD : jDk Dy) (hQ : ∀ (v : Int32) hx9, jJ jSgX Dy hx9 → jSm fp_X9_wordOf_r68_r6d h0 hx9 → dr = v.toInt → vw hx9 = vw h0 → Q (some (.int v)) hx9) (k23 : ∀ (l2 : Int32) (l3 : Int32) (l4 : Int32) (l5 : Int32) (g0 : Int32) (h : jH), 7 - l5.toInt < R23 → 0 ≤ l3.toInt ∧ l3.toInt ≤ 407 → 0 ≤ l4.toInt ∧ l4.toInt ≤ 1 → 0 ≤ l5.toInt ∧ l5.toInt ≤ 7 → 0 ≤ g0.toInt ∧ g0.toInt ≤ 400 → l3.toInt - l5.toInt ≤ 400 → jiv h 68 3 = g0 → jJ jSgX Dy h → jSm fp_X9_wordOf_r68_r6d h0 h → K23 l2.toInt l3.toInt l4.toInt l5.toInt (vw h) = dr → vw h = vw h0 → jX m_X9_wordOf 4 0 0 23 [(0, .ref 68), (1, .ref 6), (2, .int l2), (3, .int l3), (4, .int l4), (5, .int l5)] [] h 0 0 Q) : ∀ (l2 : Int32) (l3 : Int32) (l5 : Int32) (g0 : Int32) (h : jH), 0 ≤ l3.toInt ∧ l3.toInt ≤ 399 → 0 ≤ l5.toInt ∧ l5.toInt ≤ 6 → 0 ≤ g0.toInt ∧ g0.toInt ≤ 400 → l3.toInt - l5.toInt ≤ 400 → jiv h 68 3 = g0 → 7 - l5.toInt ≤ R23 → jJ jSgX Dy h → jSm fp_X9_wordOf_r68_r6d h0 h → d_X9_wordOf_r68_r6d_300105 K23  l2.toInt l3.toInt l5.toInt (vw h) = dr → vw h = vw h0 → jX m_X9_wordOf 4 0 0 105 [(0, .ref 68), (1, .ref 6), (2, .int l2), (3, .int l3), (5, .int l5)] [.int 1] h 0 0 Q := by
  intro l2 l3 l5 g0 h y0 y1 y2 y3 z0 m23 J Sm D EV
  have el2 := jfull l2
  unfold d_X9_wordOf_r68_r6d_300105 at D
  try rw [vrf z0] at D
  refine x_istore (lsx9 := [(4, .int 1), (0, .ref 68), (1, .ref 6), (2, .int l2), (3, .int l3), (5, .int l5)]) rfl rfl rfl ?_
  refine z_iinc (x := l3) (lsx9 := fun v1 => [(3, .int v1), (4, .int 1), (0, .ref 68), (1, .ref 6), (2, .int l2), (5, .int l5)]) rfl rfl rfl jko_1 (by omega) rfl (fun _ => rfl) (fun v1 ev1 => ?_)
  try rw [show (l3.toInt + 1) = v1.toInt from by omega] at D
  exact jX.sub (jsb_c rfl (jsb_c rfl (jsb_c rfl (jsb_c rfl (jsb_c rfl (jsb_c rfl jsb_n)))))) (ct_X9_wordOf_r68_r6d_110 hD hQ k23 l2 v1 1 l5 g0 h (jr_of rfl (by omega)) (jr_of jk_1 (by omega)) (jr_of rfl (by omega)) (jr_of rfl (by omega)) (by omega) z0 (by omega) J Sm (by rw [jk_1]; exact D) EV)
set_option maxRecDepth 100000 in
set_option maxHeartbeats 4000000 in
theorem ct_X9_wordOf_r68_r6d_200105 {Dy : jH → Prop} {h0 : jH} {Q : Option Value → jH → Prop} {dr : Int} {K23 : Int → Int → Int → Int → jW → Int} {R23 : Int} (hD : jDk Dy) (hQ : ∀ (v : Int32) hx9, jJ jSgX Dy hx9 → jSm fp_X9_wordOf_r68_r6d h0 hx9 → dr = v.toInt → vw hx9 = vw h0 → Q (some (.int v)) hx9) (k23 : ∀ (l2 : Int32) (l3 : Int32) (l4 : Int32) (l5 : Int32) (g0 : Int32) (h : jH), 7 - l5.toInt < R23 → 0 ≤ l3.toInt ∧ l3.toInt ≤ 407 → 0 ≤ l4.toInt ∧ l4.toInt ≤ 1 → 0 ≤ l5.toInt ∧ l5.toInt ≤ 7 → 0 ≤ g0.toInt ∧ g0.toInt ≤ 400 → l3.toInt - l5.toInt ≤ 400 → jiv h 68 3 = g0 → jJ jSgX Dy h → jSm fp_X9_wordOf_r68_r6d h0 h → K23 l2.toInt l3.toInt l4.toInt l5.toInt (vw h) = dr → vw h = vw h0 → jX m_X9_wordOf 4 0 0 23 [(0, .ref 68), (1, .ref 6), (2, .int l2), (3, .int l3), (4, .int l4), (5, .int l5)] [] h 0 0 Q) : ∀ (l2 : Int32) (l3 : Int32) (l5 : Int32) (g0 : Int32) (h : jH), 0 ≤ l3.toInt ∧ l3.toInt ≤ 406 → 0 ≤ l5.toInt ∧ l5.toInt ≤ 6 → 0 ≤ g0.toInt ∧ g0.toInt ≤ 400 → l3.toInt - l5.toInt ≤ 400 → jiv h 68 3 = g0 → 7 - l5.toInt ≤ R23 → jJ jSgX Dy h → jSm fp_X9_wordOf_r68_r6d h0 h → d_X9_wordOf_r68_r6d_200105 K23  l2.toInt l3.toInt l5.toInt (vw h) = dr → vw h = vw h0 → jX m_X9_wordOf 4 0 0 105 [(0, .ref 68), (1, .ref 6), (2, .int l2), (3, .int l3), (5, .int l5)] [.int 0] h 0 0 Q := by
  intro l2 l3 l5 g0 h y0 y1 y2 y3 z0 m23 J Sm D EV
  have el2 := jfull l2
  unfold d_X9_wordOf_r68_r6d_200105 at D
  try rw [vrf z0] at D
  refine x_istore (lsx9 := [(4, .int 0), (0, .ref 68), (1, .ref 6), (2, .int l2), (3, .int l3), (5, .int l5)]) rfl rfl rfl ?_
  refine z_iinc (x := l3) (lsx9 := fun v1 => [(3, .int v1), (4, .int 0), (0, .ref 68), (1, .ref 6), (2, .int l2), (5, .int l5)]) rfl rfl rfl jko_1 (by omega) rfl (fun _ => rfl) (fun v1 ev1 => ?_)
  try rw [show (l3.toInt + 1) = v1.toInt from by omega] at D
  exact jX.sub (jsb_c rfl (jsb_c rfl (jsb_c rfl (jsb_c rfl (jsb_c rfl (jsb_c rfl jsb_n)))))) (ct_X9_wordOf_r68_r6d_110 hD hQ k23 l2 v1 0 l5 g0 h (jr_of rfl (by omega)) (jr_of jk_0 (by omega)) (jr_of rfl (by omega)) (jr_of rfl (by omega)) (by omega) z0 (by omega) J Sm (by rw [jk_0]; exact D) EV)
set_option maxRecDepth 100000 in
set_option maxHeartbeats 4000000 in
theorem ct_X9_wordOf_r68_r6d_104 {Dy : jH → Prop} {h0 : jH} {Q : Option Value → jH → Prop} {dr : Int} {K23 : Int → Int → Int → Int → jW → Int} {R23 : Int} (hD : jDk Dy) (hQ : ∀ (v : Int32) hx9, jJ jSgX Dy hx9 → jSm fp_X9_wordOf_r68_r6d h0 hx9 → dr = v.toInt → vw hx9 = vw h0 → Q (some (.int v)) hx9) (k23 : ∀ (l2 : Int32) (l3 : Int32) (l4 : Int32) (l5 : Int32) (g0 : Int32) (h : jH), 7 - l5.toInt < R23 → 0 ≤ l3.toInt ∧ l3.toInt ≤ 407 → 0 ≤ l4.toInt ∧ l4.toInt ≤ 1 → 0 ≤ l5.toInt ∧ l5.toInt ≤ 7 → 0 ≤ g0.toInt ∧ g0.toInt ≤ 400 → l3.toInt - l5.toInt ≤ 400 → jiv h 68 3 = g0 → jJ jSgX Dy h → jSm fp_X9_wordOf_r68_r6d h0 h → K23 l2.toInt l3.toInt l4.toInt l5.toInt (vw h) = dr → vw h = vw h0 → jX m_X9_wordOf 4 0 0 23 [(0, .ref 68), (1, .ref 6), (2, .int l2), (3, .int l3), (4, .int l4), (5, .int l5)] [] h 0 0 Q) : ∀ (l2 : Int32) (l3 : Int32) (l5 : Int32) (g0 : Int32) (h : jH), 0 ≤ l3.toInt ∧ l3.toInt ≤ 406 → 0 ≤ l5.toInt ∧ l5.toInt ≤ 6 → 0 ≤ g0.toInt ∧ g0.toInt ≤ 400 → l3.toInt - l5.toInt ≤ 400 → jiv h 68 3 = g0 → 7 - l5.toInt ≤ R23 → jJ jSgX Dy h → jSm fp_X9_wordOf_r68_r6d h0 h → d_X9_wordOf_r68_r6d_104 K23  l2.toInt l3.toInt l5.toInt (vw h) = dr → vw h = vw h0 → jX m_X9_wordOf 4 0 0 104 [(0, .ref 68), (1, .ref 6), (2, .int l2), (3, .int l3), (5, .int l5)] [] h 0 0 Q := by
  intro l2 l3 l5 g0 h y0 y1 y2 y3 z0 m23 J Sm D EV
  have el2 := jfull l2
  unfold d_X9_wordOf_r68_r6d_104 at D
  try rw [vrf z0] at D
  refine x_iconst (v := 0) rfl ki_0 ?_
  exact jX.sub (jsb_c rfl (jsb_c rfl (jsb_c rfl (jsb_c rfl (jsb_c rfl jsb_n))))) (ct_X9_wordOf_r68_r6d_200105 hD hQ k23 l2 l3 l5 g0 h (jr_of rfl (by omega)) (jr_of rfl (by omega)) (jr_of rfl (by omega)) (by omega) z0 (by omega) J Sm D EV)
set_option maxRecDepth 100000 in
set_option maxHeartbeats 4000000 in
theorem ct_X9_wordOf_r68_r6d_62 {Dy : jH → Prop} {h0 : jH} {Q : Option Value → jH → Prop} {dr : Int} {K23 : Int → Int → Int → Int → jW → Int} {R23 : Int} (hD : jDk Dy) (hQ : ∀ (v : Int32) hx9, jJ jSgX Dy hx9 → jSm fp_X9_wordOf_r68_r6d h0 hx9 → dr = v.toInt → vw hx9 = vw h0 → Q (some (.int v)) hx9) (k23 : ∀ (l2 : Int32) (l3 : Int32) (l4 : Int32) (l5 : Int32) (g0 : Int32) (h : jH), 7 - l5.toInt < R23 → 0 ≤ l3.toInt ∧ l3.toInt ≤ 407 → 0 ≤ l4.toInt ∧ l4.toInt ≤ 1 → 0 ≤ l5.toInt ∧ l5.toInt ≤ 7 → 0 ≤ g0.toInt ∧ g0.toInt ≤ 400 → l3.toInt - l5.toInt ≤ 400 → jiv h 68 3 = g0 → jJ jSgX Dy h → jSm fp_X9_wordOf_r68_r6d h0 h → K23 l2.toInt l3.toInt l4.toInt l5.toInt (vw h) = dr → vw h = vw h0 → jX m_X9_wordOf 4 0 0 23 [(0, .ref 68), (1, .ref 6), (2, .int l2), (3, .int l3), (4, .int l4), (5, .int l5)] [] h 0 0 Q) : ∀ (l2 : Int32) (l5 : Int32) (g0 : Int32) (h : jH), 0 ≤ l5.toInt ∧ l5.toInt ≤ 6 → 0 ≤ g0.toInt ∧ g0.toInt ≤ 400 → jiv h 68 3 = g0 → 7 - l5.toInt ≤ R23 → jJ jSgX Dy h → jSm fp_X9_wordOf_r68_r6d h0 h → d_X9_wordOf_r68_r6d_62 K23  l2.toInt l5.toInt (vw h) = dr → vw h = vw h0 → jX m_X9_wordOf 4 0 0 62 [(0, .ref 68), (1, .ref 6), (2, .int l2), (5, .int l5)] [] h 0 0 Q := by
  intro l2 l5 g0 h y0 y1 z0 m23 J Sm D EV
  have el2 := jfull l2
  unfold d_X9_wordOf_r68_r6d_62 at D
  try rw [vrf z0] at D
  refine z_iincW (x := l2) (lsx9 := fun v1 => [(2, .int v1), (0, .ref 68), (1, .ref 6), (5, .int l5)]) rfl rfl rfl jko_1 rfl (fun _ => rfl) (fun v1 ev1 => ?_)
  have fv1 := jfull v1
  try rw [← ev1] at D
  refine x_aloadn (x := 68) rfl rfl ?_
  refine z_getM (N := 6) (v := g0) 9 3 rfl f_9_22 rfl J rfl z0 ?_
  refine x_istoren (lsx9 := [(3, .int g0), (2, .int v1), (0, .ref 68), (1, .ref 6), (5, .int l5)]) rfl rfl rfl ?_
  refine x_iconst (v := 1) rfl ki_1 ?_
  refine x_istore (lsx9 := [(4, .int 1), (3, .int g0), (2, .int v1), (0, .ref 68), (1, .ref 6), (5, .int l5)]) rfl rfl rfl ?_
  refine x_goto (tgt := 110) rfl rfl ?_
  exact jX.sub (jsb_c rfl (jsb_c rfl (jsb_c rfl (jsb_c rfl (jsb_c rfl (jsb_c rfl jsb_n)))))) (ct_X9_wordOf_r68_r6d_110 hD hQ k23 v1 g0 1 l5 g0 h (jr_of rfl (by omega)) (jr_of jk_1 (by omega)) (jr_of rfl (by omega)) (jr_of rfl (by omega)) (by omega) z0 (by omega) J Sm (by rw [jk_1]; exact D) EV)
set_option maxRecDepth 100000 in
set_option maxHeartbeats 4000000 in
theorem ct_X9_wordOf_r68_r6d_23 {Dy : jH → Prop} {h0 : jH} {Q : Option Value → jH → Prop} {dr : Int} (hD : jDk Dy) (hQ : ∀ (v : Int32) hx9, jJ jSgX Dy hx9 → jSm fp_X9_wordOf_r68_r6d h0 hx9 → dr = v.toInt → vw hx9 = vw h0 → Q (some (.int v)) hx9) : ∀ r : Nat, ∀ (l2 : Int32) (l3 : Int32) (l4 : Int32) (l5 : Int32) (g0 : Int32) (h : jH), 7 - l5.toInt < (r : Int) → 0 ≤ l3.toInt ∧ l3.toInt ≤ 407 → 0 ≤ l4.toInt ∧ l4.toInt ≤ 1 → 0 ≤ l5.toInt ∧ l5.toInt ≤ 7 → 0 ≤ g0.toInt ∧ g0.toInt ≤ 400 → l3.toInt - l5.toInt ≤ 400 → jiv h 68 3 = g0 → jJ jSgX Dy h → jSm fp_X9_wordOf_r68_r6d h0 h → d_X9_wordOf_r68_r6d_23 r l2.toInt l3.toInt l4.toInt l5.toInt (vw h) = dr → vw h = vw h0 → jX m_X9_wordOf 4 0 0 23 [(0, .ref 68), (1, .ref 6), (2, .int l2), (3, .int l3), (4, .int l4), (5, .int l5)] [] h 0 0 Q := by
  intro r
  induction r with
  | zero =>
    intro l2 l3 l4 l5 g0 h hm y0 y1 y2 y3 y4 z0  J Sm D EV
    exfalso
    have el2 := jfull l2
    omega
  | succ r ih =>
    intro l2 l3 l4 l5 g0 h hm y0 y1 y2 y3 y4 z0  J Sm D EV
    have el2 := jfull l2
    rw [d_X9_wordOf_r68_r6d_23.eq_2] at D
    try rw [vrf z0] at D
    refine x_iload (x := l5) rfl rfl ?_
    refine x_aloadn (x := 6) rfl rfl ?_
    refine x_invS (N := m_J0_length_8abf5) (i := 1) (As := []) (st := [.int l5]) (dx9 := 1) (by decide) rfl t_J0_length_8abf5 ⟨q_9_38, i_J0_length_8abf5.1, i_J0_length_8abf5.2⟩ rfl rfl (by decide) rfl rfl (zc_slen (N := 7) (v := 7) rfl J rfl rfl (by decide) ?_)
    show jX m_X9_wordOf 4 0 0 29 [(0, .ref 68), (1, .ref 6), (2, .int l2), (3, .int l3), (4, .int l4), (5, .int l5)] [.int 7, .int l5] _ 0 0 _
    refine x_icge (tgt := 116) rfl rfl (ti_ge rfl jk_7 ⟨fun c1 => ?_, fun c1 => ?_⟩)
    ·
      rw [if_pos (by omega)] at D
      refine x_iconst (v := (-1)) rfl ki_m1 ?_
      refine x_iret rfl rfl ?_
      exact hQ _ _ J Sm (D.symm.trans (show (-1) = ((-1) : Int32).toInt from by have := jk_m1; omega)) EV
    ·
      rw [if_neg (by omega)] at D
      refine x_aloadn (x := 6) rfl rfl ?_
      refine x_iload (x := l5) rfl rfl ?_
      refine x_invS (N := m_J0_charAt_5068e) (i := 1) (As := [.int l5]) (st := []) (dx9 := 3) (by decide) rfl t_J0_charAt_5068e ⟨q_9_43, i_J0_charAt_5068e.1, i_J0_charAt_5068e.2⟩ rfl rfl (by decide) rfl rfl (zc_scharD (N := 7) rfl J rfl rfl rfl (by omega) (fun v2 ev2 => ?_))
      try rw [← ev2.1] at D
      show jX m_X9_wordOf 4 0 0 38 [(0, .ref 68), (1, .ref 6), (2, .int l2), (3, .int l3), (4, .int l4), (5, .int l5)] [.int v2] _ 0 0 _
      refine x_istore (lsx9 := [(6, .int v2), (0, .ref 68), (1, .ref 6), (2, .int l2), (3, .int l3), (4, .int l4), (5, .int l5)]) rfl rfl rfl ?_
      refine x_iload (x := v2) rfl rfl ?_
      refine x_bipush (v := 32) rfl kb_32 ?_
      refine x_icne (tgt := 76) rfl rfl (ti_ne rfl jk_32 ⟨fun c3 => ?_, fun c3 => ?_⟩)
      ·
        rw [if_neg (by omega)] at D
        refine x_iload (x := l4) rfl rfl ?_
        refine x_ifeq (tgt := 104) rfl rfl (ti_eq rfl jk_0 ⟨fun c4 => ?_, fun c4 => ?_⟩)
        ·
          rw [if_pos (by omega)] at D
          exact jX.sub (jsb_c rfl (jsb_c rfl (jsb_c rfl (jsb_c rfl (jsb_c rfl jsb_n))))) (ct_X9_wordOf_r68_r6d_104 hD hQ ih l2 l3 l5 g0 h (jr_of rfl (by omega)) (jr_of rfl (by omega)) (jr_of rfl (by omega)) (by omega) z0 (by omega) J Sm D EV)
        ·
          rw [if_neg (by omega)] at D
          refine x_iloadn (x := l3) rfl rfl ?_
          refine x_aloadn (x := 68) rfl rfl ?_
          refine z_getI (N := 6) 9 4 rfl f_9_25 rfl J rfl sg_68_4_5_1_0_1 (fun v5 qv5 ev5 => ?_)
          try rw [vrf qv5] at D
          refine x_icge (tgt := 104) rfl rfl (ti_ge rfl rfl ⟨fun c6 => ?_, fun c6 => ?_⟩)
          ·
            rw [if_pos (by omega)] at D
            exact jX.sub (jsb_c rfl (jsb_c rfl (jsb_c rfl (jsb_c rfl (jsb_c rfl jsb_n))))) (ct_X9_wordOf_r68_r6d_104 hD hQ ih l2 l3 l5 g0 h (jr_of rfl (by omega)) (jr_of rfl (by omega)) (jr_of rfl (by omega)) (by omega) z0 (by omega) J Sm D EV)
          ·
            rw [if_neg (by omega)] at D
            refine x_aloadn (x := 68) rfl rfl ?_
            refine z_getR (N := 6) (b := 69) 9 0 rfl f_9_11 rfl J rfl 8704 ⟨rfl, rfl⟩ rfl ?_
            refine x_iloadn (x := l3) rfl rfl ?_
            refine z_iald (N := 400) rfl J rfl sg_69_0_400_1_0_1 rfl (by omega) (fun v7 qv7 ev7 => ?_)
            try rw [vrd qv7 (show l3.toInt = l3.toInt from by omega)] at D
            refine x_iload (x := v2) rfl rfl ?_
            refine x_icne (tgt := 104) rfl rfl (ti_ne rfl rfl ⟨fun c8 => ?_, fun c8 => ?_⟩)
            ·
              rw [if_neg (by omega)] at D
              exact jX.sub (jsb_c rfl (jsb_c rfl (jsb_c rfl (jsb_c rfl (jsb_c rfl jsb_n))))) (ct_X9_wordOf_r68_r6d_104 hD hQ ih l2 l3 l5 g0 h (jr_of rfl (by omega)) (jr_of rfl (by omega)) (jr_of rfl (by omega)) (by omega) z0 (by omega) J Sm D EV)
            ·
              rw [if_pos (by omega)] at D
              refine x_iconst (v := 1) rfl ki_1 ?_
              refine x_goto (tgt := 105) rfl rfl ?_
              exact jX.sub (jsb_c rfl (jsb_c rfl (jsb_c rfl (jsb_c rfl (jsb_c rfl jsb_n))))) (ct_X9_wordOf_r68_r6d_300105 hD hQ ih l2 l3 l5 g0 h (jr_of rfl (by omega)) (jr_of rfl (by omega)) (jr_of rfl (by omega)) (by omega) z0 (by omega) J Sm D EV)
      ·
        rw [if_pos (by omega)] at D
        refine x_iload (x := l4) rfl rfl ?_
        refine x_ifeq (tgt := 62) rfl rfl (ti_eq rfl jk_0 ⟨fun c9 => ?_, fun c9 => ?_⟩)
        ·
          rw [if_pos (by omega)] at D
          exact jX.sub (jsb_c rfl (jsb_c rfl (jsb_c rfl (jsb_c rfl jsb_n)))) (ct_X9_wordOf_r68_r6d_62 hD hQ ih l2 l5 g0 h (jr_of rfl (by omega)) (jr_of rfl (by omega)) z0 (by omega) J Sm D EV)
        ·
          rw [if_neg (by omega)] at D
          refine x_iloadn (x := l3) rfl rfl ?_
          refine x_aloadn (x := 68) rfl rfl ?_
          refine z_getI (N := 6) 9 4 rfl f_9_25 rfl J rfl sg_68_4_5_1_0_1 (fun v10 qv10 ev10 => ?_)
          try rw [vrf qv10] at D
          refine x_icne (tgt := 62) rfl rfl (ti_ne rfl rfl ⟨fun c11 => ?_, fun c11 => ?_⟩)
          ·
            rw [if_neg (by omega)] at D
            exact jX.sub (jsb_c rfl (jsb_c rfl (jsb_c rfl (jsb_c rfl jsb_n)))) (ct_X9_wordOf_r68_r6d_62 hD hQ ih l2 l5 g0 h (jr_of rfl (by omega)) (jr_of rfl (by omega)) z0 (by omega) J Sm D EV)
          ·
            rw [if_pos (by omega)] at D
            refine x_iloadn (x := l2) rfl rfl ?_
            refine x_iret rfl rfl ?_
            exact hQ _ _ J Sm (D.symm.trans (show l2.toInt = l2.toInt from by omega)) EV
set_option maxRecDepth 100000 in
set_option maxHeartbeats 4000000 in
theorem sf_X9_wordOf_r68_r6d {Dy : jH → Prop} {h : jH} {Q : Option Value → jH → Prop} {dr : Int} (hD : jDk Dy) (J : jJ jSgX Dy h) (D : d_X9_wordOf_r68_r6d (vw h) = dr) (hQ : ∀ (v : Int32) hx9, jJ jSgX Dy hx9 → jSm fp_X9_wordOf_r68_r6d h hx9 → dr = v.toInt → vw hx9 = vw h → Q (some (.int v)) hx9) : jC m_X9_wordOf 4 0 0 [.ref 68, .ref 6] h Q := by
  refine jC.of rfl k_X9_wordOf rfl ?_
  have Sm := jSm_rf fp_X9_wordOf_r68_r6d h
  show jX m_X9_wordOf 4 0 0 0 [(0, .ref 68), (1, .ref 6)] [] _ 0 0 _
  unfold d_X9_wordOf_r68_r6d at D
  have EV : vw h = vw h := rfl
  refine x_aloadn (x := 68) rfl rfl ?_
  refine z_getI (N := 6) 9 5 rfl f_9_28 rfl J rfl sg_68_5_6_1_0_1 (fun v1 qv1 ev1 => ?_)
  try rw [vrf qv1] at D
  refine x_iconst (v := 1) rfl ki_1 ?_
  refine x_iceq (tgt := 10) rfl rfl (ti_eq rfl jk_1 ⟨fun c2 => ?_, fun c2 => ?_⟩)
  ·
    rw [if_pos (by omega)] at D
    refine x_iconst (v := 0) rfl ki_0 ?_
    refine x_istoren (lsx9 := [(2, .int 0), (0, .ref 68), (1, .ref 6)]) rfl rfl rfl ?_
    refine x_aloadn (x := 68) rfl rfl ?_
    refine z_getI (N := 6) 9 3 rfl f_9_22 rfl J rfl sg_68_3_4_1_0_1 (fun v3 qv3 ev3 => ?_)
    try rw [vrf qv3] at D
    refine x_istoren (lsx9 := [(3, .int v3), (2, .int 0), (0, .ref 68), (1, .ref 6)]) rfl rfl rfl ?_
    refine x_iconst (v := 1) rfl ki_1 ?_
    refine x_istore (lsx9 := [(4, .int 1), (3, .int v3), (2, .int 0), (0, .ref 68), (1, .ref 6)]) rfl rfl rfl ?_
    refine x_iconst (v := 0) rfl ki_0 ?_
    refine x_istore (lsx9 := [(5, .int 0), (4, .int 1), (3, .int v3), (2, .int 0), (0, .ref 68), (1, .ref 6)]) rfl rfl rfl ?_
    exact jX.sub (jsb_c rfl (jsb_c rfl (jsb_c rfl (jsb_c rfl (jsb_c rfl (jsb_c rfl jsb_n)))))) (ct_X9_wordOf_r68_r6d_23 hD hQ  8 0 v3 1 0 v3 h (by have := jk_0; omega) (jr_of rfl (by omega)) (jr_of jk_1 (by omega)) (jr_of jk_0 (by omega)) (jr_of rfl (by omega)) (by have := jk_0; omega) qv3 J Sm (by rw [jk_0, jk_1]; exact D) EV)
  ·
    rw [if_neg (by omega)] at D
    refine x_iconst (v := (-1)) rfl ki_m1 ?_
    refine x_iret rfl rfl ?_
    exact hQ _ _ J Sm (D.symm.trans (show (-1) = ((-1) : Int32).toInt from by have := jk_m1; omega)) EV
def fp_X2_readClause_r95d : jFp := [(68, 2, 3), (68, 3, 4), (68, 4, 5), (68, 5, 6), (95, 4, 5), (95, 5, 6), (96, 0, 72), (97, 0, 1200)]
set_option maxRecDepth 100000 in
set_option maxHeartbeats 4000000 in
theorem ct_X2_readClause_r95d_169 {Dy : jH → Prop} {h0 : jH} {Q : Option Value → jH → Prop} {dr : (Int × jW)} {K104 : Int → jW → (Int × jW)} {R104 : Int} (hD : jDk Dy) (hQ : ∀ (v : Int32) hx9, 0 ≤ v.toInt ∧ v.toInt ≤ 1 → jJ jSgX Dy hx9 → jSm fp_X2_readClause_r95d h0 hx9 → ∀ u0 u1 : Int32, jiv hx9 68 5 = u0 → jiv hx9 68 3 = u1 → (u0.toInt ≠ 3 ∨ u1.toInt ≤ 399) → dr.1 = v.toInt → dr.2 = vw hx9 → Q (some (.int v)) hx9) (k104 : ∀ (l2 : Int32) (g0 : Int32) (g1 : Int32) (h : jH), 2 - l2.toInt < R104 → 0 ≤ l2.toInt ∧ l2.toInt ≤ 2 → 0 ≤ g0.toInt ∧ g0.toInt ≤ 400 → 0 ≤ g1.toInt ∧ g1.toInt ≤ 3 → (g1.toInt ≠ 3 ∨ g0.toInt ≤ 399) → jiv h 68 3 = g0 → jiv h 68 5 = g1 → jJ jSgX Dy h → jSm fp_X2_readClause_r95d h0 h → K104 l2.toInt (vw h) = dr → jX m_X2_readClause 25 0 0 104 [(0, .ref 95), (2, .int l2)] [] h 0 0 Q) : ∀ (l2 : Int32) (g0 : Int32) (g1 : Int32) (h : jH), 0 ≤ l2.toInt ∧ l2.toInt ≤ 1 → 0 ≤ g0.toInt ∧ g0.toInt ≤ 400 → 0 ≤ g1.toInt ∧ g1.toInt ≤ 3 → (g1.toInt ≠ 3 ∨ g0.toInt ≤ 399) → jiv h 68 3 = g0 → jiv h 68 5 = g1 → 2 - l2.toInt ≤ R104 → jJ jSgX Dy h → jSm fp_X2_readClause_r95d h0 h → d_X2_readClause_r95d_169 K104  l2.toInt (vw h) = dr → jX m_X2_readClause 25 0 0 169 [(0, .ref 95), (2, .int l2)] [] h 0 0 Q := by
  intro l2 g0 g1 h y0 y1 y2 y3 z0 z1 m104 J Sm D
  unfold d_X2_readClause_r95d_169 at D
  try rw [vrf z0] at D
  try rw [vrf z1] at D
  refine z_iinc (x := l2) (lsx9 := fun v1 => [(2, .int v1), (0, .ref 95)]) rfl rfl rfl jko_1 (by omega) rfl (fun _ => rfl) (fun v1 ev1 => ?_)
  refine x_goto (tgt := 104) rfl rfl ?_
  try rw [show (l2.toInt + 1) = v1.toInt from by omega] at D
  exact jX.sub (jsb_c rfl (jsb_c rfl jsb_n)) (k104 v1 g0 g1 h (by omega) (jr_of rfl (by omega)) (jr_of rfl (by omega)) (jr_of rfl (by omega)) (by omega) z0 z1 J Sm D)
set_option maxRecDepth 100000 in
set_option maxHeartbeats 4000000 in
theorem ct_X2_readClause_r95d_600147 {Dy : jH → Prop} {h0 : jH} {Q : Option Value → jH → Prop} {dr : (Int × jW)} {K104 : Int → jW → (Int × jW)} {R104 : Int} (hD : jDk Dy) (hQ : ∀ (v : Int32) hx9, 0 ≤ v.toInt ∧ v.toInt ≤ 1 → jJ jSgX Dy hx9 → jSm fp_X2_readClause_r95d h0 hx9 → ∀ u0 u1 : Int32, jiv hx9 68 5 = u0 → jiv hx9 68 3 = u1 → (u0.toInt ≠ 3 ∨ u1.toInt ≤ 399) → dr.1 = v.toInt → dr.2 = vw hx9 → Q (some (.int v)) hx9) (k104 : ∀ (l2 : Int32) (g0 : Int32) (g1 : Int32) (h : jH), 2 - l2.toInt < R104 → 0 ≤ l2.toInt ∧ l2.toInt ≤ 2 → 0 ≤ g0.toInt ∧ g0.toInt ≤ 400 → 0 ≤ g1.toInt ∧ g1.toInt ≤ 3 → (g1.toInt ≠ 3 ∨ g0.toInt ≤ 399) → jiv h 68 3 = g0 → jiv h 68 5 = g1 → jJ jSgX Dy h → jSm fp_X2_readClause_r95d h0 h → K104 l2.toInt (vw h) = dr → jX m_X2_readClause 25 0 0 104 [(0, .ref 95), (2, .int l2)] [] h 0 0 Q) : ∀ (l2 : Int32) (g0 : Int32) (g1 : Int32) (h : jH), 0 ≤ l2.toInt ∧ l2.toInt ≤ 0 → 0 ≤ g0.toInt ∧ g0.toInt ≤ 400 → 0 ≤ g1.toInt ∧ g1.toInt ≤ 3 → (g1.toInt ≠ 3 ∨ g0.toInt ≤ 399) → jiv h 68 3 = g0 → jiv h 68 5 = g1 → 2 - l2.toInt ≤ R104 → jJ jSgX Dy h → jSm fp_X2_readClause_r95d h0 h → d_X2_readClause_r95d_600147 K104  l2.toInt (vw h) = dr → jX m_X2_readClause 25 0 0 147 [(0, .ref 95), (2, .int l2)] [.int 4, .ref 95] h 0 0 Q := by
  intro l2 g0 g1 h y0 y1 y2 y3 z0 z1 m104 J Sm D
  unfold d_X2_readClause_r95d_600147 at D
  try rw [vrf z0] at D
  try rw [vrf z1] at D
  refine x_aloadn (x := 95) rfl rfl ?_
  refine z_getI (N := 6) 2 4 rfl f_2_24 rfl J rfl sg_95_4_5_1_0_1 (fun v1 qv1 ev1 => ?_)
  try rw [vrf qv1] at D
  refine x_inv (N := m_X2_note) (As := [.int 4, .int v1]) (b := 95) (st := []) (dx9 := 1) (mc := 0) (ms := 0) (host := "") 2 rfl t_X2_note ⟨Or.inl q_2_82, i_X2_note.1, i_X2_note.2⟩ ⟨by decide, rfl⟩ (congrArg Prod.fst (J.1.1 95 (2, 6) rfl)) rfl (by decide) rfl rfl ⟨by decide, by decide⟩ (sf_X2_note_r95d (jr_of jk_4 (by omega)) hD J rfl  (fun h J S2 X3 => ?_))
  have Sm := jSm_tr rfl Sm S2
  try rw [jk_4] at X3
  rw [X3] at D
  show jX m_X2_readClause 25 0 0 154 [(0, .ref 95), (2, .int l2)] [] _ 0 0 _
  refine x_aloadn (x := 95) rfl rfl ?_
  refine x_iconst (v := 0) rfl ki_0 ?_
  refine x_inv (N := m_X2_readTest) (As := [.int 0]) (b := 95) (st := []) (dx9 := 24) (mc := 0) (ms := 0) (host := "") 2 rfl t_X2_readTest ⟨Or.inl q_2_96, i_X2_readTest.1, i_X2_readTest.2⟩ ⟨by decide, rfl⟩ (congrArg Prod.fst (J.1.1 95 (2, 6) rfl)) rfl (by decide) rfl rfl ⟨by decide, by decide⟩ (sf_X2_readTest_r95_c0d  hD J (jmc S2 rfl z1) (jmc S2 rfl z0) (by omega) rfl  (fun v9 h ev9 J S4 u5 u6 qu5 qu6 ru5 X7 X8 => ?_))
  have Sm := jSm_tr rfl Sm S4
  try rw [X7] at D
  try rw [X8] at D
  have eu5 := (show 0 ≤ u5.toInt ∧ u5.toInt ≤ 3 from qu5 ▸ jrg_f J sg_68_5_6_1_0_1)
  try rw [vrf qu5] at D
  have eu6 := (show 0 ≤ u6.toInt ∧ u6.toInt ≤ 400 from qu6 ▸ jrg_f J sg_68_3_4_1_0_1)
  try rw [vrf qu6] at D
  show jX m_X2_readClause 25 0 0 159 [(0, .ref 95), (2, .int l2)] [.int v9] _ 0 0 _
  refine x_ifne (tgt := 164) rfl rfl (ti_ne rfl jk_0 ⟨fun c10 => ?_, fun c10 => ?_⟩)
  ·
    rw [if_neg (by omega)] at D
    refine x_aloadn (x := 95) rfl rfl ?_
    refine x_iconst (v := 0) rfl ki_0 ?_
    refine x_inv (N := m_X2_emit) (As := [.int 0]) (b := 95) (st := []) (dx9 := 1) (mc := 0) (ms := 0) (host := "") 2 rfl t_X2_emit ⟨Or.inl q_2_89, i_X2_emit.1, i_X2_emit.2⟩ ⟨by decide, rfl⟩ (congrArg Prod.fst (J.1.1 95 (2, 6) rfl)) rfl (by decide) rfl rfl ⟨by decide, by decide⟩ (sf_X2_emit_r95d  hD J rfl  (fun h J S11 X12 => ?_))
    have Sm := jSm_tr rfl Sm S11
    try rw [jk_0] at X12
    rw [X12] at D
    show jX m_X2_readClause 25 0 0 169 [(0, .ref 95), (2, .int l2)] [] _ 0 0 _
    exact jX.sub (jsb_c rfl (jsb_c rfl jsb_n)) (ct_X2_readClause_r95d_169 hD hQ k104 l2 u6 u5 h (jr_of rfl (by omega)) (jr_of rfl (by omega)) (jr_of rfl (by omega)) (by omega) (jmc S11 rfl qu6) (jmc S11 rfl qu5) (by omega) J Sm D)
  ·
    rw [if_pos (by omega)] at D
    refine x_iconst (v := 0) rfl ki_0 ?_
    refine x_zret rfl rfl (by decide) ?_
    exact hQ _ _ (jr_of jk_0 (by omega)) J Sm _ _ qu5 qu6 (by omega) ((congrArg Prod.fst D).symm.trans (show 0 = (0 : Int32).toInt from by have := jk_0; omega)) (congrArg Prod.snd D).symm
set_option maxRecDepth 100000 in
set_option maxHeartbeats 4000000 in
theorem ct_X2_readClause_r95d_700147 {Dy : jH → Prop} {h0 : jH} {Q : Option Value → jH → Prop} {dr : (Int × jW)} {K104 : Int → jW → (Int × jW)} {R104 : Int} (hD : jDk Dy) (hQ : ∀ (v : Int32) hx9, 0 ≤ v.toInt ∧ v.toInt ≤ 1 → jJ jSgX Dy hx9 → jSm fp_X2_readClause_r95d h0 hx9 → ∀ u0 u1 : Int32, jiv hx9 68 5 = u0 → jiv hx9 68 3 = u1 → (u0.toInt ≠ 3 ∨ u1.toInt ≤ 399) → dr.1 = v.toInt → dr.2 = vw hx9 → Q (some (.int v)) hx9) (k104 : ∀ (l2 : Int32) (g0 : Int32) (g1 : Int32) (h : jH), 2 - l2.toInt < R104 → 0 ≤ l2.toInt ∧ l2.toInt ≤ 2 → 0 ≤ g0.toInt ∧ g0.toInt ≤ 400 → 0 ≤ g1.toInt ∧ g1.toInt ≤ 3 → (g1.toInt ≠ 3 ∨ g0.toInt ≤ 399) → jiv h 68 3 = g0 → jiv h 68 5 = g1 → jJ jSgX Dy h → jSm fp_X2_readClause_r95d h0 h → K104 l2.toInt (vw h) = dr → jX m_X2_readClause 25 0 0 104 [(0, .ref 95), (2, .int l2)] [] h 0 0 Q) : ∀ (l2 : Int32) (g0 : Int32) (g1 : Int32) (h : jH), 1 ≤ l2.toInt ∧ l2.toInt ≤ 1 → 0 ≤ g0.toInt ∧ g0.toInt ≤ 400 → 0 ≤ g1.toInt ∧ g1.toInt ≤ 3 → l2.toInt ≠ 0 → (g1.toInt ≠ 3 ∨ g0.toInt ≤ 399) → jiv h 68 3 = g0 → jiv h 68 5 = g1 → 2 - l2.toInt ≤ R104 → jJ jSgX Dy h → jSm fp_X2_readClause_r95d h0 h → d_X2_readClause_r95d_700147 K104  l2.toInt (vw h) = dr → jX m_X2_readClause 25 0 0 147 [(0, .ref 95), (2, .int l2)] [.int 5, .ref 95] h 0 0 Q := by
  intro l2 g0 g1 h y0 y1 y2 y3 y4 z0 z1 m104 J Sm D
  unfold d_X2_readClause_r95d_700147 at D
  try rw [vrf z0] at D
  try rw [vrf z1] at D
  refine x_aloadn (x := 95) rfl rfl ?_
  refine z_getI (N := 6) 2 4 rfl f_2_24 rfl J rfl sg_95_4_5_1_0_1 (fun v1 qv1 ev1 => ?_)
  try rw [vrf qv1] at D
  refine x_inv (N := m_X2_note) (As := [.int 5, .int v1]) (b := 95) (st := []) (dx9 := 1) (mc := 0) (ms := 0) (host := "") 2 rfl t_X2_note ⟨Or.inl q_2_82, i_X2_note.1, i_X2_note.2⟩ ⟨by decide, rfl⟩ (congrArg Prod.fst (J.1.1 95 (2, 6) rfl)) rfl (by decide) rfl rfl ⟨by decide, by decide⟩ (sf_X2_note_r95d (jr_of jk_5 (by omega)) hD J rfl  (fun h J S2 X3 => ?_))
  have Sm := jSm_tr rfl Sm S2
  try rw [jk_5] at X3
  rw [X3] at D
  show jX m_X2_readClause 25 0 0 154 [(0, .ref 95), (2, .int l2)] [] _ 0 0 _
  refine x_aloadn (x := 95) rfl rfl ?_
  refine x_iconst (v := 0) rfl ki_0 ?_
  refine x_inv (N := m_X2_readTest) (As := [.int 0]) (b := 95) (st := []) (dx9 := 24) (mc := 0) (ms := 0) (host := "") 2 rfl t_X2_readTest ⟨Or.inl q_2_96, i_X2_readTest.1, i_X2_readTest.2⟩ ⟨by decide, rfl⟩ (congrArg Prod.fst (J.1.1 95 (2, 6) rfl)) rfl (by decide) rfl rfl ⟨by decide, by decide⟩ (sf_X2_readTest_r95_c0d  hD J (jmc S2 rfl z1) (jmc S2 rfl z0) (by omega) rfl  (fun v9 h ev9 J S4 u5 u6 qu5 qu6 ru5 X7 X8 => ?_))
  have Sm := jSm_tr rfl Sm S4
  try rw [X7] at D
  try rw [X8] at D
  have eu5 := (show 0 ≤ u5.toInt ∧ u5.toInt ≤ 3 from qu5 ▸ jrg_f J sg_68_5_6_1_0_1)
  try rw [vrf qu5] at D
  have eu6 := (show 0 ≤ u6.toInt ∧ u6.toInt ≤ 400 from qu6 ▸ jrg_f J sg_68_3_4_1_0_1)
  try rw [vrf qu6] at D
  show jX m_X2_readClause 25 0 0 159 [(0, .ref 95), (2, .int l2)] [.int v9] _ 0 0 _
  refine x_ifne (tgt := 164) rfl rfl (ti_ne rfl jk_0 ⟨fun c10 => ?_, fun c10 => ?_⟩)
  ·
    rw [if_neg (by omega)] at D
    refine x_aloadn (x := 95) rfl rfl ?_
    refine x_iconst (v := 0) rfl ki_0 ?_
    refine x_inv (N := m_X2_emit) (As := [.int 0]) (b := 95) (st := []) (dx9 := 1) (mc := 0) (ms := 0) (host := "") 2 rfl t_X2_emit ⟨Or.inl q_2_89, i_X2_emit.1, i_X2_emit.2⟩ ⟨by decide, rfl⟩ (congrArg Prod.fst (J.1.1 95 (2, 6) rfl)) rfl (by decide) rfl rfl ⟨by decide, by decide⟩ (sf_X2_emit_r95d  hD J rfl  (fun h J S11 X12 => ?_))
    have Sm := jSm_tr rfl Sm S11
    try rw [jk_0] at X12
    rw [X12] at D
    show jX m_X2_readClause 25 0 0 169 [(0, .ref 95), (2, .int l2)] [] _ 0 0 _
    exact jX.sub (jsb_c rfl (jsb_c rfl jsb_n)) (ct_X2_readClause_r95d_169 hD hQ k104 l2 u6 u5 h (jr_of rfl (by omega)) (jr_of rfl (by omega)) (jr_of rfl (by omega)) (by omega) (jmc S11 rfl qu6) (jmc S11 rfl qu5) (by omega) J Sm D)
  ·
    rw [if_pos (by omega)] at D
    refine x_iconst (v := 0) rfl ki_0 ?_
    refine x_zret rfl rfl (by decide) ?_
    exact hQ _ _ (jr_of jk_0 (by omega)) J Sm _ _ qu5 qu6 (by omega) ((congrArg Prod.fst D).symm.trans (show 0 = (0 : Int32).toInt from by have := jk_0; omega)) (congrArg Prod.snd D).symm
set_option maxRecDepth 100000 in
set_option maxHeartbeats 4000000 in
theorem ct_X2_readClause_r95d_3200124 {Dy : jH → Prop} {h0 : jH} {Q : Option Value → jH → Prop} {dr : (Int × jW)} {K104 : Int → jW → (Int × jW)} {R104 : Int} (hD : jDk Dy) (hQ : ∀ (v : Int32) hx9, 0 ≤ v.toInt ∧ v.toInt ≤ 1 → jJ jSgX Dy hx9 → jSm fp_X2_readClause_r95d h0 hx9 → ∀ u0 u1 : Int32, jiv hx9 68 5 = u0 → jiv hx9 68 3 = u1 → (u0.toInt ≠ 3 ∨ u1.toInt ≤ 399) → dr.1 = v.toInt → dr.2 = vw hx9 → Q (some (.int v)) hx9) (k104 : ∀ (l2 : Int32) (g0 : Int32) (g1 : Int32) (h : jH), 2 - l2.toInt < R104 → 0 ≤ l2.toInt ∧ l2.toInt ≤ 2 → 0 ≤ g0.toInt ∧ g0.toInt ≤ 400 → 0 ≤ g1.toInt ∧ g1.toInt ≤ 3 → (g1.toInt ≠ 3 ∨ g0.toInt ≤ 399) → jiv h 68 3 = g0 → jiv h 68 5 = g1 → jJ jSgX Dy h → jSm fp_X2_readClause_r95d h0 h → K104 l2.toInt (vw h) = dr → jX m_X2_readClause 25 0 0 104 [(0, .ref 95), (2, .int l2)] [] h 0 0 Q) : ∀ (l2 : Int32) (g0 : Int32) (g1 : Int32) (h : jH), 0 ≤ l2.toInt ∧ l2.toInt ≤ 0 → 0 ≤ g0.toInt ∧ g0.toInt ≤ 400 → 0 ≤ g1.toInt ∧ g1.toInt ≤ 3 → (g1.toInt ≠ 3 ∨ g0.toInt ≤ 399) → jiv h 68 3 = g0 → jiv h 68 5 = g1 → 2 - l2.toInt ≤ R104 → jJ jSgX Dy h → jSm fp_X2_readClause_r95d h0 h → d_X2_readClause_r95d_3200124 K104  l2.toInt (vw h) = dr → jX m_X2_readClause 25 0 0 124 [(0, .ref 95), (2, .int l2)] [.ref 12, .ref 68] h 0 0 Q := by
  intro l2 g0 g1 h y0 y1 y2 y3 z0 z1 m104 J Sm D
  unfold d_X2_readClause_r95d_3200124 at D
  try rw [vrf z0] at D
  try rw [vrf z1] at D
  refine x_inv (N := m_X9_wordOf) (As := [.ref 12]) (b := 68) (st := []) (dx9 := 4) (mc := 0) (ms := 0) (host := "") 9 rfl t_X9_wordOf ⟨Or.inl q_2_67, i_X9_wordOf.1, i_X9_wordOf.2⟩ ⟨by decide, rfl⟩ (congrArg Prod.fst (J.1.1 68 (9, 6) rfl)) rfl (by decide) rfl rfl ⟨by decide, by decide⟩ (sf_X9_wordOf_r68_r12d  hD J rfl  (fun v4 h J S1 X2 X3 => ?_))
  have ev4 := jfull v4
  have Sm := jSm_tr rfl Sm S1
  try rw [X2] at D
  try rw [← X3] at D
  show jX m_X2_readClause 25 0 0 127 [(0, .ref 95), (2, .int l2)] [.int v4] _ 0 0 _
  refine x_ifne (tgt := 169) rfl rfl (ti_ne rfl jk_0 ⟨fun c5 => ?_, fun c5 => ?_⟩)
  ·
    rw [if_neg (by omega)] at D
    exact jX.sub (jsb_c rfl (jsb_c rfl jsb_n)) (ct_X2_readClause_r95d_169 hD hQ k104 l2 g0 g1 h (jr_of rfl (by omega)) (jr_of rfl (by omega)) (jr_of rfl (by omega)) (by omega) (jmc S1 rfl z0) (jmc S1 rfl z1) (by omega) J Sm D)
  ·
    rw [if_pos (by omega)] at D
    refine x_aloadn (x := 95) rfl rfl ?_
    refine z_getR (N := 6) (b := 68) 2 0 rfl f_2_30 rfl J rfl 12160 ⟨rfl, rfl⟩ rfl ?_
    refine x_inv (N := m_X9_step) (As := []) (b := 68) (st := []) (dx9 := 2) (mc := 0) (ms := 0) (host := "") 9 rfl t_X9_step ⟨Or.inl q_2_62, i_X9_step.1, i_X9_step.2⟩ ⟨by decide, rfl⟩ (congrArg Prod.fst (J.1.1 68 (9, 6) rfl)) rfl (by decide) rfl rfl ⟨by decide, by decide⟩ (sf_X9_step_r68d  hD J (jmc S1 rfl z1) (jmc S1 rfl z0) (by omega) rfl  (fun h J S6 u7 u8 qu7 qu8 ru7 X9 => ?_))
    have Sm := jSm_tr rfl Sm S6
    rw [X9] at D
    have eu7 := (show 0 ≤ u7.toInt ∧ u7.toInt ≤ 3 from qu7 ▸ jrg_f J sg_68_5_6_1_0_1)
    try rw [vrf qu7] at D
    have eu8 := (show 0 ≤ u8.toInt ∧ u8.toInt ≤ 400 from qu8 ▸ jrg_f J sg_68_3_4_1_0_1)
    try rw [vrf qu8] at D
    show jX m_X2_readClause 25 0 0 137 [(0, .ref 95), (2, .int l2)] [] _ 0 0 _
    refine x_aloadn (x := 95) rfl rfl ?_
    refine x_iloadn (x := l2) rfl rfl ?_
    refine x_ifne (tgt := 146) rfl rfl (ti_ne rfl jk_0 (bn_f (by omega) ?_))
    refine x_iconst (v := 4) rfl ki_4 ?_
    refine x_goto (tgt := 147) rfl rfl ?_
    exact jX.sub (jsb_c rfl (jsb_c rfl jsb_n)) (ct_X2_readClause_r95d_600147 hD hQ k104 l2 u8 u7 h (jr_of rfl (by omega)) (jr_of rfl (by omega)) (jr_of rfl (by omega)) (by omega) qu8 qu7 (by omega) J Sm D)
set_option maxRecDepth 100000 in
set_option maxHeartbeats 4000000 in
theorem ct_X2_readClause_r95d_3300124 {Dy : jH → Prop} {h0 : jH} {Q : Option Value → jH → Prop} {dr : (Int × jW)} {K104 : Int → jW → (Int × jW)} {R104 : Int} (hD : jDk Dy) (hQ : ∀ (v : Int32) hx9, 0 ≤ v.toInt ∧ v.toInt ≤ 1 → jJ jSgX Dy hx9 → jSm fp_X2_readClause_r95d h0 hx9 → ∀ u0 u1 : Int32, jiv hx9 68 5 = u0 → jiv hx9 68 3 = u1 → (u0.toInt ≠ 3 ∨ u1.toInt ≤ 399) → dr.1 = v.toInt → dr.2 = vw hx9 → Q (some (.int v)) hx9) (k104 : ∀ (l2 : Int32) (g0 : Int32) (g1 : Int32) (h : jH), 2 - l2.toInt < R104 → 0 ≤ l2.toInt ∧ l2.toInt ≤ 2 → 0 ≤ g0.toInt ∧ g0.toInt ≤ 400 → 0 ≤ g1.toInt ∧ g1.toInt ≤ 3 → (g1.toInt ≠ 3 ∨ g0.toInt ≤ 399) → jiv h 68 3 = g0 → jiv h 68 5 = g1 → jJ jSgX Dy h → jSm fp_X2_readClause_r95d h0 h → K104 l2.toInt (vw h) = dr → jX m_X2_readClause 25 0 0 104 [(0, .ref 95), (2, .int l2)] [] h 0 0 Q) : ∀ (l2 : Int32) (g0 : Int32) (g1 : Int32) (h : jH), 1 ≤ l2.toInt ∧ l2.toInt ≤ 1 → 0 ≤ g0.toInt ∧ g0.toInt ≤ 400 → 0 ≤ g1.toInt ∧ g1.toInt ≤ 3 → l2.toInt ≠ 0 → (g1.toInt ≠ 3 ∨ g0.toInt ≤ 399) → jiv h 68 3 = g0 → jiv h 68 5 = g1 → 2 - l2.toInt ≤ R104 → jJ jSgX Dy h → jSm fp_X2_readClause_r95d h0 h → d_X2_readClause_r95d_3300124 K104  l2.toInt (vw h) = dr → jX m_X2_readClause 25 0 0 124 [(0, .ref 95), (2, .int l2)] [.ref 13, .ref 68] h 0 0 Q := by
  intro l2 g0 g1 h y0 y1 y2 y3 y4 z0 z1 m104 J Sm D
  unfold d_X2_readClause_r95d_3300124 at D
  try rw [vrf z0] at D
  try rw [vrf z1] at D
  refine x_inv (N := m_X9_wordOf) (As := [.ref 13]) (b := 68) (st := []) (dx9 := 4) (mc := 0) (ms := 0) (host := "") 9 rfl t_X9_wordOf ⟨Or.inl q_2_67, i_X9_wordOf.1, i_X9_wordOf.2⟩ ⟨by decide, rfl⟩ (congrArg Prod.fst (J.1.1 68 (9, 6) rfl)) rfl (by decide) rfl rfl ⟨by decide, by decide⟩ (sf_X9_wordOf_r68_r13d  hD J rfl  (fun v4 h J S1 X2 X3 => ?_))
  have ev4 := jfull v4
  have Sm := jSm_tr rfl Sm S1
  try rw [X2] at D
  try rw [← X3] at D
  show jX m_X2_readClause 25 0 0 127 [(0, .ref 95), (2, .int l2)] [.int v4] _ 0 0 _
  refine x_ifne (tgt := 169) rfl rfl (ti_ne rfl jk_0 ⟨fun c5 => ?_, fun c5 => ?_⟩)
  ·
    rw [if_neg (by omega)] at D
    exact jX.sub (jsb_c rfl (jsb_c rfl jsb_n)) (ct_X2_readClause_r95d_169 hD hQ k104 l2 g0 g1 h (jr_of rfl (by omega)) (jr_of rfl (by omega)) (jr_of rfl (by omega)) (by omega) (jmc S1 rfl z0) (jmc S1 rfl z1) (by omega) J Sm D)
  ·
    rw [if_pos (by omega)] at D
    refine x_aloadn (x := 95) rfl rfl ?_
    refine z_getR (N := 6) (b := 68) 2 0 rfl f_2_30 rfl J rfl 12160 ⟨rfl, rfl⟩ rfl ?_
    refine x_inv (N := m_X9_step) (As := []) (b := 68) (st := []) (dx9 := 2) (mc := 0) (ms := 0) (host := "") 9 rfl t_X9_step ⟨Or.inl q_2_62, i_X9_step.1, i_X9_step.2⟩ ⟨by decide, rfl⟩ (congrArg Prod.fst (J.1.1 68 (9, 6) rfl)) rfl (by decide) rfl rfl ⟨by decide, by decide⟩ (sf_X9_step_r68d  hD J (jmc S1 rfl z1) (jmc S1 rfl z0) (by omega) rfl  (fun h J S6 u7 u8 qu7 qu8 ru7 X9 => ?_))
    have Sm := jSm_tr rfl Sm S6
    rw [X9] at D
    have eu7 := (show 0 ≤ u7.toInt ∧ u7.toInt ≤ 3 from qu7 ▸ jrg_f J sg_68_5_6_1_0_1)
    try rw [vrf qu7] at D
    have eu8 := (show 0 ≤ u8.toInt ∧ u8.toInt ≤ 400 from qu8 ▸ jrg_f J sg_68_3_4_1_0_1)
    try rw [vrf qu8] at D
    show jX m_X2_readClause 25 0 0 137 [(0, .ref 95), (2, .int l2)] [] _ 0 0 _
    refine x_aloadn (x := 95) rfl rfl ?_
    refine x_iloadn (x := l2) rfl rfl ?_
    refine x_ifne (tgt := 146) rfl rfl (ti_ne rfl jk_0 (bn_t (by omega) ?_))
    refine x_iconst (v := 5) rfl ki_5 ?_
    exact jX.sub (jsb_c rfl (jsb_c rfl jsb_n)) (ct_X2_readClause_r95d_700147 hD hQ k104 l2 u8 u7 h (jr_of rfl (by omega)) (jr_of rfl (by omega)) (jr_of rfl (by omega)) (by omega) (by omega) qu8 qu7 (by omega) J Sm D)
set_option maxRecDepth 100000 in
set_option maxHeartbeats 4000000 in
theorem ct_X2_readClause_r95d_104 {Dy : jH → Prop} {h0 : jH} {Q : Option Value → jH → Prop} {dr : (Int × jW)} (hD : jDk Dy) (hQ : ∀ (v : Int32) hx9, 0 ≤ v.toInt ∧ v.toInt ≤ 1 → jJ jSgX Dy hx9 → jSm fp_X2_readClause_r95d h0 hx9 → ∀ u0 u1 : Int32, jiv hx9 68 5 = u0 → jiv hx9 68 3 = u1 → (u0.toInt ≠ 3 ∨ u1.toInt ≤ 399) → dr.1 = v.toInt → dr.2 = vw hx9 → Q (some (.int v)) hx9) : ∀ r : Nat, ∀ (l2 : Int32) (g0 : Int32) (g1 : Int32) (h : jH), 2 - l2.toInt < (r : Int) → 0 ≤ l2.toInt ∧ l2.toInt ≤ 2 → 0 ≤ g0.toInt ∧ g0.toInt ≤ 400 → 0 ≤ g1.toInt ∧ g1.toInt ≤ 3 → (g1.toInt ≠ 3 ∨ g0.toInt ≤ 399) → jiv h 68 3 = g0 → jiv h 68 5 = g1 → jJ jSgX Dy h → jSm fp_X2_readClause_r95d h0 h → d_X2_readClause_r95d_104 r l2.toInt (vw h) = dr → jX m_X2_readClause 25 0 0 104 [(0, .ref 95), (2, .int l2)] [] h 0 0 Q := by
  intro r
  induction r with
  | zero =>
    intro l2 g0 g1 h hm y0 y1 y2 y3 z0 z1  J Sm D
    exfalso
    omega
  | succ r ih =>
    intro l2 g0 g1 h hm y0 y1 y2 y3 z0 z1  J Sm D
    rw [d_X2_readClause_r95d_104.eq_2] at D
    try rw [vrf z0] at D
    try rw [vrf z1] at D
    refine x_iloadn (x := l2) rfl rfl ?_
    refine x_iconst (v := 2) rfl ki_2 ?_
    refine x_icge (tgt := 175) rfl rfl (ti_ge rfl jk_2 ⟨fun c1 => ?_, fun c1 => ?_⟩)
    ·
      rw [if_pos (by omega)] at D
      refine x_iconst (v := 1) rfl ki_1 ?_
      refine x_zret rfl rfl (by decide) ?_
      exact hQ _ _ (jr_of jk_1 (by omega)) J Sm _ _ z1 z0 (by omega) ((congrArg Prod.fst D).symm.trans (show 1 = (1 : Int32).toInt from by have := jk_1; omega)) (congrArg Prod.snd D).symm
    ·
      rw [if_neg (by omega)] at D
      refine x_aloadn (x := 95) rfl rfl ?_
      refine z_getR (N := 6) (b := 68) 2 0 rfl f_2_30 rfl J rfl 12160 ⟨rfl, rfl⟩ rfl ?_
      refine x_iloadn (x := l2) rfl rfl ?_
      refine x_ifne (tgt := 122) rfl rfl (ti_ne rfl jk_0 ⟨fun c2 => ?_, fun c2 => ?_⟩)
      ·
        rw [if_neg (by omega)] at D
        refine x_ldcS (jstr.getD 8 jstr_0) rfl (List.mem_of_getElem? (i := 8) rfl) rfl rfl ?_
        show jX m_X2_readClause 25 0 0 124 [(0, .ref 95), (2, .int l2)] [.ref 13, .ref 68] _ 0 0 _
        exact jX.sub (jsb_c rfl (jsb_c rfl jsb_n)) (ct_X2_readClause_r95d_3300124 hD hQ ih l2 g0 g1 h (jr_of rfl (by omega)) (jr_of rfl (by omega)) (jr_of rfl (by omega)) (by omega) (by omega) z0 z1 (by omega) J Sm D)
      ·
        rw [if_pos (by omega)] at D
        refine x_ldcS (jstr.getD 7 jstr_0) rfl (List.mem_of_getElem? (i := 7) rfl) rfl rfl ?_
        show jX m_X2_readClause 25 0 0 119 [(0, .ref 95), (2, .int l2)] [.ref 12, .ref 68] _ 0 0 _
        refine x_goto (tgt := 124) rfl rfl ?_
        exact jX.sub (jsb_c rfl (jsb_c rfl jsb_n)) (ct_X2_readClause_r95d_3200124 hD hQ ih l2 g0 g1 h (jr_of rfl (by omega)) (jr_of rfl (by omega)) (jr_of rfl (by omega)) (by omega) z0 z1 (by omega) J Sm D)
set_option maxRecDepth 100000 in
set_option maxHeartbeats 4000000 in
theorem ct_X2_readClause_r95d_102 {Dy : jH → Prop} {h0 : jH} {Q : Option Value → jH → Prop} {dr : (Int × jW)} (hD : jDk Dy) (hQ : ∀ (v : Int32) hx9, 0 ≤ v.toInt ∧ v.toInt ≤ 1 → jJ jSgX Dy hx9 → jSm fp_X2_readClause_r95d h0 hx9 → ∀ u0 u1 : Int32, jiv hx9 68 5 = u0 → jiv hx9 68 3 = u1 → (u0.toInt ≠ 3 ∨ u1.toInt ≤ 399) → dr.1 = v.toInt → dr.2 = vw hx9 → Q (some (.int v)) hx9) : ∀ (g0 : Int32) (g1 : Int32) (h : jH), 0 ≤ g0.toInt ∧ g0.toInt ≤ 400 → 0 ≤ g1.toInt ∧ g1.toInt ≤ 3 → (g1.toInt ≠ 3 ∨ g0.toInt ≤ 399) → jiv h 68 3 = g0 → jiv h 68 5 = g1 → jJ jSgX Dy h → jSm fp_X2_readClause_r95d h0 h → d_X2_readClause_r95d_102  (vw h) = dr → jX m_X2_readClause 25 0 0 102 [(0, .ref 95)] [] h 0 0 Q := by
  intro g0 g1 h y0 y1 y2 z0 z1  J Sm D
  unfold d_X2_readClause_r95d_102 at D
  try rw [vrf z0] at D
  try rw [vrf z1] at D
  refine x_iconst (v := 0) rfl ki_0 ?_
  refine x_istoren (lsx9 := [(2, .int 0), (0, .ref 95)]) rfl rfl rfl ?_
  exact jX.sub (jsb_c rfl (jsb_c rfl jsb_n)) (ct_X2_readClause_r95d_104 hD hQ  3 0 g0 g1 h (by have := jk_0; omega) (jr_of jk_0 (by omega)) (jr_of rfl (by omega)) (jr_of rfl (by omega)) (by omega) z0 z1 J Sm (by rw [jk_0]; exact D))
set_option maxRecDepth 100000 in
set_option maxHeartbeats 4000000 in
theorem ct_X2_readClause_r95d_78 {Dy : jH → Prop} {h0 : jH} {Q : Option Value → jH → Prop} {dr : (Int × jW)} (hD : jDk Dy) (hQ : ∀ (v : Int32) hx9, 0 ≤ v.toInt ∧ v.toInt ≤ 1 → jJ jSgX Dy hx9 → jSm fp_X2_readClause_r95d h0 hx9 → ∀ u0 u1 : Int32, jiv hx9 68 5 = u0 → jiv hx9 68 3 = u1 → (u0.toInt ≠ 3 ∨ u1.toInt ≤ 399) → dr.1 = v.toInt → dr.2 = vw hx9 → Q (some (.int v)) hx9) : ∀ (g0 : Int32) (g1 : Int32) (h : jH), 0 ≤ g0.toInt ∧ g0.toInt ≤ 400 → 0 ≤ g1.toInt ∧ g1.toInt ≤ 3 → (g1.toInt ≠ 3 ∨ g0.toInt ≤ 399) → jiv h 68 3 = g0 → jiv h 68 5 = g1 → jJ jSgX Dy h → jSm fp_X2_readClause_r95d h0 h → d_X2_readClause_r95d_78  (vw h) = dr → jX m_X2_readClause 25 0 0 78 [(0, .ref 95)] [] h 0 0 Q := by
  intro g0 g1 h y0 y1 y2 z0 z1  J Sm D
  unfold d_X2_readClause_r95d_78 at D
  try rw [vrf z0] at D
  try rw [vrf z1] at D
  refine x_aloadn (x := 95) rfl rfl ?_
  refine x_iconst (v := 3) rfl ki_3 ?_
  refine x_aloadn (x := 95) rfl rfl ?_
  refine z_getI (N := 6) 2 4 rfl f_2_24 rfl J rfl sg_95_4_5_1_0_1 (fun v1 qv1 ev1 => ?_)
  try rw [vrf qv1] at D
  refine x_inv (N := m_X2_note) (As := [.int 3, .int v1]) (b := 95) (st := []) (dx9 := 1) (mc := 0) (ms := 0) (host := "") 2 rfl t_X2_note ⟨Or.inl q_2_82, i_X2_note.1, i_X2_note.2⟩ ⟨by decide, rfl⟩ (congrArg Prod.fst (J.1.1 95 (2, 6) rfl)) rfl (by decide) rfl rfl ⟨by decide, by decide⟩ (sf_X2_note_r95d (jr_of jk_3 (by omega)) hD J rfl  (fun h J S2 X3 => ?_))
  have Sm := jSm_tr rfl Sm S2
  try rw [jk_3] at X3
  rw [X3] at D
  show jX m_X2_readClause 25 0 0 87 [(0, .ref 95)] [] _ 0 0 _
  refine x_aloadn (x := 95) rfl rfl ?_
  refine x_iconst (v := 0) rfl ki_0 ?_
  refine x_inv (N := m_X2_readSum) (As := [.int 0]) (b := 95) (st := []) (dx9 := 22) (mc := 0) (ms := 0) (host := "") 2 rfl t_X2_readSum ⟨Or.inl q_2_86, i_X2_readSum.1, i_X2_readSum.2⟩ ⟨by decide, rfl⟩ (congrArg Prod.fst (J.1.1 95 (2, 6) rfl)) rfl (by decide) rfl rfl ⟨by decide, by decide⟩ (sf_X2_readSum_r95_c0d  hD J (jmc S2 rfl z1) (jmc S2 rfl z0) (by omega) rfl  (fun v9 h ev9 J S4 u5 u6 qu5 qu6 ru5 X7 X8 => ?_))
  have Sm := jSm_tr rfl Sm S4
  try rw [X7] at D
  try rw [X8] at D
  have eu5 := (show 0 ≤ u5.toInt ∧ u5.toInt ≤ 3 from qu5 ▸ jrg_f J sg_68_5_6_1_0_1)
  try rw [vrf qu5] at D
  have eu6 := (show 0 ≤ u6.toInt ∧ u6.toInt ≤ 400 from qu6 ▸ jrg_f J sg_68_3_4_1_0_1)
  try rw [vrf qu6] at D
  show jX m_X2_readClause 25 0 0 92 [(0, .ref 95)] [.int v9] _ 0 0 _
  refine x_ifne (tgt := 97) rfl rfl (ti_ne rfl jk_0 ⟨fun c10 => ?_, fun c10 => ?_⟩)
  ·
    rw [if_neg (by omega)] at D
    refine x_aloadn (x := 95) rfl rfl ?_
    refine x_iconst (v := 0) rfl ki_0 ?_
    refine x_inv (N := m_X2_emit) (As := [.int 0]) (b := 95) (st := []) (dx9 := 1) (mc := 0) (ms := 0) (host := "") 2 rfl t_X2_emit ⟨Or.inl q_2_89, i_X2_emit.1, i_X2_emit.2⟩ ⟨by decide, rfl⟩ (congrArg Prod.fst (J.1.1 95 (2, 6) rfl)) rfl (by decide) rfl rfl ⟨by decide, by decide⟩ (sf_X2_emit_r95d  hD J rfl  (fun h J S11 X12 => ?_))
    have Sm := jSm_tr rfl Sm S11
    try rw [jk_0] at X12
    rw [X12] at D
    show jX m_X2_readClause 25 0 0 102 [(0, .ref 95)] [] _ 0 0 _
    exact jX.sub (jsb_c rfl jsb_n) (ct_X2_readClause_r95d_102 hD hQ  u6 u5 h (jr_of rfl (by omega)) (jr_of rfl (by omega)) (by omega) (jmc S11 rfl qu6) (jmc S11 rfl qu5) J Sm D)
  ·
    rw [if_pos (by omega)] at D
    refine x_iconst (v := 0) rfl ki_0 ?_
    refine x_zret rfl rfl (by decide) ?_
    exact hQ _ _ (jr_of jk_0 (by omega)) J Sm _ _ qu5 qu6 (by omega) ((congrArg Prod.fst D).symm.trans (show 0 = (0 : Int32).toInt from by have := jk_0; omega)) (congrArg Prod.snd D).symm
set_option maxRecDepth 100000 in
set_option maxHeartbeats 4000000 in
theorem sf_X2_readClause_r95d {Dy : jH → Prop} {h : jH} {Q : Option Value → jH → Prop} {dr : (Int × jW)} (hD : jDk Dy) (J : jJ jSgX Dy h) {p0 p1 : Int32} (zp0 : jiv h 68 5 = p0) (zp1 : jiv h 68 3 = p1) (rl_p0 : (p0.toInt ≠ 3 ∨ p1.toInt ≤ 399)) (D : d_X2_readClause_r95d (vw h) = dr) (hQ : ∀ (v : Int32) hx9, 0 ≤ v.toInt ∧ v.toInt ≤ 1 → jJ jSgX Dy hx9 → jSm fp_X2_readClause_r95d h hx9 → ∀ u0 u1 : Int32, jiv hx9 68 5 = u0 → jiv hx9 68 3 = u1 → (u0.toInt ≠ 3 ∨ u1.toInt ≤ 399) → dr.1 = v.toInt → dr.2 = vw hx9 → Q (some (.int v)) hx9) : jC m_X2_readClause 25 0 0 [.ref 95] h Q := by
  refine jC.of rfl k_X2_readClause rfl ?_
  have Sm := jSm_rf fp_X2_readClause_r95d h
  have ep0 := (show 0 ≤ p0.toInt ∧ p0.toInt ≤ 3 from zp0 ▸ jrg_f J sg_68_5_6_1_0_1)
  have ep1 := (show 0 ≤ p1.toInt ∧ p1.toInt ≤ 400 from zp1 ▸ jrg_f J sg_68_3_4_1_0_1)
  show jX m_X2_readClause 25 0 0 0 [(0, .ref 95)] [] _ 0 0 _
  unfold d_X2_readClause_r95d at D
  try rw [vrf zp0] at D
  try rw [vrf zp1] at D
  refine x_aloadn (x := 95) rfl rfl ?_
  refine z_getR (N := 6) (b := 68) 2 0 rfl f_2_30 rfl J rfl 12160 ⟨rfl, rfl⟩ rfl ?_
  refine x_ldcS (jstr.getD 0 jstr_0) rfl (List.mem_of_getElem? (i := 0) rfl) rfl rfl ?_
  show jX m_X2_readClause 25 0 0 6 [(0, .ref 95)] [.ref 5, .ref 68] _ 0 0 _
  refine x_inv (N := m_X9_wordOf) (As := [.ref 5]) (b := 68) (st := []) (dx9 := 4) (mc := 0) (ms := 0) (host := "") 9 rfl t_X9_wordOf ⟨Or.inl q_2_67, i_X9_wordOf.1, i_X9_wordOf.2⟩ ⟨by decide, rfl⟩ (congrArg Prod.fst (J.1.1 68 (9, 6) rfl)) rfl (by decide) rfl rfl ⟨by decide, by decide⟩ (sf_X9_wordOf_r68_r5d  hD J rfl  (fun v4 h J S1 X2 X3 => ?_))
  have ev4 := jfull v4
  have Sm := jSm_tr rfl Sm S1
  try rw [X2] at D
  try rw [← X3] at D
  show jX m_X2_readClause 25 0 0 9 [(0, .ref 95)] [.int v4] _ 0 0 _
  refine x_istoren (lsx9 := [(1, .int v4), (0, .ref 95)]) rfl rfl rfl ?_
  refine x_iloadn (x := v4) rfl rfl ?_
  refine x_iconst (v := (-1)) rfl ki_m1 ?_
  refine x_icne (tgt := 23) rfl rfl (ti_ne rfl jk_m1 ⟨fun c5 => ?_, fun c5 => ?_⟩)
  ·
    rw [if_neg (by omega)] at D
    refine x_aloadn (x := 95) rfl rfl ?_
    refine z_getR (N := 6) (b := 68) 2 0 rfl f_2_30 rfl J rfl 12160 ⟨rfl, rfl⟩ rfl ?_
    refine x_inv (N := m_X9_step) (As := []) (b := 68) (st := []) (dx9 := 2) (mc := 0) (ms := 0) (host := "") 9 rfl t_X9_step ⟨Or.inl q_2_62, i_X9_step.1, i_X9_step.2⟩ ⟨by decide, rfl⟩ (congrArg Prod.fst (J.1.1 68 (9, 6) rfl)) rfl (by decide) rfl rfl ⟨by decide, by decide⟩ (sf_X9_step_r68d  hD J (jmc S1 rfl zp0) (jmc S1 rfl zp1) (by omega) rfl  (fun h J S6 u7 u8 qu7 qu8 ru7 X9 => ?_))
    have Sm := jSm_tr rfl Sm S6
    rw [X9] at D
    have eu7 := (show 0 ≤ u7.toInt ∧ u7.toInt ≤ 3 from qu7 ▸ jrg_f J sg_68_5_6_1_0_1)
    try rw [vrf qu7] at D
    have eu8 := (show 0 ≤ u8.toInt ∧ u8.toInt ≤ 400 from qu8 ▸ jrg_f J sg_68_3_4_1_0_1)
    try rw [vrf qu8] at D
    show jX m_X2_readClause 25 0 0 30 [(1, .int v4), (0, .ref 95)] [] _ 0 0 _
    refine x_aloadn (x := 95) rfl rfl ?_
    refine x_iloadn (x := v4) rfl rfl ?_
    refine x_inv (N := m_X2_openHead) (As := [.int v4]) (b := 95) (st := []) (dx9 := 2) (mc := 0) (ms := 0) (host := "") 2 rfl t_X2_openHead ⟨Or.inl q_2_71, i_X2_openHead.1, i_X2_openHead.2⟩ ⟨by decide, rfl⟩ (congrArg Prod.fst (J.1.1 95 (2, 6) rfl)) rfl (by decide) rfl rfl ⟨by decide, by decide⟩ (sf_X2_openHead_r95d  hD J rfl  (fun h J S10 X11 => ?_))
    have Sm := jSm_tr rfl Sm S10
    rw [X11] at D
    show jX m_X2_readClause 25 0 0 35 [(1, .int v4), (0, .ref 95)] [] _ 0 0 _
    refine x_iloadn (x := v4) rfl rfl ?_
    refine x_bipush (v := 8) rfl kb_8 ?_
    refine x_icne (tgt := 46) rfl rfl (ti_ne rfl jk_8 ⟨fun c12 => ?_, fun c12 => ?_⟩)
    ·
      rw [if_neg (by omega)] at D
      refine x_aloadn (x := 95) rfl rfl ?_
      refine x_iloadn (x := v4) rfl rfl ?_
      refine x_inv (N := m_X2_readHead) (As := [.int v4]) (b := 95) (st := []) (dx9 := 24) (mc := 0) (ms := 0) (host := "") 2 rfl t_X2_readHead ⟨Or.inl q_2_78, i_X2_readHead.1, i_X2_readHead.2⟩ ⟨by decide, rfl⟩ (congrArg Prod.fst (J.1.1 95 (2, 6) rfl)) rfl (by decide) rfl rfl ⟨by decide, by decide⟩ (jC.of rfl k_X2_readHead rfl ?_)
      show jX m_X2_readHead 24 0 0 0 [(0, .ref 95), (1, .int v4)] [] _ 0 0 _
      refine x_iloadn (x := v4) rfl rfl ?_
      by_cases c13 : v4.toInt = 0
      ·
        refine x_tableIn (tgt := 44) 0 rfl c13 (by decide) (by decide) rfl rfl ?_
        rw [if_pos c13] at D
        refine x_aloadn (x := 95) rfl rfl ?_
        refine x_ldcS (jstr.getD 2 jstr_0) rfl (List.mem_of_getElem? (i := 2) rfl) rfl rfl ?_
        show jX m_X2_readHead 24 0 0 47 [(0, .ref 95), (1, .int v4)] [.ref 7, .ref 95] _ 0 0 _
        refine x_inv (N := m_X2_readWhich) (As := [.ref 7]) (b := 95) (st := []) (dx9 := 5) (mc := 0) (ms := 0) (host := "") 2 rfl t_X2_readWhich ⟨Or.inl q_2_107, i_X2_readWhich.1, i_X2_readWhich.2⟩ ⟨by decide, rfl⟩ (congrArg Prod.fst (J.1.1 95 (2, 6) rfl)) rfl (by decide) rfl rfl ⟨by decide, by decide⟩ (sf_X2_readWhich_r95_r7d  hD J (jmc S10 rfl qu7) (jmc S10 rfl qu8) (by omega) rfl  (fun v19 h ev19 J S14 u15 u16 qu15 qu16 ru15 X17 X18 => ?_))
        have Sm := jSm_tr rfl Sm S14
        try rw [X17] at D
        try rw [X18] at D
        have eu15 := (show 0 ≤ u15.toInt ∧ u15.toInt ≤ 3 from qu15 ▸ jrg_f J sg_68_5_6_1_0_1)
        try rw [vrf qu15] at D
        have eu16 := (show 0 ≤ u16.toInt ∧ u16.toInt ≤ 400 from qu16 ▸ jrg_f J sg_68_3_4_1_0_1)
        try rw [vrf qu16] at D
        show jX m_X2_readHead 24 0 0 50 [(0, .ref 95), (1, .int v4)] [.int v19] _ 0 0 _
        refine x_zret rfl rfl (jz01 (by omega)) ?_
        show jX m_X2_readClause 25 0 0 51 [(1, .int v4), (0, .ref 95)] [.int v19] _ 0 0 _
        refine x_ifne (tgt := 56) rfl rfl (ti_ne rfl jk_0 ⟨fun c20 => ?_, fun c20 => ?_⟩)
        ·
          rw [if_neg (by omega)] at D
          refine x_iloadn (x := v4) rfl rfl ?_
          refine x_iconst (v := 2) rfl ki_2 ?_
          refine x_iceq (tgt := 78) rfl rfl (ti_eq rfl jk_2 (br_f (by omega) ?_))
          refine x_iloadn (x := v4) rfl rfl ?_
          refine x_iconst (v := 3) rfl ki_3 ?_
          refine x_iceq (tgt := 78) rfl rfl (ti_eq rfl jk_3 (br_f (by omega) ?_))
          refine x_iloadn (x := v4) rfl rfl ?_
          refine x_bipush (v := 6) rfl kb_6 ?_
          refine x_iceq (tgt := 78) rfl rfl (ti_eq rfl jk_6 (br_f (by omega) ?_))
          refine x_iloadn (x := v4) rfl rfl ?_
          refine x_bipush (v := 7) rfl kb_7 ?_
          refine x_icne (tgt := 102) rfl rfl (ti_ne rfl jk_7 (bn_t (by omega) ?_))
          exact jX.sub (jsb_c rfl jsb_n) (ct_X2_readClause_r95d_102 hD hQ  u16 u15 h (jr_of rfl (by omega)) (jr_of rfl (by omega)) (by omega) qu16 qu15 J Sm D)
        ·
          rw [if_pos (by omega)] at D
          refine x_iconst (v := 0) rfl ki_0 ?_
          refine x_zret rfl rfl (by decide) ?_
          exact hQ _ _ (jr_of jk_0 (by omega)) J Sm _ _ qu15 qu16 (by omega) ((congrArg Prod.fst D).symm.trans (show 0 = (0 : Int32).toInt from by have := jk_0; omega)) (congrArg Prod.snd D).symm
      rw [if_neg c13] at D
      by_cases c21 : v4.toInt = 1
      ·
        refine x_tableIn (tgt := 51) 1 rfl c21 (by decide) (by decide) rfl rfl ?_
        rw [if_pos c21] at D
        refine x_aloadn (x := 95) rfl rfl ?_
        refine x_ldcS (jstr.getD 3 jstr_0) rfl (List.mem_of_getElem? (i := 3) rfl) rfl rfl ?_
        show jX m_X2_readHead 24 0 0 54 [(0, .ref 95), (1, .int v4)] [.ref 8, .ref 95] _ 0 0 _
        refine x_inv (N := m_X2_readWhich) (As := [.ref 8]) (b := 95) (st := []) (dx9 := 5) (mc := 0) (ms := 0) (host := "") 2 rfl t_X2_readWhich ⟨Or.inl q_2_107, i_X2_readWhich.1, i_X2_readWhich.2⟩ ⟨by decide, rfl⟩ (congrArg Prod.fst (J.1.1 95 (2, 6) rfl)) rfl (by decide) rfl rfl ⟨by decide, by decide⟩ (sf_X2_readWhich_r95_r8d  hD J (jmc S10 rfl qu7) (jmc S10 rfl qu8) (by omega) rfl  (fun v27 h ev27 J S22 u23 u24 qu23 qu24 ru23 X25 X26 => ?_))
        have Sm := jSm_tr rfl Sm S22
        try rw [X25] at D
        try rw [X26] at D
        have eu23 := (show 0 ≤ u23.toInt ∧ u23.toInt ≤ 3 from qu23 ▸ jrg_f J sg_68_5_6_1_0_1)
        try rw [vrf qu23] at D
        have eu24 := (show 0 ≤ u24.toInt ∧ u24.toInt ≤ 400 from qu24 ▸ jrg_f J sg_68_3_4_1_0_1)
        try rw [vrf qu24] at D
        show jX m_X2_readHead 24 0 0 57 [(0, .ref 95), (1, .int v4)] [.int v27] _ 0 0 _
        refine x_zret rfl rfl (jz01 (by omega)) ?_
        show jX m_X2_readClause 25 0 0 51 [(1, .int v4), (0, .ref 95)] [.int v27] _ 0 0 _
        refine x_ifne (tgt := 56) rfl rfl (ti_ne rfl jk_0 ⟨fun c28 => ?_, fun c28 => ?_⟩)
        ·
          rw [if_neg (by omega)] at D
          refine x_iloadn (x := v4) rfl rfl ?_
          refine x_iconst (v := 2) rfl ki_2 ?_
          refine x_iceq (tgt := 78) rfl rfl (ti_eq rfl jk_2 (br_f (by omega) ?_))
          refine x_iloadn (x := v4) rfl rfl ?_
          refine x_iconst (v := 3) rfl ki_3 ?_
          refine x_iceq (tgt := 78) rfl rfl (ti_eq rfl jk_3 (br_f (by omega) ?_))
          refine x_iloadn (x := v4) rfl rfl ?_
          refine x_bipush (v := 6) rfl kb_6 ?_
          refine x_iceq (tgt := 78) rfl rfl (ti_eq rfl jk_6 (br_f (by omega) ?_))
          refine x_iloadn (x := v4) rfl rfl ?_
          refine x_bipush (v := 7) rfl kb_7 ?_
          refine x_icne (tgt := 102) rfl rfl (ti_ne rfl jk_7 (bn_t (by omega) ?_))
          exact jX.sub (jsb_c rfl jsb_n) (ct_X2_readClause_r95d_102 hD hQ  u24 u23 h (jr_of rfl (by omega)) (jr_of rfl (by omega)) (by omega) qu24 qu23 J Sm D)
        ·
          rw [if_pos (by omega)] at D
          refine x_iconst (v := 0) rfl ki_0 ?_
          refine x_zret rfl rfl (by decide) ?_
          exact hQ _ _ (jr_of jk_0 (by omega)) J Sm _ _ qu23 qu24 (by omega) ((congrArg Prod.fst D).symm.trans (show 0 = (0 : Int32).toInt from by have := jk_0; omega)) (congrArg Prod.snd D).symm
      rw [if_neg c21] at D
      by_cases c29 : v4.toInt = 2
      ·
        refine x_tableIn (tgt := 51) 2 rfl c29 (by decide) (by decide) rfl rfl ?_
        rw [if_pos c29] at D
        refine x_aloadn (x := 95) rfl rfl ?_
        refine x_ldcS (jstr.getD 3 jstr_0) rfl (List.mem_of_getElem? (i := 3) rfl) rfl rfl ?_
        show jX m_X2_readHead 24 0 0 54 [(0, .ref 95), (1, .int v4)] [.ref 8, .ref 95] _ 0 0 _
        refine x_inv (N := m_X2_readWhich) (As := [.ref 8]) (b := 95) (st := []) (dx9 := 5) (mc := 0) (ms := 0) (host := "") 2 rfl t_X2_readWhich ⟨Or.inl q_2_107, i_X2_readWhich.1, i_X2_readWhich.2⟩ ⟨by decide, rfl⟩ (congrArg Prod.fst (J.1.1 95 (2, 6) rfl)) rfl (by decide) rfl rfl ⟨by decide, by decide⟩ (sf_X2_readWhich_r95_r8d  hD J (jmc S10 rfl qu7) (jmc S10 rfl qu8) (by omega) rfl  (fun v35 h ev35 J S30 u31 u32 qu31 qu32 ru31 X33 X34 => ?_))
        have Sm := jSm_tr rfl Sm S30
        try rw [X33] at D
        try rw [X34] at D
        have eu31 := (show 0 ≤ u31.toInt ∧ u31.toInt ≤ 3 from qu31 ▸ jrg_f J sg_68_5_6_1_0_1)
        try rw [vrf qu31] at D
        have eu32 := (show 0 ≤ u32.toInt ∧ u32.toInt ≤ 400 from qu32 ▸ jrg_f J sg_68_3_4_1_0_1)
        try rw [vrf qu32] at D
        show jX m_X2_readHead 24 0 0 57 [(0, .ref 95), (1, .int v4)] [.int v35] _ 0 0 _
        refine x_zret rfl rfl (jz01 (by omega)) ?_
        show jX m_X2_readClause 25 0 0 51 [(1, .int v4), (0, .ref 95)] [.int v35] _ 0 0 _
        refine x_ifne (tgt := 56) rfl rfl (ti_ne rfl jk_0 ⟨fun c36 => ?_, fun c36 => ?_⟩)
        ·
          rw [if_neg (by omega)] at D
          refine x_iloadn (x := v4) rfl rfl ?_
          refine x_iconst (v := 2) rfl ki_2 ?_
          refine x_iceq (tgt := 78) rfl rfl (ti_eq rfl jk_2 (br_t (by omega) ?_))
          exact jX.sub (jsb_c rfl jsb_n) (ct_X2_readClause_r95d_78 hD hQ  u32 u31 h (jr_of rfl (by omega)) (jr_of rfl (by omega)) (by omega) qu32 qu31 J Sm D)
        ·
          rw [if_pos (by omega)] at D
          refine x_iconst (v := 0) rfl ki_0 ?_
          refine x_zret rfl rfl (by decide) ?_
          exact hQ _ _ (jr_of jk_0 (by omega)) J Sm _ _ qu31 qu32 (by omega) ((congrArg Prod.fst D).symm.trans (show 0 = (0 : Int32).toInt from by have := jk_0; omega)) (congrArg Prod.snd D).symm
      rw [if_neg c29] at D
      by_cases c37 : v4.toInt = 3
      ·
        refine x_tableIn (tgt := 91) 3 rfl c37 (by decide) (by decide) rfl rfl ?_
        rw [if_pos c37] at D
        refine x_iconst (v := 1) rfl ki_1 ?_
        refine x_zret rfl rfl (by decide) ?_
        show jX m_X2_readClause 25 0 0 51 [(1, .int v4), (0, .ref 95)] [.int 1] _ 0 0 _
        refine x_ifne (tgt := 56) rfl rfl (ti_ne jk_1 jk_0 (bn_t (by omega) ?_))
        refine x_iloadn (x := v4) rfl rfl ?_
        refine x_iconst (v := 2) rfl ki_2 ?_
        refine x_iceq (tgt := 78) rfl rfl (ti_eq rfl jk_2 (br_f (by omega) ?_))
        refine x_iloadn (x := v4) rfl rfl ?_
        refine x_iconst (v := 3) rfl ki_3 ?_
        refine x_iceq (tgt := 78) rfl rfl (ti_eq rfl jk_3 (br_t (by omega) ?_))
        exact jX.sub (jsb_c rfl jsb_n) (ct_X2_readClause_r95d_78 hD hQ  u8 u7 h (jr_of rfl (by omega)) (jr_of rfl (by omega)) (by omega) (jmc S10 rfl qu8) (jmc S10 rfl qu7) J Sm D)
      rw [if_neg c37] at D
      by_cases c38 : v4.toInt = 4
      ·
        refine x_tableIn (tgt := 91) 4 rfl c38 (by decide) (by decide) rfl rfl ?_
        rw [if_pos c38] at D
        refine x_iconst (v := 1) rfl ki_1 ?_
        refine x_zret rfl rfl (by decide) ?_
        show jX m_X2_readClause 25 0 0 51 [(1, .int v4), (0, .ref 95)] [.int 1] _ 0 0 _
        refine x_ifne (tgt := 56) rfl rfl (ti_ne jk_1 jk_0 (bn_t (by omega) ?_))
        refine x_iloadn (x := v4) rfl rfl ?_
        refine x_iconst (v := 2) rfl ki_2 ?_
        refine x_iceq (tgt := 78) rfl rfl (ti_eq rfl jk_2 (br_f (by omega) ?_))
        refine x_iloadn (x := v4) rfl rfl ?_
        refine x_iconst (v := 3) rfl ki_3 ?_
        refine x_iceq (tgt := 78) rfl rfl (ti_eq rfl jk_3 (br_f (by omega) ?_))
        refine x_iloadn (x := v4) rfl rfl ?_
        refine x_bipush (v := 6) rfl kb_6 ?_
        refine x_iceq (tgt := 78) rfl rfl (ti_eq rfl jk_6 (br_f (by omega) ?_))
        refine x_iloadn (x := v4) rfl rfl ?_
        refine x_bipush (v := 7) rfl kb_7 ?_
        refine x_icne (tgt := 102) rfl rfl (ti_ne rfl jk_7 (bn_t (by omega) ?_))
        exact jX.sub (jsb_c rfl jsb_n) (ct_X2_readClause_r95d_102 hD hQ  u8 u7 h (jr_of rfl (by omega)) (jr_of rfl (by omega)) (by omega) (jmc S10 rfl qu8) (jmc S10 rfl qu7) J Sm D)
      rw [if_neg c38] at D
      by_cases c39 : v4.toInt = 5
      ·
        refine x_tableIn (tgt := 58) 5 rfl c39 (by decide) (by decide) rfl rfl ?_
        rw [if_pos c39] at D
        refine x_aloadn (x := 95) rfl rfl ?_
        refine x_ldcS (jstr.getD 4 jstr_0) rfl (List.mem_of_getElem? (i := 4) rfl) rfl rfl ?_
        show jX m_X2_readHead 24 0 0 61 [(0, .ref 95), (1, .int v4)] [.ref 9, .ref 95] _ 0 0 _
        refine x_inv (N := m_X2_readWhich) (As := [.ref 9]) (b := 95) (st := []) (dx9 := 5) (mc := 0) (ms := 0) (host := "") 2 rfl t_X2_readWhich ⟨Or.inl q_2_107, i_X2_readWhich.1, i_X2_readWhich.2⟩ ⟨by decide, rfl⟩ (congrArg Prod.fst (J.1.1 95 (2, 6) rfl)) rfl (by decide) rfl rfl ⟨by decide, by decide⟩ (sf_X2_readWhich_r95_r9d  hD J (jmc S10 rfl qu7) (jmc S10 rfl qu8) (by omega) rfl  (fun v45 h ev45 J S40 u41 u42 qu41 qu42 ru41 X43 X44 => ?_))
        have Sm := jSm_tr rfl Sm S40
        try rw [X43] at D
        try rw [X44] at D
        have eu41 := (show 0 ≤ u41.toInt ∧ u41.toInt ≤ 3 from qu41 ▸ jrg_f J sg_68_5_6_1_0_1)
        try rw [vrf qu41] at D
        have eu42 := (show 0 ≤ u42.toInt ∧ u42.toInt ≤ 400 from qu42 ▸ jrg_f J sg_68_3_4_1_0_1)
        try rw [vrf qu42] at D
        show jX m_X2_readHead 24 0 0 64 [(0, .ref 95), (1, .int v4)] [.int v45] _ 0 0 _
        refine x_ifeq (tgt := 82) rfl rfl (ti_eq rfl jk_0 ⟨fun c46 => ?_, fun c46 => ?_⟩)
        ·
          rw [if_pos (by omega)] at D
          refine x_iconst (v := 0) rfl ki_0 ?_
          refine x_zret rfl rfl (by decide) ?_
          show jX m_X2_readClause 25 0 0 51 [(1, .int v4), (0, .ref 95)] [.int 0] _ 0 0 _
          refine x_ifne (tgt := 56) rfl rfl (ti_ne jk_0 jk_0 (bn_f (by omega) ?_))
          refine x_iconst (v := 0) rfl ki_0 ?_
          refine x_zret rfl rfl (by decide) ?_
          exact hQ _ _ (jr_of jk_0 (by omega)) J Sm _ _ qu41 qu42 (by omega) ((congrArg Prod.fst D).symm.trans (show 0 = (0 : Int32).toInt from by have := jk_0; omega)) (congrArg Prod.snd D).symm
        ·
          rw [if_neg (by omega)] at D
          refine x_aloadn (x := 95) rfl rfl ?_
          refine x_iconst (v := 2) rfl ki_2 ?_
          refine x_sipush (v := 399) rfl ks_399 ?_
          refine x_inv (N := m_X2_readNumber) (As := [.int 2, .int 399]) (b := 95) (st := []) (dx9 := 3) (mc := 0) (ms := 0) (host := "") 2 rfl t_X2_readNumber ⟨Or.inl q_2_99, i_X2_readNumber.1, i_X2_readNumber.2⟩ ⟨by decide, rfl⟩ (congrArg Prod.fst (J.1.1 95 (2, 6) rfl)) rfl (by decide) rfl rfl ⟨by decide, by decide⟩ (sf_X2_readNumber_r95d (jr_of jk_2 (by omega)) (jr_of jk_399 (by omega)) (jr_mod jk_399 (by omega)) hD J qu41 qu42 (by omega) rfl  (fun v52 h ev52 J S47 u48 u49 qu48 qu49 ru48 X50 X51 => ?_))
          have Sm := jSm_tr rfl Sm S47
          try rw [jk_2] at X50
          try rw [jk_399] at X50
          try rw [jk_2] at X51
          try rw [jk_399] at X51
          try rw [X50] at D
          try rw [X51] at D
          have eu48 := (show 0 ≤ u48.toInt ∧ u48.toInt ≤ 3 from qu48 ▸ jrg_f J sg_68_5_6_1_0_1)
          try rw [vrf qu48] at D
          have eu49 := (show 0 ≤ u49.toInt ∧ u49.toInt ≤ 400 from qu49 ▸ jrg_f J sg_68_3_4_1_0_1)
          try rw [vrf qu49] at D
          show jX m_X2_readHead 24 0 0 75 [(0, .ref 95), (1, .int v4)] [.int v52] _ 0 0 _
          refine x_ifeq (tgt := 82) rfl rfl (ti_eq rfl jk_0 ⟨fun c53 => ?_, fun c53 => ?_⟩)
          ·
            rw [if_pos (by omega)] at D
            refine x_iconst (v := 0) rfl ki_0 ?_
            refine x_zret rfl rfl (by decide) ?_
            show jX m_X2_readClause 25 0 0 51 [(1, .int v4), (0, .ref 95)] [.int 0] _ 0 0 _
            refine x_ifne (tgt := 56) rfl rfl (ti_ne jk_0 jk_0 (bn_f (by omega) ?_))
            refine x_iconst (v := 0) rfl ki_0 ?_
            refine x_zret rfl rfl (by decide) ?_
            exact hQ _ _ (jr_of jk_0 (by omega)) J Sm _ _ qu48 qu49 (by omega) ((congrArg Prod.fst D).symm.trans (show 0 = (0 : Int32).toInt from by have := jk_0; omega)) (congrArg Prod.snd D).symm
          ·
            rw [if_neg (by omega)] at D
            refine x_iconst (v := 1) rfl ki_1 ?_
            refine x_goto (tgt := 83) rfl rfl ?_
            refine x_zret rfl rfl (by decide) ?_
            show jX m_X2_readClause 25 0 0 51 [(1, .int v4), (0, .ref 95)] [.int 1] _ 0 0 _
            refine x_ifne (tgt := 56) rfl rfl (ti_ne jk_1 jk_0 (bn_t (by omega) ?_))
            refine x_iloadn (x := v4) rfl rfl ?_
            refine x_iconst (v := 2) rfl ki_2 ?_
            refine x_iceq (tgt := 78) rfl rfl (ti_eq rfl jk_2 (br_f (by omega) ?_))
            refine x_iloadn (x := v4) rfl rfl ?_
            refine x_iconst (v := 3) rfl ki_3 ?_
            refine x_iceq (tgt := 78) rfl rfl (ti_eq rfl jk_3 (br_f (by omega) ?_))
            refine x_iloadn (x := v4) rfl rfl ?_
            refine x_bipush (v := 6) rfl kb_6 ?_
            refine x_iceq (tgt := 78) rfl rfl (ti_eq rfl jk_6 (br_f (by omega) ?_))
            refine x_iloadn (x := v4) rfl rfl ?_
            refine x_bipush (v := 7) rfl kb_7 ?_
            refine x_icne (tgt := 102) rfl rfl (ti_ne rfl jk_7 (bn_t (by omega) ?_))
            exact jX.sub (jsb_c rfl jsb_n) (ct_X2_readClause_r95d_102 hD hQ  u49 u48 h (jr_of rfl (by omega)) (jr_of rfl (by omega)) (by omega) qu49 qu48 J Sm D)
      rw [if_neg c39] at D
      by_cases c54 : v4.toInt = 6
      ·
        refine x_tableIn (tgt := 84) 6 rfl c54 (by decide) (by decide) rfl rfl ?_
        rw [if_pos c54] at D
        refine x_aloadn (x := 95) rfl rfl ?_
        refine x_ldcS (jstr.getD 5 jstr_0) rfl (List.mem_of_getElem? (i := 5) rfl) rfl rfl ?_
        show jX m_X2_readHead 24 0 0 87 [(0, .ref 95), (1, .int v4)] [.ref 10, .ref 95] _ 0 0 _
        refine x_inv (N := m_X2_readWhich) (As := [.ref 10]) (b := 95) (st := []) (dx9 := 5) (mc := 0) (ms := 0) (host := "") 2 rfl t_X2_readWhich ⟨Or.inl q_2_107, i_X2_readWhich.1, i_X2_readWhich.2⟩ ⟨by decide, rfl⟩ (congrArg Prod.fst (J.1.1 95 (2, 6) rfl)) rfl (by decide) rfl rfl ⟨by decide, by decide⟩ (sf_X2_readWhich_r95_r10d  hD J (jmc S10 rfl qu7) (jmc S10 rfl qu8) (by omega) rfl  (fun v60 h ev60 J S55 u56 u57 qu56 qu57 ru56 X58 X59 => ?_))
        have Sm := jSm_tr rfl Sm S55
        try rw [X58] at D
        try rw [X59] at D
        have eu56 := (show 0 ≤ u56.toInt ∧ u56.toInt ≤ 3 from qu56 ▸ jrg_f J sg_68_5_6_1_0_1)
        try rw [vrf qu56] at D
        have eu57 := (show 0 ≤ u57.toInt ∧ u57.toInt ≤ 400 from qu57 ▸ jrg_f J sg_68_3_4_1_0_1)
        try rw [vrf qu57] at D
        show jX m_X2_readHead 24 0 0 90 [(0, .ref 95), (1, .int v4)] [.int v60] _ 0 0 _
        refine x_zret rfl rfl (jz01 (by omega)) ?_
        show jX m_X2_readClause 25 0 0 51 [(1, .int v4), (0, .ref 95)] [.int v60] _ 0 0 _
        refine x_ifne (tgt := 56) rfl rfl (ti_ne rfl jk_0 ⟨fun c61 => ?_, fun c61 => ?_⟩)
        ·
          rw [if_neg (by omega)] at D
          refine x_iloadn (x := v4) rfl rfl ?_
          refine x_iconst (v := 2) rfl ki_2 ?_
          refine x_iceq (tgt := 78) rfl rfl (ti_eq rfl jk_2 (br_f (by omega) ?_))
          refine x_iloadn (x := v4) rfl rfl ?_
          refine x_iconst (v := 3) rfl ki_3 ?_
          refine x_iceq (tgt := 78) rfl rfl (ti_eq rfl jk_3 (br_f (by omega) ?_))
          refine x_iloadn (x := v4) rfl rfl ?_
          refine x_bipush (v := 6) rfl kb_6 ?_
          refine x_iceq (tgt := 78) rfl rfl (ti_eq rfl jk_6 (br_t (by omega) ?_))
          exact jX.sub (jsb_c rfl jsb_n) (ct_X2_readClause_r95d_78 hD hQ  u57 u56 h (jr_of rfl (by omega)) (jr_of rfl (by omega)) (by omega) qu57 qu56 J Sm D)
        ·
          rw [if_pos (by omega)] at D
          refine x_iconst (v := 0) rfl ki_0 ?_
          refine x_zret rfl rfl (by decide) ?_
          exact hQ _ _ (jr_of jk_0 (by omega)) J Sm _ _ qu56 qu57 (by omega) ((congrArg Prod.fst D).symm.trans (show 0 = (0 : Int32).toInt from by have := jk_0; omega)) (congrArg Prod.snd D).symm
      rw [if_neg c54] at D
      refine x_tableOut (tgt := 91) rfl (by omega) rfl ?_
      refine x_iconst (v := 1) rfl ki_1 ?_
      refine x_zret rfl rfl (by decide) ?_
      show jX m_X2_readClause 25 0 0 51 [(1, .int v4), (0, .ref 95)] [.int 1] _ 0 0 _
      refine x_ifne (tgt := 56) rfl rfl (ti_ne jk_1 jk_0 (bn_t (by omega) ?_))
      refine x_iloadn (x := v4) rfl rfl ?_
      refine x_iconst (v := 2) rfl ki_2 ?_
      refine x_iceq (tgt := 78) rfl rfl (ti_eq rfl jk_2 ⟨fun c62 => ?_, fun c62 => ?_⟩)
      ·
        rw [if_pos (by omega)] at D
        exact jX.sub (jsb_c rfl jsb_n) (ct_X2_readClause_r95d_78 hD hQ  u8 u7 h (jr_of rfl (by omega)) (jr_of rfl (by omega)) (by omega) (jmc S10 rfl qu8) (jmc S10 rfl qu7) J Sm D)
      ·
        rw [if_neg (by omega)] at D
        refine x_iloadn (x := v4) rfl rfl ?_
        refine x_iconst (v := 3) rfl ki_3 ?_
        refine x_iceq (tgt := 78) rfl rfl (ti_eq rfl jk_3 ⟨fun c63 => ?_, fun c63 => ?_⟩)
        ·
          rw [if_pos (by omega)] at D
          exact jX.sub (jsb_c rfl jsb_n) (ct_X2_readClause_r95d_78 hD hQ  u8 u7 h (jr_of rfl (by omega)) (jr_of rfl (by omega)) (by omega) (jmc S10 rfl qu8) (jmc S10 rfl qu7) J Sm D)
        ·
          rw [if_neg (by omega)] at D
          refine x_iloadn (x := v4) rfl rfl ?_
          refine x_bipush (v := 6) rfl kb_6 ?_
          refine x_iceq (tgt := 78) rfl rfl (ti_eq rfl jk_6 ⟨fun c64 => ?_, fun c64 => ?_⟩)
          ·
            rw [if_pos (by omega)] at D
            exact jX.sub (jsb_c rfl jsb_n) (ct_X2_readClause_r95d_78 hD hQ  u8 u7 h (jr_of rfl (by omega)) (jr_of rfl (by omega)) (by omega) (jmc S10 rfl qu8) (jmc S10 rfl qu7) J Sm D)
          ·
            rw [if_neg (by omega)] at D
            refine x_iloadn (x := v4) rfl rfl ?_
            refine x_bipush (v := 7) rfl kb_7 ?_
            refine x_icne (tgt := 102) rfl rfl (ti_ne rfl jk_7 ⟨fun c65 => ?_, fun c65 => ?_⟩)
            ·
              rw [if_neg (by omega)] at D
              exact jX.sub (jsb_c rfl jsb_n) (ct_X2_readClause_r95d_102 hD hQ  u8 u7 h (jr_of rfl (by omega)) (jr_of rfl (by omega)) (by omega) (jmc S10 rfl qu8) (jmc S10 rfl qu7) J Sm D)
            ·
              rw [if_pos (by omega)] at D
              exact jX.sub (jsb_c rfl jsb_n) (ct_X2_readClause_r95d_78 hD hQ  u8 u7 h (jr_of rfl (by omega)) (jr_of rfl (by omega)) (by omega) (jmc S10 rfl qu8) (jmc S10 rfl qu7) J Sm D)
    ·
      rw [if_pos (by omega)] at D
      refine x_aloadn (x := 95) rfl rfl ?_
      refine x_inv (N := m_X2_readStrike) (As := []) (b := 95) (st := []) (dx9 := 24) (mc := 0) (ms := 0) (host := "") 2 rfl t_X2_readStrike ⟨Or.inl q_2_75, i_X2_readStrike.1, i_X2_readStrike.2⟩ ⟨by decide, rfl⟩ (congrArg Prod.fst (J.1.1 95 (2, 6) rfl)) rfl (by decide) rfl rfl ⟨by decide, by decide⟩ (jC.of rfl k_X2_readStrike rfl ?_)
      show jX m_X2_readStrike 24 0 0 0 [(0, .ref 95)] [] _ 0 0 _
      refine x_aloadn (x := 95) rfl rfl ?_
      refine x_iconst (v := 1) rfl ki_1 ?_
      refine x_bipush (v := 29) rfl kb_29 ?_
      refine x_inv (N := m_X2_readNumber) (As := [.int 1, .int 29]) (b := 95) (st := []) (dx9 := 3) (mc := 0) (ms := 0) (host := "") 2 rfl t_X2_readNumber ⟨Or.inl q_2_99, i_X2_readNumber.1, i_X2_readNumber.2⟩ ⟨by decide, rfl⟩ (congrArg Prod.fst (J.1.1 95 (2, 6) rfl)) rfl (by decide) rfl rfl ⟨by decide, by decide⟩ (sf_X2_readNumber_r95d (jr_of jk_1 (by omega)) (jr_of jk_29 (by omega)) (jr_mod jk_29 (by omega)) hD J (jmc S10 rfl qu7) (jmc S10 rfl qu8) (by omega) rfl  (fun v71 h ev71 J S66 u67 u68 qu67 qu68 ru67 X69 X70 => ?_))
      have Sm := jSm_tr rfl Sm S66
      try rw [jk_1] at X69
      try rw [jk_29] at X69
      try rw [jk_1] at X70
      try rw [jk_29] at X70
      try rw [X69] at D
      try rw [X70] at D
      have eu67 := (show 0 ≤ u67.toInt ∧ u67.toInt ≤ 3 from qu67 ▸ jrg_f J sg_68_5_6_1_0_1)
      try rw [vrf qu67] at D
      have eu68 := (show 0 ≤ u68.toInt ∧ u68.toInt ≤ 400 from qu68 ▸ jrg_f J sg_68_3_4_1_0_1)
      try rw [vrf qu68] at D
      show jX m_X2_readStrike 24 0 0 7 [(0, .ref 95)] [.int v71] _ 0 0 _
      refine x_ifne (tgt := 12) rfl rfl (ti_ne rfl jk_0 ⟨fun c72 => ?_, fun c72 => ?_⟩)
      ·
        rw [if_neg (by omega)] at D
        refine x_aloadn (x := 95) rfl rfl ?_
        refine z_getR (N := 6) (b := 68) 2 0 rfl f_2_30 rfl J rfl 12160 ⟨rfl, rfl⟩ rfl ?_
        refine x_ldcS (jstr.getD 1 jstr_0) rfl (List.mem_of_getElem? (i := 1) rfl) rfl rfl ?_
        show jX m_X2_readStrike 24 0 0 18 [(0, .ref 95)] [.ref 6, .ref 68] _ 0 0 _
        refine x_inv (N := m_X9_wordOf) (As := [.ref 6]) (b := 68) (st := []) (dx9 := 4) (mc := 0) (ms := 0) (host := "") 9 rfl t_X9_wordOf ⟨Or.inl q_2_67, i_X9_wordOf.1, i_X9_wordOf.2⟩ ⟨by decide, rfl⟩ (congrArg Prod.fst (J.1.1 68 (9, 6) rfl)) rfl (by decide) rfl rfl ⟨by decide, by decide⟩ (sf_X9_wordOf_r68_r6d  hD J rfl  (fun v76 h J S73 X74 X75 => ?_))
        have ev76 := jfull v76
        have Sm := jSm_tr rfl Sm S73
        try rw [X74] at D
        try rw [← X75] at D
        show jX m_X2_readStrike 24 0 0 21 [(0, .ref 95)] [.int v76] _ 0 0 _
        refine x_ifeq (tgt := 32) rfl rfl (ti_eq rfl jk_0 ⟨fun c77 => ?_, fun c77 => ?_⟩)
        ·
          rw [if_pos (by omega)] at D
          refine x_aloadn (x := 95) rfl rfl ?_
          refine z_getR (N := 6) (b := 68) 2 0 rfl f_2_30 rfl J rfl 12160 ⟨rfl, rfl⟩ rfl ?_
          refine x_inv (N := m_X9_step) (As := []) (b := 68) (st := []) (dx9 := 2) (mc := 0) (ms := 0) (host := "") 9 rfl t_X9_step ⟨Or.inl q_2_62, i_X9_step.1, i_X9_step.2⟩ ⟨by decide, rfl⟩ (congrArg Prod.fst (J.1.1 68 (9, 6) rfl)) rfl (by decide) rfl rfl ⟨by decide, by decide⟩ (sf_X9_step_r68d  hD J (jmc S73 rfl qu67) (jmc S73 rfl qu68) (by omega) rfl  (fun h J S78 u79 u80 qu79 qu80 ru79 X81 => ?_))
          have Sm := jSm_tr rfl Sm S78
          rw [X81] at D
          have eu79 := (show 0 ≤ u79.toInt ∧ u79.toInt ≤ 3 from qu79 ▸ jrg_f J sg_68_5_6_1_0_1)
          try rw [vrf qu79] at D
          have eu80 := (show 0 ≤ u80.toInt ∧ u80.toInt ≤ 400 from qu80 ▸ jrg_f J sg_68_3_4_1_0_1)
          try rw [vrf qu80] at D
          show jX m_X2_readStrike 24 0 0 39 [(0, .ref 95)] [] _ 0 0 _
          refine x_aloadn (x := 95) rfl rfl ?_
          refine x_iconst (v := 2) rfl ki_2 ?_
          refine x_bipush (v := 11) rfl kb_11 ?_
          refine x_inv (N := m_X2_readNumber) (As := [.int 2, .int 11]) (b := 95) (st := []) (dx9 := 3) (mc := 0) (ms := 0) (host := "") 2 rfl t_X2_readNumber ⟨Or.inl q_2_99, i_X2_readNumber.1, i_X2_readNumber.2⟩ ⟨by decide, rfl⟩ (congrArg Prod.fst (J.1.1 95 (2, 6) rfl)) rfl (by decide) rfl rfl ⟨by decide, by decide⟩ (sf_X2_readNumber_r95d (jr_of jk_2 (by omega)) (jr_of jk_11 (by omega)) (jr_mod jk_11 (by omega)) hD J qu79 qu80 (by omega) rfl  (fun v87 h ev87 J S82 u83 u84 qu83 qu84 ru83 X85 X86 => ?_))
          have Sm := jSm_tr rfl Sm S82
          try rw [jk_2] at X85
          try rw [jk_11] at X85
          try rw [jk_2] at X86
          try rw [jk_11] at X86
          try rw [X85] at D
          try rw [X86] at D
          have eu83 := (show 0 ≤ u83.toInt ∧ u83.toInt ≤ 3 from qu83 ▸ jrg_f J sg_68_5_6_1_0_1)
          try rw [vrf qu83] at D
          have eu84 := (show 0 ≤ u84.toInt ∧ u84.toInt ≤ 400 from qu84 ▸ jrg_f J sg_68_3_4_1_0_1)
          try rw [vrf qu84] at D
          show jX m_X2_readStrike 24 0 0 46 [(0, .ref 95)] [.int v87] _ 0 0 _
          refine x_zret rfl rfl (jz01 (by omega)) ?_
          show jX m_X2_readClause 25 0 0 45 [(1, .int v4), (0, .ref 95)] [.int v87] _ 0 0 _
          refine x_zret rfl rfl (jz01 (by omega)) ?_
          exact hQ _ _ (jr_of rfl (by omega)) J Sm _ _ qu83 qu84 (by omega) ((congrArg Prod.fst D).symm.trans X85) ((congrArg Prod.snd D).symm.trans X86)
        ·
          rw [if_neg (by omega)] at D
          refine x_aloadn (x := 95) rfl rfl ?_
          refine z_getR (N := 6) (b := 68) 2 0 rfl f_2_30 rfl J rfl 12160 ⟨rfl, rfl⟩ rfl ?_
          refine x_inv (N := m_X9_blame) (As := []) (b := 68) (st := []) (dx9 := 23) (mc := 0) (ms := 0) (host := "") 9 rfl t_X9_blame ⟨Or.inl q_2_59, i_X9_blame.1, i_X9_blame.2⟩ ⟨by decide, rfl⟩ (congrArg Prod.fst (J.1.1 68 (9, 6) rfl)) rfl (by decide) rfl rfl ⟨by decide, by decide⟩ (jC.of rfl k_X9_blame rfl ?_)
          show jX m_X9_blame 23 0 0 0 [(0, .ref 68)] [] _ 0 0 _
          refine x_aloadn (x := 68) rfl rfl ?_
          refine x_aloadn (x := 68) rfl rfl ?_
          refine z_getM (N := 6) (v := u68) 9 3 rfl f_9_22 rfl J rfl (jmc S73 rfl qu68) ?_
          refine z_putI (N := 6) (w := u68.toInt) 9 2 rfl f_9_19 rfl (jfin_no TX9 RX9 6 rfl rfl) hD J Sm rfl rfl rfl (pw_68_2 (by omega)) rfl (fun h w88 J Sm => ?_)
          rw [vwf w88 (show u68.toInt = u68.toInt from by omega)] at D
          refine x_iconst (v := 0) rfl ki_0 ?_
          refine x_zret rfl rfl (by decide) ?_
          show jX m_X2_readStrike 24 0 0 31 [(0, .ref 95)] [.int 0] _ 0 0 _
          refine x_zret rfl rfl (by decide) ?_
          show jX m_X2_readClause 25 0 0 45 [(1, .int v4), (0, .ref 95)] [.int 0] _ 0 0 _
          refine x_zret rfl rfl (by decide) ?_
          exact hQ _ _ (jr_of jk_0 (by omega)) J Sm _ _ (jmo w88 rfl (jmc S73 rfl qu67)) (jmo w88 rfl (jmc S73 rfl qu68)) (by omega) ((congrArg Prod.fst D).symm.trans (show 0 = (0 : Int32).toInt from by have := jk_0; omega)) (congrArg Prod.snd D).symm
      ·
        rw [if_pos (by omega)] at D
        refine x_iconst (v := 0) rfl ki_0 ?_
        refine x_zret rfl rfl (by decide) ?_
        show jX m_X2_readClause 25 0 0 45 [(1, .int v4), (0, .ref 95)] [.int 0] _ 0 0 _
        refine x_zret rfl rfl (by decide) ?_
        exact hQ _ _ (jr_of jk_0 (by omega)) J Sm _ _ qu67 qu68 (by omega) ((congrArg Prod.fst D).symm.trans (show 0 = (0 : Int32).toInt from by have := jk_0; omega)) (congrArg Prod.snd D).symm
  ·
    rw [if_pos (by omega)] at D
    refine x_aloadn (x := 95) rfl rfl ?_
    refine z_getR (N := 6) (b := 68) 2 0 rfl f_2_30 rfl J rfl 12160 ⟨rfl, rfl⟩ rfl ?_
    refine x_inv (N := m_X9_blame) (As := []) (b := 68) (st := []) (dx9 := 24) (mc := 0) (ms := 0) (host := "") 9 rfl t_X9_blame ⟨Or.inl q_2_59, i_X9_blame.1, i_X9_blame.2⟩ ⟨by decide, rfl⟩ (congrArg Prod.fst (J.1.1 68 (9, 6) rfl)) rfl (by decide) rfl rfl ⟨by decide, by decide⟩ (jC.of rfl k_X9_blame rfl ?_)
    show jX m_X9_blame 24 0 0 0 [(0, .ref 68)] [] _ 0 0 _
    refine x_aloadn (x := 68) rfl rfl ?_
    refine x_aloadn (x := 68) rfl rfl ?_
    refine z_getM (N := 6) (v := p1) 9 3 rfl f_9_22 rfl J rfl (jmc S1 rfl zp1) ?_
    refine z_putI (N := 6) (w := p1.toInt) 9 2 rfl f_9_19 rfl (jfin_no TX9 RX9 6 rfl rfl) hD J Sm rfl rfl rfl (pw_68_2 (by omega)) rfl (fun h w89 J Sm => ?_)
    rw [vwf w89 (show p1.toInt = p1.toInt from by omega)] at D
    refine x_iconst (v := 0) rfl ki_0 ?_
    refine x_zret rfl rfl (by decide) ?_
    show jX m_X2_readClause 25 0 0 22 [(1, .int v4), (0, .ref 95)] [.int 0] _ 0 0 _
    refine x_zret rfl rfl (by decide) ?_
    exact hQ _ _ (jr_of jk_0 (by omega)) J Sm _ _ (jmo w89 rfl (jmc S1 rfl zp0)) (jmo w89 rfl (jmc S1 rfl zp1)) (by omega) ((congrArg Prod.fst D).symm.trans (show 0 = (0 : Int32).toInt from by have := jk_0; omega)) (congrArg Prod.snd D).symm
def fp_X8_isFull_r39d : jFp := []
set_option maxRecDepth 100000 in
set_option maxHeartbeats 4000000 in
theorem ct_X8_isFull_r39d_200016 {Dy : jH → Prop} {h0 : jH} {Q : Option Value → jH → Prop} {dr : Int} (hD : jDk Dy) (hQ : ∀ (v : Int32) hx9, 0 ≤ v.toInt ∧ v.toInt ≤ 1 → jJ jSgX Dy hx9 → jSm fp_X8_isFull_r39d h0 hx9 → dr = v.toInt → vw hx9 = vw h0 → Q (some (.int v)) hx9) : ∀ (h : jH), jJ jSgX Dy h → jSm fp_X8_isFull_r39d h0 h → d_X8_isFull_r39d_200016  (vw h) = dr → vw h = vw h0 → jX m_X8_isFull 1 0 0 16 [] [.int 0] h 0 0 Q := by
  intro  h    J Sm D EV
  unfold d_X8_isFull_r39d_200016 at D
  refine x_zret rfl rfl (by decide) ?_
  exact hQ _ _ (jr_of jk_0 (by omega)) J Sm (D.symm.trans (show 0 = (0 : Int32).toInt from by have := jk_0; omega)) EV
set_option maxRecDepth 100000 in
set_option maxHeartbeats 4000000 in
theorem ct_X8_isFull_r39d_300016 {Dy : jH → Prop} {h0 : jH} {Q : Option Value → jH → Prop} {dr : Int} (hD : jDk Dy) (hQ : ∀ (v : Int32) hx9, 0 ≤ v.toInt ∧ v.toInt ≤ 1 → jJ jSgX Dy hx9 → jSm fp_X8_isFull_r39d h0 hx9 → dr = v.toInt → vw hx9 = vw h0 → Q (some (.int v)) hx9) : ∀ (h : jH), jJ jSgX Dy h → jSm fp_X8_isFull_r39d h0 h → d_X8_isFull_r39d_300016  (vw h) = dr → vw h = vw h0 → jX m_X8_isFull 1 0 0 16 [] [.int 1] h 0 0 Q := by
  intro  h    J Sm D EV
  unfold d_X8_isFull_r39d_300016 at D
  refine x_zret rfl rfl (by decide) ?_
  exact hQ _ _ (jr_of jk_1 (by omega)) J Sm (D.symm.trans (show 1 = (1 : Int32).toInt from by have := jk_1; omega)) EV
set_option maxRecDepth 100000 in
set_option maxHeartbeats 4000000 in
theorem sf_X8_isFull_r39d {Dy : jH → Prop} {h : jH} {Q : Option Value → jH → Prop} {dr : Int} (hD : jDk Dy) (J : jJ jSgX Dy h) (D : d_X8_isFull_r39d (vw h) = dr) (hQ : ∀ (v : Int32) hx9, 0 ≤ v.toInt ∧ v.toInt ≤ 1 → jJ jSgX Dy hx9 → jSm fp_X8_isFull_r39d h hx9 → dr = v.toInt → vw hx9 = vw h → Q (some (.int v)) hx9) : jC m_X8_isFull 1 0 0 [.ref 39] h Q := by
  refine jC.of rfl k_X8_isFull rfl ?_
  have Sm := jSm_rf fp_X8_isFull_r39d h
  show jX m_X8_isFull 1 0 0 0 [(0, .ref 39)] [] _ 0 0 _
  unfold d_X8_isFull_r39d at D
  have EV : vw h = vw h := rfl
  refine x_aloadn (x := 39) rfl rfl ?_
  refine z_getI (N := 4) 8 3 rfl f_8_7 rfl J rfl sg_39_3_4_1_0_1 (fun v1 qv1 ev1 => ?_)
  try rw [vrf qv1] at D
  refine x_aloadn (x := 39) rfl rfl ?_
  refine z_getC (N := 4) (v := 200) 8 1 rfl f_8_22 rfl J rfl sg_39_1_2_1_0_1 jk_200 ?_
  refine x_iclt (tgt := 15) rfl rfl (ti_lt rfl jk_200 ⟨fun c2 => ?_, fun c2 => ?_⟩)
  ·
    rw [if_pos (by omega)] at D
    refine x_iconst (v := 0) rfl ki_0 ?_
    exact jX.sub jsb_n (ct_X8_isFull_r39d_200016 hD hQ  h J Sm D EV)
  ·
    rw [if_neg (by omega)] at D
    refine x_iconst (v := 1) rfl ki_1 ?_
    refine x_goto (tgt := 16) rfl rfl ?_
    exact jX.sub jsb_n (ct_X8_isFull_r39d_300016 hD hQ  h J Sm D EV)
def fp_X11_together_r31d : jFp := [(31, 12, 13), (32, 19, 20), (39, 3, 4), (40, 0, 600), (78, 13, 14), (82, 0, 600), (83, 0, 600), (84, 0, 200), (86, 0, 3)]
set_option maxRecDepth 100000 in
set_option maxHeartbeats 4000000 in
theorem ct_X11_together_r31d_35 {Dy : jH → Prop} {h0 : jH} {Q : Option Value → jH → Prop} {dr : (Int × jW)} (hD : jDk Dy) (hQ : ∀ (v : Int32) hx9, (-366) ≤ v.toInt ∧ v.toInt ≤ 200 → jJ jSgX Dy hx9 → jSm fp_X11_together_r31d h0 hx9 → dr.1 = v.toInt → dr.2 = vw hx9 → Q (some (.int v)) hx9) : ∀ (h : jH), jJ jSgX Dy h → jSm fp_X11_together_r31d h0 h → d_X11_together_r31d_35  (vw h) = dr → jX m_X11_together 8 0 0 35 [(0, .ref 31)] [] h 0 0 Q := by
  intro  h    J Sm D
  unfold d_X11_together_r31d_35 at D
  refine x_aloadn (x := 31) rfl rfl ?_
  refine x_bipush (v := (-2)) rfl kb_m2 ?_
  refine x_inv (N := m_X11_refuse) (As := [.int (-2)]) (b := 31) (st := []) (dx9 := 7) (mc := 0) (ms := 0) (host := "") 11 rfl t_X11_refuse ⟨Or.inl q_11_206, i_X11_refuse.1, i_X11_refuse.2⟩ ⟨by decide, rfl⟩ (congrArg Prod.fst (J.1.1 31 (11, 13) rfl)) rfl (by decide) rfl rfl ⟨by decide, by decide⟩ (jC.of rfl k_X11_refuse rfl ?_)
  show jX m_X11_refuse 7 0 0 0 [(0, .ref 31), (1, .int (-2))] [] _ 0 0 _
  refine x_aloadn (x := 31) rfl rfl ?_
  refine x_iloadn (x := (-2)) rfl rfl ?_
  refine z_putI (N := 13) (w := (-2)) 11 12 rfl f_11_94 rfl (jfin_no TX11 RX11 13 rfl rfl) hD J Sm rfl rfl jk_m2 (pw_31_12 (by omega)) rfl (fun h w1 J Sm => ?_)
  rw [vwf w1 (show (-2) = ((-2) : Int32).toInt from by have := jk_m2; omega)] at D
  refine x_iloadn (x := (-2)) rfl rfl ?_
  refine x_iret rfl rfl ?_
  show jX m_X11_together 8 0 0 41 [(0, .ref 31)] [.int (-2)] _ 0 0 _
  refine x_iret rfl rfl ?_
  exact hQ _ _ (jr_of jk_m2 (by omega)) J Sm ((congrArg Prod.fst D).symm.trans (show (-2) = ((-2) : Int32).toInt from by have := jk_m2; omega)) (congrArg Prod.snd D).symm
set_option maxRecDepth 100000 in
set_option maxHeartbeats 4000000 in
theorem sf_X11_together_r31d {Dy : jH → Prop} {h : jH} {Q : Option Value → jH → Prop} {dr : (Int × jW)} {a1 : Int32} {a2 : Int32} {a3 : Int32} (hD : jDk Dy) (J : jJ jSgX Dy h) (D : d_X11_together_r31d a1.toInt a2.toInt a3.toInt (vw h) = dr) (hQ : ∀ (v : Int32) hx9, (-366) ≤ v.toInt ∧ v.toInt ≤ 200 → jJ jSgX Dy hx9 → jSm fp_X11_together_r31d h hx9 → dr.1 = v.toInt → dr.2 = vw hx9 → Q (some (.int v)) hx9) : jC m_X11_together 8 0 0 [.ref 31, .int a1, .int a2, .int a3] h Q := by
  refine jC.of rfl k_X11_together rfl ?_
  have Sm := jSm_rf fp_X11_together_r31d h
  have ea1 := jfull a1
  have ea2 := jfull a2
  have ea3 := jfull a3
  show jX m_X11_together 8 0 0 0 [(0, .ref 31), (1, .int a1), (2, .int a2), (3, .int a3)] [] _ 0 0 _
  unfold d_X11_together_r31d at D
  refine x_iloadn (x := a3) rfl rfl ?_
  refine x_inst (N := m_X11_isDay) (As := [.int a3]) (st := []) (dx9 := 1) (mc := 0) (ms := 0) (host := "") rfl t_X11_isDay ⟨Or.inl q_11_115, s_X11_isDay⟩ rfl (by decide) rfl rfl ⟨by decide, by decide⟩ (zc_X11_isDay rfl (fun v1 ev1 => ?_))
  show jX m_X11_together 8 0 0 4 [(0, .ref 31), (1, .int a1), (2, .int a2), (3, .int a3)] [.int v1] _ 0 0 _
  refine x_ifne (tgt := 13) rfl rfl (ti_ne rfl jk_0 ⟨fun c2 => ?_, fun c2 => ?_⟩)
  ·
    rw [if_pos (by omega)] at D
    refine x_aloadn (x := 31) rfl rfl ?_
    refine z_getR (N := 13) (b := 78) 11 4 rfl f_11_41 rfl J rfl 3972 ⟨rfl, rfl⟩ rfl ?_
    refine x_iloadn (x := a1) rfl rfl ?_
    refine x_inv (N := m_X7_isMention) (As := [.int a1]) (b := 78) (st := []) (dx9 := 7) (mc := 0) (ms := 0) (host := "") 7 rfl t_X7_isMention ⟨Or.inl q_11_187, i_X7_isMention.1, i_X7_isMention.2⟩ ⟨by decide, rfl⟩ (congrArg Prod.fst (J.1.1 78 (7, 16) rfl)) rfl (by decide) rfl rfl ⟨by decide, by decide⟩ (jC.of rfl k_X7_isMention rfl ?_)
    show jX m_X7_isMention 7 0 0 0 [(0, .ref 78), (1, .int a1)] [] _ 0 0 _
    refine x_iloadn (x := a1) rfl rfl ?_
    refine x_iflt (tgt := 41) rfl rfl (ti_lt rfl jk_0 ⟨fun c3 => ?_, fun c3 => ?_⟩)
    ·
      rw [if_pos (by omega)] at D
      refine x_iconst (v := 0) rfl ki_0 ?_
      refine x_zret rfl rfl (by decide) ?_
      show jX m_X11_together 8 0 0 21 [(0, .ref 31), (1, .int a1), (2, .int a2), (3, .int a3)] [.int 0] _ 0 0 _
      refine x_ifeq (tgt := 35) rfl rfl (ti_eq jk_0 jk_0 (br_t (by omega) ?_))
      exact jX.sub (jsb_c rfl jsb_n) (ct_X11_together_r31d_35 hD hQ  h J Sm D)
    ·
      rw [if_neg (by omega)] at D
      refine x_iloadn (x := a1) rfl rfl ?_
      refine x_sipush (v := 600) rfl ks_600 ?_
      refine x_icge (tgt := 41) rfl rfl (ti_ge rfl jk_600 ⟨fun c4 => ?_, fun c4 => ?_⟩)
      ·
        rw [if_pos (by omega)] at D
        refine x_iconst (v := 0) rfl ki_0 ?_
        refine x_zret rfl rfl (by decide) ?_
        show jX m_X11_together 8 0 0 21 [(0, .ref 31), (1, .int a1), (2, .int a2), (3, .int a3)] [.int 0] _ 0 0 _
        refine x_ifeq (tgt := 35) rfl rfl (ti_eq jk_0 jk_0 (br_t (by omega) ?_))
        exact jX.sub (jsb_c rfl jsb_n) (ct_X11_together_r31d_35 hD hQ  h J Sm D)
      ·
        rw [if_neg (by omega)] at D
        refine x_iloadn (x := a1) rfl rfl ?_
        refine x_iconst (v := 3) rfl ki_3 ?_
        refine z_idiv rfl rfl jk_3 (by omega) (by omega) (fun v5 ev5 => ?_)
        refine x_aloadn (x := 78) rfl rfl ?_
        refine z_getR (N := 16) (b := 32) 7 0 rfl f_7_55 rfl J rfl 9984 ⟨rfl, rfl⟩ rfl ?_
        refine z_getR (N := 20) (b := 33) 1 0 rfl f_7_63 rfl J rfl 4096 ⟨rfl, rfl⟩ rfl ?_
        refine z_getI (N := 4) 8 3 rfl f_7_85 rfl J rfl sg_33_3_4_1_0_1 (fun v6 qv6 ev6 => ?_)
        try rw [vrf qv6] at D
        refine x_icge (tgt := 41) rfl rfl (ti_ge rfl rfl ⟨fun c7 => ?_, fun c7 => ?_⟩)
        ·
          rw [if_pos (by omega)] at D
          refine x_iconst (v := 0) rfl ki_0 ?_
          refine x_zret rfl rfl (by decide) ?_
          show jX m_X11_together 8 0 0 21 [(0, .ref 31), (1, .int a1), (2, .int a2), (3, .int a3)] [.int 0] _ 0 0 _
          refine x_ifeq (tgt := 35) rfl rfl (ti_eq jk_0 jk_0 (br_t (by omega) ?_))
          exact jX.sub (jsb_c rfl jsb_n) (ct_X11_together_r31d_35 hD hQ  h J Sm D)
        ·
          rw [if_neg (by omega)] at D
          refine x_aloadn (x := 78) rfl rfl ?_
          refine z_getR (N := 16) (b := 79) 7 7 rfl f_7_27 rfl J rfl 9991 ⟨rfl, rfl⟩ rfl ?_
          refine x_iloadn (x := a1) rfl rfl ?_
          refine z_iald (N := 600) rfl J rfl sg_79_0_600_1_0_1 rfl (by omega) (fun v8 qv8 ev8 => ?_)
          try rw [vrd qv8 (show a1.toInt = a1.toInt from by omega)] at D
          refine x_iconst (v := (-1)) rfl ki_m1 ?_
          refine x_iceq (tgt := 41) rfl rfl (ti_eq rfl jk_m1 ⟨fun c9 => ?_, fun c9 => ?_⟩)
          ·
            rw [if_pos (by omega)] at D
            refine x_iconst (v := 0) rfl ki_0 ?_
            refine x_zret rfl rfl (by decide) ?_
            show jX m_X11_together 8 0 0 21 [(0, .ref 31), (1, .int a1), (2, .int a2), (3, .int a3)] [.int 0] _ 0 0 _
            refine x_ifeq (tgt := 35) rfl rfl (ti_eq jk_0 jk_0 (br_t (by omega) ?_))
            exact jX.sub (jsb_c rfl jsb_n) (ct_X11_together_r31d_35 hD hQ  h J Sm D)
          ·
            rw [if_neg (by omega)] at D
            refine x_iconst (v := 1) rfl ki_1 ?_
            refine x_goto (tgt := 42) rfl rfl ?_
            refine x_zret rfl rfl (by decide) ?_
            show jX m_X11_together 8 0 0 21 [(0, .ref 31), (1, .int a1), (2, .int a2), (3, .int a3)] [.int 1] _ 0 0 _
            refine x_ifeq (tgt := 35) rfl rfl (ti_eq jk_1 jk_0 (br_f (by omega) ?_))
            refine x_aloadn (x := 31) rfl rfl ?_
            refine z_getR (N := 13) (b := 78) 11 4 rfl f_11_41 rfl J rfl 3972 ⟨rfl, rfl⟩ rfl ?_
            refine x_iloadn (x := a2) rfl rfl ?_
            refine x_inv (N := m_X7_isMention) (As := [.int a2]) (b := 78) (st := []) (dx9 := 7) (mc := 0) (ms := 0) (host := "") 7 rfl t_X7_isMention ⟨Or.inl q_11_187, i_X7_isMention.1, i_X7_isMention.2⟩ ⟨by decide, rfl⟩ (congrArg Prod.fst (J.1.1 78 (7, 16) rfl)) rfl (by decide) rfl rfl ⟨by decide, by decide⟩ (jC.of rfl k_X7_isMention rfl ?_)
            show jX m_X7_isMention 7 0 0 0 [(0, .ref 78), (1, .int a2)] [] _ 0 0 _
            refine x_iloadn (x := a2) rfl rfl ?_
            refine x_iflt (tgt := 41) rfl rfl (ti_lt rfl jk_0 ⟨fun c10 => ?_, fun c10 => ?_⟩)
            ·
              rw [if_pos (by omega)] at D
              refine x_iconst (v := 0) rfl ki_0 ?_
              refine x_zret rfl rfl (by decide) ?_
              show jX m_X11_together 8 0 0 32 [(0, .ref 31), (1, .int a1), (2, .int a2), (3, .int a3)] [.int 0] _ 0 0 _
              refine x_ifne (tgt := 42) rfl rfl (ti_ne jk_0 jk_0 (bn_f (by omega) ?_))
              exact jX.sub (jsb_c rfl jsb_n) (ct_X11_together_r31d_35 hD hQ  h J Sm D)
            ·
              rw [if_neg (by omega)] at D
              refine x_iloadn (x := a2) rfl rfl ?_
              refine x_sipush (v := 600) rfl ks_600 ?_
              refine x_icge (tgt := 41) rfl rfl (ti_ge rfl jk_600 ⟨fun c11 => ?_, fun c11 => ?_⟩)
              ·
                rw [if_pos (by omega)] at D
                refine x_iconst (v := 0) rfl ki_0 ?_
                refine x_zret rfl rfl (by decide) ?_
                show jX m_X11_together 8 0 0 32 [(0, .ref 31), (1, .int a1), (2, .int a2), (3, .int a3)] [.int 0] _ 0 0 _
                refine x_ifne (tgt := 42) rfl rfl (ti_ne jk_0 jk_0 (bn_f (by omega) ?_))
                exact jX.sub (jsb_c rfl jsb_n) (ct_X11_together_r31d_35 hD hQ  h J Sm D)
              ·
                rw [if_neg (by omega)] at D
                refine x_iloadn (x := a2) rfl rfl ?_
                refine x_iconst (v := 3) rfl ki_3 ?_
                refine z_idiv rfl rfl jk_3 (by omega) (by omega) (fun v12 ev12 => ?_)
                refine x_aloadn (x := 78) rfl rfl ?_
                refine z_getR (N := 16) (b := 32) 7 0 rfl f_7_55 rfl J rfl 9984 ⟨rfl, rfl⟩ rfl ?_
                refine z_getR (N := 20) (b := 33) 1 0 rfl f_7_63 rfl J rfl 4096 ⟨rfl, rfl⟩ rfl ?_
                refine z_getM (N := 4) (v := v6) 8 3 rfl f_7_85 rfl J rfl qv6 ?_
                refine x_icge (tgt := 41) rfl rfl (ti_ge rfl rfl ⟨fun c13 => ?_, fun c13 => ?_⟩)
                ·
                  rw [if_pos (by omega)] at D
                  refine x_iconst (v := 0) rfl ki_0 ?_
                  refine x_zret rfl rfl (by decide) ?_
                  show jX m_X11_together 8 0 0 32 [(0, .ref 31), (1, .int a1), (2, .int a2), (3, .int a3)] [.int 0] _ 0 0 _
                  refine x_ifne (tgt := 42) rfl rfl (ti_ne jk_0 jk_0 (bn_f (by omega) ?_))
                  exact jX.sub (jsb_c rfl jsb_n) (ct_X11_together_r31d_35 hD hQ  h J Sm D)
                ·
                  rw [if_neg (by omega)] at D
                  refine x_aloadn (x := 78) rfl rfl ?_
                  refine z_getR (N := 16) (b := 79) 7 7 rfl f_7_27 rfl J rfl 9991 ⟨rfl, rfl⟩ rfl ?_
                  refine x_iloadn (x := a2) rfl rfl ?_
                  refine z_iald (N := 600) rfl J rfl sg_79_0_600_1_0_1 rfl (by omega) (fun v14 qv14 ev14 => ?_)
                  try rw [vrd qv14 (show a2.toInt = a2.toInt from by omega)] at D
                  refine x_iconst (v := (-1)) rfl ki_m1 ?_
                  refine x_iceq (tgt := 41) rfl rfl (ti_eq rfl jk_m1 ⟨fun c15 => ?_, fun c15 => ?_⟩)
                  ·
                    rw [if_pos (by omega)] at D
                    refine x_iconst (v := 0) rfl ki_0 ?_
                    refine x_zret rfl rfl (by decide) ?_
                    show jX m_X11_together 8 0 0 32 [(0, .ref 31), (1, .int a1), (2, .int a2), (3, .int a3)] [.int 0] _ 0 0 _
                    refine x_ifne (tgt := 42) rfl rfl (ti_ne jk_0 jk_0 (bn_f (by omega) ?_))
                    exact jX.sub (jsb_c rfl jsb_n) (ct_X11_together_r31d_35 hD hQ  h J Sm D)
                  ·
                    rw [if_neg (by omega)] at D
                    refine x_iconst (v := 1) rfl ki_1 ?_
                    refine x_goto (tgt := 42) rfl rfl ?_
                    refine x_zret rfl rfl (by decide) ?_
                    show jX m_X11_together 8 0 0 32 [(0, .ref 31), (1, .int a1), (2, .int a2), (3, .int a3)] [.int 1] _ 0 0 _
                    refine x_ifne (tgt := 42) rfl rfl (ti_ne jk_1 jk_0 (bn_t (by omega) ?_))
                    refine x_aloadn (x := 31) rfl rfl ?_
                    refine x_iloadn (x := a1) rfl rfl ?_
                    refine x_ldc (v := 146399) rfl z_11_233 ?_
                    refine x_inv (N := m_X11_soulOn) (As := [.int a1, .int 146399]) (b := 31) (st := []) (dx9 := 7) (mc := 0) (ms := 0) (host := "") 11 rfl t_X11_soulOn ⟨Or.inl q_11_234, i_X11_soulOn.1, i_X11_soulOn.2⟩ ⟨by decide, rfl⟩ (congrArg Prod.fst (J.1.1 31 (11, 13) rfl)) rfl (by decide) rfl rfl ⟨by decide, by decide⟩ (jC.of rfl k_X11_soulOn rfl ?_)
                    show jX m_X11_soulOn 7 0 0 0 [(0, .ref 31), (1, .int a1), (2, .int 146399)] [] _ 0 0 _
                    refine x_iloadn (x := 146399) rfl rfl ?_
                    refine x_inst (N := m_X11_isDay) (As := [.int 146399]) (st := []) (dx9 := 1) (mc := 0) (ms := 0) (host := "") rfl t_X11_isDay ⟨Or.inl q_11_115, s_X11_isDay⟩ rfl (by decide) rfl rfl ⟨by decide, by decide⟩ (zc_X11_isDay jk_146399 (fun v16 ev16 => ?_))
                    show jX m_X11_soulOn 7 0 0 4 [(0, .ref 31), (1, .int a1), (2, .int 146399)] [.int v16] _ 0 0 _
                    refine x_ifeq (tgt := 18) rfl rfl (ti_eq rfl jk_0 ⟨fun c17 => ?_, fun c17 => ?_⟩)
                    ·
                      rw [if_neg (by omega)] at D
                      refine x_iconst (v := (-1)) rfl ki_m1 ?_
                      refine x_iret rfl rfl ?_
                      show jX m_X11_together 8 0 0 49 [(0, .ref 31), (1, .int a1), (2, .int a2), (3, .int a3)] [.int (-1)] _ 0 0 _
                      refine x_aloadn (x := 31) rfl rfl ?_
                      refine x_iloadn (x := a2) rfl rfl ?_
                      refine x_ldc (v := 146399) rfl z_11_233 ?_
                      refine x_inv (N := m_X11_soulOn) (As := [.int a2, .int 146399]) (b := 31) (st := [.int (-1)]) (dx9 := 7) (mc := 0) (ms := 0) (host := "") 11 rfl t_X11_soulOn ⟨Or.inl q_11_234, i_X11_soulOn.1, i_X11_soulOn.2⟩ ⟨by decide, rfl⟩ (congrArg Prod.fst (J.1.1 31 (11, 13) rfl)) rfl (by decide) rfl rfl ⟨by decide, by decide⟩ (jC.of rfl k_X11_soulOn rfl ?_)
                      show jX m_X11_soulOn 7 0 0 0 [(0, .ref 31), (1, .int a2), (2, .int 146399)] [] _ 0 0 _
                      refine x_iloadn (x := 146399) rfl rfl ?_
                      refine x_inst (N := m_X11_isDay) (As := [.int 146399]) (st := []) (dx9 := 1) (mc := 0) (ms := 0) (host := "") rfl t_X11_isDay ⟨Or.inl q_11_115, s_X11_isDay⟩ rfl (by decide) rfl rfl ⟨by decide, by decide⟩ (zc_X11_isDay jk_146399 (fun v18 ev18 => ?_))
                      show jX m_X11_soulOn 7 0 0 4 [(0, .ref 31), (1, .int a2), (2, .int 146399)] [.int v18] _ 0 0 _
                      refine x_ifeq (tgt := 18) rfl rfl (ti_eq rfl jk_0 ⟨fun c19 => ?_, fun c19 => ?_⟩)
                      ·
                        rw [if_neg (by omega)] at D
                        refine x_iconst (v := (-1)) rfl ki_m1 ?_
                        refine x_iret rfl rfl ?_
                        show jX m_X11_together 8 0 0 56 [(0, .ref 31), (1, .int a1), (2, .int a2), (3, .int a3)] [.int (-1), .int (-1)] _ 0 0 _
                        refine x_icne (tgt := 66) rfl rfl (ti_ne jk_m1 jk_m1 (bn_f (by omega) ?_))
                        refine x_aloadn (x := 31) rfl rfl ?_
                        refine x_bipush (v := (-4)) rfl kb_m4 ?_
                        refine x_inv (N := m_X11_refuse) (As := [.int (-4)]) (b := 31) (st := []) (dx9 := 7) (mc := 0) (ms := 0) (host := "") 11 rfl t_X11_refuse ⟨Or.inl q_11_206, i_X11_refuse.1, i_X11_refuse.2⟩ ⟨by decide, rfl⟩ (congrArg Prod.fst (J.1.1 31 (11, 13) rfl)) rfl (by decide) rfl rfl ⟨by decide, by decide⟩ (jC.of rfl k_X11_refuse rfl ?_)
                        show jX m_X11_refuse 7 0 0 0 [(0, .ref 31), (1, .int (-4))] [] _ 0 0 _
                        refine x_aloadn (x := 31) rfl rfl ?_
                        refine x_iloadn (x := (-4)) rfl rfl ?_
                        refine z_putI (N := 13) (w := (-4)) 11 12 rfl f_11_94 rfl (jfin_no TX11 RX11 13 rfl rfl) hD J Sm rfl rfl jk_m4 (pw_31_12 (by omega)) rfl (fun h w20 J Sm => ?_)
                        rw [vwf w20 (show (-4) = ((-4) : Int32).toInt from by have := jk_m4; omega)] at D
                        refine x_iloadn (x := (-4)) rfl rfl ?_
                        refine x_iret rfl rfl ?_
                        show jX m_X11_together 8 0 0 65 [(0, .ref 31), (1, .int a1), (2, .int a2), (3, .int a3)] [.int (-4)] _ 0 0 _
                        refine x_iret rfl rfl ?_
                        exact hQ _ _ (jr_of jk_m4 (by omega)) J Sm ((congrArg Prod.fst D).symm.trans (show (-4) = ((-4) : Int32).toInt from by have := jk_m4; omega)) (congrArg Prod.snd D).symm
                      ·
                        rw [if_pos (by omega)] at D
                        refine x_aloadn (x := 31) rfl rfl ?_
                        refine z_getR (N := 13) (b := 78) 11 4 rfl f_11_41 rfl J rfl 3972 ⟨rfl, rfl⟩ rfl ?_
                        refine x_iloadn (x := a2) rfl rfl ?_
                        refine x_inv (N := m_X7_isMention) (As := [.int a2]) (b := 78) (st := []) (dx9 := 6) (mc := 0) (ms := 0) (host := "") 7 rfl t_X7_isMention ⟨Or.inl q_11_187, i_X7_isMention.1, i_X7_isMention.2⟩ ⟨by decide, rfl⟩ (congrArg Prod.fst (J.1.1 78 (7, 16) rfl)) rfl (by decide) rfl rfl ⟨by decide, by decide⟩ (jC.of rfl k_X7_isMention rfl ?_)
                        show jX m_X7_isMention 6 0 0 0 [(0, .ref 78), (1, .int a2)] [] _ 0 0 _
                        refine x_iloadn (x := a2) rfl rfl ?_
                        refine x_iflt (tgt := 41) rfl rfl (ti_lt rfl jk_0 (br_f (by omega) ?_))
                        refine x_iloadn (x := a2) rfl rfl ?_
                        refine x_sipush (v := 600) rfl ks_600 ?_
                        refine x_icge (tgt := 41) rfl rfl (ti_ge rfl jk_600 (br_f (by omega) ?_))
                        refine x_iloadn (x := a2) rfl rfl ?_
                        refine x_iconst (v := 3) rfl ki_3 ?_
                        refine z_idiv rfl rfl jk_3 (by omega) (by omega) (fun v21 ev21 => ?_)
                        refine x_aloadn (x := 78) rfl rfl ?_
                        refine z_getR (N := 16) (b := 32) 7 0 rfl f_7_55 rfl J rfl 9984 ⟨rfl, rfl⟩ rfl ?_
                        refine z_getR (N := 20) (b := 33) 1 0 rfl f_7_63 rfl J rfl 4096 ⟨rfl, rfl⟩ rfl ?_
                        refine z_getM (N := 4) (v := v6) 8 3 rfl f_7_85 rfl J rfl qv6 ?_
                        refine x_icge (tgt := 41) rfl rfl (ti_ge rfl rfl ⟨fun c22 => ?_, fun c22 => ?_⟩)
                        ·
                          rw [if_pos (by omega)] at D
                          refine x_iconst (v := 0) rfl ki_0 ?_
                          refine x_zret rfl rfl (by decide) ?_
                          show jX m_X11_soulOn 7 0 0 15 [(0, .ref 31), (1, .int a2), (2, .int 146399)] [.int 0] _ 0 0 _
                          refine x_ifne (tgt := 20) rfl rfl (ti_ne jk_0 jk_0 (bn_f (by omega) ?_))
                          refine x_iconst (v := (-1)) rfl ki_m1 ?_
                          refine x_iret rfl rfl ?_
                          show jX m_X11_together 8 0 0 56 [(0, .ref 31), (1, .int a1), (2, .int a2), (3, .int a3)] [.int (-1), .int (-1)] _ 0 0 _
                          refine x_icne (tgt := 66) rfl rfl (ti_ne jk_m1 jk_m1 (bn_f (by omega) ?_))
                          refine x_aloadn (x := 31) rfl rfl ?_
                          refine x_bipush (v := (-4)) rfl kb_m4 ?_
                          refine x_inv (N := m_X11_refuse) (As := [.int (-4)]) (b := 31) (st := []) (dx9 := 7) (mc := 0) (ms := 0) (host := "") 11 rfl t_X11_refuse ⟨Or.inl q_11_206, i_X11_refuse.1, i_X11_refuse.2⟩ ⟨by decide, rfl⟩ (congrArg Prod.fst (J.1.1 31 (11, 13) rfl)) rfl (by decide) rfl rfl ⟨by decide, by decide⟩ (jC.of rfl k_X11_refuse rfl ?_)
                          show jX m_X11_refuse 7 0 0 0 [(0, .ref 31), (1, .int (-4))] [] _ 0 0 _
                          refine x_aloadn (x := 31) rfl rfl ?_
                          refine x_iloadn (x := (-4)) rfl rfl ?_
                          refine z_putI (N := 13) (w := (-4)) 11 12 rfl f_11_94 rfl (jfin_no TX11 RX11 13 rfl rfl) hD J Sm rfl rfl jk_m4 (pw_31_12 (by omega)) rfl (fun h w23 J Sm => ?_)
                          rw [vwf w23 (show (-4) = ((-4) : Int32).toInt from by have := jk_m4; omega)] at D
                          refine x_iloadn (x := (-4)) rfl rfl ?_
                          refine x_iret rfl rfl ?_
                          show jX m_X11_together 8 0 0 65 [(0, .ref 31), (1, .int a1), (2, .int a2), (3, .int a3)] [.int (-4)] _ 0 0 _
                          refine x_iret rfl rfl ?_
                          exact hQ _ _ (jr_of jk_m4 (by omega)) J Sm ((congrArg Prod.fst D).symm.trans (show (-4) = ((-4) : Int32).toInt from by have := jk_m4; omega)) (congrArg Prod.snd D).symm
                        ·
                          rw [if_neg (by omega)] at D
                          refine x_aloadn (x := 78) rfl rfl ?_
                          refine z_getR (N := 16) (b := 79) 7 7 rfl f_7_27 rfl J rfl 9991 ⟨rfl, rfl⟩ rfl ?_
                          refine x_iloadn (x := a2) rfl rfl ?_
                          refine z_ialdM (N := 600) (v := v14) rfl J rfl rfl (by omega) qv14 ?_
                          refine x_iconst (v := (-1)) rfl ki_m1 ?_
                          refine x_iceq (tgt := 41) rfl rfl (ti_eq rfl jk_m1 (br_f (by omega) ?_))
                          refine x_iconst (v := 1) rfl ki_1 ?_
                          refine x_goto (tgt := 42) rfl rfl ?_
                          refine x_zret rfl rfl (by decide) ?_
                          show jX m_X11_soulOn 7 0 0 15 [(0, .ref 31), (1, .int a2), (2, .int 146399)] [.int 1] _ 0 0 _
                          refine x_ifne (tgt := 20) rfl rfl (ti_ne jk_1 jk_0 (bn_t (by omega) ?_))
                          refine x_aloadn (x := 31) rfl rfl ?_
                          refine z_getR (N := 13) (b := 78) 11 4 rfl f_11_41 rfl J rfl 3972 ⟨rfl, rfl⟩ rfl ?_
                          refine x_iloadn (x := 146399) rfl rfl ?_
                          refine x_inv (N := m_X7_asKnown) (As := [.int 146399]) (b := 78) (st := []) (dx9 := 6) (mc := 0) (ms := 0) (host := "") 7 rfl t_X7_asKnown ⟨Or.inl q_11_240, i_X7_asKnown.1, i_X7_asKnown.2⟩ ⟨by decide, rfl⟩ (congrArg Prod.fst (J.1.1 78 (7, 16) rfl)) rfl (by decide) rfl rfl ⟨by decide, by decide⟩ (sf_X7_asKnown_r78d (jr_of jk_146399 (by omega)) hD J rfl  (fun h J S24 X25 => ?_))
                          have Sm := jSm_tr rfl Sm S24
                          try rw [jk_146399] at X25
                          rw [X25] at D
                          show jX m_X11_soulOn 7 0 0 28 [(0, .ref 31), (1, .int a2), (2, .int 146399)] [] _ 0 0 _
                          refine x_aloadn (x := 31) rfl rfl ?_
                          refine z_getR (N := 13) (b := 78) 11 4 rfl f_11_41 rfl J rfl 3972 ⟨rfl, rfl⟩ rfl ?_
                          refine z_getR (N := 16) (b := 82) 7 10 rfl f_11_537 rfl J rfl 9994 ⟨rfl, rfl⟩ rfl ?_
                          refine x_iloadn (x := a2) rfl rfl ?_
                          refine z_iald (N := 600) rfl J rfl sg_82_0_600_1_0_1 rfl (by omega) (fun v26 qv26 ev26 => ?_)
                          try rw [vrd qv26 (show a2.toInt = a2.toInt from by omega)] at D
                          refine x_iret rfl rfl ?_
                          show jX m_X11_together 8 0 0 56 [(0, .ref 31), (1, .int a1), (2, .int a2), (3, .int a3)] [.int v26, .int (-1)] _ 0 0 _
                          refine x_icne (tgt := 66) rfl rfl (ti_ne jk_m1 rfl ⟨fun c27 => ?_, fun c27 => ?_⟩)
                          ·
                            rw [if_neg (by omega)] at D
                            refine x_aloadn (x := 31) rfl rfl ?_
                            refine z_getR (N := 13) (b := 32) 11 0 rfl f_11_10 rfl J rfl 3968 ⟨rfl, rfl⟩ rfl ?_
                            refine z_getR (N := 20) (b := 39) 1 3 rfl f_11_237 rfl J rfl 4099 ⟨rfl, rfl⟩ rfl ?_
                            refine x_inv (N := m_X8_isFull) (As := []) (b := 39) (st := []) (dx9 := 1) (mc := 0) (ms := 0) (host := "") 8 rfl t_X8_isFull ⟨Or.inl q_11_130, i_X8_isFull.1, i_X8_isFull.2⟩ ⟨by decide, rfl⟩ (congrArg Prod.fst (J.1.1 39 (8, 4) rfl)) rfl (by decide) rfl rfl ⟨by decide, by decide⟩ (sf_X8_isFull_r39d  hD J rfl  (fun v31 h ev31 J S28 X29 X30 => ?_))
                            have Sm := jSm_tr rfl Sm S28
                            try rw [X29] at D
                            try rw [← X30] at D
                            show jX m_X11_together 8 0 0 76 [(0, .ref 31), (1, .int a1), (2, .int a2), (3, .int a3)] [.int v31] _ 0 0 _
                            refine x_ifeq (tgt := 86) rfl rfl (ti_eq rfl jk_0 ⟨fun c32 => ?_, fun c32 => ?_⟩)
                            ·
                              rw [if_pos (by omega)] at D
                              refine x_aloadn (x := 31) rfl rfl ?_
                              refine z_getR (N := 13) (b := 32) 11 0 rfl f_11_10 rfl J rfl 3968 ⟨rfl, rfl⟩ rfl ?_
                              refine z_getR (N := 20) (b := 39) 1 3 rfl f_11_237 rfl J rfl 4099 ⟨rfl, rfl⟩ rfl ?_
                              refine x_iloadn (x := a3) rfl rfl ?_
                              refine x_iloadn (x := a1) rfl rfl ?_
                              refine x_iloadn (x := a2) rfl rfl ?_
                              refine x_iconst (v := 0) rfl ki_0 ?_
                              refine x_iconst (v := 0) rfl ki_0 ?_
                              refine x_iconst (v := 0) rfl ki_0 ?_
                              refine x_inv (N := m_X8_add) (As := [.int a3, .int a1, .int a2, .int 0, .int 0, .int 0]) (b := 39) (st := []) (dx9 := 2) (mc := 0) (ms := 0) (host := "") 8 rfl t_X8_add ⟨Or.inl q_11_145, i_X8_add.1, i_X8_add.2⟩ ⟨by decide, rfl⟩ (congrArg Prod.fst (J.1.1 39 (8, 4) rfl)) rfl (by decide) rfl rfl ⟨by decide, by decide⟩ (sf_X8_add_r39d (jr_of rfl (by omega)) (jr_of rfl (by omega)) (jr_of rfl (by omega)) (jr_of jk_0 (by omega)) (jr_of jk_0 (by omega)) (jr_of jk_0 (by omega)) hD J rfl  (fun h J S33 X34 => ?_))
                              have Sm := jSm_tr rfl Sm S33
                              try rw [jk_0] at X34
                              rw [X34] at D
                              show jX m_X11_together 8 0 0 102 [(0, .ref 31), (1, .int a1), (2, .int a2), (3, .int a3)] [] _ 0 0 _
                              refine x_aloadn (x := 31) rfl rfl ?_
                              refine x_aloadn (x := 31) rfl rfl ?_
                              refine z_getR (N := 13) (b := 32) 11 0 rfl f_11_10 rfl J rfl 3968 ⟨rfl, rfl⟩ rfl ?_
                              refine z_getR (N := 20) (b := 39) 1 3 rfl f_11_237 rfl J rfl 4099 ⟨rfl, rfl⟩ rfl ?_
                              refine z_getI (N := 4) 8 3 rfl f_11_142 rfl J rfl sg_39_3_4_1_0_1 (fun v35 qv35 ev35 => ?_)
                              try rw [vrf qv35] at D
                              refine x_inv (N := m_X11_accept) (As := [.int v35]) (b := 31) (st := []) (dx9 := 7) (mc := 0) (ms := 0) (host := "") 11 rfl t_X11_accept ⟨Or.inl q_11_165, i_X11_accept.1, i_X11_accept.2⟩ ⟨by decide, rfl⟩ (congrArg Prod.fst (J.1.1 31 (11, 13) rfl)) rfl (by decide) rfl rfl ⟨by decide, by decide⟩ (jC.of rfl k_X11_accept rfl ?_)
                              show jX m_X11_accept 7 0 0 0 [(0, .ref 31), (1, .int v35)] [] _ 0 0 _
                              refine x_aloadn (x := 31) rfl rfl ?_
                              refine x_iconst (v := 0) rfl ki_0 ?_
                              refine z_putI (N := 13) (w := 0) 11 12 rfl f_11_94 rfl (jfin_no TX11 RX11 13 rfl rfl) hD J Sm rfl rfl jk_0 (pw_31_12 (by omega)) rfl (fun h w36 J Sm => ?_)
                              rw [vwf w36 (show 0 = (0 : Int32).toInt from by have := jk_0; omega)] at D
                              refine x_aloadn (x := 31) rfl rfl ?_
                              refine z_getR (N := 13) (b := 32) 11 0 rfl f_11_10 rfl J rfl 3968 ⟨rfl, rfl⟩ rfl ?_
                              refine x_dup rfl rfl ?_
                              refine z_getI0 (N := 20) 1 19 rfl f_11_528 rfl J rfl (fun v37 qv37 => ?_)
                              have ev37 := jfull v37
                              try rw [vrf (jmb_c S24 (jmb_c S28 (jmb_c S33 (jmb_w w36 qv37 rfl) rfl) rfl) rfl)] at D
                              refine x_iconst (v := 1) rfl ki_1 ?_
                              refine z_iaddW rfl rfl jk_1 (fun v38 ev38 => ?_)
                              have fv38 := jfull v38
                              try rw [← ev38] at D
                              refine z_putI (N := 20) (w := v38.toInt) 1 19 rfl f_11_528 rfl (jfin_no TX1 RX1 20 rfl rfl) hD J Sm rfl rfl rfl (pw_32_19 trivial) rfl (fun h w39 J Sm => ?_)
                              rw [vwf w39 (show v38.toInt = v38.toInt from by omega)] at D
                              refine x_iloadn (x := v35) rfl rfl ?_
                              refine x_iret rfl rfl ?_
                              show jX m_X11_together 8 0 0 116 [(0, .ref 31), (1, .int a1), (2, .int a2), (3, .int a3)] [.int v35] _ 0 0 _
                              refine x_iret rfl rfl ?_
                              exact hQ _ _ (jr_of rfl (by omega)) J Sm ((congrArg Prod.fst D).symm.trans (show v35.toInt = v35.toInt from by omega)) (congrArg Prod.snd D).symm
                            ·
                              rw [if_neg (by omega)] at D
                              refine x_aloadn (x := 31) rfl rfl ?_
                              refine x_bipush (v := (-5)) rfl kb_m5 ?_
                              refine x_inv (N := m_X11_refuse) (As := [.int (-5)]) (b := 31) (st := []) (dx9 := 7) (mc := 0) (ms := 0) (host := "") 11 rfl t_X11_refuse ⟨Or.inl q_11_206, i_X11_refuse.1, i_X11_refuse.2⟩ ⟨by decide, rfl⟩ (congrArg Prod.fst (J.1.1 31 (11, 13) rfl)) rfl (by decide) rfl rfl ⟨by decide, by decide⟩ (jC.of rfl k_X11_refuse rfl ?_)
                              show jX m_X11_refuse 7 0 0 0 [(0, .ref 31), (1, .int (-5))] [] _ 0 0 _
                              refine x_aloadn (x := 31) rfl rfl ?_
                              refine x_iloadn (x := (-5)) rfl rfl ?_
                              refine z_putI (N := 13) (w := (-5)) 11 12 rfl f_11_94 rfl (jfin_no TX11 RX11 13 rfl rfl) hD J Sm rfl rfl jk_m5 (pw_31_12 (by omega)) rfl (fun h w40 J Sm => ?_)
                              rw [vwf w40 (show (-5) = ((-5) : Int32).toInt from by have := jk_m5; omega)] at D
                              refine x_iloadn (x := (-5)) rfl rfl ?_
                              refine x_iret rfl rfl ?_
                              show jX m_X11_together 8 0 0 85 [(0, .ref 31), (1, .int a1), (2, .int a2), (3, .int a3)] [.int (-5)] _ 0 0 _
                              refine x_iret rfl rfl ?_
                              exact hQ _ _ (jr_of jk_m5 (by omega)) J Sm ((congrArg Prod.fst D).symm.trans (show (-5) = ((-5) : Int32).toInt from by have := jk_m5; omega)) (congrArg Prod.snd D).symm
                          ·
                            rw [if_pos (by omega)] at D
                            refine x_aloadn (x := 31) rfl rfl ?_
                            refine x_bipush (v := (-4)) rfl kb_m4 ?_
                            refine x_inv (N := m_X11_refuse) (As := [.int (-4)]) (b := 31) (st := []) (dx9 := 7) (mc := 0) (ms := 0) (host := "") 11 rfl t_X11_refuse ⟨Or.inl q_11_206, i_X11_refuse.1, i_X11_refuse.2⟩ ⟨by decide, rfl⟩ (congrArg Prod.fst (J.1.1 31 (11, 13) rfl)) rfl (by decide) rfl rfl ⟨by decide, by decide⟩ (jC.of rfl k_X11_refuse rfl ?_)
                            show jX m_X11_refuse 7 0 0 0 [(0, .ref 31), (1, .int (-4))] [] _ 0 0 _
                            refine x_aloadn (x := 31) rfl rfl ?_
                            refine x_iloadn (x := (-4)) rfl rfl ?_
                            refine z_putI (N := 13) (w := (-4)) 11 12 rfl f_11_94 rfl (jfin_no TX11 RX11 13 rfl rfl) hD J Sm rfl rfl jk_m4 (pw_31_12 (by omega)) rfl (fun h w41 J Sm => ?_)
                            rw [vwf w41 (show (-4) = ((-4) : Int32).toInt from by have := jk_m4; omega)] at D
                            refine x_iloadn (x := (-4)) rfl rfl ?_
                            refine x_iret rfl rfl ?_
                            show jX m_X11_together 8 0 0 65 [(0, .ref 31), (1, .int a1), (2, .int a2), (3, .int a3)] [.int (-4)] _ 0 0 _
                            refine x_iret rfl rfl ?_
                            exact hQ _ _ (jr_of jk_m4 (by omega)) J Sm ((congrArg Prod.fst D).symm.trans (show (-4) = ((-4) : Int32).toInt from by have := jk_m4; omega)) (congrArg Prod.snd D).symm
                    ·
                      rw [if_pos (by omega)] at D
                      refine x_aloadn (x := 31) rfl rfl ?_
                      refine z_getR (N := 13) (b := 78) 11 4 rfl f_11_41 rfl J rfl 3972 ⟨rfl, rfl⟩ rfl ?_
                      refine x_iloadn (x := a1) rfl rfl ?_
                      refine x_inv (N := m_X7_isMention) (As := [.int a1]) (b := 78) (st := []) (dx9 := 6) (mc := 0) (ms := 0) (host := "") 7 rfl t_X7_isMention ⟨Or.inl q_11_187, i_X7_isMention.1, i_X7_isMention.2⟩ ⟨by decide, rfl⟩ (congrArg Prod.fst (J.1.1 78 (7, 16) rfl)) rfl (by decide) rfl rfl ⟨by decide, by decide⟩ (jC.of rfl k_X7_isMention rfl ?_)
                      show jX m_X7_isMention 6 0 0 0 [(0, .ref 78), (1, .int a1)] [] _ 0 0 _
                      refine x_iloadn (x := a1) rfl rfl ?_
                      refine x_iflt (tgt := 41) rfl rfl (ti_lt rfl jk_0 (br_f (by omega) ?_))
                      refine x_iloadn (x := a1) rfl rfl ?_
                      refine x_sipush (v := 600) rfl ks_600 ?_
                      refine x_icge (tgt := 41) rfl rfl (ti_ge rfl jk_600 (br_f (by omega) ?_))
                      refine x_iloadn (x := a1) rfl rfl ?_
                      refine x_iconst (v := 3) rfl ki_3 ?_
                      refine z_idiv rfl rfl jk_3 (by omega) (by omega) (fun v42 ev42 => ?_)
                      refine x_aloadn (x := 78) rfl rfl ?_
                      refine z_getR (N := 16) (b := 32) 7 0 rfl f_7_55 rfl J rfl 9984 ⟨rfl, rfl⟩ rfl ?_
                      refine z_getR (N := 20) (b := 33) 1 0 rfl f_7_63 rfl J rfl 4096 ⟨rfl, rfl⟩ rfl ?_
                      refine z_getM (N := 4) (v := v6) 8 3 rfl f_7_85 rfl J rfl qv6 ?_
                      refine x_icge (tgt := 41) rfl rfl (ti_ge rfl rfl ⟨fun c43 => ?_, fun c43 => ?_⟩)
                      ·
                        rw [if_pos (by omega)] at D
                        refine x_iconst (v := 0) rfl ki_0 ?_
                        refine x_zret rfl rfl (by decide) ?_
                        show jX m_X11_soulOn 7 0 0 15 [(0, .ref 31), (1, .int a1), (2, .int 146399)] [.int 0] _ 0 0 _
                        refine x_ifne (tgt := 20) rfl rfl (ti_ne jk_0 jk_0 (bn_f (by omega) ?_))
                        refine x_iconst (v := (-1)) rfl ki_m1 ?_
                        refine x_iret rfl rfl ?_
                        show jX m_X11_together 8 0 0 49 [(0, .ref 31), (1, .int a1), (2, .int a2), (3, .int a3)] [.int (-1)] _ 0 0 _
                        refine x_aloadn (x := 31) rfl rfl ?_
                        refine x_iloadn (x := a2) rfl rfl ?_
                        refine x_ldc (v := 146399) rfl z_11_233 ?_
                        refine x_inv (N := m_X11_soulOn) (As := [.int a2, .int 146399]) (b := 31) (st := [.int (-1)]) (dx9 := 7) (mc := 0) (ms := 0) (host := "") 11 rfl t_X11_soulOn ⟨Or.inl q_11_234, i_X11_soulOn.1, i_X11_soulOn.2⟩ ⟨by decide, rfl⟩ (congrArg Prod.fst (J.1.1 31 (11, 13) rfl)) rfl (by decide) rfl rfl ⟨by decide, by decide⟩ (jC.of rfl k_X11_soulOn rfl ?_)
                        show jX m_X11_soulOn 7 0 0 0 [(0, .ref 31), (1, .int a2), (2, .int 146399)] [] _ 0 0 _
                        refine x_iloadn (x := 146399) rfl rfl ?_
                        refine x_inst (N := m_X11_isDay) (As := [.int 146399]) (st := []) (dx9 := 1) (mc := 0) (ms := 0) (host := "") rfl t_X11_isDay ⟨Or.inl q_11_115, s_X11_isDay⟩ rfl (by decide) rfl rfl ⟨by decide, by decide⟩ (zc_X11_isDay jk_146399 (fun v44 ev44 => ?_))
                        show jX m_X11_soulOn 7 0 0 4 [(0, .ref 31), (1, .int a2), (2, .int 146399)] [.int v44] _ 0 0 _
                        refine x_ifeq (tgt := 18) rfl rfl (ti_eq rfl jk_0 ⟨fun c45 => ?_, fun c45 => ?_⟩)
                        ·
                          rw [if_neg (by omega)] at D
                          refine x_iconst (v := (-1)) rfl ki_m1 ?_
                          refine x_iret rfl rfl ?_
                          show jX m_X11_together 8 0 0 56 [(0, .ref 31), (1, .int a1), (2, .int a2), (3, .int a3)] [.int (-1), .int (-1)] _ 0 0 _
                          refine x_icne (tgt := 66) rfl rfl (ti_ne jk_m1 jk_m1 (bn_f (by omega) ?_))
                          refine x_aloadn (x := 31) rfl rfl ?_
                          refine x_bipush (v := (-4)) rfl kb_m4 ?_
                          refine x_inv (N := m_X11_refuse) (As := [.int (-4)]) (b := 31) (st := []) (dx9 := 7) (mc := 0) (ms := 0) (host := "") 11 rfl t_X11_refuse ⟨Or.inl q_11_206, i_X11_refuse.1, i_X11_refuse.2⟩ ⟨by decide, rfl⟩ (congrArg Prod.fst (J.1.1 31 (11, 13) rfl)) rfl (by decide) rfl rfl ⟨by decide, by decide⟩ (jC.of rfl k_X11_refuse rfl ?_)
                          show jX m_X11_refuse 7 0 0 0 [(0, .ref 31), (1, .int (-4))] [] _ 0 0 _
                          refine x_aloadn (x := 31) rfl rfl ?_
                          refine x_iloadn (x := (-4)) rfl rfl ?_
                          refine z_putI (N := 13) (w := (-4)) 11 12 rfl f_11_94 rfl (jfin_no TX11 RX11 13 rfl rfl) hD J Sm rfl rfl jk_m4 (pw_31_12 (by omega)) rfl (fun h w46 J Sm => ?_)
                          rw [vwf w46 (show (-4) = ((-4) : Int32).toInt from by have := jk_m4; omega)] at D
                          refine x_iloadn (x := (-4)) rfl rfl ?_
                          refine x_iret rfl rfl ?_
                          show jX m_X11_together 8 0 0 65 [(0, .ref 31), (1, .int a1), (2, .int a2), (3, .int a3)] [.int (-4)] _ 0 0 _
                          refine x_iret rfl rfl ?_
                          exact hQ _ _ (jr_of jk_m4 (by omega)) J Sm ((congrArg Prod.fst D).symm.trans (show (-4) = ((-4) : Int32).toInt from by have := jk_m4; omega)) (congrArg Prod.snd D).symm
                        ·
                          rw [if_pos (by omega)] at D
                          refine x_aloadn (x := 31) rfl rfl ?_
                          refine z_getR (N := 13) (b := 78) 11 4 rfl f_11_41 rfl J rfl 3972 ⟨rfl, rfl⟩ rfl ?_
                          refine x_iloadn (x := a2) rfl rfl ?_
                          refine x_inv (N := m_X7_isMention) (As := [.int a2]) (b := 78) (st := []) (dx9 := 6) (mc := 0) (ms := 0) (host := "") 7 rfl t_X7_isMention ⟨Or.inl q_11_187, i_X7_isMention.1, i_X7_isMention.2⟩ ⟨by decide, rfl⟩ (congrArg Prod.fst (J.1.1 78 (7, 16) rfl)) rfl (by decide) rfl rfl ⟨by decide, by decide⟩ (jC.of rfl k_X7_isMention rfl ?_)
                          show jX m_X7_isMention 6 0 0 0 [(0, .ref 78), (1, .int a2)] [] _ 0 0 _
                          refine x_iloadn (x := a2) rfl rfl ?_
                          refine x_iflt (tgt := 41) rfl rfl (ti_lt rfl jk_0 (br_f (by omega) ?_))
                          refine x_iloadn (x := a2) rfl rfl ?_
                          refine x_sipush (v := 600) rfl ks_600 ?_
                          refine x_icge (tgt := 41) rfl rfl (ti_ge rfl jk_600 (br_f (by omega) ?_))
                          refine x_iloadn (x := a2) rfl rfl ?_
                          refine x_iconst (v := 3) rfl ki_3 ?_
                          refine z_idiv rfl rfl jk_3 (by omega) (by omega) (fun v47 ev47 => ?_)
                          refine x_aloadn (x := 78) rfl rfl ?_
                          refine z_getR (N := 16) (b := 32) 7 0 rfl f_7_55 rfl J rfl 9984 ⟨rfl, rfl⟩ rfl ?_
                          refine z_getR (N := 20) (b := 33) 1 0 rfl f_7_63 rfl J rfl 4096 ⟨rfl, rfl⟩ rfl ?_
                          refine z_getM (N := 4) (v := v6) 8 3 rfl f_7_85 rfl J rfl qv6 ?_
                          refine x_icge (tgt := 41) rfl rfl (ti_ge rfl rfl ⟨fun c48 => ?_, fun c48 => ?_⟩)
                          ·
                            rw [if_pos (by omega)] at D
                            refine x_iconst (v := 0) rfl ki_0 ?_
                            refine x_zret rfl rfl (by decide) ?_
                            show jX m_X11_soulOn 7 0 0 15 [(0, .ref 31), (1, .int a2), (2, .int 146399)] [.int 0] _ 0 0 _
                            refine x_ifne (tgt := 20) rfl rfl (ti_ne jk_0 jk_0 (bn_f (by omega) ?_))
                            refine x_iconst (v := (-1)) rfl ki_m1 ?_
                            refine x_iret rfl rfl ?_
                            show jX m_X11_together 8 0 0 56 [(0, .ref 31), (1, .int a1), (2, .int a2), (3, .int a3)] [.int (-1), .int (-1)] _ 0 0 _
                            refine x_icne (tgt := 66) rfl rfl (ti_ne jk_m1 jk_m1 (bn_f (by omega) ?_))
                            refine x_aloadn (x := 31) rfl rfl ?_
                            refine x_bipush (v := (-4)) rfl kb_m4 ?_
                            refine x_inv (N := m_X11_refuse) (As := [.int (-4)]) (b := 31) (st := []) (dx9 := 7) (mc := 0) (ms := 0) (host := "") 11 rfl t_X11_refuse ⟨Or.inl q_11_206, i_X11_refuse.1, i_X11_refuse.2⟩ ⟨by decide, rfl⟩ (congrArg Prod.fst (J.1.1 31 (11, 13) rfl)) rfl (by decide) rfl rfl ⟨by decide, by decide⟩ (jC.of rfl k_X11_refuse rfl ?_)
                            show jX m_X11_refuse 7 0 0 0 [(0, .ref 31), (1, .int (-4))] [] _ 0 0 _
                            refine x_aloadn (x := 31) rfl rfl ?_
                            refine x_iloadn (x := (-4)) rfl rfl ?_
                            refine z_putI (N := 13) (w := (-4)) 11 12 rfl f_11_94 rfl (jfin_no TX11 RX11 13 rfl rfl) hD J Sm rfl rfl jk_m4 (pw_31_12 (by omega)) rfl (fun h w49 J Sm => ?_)
                            rw [vwf w49 (show (-4) = ((-4) : Int32).toInt from by have := jk_m4; omega)] at D
                            refine x_iloadn (x := (-4)) rfl rfl ?_
                            refine x_iret rfl rfl ?_
                            show jX m_X11_together 8 0 0 65 [(0, .ref 31), (1, .int a1), (2, .int a2), (3, .int a3)] [.int (-4)] _ 0 0 _
                            refine x_iret rfl rfl ?_
                            exact hQ _ _ (jr_of jk_m4 (by omega)) J Sm ((congrArg Prod.fst D).symm.trans (show (-4) = ((-4) : Int32).toInt from by have := jk_m4; omega)) (congrArg Prod.snd D).symm
                          ·
                            rw [if_neg (by omega)] at D
                            refine x_aloadn (x := 78) rfl rfl ?_
                            refine z_getR (N := 16) (b := 79) 7 7 rfl f_7_27 rfl J rfl 9991 ⟨rfl, rfl⟩ rfl ?_
                            refine x_iloadn (x := a2) rfl rfl ?_
                            refine z_ialdM (N := 600) (v := v14) rfl J rfl rfl (by omega) qv14 ?_
                            refine x_iconst (v := (-1)) rfl ki_m1 ?_
                            refine x_iceq (tgt := 41) rfl rfl (ti_eq rfl jk_m1 (br_f (by omega) ?_))
                            refine x_iconst (v := 1) rfl ki_1 ?_
                            refine x_goto (tgt := 42) rfl rfl ?_
                            refine x_zret rfl rfl (by decide) ?_
                            show jX m_X11_soulOn 7 0 0 15 [(0, .ref 31), (1, .int a2), (2, .int 146399)] [.int 1] _ 0 0 _
                            refine x_ifne (tgt := 20) rfl rfl (ti_ne jk_1 jk_0 (bn_t (by omega) ?_))
                            refine x_aloadn (x := 31) rfl rfl ?_
                            refine z_getR (N := 13) (b := 78) 11 4 rfl f_11_41 rfl J rfl 3972 ⟨rfl, rfl⟩ rfl ?_
                            refine x_iloadn (x := 146399) rfl rfl ?_
                            refine x_inv (N := m_X7_asKnown) (As := [.int 146399]) (b := 78) (st := []) (dx9 := 6) (mc := 0) (ms := 0) (host := "") 7 rfl t_X7_asKnown ⟨Or.inl q_11_240, i_X7_asKnown.1, i_X7_asKnown.2⟩ ⟨by decide, rfl⟩ (congrArg Prod.fst (J.1.1 78 (7, 16) rfl)) rfl (by decide) rfl rfl ⟨by decide, by decide⟩ (sf_X7_asKnown_r78d (jr_of jk_146399 (by omega)) hD J rfl  (fun h J S50 X51 => ?_))
                            have Sm := jSm_tr rfl Sm S50
                            try rw [jk_146399] at X51
                            rw [X51] at D
                            show jX m_X11_soulOn 7 0 0 28 [(0, .ref 31), (1, .int a2), (2, .int 146399)] [] _ 0 0 _
                            refine x_aloadn (x := 31) rfl rfl ?_
                            refine z_getR (N := 13) (b := 78) 11 4 rfl f_11_41 rfl J rfl 3972 ⟨rfl, rfl⟩ rfl ?_
                            refine z_getR (N := 16) (b := 82) 7 10 rfl f_11_537 rfl J rfl 9994 ⟨rfl, rfl⟩ rfl ?_
                            refine x_iloadn (x := a2) rfl rfl ?_
                            refine z_iald (N := 600) rfl J rfl sg_82_0_600_1_0_1 rfl (by omega) (fun v52 qv52 ev52 => ?_)
                            try rw [vrd qv52 (show a2.toInt = a2.toInt from by omega)] at D
                            refine x_iret rfl rfl ?_
                            show jX m_X11_together 8 0 0 56 [(0, .ref 31), (1, .int a1), (2, .int a2), (3, .int a3)] [.int v52, .int (-1)] _ 0 0 _
                            refine x_icne (tgt := 66) rfl rfl (ti_ne jk_m1 rfl ⟨fun c53 => ?_, fun c53 => ?_⟩)
                            ·
                              rw [if_neg (by omega)] at D
                              refine x_aloadn (x := 31) rfl rfl ?_
                              refine z_getR (N := 13) (b := 32) 11 0 rfl f_11_10 rfl J rfl 3968 ⟨rfl, rfl⟩ rfl ?_
                              refine z_getR (N := 20) (b := 39) 1 3 rfl f_11_237 rfl J rfl 4099 ⟨rfl, rfl⟩ rfl ?_
                              refine x_inv (N := m_X8_isFull) (As := []) (b := 39) (st := []) (dx9 := 1) (mc := 0) (ms := 0) (host := "") 8 rfl t_X8_isFull ⟨Or.inl q_11_130, i_X8_isFull.1, i_X8_isFull.2⟩ ⟨by decide, rfl⟩ (congrArg Prod.fst (J.1.1 39 (8, 4) rfl)) rfl (by decide) rfl rfl ⟨by decide, by decide⟩ (sf_X8_isFull_r39d  hD J rfl  (fun v57 h ev57 J S54 X55 X56 => ?_))
                              have Sm := jSm_tr rfl Sm S54
                              try rw [X55] at D
                              try rw [← X56] at D
                              show jX m_X11_together 8 0 0 76 [(0, .ref 31), (1, .int a1), (2, .int a2), (3, .int a3)] [.int v57] _ 0 0 _
                              refine x_ifeq (tgt := 86) rfl rfl (ti_eq rfl jk_0 ⟨fun c58 => ?_, fun c58 => ?_⟩)
                              ·
                                rw [if_pos (by omega)] at D
                                refine x_aloadn (x := 31) rfl rfl ?_
                                refine z_getR (N := 13) (b := 32) 11 0 rfl f_11_10 rfl J rfl 3968 ⟨rfl, rfl⟩ rfl ?_
                                refine z_getR (N := 20) (b := 39) 1 3 rfl f_11_237 rfl J rfl 4099 ⟨rfl, rfl⟩ rfl ?_
                                refine x_iloadn (x := a3) rfl rfl ?_
                                refine x_iloadn (x := a1) rfl rfl ?_
                                refine x_iloadn (x := a2) rfl rfl ?_
                                refine x_iconst (v := 0) rfl ki_0 ?_
                                refine x_iconst (v := 0) rfl ki_0 ?_
                                refine x_iconst (v := 0) rfl ki_0 ?_
                                refine x_inv (N := m_X8_add) (As := [.int a3, .int a1, .int a2, .int 0, .int 0, .int 0]) (b := 39) (st := []) (dx9 := 2) (mc := 0) (ms := 0) (host := "") 8 rfl t_X8_add ⟨Or.inl q_11_145, i_X8_add.1, i_X8_add.2⟩ ⟨by decide, rfl⟩ (congrArg Prod.fst (J.1.1 39 (8, 4) rfl)) rfl (by decide) rfl rfl ⟨by decide, by decide⟩ (sf_X8_add_r39d (jr_of rfl (by omega)) (jr_of rfl (by omega)) (jr_of rfl (by omega)) (jr_of jk_0 (by omega)) (jr_of jk_0 (by omega)) (jr_of jk_0 (by omega)) hD J rfl  (fun h J S59 X60 => ?_))
                                have Sm := jSm_tr rfl Sm S59
                                try rw [jk_0] at X60
                                rw [X60] at D
                                show jX m_X11_together 8 0 0 102 [(0, .ref 31), (1, .int a1), (2, .int a2), (3, .int a3)] [] _ 0 0 _
                                refine x_aloadn (x := 31) rfl rfl ?_
                                refine x_aloadn (x := 31) rfl rfl ?_
                                refine z_getR (N := 13) (b := 32) 11 0 rfl f_11_10 rfl J rfl 3968 ⟨rfl, rfl⟩ rfl ?_
                                refine z_getR (N := 20) (b := 39) 1 3 rfl f_11_237 rfl J rfl 4099 ⟨rfl, rfl⟩ rfl ?_
                                refine z_getI (N := 4) 8 3 rfl f_11_142 rfl J rfl sg_39_3_4_1_0_1 (fun v61 qv61 ev61 => ?_)
                                try rw [vrf qv61] at D
                                refine x_inv (N := m_X11_accept) (As := [.int v61]) (b := 31) (st := []) (dx9 := 7) (mc := 0) (ms := 0) (host := "") 11 rfl t_X11_accept ⟨Or.inl q_11_165, i_X11_accept.1, i_X11_accept.2⟩ ⟨by decide, rfl⟩ (congrArg Prod.fst (J.1.1 31 (11, 13) rfl)) rfl (by decide) rfl rfl ⟨by decide, by decide⟩ (jC.of rfl k_X11_accept rfl ?_)
                                show jX m_X11_accept 7 0 0 0 [(0, .ref 31), (1, .int v61)] [] _ 0 0 _
                                refine x_aloadn (x := 31) rfl rfl ?_
                                refine x_iconst (v := 0) rfl ki_0 ?_
                                refine z_putI (N := 13) (w := 0) 11 12 rfl f_11_94 rfl (jfin_no TX11 RX11 13 rfl rfl) hD J Sm rfl rfl jk_0 (pw_31_12 (by omega)) rfl (fun h w62 J Sm => ?_)
                                rw [vwf w62 (show 0 = (0 : Int32).toInt from by have := jk_0; omega)] at D
                                refine x_aloadn (x := 31) rfl rfl ?_
                                refine z_getR (N := 13) (b := 32) 11 0 rfl f_11_10 rfl J rfl 3968 ⟨rfl, rfl⟩ rfl ?_
                                refine x_dup rfl rfl ?_
                                refine z_getI0 (N := 20) 1 19 rfl f_11_528 rfl J rfl (fun v63 qv63 => ?_)
                                have ev63 := jfull v63
                                try rw [vrf (jmb_c S50 (jmb_c S54 (jmb_c S59 (jmb_w w62 qv63 rfl) rfl) rfl) rfl)] at D
                                refine x_iconst (v := 1) rfl ki_1 ?_
                                refine z_iaddW rfl rfl jk_1 (fun v64 ev64 => ?_)
                                have fv64 := jfull v64
                                try rw [← ev64] at D
                                refine z_putI (N := 20) (w := v64.toInt) 1 19 rfl f_11_528 rfl (jfin_no TX1 RX1 20 rfl rfl) hD J Sm rfl rfl rfl (pw_32_19 trivial) rfl (fun h w65 J Sm => ?_)
                                rw [vwf w65 (show v64.toInt = v64.toInt from by omega)] at D
                                refine x_iloadn (x := v61) rfl rfl ?_
                                refine x_iret rfl rfl ?_
                                show jX m_X11_together 8 0 0 116 [(0, .ref 31), (1, .int a1), (2, .int a2), (3, .int a3)] [.int v61] _ 0 0 _
                                refine x_iret rfl rfl ?_
                                exact hQ _ _ (jr_of rfl (by omega)) J Sm ((congrArg Prod.fst D).symm.trans (show v61.toInt = v61.toInt from by omega)) (congrArg Prod.snd D).symm
                              ·
                                rw [if_neg (by omega)] at D
                                refine x_aloadn (x := 31) rfl rfl ?_
                                refine x_bipush (v := (-5)) rfl kb_m5 ?_
                                refine x_inv (N := m_X11_refuse) (As := [.int (-5)]) (b := 31) (st := []) (dx9 := 7) (mc := 0) (ms := 0) (host := "") 11 rfl t_X11_refuse ⟨Or.inl q_11_206, i_X11_refuse.1, i_X11_refuse.2⟩ ⟨by decide, rfl⟩ (congrArg Prod.fst (J.1.1 31 (11, 13) rfl)) rfl (by decide) rfl rfl ⟨by decide, by decide⟩ (jC.of rfl k_X11_refuse rfl ?_)
                                show jX m_X11_refuse 7 0 0 0 [(0, .ref 31), (1, .int (-5))] [] _ 0 0 _
                                refine x_aloadn (x := 31) rfl rfl ?_
                                refine x_iloadn (x := (-5)) rfl rfl ?_
                                refine z_putI (N := 13) (w := (-5)) 11 12 rfl f_11_94 rfl (jfin_no TX11 RX11 13 rfl rfl) hD J Sm rfl rfl jk_m5 (pw_31_12 (by omega)) rfl (fun h w66 J Sm => ?_)
                                rw [vwf w66 (show (-5) = ((-5) : Int32).toInt from by have := jk_m5; omega)] at D
                                refine x_iloadn (x := (-5)) rfl rfl ?_
                                refine x_iret rfl rfl ?_
                                show jX m_X11_together 8 0 0 85 [(0, .ref 31), (1, .int a1), (2, .int a2), (3, .int a3)] [.int (-5)] _ 0 0 _
                                refine x_iret rfl rfl ?_
                                exact hQ _ _ (jr_of jk_m5 (by omega)) J Sm ((congrArg Prod.fst D).symm.trans (show (-5) = ((-5) : Int32).toInt from by have := jk_m5; omega)) (congrArg Prod.snd D).symm
                            ·
                              rw [if_pos (by omega)] at D
                              refine x_aloadn (x := 31) rfl rfl ?_
                              refine x_bipush (v := (-4)) rfl kb_m4 ?_
                              refine x_inv (N := m_X11_refuse) (As := [.int (-4)]) (b := 31) (st := []) (dx9 := 7) (mc := 0) (ms := 0) (host := "") 11 rfl t_X11_refuse ⟨Or.inl q_11_206, i_X11_refuse.1, i_X11_refuse.2⟩ ⟨by decide, rfl⟩ (congrArg Prod.fst (J.1.1 31 (11, 13) rfl)) rfl (by decide) rfl rfl ⟨by decide, by decide⟩ (jC.of rfl k_X11_refuse rfl ?_)
                              show jX m_X11_refuse 7 0 0 0 [(0, .ref 31), (1, .int (-4))] [] _ 0 0 _
                              refine x_aloadn (x := 31) rfl rfl ?_
                              refine x_iloadn (x := (-4)) rfl rfl ?_
                              refine z_putI (N := 13) (w := (-4)) 11 12 rfl f_11_94 rfl (jfin_no TX11 RX11 13 rfl rfl) hD J Sm rfl rfl jk_m4 (pw_31_12 (by omega)) rfl (fun h w67 J Sm => ?_)
                              rw [vwf w67 (show (-4) = ((-4) : Int32).toInt from by have := jk_m4; omega)] at D
                              refine x_iloadn (x := (-4)) rfl rfl ?_
                              refine x_iret rfl rfl ?_
                              show jX m_X11_together 8 0 0 65 [(0, .ref 31), (1, .int a1), (2, .int a2), (3, .int a3)] [.int (-4)] _ 0 0 _
                              refine x_iret rfl rfl ?_
                              exact hQ _ _ (jr_of jk_m4 (by omega)) J Sm ((congrArg Prod.fst D).symm.trans (show (-4) = ((-4) : Int32).toInt from by have := jk_m4; omega)) (congrArg Prod.snd D).symm
                      ·
                        rw [if_neg (by omega)] at D
                        refine x_aloadn (x := 78) rfl rfl ?_
                        refine z_getR (N := 16) (b := 79) 7 7 rfl f_7_27 rfl J rfl 9991 ⟨rfl, rfl⟩ rfl ?_
                        refine x_iloadn (x := a1) rfl rfl ?_
                        refine z_ialdM (N := 600) (v := v8) rfl J rfl rfl (by omega) qv8 ?_
                        refine x_iconst (v := (-1)) rfl ki_m1 ?_
                        refine x_iceq (tgt := 41) rfl rfl (ti_eq rfl jk_m1 (br_f (by omega) ?_))
                        refine x_iconst (v := 1) rfl ki_1 ?_
                        refine x_goto (tgt := 42) rfl rfl ?_
                        refine x_zret rfl rfl (by decide) ?_
                        show jX m_X11_soulOn 7 0 0 15 [(0, .ref 31), (1, .int a1), (2, .int 146399)] [.int 1] _ 0 0 _
                        refine x_ifne (tgt := 20) rfl rfl (ti_ne jk_1 jk_0 (bn_t (by omega) ?_))
                        refine x_aloadn (x := 31) rfl rfl ?_
                        refine z_getR (N := 13) (b := 78) 11 4 rfl f_11_41 rfl J rfl 3972 ⟨rfl, rfl⟩ rfl ?_
                        refine x_iloadn (x := 146399) rfl rfl ?_
                        refine x_inv (N := m_X7_asKnown) (As := [.int 146399]) (b := 78) (st := []) (dx9 := 6) (mc := 0) (ms := 0) (host := "") 7 rfl t_X7_asKnown ⟨Or.inl q_11_240, i_X7_asKnown.1, i_X7_asKnown.2⟩ ⟨by decide, rfl⟩ (congrArg Prod.fst (J.1.1 78 (7, 16) rfl)) rfl (by decide) rfl rfl ⟨by decide, by decide⟩ (sf_X7_asKnown_r78d (jr_of jk_146399 (by omega)) hD J rfl  (fun h J S68 X69 => ?_))
                        have Sm := jSm_tr rfl Sm S68
                        try rw [jk_146399] at X69
                        rw [X69] at D
                        show jX m_X11_soulOn 7 0 0 28 [(0, .ref 31), (1, .int a1), (2, .int 146399)] [] _ 0 0 _
                        refine x_aloadn (x := 31) rfl rfl ?_
                        refine z_getR (N := 13) (b := 78) 11 4 rfl f_11_41 rfl J rfl 3972 ⟨rfl, rfl⟩ rfl ?_
                        refine z_getR (N := 16) (b := 82) 7 10 rfl f_11_537 rfl J rfl 9994 ⟨rfl, rfl⟩ rfl ?_
                        refine x_iloadn (x := a1) rfl rfl ?_
                        refine z_iald (N := 600) rfl J rfl sg_82_0_600_1_0_1 rfl (by omega) (fun v70 qv70 ev70 => ?_)
                        try rw [vrd qv70 (show a1.toInt = a1.toInt from by omega)] at D
                        refine x_iret rfl rfl ?_
                        show jX m_X11_together 8 0 0 49 [(0, .ref 31), (1, .int a1), (2, .int a2), (3, .int a3)] [.int v70] _ 0 0 _
                        refine x_aloadn (x := 31) rfl rfl ?_
                        refine x_iloadn (x := a2) rfl rfl ?_
                        refine x_ldc (v := 146399) rfl z_11_233 ?_
                        refine x_inv (N := m_X11_soulOn) (As := [.int a2, .int 146399]) (b := 31) (st := [.int v70]) (dx9 := 7) (mc := 0) (ms := 0) (host := "") 11 rfl t_X11_soulOn ⟨Or.inl q_11_234, i_X11_soulOn.1, i_X11_soulOn.2⟩ ⟨by decide, rfl⟩ (congrArg Prod.fst (J.1.1 31 (11, 13) rfl)) rfl (by decide) rfl rfl ⟨by decide, by decide⟩ (jC.of rfl k_X11_soulOn rfl ?_)
                        show jX m_X11_soulOn 7 0 0 0 [(0, .ref 31), (1, .int a2), (2, .int 146399)] [] _ 0 0 _
                        refine x_iloadn (x := 146399) rfl rfl ?_
                        refine x_inst (N := m_X11_isDay) (As := [.int 146399]) (st := []) (dx9 := 1) (mc := 0) (ms := 0) (host := "") rfl t_X11_isDay ⟨Or.inl q_11_115, s_X11_isDay⟩ rfl (by decide) rfl rfl ⟨by decide, by decide⟩ (zc_X11_isDay jk_146399 (fun v71 ev71 => ?_))
                        show jX m_X11_soulOn 7 0 0 4 [(0, .ref 31), (1, .int a2), (2, .int 146399)] [.int v71] _ 0 0 _
                        refine x_ifeq (tgt := 18) rfl rfl (ti_eq rfl jk_0 ⟨fun c72 => ?_, fun c72 => ?_⟩)
                        ·
                          rw [if_neg (by omega)] at D
                          refine x_iconst (v := (-1)) rfl ki_m1 ?_
                          refine x_iret rfl rfl ?_
                          show jX m_X11_together 8 0 0 56 [(0, .ref 31), (1, .int a1), (2, .int a2), (3, .int a3)] [.int (-1), .int v70] _ 0 0 _
                          refine x_icne (tgt := 66) rfl rfl (ti_ne rfl jk_m1 ⟨fun c73 => ?_, fun c73 => ?_⟩)
                          ·
                            rw [if_neg (by omega)] at D
                            refine x_aloadn (x := 31) rfl rfl ?_
                            refine z_getR (N := 13) (b := 32) 11 0 rfl f_11_10 rfl J rfl 3968 ⟨rfl, rfl⟩ rfl ?_
                            refine z_getR (N := 20) (b := 39) 1 3 rfl f_11_237 rfl J rfl 4099 ⟨rfl, rfl⟩ rfl ?_
                            refine x_inv (N := m_X8_isFull) (As := []) (b := 39) (st := []) (dx9 := 1) (mc := 0) (ms := 0) (host := "") 8 rfl t_X8_isFull ⟨Or.inl q_11_130, i_X8_isFull.1, i_X8_isFull.2⟩ ⟨by decide, rfl⟩ (congrArg Prod.fst (J.1.1 39 (8, 4) rfl)) rfl (by decide) rfl rfl ⟨by decide, by decide⟩ (sf_X8_isFull_r39d  hD J rfl  (fun v77 h ev77 J S74 X75 X76 => ?_))
                            have Sm := jSm_tr rfl Sm S74
                            try rw [X75] at D
                            try rw [← X76] at D
                            show jX m_X11_together 8 0 0 76 [(0, .ref 31), (1, .int a1), (2, .int a2), (3, .int a3)] [.int v77] _ 0 0 _
                            refine x_ifeq (tgt := 86) rfl rfl (ti_eq rfl jk_0 ⟨fun c78 => ?_, fun c78 => ?_⟩)
                            ·
                              rw [if_pos (by omega)] at D
                              refine x_aloadn (x := 31) rfl rfl ?_
                              refine z_getR (N := 13) (b := 32) 11 0 rfl f_11_10 rfl J rfl 3968 ⟨rfl, rfl⟩ rfl ?_
                              refine z_getR (N := 20) (b := 39) 1 3 rfl f_11_237 rfl J rfl 4099 ⟨rfl, rfl⟩ rfl ?_
                              refine x_iloadn (x := a3) rfl rfl ?_
                              refine x_iloadn (x := a1) rfl rfl ?_
                              refine x_iloadn (x := a2) rfl rfl ?_
                              refine x_iconst (v := 0) rfl ki_0 ?_
                              refine x_iconst (v := 0) rfl ki_0 ?_
                              refine x_iconst (v := 0) rfl ki_0 ?_
                              refine x_inv (N := m_X8_add) (As := [.int a3, .int a1, .int a2, .int 0, .int 0, .int 0]) (b := 39) (st := []) (dx9 := 2) (mc := 0) (ms := 0) (host := "") 8 rfl t_X8_add ⟨Or.inl q_11_145, i_X8_add.1, i_X8_add.2⟩ ⟨by decide, rfl⟩ (congrArg Prod.fst (J.1.1 39 (8, 4) rfl)) rfl (by decide) rfl rfl ⟨by decide, by decide⟩ (sf_X8_add_r39d (jr_of rfl (by omega)) (jr_of rfl (by omega)) (jr_of rfl (by omega)) (jr_of jk_0 (by omega)) (jr_of jk_0 (by omega)) (jr_of jk_0 (by omega)) hD J rfl  (fun h J S79 X80 => ?_))
                              have Sm := jSm_tr rfl Sm S79
                              try rw [jk_0] at X80
                              rw [X80] at D
                              show jX m_X11_together 8 0 0 102 [(0, .ref 31), (1, .int a1), (2, .int a2), (3, .int a3)] [] _ 0 0 _
                              refine x_aloadn (x := 31) rfl rfl ?_
                              refine x_aloadn (x := 31) rfl rfl ?_
                              refine z_getR (N := 13) (b := 32) 11 0 rfl f_11_10 rfl J rfl 3968 ⟨rfl, rfl⟩ rfl ?_
                              refine z_getR (N := 20) (b := 39) 1 3 rfl f_11_237 rfl J rfl 4099 ⟨rfl, rfl⟩ rfl ?_
                              refine z_getI (N := 4) 8 3 rfl f_11_142 rfl J rfl sg_39_3_4_1_0_1 (fun v81 qv81 ev81 => ?_)
                              try rw [vrf qv81] at D
                              refine x_inv (N := m_X11_accept) (As := [.int v81]) (b := 31) (st := []) (dx9 := 7) (mc := 0) (ms := 0) (host := "") 11 rfl t_X11_accept ⟨Or.inl q_11_165, i_X11_accept.1, i_X11_accept.2⟩ ⟨by decide, rfl⟩ (congrArg Prod.fst (J.1.1 31 (11, 13) rfl)) rfl (by decide) rfl rfl ⟨by decide, by decide⟩ (jC.of rfl k_X11_accept rfl ?_)
                              show jX m_X11_accept 7 0 0 0 [(0, .ref 31), (1, .int v81)] [] _ 0 0 _
                              refine x_aloadn (x := 31) rfl rfl ?_
                              refine x_iconst (v := 0) rfl ki_0 ?_
                              refine z_putI (N := 13) (w := 0) 11 12 rfl f_11_94 rfl (jfin_no TX11 RX11 13 rfl rfl) hD J Sm rfl rfl jk_0 (pw_31_12 (by omega)) rfl (fun h w82 J Sm => ?_)
                              rw [vwf w82 (show 0 = (0 : Int32).toInt from by have := jk_0; omega)] at D
                              refine x_aloadn (x := 31) rfl rfl ?_
                              refine z_getR (N := 13) (b := 32) 11 0 rfl f_11_10 rfl J rfl 3968 ⟨rfl, rfl⟩ rfl ?_
                              refine x_dup rfl rfl ?_
                              refine z_getI0 (N := 20) 1 19 rfl f_11_528 rfl J rfl (fun v83 qv83 => ?_)
                              have ev83 := jfull v83
                              try rw [vrf (jmb_c S68 (jmb_c S74 (jmb_c S79 (jmb_w w82 qv83 rfl) rfl) rfl) rfl)] at D
                              refine x_iconst (v := 1) rfl ki_1 ?_
                              refine z_iaddW rfl rfl jk_1 (fun v84 ev84 => ?_)
                              have fv84 := jfull v84
                              try rw [← ev84] at D
                              refine z_putI (N := 20) (w := v84.toInt) 1 19 rfl f_11_528 rfl (jfin_no TX1 RX1 20 rfl rfl) hD J Sm rfl rfl rfl (pw_32_19 trivial) rfl (fun h w85 J Sm => ?_)
                              rw [vwf w85 (show v84.toInt = v84.toInt from by omega)] at D
                              refine x_iloadn (x := v81) rfl rfl ?_
                              refine x_iret rfl rfl ?_
                              show jX m_X11_together 8 0 0 116 [(0, .ref 31), (1, .int a1), (2, .int a2), (3, .int a3)] [.int v81] _ 0 0 _
                              refine x_iret rfl rfl ?_
                              exact hQ _ _ (jr_of rfl (by omega)) J Sm ((congrArg Prod.fst D).symm.trans (show v81.toInt = v81.toInt from by omega)) (congrArg Prod.snd D).symm
                            ·
                              rw [if_neg (by omega)] at D
                              refine x_aloadn (x := 31) rfl rfl ?_
                              refine x_bipush (v := (-5)) rfl kb_m5 ?_
                              refine x_inv (N := m_X11_refuse) (As := [.int (-5)]) (b := 31) (st := []) (dx9 := 7) (mc := 0) (ms := 0) (host := "") 11 rfl t_X11_refuse ⟨Or.inl q_11_206, i_X11_refuse.1, i_X11_refuse.2⟩ ⟨by decide, rfl⟩ (congrArg Prod.fst (J.1.1 31 (11, 13) rfl)) rfl (by decide) rfl rfl ⟨by decide, by decide⟩ (jC.of rfl k_X11_refuse rfl ?_)
                              show jX m_X11_refuse 7 0 0 0 [(0, .ref 31), (1, .int (-5))] [] _ 0 0 _
                              refine x_aloadn (x := 31) rfl rfl ?_
                              refine x_iloadn (x := (-5)) rfl rfl ?_
                              refine z_putI (N := 13) (w := (-5)) 11 12 rfl f_11_94 rfl (jfin_no TX11 RX11 13 rfl rfl) hD J Sm rfl rfl jk_m5 (pw_31_12 (by omega)) rfl (fun h w86 J Sm => ?_)
                              rw [vwf w86 (show (-5) = ((-5) : Int32).toInt from by have := jk_m5; omega)] at D
                              refine x_iloadn (x := (-5)) rfl rfl ?_
                              refine x_iret rfl rfl ?_
                              show jX m_X11_together 8 0 0 85 [(0, .ref 31), (1, .int a1), (2, .int a2), (3, .int a3)] [.int (-5)] _ 0 0 _
                              refine x_iret rfl rfl ?_
                              exact hQ _ _ (jr_of jk_m5 (by omega)) J Sm ((congrArg Prod.fst D).symm.trans (show (-5) = ((-5) : Int32).toInt from by have := jk_m5; omega)) (congrArg Prod.snd D).symm
                          ·
                            rw [if_pos (by omega)] at D
                            refine x_aloadn (x := 31) rfl rfl ?_
                            refine x_bipush (v := (-4)) rfl kb_m4 ?_
                            refine x_inv (N := m_X11_refuse) (As := [.int (-4)]) (b := 31) (st := []) (dx9 := 7) (mc := 0) (ms := 0) (host := "") 11 rfl t_X11_refuse ⟨Or.inl q_11_206, i_X11_refuse.1, i_X11_refuse.2⟩ ⟨by decide, rfl⟩ (congrArg Prod.fst (J.1.1 31 (11, 13) rfl)) rfl (by decide) rfl rfl ⟨by decide, by decide⟩ (jC.of rfl k_X11_refuse rfl ?_)
                            show jX m_X11_refuse 7 0 0 0 [(0, .ref 31), (1, .int (-4))] [] _ 0 0 _
                            refine x_aloadn (x := 31) rfl rfl ?_
                            refine x_iloadn (x := (-4)) rfl rfl ?_
                            refine z_putI (N := 13) (w := (-4)) 11 12 rfl f_11_94 rfl (jfin_no TX11 RX11 13 rfl rfl) hD J Sm rfl rfl jk_m4 (pw_31_12 (by omega)) rfl (fun h w87 J Sm => ?_)
                            rw [vwf w87 (show (-4) = ((-4) : Int32).toInt from by have := jk_m4; omega)] at D
                            refine x_iloadn (x := (-4)) rfl rfl ?_
                            refine x_iret rfl rfl ?_
                            show jX m_X11_together 8 0 0 65 [(0, .ref 31), (1, .int a1), (2, .int a2), (3, .int a3)] [.int (-4)] _ 0 0 _
                            refine x_iret rfl rfl ?_
                            exact hQ _ _ (jr_of jk_m4 (by omega)) J Sm ((congrArg Prod.fst D).symm.trans (show (-4) = ((-4) : Int32).toInt from by have := jk_m4; omega)) (congrArg Prod.snd D).symm
                        ·
                          rw [if_pos (by omega)] at D
                          refine x_aloadn (x := 31) rfl rfl ?_
                          refine z_getR (N := 13) (b := 78) 11 4 rfl f_11_41 rfl J rfl 3972 ⟨rfl, rfl⟩ rfl ?_
                          refine x_iloadn (x := a2) rfl rfl ?_
                          refine x_inv (N := m_X7_isMention) (As := [.int a2]) (b := 78) (st := []) (dx9 := 6) (mc := 0) (ms := 0) (host := "") 7 rfl t_X7_isMention ⟨Or.inl q_11_187, i_X7_isMention.1, i_X7_isMention.2⟩ ⟨by decide, rfl⟩ (congrArg Prod.fst (J.1.1 78 (7, 16) rfl)) rfl (by decide) rfl rfl ⟨by decide, by decide⟩ (jC.of rfl k_X7_isMention rfl ?_)
                          show jX m_X7_isMention 6 0 0 0 [(0, .ref 78), (1, .int a2)] [] _ 0 0 _
                          refine x_iloadn (x := a2) rfl rfl ?_
                          refine x_iflt (tgt := 41) rfl rfl (ti_lt rfl jk_0 (br_f (by omega) ?_))
                          refine x_iloadn (x := a2) rfl rfl ?_
                          refine x_sipush (v := 600) rfl ks_600 ?_
                          refine x_icge (tgt := 41) rfl rfl (ti_ge rfl jk_600 (br_f (by omega) ?_))
                          refine x_iloadn (x := a2) rfl rfl ?_
                          refine x_iconst (v := 3) rfl ki_3 ?_
                          refine z_idiv rfl rfl jk_3 (by omega) (by omega) (fun v88 ev88 => ?_)
                          refine x_aloadn (x := 78) rfl rfl ?_
                          refine z_getR (N := 16) (b := 32) 7 0 rfl f_7_55 rfl J rfl 9984 ⟨rfl, rfl⟩ rfl ?_
                          refine z_getR (N := 20) (b := 33) 1 0 rfl f_7_63 rfl J rfl 4096 ⟨rfl, rfl⟩ rfl ?_
                          refine z_getM (N := 4) (v := v6) 8 3 rfl f_7_85 rfl J rfl (jmc S68 rfl qv6) ?_
                          refine x_icge (tgt := 41) rfl rfl (ti_ge rfl rfl ⟨fun c89 => ?_, fun c89 => ?_⟩)
                          ·
                            rw [if_pos (by omega)] at D
                            refine x_iconst (v := 0) rfl ki_0 ?_
                            refine x_zret rfl rfl (by decide) ?_
                            show jX m_X11_soulOn 7 0 0 15 [(0, .ref 31), (1, .int a2), (2, .int 146399)] [.int 0] _ 0 0 _
                            refine x_ifne (tgt := 20) rfl rfl (ti_ne jk_0 jk_0 (bn_f (by omega) ?_))
                            refine x_iconst (v := (-1)) rfl ki_m1 ?_
                            refine x_iret rfl rfl ?_
                            show jX m_X11_together 8 0 0 56 [(0, .ref 31), (1, .int a1), (2, .int a2), (3, .int a3)] [.int (-1), .int v70] _ 0 0 _
                            refine x_icne (tgt := 66) rfl rfl (ti_ne rfl jk_m1 ⟨fun c90 => ?_, fun c90 => ?_⟩)
                            ·
                              rw [if_neg (by omega)] at D
                              refine x_aloadn (x := 31) rfl rfl ?_
                              refine z_getR (N := 13) (b := 32) 11 0 rfl f_11_10 rfl J rfl 3968 ⟨rfl, rfl⟩ rfl ?_
                              refine z_getR (N := 20) (b := 39) 1 3 rfl f_11_237 rfl J rfl 4099 ⟨rfl, rfl⟩ rfl ?_
                              refine x_inv (N := m_X8_isFull) (As := []) (b := 39) (st := []) (dx9 := 1) (mc := 0) (ms := 0) (host := "") 8 rfl t_X8_isFull ⟨Or.inl q_11_130, i_X8_isFull.1, i_X8_isFull.2⟩ ⟨by decide, rfl⟩ (congrArg Prod.fst (J.1.1 39 (8, 4) rfl)) rfl (by decide) rfl rfl ⟨by decide, by decide⟩ (sf_X8_isFull_r39d  hD J rfl  (fun v94 h ev94 J S91 X92 X93 => ?_))
                              have Sm := jSm_tr rfl Sm S91
                              try rw [X92] at D
                              try rw [← X93] at D
                              show jX m_X11_together 8 0 0 76 [(0, .ref 31), (1, .int a1), (2, .int a2), (3, .int a3)] [.int v94] _ 0 0 _
                              refine x_ifeq (tgt := 86) rfl rfl (ti_eq rfl jk_0 ⟨fun c95 => ?_, fun c95 => ?_⟩)
                              ·
                                rw [if_pos (by omega)] at D
                                refine x_aloadn (x := 31) rfl rfl ?_
                                refine z_getR (N := 13) (b := 32) 11 0 rfl f_11_10 rfl J rfl 3968 ⟨rfl, rfl⟩ rfl ?_
                                refine z_getR (N := 20) (b := 39) 1 3 rfl f_11_237 rfl J rfl 4099 ⟨rfl, rfl⟩ rfl ?_
                                refine x_iloadn (x := a3) rfl rfl ?_
                                refine x_iloadn (x := a1) rfl rfl ?_
                                refine x_iloadn (x := a2) rfl rfl ?_
                                refine x_iconst (v := 0) rfl ki_0 ?_
                                refine x_iconst (v := 0) rfl ki_0 ?_
                                refine x_iconst (v := 0) rfl ki_0 ?_
                                refine x_inv (N := m_X8_add) (As := [.int a3, .int a1, .int a2, .int 0, .int 0, .int 0]) (b := 39) (st := []) (dx9 := 2) (mc := 0) (ms := 0) (host := "") 8 rfl t_X8_add ⟨Or.inl q_11_145, i_X8_add.1, i_X8_add.2⟩ ⟨by decide, rfl⟩ (congrArg Prod.fst (J.1.1 39 (8, 4) rfl)) rfl (by decide) rfl rfl ⟨by decide, by decide⟩ (sf_X8_add_r39d (jr_of rfl (by omega)) (jr_of rfl (by omega)) (jr_of rfl (by omega)) (jr_of jk_0 (by omega)) (jr_of jk_0 (by omega)) (jr_of jk_0 (by omega)) hD J rfl  (fun h J S96 X97 => ?_))
                                have Sm := jSm_tr rfl Sm S96
                                try rw [jk_0] at X97
                                rw [X97] at D
                                show jX m_X11_together 8 0 0 102 [(0, .ref 31), (1, .int a1), (2, .int a2), (3, .int a3)] [] _ 0 0 _
                                refine x_aloadn (x := 31) rfl rfl ?_
                                refine x_aloadn (x := 31) rfl rfl ?_
                                refine z_getR (N := 13) (b := 32) 11 0 rfl f_11_10 rfl J rfl 3968 ⟨rfl, rfl⟩ rfl ?_
                                refine z_getR (N := 20) (b := 39) 1 3 rfl f_11_237 rfl J rfl 4099 ⟨rfl, rfl⟩ rfl ?_
                                refine z_getI (N := 4) 8 3 rfl f_11_142 rfl J rfl sg_39_3_4_1_0_1 (fun v98 qv98 ev98 => ?_)
                                try rw [vrf qv98] at D
                                refine x_inv (N := m_X11_accept) (As := [.int v98]) (b := 31) (st := []) (dx9 := 7) (mc := 0) (ms := 0) (host := "") 11 rfl t_X11_accept ⟨Or.inl q_11_165, i_X11_accept.1, i_X11_accept.2⟩ ⟨by decide, rfl⟩ (congrArg Prod.fst (J.1.1 31 (11, 13) rfl)) rfl (by decide) rfl rfl ⟨by decide, by decide⟩ (jC.of rfl k_X11_accept rfl ?_)
                                show jX m_X11_accept 7 0 0 0 [(0, .ref 31), (1, .int v98)] [] _ 0 0 _
                                refine x_aloadn (x := 31) rfl rfl ?_
                                refine x_iconst (v := 0) rfl ki_0 ?_
                                refine z_putI (N := 13) (w := 0) 11 12 rfl f_11_94 rfl (jfin_no TX11 RX11 13 rfl rfl) hD J Sm rfl rfl jk_0 (pw_31_12 (by omega)) rfl (fun h w99 J Sm => ?_)
                                rw [vwf w99 (show 0 = (0 : Int32).toInt from by have := jk_0; omega)] at D
                                refine x_aloadn (x := 31) rfl rfl ?_
                                refine z_getR (N := 13) (b := 32) 11 0 rfl f_11_10 rfl J rfl 3968 ⟨rfl, rfl⟩ rfl ?_
                                refine x_dup rfl rfl ?_
                                refine z_getI0 (N := 20) 1 19 rfl f_11_528 rfl J rfl (fun v100 qv100 => ?_)
                                have ev100 := jfull v100
                                try rw [vrf (jmb_c S68 (jmb_c S91 (jmb_c S96 (jmb_w w99 qv100 rfl) rfl) rfl) rfl)] at D
                                refine x_iconst (v := 1) rfl ki_1 ?_
                                refine z_iaddW rfl rfl jk_1 (fun v101 ev101 => ?_)
                                have fv101 := jfull v101
                                try rw [← ev101] at D
                                refine z_putI (N := 20) (w := v101.toInt) 1 19 rfl f_11_528 rfl (jfin_no TX1 RX1 20 rfl rfl) hD J Sm rfl rfl rfl (pw_32_19 trivial) rfl (fun h w102 J Sm => ?_)
                                rw [vwf w102 (show v101.toInt = v101.toInt from by omega)] at D
                                refine x_iloadn (x := v98) rfl rfl ?_
                                refine x_iret rfl rfl ?_
                                show jX m_X11_together 8 0 0 116 [(0, .ref 31), (1, .int a1), (2, .int a2), (3, .int a3)] [.int v98] _ 0 0 _
                                refine x_iret rfl rfl ?_
                                exact hQ _ _ (jr_of rfl (by omega)) J Sm ((congrArg Prod.fst D).symm.trans (show v98.toInt = v98.toInt from by omega)) (congrArg Prod.snd D).symm
                              ·
                                rw [if_neg (by omega)] at D
                                refine x_aloadn (x := 31) rfl rfl ?_
                                refine x_bipush (v := (-5)) rfl kb_m5 ?_
                                refine x_inv (N := m_X11_refuse) (As := [.int (-5)]) (b := 31) (st := []) (dx9 := 7) (mc := 0) (ms := 0) (host := "") 11 rfl t_X11_refuse ⟨Or.inl q_11_206, i_X11_refuse.1, i_X11_refuse.2⟩ ⟨by decide, rfl⟩ (congrArg Prod.fst (J.1.1 31 (11, 13) rfl)) rfl (by decide) rfl rfl ⟨by decide, by decide⟩ (jC.of rfl k_X11_refuse rfl ?_)
                                show jX m_X11_refuse 7 0 0 0 [(0, .ref 31), (1, .int (-5))] [] _ 0 0 _
                                refine x_aloadn (x := 31) rfl rfl ?_
                                refine x_iloadn (x := (-5)) rfl rfl ?_
                                refine z_putI (N := 13) (w := (-5)) 11 12 rfl f_11_94 rfl (jfin_no TX11 RX11 13 rfl rfl) hD J Sm rfl rfl jk_m5 (pw_31_12 (by omega)) rfl (fun h w103 J Sm => ?_)
                                rw [vwf w103 (show (-5) = ((-5) : Int32).toInt from by have := jk_m5; omega)] at D
                                refine x_iloadn (x := (-5)) rfl rfl ?_
                                refine x_iret rfl rfl ?_
                                show jX m_X11_together 8 0 0 85 [(0, .ref 31), (1, .int a1), (2, .int a2), (3, .int a3)] [.int (-5)] _ 0 0 _
                                refine x_iret rfl rfl ?_
                                exact hQ _ _ (jr_of jk_m5 (by omega)) J Sm ((congrArg Prod.fst D).symm.trans (show (-5) = ((-5) : Int32).toInt from by have := jk_m5; omega)) (congrArg Prod.snd D).symm
                            ·
                              rw [if_pos (by omega)] at D
                              refine x_aloadn (x := 31) rfl rfl ?_
                              refine x_bipush (v := (-4)) rfl kb_m4 ?_
                              refine x_inv (N := m_X11_refuse) (As := [.int (-4)]) (b := 31) (st := []) (dx9 := 7) (mc := 0) (ms := 0) (host := "") 11 rfl t_X11_refuse ⟨Or.inl q_11_206, i_X11_refuse.1, i_X11_refuse.2⟩ ⟨by decide, rfl⟩ (congrArg Prod.fst (J.1.1 31 (11, 13) rfl)) rfl (by decide) rfl rfl ⟨by decide, by decide⟩ (jC.of rfl k_X11_refuse rfl ?_)
                              show jX m_X11_refuse 7 0 0 0 [(0, .ref 31), (1, .int (-4))] [] _ 0 0 _
                              refine x_aloadn (x := 31) rfl rfl ?_
                              refine x_iloadn (x := (-4)) rfl rfl ?_
                              refine z_putI (N := 13) (w := (-4)) 11 12 rfl f_11_94 rfl (jfin_no TX11 RX11 13 rfl rfl) hD J Sm rfl rfl jk_m4 (pw_31_12 (by omega)) rfl (fun h w104 J Sm => ?_)
                              rw [vwf w104 (show (-4) = ((-4) : Int32).toInt from by have := jk_m4; omega)] at D
                              refine x_iloadn (x := (-4)) rfl rfl ?_
                              refine x_iret rfl rfl ?_
                              show jX m_X11_together 8 0 0 65 [(0, .ref 31), (1, .int a1), (2, .int a2), (3, .int a3)] [.int (-4)] _ 0 0 _
                              refine x_iret rfl rfl ?_
                              exact hQ _ _ (jr_of jk_m4 (by omega)) J Sm ((congrArg Prod.fst D).symm.trans (show (-4) = ((-4) : Int32).toInt from by have := jk_m4; omega)) (congrArg Prod.snd D).symm
                          ·
                            rw [if_neg (by omega)] at D
                            refine x_aloadn (x := 78) rfl rfl ?_
                            refine z_getR (N := 16) (b := 79) 7 7 rfl f_7_27 rfl J rfl 9991 ⟨rfl, rfl⟩ rfl ?_
                            refine x_iloadn (x := a2) rfl rfl ?_
                            refine z_ialdM (N := 600) (v := v14) rfl J rfl rfl (by omega) (jmc S68 rfl qv14) ?_
                            refine x_iconst (v := (-1)) rfl ki_m1 ?_
                            refine x_iceq (tgt := 41) rfl rfl (ti_eq rfl jk_m1 (br_f (by omega) ?_))
                            refine x_iconst (v := 1) rfl ki_1 ?_
                            refine x_goto (tgt := 42) rfl rfl ?_
                            refine x_zret rfl rfl (by decide) ?_
                            show jX m_X11_soulOn 7 0 0 15 [(0, .ref 31), (1, .int a2), (2, .int 146399)] [.int 1] _ 0 0 _
                            refine x_ifne (tgt := 20) rfl rfl (ti_ne jk_1 jk_0 (bn_t (by omega) ?_))
                            refine x_aloadn (x := 31) rfl rfl ?_
                            refine z_getR (N := 13) (b := 78) 11 4 rfl f_11_41 rfl J rfl 3972 ⟨rfl, rfl⟩ rfl ?_
                            refine x_iloadn (x := 146399) rfl rfl ?_
                            refine x_inv (N := m_X7_asKnown) (As := [.int 146399]) (b := 78) (st := []) (dx9 := 6) (mc := 0) (ms := 0) (host := "") 7 rfl t_X7_asKnown ⟨Or.inl q_11_240, i_X7_asKnown.1, i_X7_asKnown.2⟩ ⟨by decide, rfl⟩ (congrArg Prod.fst (J.1.1 78 (7, 16) rfl)) rfl (by decide) rfl rfl ⟨by decide, by decide⟩ (sf_X7_asKnown_r78d (jr_of jk_146399 (by omega)) hD J rfl  (fun h J S105 X106 => ?_))
                            have Sm := jSm_tr rfl Sm S105
                            try rw [jk_146399] at X106
                            rw [X106] at D
                            show jX m_X11_soulOn 7 0 0 28 [(0, .ref 31), (1, .int a2), (2, .int 146399)] [] _ 0 0 _
                            refine x_aloadn (x := 31) rfl rfl ?_
                            refine z_getR (N := 13) (b := 78) 11 4 rfl f_11_41 rfl J rfl 3972 ⟨rfl, rfl⟩ rfl ?_
                            refine z_getR (N := 16) (b := 82) 7 10 rfl f_11_537 rfl J rfl 9994 ⟨rfl, rfl⟩ rfl ?_
                            refine x_iloadn (x := a2) rfl rfl ?_
                            refine z_iald (N := 600) rfl J rfl sg_82_0_600_1_0_1 rfl (by omega) (fun v107 qv107 ev107 => ?_)
                            try rw [vrd qv107 (show a2.toInt = a2.toInt from by omega)] at D
                            refine x_iret rfl rfl ?_
                            show jX m_X11_together 8 0 0 56 [(0, .ref 31), (1, .int a1), (2, .int a2), (3, .int a3)] [.int v107, .int v70] _ 0 0 _
                            refine x_icne (tgt := 66) rfl rfl (ti_ne rfl rfl ⟨fun c108 => ?_, fun c108 => ?_⟩)
                            ·
                              rw [if_neg (by omega)] at D
                              refine x_aloadn (x := 31) rfl rfl ?_
                              refine z_getR (N := 13) (b := 32) 11 0 rfl f_11_10 rfl J rfl 3968 ⟨rfl, rfl⟩ rfl ?_
                              refine z_getR (N := 20) (b := 39) 1 3 rfl f_11_237 rfl J rfl 4099 ⟨rfl, rfl⟩ rfl ?_
                              refine x_inv (N := m_X8_isFull) (As := []) (b := 39) (st := []) (dx9 := 1) (mc := 0) (ms := 0) (host := "") 8 rfl t_X8_isFull ⟨Or.inl q_11_130, i_X8_isFull.1, i_X8_isFull.2⟩ ⟨by decide, rfl⟩ (congrArg Prod.fst (J.1.1 39 (8, 4) rfl)) rfl (by decide) rfl rfl ⟨by decide, by decide⟩ (sf_X8_isFull_r39d  hD J rfl  (fun v112 h ev112 J S109 X110 X111 => ?_))
                              have Sm := jSm_tr rfl Sm S109
                              try rw [X110] at D
                              try rw [← X111] at D
                              show jX m_X11_together 8 0 0 76 [(0, .ref 31), (1, .int a1), (2, .int a2), (3, .int a3)] [.int v112] _ 0 0 _
                              refine x_ifeq (tgt := 86) rfl rfl (ti_eq rfl jk_0 ⟨fun c113 => ?_, fun c113 => ?_⟩)
                              ·
                                rw [if_pos (by omega)] at D
                                refine x_aloadn (x := 31) rfl rfl ?_
                                refine z_getR (N := 13) (b := 32) 11 0 rfl f_11_10 rfl J rfl 3968 ⟨rfl, rfl⟩ rfl ?_
                                refine z_getR (N := 20) (b := 39) 1 3 rfl f_11_237 rfl J rfl 4099 ⟨rfl, rfl⟩ rfl ?_
                                refine x_iloadn (x := a3) rfl rfl ?_
                                refine x_iloadn (x := a1) rfl rfl ?_
                                refine x_iloadn (x := a2) rfl rfl ?_
                                refine x_iconst (v := 0) rfl ki_0 ?_
                                refine x_iconst (v := 0) rfl ki_0 ?_
                                refine x_iconst (v := 0) rfl ki_0 ?_
                                refine x_inv (N := m_X8_add) (As := [.int a3, .int a1, .int a2, .int 0, .int 0, .int 0]) (b := 39) (st := []) (dx9 := 2) (mc := 0) (ms := 0) (host := "") 8 rfl t_X8_add ⟨Or.inl q_11_145, i_X8_add.1, i_X8_add.2⟩ ⟨by decide, rfl⟩ (congrArg Prod.fst (J.1.1 39 (8, 4) rfl)) rfl (by decide) rfl rfl ⟨by decide, by decide⟩ (sf_X8_add_r39d (jr_of rfl (by omega)) (jr_of rfl (by omega)) (jr_of rfl (by omega)) (jr_of jk_0 (by omega)) (jr_of jk_0 (by omega)) (jr_of jk_0 (by omega)) hD J rfl  (fun h J S114 X115 => ?_))
                                have Sm := jSm_tr rfl Sm S114
                                try rw [jk_0] at X115
                                rw [X115] at D
                                show jX m_X11_together 8 0 0 102 [(0, .ref 31), (1, .int a1), (2, .int a2), (3, .int a3)] [] _ 0 0 _
                                refine x_aloadn (x := 31) rfl rfl ?_
                                refine x_aloadn (x := 31) rfl rfl ?_
                                refine z_getR (N := 13) (b := 32) 11 0 rfl f_11_10 rfl J rfl 3968 ⟨rfl, rfl⟩ rfl ?_
                                refine z_getR (N := 20) (b := 39) 1 3 rfl f_11_237 rfl J rfl 4099 ⟨rfl, rfl⟩ rfl ?_
                                refine z_getI (N := 4) 8 3 rfl f_11_142 rfl J rfl sg_39_3_4_1_0_1 (fun v116 qv116 ev116 => ?_)
                                try rw [vrf qv116] at D
                                refine x_inv (N := m_X11_accept) (As := [.int v116]) (b := 31) (st := []) (dx9 := 7) (mc := 0) (ms := 0) (host := "") 11 rfl t_X11_accept ⟨Or.inl q_11_165, i_X11_accept.1, i_X11_accept.2⟩ ⟨by decide, rfl⟩ (congrArg Prod.fst (J.1.1 31 (11, 13) rfl)) rfl (by decide) rfl rfl ⟨by decide, by decide⟩ (jC.of rfl k_X11_accept rfl ?_)
                                show jX m_X11_accept 7 0 0 0 [(0, .ref 31), (1, .int v116)] [] _ 0 0 _
                                refine x_aloadn (x := 31) rfl rfl ?_
                                refine x_iconst (v := 0) rfl ki_0 ?_
                                refine z_putI (N := 13) (w := 0) 11 12 rfl f_11_94 rfl (jfin_no TX11 RX11 13 rfl rfl) hD J Sm rfl rfl jk_0 (pw_31_12 (by omega)) rfl (fun h w117 J Sm => ?_)
                                rw [vwf w117 (show 0 = (0 : Int32).toInt from by have := jk_0; omega)] at D
                                refine x_aloadn (x := 31) rfl rfl ?_
                                refine z_getR (N := 13) (b := 32) 11 0 rfl f_11_10 rfl J rfl 3968 ⟨rfl, rfl⟩ rfl ?_
                                refine x_dup rfl rfl ?_
                                refine z_getI0 (N := 20) 1 19 rfl f_11_528 rfl J rfl (fun v118 qv118 => ?_)
                                have ev118 := jfull v118
                                try rw [vrf (jmb_c S68 (jmb_c S105 (jmb_c S109 (jmb_c S114 (jmb_w w117 qv118 rfl) rfl) rfl) rfl) rfl)] at D
                                refine x_iconst (v := 1) rfl ki_1 ?_
                                refine z_iaddW rfl rfl jk_1 (fun v119 ev119 => ?_)
                                have fv119 := jfull v119
                                try rw [← ev119] at D
                                refine z_putI (N := 20) (w := v119.toInt) 1 19 rfl f_11_528 rfl (jfin_no TX1 RX1 20 rfl rfl) hD J Sm rfl rfl rfl (pw_32_19 trivial) rfl (fun h w120 J Sm => ?_)
                                rw [vwf w120 (show v119.toInt = v119.toInt from by omega)] at D
                                refine x_iloadn (x := v116) rfl rfl ?_
                                refine x_iret rfl rfl ?_
                                show jX m_X11_together 8 0 0 116 [(0, .ref 31), (1, .int a1), (2, .int a2), (3, .int a3)] [.int v116] _ 0 0 _
                                refine x_iret rfl rfl ?_
                                exact hQ _ _ (jr_of rfl (by omega)) J Sm ((congrArg Prod.fst D).symm.trans (show v116.toInt = v116.toInt from by omega)) (congrArg Prod.snd D).symm
                              ·
                                rw [if_neg (by omega)] at D
                                refine x_aloadn (x := 31) rfl rfl ?_
                                refine x_bipush (v := (-5)) rfl kb_m5 ?_
                                refine x_inv (N := m_X11_refuse) (As := [.int (-5)]) (b := 31) (st := []) (dx9 := 7) (mc := 0) (ms := 0) (host := "") 11 rfl t_X11_refuse ⟨Or.inl q_11_206, i_X11_refuse.1, i_X11_refuse.2⟩ ⟨by decide, rfl⟩ (congrArg Prod.fst (J.1.1 31 (11, 13) rfl)) rfl (by decide) rfl rfl ⟨by decide, by decide⟩ (jC.of rfl k_X11_refuse rfl ?_)
                                show jX m_X11_refuse 7 0 0 0 [(0, .ref 31), (1, .int (-5))] [] _ 0 0 _
                                refine x_aloadn (x := 31) rfl rfl ?_
                                refine x_iloadn (x := (-5)) rfl rfl ?_
                                refine z_putI (N := 13) (w := (-5)) 11 12 rfl f_11_94 rfl (jfin_no TX11 RX11 13 rfl rfl) hD J Sm rfl rfl jk_m5 (pw_31_12 (by omega)) rfl (fun h w121 J Sm => ?_)
                                rw [vwf w121 (show (-5) = ((-5) : Int32).toInt from by have := jk_m5; omega)] at D
                                refine x_iloadn (x := (-5)) rfl rfl ?_
                                refine x_iret rfl rfl ?_
                                show jX m_X11_together 8 0 0 85 [(0, .ref 31), (1, .int a1), (2, .int a2), (3, .int a3)] [.int (-5)] _ 0 0 _
                                refine x_iret rfl rfl ?_
                                exact hQ _ _ (jr_of jk_m5 (by omega)) J Sm ((congrArg Prod.fst D).symm.trans (show (-5) = ((-5) : Int32).toInt from by have := jk_m5; omega)) (congrArg Prod.snd D).symm
                            ·
                              rw [if_pos (by omega)] at D
                              refine x_aloadn (x := 31) rfl rfl ?_
                              refine x_bipush (v := (-4)) rfl kb_m4 ?_
                              refine x_inv (N := m_X11_refuse) (As := [.int (-4)]) (b := 31) (st := []) (dx9 := 7) (mc := 0) (ms := 0) (host := "") 11 rfl t_X11_refuse ⟨Or.inl q_11_206, i_X11_refuse.1, i_X11_refuse.2⟩ ⟨by decide, rfl⟩ (congrArg Prod.fst (J.1.1 31 (11, 13) rfl)) rfl (by decide) rfl rfl ⟨by decide, by decide⟩ (jC.of rfl k_X11_refuse rfl ?_)
                              show jX m_X11_refuse 7 0 0 0 [(0, .ref 31), (1, .int (-4))] [] _ 0 0 _
                              refine x_aloadn (x := 31) rfl rfl ?_
                              refine x_iloadn (x := (-4)) rfl rfl ?_
                              refine z_putI (N := 13) (w := (-4)) 11 12 rfl f_11_94 rfl (jfin_no TX11 RX11 13 rfl rfl) hD J Sm rfl rfl jk_m4 (pw_31_12 (by omega)) rfl (fun h w122 J Sm => ?_)
                              rw [vwf w122 (show (-4) = ((-4) : Int32).toInt from by have := jk_m4; omega)] at D
                              refine x_iloadn (x := (-4)) rfl rfl ?_
                              refine x_iret rfl rfl ?_
                              show jX m_X11_together 8 0 0 65 [(0, .ref 31), (1, .int a1), (2, .int a2), (3, .int a3)] [.int (-4)] _ 0 0 _
                              refine x_iret rfl rfl ?_
                              exact hQ _ _ (jr_of jk_m4 (by omega)) J Sm ((congrArg Prod.fst D).symm.trans (show (-4) = ((-4) : Int32).toInt from by have := jk_m4; omega)) (congrArg Prod.snd D).symm
  ·
    rw [if_neg (by omega)] at D
    refine x_aloadn (x := 31) rfl rfl ?_
    refine x_iconst (v := (-1)) rfl ki_m1 ?_
    refine x_inv (N := m_X11_refuse) (As := [.int (-1)]) (b := 31) (st := []) (dx9 := 7) (mc := 0) (ms := 0) (host := "") 11 rfl t_X11_refuse ⟨Or.inl q_11_206, i_X11_refuse.1, i_X11_refuse.2⟩ ⟨by decide, rfl⟩ (congrArg Prod.fst (J.1.1 31 (11, 13) rfl)) rfl (by decide) rfl rfl ⟨by decide, by decide⟩ (jC.of rfl k_X11_refuse rfl ?_)
    show jX m_X11_refuse 7 0 0 0 [(0, .ref 31), (1, .int (-1))] [] _ 0 0 _
    refine x_aloadn (x := 31) rfl rfl ?_
    refine x_iloadn (x := (-1)) rfl rfl ?_
    refine z_putI (N := 13) (w := (-1)) 11 12 rfl f_11_94 rfl (jfin_no TX11 RX11 13 rfl rfl) hD J Sm rfl rfl jk_m1 (pw_31_12 (by omega)) rfl (fun h w123 J Sm => ?_)
    rw [vwf w123 (show (-1) = ((-1) : Int32).toInt from by have := jk_m1; omega)] at D
    refine x_iloadn (x := (-1)) rfl rfl ?_
    refine x_iret rfl rfl ?_
    show jX m_X11_together 8 0 0 12 [(0, .ref 31), (1, .int a1), (2, .int a2), (3, .int a3)] [.int (-1)] _ 0 0 _
    refine x_iret rfl rfl ?_
    exact hQ _ _ (jr_of jk_m1 (by omega)) J Sm ((congrArg Prod.fst D).symm.trans (show (-1) = ((-1) : Int32).toInt from by have := jk_m1; omega)) (congrArg Prod.snd D).symm
def fp_X8_put_r41_c0d : jFp := [(42, 0, 80)]
set_option maxRecDepth 100000 in
set_option maxHeartbeats 4000000 in
theorem ct_X8_put_r41_c0d_38 {Dy : jH → Prop} {h0 : jH} {Q : Option Value → jH → Prop} {dr : jW} (hD : jDk Dy) (hQ : ∀ hx9, jJ jSgX Dy hx9 → jSm fp_X8_put_r41_c0d h0 hx9 → dr = vw hx9 → Q none hx9) : ∀ (h : jH), jJ jSgX Dy h → jSm fp_X8_put_r41_c0d h0 h → d_X8_put_r41_c0d_38  (vw h) = dr → jX m_X8_put 1 0 0 38 [] [] h 0 0 Q := by
  intro  h    J Sm D
  unfold d_X8_put_r41_c0d_38 at D
  refine x_vret rfl rfl ?_
  exact hQ _ J Sm D.symm
set_option maxRecDepth 100000 in
set_option maxHeartbeats 4000000 in
theorem sf_X8_put_r41_c0d {Dy : jH → Prop} {h : jH} {Q : Option Value → jH → Prop} {dr : jW} {a1 : Int32} {a3 : Int32} (y1 : 0 ≤ a1.toInt ∧ a1.toInt ≤ 19) (y3 : 0 ≤ a3.toInt ∧ a3.toInt ≤ 146399) (hD : jDk Dy) (J : jJ jSgX Dy h) (D : d_X8_put_r41_c0d a1.toInt a3.toInt (vw h) = dr) (hQ : ∀ hx9, jJ jSgX Dy hx9 → jSm fp_X8_put_r41_c0d h hx9 → dr = vw hx9 → Q none hx9) : jC m_X8_put 1 0 0 [.ref 41, .int a1, .int 0, .int a3] h Q := by
  refine jC.of rfl k_X8_put rfl ?_
  have Sm := jSm_rf fp_X8_put_r41_c0d h
  show jX m_X8_put 1 0 0 0 [(0, .ref 41), (1, .int a1), (2, .int 0), (3, .int a3)] [] _ 0 0 _
  unfold d_X8_put_r41_c0d at D
  refine x_iloadn (x := a1) rfl rfl ?_
  refine x_iflt (tgt := 38) rfl rfl (ti_lt rfl jk_0 (br_f (by omega) ?_))
  refine x_iloadn (x := a1) rfl rfl ?_
  refine x_aloadn (x := 41) rfl rfl ?_
  refine z_getI (N := 4) 8 3 rfl f_8_7 rfl J rfl sg_41_3_4_1_0_1 (fun v1 qv1 ev1 => ?_)
  try rw [vrf qv1] at D
  refine x_icge (tgt := 38) rfl rfl (ti_ge rfl rfl ⟨fun c2 => ?_, fun c2 => ?_⟩)
  ·
    rw [if_pos (by omega)] at D
    exact jX.sub jsb_n (ct_X8_put_r41_c0d_38 hD hQ  h J Sm D)
  ·
    rw [if_neg (by omega)] at D
    refine x_iloadn (x := 0) rfl rfl ?_
    refine x_iflt (tgt := 38) rfl rfl (ti_lt jk_0 jk_0 (br_f (by omega) ?_))
    refine x_iloadn (x := 0) rfl rfl ?_
    refine x_aloadn (x := 41) rfl rfl ?_
    refine z_getC (N := 4) (v := 4) 8 0 rfl f_8_19 rfl J rfl sg_41_0_1_1_0_1 jk_4 ?_
    refine x_icge (tgt := 38) rfl rfl (ti_ge jk_0 jk_4 (br_f (by omega) ?_))
    refine x_aloadn (x := 41) rfl rfl ?_
    refine z_getR (N := 4) (b := 42) 8 2 rfl f_8_25 rfl J rfl 5250 ⟨rfl, rfl⟩ rfl ?_
    refine x_iloadn (x := a1) rfl rfl ?_
    refine x_aloadn (x := 41) rfl rfl ?_
    refine z_getC (N := 4) (v := 4) 8 0 rfl f_8_19 rfl J rfl sg_41_0_1_1_0_1 jk_4 ?_
    refine z_imul rfl rfl jk_4 (by omega) (fun v3 ev3 => ?_)
    refine x_iloadn (x := 0) rfl rfl ?_
    refine z_iadd rfl rfl jk_0 (by omega) (fun v4 ev4 => ?_)
    refine x_iloadn (x := a3) rfl rfl ?_
    refine z_iast (N := 80) (l := 0) (u := 80) (w := a3.toInt) rfl hD J Sm rfl rfl rfl (by omega) rfl (wr_42 (fun q1 q2 q3 q4 => by omega) (fun q1 q2 q3 q4 => by omega) (fun q1 q2 q3 q4 => by omega) (fun q1 q2 q3 q4 => by omega)) rfl (fun h w5 J Sm => ?_)
    rw [vww w5 (show ((a1.toInt * 4) + 0) = v4.toInt from by omega) (show a3.toInt = a3.toInt from by omega)] at D
    exact jX.sub jsb_n (ct_X8_put_r41_c0d_38 hD hQ  h J Sm D)
def fp_X8_put_r41_c1d : jFp := [(42, 0, 80)]
set_option maxRecDepth 100000 in
set_option maxHeartbeats 4000000 in
theorem ct_X8_put_r41_c1d_38 {Dy : jH → Prop} {h0 : jH} {Q : Option Value → jH → Prop} {dr : jW} (hD : jDk Dy) (hQ : ∀ hx9, jJ jSgX Dy hx9 → jSm fp_X8_put_r41_c1d h0 hx9 → dr = vw hx9 → Q none hx9) : ∀ (h : jH), jJ jSgX Dy h → jSm fp_X8_put_r41_c1d h0 h → d_X8_put_r41_c1d_38  (vw h) = dr → jX m_X8_put 1 0 0 38 [] [] h 0 0 Q := by
  intro  h    J Sm D
  unfold d_X8_put_r41_c1d_38 at D
  refine x_vret rfl rfl ?_
  exact hQ _ J Sm D.symm
set_option maxRecDepth 100000 in
set_option maxHeartbeats 4000000 in
theorem sf_X8_put_r41_c1d {Dy : jH → Prop} {h : jH} {Q : Option Value → jH → Prop} {dr : jW} {a1 : Int32} {a3 : Int32} (y1 : 0 ≤ a1.toInt ∧ a1.toInt ≤ 19) (y3 : 0 ≤ a3.toInt ∧ a3.toInt ≤ 146399) (hD : jDk Dy) (J : jJ jSgX Dy h) (D : d_X8_put_r41_c1d a1.toInt a3.toInt (vw h) = dr) (hQ : ∀ hx9, jJ jSgX Dy hx9 → jSm fp_X8_put_r41_c1d h hx9 → dr = vw hx9 → Q none hx9) : jC m_X8_put 1 0 0 [.ref 41, .int a1, .int 1, .int a3] h Q := by
  refine jC.of rfl k_X8_put rfl ?_
  have Sm := jSm_rf fp_X8_put_r41_c1d h
  show jX m_X8_put 1 0 0 0 [(0, .ref 41), (1, .int a1), (2, .int 1), (3, .int a3)] [] _ 0 0 _
  unfold d_X8_put_r41_c1d at D
  refine x_iloadn (x := a1) rfl rfl ?_
  refine x_iflt (tgt := 38) rfl rfl (ti_lt rfl jk_0 (br_f (by omega) ?_))
  refine x_iloadn (x := a1) rfl rfl ?_
  refine x_aloadn (x := 41) rfl rfl ?_
  refine z_getI (N := 4) 8 3 rfl f_8_7 rfl J rfl sg_41_3_4_1_0_1 (fun v1 qv1 ev1 => ?_)
  try rw [vrf qv1] at D
  refine x_icge (tgt := 38) rfl rfl (ti_ge rfl rfl ⟨fun c2 => ?_, fun c2 => ?_⟩)
  ·
    rw [if_pos (by omega)] at D
    exact jX.sub jsb_n (ct_X8_put_r41_c1d_38 hD hQ  h J Sm D)
  ·
    rw [if_neg (by omega)] at D
    refine x_iloadn (x := 1) rfl rfl ?_
    refine x_iflt (tgt := 38) rfl rfl (ti_lt jk_1 jk_0 (br_f (by omega) ?_))
    refine x_iloadn (x := 1) rfl rfl ?_
    refine x_aloadn (x := 41) rfl rfl ?_
    refine z_getC (N := 4) (v := 4) 8 0 rfl f_8_19 rfl J rfl sg_41_0_1_1_0_1 jk_4 ?_
    refine x_icge (tgt := 38) rfl rfl (ti_ge jk_1 jk_4 (br_f (by omega) ?_))
    refine x_aloadn (x := 41) rfl rfl ?_
    refine z_getR (N := 4) (b := 42) 8 2 rfl f_8_25 rfl J rfl 5250 ⟨rfl, rfl⟩ rfl ?_
    refine x_iloadn (x := a1) rfl rfl ?_
    refine x_aloadn (x := 41) rfl rfl ?_
    refine z_getC (N := 4) (v := 4) 8 0 rfl f_8_19 rfl J rfl sg_41_0_1_1_0_1 jk_4 ?_
    refine z_imul rfl rfl jk_4 (by omega) (fun v3 ev3 => ?_)
    refine x_iloadn (x := 1) rfl rfl ?_
    refine z_iadd rfl rfl jk_1 (by omega) (fun v4 ev4 => ?_)
    refine x_iloadn (x := a3) rfl rfl ?_
    refine z_iast (N := 80) (l := 0) (u := 80) (w := a3.toInt) rfl hD J Sm rfl rfl rfl (by omega) rfl (wr_42 (fun q1 q2 q3 q4 => by omega) (fun q1 q2 q3 q4 => by omega) (fun q1 q2 q3 q4 => by omega) (fun q1 q2 q3 q4 => by omega)) rfl (fun h w5 J Sm => ?_)
    rw [vww w5 (show ((a1.toInt * 4) + 1) = v4.toInt from by omega) (show a3.toInt = a3.toInt from by omega)] at D
    exact jX.sub jsb_n (ct_X8_put_r41_c1d_38 hD hQ  h J Sm D)
def fp_X8_put_r41_c2d : jFp := [(42, 0, 80)]
set_option maxRecDepth 100000 in
set_option maxHeartbeats 4000000 in
theorem ct_X8_put_r41_c2d_38 {Dy : jH → Prop} {h0 : jH} {Q : Option Value → jH → Prop} {dr : jW} (hD : jDk Dy) (hQ : ∀ hx9, jJ jSgX Dy hx9 → jSm fp_X8_put_r41_c2d h0 hx9 → dr = vw hx9 → Q none hx9) : ∀ (h : jH), jJ jSgX Dy h → jSm fp_X8_put_r41_c2d h0 h → d_X8_put_r41_c2d_38  (vw h) = dr → jX m_X8_put 1 0 0 38 [] [] h 0 0 Q := by
  intro  h    J Sm D
  unfold d_X8_put_r41_c2d_38 at D
  refine x_vret rfl rfl ?_
  exact hQ _ J Sm D.symm
set_option maxRecDepth 100000 in
set_option maxHeartbeats 4000000 in
theorem sf_X8_put_r41_c2d {Dy : jH → Prop} {h : jH} {Q : Option Value → jH → Prop} {dr : jW} {a1 : Int32} {a3 : Int32} (y1 : 0 ≤ a1.toInt ∧ a1.toInt ≤ 19) (y3 : 0 ≤ a3.toInt ∧ a3.toInt ≤ 146399) (hD : jDk Dy) (J : jJ jSgX Dy h) (D : d_X8_put_r41_c2d a1.toInt a3.toInt (vw h) = dr) (hQ : ∀ hx9, jJ jSgX Dy hx9 → jSm fp_X8_put_r41_c2d h hx9 → dr = vw hx9 → Q none hx9) : jC m_X8_put 1 0 0 [.ref 41, .int a1, .int 2, .int a3] h Q := by
  refine jC.of rfl k_X8_put rfl ?_
  have Sm := jSm_rf fp_X8_put_r41_c2d h
  show jX m_X8_put 1 0 0 0 [(0, .ref 41), (1, .int a1), (2, .int 2), (3, .int a3)] [] _ 0 0 _
  unfold d_X8_put_r41_c2d at D
  refine x_iloadn (x := a1) rfl rfl ?_
  refine x_iflt (tgt := 38) rfl rfl (ti_lt rfl jk_0 (br_f (by omega) ?_))
  refine x_iloadn (x := a1) rfl rfl ?_
  refine x_aloadn (x := 41) rfl rfl ?_
  refine z_getI (N := 4) 8 3 rfl f_8_7 rfl J rfl sg_41_3_4_1_0_1 (fun v1 qv1 ev1 => ?_)
  try rw [vrf qv1] at D
  refine x_icge (tgt := 38) rfl rfl (ti_ge rfl rfl ⟨fun c2 => ?_, fun c2 => ?_⟩)
  ·
    rw [if_pos (by omega)] at D
    exact jX.sub jsb_n (ct_X8_put_r41_c2d_38 hD hQ  h J Sm D)
  ·
    rw [if_neg (by omega)] at D
    refine x_iloadn (x := 2) rfl rfl ?_
    refine x_iflt (tgt := 38) rfl rfl (ti_lt jk_2 jk_0 (br_f (by omega) ?_))
    refine x_iloadn (x := 2) rfl rfl ?_
    refine x_aloadn (x := 41) rfl rfl ?_
    refine z_getC (N := 4) (v := 4) 8 0 rfl f_8_19 rfl J rfl sg_41_0_1_1_0_1 jk_4 ?_
    refine x_icge (tgt := 38) rfl rfl (ti_ge jk_2 jk_4 (br_f (by omega) ?_))
    refine x_aloadn (x := 41) rfl rfl ?_
    refine z_getR (N := 4) (b := 42) 8 2 rfl f_8_25 rfl J rfl 5250 ⟨rfl, rfl⟩ rfl ?_
    refine x_iloadn (x := a1) rfl rfl ?_
    refine x_aloadn (x := 41) rfl rfl ?_
    refine z_getC (N := 4) (v := 4) 8 0 rfl f_8_19 rfl J rfl sg_41_0_1_1_0_1 jk_4 ?_
    refine z_imul rfl rfl jk_4 (by omega) (fun v3 ev3 => ?_)
    refine x_iloadn (x := 2) rfl rfl ?_
    refine z_iadd rfl rfl jk_2 (by omega) (fun v4 ev4 => ?_)
    refine x_iloadn (x := a3) rfl rfl ?_
    refine z_iast (N := 80) (l := 0) (u := 80) (w := a3.toInt) rfl hD J Sm rfl rfl rfl (by omega) rfl (wr_42 (fun q1 q2 q3 q4 => by omega) (fun q1 q2 q3 q4 => by omega) (fun q1 q2 q3 q4 => by omega) (fun q1 q2 q3 q4 => by omega)) rfl (fun h w5 J Sm => ?_)
    rw [vww w5 (show ((a1.toInt * 4) + 2) = v4.toInt from by omega) (show a3.toInt = a3.toInt from by omega)] at D
    exact jX.sub jsb_n (ct_X8_put_r41_c2d_38 hD hQ  h J Sm D)
def fp_X8_put_r41_c3d : jFp := [(42, 0, 80)]
set_option maxRecDepth 100000 in
set_option maxHeartbeats 4000000 in
theorem ct_X8_put_r41_c3d_38 {Dy : jH → Prop} {h0 : jH} {Q : Option Value → jH → Prop} {dr : jW} (hD : jDk Dy) (hQ : ∀ hx9, jJ jSgX Dy hx9 → jSm fp_X8_put_r41_c3d h0 hx9 → dr = vw hx9 → Q none hx9) : ∀ (h : jH), jJ jSgX Dy h → jSm fp_X8_put_r41_c3d h0 h → d_X8_put_r41_c3d_38  (vw h) = dr → jX m_X8_put 1 0 0 38 [] [] h 0 0 Q := by
  intro  h    J Sm D
  unfold d_X8_put_r41_c3d_38 at D
  refine x_vret rfl rfl ?_
  exact hQ _ J Sm D.symm
set_option maxRecDepth 100000 in
set_option maxHeartbeats 4000000 in
theorem sf_X8_put_r41_c3d {Dy : jH → Prop} {h : jH} {Q : Option Value → jH → Prop} {dr : jW} {a1 : Int32} {a3 : Int32} (y1 : 0 ≤ a1.toInt ∧ a1.toInt ≤ 19) (y3 : 0 ≤ a3.toInt ∧ a3.toInt ≤ 5) (hD : jDk Dy) (J : jJ jSgX Dy h) (D : d_X8_put_r41_c3d a1.toInt a3.toInt (vw h) = dr) (hQ : ∀ hx9, jJ jSgX Dy hx9 → jSm fp_X8_put_r41_c3d h hx9 → dr = vw hx9 → Q none hx9) : jC m_X8_put 1 0 0 [.ref 41, .int a1, .int 3, .int a3] h Q := by
  refine jC.of rfl k_X8_put rfl ?_
  have Sm := jSm_rf fp_X8_put_r41_c3d h
  show jX m_X8_put 1 0 0 0 [(0, .ref 41), (1, .int a1), (2, .int 3), (3, .int a3)] [] _ 0 0 _
  unfold d_X8_put_r41_c3d at D
  refine x_iloadn (x := a1) rfl rfl ?_
  refine x_iflt (tgt := 38) rfl rfl (ti_lt rfl jk_0 (br_f (by omega) ?_))
  refine x_iloadn (x := a1) rfl rfl ?_
  refine x_aloadn (x := 41) rfl rfl ?_
  refine z_getI (N := 4) 8 3 rfl f_8_7 rfl J rfl sg_41_3_4_1_0_1 (fun v1 qv1 ev1 => ?_)
  try rw [vrf qv1] at D
  refine x_icge (tgt := 38) rfl rfl (ti_ge rfl rfl ⟨fun c2 => ?_, fun c2 => ?_⟩)
  ·
    rw [if_pos (by omega)] at D
    exact jX.sub jsb_n (ct_X8_put_r41_c3d_38 hD hQ  h J Sm D)
  ·
    rw [if_neg (by omega)] at D
    refine x_iloadn (x := 3) rfl rfl ?_
    refine x_iflt (tgt := 38) rfl rfl (ti_lt jk_3 jk_0 (br_f (by omega) ?_))
    refine x_iloadn (x := 3) rfl rfl ?_
    refine x_aloadn (x := 41) rfl rfl ?_
    refine z_getC (N := 4) (v := 4) 8 0 rfl f_8_19 rfl J rfl sg_41_0_1_1_0_1 jk_4 ?_
    refine x_icge (tgt := 38) rfl rfl (ti_ge jk_3 jk_4 (br_f (by omega) ?_))
    refine x_aloadn (x := 41) rfl rfl ?_
    refine z_getR (N := 4) (b := 42) 8 2 rfl f_8_25 rfl J rfl 5250 ⟨rfl, rfl⟩ rfl ?_
    refine x_iloadn (x := a1) rfl rfl ?_
    refine x_aloadn (x := 41) rfl rfl ?_
    refine z_getC (N := 4) (v := 4) 8 0 rfl f_8_19 rfl J rfl sg_41_0_1_1_0_1 jk_4 ?_
    refine z_imul rfl rfl jk_4 (by omega) (fun v3 ev3 => ?_)
    refine x_iloadn (x := 3) rfl rfl ?_
    refine z_iadd rfl rfl jk_3 (by omega) (fun v4 ev4 => ?_)
    refine x_iloadn (x := a3) rfl rfl ?_
    refine z_iast (N := 80) (l := 0) (u := 80) (w := a3.toInt) rfl hD J Sm rfl rfl rfl (by omega) rfl (wr_42 (fun q1 q2 q3 q4 => by omega) (fun q1 q2 q3 q4 => by omega) (fun q1 q2 q3 q4 => by omega) (fun q1 q2 q3 q4 => by omega)) rfl (fun h w5 J Sm => ?_)
    rw [vww w5 (show ((a1.toInt * 4) + 3) = v4.toInt from by omega) (show a3.toInt = a3.toInt from by omega)] at D
    exact jX.sub jsb_n (ct_X8_put_r41_c3d_38 hD hQ  h J Sm D)
def fp_X8_put_r41_c4d : jFp := []
set_option maxRecDepth 100000 in
set_option maxHeartbeats 4000000 in
theorem ct_X8_put_r41_c4d_38 {Dy : jH → Prop} {h0 : jH} {Q : Option Value → jH → Prop} {dr : jW} (hD : jDk Dy) (hQ : ∀ hx9, jJ jSgX Dy hx9 → jSm fp_X8_put_r41_c4d h0 hx9 → dr = vw hx9 → Q none hx9) : ∀ (h : jH), jJ jSgX Dy h → jSm fp_X8_put_r41_c4d h0 h → d_X8_put_r41_c4d_38  (vw h) = dr → jX m_X8_put 1 0 0 38 [] [] h 0 0 Q := by
  intro  h    J Sm D
  unfold d_X8_put_r41_c4d_38 at D
  refine x_vret rfl rfl ?_
  exact hQ _ J Sm D.symm
set_option maxRecDepth 100000 in
set_option maxHeartbeats 4000000 in
theorem sf_X8_put_r41_c4d {Dy : jH → Prop} {h : jH} {Q : Option Value → jH → Prop} {dr : jW} {a1 : Int32} {a3 : Int32} (y1 : 0 ≤ a1.toInt ∧ a1.toInt ≤ 19) (y3 : 0 ≤ a3.toInt ∧ a3.toInt ≤ 0) (hD : jDk Dy) (J : jJ jSgX Dy h) (D : d_X8_put_r41_c4d a1.toInt a3.toInt (vw h) = dr) (hQ : ∀ hx9, jJ jSgX Dy hx9 → jSm fp_X8_put_r41_c4d h hx9 → dr = vw hx9 → Q none hx9) : jC m_X8_put 1 0 0 [.ref 41, .int a1, .int 4, .int a3] h Q := by
  refine jC.of rfl k_X8_put rfl ?_
  have Sm := jSm_rf fp_X8_put_r41_c4d h
  show jX m_X8_put 1 0 0 0 [(0, .ref 41), (1, .int a1), (2, .int 4), (3, .int a3)] [] _ 0 0 _
  unfold d_X8_put_r41_c4d at D
  refine x_iloadn (x := a1) rfl rfl ?_
  refine x_iflt (tgt := 38) rfl rfl (ti_lt rfl jk_0 (br_f (by omega) ?_))
  refine x_iloadn (x := a1) rfl rfl ?_
  refine x_aloadn (x := 41) rfl rfl ?_
  refine z_getI (N := 4) 8 3 rfl f_8_7 rfl J rfl sg_41_3_4_1_0_1 (fun v1 qv1 ev1 => ?_)
  try rw [vrf qv1] at D
  refine x_icge (tgt := 38) rfl rfl (ti_ge rfl rfl ⟨fun c2 => ?_, fun c2 => ?_⟩)
  ·
    rw [if_pos (by omega)] at D
    exact jX.sub jsb_n (ct_X8_put_r41_c4d_38 hD hQ  h J Sm D)
  ·
    rw [if_neg (by omega)] at D
    refine x_iloadn (x := 4) rfl rfl ?_
    refine x_iflt (tgt := 38) rfl rfl (ti_lt jk_4 jk_0 (br_f (by omega) ?_))
    refine x_iloadn (x := 4) rfl rfl ?_
    refine x_aloadn (x := 41) rfl rfl ?_
    refine z_getC (N := 4) (v := 4) 8 0 rfl f_8_19 rfl J rfl sg_41_0_1_1_0_1 jk_4 ?_
    refine x_icge (tgt := 38) rfl rfl (ti_ge jk_4 jk_4 (br_t (by omega) ?_))
    exact jX.sub jsb_n (ct_X8_put_r41_c4d_38 hD hQ  h J Sm D)
def fp_X8_put_r41_c5d : jFp := []
set_option maxRecDepth 100000 in
set_option maxHeartbeats 4000000 in
theorem ct_X8_put_r41_c5d_38 {Dy : jH → Prop} {h0 : jH} {Q : Option Value → jH → Prop} {dr : jW} (hD : jDk Dy) (hQ : ∀ hx9, jJ jSgX Dy hx9 → jSm fp_X8_put_r41_c5d h0 hx9 → dr = vw hx9 → Q none hx9) : ∀ (h : jH), jJ jSgX Dy h → jSm fp_X8_put_r41_c5d h0 h → d_X8_put_r41_c5d_38  (vw h) = dr → jX m_X8_put 1 0 0 38 [] [] h 0 0 Q := by
  intro  h    J Sm D
  unfold d_X8_put_r41_c5d_38 at D
  refine x_vret rfl rfl ?_
  exact hQ _ J Sm D.symm
set_option maxRecDepth 100000 in
set_option maxHeartbeats 4000000 in
theorem sf_X8_put_r41_c5d {Dy : jH → Prop} {h : jH} {Q : Option Value → jH → Prop} {dr : jW} {a1 : Int32} {a3 : Int32} (y1 : 0 ≤ a1.toInt ∧ a1.toInt ≤ 19) (y3 : 0 ≤ a3.toInt ∧ a3.toInt ≤ 0) (hD : jDk Dy) (J : jJ jSgX Dy h) (D : d_X8_put_r41_c5d a1.toInt a3.toInt (vw h) = dr) (hQ : ∀ hx9, jJ jSgX Dy hx9 → jSm fp_X8_put_r41_c5d h hx9 → dr = vw hx9 → Q none hx9) : jC m_X8_put 1 0 0 [.ref 41, .int a1, .int 5, .int a3] h Q := by
  refine jC.of rfl k_X8_put rfl ?_
  have Sm := jSm_rf fp_X8_put_r41_c5d h
  show jX m_X8_put 1 0 0 0 [(0, .ref 41), (1, .int a1), (2, .int 5), (3, .int a3)] [] _ 0 0 _
  unfold d_X8_put_r41_c5d at D
  refine x_iloadn (x := a1) rfl rfl ?_
  refine x_iflt (tgt := 38) rfl rfl (ti_lt rfl jk_0 (br_f (by omega) ?_))
  refine x_iloadn (x := a1) rfl rfl ?_
  refine x_aloadn (x := 41) rfl rfl ?_
  refine z_getI (N := 4) 8 3 rfl f_8_7 rfl J rfl sg_41_3_4_1_0_1 (fun v1 qv1 ev1 => ?_)
  try rw [vrf qv1] at D
  refine x_icge (tgt := 38) rfl rfl (ti_ge rfl rfl ⟨fun c2 => ?_, fun c2 => ?_⟩)
  ·
    rw [if_pos (by omega)] at D
    exact jX.sub jsb_n (ct_X8_put_r41_c5d_38 hD hQ  h J Sm D)
  ·
    rw [if_neg (by omega)] at D
    refine x_iloadn (x := 5) rfl rfl ?_
    refine x_iflt (tgt := 38) rfl rfl (ti_lt jk_5 jk_0 (br_f (by omega) ?_))
    refine x_iloadn (x := 5) rfl rfl ?_
    refine x_aloadn (x := 41) rfl rfl ?_
    refine z_getC (N := 4) (v := 4) 8 0 rfl f_8_19 rfl J rfl sg_41_0_1_1_0_1 jk_4 ?_
    refine x_icge (tgt := 38) rfl rfl (ti_ge jk_5 jk_4 (br_t (by omega) ?_))
    exact jX.sub jsb_n (ct_X8_put_r41_c5d_38 hD hQ  h J Sm D)
def fp_X8_add_r41d : jFp := [(41, 3, 4), (42, 0, 80)]
set_option maxRecDepth 100000 in
set_option maxHeartbeats 4000000 in
theorem sf_X8_add_r41d {Dy : jH → Prop} {h : jH} {Q : Option Value → jH → Prop} {dr : jW} {a1 : Int32} {a2 : Int32} {a3 : Int32} {a4 : Int32} {a5 : Int32} {a6 : Int32} (y1 : 0 ≤ a1.toInt ∧ a1.toInt ≤ 146399) (y2 : 0 ≤ a2.toInt ∧ a2.toInt ≤ 146399) (y3 : 0 ≤ a3.toInt ∧ a3.toInt ≤ 146399) (y4 : 0 ≤ a4.toInt ∧ a4.toInt ≤ 5) (y5 : 0 ≤ a5.toInt ∧ a5.toInt ≤ 0) (y6 : 0 ≤ a6.toInt ∧ a6.toInt ≤ 0) (hD : jDk Dy) (J : jJ jSgX Dy h) (D : d_X8_add_r41d a1.toInt a2.toInt a3.toInt a4.toInt a5.toInt a6.toInt (vw h) = dr) (hQ : ∀ hx9, jJ jSgX Dy hx9 → jSm fp_X8_add_r41d h hx9 → dr = vw hx9 → Q none hx9) : jC m_X8_add 2 0 0 [.ref 41, .int a1, .int a2, .int a3, .int a4, .int a5, .int a6] h Q := by
  refine jC.of rfl k_X8_add rfl ?_
  have Sm := jSm_rf fp_X8_add_r41d h
  show jX m_X8_add 2 0 0 0 [(0, .ref 41), (1, .int a1), (2, .int a2), (3, .int a3), (4, .int a4), (5, .int a5), (6, .int a6)] [] _ 0 0 _
  unfold d_X8_add_r41d at D
  refine x_aloadn (x := 41) rfl rfl ?_
  refine z_getI (N := 4) 8 3 rfl f_8_7 rfl J rfl sg_41_3_4_1_0_1 (fun v1 qv1 ev1 => ?_)
  try rw [vrf qv1] at D
  refine x_aloadn (x := 41) rfl rfl ?_
  refine z_getC (N := 4) (v := 20) 8 1 rfl f_8_22 rfl J rfl sg_41_1_2_1_0_1 jk_20 ?_
  refine x_iclt (tgt := 12) rfl rfl (ti_lt rfl jk_20 ⟨fun c2 => ?_, fun c2 => ?_⟩)
  ·
    rw [if_pos (by omega)] at D
    refine x_aloadn (x := 41) rfl rfl ?_
    refine z_getM (N := 4) (v := v1) 8 3 rfl f_8_7 rfl J rfl qv1 ?_
    refine x_istore (lsx9 := [(7, .int v1), (0, .ref 41), (1, .int a1), (2, .int a2), (3, .int a3), (4, .int a4), (5, .int a5), (6, .int a6)]) rfl rfl rfl ?_
    refine x_aloadn (x := 41) rfl rfl ?_
    refine x_iload (x := v1) rfl rfl ?_
    refine x_iconst (v := 1) rfl ki_1 ?_
    refine z_iadd rfl rfl jk_1 (by omega) (fun v3 ev3 => ?_)
    refine z_putI (N := 4) (w := v3.toInt) 8 3 rfl f_8_7 rfl (jfin_no TX8 RX8 4 rfl rfl) hD J Sm rfl rfl rfl (pw_41_3 (by omega)) rfl (fun h w4 J Sm => ?_)
    rw [vwf w4 (show (v1.toInt + 1) = v3.toInt from by omega)] at D
    refine x_aloadn (x := 41) rfl rfl ?_
    refine x_iload (x := v1) rfl rfl ?_
    refine x_iconst (v := 0) rfl ki_0 ?_
    refine x_iloadn (x := a1) rfl rfl ?_
    refine x_inv (N := m_X8_put) (As := [.int v1, .int 0, .int a1]) (b := 41) (st := []) (dx9 := 1) (mc := 0) (ms := 0) (host := "") 8 rfl t_X8_put ⟨Or.inl q_8_29, i_X8_put.1, i_X8_put.2⟩ ⟨by decide, rfl⟩ (congrArg Prod.fst (J.1.1 41 (8, 4) rfl)) rfl (by decide) rfl rfl ⟨by decide, by decide⟩ (sf_X8_put_r41_c0d (jr_of rfl (by omega)) (jr_of rfl (by omega)) hD J rfl  (fun h J S5 X6 => ?_))
    have Sm := jSm_tr rfl Sm S5
    rw [X6] at D
    show jX m_X8_add 2 0 0 34 [(7, .int v1), (0, .ref 41), (1, .int a1), (2, .int a2), (3, .int a3), (4, .int a4), (5, .int a5), (6, .int a6)] [] _ 0 0 _
    refine x_aloadn (x := 41) rfl rfl ?_
    refine x_iload (x := v1) rfl rfl ?_
    refine x_iconst (v := 1) rfl ki_1 ?_
    refine x_iloadn (x := a2) rfl rfl ?_
    refine x_inv (N := m_X8_put) (As := [.int v1, .int 1, .int a2]) (b := 41) (st := []) (dx9 := 1) (mc := 0) (ms := 0) (host := "") 8 rfl t_X8_put ⟨Or.inl q_8_29, i_X8_put.1, i_X8_put.2⟩ ⟨by decide, rfl⟩ (congrArg Prod.fst (J.1.1 41 (8, 4) rfl)) rfl (by decide) rfl rfl ⟨by decide, by decide⟩ (sf_X8_put_r41_c1d (jr_of rfl (by omega)) (jr_of rfl (by omega)) hD J rfl  (fun h J S7 X8 => ?_))
    have Sm := jSm_tr rfl Sm S7
    rw [X8] at D
    show jX m_X8_add 2 0 0 42 [(7, .int v1), (0, .ref 41), (1, .int a1), (2, .int a2), (3, .int a3), (4, .int a4), (5, .int a5), (6, .int a6)] [] _ 0 0 _
    refine x_aloadn (x := 41) rfl rfl ?_
    refine x_iload (x := v1) rfl rfl ?_
    refine x_iconst (v := 2) rfl ki_2 ?_
    refine x_iloadn (x := a3) rfl rfl ?_
    refine x_inv (N := m_X8_put) (As := [.int v1, .int 2, .int a3]) (b := 41) (st := []) (dx9 := 1) (mc := 0) (ms := 0) (host := "") 8 rfl t_X8_put ⟨Or.inl q_8_29, i_X8_put.1, i_X8_put.2⟩ ⟨by decide, rfl⟩ (congrArg Prod.fst (J.1.1 41 (8, 4) rfl)) rfl (by decide) rfl rfl ⟨by decide, by decide⟩ (sf_X8_put_r41_c2d (jr_of rfl (by omega)) (jr_of rfl (by omega)) hD J rfl  (fun h J S9 X10 => ?_))
    have Sm := jSm_tr rfl Sm S9
    rw [X10] at D
    show jX m_X8_add 2 0 0 50 [(7, .int v1), (0, .ref 41), (1, .int a1), (2, .int a2), (3, .int a3), (4, .int a4), (5, .int a5), (6, .int a6)] [] _ 0 0 _
    refine x_aloadn (x := 41) rfl rfl ?_
    refine x_iload (x := v1) rfl rfl ?_
    refine x_iconst (v := 3) rfl ki_3 ?_
    refine x_iload (x := a4) rfl rfl ?_
    refine x_inv (N := m_X8_put) (As := [.int v1, .int 3, .int a4]) (b := 41) (st := []) (dx9 := 1) (mc := 0) (ms := 0) (host := "") 8 rfl t_X8_put ⟨Or.inl q_8_29, i_X8_put.1, i_X8_put.2⟩ ⟨by decide, rfl⟩ (congrArg Prod.fst (J.1.1 41 (8, 4) rfl)) rfl (by decide) rfl rfl ⟨by decide, by decide⟩ (sf_X8_put_r41_c3d (jr_of rfl (by omega)) (jr_of rfl (by omega)) hD J rfl  (fun h J S11 X12 => ?_))
    have Sm := jSm_tr rfl Sm S11
    rw [X12] at D
    show jX m_X8_add 2 0 0 59 [(7, .int v1), (0, .ref 41), (1, .int a1), (2, .int a2), (3, .int a3), (4, .int a4), (5, .int a5), (6, .int a6)] [] _ 0 0 _
    refine x_aloadn (x := 41) rfl rfl ?_
    refine x_iload (x := v1) rfl rfl ?_
    refine x_iconst (v := 4) rfl ki_4 ?_
    refine x_iload (x := a5) rfl rfl ?_
    refine x_inv (N := m_X8_put) (As := [.int v1, .int 4, .int a5]) (b := 41) (st := []) (dx9 := 1) (mc := 0) (ms := 0) (host := "") 8 rfl t_X8_put ⟨Or.inl q_8_29, i_X8_put.1, i_X8_put.2⟩ ⟨by decide, rfl⟩ (congrArg Prod.fst (J.1.1 41 (8, 4) rfl)) rfl (by decide) rfl rfl ⟨by decide, by decide⟩ (sf_X8_put_r41_c4d (jr_of rfl (by omega)) (jr_of rfl (by omega)) hD J rfl  (fun h J S13 X14 => ?_))
    have Sm := jSm_tr rfl Sm S13
    rw [X14] at D
    show jX m_X8_add 2 0 0 68 [(7, .int v1), (0, .ref 41), (1, .int a1), (2, .int a2), (3, .int a3), (4, .int a4), (5, .int a5), (6, .int a6)] [] _ 0 0 _
    refine x_aloadn (x := 41) rfl rfl ?_
    refine x_iload (x := v1) rfl rfl ?_
    refine x_iconst (v := 5) rfl ki_5 ?_
    refine x_iload (x := a6) rfl rfl ?_
    refine x_inv (N := m_X8_put) (As := [.int v1, .int 5, .int a6]) (b := 41) (st := []) (dx9 := 1) (mc := 0) (ms := 0) (host := "") 8 rfl t_X8_put ⟨Or.inl q_8_29, i_X8_put.1, i_X8_put.2⟩ ⟨by decide, rfl⟩ (congrArg Prod.fst (J.1.1 41 (8, 4) rfl)) rfl (by decide) rfl rfl ⟨by decide, by decide⟩ (sf_X8_put_r41_c5d (jr_of rfl (by omega)) (jr_of rfl (by omega)) hD J rfl  (fun h J S15 X16 => ?_))
    have Sm := jSm_tr rfl Sm S15
    rw [X16] at D
    show jX m_X8_add 2 0 0 77 [(7, .int v1), (0, .ref 41), (1, .int a1), (2, .int a2), (3, .int a3), (4, .int a4), (5, .int a5), (6, .int a6)] [] _ 0 0 _
    refine x_vret rfl rfl ?_
    exact hQ _ J Sm D.symm
  ·
    rw [if_neg (by omega)] at D
    refine x_vret rfl rfl ?_
    exact hQ _ J Sm D.symm
def fp_X8_isFull_r41d : jFp := []
set_option maxRecDepth 100000 in
set_option maxHeartbeats 4000000 in
theorem ct_X8_isFull_r41d_200016 {Dy : jH → Prop} {h0 : jH} {Q : Option Value → jH → Prop} {dr : Int} (hD : jDk Dy) (hQ : ∀ (v : Int32) hx9, 0 ≤ v.toInt ∧ v.toInt ≤ 1 → jJ jSgX Dy hx9 → jSm fp_X8_isFull_r41d h0 hx9 → dr = v.toInt → vw hx9 = vw h0 → Q (some (.int v)) hx9) : ∀ (h : jH), jJ jSgX Dy h → jSm fp_X8_isFull_r41d h0 h → d_X8_isFull_r41d_200016  (vw h) = dr → vw h = vw h0 → jX m_X8_isFull 1 0 0 16 [] [.int 0] h 0 0 Q := by
  intro  h    J Sm D EV
  unfold d_X8_isFull_r41d_200016 at D
  refine x_zret rfl rfl (by decide) ?_
  exact hQ _ _ (jr_of jk_0 (by omega)) J Sm (D.symm.trans (show 0 = (0 : Int32).toInt from by have := jk_0; omega)) EV
set_option maxRecDepth 100000 in
set_option maxHeartbeats 4000000 in
theorem ct_X8_isFull_r41d_300016 {Dy : jH → Prop} {h0 : jH} {Q : Option Value → jH → Prop} {dr : Int} (hD : jDk Dy) (hQ : ∀ (v : Int32) hx9, 0 ≤ v.toInt ∧ v.toInt ≤ 1 → jJ jSgX Dy hx9 → jSm fp_X8_isFull_r41d h0 hx9 → dr = v.toInt → vw hx9 = vw h0 → Q (some (.int v)) hx9) : ∀ (h : jH), jJ jSgX Dy h → jSm fp_X8_isFull_r41d h0 h → d_X8_isFull_r41d_300016  (vw h) = dr → vw h = vw h0 → jX m_X8_isFull 1 0 0 16 [] [.int 1] h 0 0 Q := by
  intro  h    J Sm D EV
  unfold d_X8_isFull_r41d_300016 at D
  refine x_zret rfl rfl (by decide) ?_
  exact hQ _ _ (jr_of jk_1 (by omega)) J Sm (D.symm.trans (show 1 = (1 : Int32).toInt from by have := jk_1; omega)) EV
set_option maxRecDepth 100000 in
set_option maxHeartbeats 4000000 in
theorem sf_X8_isFull_r41d {Dy : jH → Prop} {h : jH} {Q : Option Value → jH → Prop} {dr : Int} (hD : jDk Dy) (J : jJ jSgX Dy h) (D : d_X8_isFull_r41d (vw h) = dr) (hQ : ∀ (v : Int32) hx9, 0 ≤ v.toInt ∧ v.toInt ≤ 1 → jJ jSgX Dy hx9 → jSm fp_X8_isFull_r41d h hx9 → dr = v.toInt → vw hx9 = vw h → Q (some (.int v)) hx9) : jC m_X8_isFull 1 0 0 [.ref 41] h Q := by
  refine jC.of rfl k_X8_isFull rfl ?_
  have Sm := jSm_rf fp_X8_isFull_r41d h
  show jX m_X8_isFull 1 0 0 0 [(0, .ref 41)] [] _ 0 0 _
  unfold d_X8_isFull_r41d at D
  have EV : vw h = vw h := rfl
  refine x_aloadn (x := 41) rfl rfl ?_
  refine z_getI (N := 4) 8 3 rfl f_8_7 rfl J rfl sg_41_3_4_1_0_1 (fun v1 qv1 ev1 => ?_)
  try rw [vrf qv1] at D
  refine x_aloadn (x := 41) rfl rfl ?_
  refine z_getC (N := 4) (v := 20) 8 1 rfl f_8_22 rfl J rfl sg_41_1_2_1_0_1 jk_20 ?_
  refine x_iclt (tgt := 15) rfl rfl (ti_lt rfl jk_20 ⟨fun c2 => ?_, fun c2 => ?_⟩)
  ·
    rw [if_pos (by omega)] at D
    refine x_iconst (v := 0) rfl ki_0 ?_
    exact jX.sub jsb_n (ct_X8_isFull_r41d_200016 hD hQ  h J Sm D EV)
  ·
    rw [if_neg (by omega)] at D
    refine x_iconst (v := 1) rfl ki_1 ?_
    refine x_goto (tgt := 16) rfl rfl ?_
    exact jX.sub jsb_n (ct_X8_isFull_r41d_300016 hD hQ  h J Sm D EV)
def fp_X11_torn_r31d : jFp := [(31, 12, 13), (32, 19, 20), (41, 3, 4), (42, 0, 80)]
set_option maxRecDepth 100000 in
set_option maxHeartbeats 4000000 in
theorem ct_X11_torn_r31d_34 {Dy : jH → Prop} {h0 : jH} {Q : Option Value → jH → Prop} {dr : (Int × jW)} (hD : jDk Dy) (hQ : ∀ (v : Int32) hx9, (-366) ≤ v.toInt ∧ v.toInt ≤ 20 → jJ jSgX Dy hx9 → jSm fp_X11_torn_r31d h0 hx9 → dr.1 = v.toInt → dr.2 = vw hx9 → Q (some (.int v)) hx9) : ∀ (h : jH), jJ jSgX Dy h → jSm fp_X11_torn_r31d h0 h → d_X11_torn_r31d_34  (vw h) = dr → jX m_X11_torn 3 0 0 34 [(0, .ref 31)] [] h 0 0 Q := by
  intro  h    J Sm D
  unfold d_X11_torn_r31d_34 at D
  refine x_aloadn (x := 31) rfl rfl ?_
  refine x_iconst (v := (-1)) rfl ki_m1 ?_
  refine x_inv (N := m_X11_refuse) (As := [.int (-1)]) (b := 31) (st := []) (dx9 := 2) (mc := 0) (ms := 0) (host := "") 11 rfl t_X11_refuse ⟨Or.inl q_11_206, i_X11_refuse.1, i_X11_refuse.2⟩ ⟨by decide, rfl⟩ (congrArg Prod.fst (J.1.1 31 (11, 13) rfl)) rfl (by decide) rfl rfl ⟨by decide, by decide⟩ (jC.of rfl k_X11_refuse rfl ?_)
  show jX m_X11_refuse 2 0 0 0 [(0, .ref 31), (1, .int (-1))] [] _ 0 0 _
  refine x_aloadn (x := 31) rfl rfl ?_
  refine x_iloadn (x := (-1)) rfl rfl ?_
  refine z_putI (N := 13) (w := (-1)) 11 12 rfl f_11_94 rfl (jfin_no TX11 RX11 13 rfl rfl) hD J Sm rfl rfl jk_m1 (pw_31_12 (by omega)) rfl (fun h w1 J Sm => ?_)
  rw [vwf w1 (show (-1) = ((-1) : Int32).toInt from by have := jk_m1; omega)] at D
  refine x_iloadn (x := (-1)) rfl rfl ?_
  refine x_iret rfl rfl ?_
  show jX m_X11_torn 3 0 0 39 [(0, .ref 31)] [.int (-1)] _ 0 0 _
  refine x_iret rfl rfl ?_
  exact hQ _ _ (jr_of jk_m1 (by omega)) J Sm ((congrArg Prod.fst D).symm.trans (show (-1) = ((-1) : Int32).toInt from by have := jk_m1; omega)) (congrArg Prod.snd D).symm
set_option maxRecDepth 100000 in
set_option maxHeartbeats 4000000 in
theorem sf_X11_torn_r31d {Dy : jH → Prop} {h : jH} {Q : Option Value → jH → Prop} {dr : (Int × jW)} {a1 : Int32} {a2 : Int32} {a3 : Int32} {a4 : Int32} (hD : jDk Dy) (J : jJ jSgX Dy h) (D : d_X11_torn_r31d a1.toInt a2.toInt a3.toInt a4.toInt (vw h) = dr) (hQ : ∀ (v : Int32) hx9, (-366) ≤ v.toInt ∧ v.toInt ≤ 20 → jJ jSgX Dy hx9 → jSm fp_X11_torn_r31d h hx9 → dr.1 = v.toInt → dr.2 = vw hx9 → Q (some (.int v)) hx9) : jC m_X11_torn 3 0 0 [.ref 31, .int a1, .int a2, .int a3, .int a4] h Q := by
  refine jC.of rfl k_X11_torn rfl ?_
  have Sm := jSm_rf fp_X11_torn_r31d h
  have ea1 := jfull a1
  have ea2 := jfull a2
  have ea3 := jfull a3
  have ea4 := jfull a4
  show jX m_X11_torn 3 0 0 0 [(0, .ref 31), (1, .int a1), (2, .int a2), (3, .int a3), (4, .int a4)] [] _ 0 0 _
  unfold d_X11_torn_r31d at D
  refine x_iloadn (x := a1) rfl rfl ?_
  refine x_inst (N := m_X11_isBook) (As := [.int a1]) (st := []) (dx9 := 1) (mc := 0) (ms := 0) (host := "") rfl t_X11_isBook ⟨Or.inl q_11_112, s_X11_isBook⟩ rfl (by decide) rfl rfl ⟨by decide, by decide⟩ (zc_X11_isBook rfl (fun v1 ev1 => ?_))
  show jX m_X11_torn 3 0 0 4 [(0, .ref 31), (1, .int a1), (2, .int a2), (3, .int a3), (4, .int a4)] [.int v1] _ 0 0 _
  refine x_ifeq (tgt := 34) rfl rfl (ti_eq rfl jk_0 ⟨fun c2 => ?_, fun c2 => ?_⟩)
  ·
    rw [if_neg (by omega)] at D
    exact jX.sub (jsb_c rfl jsb_n) (ct_X11_torn_r31d_34 hD hQ  h J Sm D)
  ·
    rw [if_pos (by omega)] at D
    refine x_iloadn (x := a2) rfl rfl ?_
    refine x_inst (N := m_X11_isDay) (As := [.int a2]) (st := []) (dx9 := 1) (mc := 0) (ms := 0) (host := "") rfl t_X11_isDay ⟨Or.inl q_11_115, s_X11_isDay⟩ rfl (by decide) rfl rfl ⟨by decide, by decide⟩ (zc_X11_isDay rfl (fun v3 ev3 => ?_))
    show jX m_X11_torn 3 0 0 11 [(0, .ref 31), (1, .int a1), (2, .int a2), (3, .int a3), (4, .int a4)] [.int v3] _ 0 0 _
    refine x_ifeq (tgt := 34) rfl rfl (ti_eq rfl jk_0 ⟨fun c4 => ?_, fun c4 => ?_⟩)
    ·
      rw [if_neg (by omega)] at D
      exact jX.sub (jsb_c rfl jsb_n) (ct_X11_torn_r31d_34 hD hQ  h J Sm D)
    ·
      rw [if_pos (by omega)] at D
      refine x_iloadn (x := a3) rfl rfl ?_
      refine x_inst (N := m_X11_isDay) (As := [.int a3]) (st := []) (dx9 := 1) (mc := 0) (ms := 0) (host := "") rfl t_X11_isDay ⟨Or.inl q_11_115, s_X11_isDay⟩ rfl (by decide) rfl rfl ⟨by decide, by decide⟩ (zc_X11_isDay rfl (fun v5 ev5 => ?_))
      show jX m_X11_torn 3 0 0 18 [(0, .ref 31), (1, .int a1), (2, .int a2), (3, .int a3), (4, .int a4)] [.int v5] _ 0 0 _
      refine x_ifeq (tgt := 34) rfl rfl (ti_eq rfl jk_0 ⟨fun c6 => ?_, fun c6 => ?_⟩)
      ·
        rw [if_neg (by omega)] at D
        exact jX.sub (jsb_c rfl jsb_n) (ct_X11_torn_r31d_34 hD hQ  h J Sm D)
      ·
        rw [if_pos (by omega)] at D
        refine x_iloadn (x := a3) rfl rfl ?_
        refine x_iloadn (x := a2) rfl rfl ?_
        refine x_iclt (tgt := 34) rfl rfl (ti_lt rfl rfl ⟨fun c7 => ?_, fun c7 => ?_⟩)
        ·
          rw [if_pos (by omega)] at D
          exact jX.sub (jsb_c rfl jsb_n) (ct_X11_torn_r31d_34 hD hQ  h J Sm D)
        ·
          rw [if_neg (by omega)] at D
          refine x_iload (x := a4) rfl rfl ?_
          refine x_inst (N := m_X11_isDay) (As := [.int a4]) (st := []) (dx9 := 1) (mc := 0) (ms := 0) (host := "") rfl t_X11_isDay ⟨Or.inl q_11_115, s_X11_isDay⟩ rfl (by decide) rfl rfl ⟨by decide, by decide⟩ (zc_X11_isDay rfl (fun v8 ev8 => ?_))
          show jX m_X11_torn 3 0 0 31 [(0, .ref 31), (1, .int a1), (2, .int a2), (3, .int a3), (4, .int a4)] [.int v8] _ 0 0 _
          refine x_ifne (tgt := 40) rfl rfl (ti_ne rfl jk_0 ⟨fun c9 => ?_, fun c9 => ?_⟩)
          ·
            rw [if_pos (by omega)] at D
            refine x_aloadn (x := 31) rfl rfl ?_
            refine z_getR (N := 13) (b := 32) 11 0 rfl f_11_10 rfl J rfl 3968 ⟨rfl, rfl⟩ rfl ?_
            refine z_getR (N := 20) (b := 41) 1 4 rfl f_11_312 rfl J rfl 4100 ⟨rfl, rfl⟩ rfl ?_
            refine x_inv (N := m_X8_isFull) (As := []) (b := 41) (st := []) (dx9 := 1) (mc := 0) (ms := 0) (host := "") 8 rfl t_X8_isFull ⟨Or.inl q_11_130, i_X8_isFull.1, i_X8_isFull.2⟩ ⟨by decide, rfl⟩ (congrArg Prod.fst (J.1.1 41 (8, 4) rfl)) rfl (by decide) rfl rfl ⟨by decide, by decide⟩ (sf_X8_isFull_r41d  hD J rfl  (fun v13 h ev13 J S10 X11 X12 => ?_))
            have Sm := jSm_tr rfl Sm S10
            try rw [X11] at D
            try rw [← X12] at D
            show jX m_X11_torn 3 0 0 50 [(0, .ref 31), (1, .int a1), (2, .int a2), (3, .int a3), (4, .int a4)] [.int v13] _ 0 0 _
            refine x_ifeq (tgt := 60) rfl rfl (ti_eq rfl jk_0 ⟨fun c14 => ?_, fun c14 => ?_⟩)
            ·
              rw [if_pos (by omega)] at D
              refine x_aloadn (x := 31) rfl rfl ?_
              refine z_getR (N := 13) (b := 32) 11 0 rfl f_11_10 rfl J rfl 3968 ⟨rfl, rfl⟩ rfl ?_
              refine z_getR (N := 20) (b := 41) 1 4 rfl f_11_312 rfl J rfl 4100 ⟨rfl, rfl⟩ rfl ?_
              refine x_iload (x := a4) rfl rfl ?_
              refine x_iloadn (x := a2) rfl rfl ?_
              refine x_iloadn (x := a3) rfl rfl ?_
              refine x_iloadn (x := a1) rfl rfl ?_
              refine x_iconst (v := 0) rfl ki_0 ?_
              refine x_iconst (v := 0) rfl ki_0 ?_
              refine x_inv (N := m_X8_add) (As := [.int a4, .int a2, .int a3, .int a1, .int 0, .int 0]) (b := 41) (st := []) (dx9 := 2) (mc := 0) (ms := 0) (host := "") 8 rfl t_X8_add ⟨Or.inl q_11_145, i_X8_add.1, i_X8_add.2⟩ ⟨by decide, rfl⟩ (congrArg Prod.fst (J.1.1 41 (8, 4) rfl)) rfl (by decide) rfl rfl ⟨by decide, by decide⟩ (sf_X8_add_r41d (jr_of rfl (by omega)) (jr_of rfl (by omega)) (jr_of rfl (by omega)) (jr_of rfl (by omega)) (jr_of jk_0 (by omega)) (jr_of jk_0 (by omega)) hD J rfl  (fun h J S15 X16 => ?_))
              have Sm := jSm_tr rfl Sm S15
              try rw [jk_0] at X16
              rw [X16] at D
              show jX m_X11_torn 3 0 0 77 [(0, .ref 31), (1, .int a1), (2, .int a2), (3, .int a3), (4, .int a4)] [] _ 0 0 _
              refine x_aloadn (x := 31) rfl rfl ?_
              refine x_aloadn (x := 31) rfl rfl ?_
              refine z_getR (N := 13) (b := 32) 11 0 rfl f_11_10 rfl J rfl 3968 ⟨rfl, rfl⟩ rfl ?_
              refine z_getR (N := 20) (b := 41) 1 4 rfl f_11_312 rfl J rfl 4100 ⟨rfl, rfl⟩ rfl ?_
              refine z_getI (N := 4) 8 3 rfl f_11_142 rfl J rfl sg_41_3_4_1_0_1 (fun v17 qv17 ev17 => ?_)
              try rw [vrf qv17] at D
              refine x_inv (N := m_X11_accept) (As := [.int v17]) (b := 31) (st := []) (dx9 := 2) (mc := 0) (ms := 0) (host := "") 11 rfl t_X11_accept ⟨Or.inl q_11_165, i_X11_accept.1, i_X11_accept.2⟩ ⟨by decide, rfl⟩ (congrArg Prod.fst (J.1.1 31 (11, 13) rfl)) rfl (by decide) rfl rfl ⟨by decide, by decide⟩ (jC.of rfl k_X11_accept rfl ?_)
              show jX m_X11_accept 2 0 0 0 [(0, .ref 31), (1, .int v17)] [] _ 0 0 _
              refine x_aloadn (x := 31) rfl rfl ?_
              refine x_iconst (v := 0) rfl ki_0 ?_
              refine z_putI (N := 13) (w := 0) 11 12 rfl f_11_94 rfl (jfin_no TX11 RX11 13 rfl rfl) hD J Sm rfl rfl jk_0 (pw_31_12 (by omega)) rfl (fun h w18 J Sm => ?_)
              rw [vwf w18 (show 0 = (0 : Int32).toInt from by have := jk_0; omega)] at D
              refine x_aloadn (x := 31) rfl rfl ?_
              refine z_getR (N := 13) (b := 32) 11 0 rfl f_11_10 rfl J rfl 3968 ⟨rfl, rfl⟩ rfl ?_
              refine x_dup rfl rfl ?_
              refine z_getI0 (N := 20) 1 19 rfl f_11_528 rfl J rfl (fun v19 qv19 => ?_)
              have ev19 := jfull v19
              try rw [vrf (jmb_c S15 (jmb_w w18 qv19 rfl) rfl)] at D
              refine x_iconst (v := 1) rfl ki_1 ?_
              refine z_iaddW rfl rfl jk_1 (fun v20 ev20 => ?_)
              have fv20 := jfull v20
              try rw [← ev20] at D
              refine z_putI (N := 20) (w := v20.toInt) 1 19 rfl f_11_528 rfl (jfin_no TX1 RX1 20 rfl rfl) hD J Sm rfl rfl rfl (pw_32_19 trivial) rfl (fun h w21 J Sm => ?_)
              rw [vwf w21 (show v20.toInt = v20.toInt from by omega)] at D
              refine x_iloadn (x := v17) rfl rfl ?_
              refine x_iret rfl rfl ?_
              show jX m_X11_torn 3 0 0 91 [(0, .ref 31), (1, .int a1), (2, .int a2), (3, .int a3), (4, .int a4)] [.int v17] _ 0 0 _
              refine x_iret rfl rfl ?_
              exact hQ _ _ (jr_of rfl (by omega)) J Sm ((congrArg Prod.fst D).symm.trans (show v17.toInt = v17.toInt from by omega)) (congrArg Prod.snd D).symm
            ·
              rw [if_neg (by omega)] at D
              refine x_aloadn (x := 31) rfl rfl ?_
              refine x_bipush (v := (-5)) rfl kb_m5 ?_
              refine x_inv (N := m_X11_refuse) (As := [.int (-5)]) (b := 31) (st := []) (dx9 := 2) (mc := 0) (ms := 0) (host := "") 11 rfl t_X11_refuse ⟨Or.inl q_11_206, i_X11_refuse.1, i_X11_refuse.2⟩ ⟨by decide, rfl⟩ (congrArg Prod.fst (J.1.1 31 (11, 13) rfl)) rfl (by decide) rfl rfl ⟨by decide, by decide⟩ (jC.of rfl k_X11_refuse rfl ?_)
              show jX m_X11_refuse 2 0 0 0 [(0, .ref 31), (1, .int (-5))] [] _ 0 0 _
              refine x_aloadn (x := 31) rfl rfl ?_
              refine x_iloadn (x := (-5)) rfl rfl ?_
              refine z_putI (N := 13) (w := (-5)) 11 12 rfl f_11_94 rfl (jfin_no TX11 RX11 13 rfl rfl) hD J Sm rfl rfl jk_m5 (pw_31_12 (by omega)) rfl (fun h w22 J Sm => ?_)
              rw [vwf w22 (show (-5) = ((-5) : Int32).toInt from by have := jk_m5; omega)] at D
              refine x_iloadn (x := (-5)) rfl rfl ?_
              refine x_iret rfl rfl ?_
              show jX m_X11_torn 3 0 0 59 [(0, .ref 31), (1, .int a1), (2, .int a2), (3, .int a3), (4, .int a4)] [.int (-5)] _ 0 0 _
              refine x_iret rfl rfl ?_
              exact hQ _ _ (jr_of jk_m5 (by omega)) J Sm ((congrArg Prod.fst D).symm.trans (show (-5) = ((-5) : Int32).toInt from by have := jk_m5; omega)) (congrArg Prod.snd D).symm
          ·
            rw [if_neg (by omega)] at D
            exact jX.sub (jsb_c rfl jsb_n) (ct_X11_torn_r31d_34 hD hQ  h J Sm D)
def fp_X4_goRound_r107d : jFp := [(85, 0, 4), (98, 12, 13), (106, 0, 100), (107, 16, 17), (115, 0, 400), (116, 0, 400), (117, 0, 40)]
set_option maxRecDepth 100000 in
set_option maxHeartbeats 4000000 in
theorem ct_X4_goRound_r107d_184 {Dy : jH → Prop} {h0 : jH} {Q : Option Value → jH → Prop} {dr : jW} {K45 : Int → Int → Int → Int → Int → Int → jW → jW} {R45 : Int} (hD : jDk Dy) (hQ : ∀ hx9, jJ jSgX Dy hx9 → jSm fp_X4_goRound_r107d h0 hx9 → dr = vw hx9 → Q none hx9) (k45 : ∀ (l1 : Int32) (l2 : Int32) (l3 : Int32) (l5 : Int32) (l6 : Int32) (l7 : Int32) (h : jH), 40 - l7.toInt < R45 → 0 ≤ l1.toInt ∧ l1.toInt ≤ 399 → 0 ≤ l2.toInt ∧ l2.toInt ≤ 29 → 0 ≤ l3.toInt ∧ l3.toInt ≤ 11 → 0 ≤ l5.toInt ∧ l5.toInt ≤ 40 → 0 ≤ l7.toInt ∧ l7.toInt ≤ 40 → jJ jSgX Dy h → jSm fp_X4_goRound_r107d h0 h → K45 l1.toInt l2.toInt l3.toInt l5.toInt l6.toInt l7.toInt (vw h) = dr → jX m_X4_goRound 6 0 0 45 [(0, .ref 107), (1, .int l1), (2, .int l2), (3, .int l3), (5, .int l5), (6, .int l6), (7, .int l7)] [] h 0 0 Q) : ∀ (l1 : Int32) (l2 : Int32) (l3 : Int32) (l5 : Int32) (l6 : Int32) (l7 : Int32) (h : jH), 0 ≤ l1.toInt ∧ l1.toInt ≤ 399 → 0 ≤ l2.toInt ∧ l2.toInt ≤ 29 → 0 ≤ l3.toInt ∧ l3.toInt ≤ 11 → 1 ≤ l5.toInt ∧ l5.toInt ≤ 40 → 0 ≤ l7.toInt ∧ l7.toInt ≤ 39 → 40 - l7.toInt ≤ R45 → jJ jSgX Dy h → jSm fp_X4_goRound_r107d h0 h → d_X4_goRound_r107d_184 K45  l1.toInt l2.toInt l3.toInt l5.toInt l6.toInt l7.toInt (vw h) = dr → jX m_X4_goRound 6 0 0 184 [(0, .ref 107), (1, .int l1), (2, .int l2), (3, .int l3), (5, .int l5), (6, .int l6), (7, .int l7)] [] h 0 0 Q := by
  intro l1 l2 l3 l5 l6 l7 h y0 y1 y2 y3 y4  m45 J Sm D
  have el6 := jfull l6
  unfold d_X4_goRound_r107d_184 at D
  refine z_iinc (x := l7) (lsx9 := fun v1 => [(7, .int v1), (0, .ref 107), (1, .int l1), (2, .int l2), (3, .int l3), (5, .int l5), (6, .int l6)]) rfl rfl rfl jko_1 (by omega) rfl (fun _ => rfl) (fun v1 ev1 => ?_)
  refine x_goto (tgt := 45) rfl rfl ?_
  try rw [show (l7.toInt + 1) = v1.toInt from by omega] at D
  exact jX.sub (jsb_c rfl (jsb_c rfl (jsb_c rfl (jsb_c rfl (jsb_c rfl (jsb_c rfl (jsb_c rfl jsb_n))))))) (k45 l1 l2 l3 l5 l6 v1 h (by omega) (jr_of rfl (by omega)) (jr_of rfl (by omega)) (jr_of rfl (by omega)) (jr_of rfl (by omega)) (jr_of rfl (by omega)) J Sm D)
set_option maxRecDepth 100000 in
set_option maxHeartbeats 4000000 in
theorem ct_X4_goRound_r107d_200108 {Dy : jH → Prop} {h0 : jH} {Q : Option Value → jH → Prop} {dr : jW} {K45 : Int → Int → Int → Int → Int → Int → jW → jW} {R45 : Int} (hD : jDk Dy) (hQ : ∀ hx9, jJ jSgX Dy hx9 → jSm fp_X4_goRound_r107d h0 hx9 → dr = vw hx9 → Q none hx9) (k45 : ∀ (l1 : Int32) (l2 : Int32) (l3 : Int32) (l5 : Int32) (l6 : Int32) (l7 : Int32) (h : jH), 40 - l7.toInt < R45 → 0 ≤ l1.toInt ∧ l1.toInt ≤ 399 → 0 ≤ l2.toInt ∧ l2.toInt ≤ 29 → 0 ≤ l3.toInt ∧ l3.toInt ≤ 11 → 0 ≤ l5.toInt ∧ l5.toInt ≤ 40 → 0 ≤ l7.toInt ∧ l7.toInt ≤ 40 → jJ jSgX Dy h → jSm fp_X4_goRound_r107d h0 h → K45 l1.toInt l2.toInt l3.toInt l5.toInt l6.toInt l7.toInt (vw h) = dr → jX m_X4_goRound 6 0 0 45 [(0, .ref 107), (1, .int l1), (2, .int l2), (3, .int l3), (5, .int l5), (6, .int l6), (7, .int l7)] [] h 0 0 Q) : ∀ (l1 : Int32) (l2 : Int32) (l3 : Int32) (l5 : Int32) (l6 : Int32) (l7 : Int32) (l8 : Int32) (l9 : Int32) (h : jH), 0 ≤ l1.toInt ∧ l1.toInt ≤ 399 → 0 ≤ l2.toInt ∧ l2.toInt ≤ 29 → 0 ≤ l3.toInt ∧ l3.toInt ≤ 11 → 1 ≤ l5.toInt ∧ l5.toInt ≤ 40 → 0 ≤ l7.toInt ∧ l7.toInt ≤ 39 → 0 ≤ l8.toInt ∧ l8.toInt ≤ 39 → (-1) ≤ l9.toInt ∧ l9.toInt ≤ 599 → 40 - l7.toInt ≤ R45 → jJ jSgX Dy h → jSm fp_X4_goRound_r107d h0 h → d_X4_goRound_r107d_200108 K45  l1.toInt l2.toInt l3.toInt l5.toInt l6.toInt l7.toInt l8.toInt l9.toInt (vw h) = dr → jX m_X4_goRound 6 0 0 108 [(0, .ref 107), (1, .int l1), (2, .int l2), (3, .int l3), (5, .int l5), (6, .int l6), (7, .int l7), (8, .int l8), (9, .int l9)] [.int 0] h 0 0 Q := by
  intro l1 l2 l3 l5 l6 l7 l8 l9 h y0 y1 y2 y3 y4 y5 y6  m45 J Sm D
  have el6 := jfull l6
  unfold d_X4_goRound_r107d_200108 at D
  refine x_istore (lsx9 := [(10, .int 0), (0, .ref 107), (1, .int l1), (2, .int l2), (3, .int l3), (5, .int l5), (6, .int l6), (7, .int l7), (8, .int l8), (9, .int l9)]) rfl rfl rfl ?_
  refine x_iload (x := 0) rfl rfl ?_
  refine x_ifeq (tgt := 184) rfl rfl (ti_eq jk_0 jk_0 (br_t (by omega) ?_))
  exact jX.sub (jsb_c rfl (jsb_c rfl (jsb_c rfl (jsb_c rfl (jsb_c rfl (jsb_c rfl (jsb_c rfl jsb_n))))))) (ct_X4_goRound_r107d_184 hD hQ k45 l1 l2 l3 l5 l6 l7 h (jr_of rfl (by omega)) (jr_of rfl (by omega)) (jr_of rfl (by omega)) (jr_of rfl (by omega)) (jr_of rfl (by omega)) (by omega) J Sm D)
set_option maxRecDepth 100000 in
set_option maxHeartbeats 4000000 in
theorem ct_X4_goRound_r107d_300108 {Dy : jH → Prop} {h0 : jH} {Q : Option Value → jH → Prop} {dr : jW} {K45 : Int → Int → Int → Int → Int → Int → jW → jW} {R45 : Int} (hD : jDk Dy) (hQ : ∀ hx9, jJ jSgX Dy hx9 → jSm fp_X4_goRound_r107d h0 hx9 → dr = vw hx9 → Q none hx9) (k45 : ∀ (l1 : Int32) (l2 : Int32) (l3 : Int32) (l5 : Int32) (l6 : Int32) (l7 : Int32) (h : jH), 40 - l7.toInt < R45 → 0 ≤ l1.toInt ∧ l1.toInt ≤ 399 → 0 ≤ l2.toInt ∧ l2.toInt ≤ 29 → 0 ≤ l3.toInt ∧ l3.toInt ≤ 11 → 0 ≤ l5.toInt ∧ l5.toInt ≤ 40 → 0 ≤ l7.toInt ∧ l7.toInt ≤ 40 → jJ jSgX Dy h → jSm fp_X4_goRound_r107d h0 h → K45 l1.toInt l2.toInt l3.toInt l5.toInt l6.toInt l7.toInt (vw h) = dr → jX m_X4_goRound 6 0 0 45 [(0, .ref 107), (1, .int l1), (2, .int l2), (3, .int l3), (5, .int l5), (6, .int l6), (7, .int l7)] [] h 0 0 Q) : ∀ (l1 : Int32) (l2 : Int32) (l3 : Int32) (l5 : Int32) (l6 : Int32) (l7 : Int32) (l8 : Int32) (l9 : Int32) (h : jH), 0 ≤ l1.toInt ∧ l1.toInt ≤ 399 → 0 ≤ l2.toInt ∧ l2.toInt ≤ 29 → 0 ≤ l3.toInt ∧ l3.toInt ≤ 11 → 1 ≤ l5.toInt ∧ l5.toInt ≤ 40 → 0 ≤ l7.toInt ∧ l7.toInt ≤ 39 → 0 ≤ l8.toInt ∧ l8.toInt ≤ 39 → (-1) ≤ l9.toInt ∧ l9.toInt ≤ 599 → 40 - l7.toInt ≤ R45 → jJ jSgX Dy h → jSm fp_X4_goRound_r107d h0 h → d_X4_goRound_r107d_300108 K45  l1.toInt l2.toInt l3.toInt l5.toInt l6.toInt l7.toInt l8.toInt l9.toInt (vw h) = dr → jX m_X4_goRound 6 0 0 108 [(0, .ref 107), (1, .int l1), (2, .int l2), (3, .int l3), (5, .int l5), (6, .int l6), (7, .int l7), (8, .int l8), (9, .int l9)] [.int 1] h 0 0 Q := by
  intro l1 l2 l3 l5 l6 l7 l8 l9 h y0 y1 y2 y3 y4 y5 y6  m45 J Sm D
  have el6 := jfull l6
  unfold d_X4_goRound_r107d_300108 at D
  refine x_istore (lsx9 := [(10, .int 1), (0, .ref 107), (1, .int l1), (2, .int l2), (3, .int l3), (5, .int l5), (6, .int l6), (7, .int l7), (8, .int l8), (9, .int l9)]) rfl rfl rfl ?_
  refine x_iload (x := 1) rfl rfl ?_
  refine x_ifeq (tgt := 184) rfl rfl (ti_eq jk_1 jk_0 (br_f (by omega) ?_))
  refine x_iload (x := l9) rfl rfl ?_
  refine x_iconst (v := (-1)) rfl ki_m1 ?_
  refine x_iceq (tgt := 184) rfl rfl (ti_eq rfl jk_m1 ⟨fun c1 => ?_, fun c1 => ?_⟩)
  ·
    rw [if_pos (by omega)] at D
    exact jX.sub (jsb_c rfl (jsb_c rfl (jsb_c rfl (jsb_c rfl (jsb_c rfl (jsb_c rfl (jsb_c rfl jsb_n))))))) (ct_X4_goRound_r107d_184 hD hQ k45 l1 l2 l3 l5 l6 l7 h (jr_of rfl (by omega)) (jr_of rfl (by omega)) (jr_of rfl (by omega)) (jr_of rfl (by omega)) (jr_of rfl (by omega)) (by omega) J Sm D)
  ·
    rw [if_neg (by omega)] at D
    refine x_aloadn (x := 107) rfl rfl ?_
    refine z_getR (N := 18) (b := 78) 4 1 rfl f_4_63 rfl J rfl 13697 ⟨rfl, rfl⟩ rfl ?_
    refine x_iload (x := l9) rfl rfl ?_
    refine x_iconst (v := 5) rfl ki_5 ?_
    refine x_iloadn (x := l1) rfl rfl ?_
    refine x_sipush (v := 366) rfl ks_366 ?_
    refine z_imul rfl rfl jk_366 (by omega) (fun v2 ev2 => ?_)
    try rw [show (l1.toInt * 366) = v2.toInt from by omega] at D
    refine x_inv (N := m_X7_hasBy) (As := [.int l9, .int 5, .int v2]) (b := 78) (st := []) (dx9 := 1) (mc := 0) (ms := 0) (host := "") 7 rfl t_X7_hasBy ⟨Or.inl q_4_170, i_X7_hasBy.1, i_X7_hasBy.2⟩ ⟨by decide, rfl⟩ (congrArg Prod.fst (J.1.1 78 (7, 16) rfl)) rfl (by decide) rfl rfl ⟨by decide, by decide⟩ (sf_X7_hasBy_r78d (jr_of rfl (by omega)) (jr_of jk_5 (by omega)) (jr_of rfl (by omega)) hD J rfl  (fun v6 h ev6 J S3 X4 X5 => ?_))
    have Sm := jSm_tr rfl Sm S3
    try rw [jk_5] at X4
    try rw [X4] at D
    try rw [← X5] at D
    show jX m_X4_goRound 6 0 0 136 [(10, .int 1), (0, .ref 107), (1, .int l1), (2, .int l2), (3, .int l3), (5, .int l5), (6, .int l6), (7, .int l7), (8, .int l8), (9, .int l9)] [.int v6] _ 0 0 _
    refine x_ifne (tgt := 184) rfl rfl (ti_ne rfl jk_0 ⟨fun c7 => ?_, fun c7 => ?_⟩)
    ·
      rw [if_neg (by omega)] at D
      exact jX.sub (jsb_c rfl (jsb_c rfl (jsb_c rfl (jsb_c rfl (jsb_c rfl (jsb_c rfl (jsb_c rfl jsb_n))))))) (ct_X4_goRound_r107d_184 hD hQ k45 l1 l2 l3 l5 l6 l7 h (jr_of rfl (by omega)) (jr_of rfl (by omega)) (jr_of rfl (by omega)) (jr_of rfl (by omega)) (jr_of rfl (by omega)) (by omega) J Sm D)
    ·
      rw [if_pos (by omega)] at D
      refine x_aloadn (x := 107) rfl rfl ?_
      refine z_getR (N := 18) (b := 98) 4 2 rfl f_4_67 rfl J rfl 13698 ⟨rfl, rfl⟩ rfl ?_
      refine x_iloadn (x := l2) rfl rfl ?_
      refine x_iloadn (x := l3) rfl rfl ?_
      refine x_iload (x := l9) rfl rfl ?_
      refine x_inv (N := m_X0_holdsFor) (As := [.int l2, .int l3, .int l9]) (b := 98) (st := []) (dx9 := 5) (mc := 0) (ms := 0) (host := "") 0 rfl t_X0_holdsFor ⟨Or.inl q_4_175, i_X0_holdsFor.1, i_X0_holdsFor.2⟩ ⟨by decide, rfl⟩ (congrArg Prod.fst (J.1.1 98 (0, 16) rfl)) rfl (by decide) rfl rfl ⟨by decide, by decide⟩ (sf_X0_holdsFor_r98d (jr_of rfl (by omega)) (jr_of rfl (by omega)) (jr_of rfl (by omega)) hD J rfl  (fun v11 h ev11 J S8 X9 X10 => ?_))
      have Sm := jSm_tr rfl Sm S8
      try rw [X9] at D
      try rw [X10] at D
      show jX m_X4_goRound 6 0 0 150 [(10, .int 1), (0, .ref 107), (1, .int l1), (2, .int l2), (3, .int l3), (5, .int l5), (6, .int l6), (7, .int l7), (8, .int l8), (9, .int l9)] [.int v11] _ 0 0 _
      refine x_ifeq (tgt := 184) rfl rfl (ti_eq rfl jk_0 ⟨fun c12 => ?_, fun c12 => ?_⟩)
      ·
        rw [if_pos (by omega)] at D
        exact jX.sub (jsb_c rfl (jsb_c rfl (jsb_c rfl (jsb_c rfl (jsb_c rfl (jsb_c rfl (jsb_c rfl jsb_n))))))) (ct_X4_goRound_r107d_184 hD hQ k45 l1 l2 l3 l5 l6 l7 h (jr_of rfl (by omega)) (jr_of rfl (by omega)) (jr_of rfl (by omega)) (jr_of rfl (by omega)) (jr_of rfl (by omega)) (by omega) J Sm D)
      ·
        rw [if_neg (by omega)] at D
        refine x_aloadn (x := 107) rfl rfl ?_
        refine z_getR (N := 18) (b := 115) 4 11 rfl f_4_38 rfl J rfl 13707 ⟨rfl, rfl⟩ rfl ?_
        refine x_iloadn (x := l1) rfl rfl ?_
        refine x_iload (x := l8) rfl rfl ?_
        refine z_iast (N := 400) (l := 0) (u := 400) (w := l8.toInt) rfl hD J Sm rfl rfl rfl (by omega) rfl (wr_115 (fun q1 q2 q3 q4 => by omega)) rfl (fun h w13 J Sm => ?_)
        rw [vww w13 (show l1.toInt = l1.toInt from by omega) (show l8.toInt = l8.toInt from by omega)] at D
        refine x_aloadn (x := 107) rfl rfl ?_
        refine z_getR (N := 18) (b := 116) 4 12 rfl f_4_41 rfl J rfl 13708 ⟨rfl, rfl⟩ rfl ?_
        refine x_iloadn (x := l1) rfl rfl ?_
        refine x_iload (x := l7) rfl rfl ?_
        refine z_iast (N := 400) (l := 0) (u := 400) (w := l7.toInt) rfl hD J Sm rfl rfl rfl (by omega) rfl (wr_116 (fun q1 q2 q3 q4 => by omega)) rfl (fun h w14 J Sm => ?_)
        rw [vww w14 (show l1.toInt = l1.toInt from by omega) (show l7.toInt = l7.toInt from by omega)] at D
        refine x_aloadn (x := 107) rfl rfl ?_
        refine z_getR (N := 18) (b := 117) 4 13 rfl f_4_44 rfl J rfl 13709 ⟨rfl, rfl⟩ rfl ?_
        refine x_iload (x := l8) rfl rfl ?_
        refine x_iloadn (x := l1) rfl rfl ?_
        refine z_iast (N := 40) (l := 0) (u := 40) (w := l1.toInt) rfl hD J Sm rfl rfl rfl (by omega) rfl (wr_117 (fun q1 q2 q3 q4 => by omega)) rfl (fun h w15 J Sm => ?_)
        rw [vww w15 (show l8.toInt = l8.toInt from by omega) (show l1.toInt = l1.toInt from by omega)] at D
        refine x_aloadn (x := 107) rfl rfl ?_
        refine x_iload (x := l8) rfl rfl ?_
        refine z_putI (N := 18) (w := l8.toInt) 4 16 rfl f_4_53 rfl (jfin_no TX4 RX4 18 rfl rfl) hD J Sm rfl rfl rfl (pw_107_16 (by omega)) rfl (fun h w16 J Sm => ?_)
        rw [vwf w16 (show l8.toInt = l8.toInt from by omega)] at D
        refine x_vret rfl rfl ?_
        exact hQ _ J Sm D.symm
set_option maxRecDepth 100000 in
set_option maxHeartbeats 4000000 in
theorem ct_X4_goRound_r107d_103 {Dy : jH → Prop} {h0 : jH} {Q : Option Value → jH → Prop} {dr : jW} {K45 : Int → Int → Int → Int → Int → Int → jW → jW} {R45 : Int} (hD : jDk Dy) (hQ : ∀ hx9, jJ jSgX Dy hx9 → jSm fp_X4_goRound_r107d h0 hx9 → dr = vw hx9 → Q none hx9) (k45 : ∀ (l1 : Int32) (l2 : Int32) (l3 : Int32) (l5 : Int32) (l6 : Int32) (l7 : Int32) (h : jH), 40 - l7.toInt < R45 → 0 ≤ l1.toInt ∧ l1.toInt ≤ 399 → 0 ≤ l2.toInt ∧ l2.toInt ≤ 29 → 0 ≤ l3.toInt ∧ l3.toInt ≤ 11 → 0 ≤ l5.toInt ∧ l5.toInt ≤ 40 → 0 ≤ l7.toInt ∧ l7.toInt ≤ 40 → jJ jSgX Dy h → jSm fp_X4_goRound_r107d h0 h → K45 l1.toInt l2.toInt l3.toInt l5.toInt l6.toInt l7.toInt (vw h) = dr → jX m_X4_goRound 6 0 0 45 [(0, .ref 107), (1, .int l1), (2, .int l2), (3, .int l3), (5, .int l5), (6, .int l6), (7, .int l7)] [] h 0 0 Q) : ∀ (l1 : Int32) (l2 : Int32) (l3 : Int32) (l5 : Int32) (l6 : Int32) (l7 : Int32) (l8 : Int32) (l9 : Int32) (h : jH), 0 ≤ l1.toInt ∧ l1.toInt ≤ 399 → 0 ≤ l2.toInt ∧ l2.toInt ≤ 29 → 0 ≤ l3.toInt ∧ l3.toInt ≤ 11 → 1 ≤ l5.toInt ∧ l5.toInt ≤ 40 → 0 ≤ l7.toInt ∧ l7.toInt ≤ 39 → 0 ≤ l8.toInt ∧ l8.toInt ≤ 39 → (-1) ≤ l9.toInt ∧ l9.toInt ≤ 599 → 40 - l7.toInt ≤ R45 → jJ jSgX Dy h → jSm fp_X4_goRound_r107d h0 h → d_X4_goRound_r107d_103 K45  l1.toInt l2.toInt l3.toInt l5.toInt l6.toInt l7.toInt l8.toInt l9.toInt (vw h) = dr → jX m_X4_goRound 6 0 0 103 [(0, .ref 107), (1, .int l1), (2, .int l2), (3, .int l3), (5, .int l5), (6, .int l6), (7, .int l7), (8, .int l8), (9, .int l9)] [] h 0 0 Q := by
  intro l1 l2 l3 l5 l6 l7 l8 l9 h y0 y1 y2 y3 y4 y5 y6  m45 J Sm D
  have el6 := jfull l6
  unfold d_X4_goRound_r107d_103 at D
  refine x_iconst (v := 1) rfl ki_1 ?_
  refine x_goto (tgt := 108) rfl rfl ?_
  exact jX.sub (jsb_c rfl (jsb_c rfl (jsb_c rfl (jsb_c rfl (jsb_c rfl (jsb_c rfl (jsb_c rfl (jsb_c rfl (jsb_c rfl jsb_n))))))))) (ct_X4_goRound_r107d_300108 hD hQ k45 l1 l2 l3 l5 l6 l7 l8 l9 h (jr_of rfl (by omega)) (jr_of rfl (by omega)) (jr_of rfl (by omega)) (jr_of rfl (by omega)) (jr_of rfl (by omega)) (jr_of rfl (by omega)) (jr_of rfl (by omega)) (by omega) J Sm D)
set_option maxRecDepth 100000 in
set_option maxHeartbeats 4000000 in
theorem ct_X4_goRound_r107d_45 {Dy : jH → Prop} {h0 : jH} {Q : Option Value → jH → Prop} {dr : jW} (hD : jDk Dy) (hQ : ∀ hx9, jJ jSgX Dy hx9 → jSm fp_X4_goRound_r107d h0 hx9 → dr = vw hx9 → Q none hx9) : ∀ r : Nat, ∀ (l1 : Int32) (l2 : Int32) (l3 : Int32) (l5 : Int32) (l6 : Int32) (l7 : Int32) (h : jH), 40 - l7.toInt < (r : Int) → 0 ≤ l1.toInt ∧ l1.toInt ≤ 399 → 0 ≤ l2.toInt ∧ l2.toInt ≤ 29 → 0 ≤ l3.toInt ∧ l3.toInt ≤ 11 → 0 ≤ l5.toInt ∧ l5.toInt ≤ 40 → 0 ≤ l7.toInt ∧ l7.toInt ≤ 40 → jJ jSgX Dy h → jSm fp_X4_goRound_r107d h0 h → d_X4_goRound_r107d_45 r l1.toInt l2.toInt l3.toInt l5.toInt l6.toInt l7.toInt (vw h) = dr → jX m_X4_goRound 6 0 0 45 [(0, .ref 107), (1, .int l1), (2, .int l2), (3, .int l3), (5, .int l5), (6, .int l6), (7, .int l7)] [] h 0 0 Q := by
  intro r
  induction r with
  | zero =>
    intro l1 l2 l3 l5 l6 l7 h hm y0 y1 y2 y3 y4   J Sm D
    exfalso
    have el6 := jfull l6
    omega
  | succ r ih =>
    intro l1 l2 l3 l5 l6 l7 h hm y0 y1 y2 y3 y4   J Sm D
    have el6 := jfull l6
    rw [d_X4_goRound_r107d_45.eq_2] at D
    refine x_iload (x := l7) rfl rfl ?_
    refine x_iload (x := l5) rfl rfl ?_
    refine x_icge (tgt := 190) rfl rfl (ti_ge rfl rfl ⟨fun c1 => ?_, fun c1 => ?_⟩)
    ·
      rw [if_pos (by omega)] at D
      refine x_vret rfl rfl ?_
      exact hQ _ J Sm D.symm
    ·
      rw [if_neg (by omega)] at D
      refine x_aloadn (x := 107) rfl rfl ?_
      refine z_getI (N := 18) 4 16 rfl f_4_53 rfl J rfl sg_107_16_17_1_0_1 (fun v2 qv2 ev2 => ?_)
      try rw [vrf qv2] at D
      refine x_iconst (v := 1) rfl ki_1 ?_
      refine z_iadd rfl rfl jk_1 (by omega) (fun v3 ev3 => ?_)
      refine x_iload (x := l7) rfl rfl ?_
      refine z_iadd rfl rfl rfl (by omega) (fun v4 ev4 => ?_)
      refine x_iload (x := l5) rfl rfl ?_
      refine z_iremQ rfl rfl rfl (by omega) (by omega) (fun v5 ev5 => ?_)
      try rw [show ((v2.toInt + 1) + l7.toInt) = v4.toInt from by omega] at D
      try rw [← ev5.1] at D
      refine x_istore (lsx9 := [(8, .int v5), (0, .ref 107), (1, .int l1), (2, .int l2), (3, .int l3), (5, .int l5), (6, .int l6), (7, .int l7)]) rfl rfl rfl ?_
      refine x_aloadn (x := 107) rfl rfl ?_
      refine z_getR (N := 18) (b := 98) 4 2 rfl f_4_67 rfl J rfl 13698 ⟨rfl, rfl⟩ rfl ?_
      refine z_getR (N := 16) (b := 103) 0 6 rfl f_4_114 rfl J rfl 12550 ⟨rfl, rfl⟩ rfl ?_
      refine x_iload (x := v5) rfl rfl ?_
      refine z_iald (N := 40) rfl J rfl sg_103_0_40_1_0_1 rfl (by omega) (fun v6 qv6 ev6 => ?_)
      try rw [vrd qv6 (show v5.toInt = v5.toInt from by omega)] at D
      refine x_istore (lsx9 := [(9, .int v6), (8, .int v5), (0, .ref 107), (1, .int l1), (2, .int l2), (3, .int l3), (5, .int l5), (6, .int l6), (7, .int l7)]) rfl rfl rfl ?_
      refine x_aloadn (x := 107) rfl rfl ?_
      refine z_getR (N := 18) (b := 117) 4 13 rfl f_4_44 rfl J rfl 13709 ⟨rfl, rfl⟩ rfl ?_
      refine x_iload (x := v5) rfl rfl ?_
      refine z_iald (N := 40) rfl J rfl sg_117_0_40_1_0_1 rfl (by omega) (fun v7 qv7 ev7 => ?_)
      try rw [vrd qv7 (show v5.toInt = v5.toInt from by omega)] at D
      refine x_iconst (v := (-1)) rfl ki_m1 ?_
      refine x_iceq (tgt := 103) rfl rfl (ti_eq rfl jk_m1 ⟨fun c8 => ?_, fun c8 => ?_⟩)
      ·
        rw [if_pos (by omega)] at D
        exact jX.sub (jsb_c rfl (jsb_c rfl (jsb_c rfl (jsb_c rfl (jsb_c rfl (jsb_c rfl (jsb_c rfl (jsb_c rfl (jsb_c rfl jsb_n))))))))) (ct_X4_goRound_r107d_103 hD hQ ih l1 l2 l3 l5 l6 l7 v5 v6 h (jr_of rfl (by omega)) (jr_of rfl (by omega)) (jr_of rfl (by omega)) (jr_of rfl (by omega)) (jr_of rfl (by omega)) (jr_of rfl (by omega)) (jr_of rfl (by omega)) (by omega) J Sm D)
      ·
        rw [if_neg (by omega)] at D
        refine x_aloadn (x := 107) rfl rfl ?_
        refine z_getR (N := 18) (b := 117) 4 13 rfl f_4_44 rfl J rfl 13709 ⟨rfl, rfl⟩ rfl ?_
        refine x_iload (x := v5) rfl rfl ?_
        refine z_ialdM (N := 40) (v := v7) rfl J rfl rfl (by omega) qv7 ?_
        refine x_iloadn (x := l1) rfl rfl ?_
        refine x_iload (x := l6) rfl rfl ?_
        refine z_isubW rfl rfl rfl (fun v9 ev9 => ?_)
        have fv9 := jfull v9
        try rw [← ev9] at D
        refine x_icge (tgt := 107) rfl rfl (ti_ge rfl rfl ⟨fun c10 => ?_, fun c10 => ?_⟩)
        ·
          rw [if_pos (by omega)] at D
          refine x_iconst (v := 0) rfl ki_0 ?_
          exact jX.sub (jsb_c rfl (jsb_c rfl (jsb_c rfl (jsb_c rfl (jsb_c rfl (jsb_c rfl (jsb_c rfl (jsb_c rfl (jsb_c rfl jsb_n))))))))) (ct_X4_goRound_r107d_200108 hD hQ ih l1 l2 l3 l5 l6 l7 v5 v6 h (jr_of rfl (by omega)) (jr_of rfl (by omega)) (jr_of rfl (by omega)) (jr_of rfl (by omega)) (jr_of rfl (by omega)) (jr_of rfl (by omega)) (jr_of rfl (by omega)) (by omega) J Sm D)
        ·
          rw [if_neg (by omega)] at D
          exact jX.sub (jsb_c rfl (jsb_c rfl (jsb_c rfl (jsb_c rfl (jsb_c rfl (jsb_c rfl (jsb_c rfl (jsb_c rfl (jsb_c rfl jsb_n))))))))) (ct_X4_goRound_r107d_103 hD hQ ih l1 l2 l3 l5 l6 l7 v5 v6 h (jr_of rfl (by omega)) (jr_of rfl (by omega)) (jr_of rfl (by omega)) (jr_of rfl (by omega)) (jr_of rfl (by omega)) (jr_of rfl (by omega)) (jr_of rfl (by omega)) (by omega) J Sm D)
set_option maxRecDepth 100000 in
set_option maxHeartbeats 4000000 in
theorem ct_X4_goRound_r107d_200032 {Dy : jH → Prop} {h0 : jH} {Q : Option Value → jH → Prop} {dr : jW} (hD : jDk Dy) (hQ : ∀ hx9, jJ jSgX Dy hx9 → jSm fp_X4_goRound_r107d h0 hx9 → dr = vw hx9 → Q none hx9) : ∀ (l1 : Int32) (l2 : Int32) (l3 : Int32) (l5 : Int32) (h : jH), 0 ≤ l1.toInt ∧ l1.toInt ≤ 399 → 0 ≤ l2.toInt ∧ l2.toInt ≤ 29 → 0 ≤ l3.toInt ∧ l3.toInt ≤ 11 → 0 ≤ l5.toInt ∧ l5.toInt ≤ 40 → jJ jSgX Dy h → jSm fp_X4_goRound_r107d h0 h → d_X4_goRound_r107d_200032  l1.toInt l2.toInt l3.toInt l5.toInt (vw h) = dr → jX m_X4_goRound 6 0 0 32 [(0, .ref 107), (1, .int l1), (2, .int l2), (3, .int l3), (5, .int l5)] [.int 0] h 0 0 Q := by
  intro l1 l2 l3 l5 h y0 y1 y2 y3   J Sm D
  unfold d_X4_goRound_r107d_200032 at D
  refine x_istore (lsx9 := [(6, .int 0), (0, .ref 107), (1, .int l1), (2, .int l2), (3, .int l3), (5, .int l5)]) rfl rfl rfl ?_
  refine x_aloadn (x := 107) rfl rfl ?_
  refine z_getR (N := 18) (b := 116) 4 12 rfl f_4_41 rfl J rfl 13708 ⟨rfl, rfl⟩ rfl ?_
  refine x_iloadn (x := l1) rfl rfl ?_
  refine x_iload (x := l5) rfl rfl ?_
  refine z_iast (N := 400) (l := 0) (u := 400) (w := l5.toInt) rfl hD J Sm rfl rfl rfl (by omega) rfl (wr_116 (fun q1 q2 q3 q4 => by omega)) rfl (fun h w1 J Sm => ?_)
  rw [vww w1 (show l1.toInt = l1.toInt from by omega) (show l5.toInt = l5.toInt from by omega)] at D
  refine x_iconst (v := 0) rfl ki_0 ?_
  refine x_istore (lsx9 := [(7, .int 0), (6, .int 0), (0, .ref 107), (1, .int l1), (2, .int l2), (3, .int l3), (5, .int l5)]) rfl rfl rfl ?_
  exact jX.sub (jsb_c rfl (jsb_c rfl (jsb_c rfl (jsb_c rfl (jsb_c rfl (jsb_c rfl (jsb_c rfl jsb_n))))))) (ct_X4_goRound_r107d_45 hD hQ  41 l1 l2 l3 l5 0 0 h (by have := jk_0; omega) (jr_of rfl (by omega)) (jr_of rfl (by omega)) (jr_of rfl (by omega)) (jr_of rfl (by omega)) (jr_of jk_0 (by omega)) J Sm (by rw [jk_0]; exact D))
set_option maxRecDepth 100000 in
set_option maxHeartbeats 4000000 in
theorem ct_X4_goRound_r107d_32 {Dy : jH → Prop} {h0 : jH} {Q : Option Value → jH → Prop} {dr : jW} (hD : jDk Dy) (hQ : ∀ hx9, jJ jSgX Dy hx9 → jSm fp_X4_goRound_r107d h0 hx9 → dr = vw hx9 → Q none hx9) : ∀ (l1 : Int32) (l2 : Int32) (l3 : Int32) (l5 : Int32) (s0 : Int32) (h : jH), 0 ≤ l1.toInt ∧ l1.toInt ≤ 399 → 0 ≤ l2.toInt ∧ l2.toInt ≤ 29 → 0 ≤ l3.toInt ∧ l3.toInt ≤ 11 → 0 ≤ l5.toInt ∧ l5.toInt ≤ 40 → jJ jSgX Dy h → jSm fp_X4_goRound_r107d h0 h → d_X4_goRound_r107d_32  l1.toInt l2.toInt l3.toInt l5.toInt s0.toInt (vw h) = dr → jX m_X4_goRound 6 0 0 32 [(0, .ref 107), (1, .int l1), (2, .int l2), (3, .int l3), (5, .int l5)] [.int s0] h 0 0 Q := by
  intro l1 l2 l3 l5 s0 h y0 y1 y2 y3   J Sm D
  have es0 := jfull s0
  unfold d_X4_goRound_r107d_32 at D
  refine x_istore (lsx9 := [(6, .int s0), (0, .ref 107), (1, .int l1), (2, .int l2), (3, .int l3), (5, .int l5)]) rfl rfl rfl ?_
  refine x_aloadn (x := 107) rfl rfl ?_
  refine z_getR (N := 18) (b := 116) 4 12 rfl f_4_41 rfl J rfl 13708 ⟨rfl, rfl⟩ rfl ?_
  refine x_iloadn (x := l1) rfl rfl ?_
  refine x_iload (x := l5) rfl rfl ?_
  refine z_iast (N := 400) (l := 0) (u := 400) (w := l5.toInt) rfl hD J Sm rfl rfl rfl (by omega) rfl (wr_116 (fun q1 q2 q3 q4 => by omega)) rfl (fun h w1 J Sm => ?_)
  rw [vww w1 (show l1.toInt = l1.toInt from by omega) (show l5.toInt = l5.toInt from by omega)] at D
  refine x_iconst (v := 0) rfl ki_0 ?_
  refine x_istore (lsx9 := [(7, .int 0), (6, .int s0), (0, .ref 107), (1, .int l1), (2, .int l2), (3, .int l3), (5, .int l5)]) rfl rfl rfl ?_
  exact jX.sub (jsb_c rfl (jsb_c rfl (jsb_c rfl (jsb_c rfl (jsb_c rfl (jsb_c rfl (jsb_c rfl jsb_n))))))) (ct_X4_goRound_r107d_45 hD hQ  41 l1 l2 l3 l5 s0 0 h (by have := jk_0; omega) (jr_of rfl (by omega)) (jr_of rfl (by omega)) (jr_of rfl (by omega)) (jr_of rfl (by omega)) (jr_of jk_0 (by omega)) J Sm (by rw [jk_0]; exact D))
set_option maxRecDepth 100000 in
set_option maxHeartbeats 4000000 in
theorem sf_X4_goRound_r107d {Dy : jH → Prop} {h : jH} {Q : Option Value → jH → Prop} {dr : jW} {a1 : Int32} {a2 : Int32} {a3 : Int32} (y1 : 0 ≤ a1.toInt ∧ a1.toInt ≤ 399) (y2 : 0 ≤ a2.toInt ∧ a2.toInt ≤ 29) (y3 : 0 ≤ a3.toInt ∧ a3.toInt ≤ 11) (hD : jDk Dy) (J : jJ jSgX Dy h) (D : d_X4_goRound_r107d a1.toInt a2.toInt a3.toInt (vw h) = dr) (hQ : ∀ hx9, jJ jSgX Dy hx9 → jSm fp_X4_goRound_r107d h hx9 → dr = vw hx9 → Q none hx9) : jC m_X4_goRound 6 0 0 [.ref 107, .int a1, .int a2, .int a3] h Q := by
  refine jC.of rfl k_X4_goRound rfl ?_
  have Sm := jSm_rf fp_X4_goRound_r107d h
  show jX m_X4_goRound 6 0 0 0 [(0, .ref 107), (1, .int a1), (2, .int a2), (3, .int a3)] [] _ 0 0 _
  unfold d_X4_goRound_r107d at D
  refine x_aloadn (x := 107) rfl rfl ?_
  refine z_getR (N := 18) (b := 98) 4 2 rfl f_4_67 rfl J rfl 13698 ⟨rfl, rfl⟩ rfl ?_
  refine x_iloadn (x := a2) rfl rfl ?_
  refine x_inv (N := m_X0_textAt) (As := [.int a2]) (b := 98) (st := []) (dx9 := 5) (mc := 0) (ms := 0) (host := "") 0 rfl t_X0_textAt ⟨Or.inl q_4_161, i_X0_textAt.1, i_X0_textAt.2⟩ ⟨by decide, rfl⟩ (congrArg Prod.fst (J.1.1 98 (0, 16) rfl)) rfl (by decide) rfl rfl ⟨by decide, by decide⟩ (jC.of rfl k_X0_textAt rfl ?_)
  show jX m_X0_textAt 5 0 0 0 [(0, .ref 98), (1, .int a2)] [] _ 0 0 _
  refine x_iloadn (x := a2) rfl rfl ?_
  refine x_iflt (tgt := 33) rfl rfl (ti_lt rfl jk_0 (br_f (by omega) ?_))
  refine x_iloadn (x := a2) rfl rfl ?_
  refine x_aloadn (x := 98) rfl rfl ?_
  refine z_getR (N := 16) (b := 32) 0 0 rfl f_0_57 rfl J rfl 12544 ⟨rfl, rfl⟩ rfl ?_
  refine z_getI (N := 20) 1 18 rfl f_0_72 rfl J rfl sg_32_18_19_1_0_1 (fun v1 qv1 ev1 => ?_)
  try rw [vrf qv1] at D
  refine x_icge (tgt := 33) rfl rfl (ti_ge rfl rfl ⟨fun c2 => ?_, fun c2 => ?_⟩)
  ·
    rw [if_pos (by omega)] at D
    refine x_null rfl ?_
    refine x_aret rfl rfl rfl (Or.inl rfl) ?_
    show jX m_X4_goRound 6 0 0 8 [(0, .ref 107), (1, .int a1), (2, .int a2), (3, .int a3)] [.null] _ 0 0 _
    refine x_astoreN (lsx9 := [(4, .null), (0, .ref 107), (1, .int a1), (2, .int a2), (3, .int a3)]) rfl rfl rfl ?_
    refine x_aloadn (x := 107) rfl rfl ?_
    refine x_inv (N := m_X4_houses) (As := []) (b := 107) (st := []) (dx9 := 5) (mc := 0) (ms := 0) (host := "") 4 rfl t_X4_houses ⟨Or.inl q_4_107, i_X4_houses.1, i_X4_houses.2⟩ ⟨by decide, rfl⟩ (congrArg Prod.fst (J.1.1 107 (4, 18) rfl)) rfl (by decide) rfl rfl ⟨by decide, by decide⟩ (jC.of rfl k_X4_houses rfl ?_)
    show jX m_X4_houses 5 0 0 0 [(0, .ref 107)] [] _ 0 0 _
    refine x_bipush (v := 40) rfl kb_40 ?_
    refine x_aloadn (x := 107) rfl rfl ?_
    refine z_getR (N := 18) (b := 32) 4 0 rfl f_4_59 rfl J rfl 13696 ⟨rfl, rfl⟩ rfl ?_
    refine z_getR (N := 20) (b := 49) 1 8 rfl f_4_71 rfl J rfl 4104 ⟨rfl, rfl⟩ rfl ?_
    refine z_getI (N := 4) 8 3 rfl f_4_77 rfl J rfl sg_49_3_4_1_0_1 (fun v3 qv3 ev3 => ?_)
    try rw [vrf qv3] at D
    refine z_mmin rfl q_4_82 (by decide) rfl jk_40 rfl (fun v4 ev4 => ?_)
    refine x_iret rfl rfl ?_
    show jX m_X4_goRound 6 0 0 14 [(4, .null), (0, .ref 107), (1, .int a1), (2, .int a2), (3, .int a3)] [.int v4] _ 0 0 _
    refine x_istore (lsx9 := [(5, .int v4), (4, .null), (0, .ref 107), (1, .int a1), (2, .int a2), (3, .int a3)]) rfl rfl rfl ?_
    refine x_aloadN rfl rfl ?_
    refine x_ifnonnullN rfl ?_
    refine x_iconst (v := 0) rfl ki_0 ?_
    refine x_goto (tgt := 32) rfl rfl ?_
    try rw [show (min 40 v3.toInt) = v4.toInt from by omega] at D
    exact jX.sub (jsb_c rfl (jsb_c rfl (jsb_c rfl (jsb_c rfl (jsb_c rfl jsb_n))))) (ct_X4_goRound_r107d_200032 hD hQ  a1 a2 a3 v4 h (jr_of rfl (by omega)) (jr_of rfl (by omega)) (jr_of rfl (by omega)) (jr_of rfl (by omega)) J Sm D)
  ·
    rw [if_neg (by omega)] at D
    refine x_iloadn (x := a2) rfl rfl ?_
    refine x_bipush (v := 30) rfl kb_30 ?_
    refine x_icge (tgt := 33) rfl rfl (ti_ge rfl jk_30 (br_f (by omega) ?_))
    refine x_aloadn (x := 98) rfl rfl ?_
    refine z_getR (N := 16) (b := 32) 0 0 rfl f_0_57 rfl J rfl 12544 ⟨rfl, rfl⟩ rfl ?_
    refine z_getR (N := 20) (b := 66) 1 17 rfl f_0_77 rfl J rfl 4113 ⟨rfl, rfl⟩ rfl ?_
    refine x_iloadn (x := a2) rfl rfl ?_
    refine z_aaldTD rfl hD J rfl rfl (by omega) ⟨fun qb5 => ?_, fun b5 qb5 Tb5 => ?_⟩
    ·
      rw [if_pos (vnn qb5 (show a2.toInt = a2.toInt from by omega))] at D
      refine x_goto (tgt := 34) rfl rfl ?_
      refine x_aret rfl rfl rfl (Or.inl rfl) ?_
      show jX m_X4_goRound 6 0 0 8 [(0, .ref 107), (1, .int a1), (2, .int a2), (3, .int a3)] [.null] _ 0 0 _
      refine x_astoreN (lsx9 := [(4, .null), (0, .ref 107), (1, .int a1), (2, .int a2), (3, .int a3)]) rfl rfl rfl ?_
      refine x_aloadn (x := 107) rfl rfl ?_
      refine x_inv (N := m_X4_houses) (As := []) (b := 107) (st := []) (dx9 := 5) (mc := 0) (ms := 0) (host := "") 4 rfl t_X4_houses ⟨Or.inl q_4_107, i_X4_houses.1, i_X4_houses.2⟩ ⟨by decide, rfl⟩ (congrArg Prod.fst (J.1.1 107 (4, 18) rfl)) rfl (by decide) rfl rfl ⟨by decide, by decide⟩ (jC.of rfl k_X4_houses rfl ?_)
      show jX m_X4_houses 5 0 0 0 [(0, .ref 107)] [] _ 0 0 _
      refine x_bipush (v := 40) rfl kb_40 ?_
      refine x_aloadn (x := 107) rfl rfl ?_
      refine z_getR (N := 18) (b := 32) 4 0 rfl f_4_59 rfl J rfl 13696 ⟨rfl, rfl⟩ rfl ?_
      refine z_getR (N := 20) (b := 49) 1 8 rfl f_4_71 rfl J rfl 4104 ⟨rfl, rfl⟩ rfl ?_
      refine z_getI (N := 4) 8 3 rfl f_4_77 rfl J rfl sg_49_3_4_1_0_1 (fun v6 qv6 ev6 => ?_)
      try rw [vrf qv6] at D
      refine z_mmin rfl q_4_82 (by decide) rfl jk_40 rfl (fun v7 ev7 => ?_)
      refine x_iret rfl rfl ?_
      show jX m_X4_goRound 6 0 0 14 [(4, .null), (0, .ref 107), (1, .int a1), (2, .int a2), (3, .int a3)] [.int v7] _ 0 0 _
      refine x_istore (lsx9 := [(5, .int v7), (4, .null), (0, .ref 107), (1, .int a1), (2, .int a2), (3, .int a3)]) rfl rfl rfl ?_
      refine x_aloadN rfl rfl ?_
      refine x_ifnonnullN rfl ?_
      refine x_iconst (v := 0) rfl ki_0 ?_
      refine x_goto (tgt := 32) rfl rfl ?_
      try rw [show (min 40 v6.toInt) = v7.toInt from by omega] at D
      exact jX.sub (jsb_c rfl (jsb_c rfl (jsb_c rfl (jsb_c rfl (jsb_c rfl jsb_n))))) (ct_X4_goRound_r107d_200032 hD hQ  a1 a2 a3 v7 h (jr_of rfl (by omega)) (jr_of rfl (by omega)) (jr_of rfl (by omega)) (jr_of rfl (by omega)) J Sm D)
    ·
      rw [if_neg (vns qb5 (show a2.toInt = a2.toInt from by omega))] at D
      try rw [vrs qb5 (show a2.toInt = a2.toInt from by omega)] at D
      refine x_goto (tgt := 34) rfl rfl ?_
      refine x_aret rfl rfl rfl (Or.inr ⟨_, rfl⟩) ?_
      show jX m_X4_goRound 6 0 0 8 [(0, .ref 107), (1, .int a1), (2, .int a2), (3, .int a3)] [.ref b5] _ 0 0 _
      refine x_astore (lsx9 := [(4, .ref b5), (0, .ref 107), (1, .int a1), (2, .int a2), (3, .int a3)]) rfl rfl rfl ?_
      refine x_aloadn (x := 107) rfl rfl ?_
      refine x_inv (N := m_X4_houses) (As := []) (b := 107) (st := []) (dx9 := 5) (mc := 0) (ms := 0) (host := "") 4 rfl t_X4_houses ⟨Or.inl q_4_107, i_X4_houses.1, i_X4_houses.2⟩ ⟨by decide, rfl⟩ (congrArg Prod.fst (J.1.1 107 (4, 18) rfl)) rfl (by decide) rfl rfl ⟨by decide, by decide⟩ (jC.of rfl k_X4_houses rfl ?_)
      show jX m_X4_houses 5 0 0 0 [(0, .ref 107)] [] _ 0 0 _
      refine x_bipush (v := 40) rfl kb_40 ?_
      refine x_aloadn (x := 107) rfl rfl ?_
      refine z_getR (N := 18) (b := 32) 4 0 rfl f_4_59 rfl J rfl 13696 ⟨rfl, rfl⟩ rfl ?_
      refine z_getR (N := 20) (b := 49) 1 8 rfl f_4_71 rfl J rfl 4104 ⟨rfl, rfl⟩ rfl ?_
      refine z_getI (N := 4) 8 3 rfl f_4_77 rfl J rfl sg_49_3_4_1_0_1 (fun v8 qv8 ev8 => ?_)
      try rw [vrf qv8] at D
      refine z_mmin rfl q_4_82 (by decide) rfl jk_40 rfl (fun v9 ev9 => ?_)
      refine x_iret rfl rfl ?_
      show jX m_X4_goRound 6 0 0 14 [(4, .ref b5), (0, .ref 107), (1, .int a1), (2, .int a2), (3, .int a3)] [.int v9] _ 0 0 _
      refine x_istore (lsx9 := [(5, .int v9), (4, .ref b5), (0, .ref 107), (1, .int a1), (2, .int a2), (3, .int a3)]) rfl rfl rfl ?_
      refine x_aload (x := b5) rfl rfl ?_
      refine x_ifnonnull (tgt := 25) rfl rfl ?_
      refine x_aload (x := b5) rfl rfl ?_
      refine x_iloadn (x := a3) rfl rfl ?_
      refine x_iconst (v := 2) rfl ki_2 ?_
      refine x_inv (N := m_X10_head) (As := [.int a3, .int 2]) (b := b5) (st := []) (dx9 := 1) (mc := 0) (ms := 0) (host := "") 10 rfl t_X10_head ⟨Or.inl q_4_167, i_X10_head.1, i_X10_head.2⟩ ⟨by decide, rfl⟩ (congrArg Prod.fst Tb5.1.2.2) rfl (by decide) rfl rfl ⟨by decide, by decide⟩ (c_headD Tb5 rfl jk_2 (fun v10 ev10 => ?_))
      have fv10 := jfull v10
      try rw [← ev10] at D
      show jX m_X4_goRound 6 0 0 32 [(5, .int v9), (4, .ref b5), (0, .ref 107), (1, .int a1), (2, .int a2), (3, .int a3)] [.int v10] _ 0 0 _
      try rw [show (min 40 v8.toInt) = v9.toInt from by omega] at D
      exact jX.sub (jsb_c rfl (jsb_c rfl (jsb_c rfl (jsb_c rfl (jsb_c rfl jsb_n))))) (ct_X4_goRound_r107d_32 hD hQ  a1 a2 a3 v9 v10 h (jr_of rfl (by omega)) (jr_of rfl (by omega)) (jr_of rfl (by omega)) (jr_of rfl (by omega)) J Sm D)
def fp_X4_runTurns_r107d : jFp := [(85, 0, 4), (98, 10, 11), (98, 11, 12), (98, 12, 13), (99, 0, 30), (100, 0, 30), (101, 0, 3), (102, 0, 40), (103, 0, 40), (104, 0, 40), (105, 0, 3), (106, 0, 100), (107, 15, 16), (107, 16, 17), (115, 0, 400), (116, 0, 400), (117, 0, 40), (119, 0, 3)]
set_option maxRecDepth 100000 in
set_option maxHeartbeats 4000000 in
theorem ct_X4_runTurns_r107d_170 {Dy : jH → Prop} {h0 : jH} {Q : Option Value → jH → Prop} {dr : jW} (hD : jDk Dy) (hQ : ∀ hx9, jJ jSgX Dy hx9 → jSm fp_X4_runTurns_r107d h0 hx9 → dr = vw hx9 → Q none hx9) : ∀ (h : jH), jJ jSgX Dy h → jSm fp_X4_runTurns_r107d h0 h → d_X4_runTurns_r107d_170  (vw h) = dr → jX m_X4_runTurns 7 0 0 170 [] [] h 0 0 Q := by
  intro  h    J Sm D
  unfold d_X4_runTurns_r107d_170 at D
  refine x_vret rfl rfl ?_
  exact hQ _ J Sm D.symm
set_option maxRecDepth 100000 in
set_option maxHeartbeats 4000000 in
theorem ct_X4_runTurns_r107d_157 {Dy : jH → Prop} {h0 : jH} {Q : Option Value → jH → Prop} {dr : jW} {K53 : Int → Int → Int → jW → jW} {R53 : Int} (hD : jDk Dy) (hQ : ∀ hx9, jJ jSgX Dy hx9 → jSm fp_X4_runTurns_r107d h0 hx9 → dr = vw hx9 → Q none hx9) (k53 : ∀ (l1 : Int32) (l2 : Int32) (l3 : Int32) (g0 : Int32) (h : jH), 400 - g0.toInt < R53 → 0 ≤ l1.toInt ∧ l1.toInt ≤ 3 → 0 ≤ l2.toInt ∧ l2.toInt ≤ 399 → 0 ≤ l3.toInt ∧ l3.toInt ≤ 146399 → 0 ≤ g0.toInt ∧ g0.toInt ≤ 400 → jiv h 107 15 = g0 → jJ jSgX Dy h → jSm fp_X4_runTurns_r107d h0 h → K53 l1.toInt l2.toInt l3.toInt (vw h) = dr → jX m_X4_runTurns 7 0 0 53 [(0, .ref 107), (1, .int l1), (2, .int l2), (3, .int l3)] [] h 0 0 Q) : ∀ (l1 : Int32) (l2 : Int32) (l3 : Int32) (g0 : Int32) (h : jH), 0 ≤ l1.toInt ∧ l1.toInt ≤ 3 → 0 ≤ l2.toInt ∧ l2.toInt ≤ 399 → 0 ≤ l3.toInt ∧ l3.toInt ≤ 146399 → 0 ≤ g0.toInt ∧ g0.toInt ≤ 399 → jiv h 107 15 = g0 → 400 - g0.toInt ≤ R53 → jJ jSgX Dy h → jSm fp_X4_runTurns_r107d h0 h → d_X4_runTurns_r107d_157 K53  l1.toInt l2.toInt l3.toInt (vw h) = dr → jX m_X4_runTurns 7 0 0 157 [(0, .ref 107), (1, .int l1), (2, .int l2), (3, .int l3)] [] h 0 0 Q := by
  intro l1 l2 l3 g0 h y0 y1 y2 y3 z0 m53 J Sm D
  unfold d_X4_runTurns_r107d_157 at D
  try rw [vrf z0] at D
  refine x_aloadn (x := 107) rfl rfl ?_
  refine x_dup rfl rfl ?_
  refine z_getM (N := 18) (v := g0) 4 15 rfl f_4_50 rfl J rfl z0 ?_
  refine x_iconst (v := 1) rfl ki_1 ?_
  refine z_iadd rfl rfl jk_1 (by omega) (fun v1 ev1 => ?_)
  refine z_putI (N := 18) (w := v1.toInt) 4 15 rfl f_4_50 rfl (jfin_no TX4 RX4 18 rfl rfl) hD J Sm rfl rfl rfl (pw_107_15 (by omega)) rfl (fun h w2 J Sm => ?_)
  rw [vwf w2 (show (g0.toInt + 1) = v1.toInt from by omega)] at D
  refine x_goto (tgt := 53) rfl rfl ?_
  exact jX.sub (jsb_c rfl (jsb_c rfl (jsb_c rfl (jsb_c rfl jsb_n)))) (k53 l1 l2 l3 v1 h (by omega) (jr_of rfl (by omega)) (jr_of rfl (by omega)) (jr_of rfl (by omega)) (jr_of rfl (by omega)) (jmw w2) J Sm D)
set_option maxRecDepth 100000 in
set_option maxHeartbeats 4000000 in
theorem ct_X4_runTurns_r107d_53 {Dy : jH → Prop} {h0 : jH} {Q : Option Value → jH → Prop} {dr : jW} (hD : jDk Dy) (hQ : ∀ hx9, jJ jSgX Dy hx9 → jSm fp_X4_runTurns_r107d h0 hx9 → dr = vw hx9 → Q none hx9) : ∀ r : Nat, ∀ (l1 : Int32) (l2 : Int32) (l3 : Int32) (g0 : Int32) (h : jH), 400 - g0.toInt < (r : Int) → 0 ≤ l1.toInt ∧ l1.toInt ≤ 3 → 0 ≤ l2.toInt ∧ l2.toInt ≤ 399 → 0 ≤ l3.toInt ∧ l3.toInt ≤ 146399 → 0 ≤ g0.toInt ∧ g0.toInt ≤ 400 → jiv h 107 15 = g0 → jJ jSgX Dy h → jSm fp_X4_runTurns_r107d h0 h → d_X4_runTurns_r107d_53 r l1.toInt l2.toInt l3.toInt (vw h) = dr → jX m_X4_runTurns 7 0 0 53 [(0, .ref 107), (1, .int l1), (2, .int l2), (3, .int l3)] [] h 0 0 Q := by
  intro r
  induction r with
  | zero =>
    intro l1 l2 l3 g0 h hm y0 y1 y2 y3 z0  J Sm D
    exfalso
    omega
  | succ r ih =>
    intro l1 l2 l3 g0 h hm y0 y1 y2 y3 z0  J Sm D
    rw [d_X4_runTurns_r107d_53.eq_2] at D
    try rw [vrf z0] at D
    refine x_aloadn (x := 107) rfl rfl ?_
    refine z_getM (N := 18) (v := g0) 4 15 rfl f_4_50 rfl J rfl z0 ?_
    refine x_iloadn (x := l2) rfl rfl ?_
    refine x_icgt (tgt := 170) rfl rfl (ti_gt rfl rfl ⟨fun c1 => ?_, fun c1 => ?_⟩)
    ·
      rw [if_pos (by omega)] at D
      exact jX.sub jsb_n (ct_X4_runTurns_r107d_170 hD hQ  h J Sm D)
    ·
      rw [if_neg (by omega)] at D
      refine x_aloadn (x := 107) rfl rfl ?_
      refine z_getM (N := 18) (v := g0) 4 15 rfl f_4_50 rfl J rfl z0 ?_
      refine x_sipush (v := 399) rfl ks_399 ?_
      refine x_icgt (tgt := 170) rfl rfl (ti_gt rfl jk_399 (br_f (by omega) ?_))
      refine x_aloadn (x := 107) rfl rfl ?_
      refine z_getR (N := 18) (b := 115) 4 11 rfl f_4_38 rfl J rfl 13707 ⟨rfl, rfl⟩ rfl ?_
      refine x_aloadn (x := 107) rfl rfl ?_
      refine z_getM (N := 18) (v := g0) 4 15 rfl f_4_50 rfl J rfl z0 ?_
      refine x_iconst (v := (-1)) rfl ki_m1 ?_
      refine z_iast (N := 400) (l := 0) (u := 400) (w := (-1)) rfl hD J Sm rfl rfl rfl (by omega) jk_m1 (wr_115 (fun q1 q2 q3 q4 => by omega)) rfl (fun h w2 J Sm => ?_)
      rw [vww w2 (show g0.toInt = g0.toInt from by omega) (show (-1) = ((-1) : Int32).toInt from by have := jk_m1; omega)] at D
      refine x_aloadn (x := 107) rfl rfl ?_
      refine z_getR (N := 18) (b := 116) 4 12 rfl f_4_41 rfl J rfl 13708 ⟨rfl, rfl⟩ rfl ?_
      refine x_aloadn (x := 107) rfl rfl ?_
      refine z_getM (N := 18) (v := g0) 4 15 rfl f_4_50 rfl J rfl (jmo w2 rfl z0) ?_
      refine x_iconst (v := 0) rfl ki_0 ?_
      refine z_iast (N := 400) (l := 0) (u := 400) (w := 0) rfl hD J Sm rfl rfl rfl (by omega) jk_0 (wr_116 (fun q1 q2 q3 q4 => by omega)) rfl (fun h w3 J Sm => ?_)
      rw [vww w3 (show g0.toInt = g0.toInt from by omega) (show 0 = (0 : Int32).toInt from by have := jk_0; omega)] at D
      refine x_aloadn (x := 107) rfl rfl ?_
      refine z_getR (N := 18) (b := 98) 4 2 rfl f_4_67 rfl J rfl 13698 ⟨rfl, rfl⟩ rfl ?_
      refine x_aloadn (x := 107) rfl rfl ?_
      refine z_getM (N := 18) (v := g0) 4 15 rfl f_4_50 rfl J rfl (jmo w3 rfl (jmo w2 rfl z0)) ?_
      refine x_sipush (v := 366) rfl ks_366 ?_
      refine z_imul rfl rfl jk_366 (by omega) (fun v4 ev4 => ?_)
      refine x_iloadn (x := l3) rfl rfl ?_
      try rw [show (g0.toInt * 366) = v4.toInt from by omega] at D
      refine x_inv (N := m_X0_readLaws) (As := [.int v4, .int l3]) (b := 98) (st := []) (dx9 := 3) (mc := 0) (ms := 0) (host := "") 0 rfl t_X0_readLaws ⟨Or.inl q_4_147, i_X0_readLaws.1, i_X0_readLaws.2⟩ ⟨by decide, rfl⟩ (congrArg Prod.fst (J.1.1 98 (0, 16) rfl)) rfl (by decide) rfl rfl ⟨by decide, by decide⟩ (sf_X0_readLaws_r98d (jr_of rfl (by omega)) (jr_of rfl (by omega)) hD J rfl  (fun h J S5 X6 => ?_))
      have Sm := jSm_tr rfl Sm S5
      rw [X6] at D
      show jX m_X4_runTurns 7 0 0 107 [(0, .ref 107), (1, .int l1), (2, .int l2), (3, .int l3)] [] _ 0 0 _
      refine x_aloadn (x := 107) rfl rfl ?_
      refine z_getR (N := 18) (b := 98) 4 2 rfl f_4_67 rfl J rfl 13698 ⟨rfl, rfl⟩ rfl ?_
      refine x_iloadn (x := l1) rfl rfl ?_
      refine x_inv (N := m_X0_lastTurn) (As := [.int l1]) (b := 98) (st := []) (dx9 := 3) (mc := 0) (ms := 0) (host := "") 0 rfl t_X0_lastTurn ⟨Or.inl q_4_150, i_X0_lastTurn.1, i_X0_lastTurn.2⟩ ⟨by decide, rfl⟩ (congrArg Prod.fst (J.1.1 98 (0, 16) rfl)) rfl (by decide) rfl rfl ⟨by decide, by decide⟩ (sf_X0_lastTurn_r98d (jr_of rfl (by omega)) hD J rfl  (fun v10 h ev10 J S7 X8 X9 => ?_))
      have Sm := jSm_tr rfl Sm S7
      try rw [X8] at D
      try rw [← X9] at D
      show jX m_X4_runTurns 7 0 0 115 [(0, .ref 107), (1, .int l1), (2, .int l2), (3, .int l3)] [.int v10] _ 0 0 _
      refine x_istore (lsx9 := [(4, .int v10), (0, .ref 107), (1, .int l1), (2, .int l2), (3, .int l3)]) rfl rfl rfl ?_
      refine x_iload (x := v10) rfl rfl ?_
      refine x_iconst (v := (-1)) rfl ki_m1 ?_
      refine x_iceq (tgt := 157) rfl rfl (ti_eq rfl jk_m1 ⟨fun c11 => ?_, fun c11 => ?_⟩)
      ·
        rw [if_pos (by omega)] at D
        exact jX.sub (jsb_c rfl (jsb_c rfl (jsb_c rfl (jsb_c rfl jsb_n)))) (ct_X4_runTurns_r107d_157 hD hQ ih l1 l2 l3 g0 h (jr_of rfl (by omega)) (jr_of rfl (by omega)) (jr_of rfl (by omega)) (jr_of rfl (by omega)) (jmc S7 rfl (jmc S5 rfl (jmo w3 rfl (jmo w2 rfl z0)))) (by omega) J Sm D)
      ·
        rw [if_neg (by omega)] at D
        refine x_aloadn (x := 107) rfl rfl ?_
        refine z_getR (N := 18) (b := 98) 4 2 rfl f_4_67 rfl J rfl 13698 ⟨rfl, rfl⟩ rfl ?_
        refine x_aloadn (x := 107) rfl rfl ?_
        refine z_getM (N := 18) (v := g0) 4 15 rfl f_4_50 rfl J rfl (jmc S7 rfl (jmc S5 rfl (jmo w3 rfl (jmo w2 rfl z0)))) ?_
        refine x_sipush (v := 366) rfl ks_366 ?_
        refine z_imul rfl rfl jk_366 (by omega) (fun v12 ev12 => ?_)
        refine x_iloadn (x := l3) rfl rfl ?_
        try rw [show v4.toInt = v12.toInt from by omega] at D
        refine x_inv (N := m_X0_readHouses) (As := [.int v12, .int l3]) (b := 98) (st := []) (dx9 := 3) (mc := 0) (ms := 0) (host := "") 0 rfl t_X0_readHouses ⟨Or.inl q_4_154, i_X0_readHouses.1, i_X0_readHouses.2⟩ ⟨by decide, rfl⟩ (congrArg Prod.fst (J.1.1 98 (0, 16) rfl)) rfl (by decide) rfl rfl ⟨by decide, by decide⟩ (sf_X0_readHouses_r98d (jr_of rfl (by omega)) (jr_of rfl (by omega)) hD J rfl  (fun h J S13 X14 => ?_))
        have Sm := jSm_tr rfl Sm S13
        rw [X14] at D
        show jX m_X4_runTurns 7 0 0 139 [(4, .int v10), (0, .ref 107), (1, .int l1), (2, .int l2), (3, .int l3)] [] _ 0 0 _
        refine x_aloadn (x := 107) rfl rfl ?_
        refine x_aloadn (x := 107) rfl rfl ?_
        refine z_getM (N := 18) (v := g0) 4 15 rfl f_4_50 rfl J rfl (jmc S13 rfl (jmc S7 rfl (jmc S5 rfl (jmo w3 rfl (jmo w2 rfl z0))))) ?_
        refine x_iload (x := v10) rfl rfl ?_
        refine x_bipush (v := 12) rfl kb_12 ?_
        refine z_idiv rfl rfl jk_12 (by omega) (by omega) (fun v15 ev15 => ?_)
        refine x_iload (x := v10) rfl rfl ?_
        refine x_bipush (v := 12) rfl kb_12 ?_
        refine z_irem rfl rfl jk_12 (by omega) (by omega) (fun v16 ev16 => ?_)
        try rw [show (v10.toInt / 12) = v15.toInt from by omega] at D
        try rw [show (v10.toInt % 12) = v16.toInt from by omega] at D
        refine x_inv (N := m_X4_goRound) (As := [.int g0, .int v15, .int v16]) (b := 107) (st := []) (dx9 := 6) (mc := 0) (ms := 0) (host := "") 4 rfl t_X4_goRound ⟨Or.inl q_4_157, i_X4_goRound.1, i_X4_goRound.2⟩ ⟨by decide, rfl⟩ (congrArg Prod.fst (J.1.1 107 (4, 18) rfl)) rfl (by decide) rfl rfl ⟨by decide, by decide⟩ (sf_X4_goRound_r107d (jr_of rfl (by omega)) (jr_of rfl (by omega)) (jr_of rfl (by omega)) hD J rfl  (fun h J S17 X18 => ?_))
        have Sm := jSm_tr rfl Sm S17
        rw [X18] at D
        show jX m_X4_runTurns 7 0 0 157 [(4, .int v10), (0, .ref 107), (1, .int l1), (2, .int l2), (3, .int l3)] [] _ 0 0 _
        exact jX.sub (jsb_c rfl (jsb_c rfl (jsb_c rfl (jsb_c rfl jsb_n)))) (ct_X4_runTurns_r107d_157 hD hQ ih l1 l2 l3 g0 h (jr_of rfl (by omega)) (jr_of rfl (by omega)) (jr_of rfl (by omega)) (jr_of rfl (by omega)) (jmc S17 rfl (jmc S13 rfl (jmc S7 rfl (jmc S5 rfl (jmo w3 rfl (jmo w2 rfl z0)))))) (by omega) J Sm D)
set_option maxRecDepth 100000 in
set_option maxHeartbeats 4000000 in
theorem ct_X4_runTurns_r107d_32 {Dy : jH → Prop} {h0 : jH} {Q : Option Value → jH → Prop} {dr : jW} (hD : jDk Dy) (hQ : ∀ hx9, jJ jSgX Dy hx9 → jSm fp_X4_runTurns_r107d h0 hx9 → dr = vw hx9 → Q none hx9) : ∀ r : Nat, ∀ (l1 : Int32) (l2 : Int32) (l3 : Int32) (l4 : Int32) (g0 : Int32) (h : jH), 40 - l4.toInt < (r : Int) → 0 ≤ l1.toInt ∧ l1.toInt ≤ 3 → 0 ≤ l2.toInt ∧ l2.toInt ≤ 399 → 0 ≤ l3.toInt ∧ l3.toInt ≤ 146399 → 0 ≤ l4.toInt ∧ l4.toInt ≤ 40 → 0 ≤ g0.toInt ∧ g0.toInt ≤ 0 → jiv h 107 15 = g0 → jJ jSgX Dy h → jSm fp_X4_runTurns_r107d h0 h → d_X4_runTurns_r107d_32 r l1.toInt l2.toInt l3.toInt l4.toInt (vw h) = dr → jX m_X4_runTurns 7 0 0 32 [(0, .ref 107), (1, .int l1), (2, .int l2), (3, .int l3), (4, .int l4)] [] h 0 0 Q := by
  intro r
  induction r with
  | zero =>
    intro l1 l2 l3 l4 g0 h hm y0 y1 y2 y3 y4 z0  J Sm D
    exfalso
    omega
  | succ r ih =>
    intro l1 l2 l3 l4 g0 h hm y0 y1 y2 y3 y4 z0  J Sm D
    rw [d_X4_runTurns_r107d_32.eq_2] at D
    try rw [vrf z0] at D
    refine x_iload (x := l4) rfl rfl ?_
    refine x_bipush (v := 40) rfl kb_40 ?_
    refine x_icge (tgt := 53) rfl rfl (ti_ge rfl jk_40 ⟨fun c1 => ?_, fun c1 => ?_⟩)
    ·
      rw [if_pos (by omega)] at D
      exact jX.sub (jsb_c rfl (jsb_c rfl (jsb_c rfl (jsb_c rfl jsb_n)))) (ct_X4_runTurns_r107d_53 hD hQ  401 l1 l2 l3 g0 h (by omega) (jr_of rfl (by omega)) (jr_of rfl (by omega)) (jr_of rfl (by omega)) (jr_of rfl (by omega)) z0 J Sm D)
    ·
      rw [if_neg (by omega)] at D
      refine x_aloadn (x := 107) rfl rfl ?_
      refine z_getR (N := 18) (b := 117) 4 13 rfl f_4_44 rfl J rfl 13709 ⟨rfl, rfl⟩ rfl ?_
      refine x_iload (x := l4) rfl rfl ?_
      refine x_iconst (v := (-1)) rfl ki_m1 ?_
      refine z_iast (N := 40) (l := 0) (u := 40) (w := (-1)) rfl hD J Sm rfl rfl rfl (by omega) jk_m1 (wr_117 (fun q1 q2 q3 q4 => by omega)) rfl (fun h w2 J Sm => ?_)
      rw [vww w2 (show l4.toInt = l4.toInt from by omega) (show (-1) = ((-1) : Int32).toInt from by have := jk_m1; omega)] at D
      refine z_iinc (x := l4) (lsx9 := fun v3 => [(4, .int v3), (0, .ref 107), (1, .int l1), (2, .int l2), (3, .int l3)]) rfl rfl rfl jko_1 (by omega) rfl (fun _ => rfl) (fun v3 ev3 => ?_)
      refine x_goto (tgt := 32) rfl rfl ?_
      try rw [show (l4.toInt + 1) = v3.toInt from by omega] at D
      exact jX.sub (jsb_c rfl (jsb_c rfl (jsb_c rfl (jsb_c rfl (jsb_c rfl jsb_n))))) (ih l1 l2 l3 v3 g0 h (by omega) (jr_of rfl (by omega)) (jr_of rfl (by omega)) (jr_of rfl (by omega)) (jr_of rfl (by omega)) (jr_of rfl (by omega)) (jmo w2 rfl z0) J Sm D)
set_option maxRecDepth 100000 in
set_option maxHeartbeats 4000000 in
theorem sf_X4_runTurns_r107d {Dy : jH → Prop} {h : jH} {Q : Option Value → jH → Prop} {dr : jW} {a1 : Int32} {a2 : Int32} {a3 : Int32} (y1 : 0 ≤ a1.toInt ∧ a1.toInt ≤ 3) (y2 : 0 ≤ a2.toInt ∧ a2.toInt ≤ 399) (y3 : 0 ≤ a3.toInt ∧ a3.toInt ≤ 146399) (hD : jDk Dy) (J : jJ jSgX Dy h) (D : d_X4_runTurns_r107d a1.toInt a2.toInt a3.toInt (vw h) = dr) (hQ : ∀ hx9, jJ jSgX Dy hx9 → jSm fp_X4_runTurns_r107d h hx9 → dr = vw hx9 → Q none hx9) : jC m_X4_runTurns 7 0 0 [.ref 107, .int a1, .int a2, .int a3] h Q := by
  refine jC.of rfl k_X4_runTurns rfl ?_
  have Sm := jSm_rf fp_X4_runTurns_r107d h
  show jX m_X4_runTurns 7 0 0 0 [(0, .ref 107), (1, .int a1), (2, .int a2), (3, .int a3)] [] _ 0 0 _
  unfold d_X4_runTurns_r107d at D
  refine x_aloadn (x := 107) rfl rfl ?_
  refine z_getR (N := 18) (b := 119) 4 17 rfl f_4_56 rfl J rfl 13713 ⟨rfl, rfl⟩ rfl ?_
  refine x_iloadn (x := a1) rfl rfl ?_
  refine x_iloadn (x := a3) rfl rfl ?_
  refine x_aloadn (x := 107) rfl rfl ?_
  refine z_getR (N := 18) (b := 32) 4 0 rfl f_4_59 rfl J rfl 13696 ⟨rfl, rfl⟩ rfl ?_
  refine z_getI0 (N := 20) 1 19 rfl f_4_88 rfl J rfl (fun v1 qv1 => ?_)
  have ev1 := jfull v1
  try rw [vrf qv1] at D
  refine x_inst (N := m_X11_isFresh) (As := [.ref 119, .int a1, .int a3, .int v1]) (st := []) (dx9 := 6) (mc := 0) (ms := 0) (host := "ParishChest") rfl t_X11_isFresh ⟨Or.inr q_4_91, s_X11_isFresh⟩ rfl (by decide) rfl rfl ⟨by decide, by decide⟩ (jC.of rfl k_X11_isFresh rfl ?_)
  show jX m_X11_isFresh 6 0 0 0 [(0, .ref 119), (1, .int a1), (2, .int a3), (3, .int v1)] [] _ 0 0 _
  refine x_aloadn (x := 119) rfl rfl ?_
  refine z_alen (N := 3) (v := 3) rfl J rfl rfl (by decide) ?_
  refine x_iconst (v := 3) rfl ki_3 ?_
  refine x_icge (tgt := 8) rfl rfl (ti_ge jk_3 jk_3 (br_t (by omega) ?_))
  refine x_aloadn (x := 119) rfl rfl ?_
  refine x_iconst (v := 0) rfl ki_0 ?_
  refine z_iald0 (N := 3) rfl J rfl jk_0 (by omega) (fun v2 qv2 => ?_)
  have ev2 := jfull v2
  try rw [vrn (n := 0) (by decide) qv2] at D
  refine x_iloadn (x := a1) rfl rfl ?_
  refine x_icne (tgt := 33) rfl rfl (ti_ne rfl rfl ⟨fun c3 => ?_, fun c3 => ?_⟩)
  ·
    rw [if_neg (by omega)] at D
    refine x_iconst (v := 0) rfl ki_0 ?_
    refine x_istore (lsx9 := [(4, .int 0), (0, .ref 119), (1, .int a1), (2, .int a3), (3, .int v1)]) rfl rfl rfl ?_
    refine x_aloadn (x := 119) rfl rfl ?_
    refine x_iconst (v := 0) rfl ki_0 ?_
    refine x_iloadn (x := a1) rfl rfl ?_
    refine z_iast (N := 3) (l := 0) (u := 3) (w := a1.toInt) rfl hD J Sm rfl rfl jk_0 (by omega) rfl (wr_119) rfl (fun h w4 J Sm => ?_)
    rw [vwn (n := 0) (by decide) w4 (show a1.toInt = a1.toInt from by omega)] at D
    refine x_aloadn (x := 119) rfl rfl ?_
    refine x_iconst (v := 1) rfl ki_1 ?_
    refine x_iloadn (x := a3) rfl rfl ?_
    refine z_iast (N := 3) (l := 0) (u := 3) (w := a3.toInt) rfl hD J Sm rfl rfl jk_1 (by omega) rfl (wr_119) rfl (fun h w5 J Sm => ?_)
    rw [vwn (n := 1) (by decide) w5 (show a3.toInt = a3.toInt from by omega)] at D
    refine x_aloadn (x := 119) rfl rfl ?_
    refine x_iconst (v := 2) rfl ki_2 ?_
    refine x_iloadn (x := v1) rfl rfl ?_
    refine z_iast (N := 3) (l := 0) (u := 3) (w := v1.toInt) rfl hD J Sm rfl rfl jk_2 (by omega) rfl (wr_119) rfl (fun h w6 J Sm => ?_)
    rw [vwn (n := 2) (by decide) w6 (show v1.toInt = v1.toInt from by omega)] at D
    refine x_iload (x := 0) rfl rfl ?_
    refine x_zret rfl rfl (by decide) ?_
    show jX m_X4_runTurns 7 0 0 16 [(0, .ref 107), (1, .int a1), (2, .int a2), (3, .int a3)] [.int 0] _ 0 0 _
    refine x_ifne (tgt := 53) rfl rfl (ti_ne jk_0 jk_0 (bn_f (by omega) ?_))
    refine x_aloadn (x := 107) rfl rfl ?_
    refine x_iconst (v := 0) rfl ki_0 ?_
    refine z_putI (N := 18) (w := 0) 4 15 rfl f_4_50 rfl (jfin_no TX4 RX4 18 rfl rfl) hD J Sm rfl rfl jk_0 (pw_107_15 (by omega)) rfl (fun h w7 J Sm => ?_)
    rw [vwf w7 (show 0 = (0 : Int32).toInt from by have := jk_0; omega)] at D
    refine x_aloadn (x := 107) rfl rfl ?_
    refine x_iconst (v := (-1)) rfl ki_m1 ?_
    refine z_putI (N := 18) (w := (-1)) 4 16 rfl f_4_53 rfl (jfin_no TX4 RX4 18 rfl rfl) hD J Sm rfl rfl jk_m1 (pw_107_16 (by omega)) rfl (fun h w8 J Sm => ?_)
    rw [vwf w8 (show (-1) = ((-1) : Int32).toInt from by have := jk_m1; omega)] at D
    refine x_iconst (v := 0) rfl ki_0 ?_
    refine x_istore (lsx9 := [(4, .int 0), (0, .ref 107), (1, .int a1), (2, .int a2), (3, .int a3)]) rfl rfl rfl ?_
    exact jX.sub (jsb_c rfl (jsb_c rfl (jsb_c rfl (jsb_c rfl (jsb_c rfl jsb_n))))) (ct_X4_runTurns_r107d_32 hD hQ  41 a1 a2 a3 0 0 h (by have := jk_0; omega) (jr_of rfl (by omega)) (jr_of rfl (by omega)) (jr_of rfl (by omega)) (jr_of jk_0 (by omega)) (jr_of jk_0 (by omega)) (jmo w8 rfl (jmw w7)) J Sm (by rw [jk_0]; exact D))
  ·
    rw [if_pos (by omega)] at D
    refine x_aloadn (x := 119) rfl rfl ?_
    refine x_iconst (v := 1) rfl ki_1 ?_
    refine z_iald0 (N := 3) rfl J rfl jk_1 (by omega) (fun v9 qv9 => ?_)
    have ev9 := jfull v9
    try rw [vrn (n := 1) (by decide) qv9] at D
    refine x_iloadn (x := a3) rfl rfl ?_
    refine x_icne (tgt := 33) rfl rfl (ti_ne rfl rfl ⟨fun c10 => ?_, fun c10 => ?_⟩)
    ·
      rw [if_neg (by omega)] at D
      refine x_iconst (v := 0) rfl ki_0 ?_
      refine x_istore (lsx9 := [(4, .int 0), (0, .ref 119), (1, .int a1), (2, .int a3), (3, .int v1)]) rfl rfl rfl ?_
      refine x_aloadn (x := 119) rfl rfl ?_
      refine x_iconst (v := 0) rfl ki_0 ?_
      refine x_iloadn (x := a1) rfl rfl ?_
      refine z_iast (N := 3) (l := 0) (u := 3) (w := a1.toInt) rfl hD J Sm rfl rfl jk_0 (by omega) rfl (wr_119) rfl (fun h w11 J Sm => ?_)
      rw [vwn (n := 0) (by decide) w11 (show a1.toInt = a1.toInt from by omega)] at D
      refine x_aloadn (x := 119) rfl rfl ?_
      refine x_iconst (v := 1) rfl ki_1 ?_
      refine x_iloadn (x := a3) rfl rfl ?_
      refine z_iast (N := 3) (l := 0) (u := 3) (w := a3.toInt) rfl hD J Sm rfl rfl jk_1 (by omega) rfl (wr_119) rfl (fun h w12 J Sm => ?_)
      rw [vwn (n := 1) (by decide) w12 (show a3.toInt = a3.toInt from by omega)] at D
      refine x_aloadn (x := 119) rfl rfl ?_
      refine x_iconst (v := 2) rfl ki_2 ?_
      refine x_iloadn (x := v1) rfl rfl ?_
      refine z_iast (N := 3) (l := 0) (u := 3) (w := v1.toInt) rfl hD J Sm rfl rfl jk_2 (by omega) rfl (wr_119) rfl (fun h w13 J Sm => ?_)
      rw [vwn (n := 2) (by decide) w13 (show v1.toInt = v1.toInt from by omega)] at D
      refine x_iload (x := 0) rfl rfl ?_
      refine x_zret rfl rfl (by decide) ?_
      show jX m_X4_runTurns 7 0 0 16 [(0, .ref 107), (1, .int a1), (2, .int a2), (3, .int a3)] [.int 0] _ 0 0 _
      refine x_ifne (tgt := 53) rfl rfl (ti_ne jk_0 jk_0 (bn_f (by omega) ?_))
      refine x_aloadn (x := 107) rfl rfl ?_
      refine x_iconst (v := 0) rfl ki_0 ?_
      refine z_putI (N := 18) (w := 0) 4 15 rfl f_4_50 rfl (jfin_no TX4 RX4 18 rfl rfl) hD J Sm rfl rfl jk_0 (pw_107_15 (by omega)) rfl (fun h w14 J Sm => ?_)
      rw [vwf w14 (show 0 = (0 : Int32).toInt from by have := jk_0; omega)] at D
      refine x_aloadn (x := 107) rfl rfl ?_
      refine x_iconst (v := (-1)) rfl ki_m1 ?_
      refine z_putI (N := 18) (w := (-1)) 4 16 rfl f_4_53 rfl (jfin_no TX4 RX4 18 rfl rfl) hD J Sm rfl rfl jk_m1 (pw_107_16 (by omega)) rfl (fun h w15 J Sm => ?_)
      rw [vwf w15 (show (-1) = ((-1) : Int32).toInt from by have := jk_m1; omega)] at D
      refine x_iconst (v := 0) rfl ki_0 ?_
      refine x_istore (lsx9 := [(4, .int 0), (0, .ref 107), (1, .int a1), (2, .int a2), (3, .int a3)]) rfl rfl rfl ?_
      exact jX.sub (jsb_c rfl (jsb_c rfl (jsb_c rfl (jsb_c rfl (jsb_c rfl jsb_n))))) (ct_X4_runTurns_r107d_32 hD hQ  41 a1 a2 a3 0 0 h (by have := jk_0; omega) (jr_of rfl (by omega)) (jr_of rfl (by omega)) (jr_of rfl (by omega)) (jr_of jk_0 (by omega)) (jr_of jk_0 (by omega)) (jmo w15 rfl (jmw w14)) J Sm (by rw [jk_0]; exact D))
    ·
      rw [if_pos (by omega)] at D
      refine x_aloadn (x := 119) rfl rfl ?_
      refine x_iconst (v := 2) rfl ki_2 ?_
      refine z_iald0 (N := 3) rfl J rfl jk_2 (by omega) (fun v16 qv16 => ?_)
      have ev16 := jfull v16
      try rw [vrn (n := 2) (by decide) qv16] at D
      refine x_iloadn (x := v1) rfl rfl ?_
      refine x_icne (tgt := 33) rfl rfl (ti_ne rfl rfl ⟨fun c17 => ?_, fun c17 => ?_⟩)
      ·
        rw [if_neg (by omega)] at D
        refine x_iconst (v := 0) rfl ki_0 ?_
        refine x_istore (lsx9 := [(4, .int 0), (0, .ref 119), (1, .int a1), (2, .int a3), (3, .int v1)]) rfl rfl rfl ?_
        refine x_aloadn (x := 119) rfl rfl ?_
        refine x_iconst (v := 0) rfl ki_0 ?_
        refine x_iloadn (x := a1) rfl rfl ?_
        refine z_iast (N := 3) (l := 0) (u := 3) (w := a1.toInt) rfl hD J Sm rfl rfl jk_0 (by omega) rfl (wr_119) rfl (fun h w18 J Sm => ?_)
        rw [vwn (n := 0) (by decide) w18 (show a1.toInt = a1.toInt from by omega)] at D
        refine x_aloadn (x := 119) rfl rfl ?_
        refine x_iconst (v := 1) rfl ki_1 ?_
        refine x_iloadn (x := a3) rfl rfl ?_
        refine z_iast (N := 3) (l := 0) (u := 3) (w := a3.toInt) rfl hD J Sm rfl rfl jk_1 (by omega) rfl (wr_119) rfl (fun h w19 J Sm => ?_)
        rw [vwn (n := 1) (by decide) w19 (show a3.toInt = a3.toInt from by omega)] at D
        refine x_aloadn (x := 119) rfl rfl ?_
        refine x_iconst (v := 2) rfl ki_2 ?_
        refine x_iloadn (x := v1) rfl rfl ?_
        refine z_iast (N := 3) (l := 0) (u := 3) (w := v1.toInt) rfl hD J Sm rfl rfl jk_2 (by omega) rfl (wr_119) rfl (fun h w20 J Sm => ?_)
        rw [vwn (n := 2) (by decide) w20 (show v1.toInt = v1.toInt from by omega)] at D
        refine x_iload (x := 0) rfl rfl ?_
        refine x_zret rfl rfl (by decide) ?_
        show jX m_X4_runTurns 7 0 0 16 [(0, .ref 107), (1, .int a1), (2, .int a2), (3, .int a3)] [.int 0] _ 0 0 _
        refine x_ifne (tgt := 53) rfl rfl (ti_ne jk_0 jk_0 (bn_f (by omega) ?_))
        refine x_aloadn (x := 107) rfl rfl ?_
        refine x_iconst (v := 0) rfl ki_0 ?_
        refine z_putI (N := 18) (w := 0) 4 15 rfl f_4_50 rfl (jfin_no TX4 RX4 18 rfl rfl) hD J Sm rfl rfl jk_0 (pw_107_15 (by omega)) rfl (fun h w21 J Sm => ?_)
        rw [vwf w21 (show 0 = (0 : Int32).toInt from by have := jk_0; omega)] at D
        refine x_aloadn (x := 107) rfl rfl ?_
        refine x_iconst (v := (-1)) rfl ki_m1 ?_
        refine z_putI (N := 18) (w := (-1)) 4 16 rfl f_4_53 rfl (jfin_no TX4 RX4 18 rfl rfl) hD J Sm rfl rfl jk_m1 (pw_107_16 (by omega)) rfl (fun h w22 J Sm => ?_)
        rw [vwf w22 (show (-1) = ((-1) : Int32).toInt from by have := jk_m1; omega)] at D
        refine x_iconst (v := 0) rfl ki_0 ?_
        refine x_istore (lsx9 := [(4, .int 0), (0, .ref 107), (1, .int a1), (2, .int a2), (3, .int a3)]) rfl rfl rfl ?_
        exact jX.sub (jsb_c rfl (jsb_c rfl (jsb_c rfl (jsb_c rfl (jsb_c rfl jsb_n))))) (ct_X4_runTurns_r107d_32 hD hQ  41 a1 a2 a3 0 0 h (by have := jk_0; omega) (jr_of rfl (by omega)) (jr_of rfl (by omega)) (jr_of rfl (by omega)) (jr_of jk_0 (by omega)) (jr_of jk_0 (by omega)) (jmo w22 rfl (jmw w21)) J Sm (by rw [jk_0]; exact D))
      ·
        rw [if_pos (by omega)] at D
        refine x_iconst (v := 1) rfl ki_1 ?_
        refine x_goto (tgt := 34) rfl rfl ?_
        refine x_istore (lsx9 := [(4, .int 1), (0, .ref 119), (1, .int a1), (2, .int a3), (3, .int v1)]) rfl rfl rfl ?_
        refine x_aloadn (x := 119) rfl rfl ?_
        refine x_iconst (v := 0) rfl ki_0 ?_
        refine x_iloadn (x := a1) rfl rfl ?_
        refine z_iast (N := 3) (l := 0) (u := 3) (w := a1.toInt) rfl hD J Sm rfl rfl jk_0 (by omega) rfl (wr_119) rfl (fun h w23 J Sm => ?_)
        rw [vwn (n := 0) (by decide) w23 (show a1.toInt = a1.toInt from by omega)] at D
        refine x_aloadn (x := 119) rfl rfl ?_
        refine x_iconst (v := 1) rfl ki_1 ?_
        refine x_iloadn (x := a3) rfl rfl ?_
        refine z_iast (N := 3) (l := 0) (u := 3) (w := a3.toInt) rfl hD J Sm rfl rfl jk_1 (by omega) rfl (wr_119) rfl (fun h w24 J Sm => ?_)
        rw [vwn (n := 1) (by decide) w24 (show a3.toInt = a3.toInt from by omega)] at D
        refine x_aloadn (x := 119) rfl rfl ?_
        refine x_iconst (v := 2) rfl ki_2 ?_
        refine x_iloadn (x := v1) rfl rfl ?_
        refine z_iast (N := 3) (l := 0) (u := 3) (w := v1.toInt) rfl hD J Sm rfl rfl jk_2 (by omega) rfl (wr_119) rfl (fun h w25 J Sm => ?_)
        rw [vwn (n := 2) (by decide) w25 (show v1.toInt = v1.toInt from by omega)] at D
        refine x_iload (x := 1) rfl rfl ?_
        refine x_zret rfl rfl (by decide) ?_
        show jX m_X4_runTurns 7 0 0 16 [(0, .ref 107), (1, .int a1), (2, .int a2), (3, .int a3)] [.int 1] _ 0 0 _
        refine x_ifne (tgt := 53) rfl rfl (ti_ne jk_1 jk_0 (bn_t (by omega) ?_))
        have ex15 := jrg_f J sg_107_15_16_1_0_1
        exact jX.sub (jsb_c rfl (jsb_c rfl (jsb_c rfl (jsb_c rfl jsb_n)))) (ct_X4_runTurns_r107d_53 hD hQ  401 a1 a2 a3 (jiv h 107 15) h (by omega) (jr_of rfl (by omega)) (jr_of rfl (by omega)) (jr_of rfl (by omega)) (jr_of rfl (by omega)) rfl J Sm D)
def fp_X4_unevenness_r107d : jFp := [(118, 0, 40)]
set_option maxRecDepth 100000 in
set_option maxHeartbeats 4000000 in
theorem ct_X4_unevenness_r107d_88 {Dy : jH → Prop} {h0 : jH} {Q : Option Value → jH → Prop} {dr : (Int × jW)} (hD : jDk Dy) (hQ : ∀ (v : Int32) hx9, jJ jSgX Dy hx9 → jSm fp_X4_unevenness_r107d h0 hx9 → dr.1 = v.toInt → dr.2 = vw hx9 → Q (some (.int v)) hx9) : ∀ r : Nat, ∀ (l2 : Int32) (l3 : Int32) (l4 : Int32) (g0 : Int32) (h : jH), 40 - l4.toInt < (r : Int) → 0 ≤ l2.toInt ∧ l2.toInt ≤ 2147483647 → (-2147483648) ≤ l3.toInt ∧ l3.toInt ≤ 400 → 0 ≤ l4.toInt ∧ l4.toInt ≤ 40 → 0 ≤ g0.toInt ∧ g0.toInt ≤ 40 → jiv h 49 3 = g0 → jJ jSgX Dy h → jSm fp_X4_unevenness_r107d h0 h → d_X4_unevenness_r107d_88 r l2.toInt l3.toInt l4.toInt (vw h) = dr → jX m_X4_unevenness 2 0 0 88 [(0, .ref 107), (2, .int l2), (3, .int l3), (4, .int l4)] [] h 0 0 Q := by
  intro r
  induction r with
  | zero =>
    intro l2 l3 l4 g0 h hm y0 y1 y2 y3 z0  J Sm D
    exfalso
    omega
  | succ r ih =>
    intro l2 l3 l4 g0 h hm y0 y1 y2 y3 z0  J Sm D
    rw [d_X4_unevenness_r107d_88.eq_2] at D
    try rw [vrf z0] at D
    refine x_iload (x := l4) rfl rfl ?_
    refine x_aloadn (x := 107) rfl rfl ?_
    refine x_inv (N := m_X4_houses) (As := []) (b := 107) (st := [.int l4]) (dx9 := 1) (mc := 0) (ms := 0) (host := "") 4 rfl t_X4_houses ⟨Or.inl q_4_107, i_X4_houses.1, i_X4_houses.2⟩ ⟨by decide, rfl⟩ (congrArg Prod.fst (J.1.1 107 (4, 18) rfl)) rfl (by decide) rfl rfl ⟨by decide, by decide⟩ (jC.of rfl k_X4_houses rfl ?_)
    show jX m_X4_houses 1 0 0 0 [(0, .ref 107)] [] _ 0 0 _
    refine x_bipush (v := 40) rfl kb_40 ?_
    refine x_aloadn (x := 107) rfl rfl ?_
    refine z_getR (N := 18) (b := 32) 4 0 rfl f_4_59 rfl J rfl 13696 ⟨rfl, rfl⟩ rfl ?_
    refine z_getR (N := 20) (b := 49) 1 8 rfl f_4_71 rfl J rfl 4104 ⟨rfl, rfl⟩ rfl ?_
    refine z_getM (N := 4) (v := g0) 8 3 rfl f_4_77 rfl J rfl z0 ?_
    refine z_mmin rfl q_4_82 (by decide) rfl jk_40 rfl (fun v1 ev1 => ?_)
    refine x_iret rfl rfl ?_
    show jX m_X4_unevenness 2 0 0 94 [(0, .ref 107), (2, .int l2), (3, .int l3), (4, .int l4)] [.int v1, .int l4] _ 0 0 _
    refine x_icge (tgt := 127) rfl rfl (ti_ge rfl rfl ⟨fun c2 => ?_, fun c2 => ?_⟩)
    ·
      rw [if_pos (by omega)] at D
      refine x_iloadn (x := l2) rfl rfl ?_
      refine x_iloadn (x := l3) rfl rfl ?_
      refine z_isubW rfl rfl rfl (fun v3 ev3 => ?_)
      have fv3 := jfull v3
      try rw [← ev3] at D
      refine x_iret rfl rfl ?_
      exact hQ _ _ J Sm ((congrArg Prod.fst D).symm.trans (show v3.toInt = v3.toInt from by omega)) (congrArg Prod.snd D).symm
    ·
      rw [if_neg (by omega)] at D
      refine x_iloadn (x := l2) rfl rfl ?_
      refine x_aloadn (x := 107) rfl rfl ?_
      refine z_getR (N := 18) (b := 118) 4 14 rfl f_4_47 rfl J rfl 13710 ⟨rfl, rfl⟩ rfl ?_
      refine x_iload (x := l4) rfl rfl ?_
      refine z_iald0 (N := 40) rfl J rfl rfl (by omega) (fun v4 qv4 => ?_)
      have ev4 := jfull v4
      try rw [vrd qv4 (show l4.toInt = l4.toInt from by omega)] at D
      refine z_mmax rfl q_4_178 (by decide) rfl rfl rfl (fun v5 ev5 => ?_)
      refine x_istoren (lsx9 := [(2, .int v5), (0, .ref 107), (3, .int l3), (4, .int l4)]) rfl rfl rfl ?_
      refine x_iloadn (x := l3) rfl rfl ?_
      refine x_aloadn (x := 107) rfl rfl ?_
      refine z_getR (N := 18) (b := 118) 4 14 rfl f_4_47 rfl J rfl 13710 ⟨rfl, rfl⟩ rfl ?_
      refine x_iload (x := l4) rfl rfl ?_
      refine z_ialdM (N := 40) (v := v4) rfl J rfl rfl (by omega) qv4 ?_
      refine z_mmin rfl q_4_82 (by decide) rfl rfl rfl (fun v6 ev6 => ?_)
      refine x_istoren (lsx9 := [(3, .int v6), (2, .int v5), (0, .ref 107), (4, .int l4)]) rfl rfl rfl ?_
      refine z_iinc (x := l4) (lsx9 := fun v7 => [(4, .int v7), (3, .int v6), (2, .int v5), (0, .ref 107)]) rfl rfl rfl jko_1 (by omega) rfl (fun _ => rfl) (fun v7 ev7 => ?_)
      refine x_goto (tgt := 88) rfl rfl ?_
      try rw [show (max l2.toInt v4.toInt) = v5.toInt from by omega] at D
      try rw [show (min l3.toInt v4.toInt) = v6.toInt from by omega] at D
      try rw [show (l4.toInt + 1) = v7.toInt from by omega] at D
      exact jX.sub (jsb_c rfl (jsb_c rfl (jsb_c rfl (jsb_c rfl jsb_n)))) (ih v5 v6 v7 g0 h (by omega) (jr_of rfl (by omega)) (jr_of rfl (by omega)) (jr_of rfl (by omega)) (jr_of rfl (by omega)) z0 J Sm D)
set_option maxRecDepth 100000 in
set_option maxHeartbeats 4000000 in
theorem ct_X4_unevenness_r107d_84 {Dy : jH → Prop} {h0 : jH} {Q : Option Value → jH → Prop} {dr : (Int × jW)} (hD : jDk Dy) (hQ : ∀ (v : Int32) hx9, jJ jSgX Dy hx9 → jSm fp_X4_unevenness_r107d h0 hx9 → dr.1 = v.toInt → dr.2 = vw hx9 → Q (some (.int v)) hx9) : ∀ (g0 : Int32) (h : jH), 0 ≤ g0.toInt ∧ g0.toInt ≤ 40 → jiv h 49 3 = g0 → jJ jSgX Dy h → jSm fp_X4_unevenness_r107d h0 h → d_X4_unevenness_r107d_84  (vw h) = dr → jX m_X4_unevenness 2 0 0 84 [(0, .ref 107), (2, .int 0)] [.int 400] h 0 0 Q := by
  intro g0 h y0 z0  J Sm D
  unfold d_X4_unevenness_r107d_84 at D
  try rw [vrf z0] at D
  refine x_istoren (lsx9 := [(3, .int 400), (0, .ref 107), (2, .int 0)]) rfl rfl rfl ?_
  refine x_iconst (v := 0) rfl ki_0 ?_
  refine x_istore (lsx9 := [(4, .int 0), (3, .int 400), (0, .ref 107), (2, .int 0)]) rfl rfl rfl ?_
  exact jX.sub (jsb_c rfl (jsb_c rfl (jsb_c rfl (jsb_c rfl jsb_n)))) (ct_X4_unevenness_r107d_88 hD hQ  41 0 400 0 g0 h (by have := jk_0; omega) (jr_of jk_0 (by omega)) (jr_of jk_400 (by omega)) (jr_of jk_0 (by omega)) (jr_of rfl (by omega)) z0 J Sm (by rw [jk_0, jk_400]; exact D))
set_option maxRecDepth 100000 in
set_option maxHeartbeats 4000000 in
theorem ct_X4_unevenness_r107d_200084 {Dy : jH → Prop} {h0 : jH} {Q : Option Value → jH → Prop} {dr : (Int × jW)} (hD : jDk Dy) (hQ : ∀ (v : Int32) hx9, jJ jSgX Dy hx9 → jSm fp_X4_unevenness_r107d h0 hx9 → dr.1 = v.toInt → dr.2 = vw hx9 → Q (some (.int v)) hx9) : ∀ (g0 : Int32) (h : jH), 0 ≤ g0.toInt ∧ g0.toInt ≤ 40 → jiv h 49 3 = g0 → jJ jSgX Dy h → jSm fp_X4_unevenness_r107d h0 h → d_X4_unevenness_r107d_200084  (vw h) = dr → jX m_X4_unevenness 2 0 0 84 [(0, .ref 107), (2, .int 0)] [.int 0] h 0 0 Q := by
  intro g0 h y0 z0  J Sm D
  unfold d_X4_unevenness_r107d_200084 at D
  try rw [vrf z0] at D
  refine x_istoren (lsx9 := [(3, .int 0), (0, .ref 107), (2, .int 0)]) rfl rfl rfl ?_
  refine x_iconst (v := 0) rfl ki_0 ?_
  refine x_istore (lsx9 := [(4, .int 0), (3, .int 0), (0, .ref 107), (2, .int 0)]) rfl rfl rfl ?_
  exact jX.sub (jsb_c rfl (jsb_c rfl (jsb_c rfl (jsb_c rfl jsb_n)))) (ct_X4_unevenness_r107d_88 hD hQ  41 0 0 0 g0 h (by have := jk_0; omega) (jr_of jk_0 (by omega)) (jr_of jk_0 (by omega)) (jr_of jk_0 (by omega)) (jr_of rfl (by omega)) z0 J Sm (by rw [jk_0]; exact D))
set_option maxRecDepth 100000 in
set_option maxHeartbeats 4000000 in
theorem ct_X4_unevenness_r107d_68 {Dy : jH → Prop} {h0 : jH} {Q : Option Value → jH → Prop} {dr : (Int × jW)} (hD : jDk Dy) (hQ : ∀ (v : Int32) hx9, jJ jSgX Dy hx9 → jSm fp_X4_unevenness_r107d h0 hx9 → dr.1 = v.toInt → dr.2 = vw hx9 → Q (some (.int v)) hx9) : ∀ (h : jH), jJ jSgX Dy h → jSm fp_X4_unevenness_r107d h0 h → d_X4_unevenness_r107d_68  (vw h) = dr → jX m_X4_unevenness 2 0 0 68 [(0, .ref 107)] [] h 0 0 Q := by
  intro  h    J Sm D
  unfold d_X4_unevenness_r107d_68 at D
  refine x_iconst (v := 0) rfl ki_0 ?_
  refine x_istoren (lsx9 := [(2, .int 0), (0, .ref 107)]) rfl rfl rfl ?_
  refine x_aloadn (x := 107) rfl rfl ?_
  refine x_inv (N := m_X4_houses) (As := []) (b := 107) (st := []) (dx9 := 1) (mc := 0) (ms := 0) (host := "") 4 rfl t_X4_houses ⟨Or.inl q_4_107, i_X4_houses.1, i_X4_houses.2⟩ ⟨by decide, rfl⟩ (congrArg Prod.fst (J.1.1 107 (4, 18) rfl)) rfl (by decide) rfl rfl ⟨by decide, by decide⟩ (jC.of rfl k_X4_houses rfl ?_)
  show jX m_X4_houses 1 0 0 0 [(0, .ref 107)] [] _ 0 0 _
  refine x_bipush (v := 40) rfl kb_40 ?_
  refine x_aloadn (x := 107) rfl rfl ?_
  refine z_getR (N := 18) (b := 32) 4 0 rfl f_4_59 rfl J rfl 13696 ⟨rfl, rfl⟩ rfl ?_
  refine z_getR (N := 20) (b := 49) 1 8 rfl f_4_71 rfl J rfl 4104 ⟨rfl, rfl⟩ rfl ?_
  refine z_getI (N := 4) 8 3 rfl f_4_77 rfl J rfl sg_49_3_4_1_0_1 (fun v1 qv1 ev1 => ?_)
  try rw [vrf qv1] at D
  refine z_mmin rfl q_4_82 (by decide) rfl jk_40 rfl (fun v2 ev2 => ?_)
  refine x_iret rfl rfl ?_
  show jX m_X4_unevenness 2 0 0 74 [(2, .int 0), (0, .ref 107)] [.int v2] _ 0 0 _
  refine x_ifne (tgt := 81) rfl rfl (ti_ne rfl jk_0 ⟨fun c3 => ?_, fun c3 => ?_⟩)
  ·
    rw [if_neg (by omega)] at D
    refine x_sipush (v := 400) rfl ks_400 ?_
    exact jX.sub (jsb_c rfl (jsb_c rfl jsb_n)) (ct_X4_unevenness_r107d_84 hD hQ  v1 h (jr_of rfl (by omega)) qv1 J Sm D)
  ·
    rw [if_pos (by omega)] at D
    refine x_iconst (v := 0) rfl ki_0 ?_
    refine x_goto (tgt := 84) rfl rfl ?_
    exact jX.sub (jsb_c rfl (jsb_c rfl jsb_n)) (ct_X4_unevenness_r107d_200084 hD hQ  v1 h (jr_of rfl (by omega)) qv1 J Sm D)
set_option maxRecDepth 100000 in
set_option maxHeartbeats 4000000 in
theorem ct_X4_unevenness_r107d_62 {Dy : jH → Prop} {h0 : jH} {Q : Option Value → jH → Prop} {dr : (Int × jW)} {K23 : Int → Int → jW → (Int × jW)} {R23 : Int} (hD : jDk Dy) (hQ : ∀ (v : Int32) hx9, jJ jSgX Dy hx9 → jSm fp_X4_unevenness_r107d h0 hx9 → dr.1 = v.toInt → dr.2 = vw hx9 → Q (some (.int v)) hx9) (k23 : ∀ (l1 : Int32) (l2 : Int32) (h : jH), 400 - l2.toInt < R23 → 0 ≤ l1.toInt ∧ l1.toInt ≤ 399 → 0 ≤ l2.toInt ∧ l2.toInt ≤ 400 → jJ jSgX Dy h → jSm fp_X4_unevenness_r107d h0 h → K23 l1.toInt l2.toInt (vw h) = dr → jX m_X4_unevenness 2 0 0 23 [(0, .ref 107), (1, .int l1), (2, .int l2)] [] h 0 0 Q) : ∀ (l1 : Int32) (l2 : Int32) (h : jH), 0 ≤ l1.toInt ∧ l1.toInt ≤ 399 → 0 ≤ l2.toInt ∧ l2.toInt ≤ 399 → 400 - l2.toInt ≤ R23 → jJ jSgX Dy h → jSm fp_X4_unevenness_r107d h0 h → d_X4_unevenness_r107d_62 K23  l1.toInt l2.toInt (vw h) = dr → jX m_X4_unevenness 2 0 0 62 [(0, .ref 107), (1, .int l1), (2, .int l2)] [] h 0 0 Q := by
  intro l1 l2 h y0 y1  m23 J Sm D
  unfold d_X4_unevenness_r107d_62 at D
  refine z_iinc (x := l2) (lsx9 := fun v1 => [(2, .int v1), (0, .ref 107), (1, .int l1)]) rfl rfl rfl jko_1 (by omega) rfl (fun _ => rfl) (fun v1 ev1 => ?_)
  refine x_goto (tgt := 23) rfl rfl ?_
  try rw [show (l2.toInt + 1) = v1.toInt from by omega] at D
  exact jX.sub (jsb_c rfl (jsb_c rfl (jsb_c rfl jsb_n))) (k23 l1 v1 h (by omega) (jr_of rfl (by omega)) (jr_of rfl (by omega)) J Sm D)
set_option maxRecDepth 100000 in
set_option maxHeartbeats 4000000 in
theorem ct_X4_unevenness_r107d_23 {Dy : jH → Prop} {h0 : jH} {Q : Option Value → jH → Prop} {dr : (Int × jW)} (hD : jDk Dy) (hQ : ∀ (v : Int32) hx9, jJ jSgX Dy hx9 → jSm fp_X4_unevenness_r107d h0 hx9 → dr.1 = v.toInt → dr.2 = vw hx9 → Q (some (.int v)) hx9) : ∀ r : Nat, ∀ (l1 : Int32) (l2 : Int32) (h : jH), 400 - l2.toInt < (r : Int) → 0 ≤ l1.toInt ∧ l1.toInt ≤ 399 → 0 ≤ l2.toInt ∧ l2.toInt ≤ 400 → jJ jSgX Dy h → jSm fp_X4_unevenness_r107d h0 h → d_X4_unevenness_r107d_23 r l1.toInt l2.toInt (vw h) = dr → jX m_X4_unevenness 2 0 0 23 [(0, .ref 107), (1, .int l1), (2, .int l2)] [] h 0 0 Q := by
  intro r
  induction r with
  | zero =>
    intro l1 l2 h hm y0 y1   J Sm D
    exfalso
    omega
  | succ r ih =>
    intro l1 l2 h hm y0 y1   J Sm D
    rw [d_X4_unevenness_r107d_23.eq_2] at D
    refine x_iloadn (x := l2) rfl rfl ?_
    refine x_iloadn (x := l1) rfl rfl ?_
    refine x_icgt (tgt := 68) rfl rfl (ti_gt rfl rfl ⟨fun c1 => ?_, fun c1 => ?_⟩)
    ·
      rw [if_pos (by omega)] at D
      exact jX.sub (jsb_c rfl jsb_n) (ct_X4_unevenness_r107d_68 hD hQ  h J Sm D)
    ·
      rw [if_neg (by omega)] at D
      refine x_iloadn (x := l2) rfl rfl ?_
      refine x_sipush (v := 399) rfl ks_399 ?_
      refine x_icgt (tgt := 68) rfl rfl (ti_gt rfl jk_399 (br_f (by omega) ?_))
      refine x_aloadn (x := 107) rfl rfl ?_
      refine z_getR (N := 18) (b := 115) 4 11 rfl f_4_38 rfl J rfl 13707 ⟨rfl, rfl⟩ rfl ?_
      refine x_iloadn (x := l2) rfl rfl ?_
      refine z_iald (N := 400) rfl J rfl sg_115_0_400_1_0_1 rfl (by omega) (fun v2 qv2 ev2 => ?_)
      try rw [vrd qv2 (show l2.toInt = l2.toInt from by omega)] at D
      refine x_istoren (lsx9 := [(3, .int v2), (0, .ref 107), (1, .int l1), (2, .int l2)]) rfl rfl rfl ?_
      refine x_iloadn (x := v2) rfl rfl ?_
      refine x_iflt (tgt := 62) rfl rfl (ti_lt rfl jk_0 ⟨fun c3 => ?_, fun c3 => ?_⟩)
      ·
        rw [if_pos (by omega)] at D
        exact jX.sub (jsb_c rfl (jsb_c rfl (jsb_c rfl jsb_n))) (ct_X4_unevenness_r107d_62 hD hQ ih l1 l2 h (jr_of rfl (by omega)) (jr_of rfl (by omega)) (by omega) J Sm D)
      ·
        rw [if_neg (by omega)] at D
        refine x_iloadn (x := v2) rfl rfl ?_
        refine x_bipush (v := 40) rfl kb_40 ?_
        refine x_icge (tgt := 62) rfl rfl (ti_ge rfl jk_40 (br_f (by omega) ?_))
        refine x_aloadn (x := 107) rfl rfl ?_
        refine z_getR (N := 18) (b := 118) 4 14 rfl f_4_47 rfl J rfl 13710 ⟨rfl, rfl⟩ rfl ?_
        refine x_iloadn (x := v2) rfl rfl ?_
        refine x_dup2 rfl rfl rfl ?_
        refine z_iald0 (N := 40) rfl J rfl rfl (by omega) (fun v4 qv4 => ?_)
        have ev4 := jfull v4
        try rw [vrd qv4 (show v2.toInt = v2.toInt from by omega)] at D
        refine x_iconst (v := 1) rfl ki_1 ?_
        refine z_iaddW rfl rfl jk_1 (fun v5 ev5 => ?_)
        have fv5 := jfull v5
        try rw [← ev5] at D
        refine z_iast (N := 40) (l := 0) (u := 40) (w := v5.toInt) rfl hD J Sm rfl rfl rfl (by omega) rfl (wr_118) rfl (fun h w6 J Sm => ?_)
        rw [vww w6 (show v2.toInt = v2.toInt from by omega) (show v5.toInt = v5.toInt from by omega)] at D
        exact jX.sub (jsb_c rfl (jsb_c rfl (jsb_c rfl jsb_n))) (ct_X4_unevenness_r107d_62 hD hQ ih l1 l2 h (jr_of rfl (by omega)) (jr_of rfl (by omega)) (by omega) J Sm D)
set_option maxRecDepth 100000 in
set_option maxHeartbeats 4000000 in
theorem ct_X4_unevenness_r107d_2 {Dy : jH → Prop} {h0 : jH} {Q : Option Value → jH → Prop} {dr : (Int × jW)} (hD : jDk Dy) (hQ : ∀ (v : Int32) hx9, jJ jSgX Dy hx9 → jSm fp_X4_unevenness_r107d h0 hx9 → dr.1 = v.toInt → dr.2 = vw hx9 → Q (some (.int v)) hx9) : ∀ r : Nat, ∀ (l1 : Int32) (l2 : Int32) (h : jH), 40 - l2.toInt < (r : Int) → 0 ≤ l1.toInt ∧ l1.toInt ≤ 399 → 0 ≤ l2.toInt ∧ l2.toInt ≤ 40 → jJ jSgX Dy h → jSm fp_X4_unevenness_r107d h0 h → d_X4_unevenness_r107d_2 r l1.toInt l2.toInt (vw h) = dr → jX m_X4_unevenness 2 0 0 2 [(0, .ref 107), (1, .int l1), (2, .int l2)] [] h 0 0 Q := by
  intro r
  induction r with
  | zero =>
    intro l1 l2 h hm y0 y1   J Sm D
    exfalso
    omega
  | succ r ih =>
    intro l1 l2 h hm y0 y1   J Sm D
    rw [d_X4_unevenness_r107d_2.eq_2] at D
    refine x_iloadn (x := l2) rfl rfl ?_
    refine x_bipush (v := 40) rfl kb_40 ?_
    refine x_icge (tgt := 21) rfl rfl (ti_ge rfl jk_40 ⟨fun c1 => ?_, fun c1 => ?_⟩)
    ·
      rw [if_pos (by omega)] at D
      refine x_iconst (v := 0) rfl ki_0 ?_
      refine x_istoren (lsx9 := [(2, .int 0), (0, .ref 107), (1, .int l1)]) rfl rfl rfl ?_
      exact jX.sub (jsb_c rfl (jsb_c rfl (jsb_c rfl jsb_n))) (ct_X4_unevenness_r107d_23 hD hQ  401 l1 0 h (by have := jk_0; omega) (jr_of rfl (by omega)) (jr_of jk_0 (by omega)) J Sm (by rw [jk_0]; exact D))
    ·
      rw [if_neg (by omega)] at D
      refine x_aloadn (x := 107) rfl rfl ?_
      refine z_getR (N := 18) (b := 118) 4 14 rfl f_4_47 rfl J rfl 13710 ⟨rfl, rfl⟩ rfl ?_
      refine x_iloadn (x := l2) rfl rfl ?_
      refine x_iconst (v := 0) rfl ki_0 ?_
      refine z_iast (N := 40) (l := 0) (u := 40) (w := 0) rfl hD J Sm rfl rfl rfl (by omega) jk_0 (wr_118) rfl (fun h w2 J Sm => ?_)
      rw [vww w2 (show l2.toInt = l2.toInt from by omega) (show 0 = (0 : Int32).toInt from by have := jk_0; omega)] at D
      refine z_iinc (x := l2) (lsx9 := fun v3 => [(2, .int v3), (0, .ref 107), (1, .int l1)]) rfl rfl rfl jko_1 (by omega) rfl (fun _ => rfl) (fun v3 ev3 => ?_)
      refine x_goto (tgt := 2) rfl rfl ?_
      try rw [show (l2.toInt + 1) = v3.toInt from by omega] at D
      exact jX.sub (jsb_c rfl (jsb_c rfl (jsb_c rfl jsb_n))) (ih l1 v3 h (by omega) (jr_of rfl (by omega)) (jr_of rfl (by omega)) J Sm D)
set_option maxRecDepth 100000 in
set_option maxHeartbeats 4000000 in
theorem sf_X4_unevenness_r107d {Dy : jH → Prop} {h : jH} {Q : Option Value → jH → Prop} {dr : (Int × jW)} {a1 : Int32} (y1 : 0 ≤ a1.toInt ∧ a1.toInt ≤ 399) (hD : jDk Dy) (J : jJ jSgX Dy h) (D : d_X4_unevenness_r107d a1.toInt (vw h) = dr) (hQ : ∀ (v : Int32) hx9, jJ jSgX Dy hx9 → jSm fp_X4_unevenness_r107d h hx9 → dr.1 = v.toInt → dr.2 = vw hx9 → Q (some (.int v)) hx9) : jC m_X4_unevenness 2 0 0 [.ref 107, .int a1] h Q := by
  refine jC.of rfl k_X4_unevenness rfl ?_
  have Sm := jSm_rf fp_X4_unevenness_r107d h
  show jX m_X4_unevenness 2 0 0 0 [(0, .ref 107), (1, .int a1)] [] _ 0 0 _
  unfold d_X4_unevenness_r107d at D
  refine x_iconst (v := 0) rfl ki_0 ?_
  refine x_istoren (lsx9 := [(2, .int 0), (0, .ref 107), (1, .int a1)]) rfl rfl rfl ?_
  exact jX.sub (jsb_c rfl (jsb_c rfl (jsb_c rfl jsb_n))) (ct_X4_unevenness_r107d_2 hD hQ  41 a1 0 h (by have := jk_0; omega) (jr_of rfl (by omega)) (jr_of jk_0 (by omega)) J Sm (by rw [jk_0]; exact D))
def fp_X11_turn_r31d : jFp := [(78, 13, 14), (82, 0, 600), (83, 0, 600), (84, 0, 200), (85, 0, 4), (86, 0, 3), (98, 10, 11), (98, 11, 12), (98, 12, 13), (99, 0, 30), (100, 0, 30), (101, 0, 3), (102, 0, 40), (103, 0, 40), (104, 0, 40), (105, 0, 3), (106, 0, 100), (107, 15, 16), (107, 16, 17), (115, 0, 400), (116, 0, 400), (117, 0, 40), (118, 0, 40), (119, 0, 3)]
set_option maxRecDepth 100000 in
set_option maxHeartbeats 4000000 in
theorem ct_X11_turn_r31d_32 {Dy : jH → Prop} {h0 : jH} {Q : Option Value → jH → Prop} {dr : (Int × jW)} (hD : jDk Dy) (hQ : ∀ (v : Int32) hx9, jJ jSgX Dy hx9 → jSm fp_X11_turn_r31d h0 hx9 → dr.1 = v.toInt → dr.2 = vw hx9 → Q (some (.int v)) hx9) : ∀ (h : jH), jJ jSgX Dy h → jSm fp_X11_turn_r31d h0 h → d_X11_turn_r31d_32  (vw h) = dr → jX m_X11_turn 8 0 0 32 [] [] h 0 0 Q := by
  intro  h    J Sm D
  unfold d_X11_turn_r31d_32 at D
  refine x_iconst (v := (-1)) rfl ki_m1 ?_
  refine x_iret rfl rfl ?_
  exact hQ _ _ J Sm ((congrArg Prod.fst D).symm.trans (show (-1) = ((-1) : Int32).toInt from by have := jk_m1; omega)) (congrArg Prod.snd D).symm
set_option maxRecDepth 100000 in
set_option maxHeartbeats 4000000 in
theorem sf_X11_turn_r31d {Dy : jH → Prop} {h : jH} {Q : Option Value → jH → Prop} {dr : (Int × jW)} {a1 : Int32} {a2 : Int32} {a3 : Int32} {a4 : Int32} (hD : jDk Dy) (J : jJ jSgX Dy h) (D : d_X11_turn_r31d a1.toInt a2.toInt a3.toInt a4.toInt (vw h) = dr) (hQ : ∀ (v : Int32) hx9, jJ jSgX Dy hx9 → jSm fp_X11_turn_r31d h hx9 → dr.1 = v.toInt → dr.2 = vw hx9 → Q (some (.int v)) hx9) : jC m_X11_turn 8 0 0 [.ref 31, .int a1, .int a2, .int a3, .int a4] h Q := by
  refine jC.of rfl k_X11_turn rfl ?_
  have Sm := jSm_rf fp_X11_turn_r31d h
  have ea1 := jfull a1
  have ea2 := jfull a2
  have ea3 := jfull a3
  have ea4 := jfull a4
  show jX m_X11_turn 8 0 0 0 [(0, .ref 31), (1, .int a1), (2, .int a2), (3, .int a3), (4, .int a4)] [] _ 0 0 _
  unfold d_X11_turn_r31d at D
  refine x_iloadn (x := a1) rfl rfl ?_
  refine x_inst (N := m_X11_isOffice) (As := [.int a1]) (st := []) (dx9 := 1) (mc := 0) (ms := 0) (host := "") rfl t_X11_isOffice ⟨Or.inl q_11_456, s_X11_isOffice⟩ rfl (by decide) rfl rfl ⟨by decide, by decide⟩ (zc_X11_isOffice rfl (fun v1 ev1 => ?_))
  show jX m_X11_turn 8 0 0 4 [(0, .ref 31), (1, .int a1), (2, .int a2), (3, .int a3), (4, .int a4)] [.int v1] _ 0 0 _
  refine x_ifeq (tgt := 32) rfl rfl (ti_eq rfl jk_0 ⟨fun c2 => ?_, fun c2 => ?_⟩)
  ·
    rw [if_neg (by omega)] at D
    exact jX.sub jsb_n (ct_X11_turn_r31d_32 hD hQ  h J Sm D)
  ·
    rw [if_pos (by omega)] at D
    refine x_iloadn (x := a2) rfl rfl ?_
    refine x_inst (N := m_X11_isYear) (As := [.int a2]) (st := []) (dx9 := 1) (mc := 0) (ms := 0) (host := "") rfl t_X11_isYear ⟨Or.inl q_11_433, s_X11_isYear⟩ rfl (by decide) rfl rfl ⟨by decide, by decide⟩ (zc_X11_isYear rfl (fun v3 ev3 => ?_))
    show jX m_X11_turn 8 0 0 11 [(0, .ref 31), (1, .int a1), (2, .int a2), (3, .int a3), (4, .int a4)] [.int v3] _ 0 0 _
    refine x_ifeq (tgt := 32) rfl rfl (ti_eq rfl jk_0 ⟨fun c4 => ?_, fun c4 => ?_⟩)
    ·
      rw [if_neg (by omega)] at D
      exact jX.sub jsb_n (ct_X11_turn_r31d_32 hD hQ  h J Sm D)
    ·
      rw [if_pos (by omega)] at D
      refine x_iloadn (x := a3) rfl rfl ?_
      refine x_inst (N := m_X11_isDay) (As := [.int a3]) (st := []) (dx9 := 1) (mc := 0) (ms := 0) (host := "") rfl t_X11_isDay ⟨Or.inl q_11_115, s_X11_isDay⟩ rfl (by decide) rfl rfl ⟨by decide, by decide⟩ (zc_X11_isDay rfl (fun v5 ev5 => ?_))
      show jX m_X11_turn 8 0 0 18 [(0, .ref 31), (1, .int a1), (2, .int a2), (3, .int a3), (4, .int a4)] [.int v5] _ 0 0 _
      refine x_ifeq (tgt := 32) rfl rfl (ti_eq rfl jk_0 ⟨fun c6 => ?_, fun c6 => ?_⟩)
      ·
        rw [if_neg (by omega)] at D
        exact jX.sub jsb_n (ct_X11_turn_r31d_32 hD hQ  h J Sm D)
      ·
        rw [if_pos (by omega)] at D
        refine x_iload (x := a4) rfl rfl ?_
        refine x_iflt (tgt := 32) rfl rfl (ti_lt rfl jk_0 ⟨fun c7 => ?_, fun c7 => ?_⟩)
        ·
          rw [if_pos (by omega)] at D
          exact jX.sub jsb_n (ct_X11_turn_r31d_32 hD hQ  h J Sm D)
        ·
          rw [if_neg (by omega)] at D
          refine x_iload (x := a4) rfl rfl ?_
          refine x_iconst (v := 2) rfl ki_2 ?_
          refine x_icle (tgt := 34) rfl rfl (ti_le rfl jk_2 ⟨fun c8 => ?_, fun c8 => ?_⟩)
          ·
            rw [if_pos (by omega)] at D
            refine x_aloadn (x := 31) rfl rfl ?_
            refine z_getR (N := 13) (b := 78) 11 4 rfl f_11_41 rfl J rfl 3972 ⟨rfl, rfl⟩ rfl ?_
            refine x_iloadn (x := a3) rfl rfl ?_
            refine x_inv (N := m_X7_asKnown) (As := [.int a3]) (b := 78) (st := []) (dx9 := 6) (mc := 0) (ms := 0) (host := "") 7 rfl t_X7_asKnown ⟨Or.inl q_11_240, i_X7_asKnown.1, i_X7_asKnown.2⟩ ⟨by decide, rfl⟩ (congrArg Prod.fst (J.1.1 78 (7, 16) rfl)) rfl (by decide) rfl rfl ⟨by decide, by decide⟩ (sf_X7_asKnown_r78d (jr_of rfl (by omega)) hD J rfl  (fun h J S9 X10 => ?_))
            have Sm := jSm_tr rfl Sm S9
            rw [X10] at D
            show jX m_X11_turn 8 0 0 42 [(0, .ref 31), (1, .int a1), (2, .int a2), (3, .int a3), (4, .int a4)] [] _ 0 0 _
            refine x_aloadn (x := 31) rfl rfl ?_
            refine z_getR (N := 13) (b := 107) 11 8 rfl f_11_75 rfl J rfl 3976 ⟨rfl, rfl⟩ rfl ?_
            refine x_iloadn (x := a1) rfl rfl ?_
            refine x_iloadn (x := a2) rfl rfl ?_
            refine x_iloadn (x := a3) rfl rfl ?_
            refine x_inv (N := m_X4_runTurns) (As := [.int a1, .int a2, .int a3]) (b := 107) (st := []) (dx9 := 7) (mc := 0) (ms := 0) (host := "") 4 rfl t_X4_runTurns ⟨Or.inl q_11_459, i_X4_runTurns.1, i_X4_runTurns.2⟩ ⟨by decide, rfl⟩ (congrArg Prod.fst (J.1.1 107 (4, 18) rfl)) rfl (by decide) rfl rfl ⟨by decide, by decide⟩ (sf_X4_runTurns_r107d (jr_of rfl (by omega)) (jr_of rfl (by omega)) (jr_of rfl (by omega)) hD J rfl  (fun h J S11 X12 => ?_))
            have Sm := jSm_tr rfl Sm S11
            rw [X12] at D
            show jX m_X11_turn 8 0 0 52 [(0, .ref 31), (1, .int a1), (2, .int a2), (3, .int a3), (4, .int a4)] [] _ 0 0 _
            refine x_iload (x := a4) rfl rfl ?_
            by_cases c13 : a4.toInt = 0
            ·
              refine x_lookup (tgt := 80) (off := 26) rfl (by decide) (by rw [show (a4).toInt = 0 from c13]; decide) rfl ?_
              rw [if_pos c13] at D
              refine x_aloadn (x := 31) rfl rfl ?_
              refine z_getR (N := 13) (b := 107) 11 8 rfl f_11_75 rfl J rfl 3976 ⟨rfl, rfl⟩ rfl ?_
              refine z_getR (N := 18) (b := 115) 4 11 rfl f_11_463 rfl J rfl 13707 ⟨rfl, rfl⟩ rfl ?_
              refine x_iloadn (x := a2) rfl rfl ?_
              refine z_iald (N := 400) rfl J rfl sg_115_0_400_1_0_1 rfl (by omega) (fun v14 qv14 ev14 => ?_)
              try rw [vrd qv14 (show a2.toInt = a2.toInt from by omega)] at D
              refine x_iret rfl rfl ?_
              exact hQ _ _ J Sm ((congrArg Prod.fst D).symm.trans (show v14.toInt = v14.toInt from by omega)) (congrArg Prod.snd D).symm
            rw [if_neg c13] at D
            by_cases c15 : a4.toInt = 1
            ·
              refine x_lookup (tgt := 90) (off := 36) rfl (by decide) (by rw [show (a4).toInt = 1 from c15]; decide) rfl ?_
              rw [if_pos c15] at D
              refine x_aloadn (x := 31) rfl rfl ?_
              refine z_getR (N := 13) (b := 107) 11 8 rfl f_11_75 rfl J rfl 3976 ⟨rfl, rfl⟩ rfl ?_
              refine z_getR (N := 18) (b := 116) 4 12 rfl f_11_466 rfl J rfl 13708 ⟨rfl, rfl⟩ rfl ?_
              refine x_iloadn (x := a2) rfl rfl ?_
              refine z_iald (N := 400) rfl J rfl sg_116_0_400_1_0_1 rfl (by omega) (fun v16 qv16 ev16 => ?_)
              try rw [vrd qv16 (show a2.toInt = a2.toInt from by omega)] at D
              refine x_iret rfl rfl ?_
              exact hQ _ _ J Sm ((congrArg Prod.fst D).symm.trans (show v16.toInt = v16.toInt from by omega)) (congrArg Prod.snd D).symm
            rw [if_neg c15] at D
            refine x_lookup (tgt := 100) (off := 46) rfl (by decide) (by simp [Op.lookupswitch.offset]; omega) rfl ?_
            refine x_aloadn (x := 31) rfl rfl ?_
            refine z_getR (N := 13) (b := 107) 11 8 rfl f_11_75 rfl J rfl 3976 ⟨rfl, rfl⟩ rfl ?_
            refine x_iloadn (x := a2) rfl rfl ?_
            refine x_inv (N := m_X4_unevenness) (As := [.int a2]) (b := 107) (st := []) (dx9 := 2) (mc := 0) (ms := 0) (host := "") 4 rfl t_X4_unevenness ⟨Or.inl q_11_469, i_X4_unevenness.1, i_X4_unevenness.2⟩ ⟨by decide, rfl⟩ (congrArg Prod.fst (J.1.1 107 (4, 18) rfl)) rfl (by decide) rfl rfl ⟨by decide, by decide⟩ (sf_X4_unevenness_r107d (jr_of rfl (by omega)) hD J rfl  (fun v20 h J S17 X18 X19 => ?_))
            have ev20 := jfull v20
            have Sm := jSm_tr rfl Sm S17
            try rw [X18] at D
            try rw [X19] at D
            show jX m_X11_turn 8 0 0 108 [(0, .ref 31), (1, .int a1), (2, .int a2), (3, .int a3), (4, .int a4)] [.int v20] _ 0 0 _
            refine x_iret rfl rfl ?_
            exact hQ _ _ J Sm ((congrArg Prod.fst D).symm.trans X18) ((congrArg Prod.snd D).symm.trans X19)
          ·
            rw [if_neg (by omega)] at D
            exact jX.sub jsb_n (ct_X11_turn_r31d_32 hD hQ  h J Sm D)
def fp_X8_put_r47_c0d : jFp := [(48, 0, 400)]
set_option maxRecDepth 100000 in
set_option maxHeartbeats 4000000 in
theorem ct_X8_put_r47_c0d_38 {Dy : jH → Prop} {h0 : jH} {Q : Option Value → jH → Prop} {dr : jW} (hD : jDk Dy) (hQ : ∀ hx9, jJ jSgX Dy hx9 → jSm fp_X8_put_r47_c0d h0 hx9 → dr = vw hx9 → Q none hx9) : ∀ (h : jH), jJ jSgX Dy h → jSm fp_X8_put_r47_c0d h0 h → d_X8_put_r47_c0d_38  (vw h) = dr → jX m_X8_put 1 0 0 38 [] [] h 0 0 Q := by
  intro  h    J Sm D
  unfold d_X8_put_r47_c0d_38 at D
  refine x_vret rfl rfl ?_
  exact hQ _ J Sm D.symm
set_option maxRecDepth 100000 in
set_option maxHeartbeats 4000000 in
theorem sf_X8_put_r47_c0d {Dy : jH → Prop} {h : jH} {Q : Option Value → jH → Prop} {dr : jW} {a1 : Int32} {a3 : Int32} (y1 : 0 ≤ a1.toInt ∧ a1.toInt ≤ 99) (y3 : 0 ≤ a3.toInt ∧ a3.toInt ≤ 146399) (hD : jDk Dy) (J : jJ jSgX Dy h) (D : d_X8_put_r47_c0d a1.toInt a3.toInt (vw h) = dr) (hQ : ∀ hx9, jJ jSgX Dy hx9 → jSm fp_X8_put_r47_c0d h hx9 → dr = vw hx9 → Q none hx9) : jC m_X8_put 1 0 0 [.ref 47, .int a1, .int 0, .int a3] h Q := by
  refine jC.of rfl k_X8_put rfl ?_
  have Sm := jSm_rf fp_X8_put_r47_c0d h
  show jX m_X8_put 1 0 0 0 [(0, .ref 47), (1, .int a1), (2, .int 0), (3, .int a3)] [] _ 0 0 _
  unfold d_X8_put_r47_c0d at D
  refine x_iloadn (x := a1) rfl rfl ?_
  refine x_iflt (tgt := 38) rfl rfl (ti_lt rfl jk_0 (br_f (by omega) ?_))
  refine x_iloadn (x := a1) rfl rfl ?_
  refine x_aloadn (x := 47) rfl rfl ?_
  refine z_getI (N := 4) 8 3 rfl f_8_7 rfl J rfl sg_47_3_4_1_0_1 (fun v1 qv1 ev1 => ?_)
  try rw [vrf qv1] at D
  refine x_icge (tgt := 38) rfl rfl (ti_ge rfl rfl ⟨fun c2 => ?_, fun c2 => ?_⟩)
  ·
    rw [if_pos (by omega)] at D
    exact jX.sub jsb_n (ct_X8_put_r47_c0d_38 hD hQ  h J Sm D)
  ·
    rw [if_neg (by omega)] at D
    refine x_iloadn (x := 0) rfl rfl ?_
    refine x_iflt (tgt := 38) rfl rfl (ti_lt jk_0 jk_0 (br_f (by omega) ?_))
    refine x_iloadn (x := 0) rfl rfl ?_
    refine x_aloadn (x := 47) rfl rfl ?_
    refine z_getC (N := 4) (v := 4) 8 0 rfl f_8_19 rfl J rfl sg_47_0_1_1_0_1 jk_4 ?_
    refine x_icge (tgt := 38) rfl rfl (ti_ge jk_0 jk_4 (br_f (by omega) ?_))
    refine x_aloadn (x := 47) rfl rfl ?_
    refine z_getR (N := 4) (b := 48) 8 2 rfl f_8_25 rfl J rfl 6018 ⟨rfl, rfl⟩ rfl ?_
    refine x_iloadn (x := a1) rfl rfl ?_
    refine x_aloadn (x := 47) rfl rfl ?_
    refine z_getC (N := 4) (v := 4) 8 0 rfl f_8_19 rfl J rfl sg_47_0_1_1_0_1 jk_4 ?_
    refine z_imul rfl rfl jk_4 (by omega) (fun v3 ev3 => ?_)
    refine x_iloadn (x := 0) rfl rfl ?_
    refine z_iadd rfl rfl jk_0 (by omega) (fun v4 ev4 => ?_)
    refine x_iloadn (x := a3) rfl rfl ?_
    refine z_iast (N := 400) (l := 0) (u := 400) (w := a3.toInt) rfl hD J Sm rfl rfl rfl (by omega) rfl (wr_48 (fun q1 q2 q3 q4 => by omega) (fun q1 q2 q3 q4 => by omega) (fun q1 q2 q3 q4 => by omega) (fun q1 q2 q3 q4 => by omega)) rfl (fun h w5 J Sm => ?_)
    rw [vww w5 (show ((a1.toInt * 4) + 0) = v4.toInt from by omega) (show a3.toInt = a3.toInt from by omega)] at D
    exact jX.sub jsb_n (ct_X8_put_r47_c0d_38 hD hQ  h J Sm D)
def fp_X8_put_r47_c1d : jFp := [(48, 0, 400)]
set_option maxRecDepth 100000 in
set_option maxHeartbeats 4000000 in
theorem ct_X8_put_r47_c1d_38 {Dy : jH → Prop} {h0 : jH} {Q : Option Value → jH → Prop} {dr : jW} (hD : jDk Dy) (hQ : ∀ hx9, jJ jSgX Dy hx9 → jSm fp_X8_put_r47_c1d h0 hx9 → dr = vw hx9 → Q none hx9) : ∀ (h : jH), jJ jSgX Dy h → jSm fp_X8_put_r47_c1d h0 h → d_X8_put_r47_c1d_38  (vw h) = dr → jX m_X8_put 1 0 0 38 [] [] h 0 0 Q := by
  intro  h    J Sm D
  unfold d_X8_put_r47_c1d_38 at D
  refine x_vret rfl rfl ?_
  exact hQ _ J Sm D.symm
set_option maxRecDepth 100000 in
set_option maxHeartbeats 4000000 in
theorem sf_X8_put_r47_c1d {Dy : jH → Prop} {h : jH} {Q : Option Value → jH → Prop} {dr : jW} {a1 : Int32} {a3 : Int32} (y1 : 0 ≤ a1.toInt ∧ a1.toInt ≤ 99) (y3 : 0 ≤ a3.toInt ∧ a3.toInt ≤ 146399) (hD : jDk Dy) (J : jJ jSgX Dy h) (D : d_X8_put_r47_c1d a1.toInt a3.toInt (vw h) = dr) (hQ : ∀ hx9, jJ jSgX Dy hx9 → jSm fp_X8_put_r47_c1d h hx9 → dr = vw hx9 → Q none hx9) : jC m_X8_put 1 0 0 [.ref 47, .int a1, .int 1, .int a3] h Q := by
  refine jC.of rfl k_X8_put rfl ?_
  have Sm := jSm_rf fp_X8_put_r47_c1d h
  show jX m_X8_put 1 0 0 0 [(0, .ref 47), (1, .int a1), (2, .int 1), (3, .int a3)] [] _ 0 0 _
  unfold d_X8_put_r47_c1d at D
  refine x_iloadn (x := a1) rfl rfl ?_
  refine x_iflt (tgt := 38) rfl rfl (ti_lt rfl jk_0 (br_f (by omega) ?_))
  refine x_iloadn (x := a1) rfl rfl ?_
  refine x_aloadn (x := 47) rfl rfl ?_
  refine z_getI (N := 4) 8 3 rfl f_8_7 rfl J rfl sg_47_3_4_1_0_1 (fun v1 qv1 ev1 => ?_)
  try rw [vrf qv1] at D
  refine x_icge (tgt := 38) rfl rfl (ti_ge rfl rfl ⟨fun c2 => ?_, fun c2 => ?_⟩)
  ·
    rw [if_pos (by omega)] at D
    exact jX.sub jsb_n (ct_X8_put_r47_c1d_38 hD hQ  h J Sm D)
  ·
    rw [if_neg (by omega)] at D
    refine x_iloadn (x := 1) rfl rfl ?_
    refine x_iflt (tgt := 38) rfl rfl (ti_lt jk_1 jk_0 (br_f (by omega) ?_))
    refine x_iloadn (x := 1) rfl rfl ?_
    refine x_aloadn (x := 47) rfl rfl ?_
    refine z_getC (N := 4) (v := 4) 8 0 rfl f_8_19 rfl J rfl sg_47_0_1_1_0_1 jk_4 ?_
    refine x_icge (tgt := 38) rfl rfl (ti_ge jk_1 jk_4 (br_f (by omega) ?_))
    refine x_aloadn (x := 47) rfl rfl ?_
    refine z_getR (N := 4) (b := 48) 8 2 rfl f_8_25 rfl J rfl 6018 ⟨rfl, rfl⟩ rfl ?_
    refine x_iloadn (x := a1) rfl rfl ?_
    refine x_aloadn (x := 47) rfl rfl ?_
    refine z_getC (N := 4) (v := 4) 8 0 rfl f_8_19 rfl J rfl sg_47_0_1_1_0_1 jk_4 ?_
    refine z_imul rfl rfl jk_4 (by omega) (fun v3 ev3 => ?_)
    refine x_iloadn (x := 1) rfl rfl ?_
    refine z_iadd rfl rfl jk_1 (by omega) (fun v4 ev4 => ?_)
    refine x_iloadn (x := a3) rfl rfl ?_
    refine z_iast (N := 400) (l := 0) (u := 400) (w := a3.toInt) rfl hD J Sm rfl rfl rfl (by omega) rfl (wr_48 (fun q1 q2 q3 q4 => by omega) (fun q1 q2 q3 q4 => by omega) (fun q1 q2 q3 q4 => by omega) (fun q1 q2 q3 q4 => by omega)) rfl (fun h w5 J Sm => ?_)
    rw [vww w5 (show ((a1.toInt * 4) + 1) = v4.toInt from by omega) (show a3.toInt = a3.toInt from by omega)] at D
    exact jX.sub jsb_n (ct_X8_put_r47_c1d_38 hD hQ  h J Sm D)
def fp_X8_put_r47_c2d : jFp := [(48, 0, 400)]
set_option maxRecDepth 100000 in
set_option maxHeartbeats 4000000 in
theorem ct_X8_put_r47_c2d_38 {Dy : jH → Prop} {h0 : jH} {Q : Option Value → jH → Prop} {dr : jW} (hD : jDk Dy) (hQ : ∀ hx9, jJ jSgX Dy hx9 → jSm fp_X8_put_r47_c2d h0 hx9 → dr = vw hx9 → Q none hx9) : ∀ (h : jH), jJ jSgX Dy h → jSm fp_X8_put_r47_c2d h0 h → d_X8_put_r47_c2d_38  (vw h) = dr → jX m_X8_put 1 0 0 38 [] [] h 0 0 Q := by
  intro  h    J Sm D
  unfold d_X8_put_r47_c2d_38 at D
  refine x_vret rfl rfl ?_
  exact hQ _ J Sm D.symm
set_option maxRecDepth 100000 in
set_option maxHeartbeats 4000000 in
theorem sf_X8_put_r47_c2d {Dy : jH → Prop} {h : jH} {Q : Option Value → jH → Prop} {dr : jW} {a1 : Int32} {a3 : Int32} (y1 : 0 ≤ a1.toInt ∧ a1.toInt ≤ 99) (y3 : 0 ≤ a3.toInt ∧ a3.toInt ≤ 39) (hD : jDk Dy) (J : jJ jSgX Dy h) (D : d_X8_put_r47_c2d a1.toInt a3.toInt (vw h) = dr) (hQ : ∀ hx9, jJ jSgX Dy hx9 → jSm fp_X8_put_r47_c2d h hx9 → dr = vw hx9 → Q none hx9) : jC m_X8_put 1 0 0 [.ref 47, .int a1, .int 2, .int a3] h Q := by
  refine jC.of rfl k_X8_put rfl ?_
  have Sm := jSm_rf fp_X8_put_r47_c2d h
  show jX m_X8_put 1 0 0 0 [(0, .ref 47), (1, .int a1), (2, .int 2), (3, .int a3)] [] _ 0 0 _
  unfold d_X8_put_r47_c2d at D
  refine x_iloadn (x := a1) rfl rfl ?_
  refine x_iflt (tgt := 38) rfl rfl (ti_lt rfl jk_0 (br_f (by omega) ?_))
  refine x_iloadn (x := a1) rfl rfl ?_
  refine x_aloadn (x := 47) rfl rfl ?_
  refine z_getI (N := 4) 8 3 rfl f_8_7 rfl J rfl sg_47_3_4_1_0_1 (fun v1 qv1 ev1 => ?_)
  try rw [vrf qv1] at D
  refine x_icge (tgt := 38) rfl rfl (ti_ge rfl rfl ⟨fun c2 => ?_, fun c2 => ?_⟩)
  ·
    rw [if_pos (by omega)] at D
    exact jX.sub jsb_n (ct_X8_put_r47_c2d_38 hD hQ  h J Sm D)
  ·
    rw [if_neg (by omega)] at D
    refine x_iloadn (x := 2) rfl rfl ?_
    refine x_iflt (tgt := 38) rfl rfl (ti_lt jk_2 jk_0 (br_f (by omega) ?_))
    refine x_iloadn (x := 2) rfl rfl ?_
    refine x_aloadn (x := 47) rfl rfl ?_
    refine z_getC (N := 4) (v := 4) 8 0 rfl f_8_19 rfl J rfl sg_47_0_1_1_0_1 jk_4 ?_
    refine x_icge (tgt := 38) rfl rfl (ti_ge jk_2 jk_4 (br_f (by omega) ?_))
    refine x_aloadn (x := 47) rfl rfl ?_
    refine z_getR (N := 4) (b := 48) 8 2 rfl f_8_25 rfl J rfl 6018 ⟨rfl, rfl⟩ rfl ?_
    refine x_iloadn (x := a1) rfl rfl ?_
    refine x_aloadn (x := 47) rfl rfl ?_
    refine z_getC (N := 4) (v := 4) 8 0 rfl f_8_19 rfl J rfl sg_47_0_1_1_0_1 jk_4 ?_
    refine z_imul rfl rfl jk_4 (by omega) (fun v3 ev3 => ?_)
    refine x_iloadn (x := 2) rfl rfl ?_
    refine z_iadd rfl rfl jk_2 (by omega) (fun v4 ev4 => ?_)
    refine x_iloadn (x := a3) rfl rfl ?_
    refine z_iast (N := 400) (l := 0) (u := 400) (w := a3.toInt) rfl hD J Sm rfl rfl rfl (by omega) rfl (wr_48 (fun q1 q2 q3 q4 => by omega) (fun q1 q2 q3 q4 => by omega) (fun q1 q2 q3 q4 => by omega) (fun q1 q2 q3 q4 => by omega)) rfl (fun h w5 J Sm => ?_)
    rw [vww w5 (show ((a1.toInt * 4) + 2) = v4.toInt from by omega) (show a3.toInt = a3.toInt from by omega)] at D
    exact jX.sub jsb_n (ct_X8_put_r47_c2d_38 hD hQ  h J Sm D)
def fp_X8_put_r47_c3d : jFp := [(48, 0, 400)]
set_option maxRecDepth 100000 in
set_option maxHeartbeats 4000000 in
theorem ct_X8_put_r47_c3d_38 {Dy : jH → Prop} {h0 : jH} {Q : Option Value → jH → Prop} {dr : jW} (hD : jDk Dy) (hQ : ∀ hx9, jJ jSgX Dy hx9 → jSm fp_X8_put_r47_c3d h0 hx9 → dr = vw hx9 → Q none hx9) : ∀ (h : jH), jJ jSgX Dy h → jSm fp_X8_put_r47_c3d h0 h → d_X8_put_r47_c3d_38  (vw h) = dr → jX m_X8_put 1 0 0 38 [] [] h 0 0 Q := by
  intro  h    J Sm D
  unfold d_X8_put_r47_c3d_38 at D
  refine x_vret rfl rfl ?_
  exact hQ _ J Sm D.symm
set_option maxRecDepth 100000 in
set_option maxHeartbeats 4000000 in
theorem sf_X8_put_r47_c3d {Dy : jH → Prop} {h : jH} {Q : Option Value → jH → Prop} {dr : jW} {a1 : Int32} {a3 : Int32} (y1 : 0 ≤ a1.toInt ∧ a1.toInt ≤ 99) (y3 : 0 ≤ a3.toInt ∧ a3.toInt ≤ 10000) (hD : jDk Dy) (J : jJ jSgX Dy h) (D : d_X8_put_r47_c3d a1.toInt a3.toInt (vw h) = dr) (hQ : ∀ hx9, jJ jSgX Dy hx9 → jSm fp_X8_put_r47_c3d h hx9 → dr = vw hx9 → Q none hx9) : jC m_X8_put 1 0 0 [.ref 47, .int a1, .int 3, .int a3] h Q := by
  refine jC.of rfl k_X8_put rfl ?_
  have Sm := jSm_rf fp_X8_put_r47_c3d h
  show jX m_X8_put 1 0 0 0 [(0, .ref 47), (1, .int a1), (2, .int 3), (3, .int a3)] [] _ 0 0 _
  unfold d_X8_put_r47_c3d at D
  refine x_iloadn (x := a1) rfl rfl ?_
  refine x_iflt (tgt := 38) rfl rfl (ti_lt rfl jk_0 (br_f (by omega) ?_))
  refine x_iloadn (x := a1) rfl rfl ?_
  refine x_aloadn (x := 47) rfl rfl ?_
  refine z_getI (N := 4) 8 3 rfl f_8_7 rfl J rfl sg_47_3_4_1_0_1 (fun v1 qv1 ev1 => ?_)
  try rw [vrf qv1] at D
  refine x_icge (tgt := 38) rfl rfl (ti_ge rfl rfl ⟨fun c2 => ?_, fun c2 => ?_⟩)
  ·
    rw [if_pos (by omega)] at D
    exact jX.sub jsb_n (ct_X8_put_r47_c3d_38 hD hQ  h J Sm D)
  ·
    rw [if_neg (by omega)] at D
    refine x_iloadn (x := 3) rfl rfl ?_
    refine x_iflt (tgt := 38) rfl rfl (ti_lt jk_3 jk_0 (br_f (by omega) ?_))
    refine x_iloadn (x := 3) rfl rfl ?_
    refine x_aloadn (x := 47) rfl rfl ?_
    refine z_getC (N := 4) (v := 4) 8 0 rfl f_8_19 rfl J rfl sg_47_0_1_1_0_1 jk_4 ?_
    refine x_icge (tgt := 38) rfl rfl (ti_ge jk_3 jk_4 (br_f (by omega) ?_))
    refine x_aloadn (x := 47) rfl rfl ?_
    refine z_getR (N := 4) (b := 48) 8 2 rfl f_8_25 rfl J rfl 6018 ⟨rfl, rfl⟩ rfl ?_
    refine x_iloadn (x := a1) rfl rfl ?_
    refine x_aloadn (x := 47) rfl rfl ?_
    refine z_getC (N := 4) (v := 4) 8 0 rfl f_8_19 rfl J rfl sg_47_0_1_1_0_1 jk_4 ?_
    refine z_imul rfl rfl jk_4 (by omega) (fun v3 ev3 => ?_)
    refine x_iloadn (x := 3) rfl rfl ?_
    refine z_iadd rfl rfl jk_3 (by omega) (fun v4 ev4 => ?_)
    refine x_iloadn (x := a3) rfl rfl ?_
    refine z_iast (N := 400) (l := 0) (u := 400) (w := a3.toInt) rfl hD J Sm rfl rfl rfl (by omega) rfl (wr_48 (fun q1 q2 q3 q4 => by omega) (fun q1 q2 q3 q4 => by omega) (fun q1 q2 q3 q4 => by omega) (fun q1 q2 q3 q4 => by omega)) rfl (fun h w5 J Sm => ?_)
    rw [vww w5 (show ((a1.toInt * 4) + 3) = v4.toInt from by omega) (show a3.toInt = a3.toInt from by omega)] at D
    exact jX.sub jsb_n (ct_X8_put_r47_c3d_38 hD hQ  h J Sm D)
def fp_X8_put_r47_c4d : jFp := []
set_option maxRecDepth 100000 in
set_option maxHeartbeats 4000000 in
theorem ct_X8_put_r47_c4d_38 {Dy : jH → Prop} {h0 : jH} {Q : Option Value → jH → Prop} {dr : jW} (hD : jDk Dy) (hQ : ∀ hx9, jJ jSgX Dy hx9 → jSm fp_X8_put_r47_c4d h0 hx9 → dr = vw hx9 → Q none hx9) : ∀ (h : jH), jJ jSgX Dy h → jSm fp_X8_put_r47_c4d h0 h → d_X8_put_r47_c4d_38  (vw h) = dr → jX m_X8_put 1 0 0 38 [] [] h 0 0 Q := by
  intro  h    J Sm D
  unfold d_X8_put_r47_c4d_38 at D
  refine x_vret rfl rfl ?_
  exact hQ _ J Sm D.symm
set_option maxRecDepth 100000 in
set_option maxHeartbeats 4000000 in
theorem sf_X8_put_r47_c4d {Dy : jH → Prop} {h : jH} {Q : Option Value → jH → Prop} {dr : jW} {a1 : Int32} {a3 : Int32} (y1 : 0 ≤ a1.toInt ∧ a1.toInt ≤ 99) (y3 : 0 ≤ a3.toInt ∧ a3.toInt ≤ 0) (hD : jDk Dy) (J : jJ jSgX Dy h) (D : d_X8_put_r47_c4d a1.toInt a3.toInt (vw h) = dr) (hQ : ∀ hx9, jJ jSgX Dy hx9 → jSm fp_X8_put_r47_c4d h hx9 → dr = vw hx9 → Q none hx9) : jC m_X8_put 1 0 0 [.ref 47, .int a1, .int 4, .int a3] h Q := by
  refine jC.of rfl k_X8_put rfl ?_
  have Sm := jSm_rf fp_X8_put_r47_c4d h
  show jX m_X8_put 1 0 0 0 [(0, .ref 47), (1, .int a1), (2, .int 4), (3, .int a3)] [] _ 0 0 _
  unfold d_X8_put_r47_c4d at D
  refine x_iloadn (x := a1) rfl rfl ?_
  refine x_iflt (tgt := 38) rfl rfl (ti_lt rfl jk_0 (br_f (by omega) ?_))
  refine x_iloadn (x := a1) rfl rfl ?_
  refine x_aloadn (x := 47) rfl rfl ?_
  refine z_getI (N := 4) 8 3 rfl f_8_7 rfl J rfl sg_47_3_4_1_0_1 (fun v1 qv1 ev1 => ?_)
  try rw [vrf qv1] at D
  refine x_icge (tgt := 38) rfl rfl (ti_ge rfl rfl ⟨fun c2 => ?_, fun c2 => ?_⟩)
  ·
    rw [if_pos (by omega)] at D
    exact jX.sub jsb_n (ct_X8_put_r47_c4d_38 hD hQ  h J Sm D)
  ·
    rw [if_neg (by omega)] at D
    refine x_iloadn (x := 4) rfl rfl ?_
    refine x_iflt (tgt := 38) rfl rfl (ti_lt jk_4 jk_0 (br_f (by omega) ?_))
    refine x_iloadn (x := 4) rfl rfl ?_
    refine x_aloadn (x := 47) rfl rfl ?_
    refine z_getC (N := 4) (v := 4) 8 0 rfl f_8_19 rfl J rfl sg_47_0_1_1_0_1 jk_4 ?_
    refine x_icge (tgt := 38) rfl rfl (ti_ge jk_4 jk_4 (br_t (by omega) ?_))
    exact jX.sub jsb_n (ct_X8_put_r47_c4d_38 hD hQ  h J Sm D)
def fp_X8_put_r47_c5d : jFp := []
set_option maxRecDepth 100000 in
set_option maxHeartbeats 4000000 in
theorem ct_X8_put_r47_c5d_38 {Dy : jH → Prop} {h0 : jH} {Q : Option Value → jH → Prop} {dr : jW} (hD : jDk Dy) (hQ : ∀ hx9, jJ jSgX Dy hx9 → jSm fp_X8_put_r47_c5d h0 hx9 → dr = vw hx9 → Q none hx9) : ∀ (h : jH), jJ jSgX Dy h → jSm fp_X8_put_r47_c5d h0 h → d_X8_put_r47_c5d_38  (vw h) = dr → jX m_X8_put 1 0 0 38 [] [] h 0 0 Q := by
  intro  h    J Sm D
  unfold d_X8_put_r47_c5d_38 at D
  refine x_vret rfl rfl ?_
  exact hQ _ J Sm D.symm
set_option maxRecDepth 100000 in
set_option maxHeartbeats 4000000 in
theorem sf_X8_put_r47_c5d {Dy : jH → Prop} {h : jH} {Q : Option Value → jH → Prop} {dr : jW} {a1 : Int32} {a3 : Int32} (y1 : 0 ≤ a1.toInt ∧ a1.toInt ≤ 99) (y3 : 0 ≤ a3.toInt ∧ a3.toInt ≤ 0) (hD : jDk Dy) (J : jJ jSgX Dy h) (D : d_X8_put_r47_c5d a1.toInt a3.toInt (vw h) = dr) (hQ : ∀ hx9, jJ jSgX Dy hx9 → jSm fp_X8_put_r47_c5d h hx9 → dr = vw hx9 → Q none hx9) : jC m_X8_put 1 0 0 [.ref 47, .int a1, .int 5, .int a3] h Q := by
  refine jC.of rfl k_X8_put rfl ?_
  have Sm := jSm_rf fp_X8_put_r47_c5d h
  show jX m_X8_put 1 0 0 0 [(0, .ref 47), (1, .int a1), (2, .int 5), (3, .int a3)] [] _ 0 0 _
  unfold d_X8_put_r47_c5d at D
  refine x_iloadn (x := a1) rfl rfl ?_
  refine x_iflt (tgt := 38) rfl rfl (ti_lt rfl jk_0 (br_f (by omega) ?_))
  refine x_iloadn (x := a1) rfl rfl ?_
  refine x_aloadn (x := 47) rfl rfl ?_
  refine z_getI (N := 4) 8 3 rfl f_8_7 rfl J rfl sg_47_3_4_1_0_1 (fun v1 qv1 ev1 => ?_)
  try rw [vrf qv1] at D
  refine x_icge (tgt := 38) rfl rfl (ti_ge rfl rfl ⟨fun c2 => ?_, fun c2 => ?_⟩)
  ·
    rw [if_pos (by omega)] at D
    exact jX.sub jsb_n (ct_X8_put_r47_c5d_38 hD hQ  h J Sm D)
  ·
    rw [if_neg (by omega)] at D
    refine x_iloadn (x := 5) rfl rfl ?_
    refine x_iflt (tgt := 38) rfl rfl (ti_lt jk_5 jk_0 (br_f (by omega) ?_))
    refine x_iloadn (x := 5) rfl rfl ?_
    refine x_aloadn (x := 47) rfl rfl ?_
    refine z_getC (N := 4) (v := 4) 8 0 rfl f_8_19 rfl J rfl sg_47_0_1_1_0_1 jk_4 ?_
    refine x_icge (tgt := 38) rfl rfl (ti_ge jk_5 jk_4 (br_t (by omega) ?_))
    exact jX.sub jsb_n (ct_X8_put_r47_c5d_38 hD hQ  h J Sm D)
def fp_X8_add_r47d : jFp := [(47, 3, 4), (48, 0, 400)]
set_option maxRecDepth 100000 in
set_option maxHeartbeats 4000000 in
theorem sf_X8_add_r47d {Dy : jH → Prop} {h : jH} {Q : Option Value → jH → Prop} {dr : jW} {a1 : Int32} {a2 : Int32} {a3 : Int32} {a4 : Int32} {a5 : Int32} {a6 : Int32} (y1 : 0 ≤ a1.toInt ∧ a1.toInt ≤ 146399) (y2 : 0 ≤ a2.toInt ∧ a2.toInt ≤ 146399) (y3 : 0 ≤ a3.toInt ∧ a3.toInt ≤ 39) (y4 : 0 ≤ a4.toInt ∧ a4.toInt ≤ 10000) (y5 : 0 ≤ a5.toInt ∧ a5.toInt ≤ 0) (y6 : 0 ≤ a6.toInt ∧ a6.toInt ≤ 0) (hD : jDk Dy) (J : jJ jSgX Dy h) (D : d_X8_add_r47d a1.toInt a2.toInt a3.toInt a4.toInt a5.toInt a6.toInt (vw h) = dr) (hQ : ∀ hx9, jJ jSgX Dy hx9 → jSm fp_X8_add_r47d h hx9 → dr = vw hx9 → Q none hx9) : jC m_X8_add 2 0 0 [.ref 47, .int a1, .int a2, .int a3, .int a4, .int a5, .int a6] h Q := by
  refine jC.of rfl k_X8_add rfl ?_
  have Sm := jSm_rf fp_X8_add_r47d h
  show jX m_X8_add 2 0 0 0 [(0, .ref 47), (1, .int a1), (2, .int a2), (3, .int a3), (4, .int a4), (5, .int a5), (6, .int a6)] [] _ 0 0 _
  unfold d_X8_add_r47d at D
  refine x_aloadn (x := 47) rfl rfl ?_
  refine z_getI (N := 4) 8 3 rfl f_8_7 rfl J rfl sg_47_3_4_1_0_1 (fun v1 qv1 ev1 => ?_)
  try rw [vrf qv1] at D
  refine x_aloadn (x := 47) rfl rfl ?_
  refine z_getC (N := 4) (v := 100) 8 1 rfl f_8_22 rfl J rfl sg_47_1_2_1_0_1 jk_100 ?_
  refine x_iclt (tgt := 12) rfl rfl (ti_lt rfl jk_100 ⟨fun c2 => ?_, fun c2 => ?_⟩)
  ·
    rw [if_pos (by omega)] at D
    refine x_aloadn (x := 47) rfl rfl ?_
    refine z_getM (N := 4) (v := v1) 8 3 rfl f_8_7 rfl J rfl qv1 ?_
    refine x_istore (lsx9 := [(7, .int v1), (0, .ref 47), (1, .int a1), (2, .int a2), (3, .int a3), (4, .int a4), (5, .int a5), (6, .int a6)]) rfl rfl rfl ?_
    refine x_aloadn (x := 47) rfl rfl ?_
    refine x_iload (x := v1) rfl rfl ?_
    refine x_iconst (v := 1) rfl ki_1 ?_
    refine z_iadd rfl rfl jk_1 (by omega) (fun v3 ev3 => ?_)
    refine z_putI (N := 4) (w := v3.toInt) 8 3 rfl f_8_7 rfl (jfin_no TX8 RX8 4 rfl rfl) hD J Sm rfl rfl rfl (pw_47_3 (by omega)) rfl (fun h w4 J Sm => ?_)
    rw [vwf w4 (show (v1.toInt + 1) = v3.toInt from by omega)] at D
    refine x_aloadn (x := 47) rfl rfl ?_
    refine x_iload (x := v1) rfl rfl ?_
    refine x_iconst (v := 0) rfl ki_0 ?_
    refine x_iloadn (x := a1) rfl rfl ?_
    refine x_inv (N := m_X8_put) (As := [.int v1, .int 0, .int a1]) (b := 47) (st := []) (dx9 := 1) (mc := 0) (ms := 0) (host := "") 8 rfl t_X8_put ⟨Or.inl q_8_29, i_X8_put.1, i_X8_put.2⟩ ⟨by decide, rfl⟩ (congrArg Prod.fst (J.1.1 47 (8, 4) rfl)) rfl (by decide) rfl rfl ⟨by decide, by decide⟩ (sf_X8_put_r47_c0d (jr_of rfl (by omega)) (jr_of rfl (by omega)) hD J rfl  (fun h J S5 X6 => ?_))
    have Sm := jSm_tr rfl Sm S5
    rw [X6] at D
    show jX m_X8_add 2 0 0 34 [(7, .int v1), (0, .ref 47), (1, .int a1), (2, .int a2), (3, .int a3), (4, .int a4), (5, .int a5), (6, .int a6)] [] _ 0 0 _
    refine x_aloadn (x := 47) rfl rfl ?_
    refine x_iload (x := v1) rfl rfl ?_
    refine x_iconst (v := 1) rfl ki_1 ?_
    refine x_iloadn (x := a2) rfl rfl ?_
    refine x_inv (N := m_X8_put) (As := [.int v1, .int 1, .int a2]) (b := 47) (st := []) (dx9 := 1) (mc := 0) (ms := 0) (host := "") 8 rfl t_X8_put ⟨Or.inl q_8_29, i_X8_put.1, i_X8_put.2⟩ ⟨by decide, rfl⟩ (congrArg Prod.fst (J.1.1 47 (8, 4) rfl)) rfl (by decide) rfl rfl ⟨by decide, by decide⟩ (sf_X8_put_r47_c1d (jr_of rfl (by omega)) (jr_of rfl (by omega)) hD J rfl  (fun h J S7 X8 => ?_))
    have Sm := jSm_tr rfl Sm S7
    rw [X8] at D
    show jX m_X8_add 2 0 0 42 [(7, .int v1), (0, .ref 47), (1, .int a1), (2, .int a2), (3, .int a3), (4, .int a4), (5, .int a5), (6, .int a6)] [] _ 0 0 _
    refine x_aloadn (x := 47) rfl rfl ?_
    refine x_iload (x := v1) rfl rfl ?_
    refine x_iconst (v := 2) rfl ki_2 ?_
    refine x_iloadn (x := a3) rfl rfl ?_
    refine x_inv (N := m_X8_put) (As := [.int v1, .int 2, .int a3]) (b := 47) (st := []) (dx9 := 1) (mc := 0) (ms := 0) (host := "") 8 rfl t_X8_put ⟨Or.inl q_8_29, i_X8_put.1, i_X8_put.2⟩ ⟨by decide, rfl⟩ (congrArg Prod.fst (J.1.1 47 (8, 4) rfl)) rfl (by decide) rfl rfl ⟨by decide, by decide⟩ (sf_X8_put_r47_c2d (jr_of rfl (by omega)) (jr_of rfl (by omega)) hD J rfl  (fun h J S9 X10 => ?_))
    have Sm := jSm_tr rfl Sm S9
    rw [X10] at D
    show jX m_X8_add 2 0 0 50 [(7, .int v1), (0, .ref 47), (1, .int a1), (2, .int a2), (3, .int a3), (4, .int a4), (5, .int a5), (6, .int a6)] [] _ 0 0 _
    refine x_aloadn (x := 47) rfl rfl ?_
    refine x_iload (x := v1) rfl rfl ?_
    refine x_iconst (v := 3) rfl ki_3 ?_
    refine x_iload (x := a4) rfl rfl ?_
    refine x_inv (N := m_X8_put) (As := [.int v1, .int 3, .int a4]) (b := 47) (st := []) (dx9 := 1) (mc := 0) (ms := 0) (host := "") 8 rfl t_X8_put ⟨Or.inl q_8_29, i_X8_put.1, i_X8_put.2⟩ ⟨by decide, rfl⟩ (congrArg Prod.fst (J.1.1 47 (8, 4) rfl)) rfl (by decide) rfl rfl ⟨by decide, by decide⟩ (sf_X8_put_r47_c3d (jr_of rfl (by omega)) (jr_of rfl (by omega)) hD J rfl  (fun h J S11 X12 => ?_))
    have Sm := jSm_tr rfl Sm S11
    rw [X12] at D
    show jX m_X8_add 2 0 0 59 [(7, .int v1), (0, .ref 47), (1, .int a1), (2, .int a2), (3, .int a3), (4, .int a4), (5, .int a5), (6, .int a6)] [] _ 0 0 _
    refine x_aloadn (x := 47) rfl rfl ?_
    refine x_iload (x := v1) rfl rfl ?_
    refine x_iconst (v := 4) rfl ki_4 ?_
    refine x_iload (x := a5) rfl rfl ?_
    refine x_inv (N := m_X8_put) (As := [.int v1, .int 4, .int a5]) (b := 47) (st := []) (dx9 := 1) (mc := 0) (ms := 0) (host := "") 8 rfl t_X8_put ⟨Or.inl q_8_29, i_X8_put.1, i_X8_put.2⟩ ⟨by decide, rfl⟩ (congrArg Prod.fst (J.1.1 47 (8, 4) rfl)) rfl (by decide) rfl rfl ⟨by decide, by decide⟩ (sf_X8_put_r47_c4d (jr_of rfl (by omega)) (jr_of rfl (by omega)) hD J rfl  (fun h J S13 X14 => ?_))
    have Sm := jSm_tr rfl Sm S13
    rw [X14] at D
    show jX m_X8_add 2 0 0 68 [(7, .int v1), (0, .ref 47), (1, .int a1), (2, .int a2), (3, .int a3), (4, .int a4), (5, .int a5), (6, .int a6)] [] _ 0 0 _
    refine x_aloadn (x := 47) rfl rfl ?_
    refine x_iload (x := v1) rfl rfl ?_
    refine x_iconst (v := 5) rfl ki_5 ?_
    refine x_iload (x := a6) rfl rfl ?_
    refine x_inv (N := m_X8_put) (As := [.int v1, .int 5, .int a6]) (b := 47) (st := []) (dx9 := 1) (mc := 0) (ms := 0) (host := "") 8 rfl t_X8_put ⟨Or.inl q_8_29, i_X8_put.1, i_X8_put.2⟩ ⟨by decide, rfl⟩ (congrArg Prod.fst (J.1.1 47 (8, 4) rfl)) rfl (by decide) rfl rfl ⟨by decide, by decide⟩ (sf_X8_put_r47_c5d (jr_of rfl (by omega)) (jr_of rfl (by omega)) hD J rfl  (fun h J S15 X16 => ?_))
    have Sm := jSm_tr rfl Sm S15
    rw [X16] at D
    show jX m_X8_add 2 0 0 77 [(7, .int v1), (0, .ref 47), (1, .int a1), (2, .int a2), (3, .int a3), (4, .int a4), (5, .int a5), (6, .int a6)] [] _ 0 0 _
    refine x_vret rfl rfl ?_
    exact hQ _ J Sm D.symm
  ·
    rw [if_neg (by omega)] at D
    refine x_vret rfl rfl ?_
    exact hQ _ J Sm D.symm
def fp_X8_isFull_r47d : jFp := []
set_option maxRecDepth 100000 in
set_option maxHeartbeats 4000000 in
theorem ct_X8_isFull_r47d_200016 {Dy : jH → Prop} {h0 : jH} {Q : Option Value → jH → Prop} {dr : Int} (hD : jDk Dy) (hQ : ∀ (v : Int32) hx9, 0 ≤ v.toInt ∧ v.toInt ≤ 1 → jJ jSgX Dy hx9 → jSm fp_X8_isFull_r47d h0 hx9 → dr = v.toInt → vw hx9 = vw h0 → Q (some (.int v)) hx9) : ∀ (h : jH), jJ jSgX Dy h → jSm fp_X8_isFull_r47d h0 h → d_X8_isFull_r47d_200016  (vw h) = dr → vw h = vw h0 → jX m_X8_isFull 1 0 0 16 [] [.int 0] h 0 0 Q := by
  intro  h    J Sm D EV
  unfold d_X8_isFull_r47d_200016 at D
  refine x_zret rfl rfl (by decide) ?_
  exact hQ _ _ (jr_of jk_0 (by omega)) J Sm (D.symm.trans (show 0 = (0 : Int32).toInt from by have := jk_0; omega)) EV
set_option maxRecDepth 100000 in
set_option maxHeartbeats 4000000 in
theorem ct_X8_isFull_r47d_300016 {Dy : jH → Prop} {h0 : jH} {Q : Option Value → jH → Prop} {dr : Int} (hD : jDk Dy) (hQ : ∀ (v : Int32) hx9, 0 ≤ v.toInt ∧ v.toInt ≤ 1 → jJ jSgX Dy hx9 → jSm fp_X8_isFull_r47d h0 hx9 → dr = v.toInt → vw hx9 = vw h0 → Q (some (.int v)) hx9) : ∀ (h : jH), jJ jSgX Dy h → jSm fp_X8_isFull_r47d h0 h → d_X8_isFull_r47d_300016  (vw h) = dr → vw h = vw h0 → jX m_X8_isFull 1 0 0 16 [] [.int 1] h 0 0 Q := by
  intro  h    J Sm D EV
  unfold d_X8_isFull_r47d_300016 at D
  refine x_zret rfl rfl (by decide) ?_
  exact hQ _ _ (jr_of jk_1 (by omega)) J Sm (D.symm.trans (show 1 = (1 : Int32).toInt from by have := jk_1; omega)) EV
set_option maxRecDepth 100000 in
set_option maxHeartbeats 4000000 in
theorem sf_X8_isFull_r47d {Dy : jH → Prop} {h : jH} {Q : Option Value → jH → Prop} {dr : Int} (hD : jDk Dy) (J : jJ jSgX Dy h) (D : d_X8_isFull_r47d (vw h) = dr) (hQ : ∀ (v : Int32) hx9, 0 ≤ v.toInt ∧ v.toInt ≤ 1 → jJ jSgX Dy hx9 → jSm fp_X8_isFull_r47d h hx9 → dr = v.toInt → vw hx9 = vw h → Q (some (.int v)) hx9) : jC m_X8_isFull 1 0 0 [.ref 47] h Q := by
  refine jC.of rfl k_X8_isFull rfl ?_
  have Sm := jSm_rf fp_X8_isFull_r47d h
  show jX m_X8_isFull 1 0 0 0 [(0, .ref 47)] [] _ 0 0 _
  unfold d_X8_isFull_r47d at D
  have EV : vw h = vw h := rfl
  refine x_aloadn (x := 47) rfl rfl ?_
  refine z_getI (N := 4) 8 3 rfl f_8_7 rfl J rfl sg_47_3_4_1_0_1 (fun v1 qv1 ev1 => ?_)
  try rw [vrf qv1] at D
  refine x_aloadn (x := 47) rfl rfl ?_
  refine z_getC (N := 4) (v := 100) 8 1 rfl f_8_22 rfl J rfl sg_47_1_2_1_0_1 jk_100 ?_
  refine x_iclt (tgt := 15) rfl rfl (ti_lt rfl jk_100 ⟨fun c2 => ?_, fun c2 => ?_⟩)
  ·
    rw [if_pos (by omega)] at D
    refine x_iconst (v := 0) rfl ki_0 ?_
    exact jX.sub jsb_n (ct_X8_isFull_r47d_200016 hD hQ  h J Sm D EV)
  ·
    rw [if_neg (by omega)] at D
    refine x_iconst (v := 1) rfl ki_1 ?_
    refine x_goto (tgt := 16) rfl rfl ?_
    exact jX.sub jsb_n (ct_X8_isFull_r47d_300016 hD hQ  h J Sm D EV)
