def fp_X5_fold_r70 : jFp := [(75, 0, 43200), (76, 0, 1200), (77, 0, 1200)]
set_option maxRecDepth 100000 in
set_option maxHeartbeats 4000000 in
theorem ct_X5_fold_r70_200208 {Dy : jH → Prop} {h0 : jH} {Q : Option Value → jH → Prop} (hD : jDk Dy) (hQ : ∀ hx9, jJ jSgX Dy hx9 → jSm fp_X5_fold_r70 h0 hx9 → Q none hx9) : ∀ (s1 : Int32) (h : jH), 0 ≤ s1.toInt ∧ s1.toInt ≤ 1199 → jJ jSgX Dy h → jSm fp_X5_fold_r70 h0 h → jX m_X5_fold 3 0 0 208 [] [.int 0, .int s1, .ref 77] h 0 0 Q := by
  intro s1 h y0   J Sm
  refine z_zast (N := 1200) (l := 0) (u := 1200) (w := 0) rfl hD J Sm rfl rfl rfl (by omega) jk_0 (by omega) (wr_77 (fun q1 q2 q3 q4 => by omega)) rfl (fun h w1 J Sm => ?_)
  refine x_vret rfl rfl ?_
  exact hQ _ J Sm
set_option maxRecDepth 100000 in
set_option maxHeartbeats 4000000 in
theorem ct_X5_fold_r70_300208 {Dy : jH → Prop} {h0 : jH} {Q : Option Value → jH → Prop} (hD : jDk Dy) (hQ : ∀ hx9, jJ jSgX Dy hx9 → jSm fp_X5_fold_r70 h0 hx9 → Q none hx9) : ∀ (s1 : Int32) (h : jH), 0 ≤ s1.toInt ∧ s1.toInt ≤ 1199 → jJ jSgX Dy h → jSm fp_X5_fold_r70 h0 h → jX m_X5_fold 3 0 0 208 [] [.int 1, .int s1, .ref 77] h 0 0 Q := by
  intro s1 h y0   J Sm
  refine z_zast (N := 1200) (l := 0) (u := 1200) (w := 1) rfl hD J Sm rfl rfl rfl (by omega) jk_1 (by omega) (wr_77 (fun q1 q2 q3 q4 => by omega)) rfl (fun h w1 J Sm => ?_)
  refine x_vret rfl rfl ?_
  exact hQ _ J Sm
set_option maxRecDepth 100000 in
set_option maxHeartbeats 4000000 in
theorem ct_X5_fold_r70_181 {Dy : jH → Prop} {h0 : jH} {Q : Option Value → jH → Prop} (hD : jDk Dy) (hQ : ∀ hx9, jJ jSgX Dy hx9 → jSm fp_X5_fold_r70 h0 hx9 → Q none hx9) : ∀ (l1 : Int32) (s0 : Int32) (s1 : Int32) (h : jH), 0 ≤ l1.toInt ∧ l1.toInt ≤ 1199 → 0 ≤ s0.toInt ∧ s0.toInt ≤ 36 → 0 ≤ s1.toInt ∧ s1.toInt ≤ 1199 → jJ jSgX Dy h → jSm fp_X5_fold_r70 h0 h → jX m_X5_fold 3 0 0 181 [(0, .ref 70), (1, .int l1)] [.int s0, .int s1, .ref 76] h 0 0 Q := by
  intro l1 s0 s1 h y0 y1 y2   J Sm
  refine z_iast (N := 1200) (l := 0) (u := 1200) (w := s0.toInt) rfl hD J Sm rfl rfl rfl (by omega) rfl (wr_76 (fun q1 q2 q3 q4 => by omega)) rfl (fun h w1 J Sm => ?_)
  refine x_aloadn (x := 70) rfl rfl ?_
  refine z_getR (N := 9) (b := 77) 5 8 rfl f_5_31 rfl J rfl 8968 ⟨rfl, rfl⟩ rfl ?_
  refine x_iloadn (x := l1) rfl rfl ?_
  refine x_aloadn (x := 70) rfl rfl ?_
  refine z_getR (N := 9) (b := 32) 5 0 rfl f_5_35 rfl J rfl 8960 ⟨rfl, rfl⟩ rfl ?_
  refine z_getR (N := 20) (b := 35) 1 1 rfl f_5_118 rfl J rfl 4097 ⟨rfl, rfl⟩ rfl ?_
  refine x_iloadn (x := l1) rfl rfl ?_
  refine x_iconst (v := 1) rfl ki_1 ?_
  refine x_inv (N := m_X8_at) (As := [.int l1, .int 1]) (b := 35) (st := [.int l1, .ref 77]) (dx9 := 1) (mc := 0) (ms := 0) (host := "") 8 rfl t_X8_at ⟨Or.inl q_5_108, i_X8_at.1, i_X8_at.2⟩ ⟨by decide, rfl⟩ (congrArg Prod.fst (J.1.1 35 (8, 4) rfl)) rfl (by decide) rfl rfl ⟨by decide, by decide⟩ (sf_X8_at_r35_c1 (jr_of rfl (by omega)) hD J  (fun v3 h ev3 J S2 => ?_))
  have Sm := jSm_tr rfl Sm S2
  show jX m_X5_fold 3 0 0 199 [(0, .ref 70), (1, .int l1)] [.int v3, .int l1, .ref 77] _ 0 0 _
  refine x_iconst (v := 1) rfl ki_1 ?_
  refine x_icne (tgt := 207) rfl rfl (ti_ne rfl jk_1 ⟨fun c4 => ?_, fun c4 => ?_⟩)
  ·
    refine x_iconst (v := 0) rfl ki_0 ?_
    exact jX.sub jsb_n (ct_X5_fold_r70_200208 hD hQ  l1 h (jr_of rfl (by omega)) J Sm)
  ·
    refine x_iconst (v := 1) rfl ki_1 ?_
    refine x_goto (tgt := 208) rfl rfl ?_
    exact jX.sub jsb_n (ct_X5_fold_r70_300208 hD hQ  l1 h (jr_of rfl (by omega)) J Sm)
set_option maxRecDepth 100000 in
set_option maxHeartbeats 4000000 in
theorem ct_X5_fold_r70_100181 {Dy : jH → Prop} {h0 : jH} {Q : Option Value → jH → Prop} (hD : jDk Dy) (hQ : ∀ hx9, jJ jSgX Dy hx9 → jSm fp_X5_fold_r70 h0 hx9 → Q none hx9) : ∀ (l1 : Int32) (s1 : Int32) (h : jH), 0 ≤ l1.toInt ∧ l1.toInt ≤ 1199 → 0 ≤ s1.toInt ∧ s1.toInt ≤ 1199 → jJ jSgX Dy h → jSm fp_X5_fold_r70 h0 h → jX m_X5_fold 3 0 0 181 [(0, .ref 70), (1, .int l1)] [.int (-1), .int s1, .ref 76] h 0 0 Q := by
  intro l1 s1 h y0 y1   J Sm
  refine z_iast (N := 1200) (l := 0) (u := 1200) (w := (-1)) rfl hD J Sm rfl rfl rfl (by omega) jk_m1 (wr_76 (fun q1 q2 q3 q4 => by omega)) rfl (fun h w1 J Sm => ?_)
  refine x_aloadn (x := 70) rfl rfl ?_
  refine z_getR (N := 9) (b := 77) 5 8 rfl f_5_31 rfl J rfl 8968 ⟨rfl, rfl⟩ rfl ?_
  refine x_iloadn (x := l1) rfl rfl ?_
  refine x_aloadn (x := 70) rfl rfl ?_
  refine z_getR (N := 9) (b := 32) 5 0 rfl f_5_35 rfl J rfl 8960 ⟨rfl, rfl⟩ rfl ?_
  refine z_getR (N := 20) (b := 35) 1 1 rfl f_5_118 rfl J rfl 4097 ⟨rfl, rfl⟩ rfl ?_
  refine x_iloadn (x := l1) rfl rfl ?_
  refine x_iconst (v := 1) rfl ki_1 ?_
  refine x_inv (N := m_X8_at) (As := [.int l1, .int 1]) (b := 35) (st := [.int l1, .ref 77]) (dx9 := 1) (mc := 0) (ms := 0) (host := "") 8 rfl t_X8_at ⟨Or.inl q_5_108, i_X8_at.1, i_X8_at.2⟩ ⟨by decide, rfl⟩ (congrArg Prod.fst (J.1.1 35 (8, 4) rfl)) rfl (by decide) rfl rfl ⟨by decide, by decide⟩ (sf_X8_at_r35_c1 (jr_of rfl (by omega)) hD J  (fun v3 h ev3 J S2 => ?_))
  have Sm := jSm_tr rfl Sm S2
  show jX m_X5_fold 3 0 0 199 [(0, .ref 70), (1, .int l1)] [.int v3, .int l1, .ref 77] _ 0 0 _
  refine x_iconst (v := 1) rfl ki_1 ?_
  refine x_icne (tgt := 207) rfl rfl (ti_ne rfl jk_1 ⟨fun c4 => ?_, fun c4 => ?_⟩)
  ·
    refine x_iconst (v := 0) rfl ki_0 ?_
    exact jX.sub jsb_n (ct_X5_fold_r70_200208 hD hQ  l1 h (jr_of rfl (by omega)) J Sm)
  ·
    refine x_iconst (v := 1) rfl ki_1 ?_
    refine x_goto (tgt := 208) rfl rfl ?_
    exact jX.sub jsb_n (ct_X5_fold_r70_300208 hD hQ  l1 h (jr_of rfl (by omega)) J Sm)
set_option maxRecDepth 100000 in
set_option maxHeartbeats 4000000 in
theorem ct_X5_fold_r70_166 {Dy : jH → Prop} {h0 : jH} {Q : Option Value → jH → Prop} (hD : jDk Dy) (hQ : ∀ hx9, jJ jSgX Dy hx9 → jSm fp_X5_fold_r70 h0 hx9 → Q none hx9) : ∀ (l1 : Int32) (l3 : Int32) (l5 : Int32) (h : jH), 0 ≤ l1.toInt ∧ l1.toInt ≤ 1199 → (-400) ≤ l3.toInt ∧ l3.toInt ≤ 12 → 0 ≤ l5.toInt ∧ l5.toInt ≤ 36 → jJ jSgX Dy h → jSm fp_X5_fold_r70 h0 h → jX m_X5_fold 3 0 0 166 [(0, .ref 70), (1, .int l1), (3, .int l3), (5, .int l5)] [] h 0 0 Q := by
  intro l1 l3 l5 h y0 y1 y2   J Sm
  refine x_aloadn (x := 70) rfl rfl ?_
  refine z_getR (N := 9) (b := 76) 5 7 rfl f_5_28 rfl J rfl 8967 ⟨rfl, rfl⟩ rfl ?_
  refine x_iloadn (x := l1) rfl rfl ?_
  refine x_iloadn (x := l3) rfl rfl ?_
  refine x_ifne (tgt := 179) rfl rfl (ti_ne rfl jk_0 ⟨fun c1 => ?_, fun c1 => ?_⟩)
  ·
    refine x_iload (x := l5) rfl rfl ?_
    exact jX.sub (jsb_c rfl (jsb_c rfl jsb_n)) (ct_X5_fold_r70_181 hD hQ  l1 l5 l1 h (jr_of rfl (by omega)) (jr_of rfl (by omega)) (jr_of rfl (by omega)) J Sm)
  ·
    refine x_iconst (v := (-1)) rfl ki_m1 ?_
    refine x_goto (tgt := 181) rfl rfl ?_
    exact jX.sub (jsb_c rfl (jsb_c rfl jsb_n)) (ct_X5_fold_r70_100181 hD hQ  l1 l1 h (jr_of rfl (by omega)) (jr_of rfl (by omega)) J Sm)
set_option maxRecDepth 100000 in
set_option maxHeartbeats 4000000 in
theorem ct_X5_fold_r70_163 {Dy : jH → Prop} {h0 : jH} {Q : Option Value → jH → Prop} {R25 : Int} (hD : jDk Dy) (hQ : ∀ hx9, jJ jSgX Dy hx9 → jSm fp_X5_fold_r70 h0 hx9 → Q none hx9) (k25 : ∀ (l1 : Int32) (l2 : Int32) (l3 : Int32) (l4 : Int32) (l5 : Int32) (l6 : Int32) (h : jH), 266 - l6.toInt < R25 → 0 ≤ l1.toInt ∧ l1.toInt ≤ 1199 → 0 ≤ l2.toInt ∧ l2.toInt ≤ 15 → (-400) ≤ l3.toInt ∧ l3.toInt ≤ 12 → 0 ≤ l4.toInt ∧ l4.toInt ≤ 43164 → l4.toInt % 36 = 0 → 0 ≤ l5.toInt ∧ l5.toInt ≤ 36 → 0 ≤ l6.toInt ∧ l6.toInt ≤ 266 → jJ jSgX Dy h → jSm fp_X5_fold_r70 h0 h → jX m_X5_fold 3 0 0 25 [(0, .ref 70), (1, .int l1), (2, .int l2), (3, .int l3), (4, .int l4), (5, .int l5), (6, .int l6)] [] h 0 0 Q) : ∀ (l1 : Int32) (l2 : Int32) (l3 : Int32) (l4 : Int32) (l5 : Int32) (l6 : Int32) (h : jH), 0 ≤ l1.toInt ∧ l1.toInt ≤ 1199 → 0 ≤ l2.toInt ∧ l2.toInt ≤ 15 → 1 ≤ l3.toInt ∧ l3.toInt ≤ 12 → 0 ≤ l4.toInt ∧ l4.toInt ≤ 43164 → l4.toInt % 36 = 0 → 0 ≤ l5.toInt ∧ l5.toInt ≤ 36 → 1 ≤ l6.toInt ∧ l6.toInt ≤ 266 → 266 - l6.toInt < R25 → jJ jSgX Dy h → jSm fp_X5_fold_r70 h0 h → jX m_X5_fold 3 0 0 163 [(0, .ref 70), (1, .int l1), (2, .int l2), (3, .int l3), (4, .int l4), (5, .int l5), (6, .int l6)] [] h 0 0 Q := by
  intro l1 l2 l3 l4 l5 l6 h y0 y1 y2 y3 y4 y5 y6  m25 J Sm
  refine x_goto (tgt := 25) rfl rfl ?_
  exact jX.sub (jsb_c rfl (jsb_c rfl (jsb_c rfl (jsb_c rfl (jsb_c rfl (jsb_c rfl (jsb_c rfl jsb_n))))))) (k25 l1 l2 l3 l4 l5 l6 h (by omega) (jr_of rfl (by omega)) (jr_of rfl (by omega)) (jr_of rfl (by omega)) (jr_of rfl (by omega)) (jr_mod rfl (by omega)) (jr_of rfl (by omega)) (jr_of rfl (by omega)) J Sm)
set_option maxRecDepth 100000 in
set_option maxHeartbeats 4000000 in
theorem ct_X5_fold_r70_107 {Dy : jH → Prop} {h0 : jH} {Q : Option Value → jH → Prop} {R25 : Int} (hD : jDk Dy) (hQ : ∀ hx9, jJ jSgX Dy hx9 → jSm fp_X5_fold_r70 h0 hx9 → Q none hx9) (k25 : ∀ (l1 : Int32) (l2 : Int32) (l3 : Int32) (l4 : Int32) (l5 : Int32) (l6 : Int32) (h : jH), 266 - l6.toInt < R25 → 0 ≤ l1.toInt ∧ l1.toInt ≤ 1199 → 0 ≤ l2.toInt ∧ l2.toInt ≤ 15 → (-400) ≤ l3.toInt ∧ l3.toInt ≤ 12 → 0 ≤ l4.toInt ∧ l4.toInt ≤ 43164 → l4.toInt % 36 = 0 → 0 ≤ l5.toInt ∧ l5.toInt ≤ 36 → 0 ≤ l6.toInt ∧ l6.toInt ≤ 266 → jJ jSgX Dy h → jSm fp_X5_fold_r70 h0 h → jX m_X5_fold 3 0 0 25 [(0, .ref 70), (1, .int l1), (2, .int l2), (3, .int l3), (4, .int l4), (5, .int l5), (6, .int l6)] [] h 0 0 Q) : ∀ r : Nat, ∀ (l1 : Int32) (l2 : Int32) (l3 : Int32) (l4 : Int32) (l5 : Int32) (l6 : Int32) (l7 : Int32) (l8 : Int32) (l9 : Int32) (h : jH), 36 - l5.toInt < (r : Int) → 0 ≤ l1.toInt ∧ l1.toInt ≤ 1199 → 0 ≤ l2.toInt ∧ l2.toInt ≤ 15 → 1 ≤ l3.toInt ∧ l3.toInt ≤ 12 → 0 ≤ l4.toInt ∧ l4.toInt ≤ 43164 → l4.toInt % 36 = 0 → 0 ≤ l5.toInt ∧ l5.toInt ≤ 36 → 0 ≤ l6.toInt ∧ l6.toInt ≤ 11 → 0 ≤ l7.toInt ∧ l7.toInt ≤ 1016 → (-400) ≤ l8.toInt ∧ l8.toInt ≤ 3 → 0 ≤ l9.toInt ∧ l9.toInt ≤ 3 → l5.toInt - l9.toInt ≤ 33 → 266 - l6.toInt ≤ R25 → jJ jSgX Dy h → jSm fp_X5_fold_r70 h0 h → jX m_X5_fold 3 0 0 107 [(0, .ref 70), (1, .int l1), (2, .int l2), (3, .int l3), (4, .int l4), (5, .int l5), (6, .int l6), (7, .int l7), (8, .int l8), (9, .int l9)] [] h 0 0 Q := by
  intro r
  induction r with
  | zero =>
    intro l1 l2 l3 l4 l5 l6 l7 l8 l9 h hm y0 y1 y2 y3 y4 y5 y6 y7 y8 y9 y10  m25 J Sm
    exfalso
    omega
  | succ r ih =>
    intro l1 l2 l3 l4 l5 l6 l7 l8 l9 h hm y0 y1 y2 y3 y4 y5 y6 y7 y8 y9 y10  m25 J Sm
    refine x_iload (x := l9) rfl rfl ?_
    refine x_iload (x := l8) rfl rfl ?_
    refine x_icge (tgt := 147) rfl rfl (ti_ge rfl rfl ⟨fun c1 => ?_, fun c1 => ?_⟩)
    ·
      refine x_iload (x := l6) rfl rfl ?_
      refine x_iconst (v := 1) rfl ki_1 ?_
      refine x_aloadn (x := 70) rfl rfl ?_
      refine z_getR (N := 9) (b := 73) 5 4 rfl f_5_18 rfl J rfl 8964 ⟨rfl, rfl⟩ rfl ?_
      refine x_iload (x := l7) rfl rfl ?_
      refine z_iald (N := 1024) rfl J rfl sg_73_0_1024_1_0_1 rfl (by omega) (fun v2 qv2 ev2 => ?_)
      refine z_mmax rfl q_5_130 (by decide) rfl jk_1 rfl (fun v3 ev3 => ?_)
      refine z_iadd rfl rfl rfl (by omega) (fun v4 ev4 => ?_)
      refine x_istore (lsx9 := [(6, .int v4), (0, .ref 70), (1, .int l1), (2, .int l2), (3, .int l3), (4, .int l4), (5, .int l5), (7, .int l7), (8, .int l8), (9, .int l9)]) rfl rfl rfl ?_
      exact jX.sub (jsb_c rfl (jsb_c rfl (jsb_c rfl (jsb_c rfl (jsb_c rfl (jsb_c rfl (jsb_c rfl jsb_n))))))) (ct_X5_fold_r70_163 hD hQ k25 l1 l2 l3 l4 l5 v4 h (jr_of rfl (by omega)) (jr_of rfl (by omega)) (jr_of rfl (by omega)) (jr_of rfl (by omega)) (jr_mod rfl (by omega)) (jr_of rfl (by omega)) (jr_of rfl (by omega)) (by omega) J Sm)
    ·
      refine x_aloadn (x := 70) rfl rfl ?_
      refine z_getR (N := 9) (b := 75) 5 6 rfl f_5_25 rfl J rfl 8966 ⟨rfl, rfl⟩ rfl ?_
      refine x_iload (x := l4) rfl rfl ?_
      refine x_iload (x := l5) rfl rfl ?_
      refine z_iadd rfl rfl rfl (by omega) (fun v5 ev5 => ?_)
      refine x_aloadn (x := 70) rfl rfl ?_
      refine z_getR (N := 9) (b := 73) 5 4 rfl f_5_18 rfl J rfl 8964 ⟨rfl, rfl⟩ rfl ?_
      refine x_iload (x := l7) rfl rfl ?_
      refine x_iconst (v := 4) rfl ki_4 ?_
      refine z_iadd rfl rfl jk_4 (by omega) (fun v6 ev6 => ?_)
      refine x_iconst (v := 1) rfl ki_1 ?_
      refine z_iadd rfl rfl jk_1 (by omega) (fun v7 ev7 => ?_)
      refine x_iload (x := l9) rfl rfl ?_
      refine z_iadd rfl rfl rfl (by omega) (fun v8 ev8 => ?_)
      refine z_iald (N := 1024) rfl J rfl sg_73_0_1024_1_0_1 rfl (by omega) (fun v9 qv9 ev9 => ?_)
      refine z_iast (N := 43200) (l := 0) (u := 43200) (w := v9.toInt) rfl hD J Sm rfl rfl rfl (by omega) rfl (wr_75) rfl (fun h w10 J Sm => ?_)
      refine z_iinc (x := l5) (lsx9 := fun v11 => [(5, .int v11), (0, .ref 70), (1, .int l1), (2, .int l2), (3, .int l3), (4, .int l4), (6, .int l6), (7, .int l7), (8, .int l8), (9, .int l9)]) rfl rfl rfl jko_1 (by omega) rfl (fun _ => rfl) (fun v11 ev11 => ?_)
      refine z_iinc (x := l9) (lsx9 := fun v12 => [(9, .int v12), (5, .int v11), (0, .ref 70), (1, .int l1), (2, .int l2), (3, .int l3), (4, .int l4), (6, .int l6), (7, .int l7), (8, .int l8)]) rfl rfl rfl jko_1 (by omega) rfl (fun _ => rfl) (fun v12 ev12 => ?_)
      refine x_goto (tgt := 107) rfl rfl ?_
      exact jX.sub (jsb_c rfl (jsb_c rfl (jsb_c rfl (jsb_c rfl (jsb_c rfl (jsb_c rfl (jsb_c rfl (jsb_c rfl (jsb_c rfl (jsb_c rfl jsb_n)))))))))) (ih l1 l2 l3 l4 v11 l6 l7 l8 v12 h (by omega) (jr_of rfl (by omega)) (jr_of rfl (by omega)) (jr_of rfl (by omega)) (jr_of rfl (by omega)) (jr_mod rfl (by omega)) (jr_of rfl (by omega)) (jr_of rfl (by omega)) (jr_of rfl (by omega)) (jr_of rfl (by omega)) (jr_of rfl (by omega)) (by omega) (by omega) J Sm)
set_option maxRecDepth 100000 in
set_option maxHeartbeats 4000000 in
theorem ct_X5_fold_r70_25 {Dy : jH → Prop} {h0 : jH} {Q : Option Value → jH → Prop} (hD : jDk Dy) (hQ : ∀ hx9, jJ jSgX Dy hx9 → jSm fp_X5_fold_r70 h0 hx9 → Q none hx9) : ∀ r : Nat, ∀ (l1 : Int32) (l2 : Int32) (l3 : Int32) (l4 : Int32) (l5 : Int32) (l6 : Int32) (h : jH), 266 - l6.toInt < (r : Int) → 0 ≤ l1.toInt ∧ l1.toInt ≤ 1199 → 0 ≤ l2.toInt ∧ l2.toInt ≤ 15 → (-400) ≤ l3.toInt ∧ l3.toInt ≤ 12 → 0 ≤ l4.toInt ∧ l4.toInt ≤ 43164 → l4.toInt % 36 = 0 → 0 ≤ l5.toInt ∧ l5.toInt ≤ 36 → 0 ≤ l6.toInt ∧ l6.toInt ≤ 266 → jJ jSgX Dy h → jSm fp_X5_fold_r70 h0 h → jX m_X5_fold 3 0 0 25 [(0, .ref 70), (1, .int l1), (2, .int l2), (3, .int l3), (4, .int l4), (5, .int l5), (6, .int l6)] [] h 0 0 Q := by
  intro r
  induction r with
  | zero =>
    intro l1 l2 l3 l4 l5 l6 h hm y0 y1 y2 y3 y4 y5 y6   J Sm
    exfalso
    omega
  | succ r ih =>
    intro l1 l2 l3 l4 l5 l6 h hm y0 y1 y2 y3 y4 y5 y6   J Sm
    refine x_iload (x := l6) rfl rfl ?_
    refine x_iloadn (x := l3) rfl rfl ?_
    refine x_icge (tgt := 166) rfl rfl (ti_ge rfl rfl ⟨fun c1 => ?_, fun c1 => ?_⟩)
    ·
      exact jX.sub (jsb_c rfl (jsb_c rfl (jsb_c rfl (jsb_c rfl jsb_n)))) (ct_X5_fold_r70_166 hD hQ  l1 l3 l5 h (jr_of rfl (by omega)) (jr_of rfl (by omega)) (jr_of rfl (by omega)) J Sm)
    ·
      refine x_iload (x := l5) rfl rfl ?_
      refine x_bipush (v := 33) rfl kb_33 ?_
      refine x_icgt (tgt := 166) rfl rfl (ti_gt rfl jk_33 ⟨fun c2 => ?_, fun c2 => ?_⟩)
      ·
        exact jX.sub (jsb_c rfl (jsb_c rfl (jsb_c rfl (jsb_c rfl jsb_n)))) (ct_X5_fold_r70_166 hD hQ  l1 l3 l5 h (jr_of rfl (by omega)) (jr_of rfl (by omega)) (jr_of rfl (by omega)) J Sm)
      ·
        refine x_aloadn (x := 70) rfl rfl ?_
        refine x_iloadn (x := l1) rfl rfl ?_
        refine x_iload (x := l6) rfl rfl ?_
        refine x_iloadn (x := l3) rfl rfl ?_
        refine x_iloadn (x := l2) rfl rfl ?_
        refine x_inv (N := m_X5_pairAt) (As := [.int l1, .int l6, .int l3, .int l2]) (b := 70) (st := []) (dx9 := 2) (mc := 0) (ms := 0) (host := "") 5 rfl t_X5_pairAt ⟨Or.inl q_5_121, i_X5_pairAt.1, i_X5_pairAt.2⟩ ⟨by decide, rfl⟩ (congrArg Prod.fst (J.1.1 70 (5, 9) rfl)) rfl (by decide) rfl rfl ⟨by decide, by decide⟩ (sf_X5_pairAt_r70 (jr_of rfl (by omega)) (jr_of rfl (by omega)) (jr_of rfl (by omega)) (jr_of rfl (by omega)) hD J  (fun v4 h ev4 J S3 => ?_))
        have Sm := jSm_tr rfl Sm S3
        show jX m_X5_fold 3 0 0 47 [(0, .ref 70), (1, .int l1), (2, .int l2), (3, .int l3), (4, .int l4), (5, .int l5), (6, .int l6)] [.int v4] _ 0 0 _
        refine x_istore (lsx9 := [(7, .int v4), (0, .ref 70), (1, .int l1), (2, .int l2), (3, .int l3), (4, .int l4), (5, .int l5), (6, .int l6)]) rfl rfl rfl ?_
        refine x_iload (x := v4) rfl rfl ?_
        refine x_iconst (v := (-1)) rfl ki_m1 ?_
        refine x_icne (tgt := 89) rfl rfl (ti_ne rfl jk_m1 ⟨fun c5 => ?_, fun c5 => ?_⟩)
        ·
          refine x_iconst (v := 3) rfl ki_3 ?_
          refine x_aloadn (x := 70) rfl rfl ?_
          refine z_getR (N := 9) (b := 73) 5 4 rfl f_5_18 rfl J rfl 8964 ⟨rfl, rfl⟩ rfl ?_
          refine x_iload (x := v4) rfl rfl ?_
          refine x_iconst (v := 4) rfl ki_4 ?_
          refine z_iadd rfl rfl jk_4 (by omega) (fun v6 ev6 => ?_)
          refine z_iald (N := 1024) rfl J rfl sg_73_0_1024_1_0_1 rfl (by omega) (fun v7 qv7 ev7 => ?_)
          refine z_mmin rfl q_5_125 (by decide) rfl jk_3 rfl (fun v8 ev8 => ?_)
          refine x_istore (lsx9 := [(8, .int v8), (7, .int v4), (0, .ref 70), (1, .int l1), (2, .int l2), (3, .int l3), (4, .int l4), (5, .int l5), (6, .int l6)]) rfl rfl rfl ?_
          refine x_iconst (v := 0) rfl ki_0 ?_
          refine x_istore (lsx9 := [(9, .int 0), (8, .int v8), (7, .int v4), (0, .ref 70), (1, .int l1), (2, .int l2), (3, .int l3), (4, .int l4), (5, .int l5), (6, .int l6)]) rfl rfl rfl ?_
          exact jX.sub (jsb_c rfl (jsb_c rfl (jsb_c rfl (jsb_c rfl (jsb_c rfl (jsb_c rfl (jsb_c rfl (jsb_c rfl (jsb_c rfl (jsb_c rfl jsb_n)))))))))) (ct_X5_fold_r70_107 hD hQ ih 37 l1 l2 l3 l4 l5 l6 v4 v8 0 h (by omega) (jr_of rfl (by omega)) (jr_of rfl (by omega)) (jr_of rfl (by omega)) (jr_of rfl (by omega)) (jr_mod rfl (by omega)) (jr_of rfl (by omega)) (jr_of rfl (by omega)) (jr_of rfl (by omega)) (jr_of rfl (by omega)) (jr_of jk_0 (by omega)) (by have := jk_0; omega) (by omega) J Sm)
        ·
          refine x_aloadn (x := 70) rfl rfl ?_
          refine z_getR (N := 9) (b := 75) 5 6 rfl f_5_25 rfl J rfl 8966 ⟨rfl, rfl⟩ rfl ?_
          refine x_iload (x := l4) rfl rfl ?_
          refine x_iload (x := l5) rfl rfl ?_
          refine z_iadd rfl rfl rfl (by omega) (fun v9 ev9 => ?_)
          refine x_aloadn (x := 70) rfl rfl ?_
          refine z_getR (N := 9) (b := 32) 5 0 rfl f_5_35 rfl J rfl 8960 ⟨rfl, rfl⟩ rfl ?_
          refine z_getR (N := 20) (b := 35) 1 1 rfl f_5_118 rfl J rfl 4097 ⟨rfl, rfl⟩ rfl ?_
          refine x_iloadn (x := l1) rfl rfl ?_
          refine x_iconst (v := 2) rfl ki_2 ?_
          refine x_iload (x := l6) rfl rfl ?_
          refine z_iadd rfl jk_2 rfl (by omega) (fun v10 ev10 => ?_)
          refine x_inv (N := m_X8_at) (As := [.int l1, .int v10]) (b := 35) (st := [.int v9, .ref 75]) (dx9 := 1) (mc := 0) (ms := 0) (host := "") 8 rfl t_X8_at ⟨Or.inl q_5_108, i_X8_at.1, i_X8_at.2⟩ ⟨by decide, rfl⟩ (congrArg Prod.fst (J.1.1 35 (8, 4) rfl)) rfl (by decide) rfl rfl ⟨by decide, by decide⟩ (sf_X8_at_r35 (jr_of rfl (by omega)) (jr_of rfl (by omega)) hD J  (fun v12 h J S11 => ?_))
          have ev12 := jfull v12
          have Sm := jSm_tr rfl Sm S11
          show jX m_X5_fold 3 0 0 79 [(7, .int v4), (0, .ref 70), (1, .int l1), (2, .int l2), (3, .int l3), (4, .int l4), (5, .int l5), (6, .int l6)] [.int v12, .int v9, .ref 75] _ 0 0 _
          refine z_iast (N := 43200) (l := 0) (u := 43200) (w := v12.toInt) rfl hD J Sm rfl rfl rfl (by omega) rfl (wr_75) rfl (fun h w13 J Sm => ?_)
          refine z_iinc (x := l5) (lsx9 := fun v14 => [(5, .int v14), (7, .int v4), (0, .ref 70), (1, .int l1), (2, .int l2), (3, .int l3), (4, .int l4), (6, .int l6)]) rfl rfl rfl jko_1 (by omega) rfl (fun _ => rfl) (fun v14 ev14 => ?_)
          refine z_iinc (x := l6) (lsx9 := fun v15 => [(6, .int v15), (5, .int v14), (7, .int v4), (0, .ref 70), (1, .int l1), (2, .int l2), (3, .int l3), (4, .int l4)]) rfl rfl rfl jko_1 (by omega) rfl (fun _ => rfl) (fun v15 ev15 => ?_)
          refine x_goto (tgt := 163) rfl rfl ?_
          exact jX.sub (jsb_c rfl (jsb_c rfl (jsb_c rfl (jsb_c rfl (jsb_c rfl (jsb_c rfl (jsb_c rfl jsb_n))))))) (ct_X5_fold_r70_163 hD hQ ih l1 l2 l3 l4 v14 v15 h (jr_of rfl (by omega)) (jr_of rfl (by omega)) (jr_of rfl (by omega)) (jr_of rfl (by omega)) (jr_mod rfl (by omega)) (jr_of rfl (by omega)) (jr_of rfl (by omega)) (by omega) J Sm)
set_option maxRecDepth 100000 in
set_option maxHeartbeats 4000000 in
theorem sf_X5_fold_r70 {Dy : jH → Prop} {h : jH} {Q : Option Value → jH → Prop} {a1 : Int32} {a2 : Int32} (y1 : 0 ≤ a1.toInt ∧ a1.toInt ≤ 1199) (y2 : 0 ≤ a2.toInt ∧ a2.toInt ≤ 15) (hD : jDk Dy) (J : jJ jSgX Dy h) (hQ : ∀ hx9, jJ jSgX Dy hx9 → jSm fp_X5_fold_r70 h hx9 → Q none hx9) : jC m_X5_fold 3 0 0 [.ref 70, .int a1, .int a2] h Q := by
  refine jC.of rfl k_X5_fold rfl ?_
  have Sm := jSm_rf fp_X5_fold_r70 h
  show jX m_X5_fold 3 0 0 0 [(0, .ref 70), (1, .int a1), (2, .int a2)] [] _ 0 0 _
  refine x_aloadn (x := 70) rfl rfl ?_
  refine z_getR (N := 9) (b := 32) 5 0 rfl f_5_35 rfl J rfl 8960 ⟨rfl, rfl⟩ rfl ?_
  refine z_getR (N := 20) (b := 35) 1 1 rfl f_5_118 rfl J rfl 4097 ⟨rfl, rfl⟩ rfl ?_
  refine x_iloadn (x := a1) rfl rfl ?_
  refine x_iconst (v := 0) rfl ki_0 ?_
  refine x_inv (N := m_X8_at) (As := [.int a1, .int 0]) (b := 35) (st := []) (dx9 := 1) (mc := 0) (ms := 0) (host := "") 8 rfl t_X8_at ⟨Or.inl q_5_108, i_X8_at.1, i_X8_at.2⟩ ⟨by decide, rfl⟩ (congrArg Prod.fst (J.1.1 35 (8, 4) rfl)) rfl (by decide) rfl rfl ⟨by decide, by decide⟩ (sf_X8_at_r35_c0 (jr_of rfl (by omega)) hD J  (fun v2 h ev2 J S1 => ?_))
  have Sm := jSm_tr rfl Sm S1
  show jX m_X5_fold 3 0 0 12 [(0, .ref 70), (1, .int a1), (2, .int a2)] [.int v2] _ 0 0 _
  refine x_istoren (lsx9 := [(3, .int v2), (0, .ref 70), (1, .int a1), (2, .int a2)]) rfl rfl rfl ?_
  refine x_iloadn (x := a1) rfl rfl ?_
  refine x_bipush (v := 36) rfl kb_36 ?_
  refine z_imul rfl rfl jk_36 (by omega) (fun v3 ev3 => ?_)
  refine x_istore (lsx9 := [(4, .int v3), (3, .int v2), (0, .ref 70), (1, .int a1), (2, .int a2)]) rfl rfl rfl ?_
  refine x_iconst (v := 0) rfl ki_0 ?_
  refine x_istore (lsx9 := [(5, .int 0), (4, .int v3), (3, .int v2), (0, .ref 70), (1, .int a1), (2, .int a2)]) rfl rfl rfl ?_
  refine x_iconst (v := 0) rfl ki_0 ?_
  refine x_istore (lsx9 := [(6, .int 0), (5, .int 0), (4, .int v3), (3, .int v2), (0, .ref 70), (1, .int a1), (2, .int a2)]) rfl rfl rfl ?_
  exact jX.sub (jsb_c rfl (jsb_c rfl (jsb_c rfl (jsb_c rfl (jsb_c rfl (jsb_c rfl (jsb_c rfl jsb_n))))))) (ct_X5_fold_r70_25 hD hQ  267 a1 a2 v2 v3 0 0 h (by have := jk_0; omega) (jr_of rfl (by omega)) (jr_of rfl (by omega)) (jr_of rfl (by omega)) (jr_of rfl (by omega)) (jr_mod rfl (by omega)) (jr_of jk_0 (by omega)) (jr_of jk_0 (by omega)) J Sm)
def fp_X8_at_r33_c3 : jFp := []
set_option maxRecDepth 100000 in
set_option maxHeartbeats 4000000 in
theorem ct_X8_at_r33_c3_24 {Dy : jH → Prop} {h0 : jH} {Q : Option Value → jH → Prop} (hD : jDk Dy) (hQ : ∀ (v : Int32) hx9, 0 ≤ v.toInt ∧ v.toInt ≤ 15 → jJ jSgX Dy hx9 → jSm fp_X8_at_r33_c3 h0 hx9 → Q (some (.int v)) hx9) : ∀ (h : jH), jJ jSgX Dy h → jSm fp_X8_at_r33_c3 h0 h → jX m_X8_at 1 0 0 24 [] [] h 0 0 Q := by
  intro  h    J Sm
  refine x_iconst (v := 0) rfl ki_0 ?_
  refine x_iret rfl rfl ?_
  exact hQ _ _ (jr_of jk_0 (by omega)) J Sm
set_option maxRecDepth 100000 in
set_option maxHeartbeats 4000000 in
theorem sf_X8_at_r33_c3 {Dy : jH → Prop} {h : jH} {Q : Option Value → jH → Prop} {a1 : Int32} (y1 : 0 ≤ a1.toInt ∧ a1.toInt ≤ 200) (hD : jDk Dy) (J : jJ jSgX Dy h) (hQ : ∀ (v : Int32) hx9, 0 ≤ v.toInt ∧ v.toInt ≤ 15 → jJ jSgX Dy hx9 → jSm fp_X8_at_r33_c3 h hx9 → Q (some (.int v)) hx9) : jC m_X8_at 1 0 0 [.ref 33, .int a1, .int 3] h Q := by
  refine jC.of rfl k_X8_at rfl ?_
  have Sm := jSm_rf fp_X8_at_r33_c3 h
  show jX m_X8_at 1 0 0 0 [(0, .ref 33), (1, .int a1), (2, .int 3)] [] _ 0 0 _
  refine x_iloadn (x := a1) rfl rfl ?_
  refine x_iflt (tgt := 24) rfl rfl (ti_lt rfl jk_0 (br_f (by omega) ?_))
  refine x_iloadn (x := a1) rfl rfl ?_
  refine x_aloadn (x := 33) rfl rfl ?_
  refine z_getI (N := 4) 8 3 rfl f_8_7 rfl J rfl sg_33_3_4_1_0_1 (fun v1 qv1 ev1 => ?_)
  refine x_icge (tgt := 24) rfl rfl (ti_ge rfl rfl ⟨fun c2 => ?_, fun c2 => ?_⟩)
  ·
    exact jX.sub jsb_n (ct_X8_at_r33_c3_24 hD hQ  h J Sm)
  ·
    refine x_iloadn (x := 3) rfl rfl ?_
    refine x_iflt (tgt := 24) rfl rfl (ti_lt jk_3 jk_0 (br_f (by omega) ?_))
    refine x_iloadn (x := 3) rfl rfl ?_
    refine x_aloadn (x := 33) rfl rfl ?_
    refine z_getC (N := 4) (v := 6) 8 0 rfl f_8_19 rfl J rfl sg_33_0_1_1_0_1 jk_6 ?_
    refine x_iclt (tgt := 26) rfl rfl (ti_lt jk_3 jk_6 (br_t (by omega) ?_))
    refine x_aloadn (x := 33) rfl rfl ?_
    refine z_getR (N := 4) (b := 34) 8 2 rfl f_8_25 rfl J rfl 4226 ⟨rfl, rfl⟩ rfl ?_
    refine x_iloadn (x := a1) rfl rfl ?_
    refine x_aloadn (x := 33) rfl rfl ?_
    refine z_getC (N := 4) (v := 6) 8 0 rfl f_8_19 rfl J rfl sg_33_0_1_1_0_1 jk_6 ?_
    refine z_imul rfl rfl jk_6 (by omega) (fun v3 ev3 => ?_)
    refine x_iloadn (x := 3) rfl rfl ?_
    refine z_iadd rfl rfl jk_3 (by omega) (fun v4 ev4 => ?_)
    refine z_iald (N := 1200) rfl J rfl sg_34_0_1200_6_3_4 rfl (by omega) (fun v5 qv5 ev5 => ?_)
    refine x_iret rfl rfl ?_
    exact hQ _ _ (jr_of rfl (by omega)) J Sm
def fp_X5_learn_r70 : jFp := [(75, 0, 43200), (76, 0, 1200), (77, 0, 1200)]
set_option maxRecDepth 100000 in
set_option maxHeartbeats 4000000 in
theorem ct_X5_learn_r70_34 {Dy : jH → Prop} {h0 : jH} {Q : Option Value → jH → Prop} (hD : jDk Dy) (hQ : ∀ hx9, jJ jSgX Dy hx9 → jSm fp_X5_learn_r70 h0 hx9 → Q none hx9) : ∀ (h : jH), jJ jSgX Dy h → jSm fp_X5_learn_r70 h0 h → jX m_X5_learn 4 0 0 34 [] [] h 0 0 Q := by
  intro  h    J Sm
  refine x_vret rfl rfl ?_
  exact hQ _ J Sm
set_option maxRecDepth 100000 in
set_option maxHeartbeats 4000000 in
theorem ct_X5_learn_r70_40 {Dy : jH → Prop} {h0 : jH} {Q : Option Value → jH → Prop} (hD : jDk Dy) (hQ : ∀ hx9, jJ jSgX Dy hx9 → jSm fp_X5_learn_r70 h0 hx9 → Q none hx9) : ∀ r : Nat, ∀ (l1 : Int32) (l2 : Int32) (l3 : Int32) (h : jH), 1200 - l3.toInt < (r : Int) → 0 ≤ l1.toInt ∧ l1.toInt ≤ 199 → 0 ≤ l2.toInt ∧ l2.toInt ≤ 15 → 0 ≤ l3.toInt ∧ l3.toInt ≤ 1200 → jJ jSgX Dy h → jSm fp_X5_learn_r70 h0 h → jX m_X5_learn 4 0 0 40 [(0, .ref 70), (1, .int l1), (2, .int l2), (3, .int l3)] [] h 0 0 Q := by
  intro r
  induction r with
  | zero =>
    intro l1 l2 l3 h hm y0 y1 y2   J Sm
    exfalso
    omega
  | succ r ih =>
    intro l1 l2 l3 h hm y0 y1 y2   J Sm
    refine x_iloadn (x := l3) rfl rfl ?_
    refine x_iloadn (x := l1) rfl rfl ?_
    refine x_bipush (v := 6) rfl kb_6 ?_
    refine z_imul rfl rfl jk_6 (by omega) (fun v1 ev1 => ?_)
    refine x_bipush (v := 6) rfl kb_6 ?_
    refine z_iadd rfl rfl jk_6 (by omega) (fun v2 ev2 => ?_)
    refine x_icge (tgt := 63) rfl rfl (ti_ge rfl rfl ⟨fun c3 => ?_, fun c3 => ?_⟩)
    ·
      refine x_vret rfl rfl ?_
      exact hQ _ J Sm
    ·
      refine x_aloadn (x := 70) rfl rfl ?_
      refine x_iloadn (x := l3) rfl rfl ?_
      refine x_iloadn (x := l2) rfl rfl ?_
      refine x_inv (N := m_X5_fold) (As := [.int l3, .int l2]) (b := 70) (st := []) (dx9 := 3) (mc := 0) (ms := 0) (host := "") 5 rfl t_X5_fold ⟨Or.inl q_5_114, i_X5_fold.1, i_X5_fold.2⟩ ⟨by decide, rfl⟩ (congrArg Prod.fst (J.1.1 70 (5, 9) rfl)) rfl (by decide) rfl rfl ⟨by decide, by decide⟩ (sf_X5_fold_r70 (jr_of rfl (by omega)) (jr_of rfl (by omega)) hD J  (fun h J S4 => ?_))
      have Sm := jSm_tr rfl Sm S4
      show jX m_X5_learn 4 0 0 57 [(0, .ref 70), (1, .int l1), (2, .int l2), (3, .int l3)] [] _ 0 0 _
      refine z_iinc (x := l3) (lsx9 := fun v5 => [(3, .int v5), (0, .ref 70), (1, .int l1), (2, .int l2)]) rfl rfl rfl jko_1 (by omega) rfl (fun _ => rfl) (fun v5 ev5 => ?_)
      refine x_goto (tgt := 40) rfl rfl ?_
      exact jX.sub (jsb_c rfl (jsb_c rfl (jsb_c rfl (jsb_c rfl jsb_n)))) (ih l1 l2 v5 h (by omega) (jr_of rfl (by omega)) (jr_of rfl (by omega)) (jr_of rfl (by omega)) J Sm)
set_option maxRecDepth 100000 in
set_option maxHeartbeats 4000000 in
theorem sf_X5_learn_r70 {Dy : jH → Prop} {h : jH} {Q : Option Value → jH → Prop} {a1 : Int32} (y1 : 0 ≤ a1.toInt ∧ a1.toInt ≤ 200) (hD : jDk Dy) (J : jJ jSgX Dy h) (hQ : ∀ hx9, jJ jSgX Dy hx9 → jSm fp_X5_learn_r70 h hx9 → Q none hx9) : jC m_X5_learn 4 0 0 [.ref 70, .int a1] h Q := by
  refine jC.of rfl k_X5_learn rfl ?_
  have Sm := jSm_rf fp_X5_learn_r70 h
  show jX m_X5_learn 4 0 0 0 [(0, .ref 70), (1, .int a1)] [] _ 0 0 _
  refine x_aloadn (x := 70) rfl rfl ?_
  refine z_getR (N := 9) (b := 32) 5 0 rfl f_5_35 rfl J rfl 8960 ⟨rfl, rfl⟩ rfl ?_
  refine z_getR (N := 20) (b := 33) 1 0 rfl f_5_102 rfl J rfl 4096 ⟨rfl, rfl⟩ rfl ?_
  refine x_iloadn (x := a1) rfl rfl ?_
  refine x_iconst (v := 3) rfl ki_3 ?_
  refine x_inv (N := m_X8_at) (As := [.int a1, .int 3]) (b := 33) (st := []) (dx9 := 1) (mc := 0) (ms := 0) (host := "") 8 rfl t_X8_at ⟨Or.inl q_5_108, i_X8_at.1, i_X8_at.2⟩ ⟨by decide, rfl⟩ (congrArg Prod.fst (J.1.1 33 (8, 4) rfl)) rfl (by decide) rfl rfl ⟨by decide, by decide⟩ (sf_X8_at_r33_c3 (jr_of rfl (by omega)) hD J  (fun v2 h ev2 J S1 => ?_))
  have Sm := jSm_tr rfl Sm S1
  show jX m_X5_learn 4 0 0 12 [(0, .ref 70), (1, .int a1)] [.int v2] _ 0 0 _
  refine x_istoren (lsx9 := [(2, .int v2), (0, .ref 70), (1, .int a1)]) rfl rfl rfl ?_
  refine x_iloadn (x := a1) rfl rfl ?_
  refine x_iflt (tgt := 34) rfl rfl (ti_lt rfl jk_0 (br_f (by omega) ?_))
  refine x_iloadn (x := a1) rfl rfl ?_
  refine x_sipush (v := 200) rfl ks_200 ?_
  refine x_icge (tgt := 34) rfl rfl (ti_ge rfl jk_200 ⟨fun c3 => ?_, fun c3 => ?_⟩)
  ·
    exact jX.sub jsb_n (ct_X5_learn_r70_34 hD hQ  h J Sm)
  ·
    refine x_iloadn (x := v2) rfl rfl ?_
    refine x_iflt (tgt := 34) rfl rfl (ti_lt rfl jk_0 (br_f (by omega) ?_))
    refine x_iloadn (x := v2) rfl rfl ?_
    refine x_bipush (v := 15) rfl kb_15 ?_
    refine x_icle (tgt := 35) rfl rfl (ti_le rfl jk_15 (br_t (by omega) ?_))
    refine x_iloadn (x := a1) rfl rfl ?_
    refine x_bipush (v := 6) rfl kb_6 ?_
    refine z_imul rfl rfl jk_6 (by omega) (fun v4 ev4 => ?_)
    refine x_istoren (lsx9 := [(3, .int v4), (2, .int v2), (0, .ref 70), (1, .int a1)]) rfl rfl rfl ?_
    exact jX.sub (jsb_c rfl (jsb_c rfl (jsb_c rfl (jsb_c rfl jsb_n)))) (ct_X5_learn_r70_40 hD hQ  1201 a1 v2 v4 h (by omega) (jr_of rfl (by omega)) (jr_of rfl (by omega)) (jr_of rfl (by omega)) J Sm)
def fp_X11_badge_r31 : jFp := [(78, 13, 14), (82, 0, 600), (83, 0, 600), (84, 0, 200), (85, 0, 4), (86, 0, 3), (98, 10, 11), (98, 11, 12), (98, 12, 13), (98, 13, 14), (98, 14, 15), (98, 15, 16), (99, 0, 30), (100, 0, 30), (101, 0, 3), (102, 0, 40), (103, 0, 40), (104, 0, 40), (105, 0, 3), (106, 0, 100)]
set_option maxRecDepth 100000 in
set_option maxHeartbeats 4000000 in
theorem ct_X11_badge_r31_300069 {Dy : jH → Prop} {h0 : jH} {Q : Option Value → jH → Prop} (hD : jDk Dy) (hQ : ∀ (v : Int32) hx9, (-1) ≤ v.toInt ∧ v.toInt ≤ 1 → jJ jSgX Dy hx9 → jSm fp_X11_badge_r31 h0 hx9 → Q (some (.int v)) hx9) : ∀ (h : jH), jJ jSgX Dy h → jSm fp_X11_badge_r31 h0 h → jX m_X11_badge 8 0 0 69 [] [.int 1] h 0 0 Q := by
  intro  h    J Sm
  refine x_iret rfl rfl ?_
  exact hQ _ _ (jr_of jk_1 (by omega)) J Sm
set_option maxRecDepth 100000 in
set_option maxHeartbeats 4000000 in
theorem ct_X11_badge_r31_200069 {Dy : jH → Prop} {h0 : jH} {Q : Option Value → jH → Prop} (hD : jDk Dy) (hQ : ∀ (v : Int32) hx9, (-1) ≤ v.toInt ∧ v.toInt ≤ 1 → jJ jSgX Dy hx9 → jSm fp_X11_badge_r31 h0 hx9 → Q (some (.int v)) hx9) : ∀ (h : jH), jJ jSgX Dy h → jSm fp_X11_badge_r31 h0 h → jX m_X11_badge 8 0 0 69 [] [.int 0] h 0 0 Q := by
  intro  h    J Sm
  refine x_iret rfl rfl ?_
  exact hQ _ _ (jr_of jk_0 (by omega)) J Sm
set_option maxRecDepth 100000 in
set_option maxHeartbeats 4000000 in
theorem ct_X11_badge_r31_68 {Dy : jH → Prop} {h0 : jH} {Q : Option Value → jH → Prop} (hD : jDk Dy) (hQ : ∀ (v : Int32) hx9, (-1) ≤ v.toInt ∧ v.toInt ≤ 1 → jJ jSgX Dy hx9 → jSm fp_X11_badge_r31 h0 hx9 → Q (some (.int v)) hx9) : ∀ (h : jH), jJ jSgX Dy h → jSm fp_X11_badge_r31 h0 h → jX m_X11_badge 8 0 0 68 [] [] h 0 0 Q := by
  intro  h    J Sm
  refine x_iconst (v := 0) rfl ki_0 ?_
  exact jX.sub jsb_n (ct_X11_badge_r31_200069 hD hQ  h J Sm)
set_option maxRecDepth 100000 in
set_option maxHeartbeats 4000000 in
theorem sf_X11_badge_r31 {Dy : jH → Prop} {h : jH} {Q : Option Value → jH → Prop} {a1 : Int32} {a2 : Int32} {a3 : Int32} (hD : jDk Dy) (J : jJ jSgX Dy h) (hQ : ∀ (v : Int32) hx9, (-1) ≤ v.toInt ∧ v.toInt ≤ 1 → jJ jSgX Dy hx9 → jSm fp_X11_badge_r31 h hx9 → Q (some (.int v)) hx9) : jC m_X11_badge 8 0 0 [.ref 31, .int a1, .int a2, .int a3] h Q := by
  refine jC.of rfl k_X11_badge rfl ?_
  have Sm := jSm_rf fp_X11_badge_r31 h
  have ea1 := jfull a1
  have ea2 := jfull a2
  have ea3 := jfull a3
  show jX m_X11_badge 8 0 0 0 [(0, .ref 31), (1, .int a1), (2, .int a2), (3, .int a3)] [] _ 0 0 _
  refine x_iloadn (x := a2) rfl rfl ?_
  refine x_inst (N := m_X11_isDay) (As := [.int a2]) (st := []) (dx9 := 1) (mc := 0) (ms := 0) (host := "") rfl t_X11_isDay ⟨Or.inl q_11_115, s_X11_isDay⟩ rfl (by decide) rfl rfl ⟨by decide, by decide⟩ (zc_X11_isDay rfl (fun v1 ev1 => ?_))
  show jX m_X11_badge 8 0 0 4 [(0, .ref 31), (1, .int a1), (2, .int a2), (3, .int a3)] [.int v1] _ 0 0 _
  refine x_ifne (tgt := 9) rfl rfl (ti_ne rfl jk_0 ⟨fun c2 => ?_, fun c2 => ?_⟩)
  ·
    refine x_aloadn (x := 31) rfl rfl ?_
    refine x_iloadn (x := a1) rfl rfl ?_
    refine x_iloadn (x := a3) rfl rfl ?_
    refine x_inv (N := m_X11_soulOn) (As := [.int a1, .int a3]) (b := 31) (st := []) (dx9 := 7) (mc := 0) (ms := 0) (host := "") 11 rfl t_X11_soulOn ⟨Or.inl q_11_234, i_X11_soulOn.1, i_X11_soulOn.2⟩ ⟨by decide, rfl⟩ (congrArg Prod.fst (J.1.1 31 (11, 13) rfl)) rfl (by decide) rfl rfl ⟨by decide, by decide⟩ (jC.of rfl k_X11_soulOn rfl ?_)
    show jX m_X11_soulOn 7 0 0 0 [(0, .ref 31), (1, .int a1), (2, .int a3)] [] _ 0 0 _
    refine x_iloadn (x := a3) rfl rfl ?_
    refine x_inst (N := m_X11_isDay) (As := [.int a3]) (st := []) (dx9 := 1) (mc := 0) (ms := 0) (host := "") rfl t_X11_isDay ⟨Or.inl q_11_115, s_X11_isDay⟩ rfl (by decide) rfl rfl ⟨by decide, by decide⟩ (zc_X11_isDay rfl (fun v3 ev3 => ?_))
    show jX m_X11_soulOn 7 0 0 4 [(0, .ref 31), (1, .int a1), (2, .int a3)] [.int v3] _ 0 0 _
    refine x_ifeq (tgt := 18) rfl rfl (ti_eq rfl jk_0 ⟨fun c4 => ?_, fun c4 => ?_⟩)
    ·
      refine x_iconst (v := (-1)) rfl ki_m1 ?_
      refine x_iret rfl rfl ?_
      show jX m_X11_badge 8 0 0 15 [(0, .ref 31), (1, .int a1), (2, .int a2), (3, .int a3)] [.int (-1)] _ 0 0 _
      refine x_istore (lsx9 := [(4, .int (-1)), (0, .ref 31), (1, .int a1), (2, .int a2), (3, .int a3)]) rfl rfl rfl ?_
      refine x_iload (x := (-1)) rfl rfl ?_
      refine x_iconst (v := (-1)) rfl ki_m1 ?_
      refine x_icne (tgt := 25) rfl rfl (ti_ne jk_m1 jk_m1 (bn_f (by omega) ?_))
      refine x_iconst (v := (-1)) rfl ki_m1 ?_
      refine x_iret rfl rfl ?_
      exact hQ _ _ (jr_of jk_m1 (by omega)) J Sm
    ·
      refine x_aloadn (x := 31) rfl rfl ?_
      refine z_getR (N := 13) (b := 78) 11 4 rfl f_11_41 rfl J rfl 3972 ⟨rfl, rfl⟩ rfl ?_
      refine x_iloadn (x := a1) rfl rfl ?_
      refine x_inv (N := m_X7_isMention) (As := [.int a1]) (b := 78) (st := []) (dx9 := 6) (mc := 0) (ms := 0) (host := "") 7 rfl t_X7_isMention ⟨Or.inl q_11_187, i_X7_isMention.1, i_X7_isMention.2⟩ ⟨by decide, rfl⟩ (congrArg Prod.fst (J.1.1 78 (7, 16) rfl)) rfl (by decide) rfl rfl ⟨by decide, by decide⟩ (jC.of rfl k_X7_isMention rfl ?_)
      show jX m_X7_isMention 6 0 0 0 [(0, .ref 78), (1, .int a1)] [] _ 0 0 _
      refine x_iloadn (x := a1) rfl rfl ?_
      refine x_iflt (tgt := 41) rfl rfl (ti_lt rfl jk_0 ⟨fun c5 => ?_, fun c5 => ?_⟩)
      ·
        refine x_iconst (v := 0) rfl ki_0 ?_
        refine x_zret rfl rfl (by decide) ?_
        show jX m_X11_soulOn 7 0 0 15 [(0, .ref 31), (1, .int a1), (2, .int a3)] [.int 0] _ 0 0 _
        refine x_ifne (tgt := 20) rfl rfl (ti_ne jk_0 jk_0 (bn_f (by omega) ?_))
        refine x_iconst (v := (-1)) rfl ki_m1 ?_
        refine x_iret rfl rfl ?_
        show jX m_X11_badge 8 0 0 15 [(0, .ref 31), (1, .int a1), (2, .int a2), (3, .int a3)] [.int (-1)] _ 0 0 _
        refine x_istore (lsx9 := [(4, .int (-1)), (0, .ref 31), (1, .int a1), (2, .int a2), (3, .int a3)]) rfl rfl rfl ?_
        refine x_iload (x := (-1)) rfl rfl ?_
        refine x_iconst (v := (-1)) rfl ki_m1 ?_
        refine x_icne (tgt := 25) rfl rfl (ti_ne jk_m1 jk_m1 (bn_f (by omega) ?_))
        refine x_iconst (v := (-1)) rfl ki_m1 ?_
        refine x_iret rfl rfl ?_
        exact hQ _ _ (jr_of jk_m1 (by omega)) J Sm
      ·
        refine x_iloadn (x := a1) rfl rfl ?_
        refine x_sipush (v := 600) rfl ks_600 ?_
        refine x_icge (tgt := 41) rfl rfl (ti_ge rfl jk_600 ⟨fun c6 => ?_, fun c6 => ?_⟩)
        ·
          refine x_iconst (v := 0) rfl ki_0 ?_
          refine x_zret rfl rfl (by decide) ?_
          show jX m_X11_soulOn 7 0 0 15 [(0, .ref 31), (1, .int a1), (2, .int a3)] [.int 0] _ 0 0 _
          refine x_ifne (tgt := 20) rfl rfl (ti_ne jk_0 jk_0 (bn_f (by omega) ?_))
          refine x_iconst (v := (-1)) rfl ki_m1 ?_
          refine x_iret rfl rfl ?_
          show jX m_X11_badge 8 0 0 15 [(0, .ref 31), (1, .int a1), (2, .int a2), (3, .int a3)] [.int (-1)] _ 0 0 _
          refine x_istore (lsx9 := [(4, .int (-1)), (0, .ref 31), (1, .int a1), (2, .int a2), (3, .int a3)]) rfl rfl rfl ?_
          refine x_iload (x := (-1)) rfl rfl ?_
          refine x_iconst (v := (-1)) rfl ki_m1 ?_
          refine x_icne (tgt := 25) rfl rfl (ti_ne jk_m1 jk_m1 (bn_f (by omega) ?_))
          refine x_iconst (v := (-1)) rfl ki_m1 ?_
          refine x_iret rfl rfl ?_
          exact hQ _ _ (jr_of jk_m1 (by omega)) J Sm
        ·
          refine x_iloadn (x := a1) rfl rfl ?_
          refine x_iconst (v := 3) rfl ki_3 ?_
          refine z_idiv rfl rfl jk_3 (by omega) (by omega) (fun v7 ev7 => ?_)
          refine x_aloadn (x := 78) rfl rfl ?_
          refine z_getR (N := 16) (b := 32) 7 0 rfl f_7_55 rfl J rfl 9984 ⟨rfl, rfl⟩ rfl ?_
          refine z_getR (N := 20) (b := 33) 1 0 rfl f_7_63 rfl J rfl 4096 ⟨rfl, rfl⟩ rfl ?_
          refine z_getI (N := 4) 8 3 rfl f_7_85 rfl J rfl sg_33_3_4_1_0_1 (fun v8 qv8 ev8 => ?_)
          refine x_icge (tgt := 41) rfl rfl (ti_ge rfl rfl ⟨fun c9 => ?_, fun c9 => ?_⟩)
          ·
            refine x_iconst (v := 0) rfl ki_0 ?_
            refine x_zret rfl rfl (by decide) ?_
            show jX m_X11_soulOn 7 0 0 15 [(0, .ref 31), (1, .int a1), (2, .int a3)] [.int 0] _ 0 0 _
            refine x_ifne (tgt := 20) rfl rfl (ti_ne jk_0 jk_0 (bn_f (by omega) ?_))
            refine x_iconst (v := (-1)) rfl ki_m1 ?_
            refine x_iret rfl rfl ?_
            show jX m_X11_badge 8 0 0 15 [(0, .ref 31), (1, .int a1), (2, .int a2), (3, .int a3)] [.int (-1)] _ 0 0 _
            refine x_istore (lsx9 := [(4, .int (-1)), (0, .ref 31), (1, .int a1), (2, .int a2), (3, .int a3)]) rfl rfl rfl ?_
            refine x_iload (x := (-1)) rfl rfl ?_
            refine x_iconst (v := (-1)) rfl ki_m1 ?_
            refine x_icne (tgt := 25) rfl rfl (ti_ne jk_m1 jk_m1 (bn_f (by omega) ?_))
            refine x_iconst (v := (-1)) rfl ki_m1 ?_
            refine x_iret rfl rfl ?_
            exact hQ _ _ (jr_of jk_m1 (by omega)) J Sm
          ·
            refine x_aloadn (x := 78) rfl rfl ?_
            refine z_getR (N := 16) (b := 79) 7 7 rfl f_7_27 rfl J rfl 9991 ⟨rfl, rfl⟩ rfl ?_
            refine x_iloadn (x := a1) rfl rfl ?_
            refine z_iald (N := 600) rfl J rfl sg_79_0_600_1_0_1 rfl (by omega) (fun v10 qv10 ev10 => ?_)
            refine x_iconst (v := (-1)) rfl ki_m1 ?_
            refine x_iceq (tgt := 41) rfl rfl (ti_eq rfl jk_m1 ⟨fun c11 => ?_, fun c11 => ?_⟩)
            ·
              refine x_iconst (v := 0) rfl ki_0 ?_
              refine x_zret rfl rfl (by decide) ?_
              show jX m_X11_soulOn 7 0 0 15 [(0, .ref 31), (1, .int a1), (2, .int a3)] [.int 0] _ 0 0 _
              refine x_ifne (tgt := 20) rfl rfl (ti_ne jk_0 jk_0 (bn_f (by omega) ?_))
              refine x_iconst (v := (-1)) rfl ki_m1 ?_
              refine x_iret rfl rfl ?_
              show jX m_X11_badge 8 0 0 15 [(0, .ref 31), (1, .int a1), (2, .int a2), (3, .int a3)] [.int (-1)] _ 0 0 _
              refine x_istore (lsx9 := [(4, .int (-1)), (0, .ref 31), (1, .int a1), (2, .int a2), (3, .int a3)]) rfl rfl rfl ?_
              refine x_iload (x := (-1)) rfl rfl ?_
              refine x_iconst (v := (-1)) rfl ki_m1 ?_
              refine x_icne (tgt := 25) rfl rfl (ti_ne jk_m1 jk_m1 (bn_f (by omega) ?_))
              refine x_iconst (v := (-1)) rfl ki_m1 ?_
              refine x_iret rfl rfl ?_
              exact hQ _ _ (jr_of jk_m1 (by omega)) J Sm
            ·
              refine x_iconst (v := 1) rfl ki_1 ?_
              refine x_goto (tgt := 42) rfl rfl ?_
              refine x_zret rfl rfl (by decide) ?_
              show jX m_X11_soulOn 7 0 0 15 [(0, .ref 31), (1, .int a1), (2, .int a3)] [.int 1] _ 0 0 _
              refine x_ifne (tgt := 20) rfl rfl (ti_ne jk_1 jk_0 (bn_t (by omega) ?_))
              refine x_aloadn (x := 31) rfl rfl ?_
              refine z_getR (N := 13) (b := 78) 11 4 rfl f_11_41 rfl J rfl 3972 ⟨rfl, rfl⟩ rfl ?_
              refine x_iloadn (x := a3) rfl rfl ?_
              refine x_inv (N := m_X7_asKnown) (As := [.int a3]) (b := 78) (st := []) (dx9 := 6) (mc := 0) (ms := 0) (host := "") 7 rfl t_X7_asKnown ⟨Or.inl q_11_240, i_X7_asKnown.1, i_X7_asKnown.2⟩ ⟨by decide, rfl⟩ (congrArg Prod.fst (J.1.1 78 (7, 16) rfl)) rfl (by decide) rfl rfl ⟨by decide, by decide⟩ (sf_X7_asKnown_r78 (jr_of rfl (by omega)) hD J  (fun h J S12 => ?_))
              have Sm := jSm_tr rfl Sm S12
              show jX m_X11_soulOn 7 0 0 28 [(0, .ref 31), (1, .int a1), (2, .int a3)] [] _ 0 0 _
              refine x_aloadn (x := 31) rfl rfl ?_
              refine z_getR (N := 13) (b := 78) 11 4 rfl f_11_41 rfl J rfl 3972 ⟨rfl, rfl⟩ rfl ?_
              refine z_getR (N := 16) (b := 82) 7 10 rfl f_11_537 rfl J rfl 9994 ⟨rfl, rfl⟩ rfl ?_
              refine x_iloadn (x := a1) rfl rfl ?_
              refine z_iald (N := 600) rfl J rfl sg_82_0_600_1_0_1 rfl (by omega) (fun v13 qv13 ev13 => ?_)
              refine x_iret rfl rfl ?_
              show jX m_X11_badge 8 0 0 15 [(0, .ref 31), (1, .int a1), (2, .int a2), (3, .int a3)] [.int v13] _ 0 0 _
              refine x_istore (lsx9 := [(4, .int v13), (0, .ref 31), (1, .int a1), (2, .int a2), (3, .int a3)]) rfl rfl rfl ?_
              refine x_iload (x := v13) rfl rfl ?_
              refine x_iconst (v := (-1)) rfl ki_m1 ?_
              refine x_icne (tgt := 25) rfl rfl (ti_ne rfl jk_m1 ⟨fun c14 => ?_, fun c14 => ?_⟩)
              ·
                refine x_aloadn (x := 31) rfl rfl ?_
                refine z_getR (N := 13) (b := 98) 11 7 rfl f_11_66 rfl J rfl 3975 ⟨rfl, rfl⟩ rfl ?_
                refine x_iloadn (x := a2) rfl rfl ?_
                refine x_iloadn (x := a3) rfl rfl ?_
                refine x_inv (N := m_X0_turnTo) (As := [.int a2, .int a3]) (b := 98) (st := []) (dx9 := 7) (mc := 0) (ms := 0) (host := "") 0 rfl t_X0_turnTo ⟨Or.inl q_11_345, i_X0_turnTo.1, i_X0_turnTo.2⟩ ⟨by decide, rfl⟩ (congrArg Prod.fst (J.1.1 98 (0, 16) rfl)) rfl (by decide) rfl rfl ⟨by decide, by decide⟩ (jC.of rfl k_X0_turnTo rfl ?_)
                show jX m_X0_turnTo 7 0 0 0 [(0, .ref 98), (1, .int a2), (2, .int a3)] [] _ 0 0 _
                refine x_aloadn (x := 98) rfl rfl ?_
                refine x_iloadn (x := a2) rfl rfl ?_
                refine x_iloadn (x := a3) rfl rfl ?_
                refine x_inv (N := m_X0_readLaws) (As := [.int a2, .int a3]) (b := 98) (st := []) (dx9 := 3) (mc := 0) (ms := 0) (host := "") 0 rfl t_X0_readLaws ⟨Or.inl q_0_65, i_X0_readLaws.1, i_X0_readLaws.2⟩ ⟨by decide, rfl⟩ (congrArg Prod.fst (J.1.1 98 (0, 16) rfl)) rfl (by decide) rfl rfl ⟨by decide, by decide⟩ (sf_X0_readLaws_r98 (jr_of rfl (by omega)) (jr_of rfl (by omega)) hD J  (fun h J S15 => ?_))
                have Sm := jSm_tr rfl Sm S15
                show jX m_X0_turnTo 7 0 0 6 [(0, .ref 98), (1, .int a2), (2, .int a3)] [] _ 0 0 _
                refine x_aloadn (x := 98) rfl rfl ?_
                refine x_iloadn (x := a2) rfl rfl ?_
                refine x_iloadn (x := a3) rfl rfl ?_
                refine x_inv (N := m_X0_readHouses) (As := [.int a2, .int a3]) (b := 98) (st := []) (dx9 := 3) (mc := 0) (ms := 0) (host := "") 0 rfl t_X0_readHouses ⟨Or.inl q_0_69, i_X0_readHouses.1, i_X0_readHouses.2⟩ ⟨by decide, rfl⟩ (congrArg Prod.fst (J.1.1 98 (0, 16) rfl)) rfl (by decide) rfl rfl ⟨by decide, by decide⟩ (sf_X0_readHouses_r98 (jr_of rfl (by omega)) (jr_of rfl (by omega)) hD J  (fun h J S16 => ?_))
                have Sm := jSm_tr rfl Sm S16
                show jX m_X0_turnTo 7 0 0 12 [(0, .ref 98), (1, .int a2), (2, .int a3)] [] _ 0 0 _
                refine x_vret rfl rfl ?_
                show jX m_X11_badge 8 0 0 34 [(4, .int v13), (0, .ref 31), (1, .int a1), (2, .int a2), (3, .int a3)] [] _ 0 0 _
                refine x_aloadn (x := 31) rfl rfl ?_
                refine z_getR (N := 13) (b := 98) 11 7 rfl f_11_66 rfl J rfl 3975 ⟨rfl, rfl⟩ rfl ?_
                refine x_bipush (v := 7) rfl kb_7 ?_
                refine x_iload (x := v13) rfl rfl ?_
                refine x_inv (N := m_X0_quantity) (As := [.int 7, .int v13]) (b := 98) (st := []) (dx9 := 3) (mc := 0) (ms := 0) (host := "") 0 rfl t_X0_quantity ⟨Or.inl q_11_374, i_X0_quantity.1, i_X0_quantity.2⟩ ⟨by decide, rfl⟩ (congrArg Prod.fst (J.1.1 98 (0, 16) rfl)) rfl (by decide) rfl rfl ⟨by decide, by decide⟩ (sf_X0_quantity_r98 (jr_of rfl (by omega)) hD J  (fun v18 h J S17 => ?_))
                have ev18 := jfullL v18
                have Sm := jSm_tr rfl Sm S17
                show jX m_X11_badge 8 0 0 45 [(4, .int v13), (0, .ref 31), (1, .int a1), (2, .int a2), (3, .int a3)] [.long v18] _ 0 0 _
                refine x_lconst (v := 1) rfl kl_1 ?_
                refine z_lcmp rfl rfl jkl_1 (fun v19 ev19 => ?_)
                refine x_ifne (tgt := 68) rfl rfl (ti_ne rfl jk_0 ⟨fun c20 => ?_, fun c20 => ?_⟩)
                ·
                  exact jX.sub jsb_n (ct_X11_badge_r31_68 hD hQ  h J Sm)
                ·
                  refine x_aloadn (x := 31) rfl rfl ?_
                  refine z_getR (N := 13) (b := 98) 11 7 rfl f_11_66 rfl J rfl 3975 ⟨rfl, rfl⟩ rfl ?_
                  refine x_iconst (v := 4) rfl ki_4 ?_
                  refine x_iconst (v := 0) rfl ki_0 ?_
                  refine x_iload (x := v13) rfl rfl ?_
                  refine x_inv (N := m_X0_weigh) (As := [.int 4, .int 0, .int v13]) (b := 98) (st := []) (dx9 := 6) (mc := 0) (ms := 0) (host := "") 0 rfl t_X0_weigh ⟨Or.inl q_11_359, i_X0_weigh.1, i_X0_weigh.2⟩ ⟨by decide, rfl⟩ (congrArg Prod.fst (J.1.1 98 (0, 16) rfl)) rfl (by decide) rfl rfl ⟨by decide, by decide⟩ (sf_X0_weigh_r98 (jr_of jk_4 (by omega)) (jr_of jk_0 (by omega)) (jr_of rfl (by omega)) hD J  (fun v22 h ev22 J S21 => ?_))
                  have Sm := jSm_tr rfl Sm S21
                  show jX m_X11_badge 8 0 0 61 [(4, .int v13), (0, .ref 31), (1, .int a1), (2, .int a2), (3, .int a3)] [.int v22] _ 0 0 _
                  refine x_ifeq (tgt := 68) rfl rfl (ti_eq rfl jk_0 ⟨fun c23 => ?_, fun c23 => ?_⟩)
                  ·
                    exact jX.sub jsb_n (ct_X11_badge_r31_68 hD hQ  h J Sm)
                  ·
                    refine x_iconst (v := 1) rfl ki_1 ?_
                    refine x_goto (tgt := 69) rfl rfl ?_
                    exact jX.sub jsb_n (ct_X11_badge_r31_300069 hD hQ  h J Sm)
              ·
                refine x_iconst (v := (-1)) rfl ki_m1 ?_
                refine x_iret rfl rfl ?_
                exact hQ _ _ (jr_of jk_m1 (by omega)) J Sm
  ·
    refine x_iconst (v := (-1)) rfl ki_m1 ?_
    refine x_iret rfl rfl ?_
    exact hQ _ _ (jr_of jk_m1 (by omega)) J Sm
def fp_X8_at_r59_c1 : jFp := []
set_option maxRecDepth 100000 in
set_option maxHeartbeats 4000000 in
theorem ct_X8_at_r59_c1_24 {Dy : jH → Prop} {h0 : jH} {Q : Option Value → jH → Prop} (hD : jDk Dy) (hQ : ∀ (v : Int32) hx9, 0 ≤ v.toInt ∧ v.toInt ≤ 399 → jJ jSgX Dy hx9 → jSm fp_X8_at_r59_c1 h0 hx9 → Q (some (.int v)) hx9) : ∀ (h : jH), jJ jSgX Dy h → jSm fp_X8_at_r59_c1 h0 h → jX m_X8_at 1 0 0 24 [] [] h 0 0 Q := by
  intro  h    J Sm
  refine x_iconst (v := 0) rfl ki_0 ?_
  refine x_iret rfl rfl ?_
  exact hQ _ _ (jr_of jk_0 (by omega)) J Sm
set_option maxRecDepth 100000 in
set_option maxHeartbeats 4000000 in
theorem sf_X8_at_r59_c1 {Dy : jH → Prop} {h : jH} {Q : Option Value → jH → Prop} {a1 : Int32} (y1 : 0 ≤ a1.toInt ∧ a1.toInt ≤ 39) (hD : jDk Dy) (J : jJ jSgX Dy h) (hQ : ∀ (v : Int32) hx9, 0 ≤ v.toInt ∧ v.toInt ≤ 399 → jJ jSgX Dy hx9 → jSm fp_X8_at_r59_c1 h hx9 → Q (some (.int v)) hx9) : jC m_X8_at 1 0 0 [.ref 59, .int a1, .int 1] h Q := by
  refine jC.of rfl k_X8_at rfl ?_
  have Sm := jSm_rf fp_X8_at_r59_c1 h
  show jX m_X8_at 1 0 0 0 [(0, .ref 59), (1, .int a1), (2, .int 1)] [] _ 0 0 _
  refine x_iloadn (x := a1) rfl rfl ?_
  refine x_iflt (tgt := 24) rfl rfl (ti_lt rfl jk_0 (br_f (by omega) ?_))
  refine x_iloadn (x := a1) rfl rfl ?_
  refine x_aloadn (x := 59) rfl rfl ?_
  refine z_getI (N := 4) 8 3 rfl f_8_7 rfl J rfl sg_59_3_4_1_0_1 (fun v1 qv1 ev1 => ?_)
  refine x_icge (tgt := 24) rfl rfl (ti_ge rfl rfl ⟨fun c2 => ?_, fun c2 => ?_⟩)
  ·
    exact jX.sub jsb_n (ct_X8_at_r59_c1_24 hD hQ  h J Sm)
  ·
    refine x_iloadn (x := 1) rfl rfl ?_
    refine x_iflt (tgt := 24) rfl rfl (ti_lt jk_1 jk_0 (br_f (by omega) ?_))
    refine x_iloadn (x := 1) rfl rfl ?_
    refine x_aloadn (x := 59) rfl rfl ?_
    refine z_getC (N := 4) (v := 4) 8 0 rfl f_8_19 rfl J rfl sg_59_0_1_1_0_1 jk_4 ?_
    refine x_iclt (tgt := 26) rfl rfl (ti_lt jk_1 jk_4 (br_t (by omega) ?_))
    refine x_aloadn (x := 59) rfl rfl ?_
    refine z_getR (N := 4) (b := 60) 8 2 rfl f_8_25 rfl J rfl 7554 ⟨rfl, rfl⟩ rfl ?_
    refine x_iloadn (x := a1) rfl rfl ?_
    refine x_aloadn (x := 59) rfl rfl ?_
    refine z_getC (N := 4) (v := 4) 8 0 rfl f_8_19 rfl J rfl sg_59_0_1_1_0_1 jk_4 ?_
    refine z_imul rfl rfl jk_4 (by omega) (fun v3 ev3 => ?_)
    refine x_iloadn (x := 1) rfl rfl ?_
    refine z_iadd rfl rfl jk_1 (by omega) (fun v4 ev4 => ?_)
    refine z_iald (N := 160) rfl J rfl sg_60_0_160_4_1_2 rfl (by omega) (fun v5 qv5 ev5 => ?_)
    refine x_iret rfl rfl ?_
    exact hQ _ _ (jr_of rfl (by omega)) J Sm
def fp_X8_at_r59_c2 : jFp := []
set_option maxRecDepth 100000 in
set_option maxHeartbeats 4000000 in
theorem ct_X8_at_r59_c2_24 {Dy : jH → Prop} {h0 : jH} {Q : Option Value → jH → Prop} (hD : jDk Dy) (hQ : ∀ (v : Int32) hx9, 0 ≤ v.toInt ∧ v.toInt ≤ 3 → jJ jSgX Dy hx9 → jSm fp_X8_at_r59_c2 h0 hx9 → Q (some (.int v)) hx9) : ∀ (h : jH), jJ jSgX Dy h → jSm fp_X8_at_r59_c2 h0 h → jX m_X8_at 1 0 0 24 [] [] h 0 0 Q := by
  intro  h    J Sm
  refine x_iconst (v := 0) rfl ki_0 ?_
  refine x_iret rfl rfl ?_
  exact hQ _ _ (jr_of jk_0 (by omega)) J Sm
set_option maxRecDepth 100000 in
set_option maxHeartbeats 4000000 in
theorem sf_X8_at_r59_c2 {Dy : jH → Prop} {h : jH} {Q : Option Value → jH → Prop} {a1 : Int32} (y1 : 0 ≤ a1.toInt ∧ a1.toInt ≤ 39) (hD : jDk Dy) (J : jJ jSgX Dy h) (hQ : ∀ (v : Int32) hx9, 0 ≤ v.toInt ∧ v.toInt ≤ 3 → jJ jSgX Dy hx9 → jSm fp_X8_at_r59_c2 h hx9 → Q (some (.int v)) hx9) : jC m_X8_at 1 0 0 [.ref 59, .int a1, .int 2] h Q := by
  refine jC.of rfl k_X8_at rfl ?_
  have Sm := jSm_rf fp_X8_at_r59_c2 h
  show jX m_X8_at 1 0 0 0 [(0, .ref 59), (1, .int a1), (2, .int 2)] [] _ 0 0 _
  refine x_iloadn (x := a1) rfl rfl ?_
  refine x_iflt (tgt := 24) rfl rfl (ti_lt rfl jk_0 (br_f (by omega) ?_))
  refine x_iloadn (x := a1) rfl rfl ?_
  refine x_aloadn (x := 59) rfl rfl ?_
  refine z_getI (N := 4) 8 3 rfl f_8_7 rfl J rfl sg_59_3_4_1_0_1 (fun v1 qv1 ev1 => ?_)
  refine x_icge (tgt := 24) rfl rfl (ti_ge rfl rfl ⟨fun c2 => ?_, fun c2 => ?_⟩)
  ·
    exact jX.sub jsb_n (ct_X8_at_r59_c2_24 hD hQ  h J Sm)
  ·
    refine x_iloadn (x := 2) rfl rfl ?_
    refine x_iflt (tgt := 24) rfl rfl (ti_lt jk_2 jk_0 (br_f (by omega) ?_))
    refine x_iloadn (x := 2) rfl rfl ?_
    refine x_aloadn (x := 59) rfl rfl ?_
    refine z_getC (N := 4) (v := 4) 8 0 rfl f_8_19 rfl J rfl sg_59_0_1_1_0_1 jk_4 ?_
    refine x_iclt (tgt := 26) rfl rfl (ti_lt jk_2 jk_4 (br_t (by omega) ?_))
    refine x_aloadn (x := 59) rfl rfl ?_
    refine z_getR (N := 4) (b := 60) 8 2 rfl f_8_25 rfl J rfl 7554 ⟨rfl, rfl⟩ rfl ?_
    refine x_iloadn (x := a1) rfl rfl ?_
    refine x_aloadn (x := 59) rfl rfl ?_
    refine z_getC (N := 4) (v := 4) 8 0 rfl f_8_19 rfl J rfl sg_59_0_1_1_0_1 jk_4 ?_
    refine z_imul rfl rfl jk_4 (by omega) (fun v3 ev3 => ?_)
    refine x_iloadn (x := 2) rfl rfl ?_
    refine z_iadd rfl rfl jk_2 (by omega) (fun v4 ev4 => ?_)
    refine z_iald (N := 160) rfl J rfl sg_60_0_160_4_2_3 rfl (by omega) (fun v5 qv5 ev5 => ?_)
    refine x_iret rfl rfl ?_
    exact hQ _ _ (jr_of rfl (by omega)) J Sm
def fp_X11_closing_r31 : jFp := []
set_option maxRecDepth 100000 in
set_option maxHeartbeats 4000000 in
theorem ct_X11_closing_r31_50 {Dy : jH → Prop} {h0 : jH} {Q : Option Value → jH → Prop} {R2 : Int} (hD : jDk Dy) (hQ : ∀ (v : Int32) hx9, (-1) ≤ v.toInt ∧ v.toInt ≤ 39 → jJ jSgX Dy hx9 → jSm fp_X11_closing_r31 h0 hx9 → Q (some (.int v)) hx9) (k2 : ∀ (l1 : Int32) (l2 : Int32) (l3 : Int32) (h : jH), 40 - l3.toInt < R2 → 0 ≤ l1.toInt ∧ l1.toInt ≤ 3 → 0 ≤ l3.toInt ∧ l3.toInt ≤ 40 → jJ jSgX Dy h → jSm fp_X11_closing_r31 h0 h → jX m_X11_closing 2 0 0 2 [(0, .ref 31), (1, .int l1), (2, .int l2), (3, .int l3)] [] h 0 0 Q) : ∀ (l1 : Int32) (l2 : Int32) (l3 : Int32) (h : jH), 0 ≤ l1.toInt ∧ l1.toInt ≤ 3 → 0 ≤ l3.toInt ∧ l3.toInt ≤ 39 → 40 - l3.toInt ≤ R2 → jJ jSgX Dy h → jSm fp_X11_closing_r31 h0 h → jX m_X11_closing 2 0 0 50 [(0, .ref 31), (1, .int l1), (2, .int l2), (3, .int l3)] [] h 0 0 Q := by
  intro l1 l2 l3 h y0 y1  m2 J Sm
  have el2 := jfull l2
  refine z_iinc (x := l3) (lsx9 := fun v1 => [(3, .int v1), (0, .ref 31), (1, .int l1), (2, .int l2)]) rfl rfl rfl jko_1 (by omega) rfl (fun _ => rfl) (fun v1 ev1 => ?_)
  refine x_goto (tgt := 2) rfl rfl ?_
  exact jX.sub (jsb_c rfl (jsb_c rfl (jsb_c rfl (jsb_c rfl jsb_n)))) (k2 l1 l2 v1 h (by omega) (jr_of rfl (by omega)) (jr_of rfl (by omega)) J Sm)
set_option maxRecDepth 100000 in
set_option maxHeartbeats 4000000 in
theorem ct_X11_closing_r31_2 {Dy : jH → Prop} {h0 : jH} {Q : Option Value → jH → Prop} (hD : jDk Dy) (hQ : ∀ (v : Int32) hx9, (-1) ≤ v.toInt ∧ v.toInt ≤ 39 → jJ jSgX Dy hx9 → jSm fp_X11_closing_r31 h0 hx9 → Q (some (.int v)) hx9) : ∀ r : Nat, ∀ (l1 : Int32) (l2 : Int32) (l3 : Int32) (h : jH), 40 - l3.toInt < (r : Int) → 0 ≤ l1.toInt ∧ l1.toInt ≤ 3 → 0 ≤ l3.toInt ∧ l3.toInt ≤ 40 → jJ jSgX Dy h → jSm fp_X11_closing_r31 h0 h → jX m_X11_closing 2 0 0 2 [(0, .ref 31), (1, .int l1), (2, .int l2), (3, .int l3)] [] h 0 0 Q := by
  intro r
  induction r with
  | zero =>
    intro l1 l2 l3 h hm y0 y1   J Sm
    exfalso
    have el2 := jfull l2
    omega
  | succ r ih =>
    intro l1 l2 l3 h hm y0 y1   J Sm
    have el2 := jfull l2
    refine x_iloadn (x := l3) rfl rfl ?_
    refine x_aloadn (x := 31) rfl rfl ?_
    refine z_getR (N := 13) (b := 32) 11 0 rfl f_11_10 rfl J rfl 3968 ⟨rfl, rfl⟩ rfl ?_
    refine z_getR (N := 20) (b := 59) 1 13 rfl f_11_482 rfl J rfl 4109 ⟨rfl, rfl⟩ rfl ?_
    refine z_getI (N := 4) 8 3 rfl f_11_142 rfl J rfl sg_59_3_4_1_0_1 (fun v1 qv1 ev1 => ?_)
    refine x_icge (tgt := 56) rfl rfl (ti_ge rfl rfl ⟨fun c2 => ?_, fun c2 => ?_⟩)
    ·
      refine x_iconst (v := (-1)) rfl ki_m1 ?_
      refine x_iret rfl rfl ?_
      exact hQ _ _ (jr_of jk_m1 (by omega)) J Sm
    ·
      refine x_aloadn (x := 31) rfl rfl ?_
      refine z_getR (N := 13) (b := 32) 11 0 rfl f_11_10 rfl J rfl 3968 ⟨rfl, rfl⟩ rfl ?_
      refine z_getR (N := 20) (b := 59) 1 13 rfl f_11_482 rfl J rfl 4109 ⟨rfl, rfl⟩ rfl ?_
      refine x_iloadn (x := l3) rfl rfl ?_
      refine x_iconst (v := 2) rfl ki_2 ?_
      refine x_inv (N := m_X8_at) (As := [.int l3, .int 2]) (b := 59) (st := []) (dx9 := 1) (mc := 0) (ms := 0) (host := "") 8 rfl t_X8_at ⟨Or.inl q_11_171, i_X8_at.1, i_X8_at.2⟩ ⟨by decide, rfl⟩ (congrArg Prod.fst (J.1.1 59 (8, 4) rfl)) rfl (by decide) rfl rfl ⟨by decide, by decide⟩ (sf_X8_at_r59_c2 (jr_of rfl (by omega)) hD J  (fun v4 h ev4 J S3 => ?_))
      have Sm := jSm_tr rfl Sm S3
      show jX m_X11_closing 2 0 0 28 [(0, .ref 31), (1, .int l1), (2, .int l2), (3, .int l3)] [.int v4] _ 0 0 _
      refine x_iloadn (x := l1) rfl rfl ?_
      refine x_icne (tgt := 50) rfl rfl (ti_ne rfl rfl ⟨fun c5 => ?_, fun c5 => ?_⟩)
      ·
        exact jX.sub (jsb_c rfl (jsb_c rfl (jsb_c rfl (jsb_c rfl jsb_n)))) (ct_X11_closing_r31_50 hD hQ ih l1 l2 l3 h (jr_of rfl (by omega)) (jr_of rfl (by omega)) (by omega) J Sm)
      ·
        refine x_aloadn (x := 31) rfl rfl ?_
        refine z_getR (N := 13) (b := 32) 11 0 rfl f_11_10 rfl J rfl 3968 ⟨rfl, rfl⟩ rfl ?_
        refine z_getR (N := 20) (b := 59) 1 13 rfl f_11_482 rfl J rfl 4109 ⟨rfl, rfl⟩ rfl ?_
        refine x_iloadn (x := l3) rfl rfl ?_
        refine x_iconst (v := 1) rfl ki_1 ?_
        refine x_inv (N := m_X8_at) (As := [.int l3, .int 1]) (b := 59) (st := []) (dx9 := 1) (mc := 0) (ms := 0) (host := "") 8 rfl t_X8_at ⟨Or.inl q_11_171, i_X8_at.1, i_X8_at.2⟩ ⟨by decide, rfl⟩ (congrArg Prod.fst (J.1.1 59 (8, 4) rfl)) rfl (by decide) rfl rfl ⟨by decide, by decide⟩ (sf_X8_at_r59_c1 (jr_of rfl (by omega)) hD J  (fun v7 h ev7 J S6 => ?_))
        have Sm := jSm_tr rfl Sm S6
        show jX m_X11_closing 2 0 0 44 [(0, .ref 31), (1, .int l1), (2, .int l2), (3, .int l3)] [.int v7] _ 0 0 _
        refine x_iloadn (x := l2) rfl rfl ?_
        refine x_icne (tgt := 50) rfl rfl (ti_ne rfl rfl ⟨fun c8 => ?_, fun c8 => ?_⟩)
        ·
          exact jX.sub (jsb_c rfl (jsb_c rfl (jsb_c rfl (jsb_c rfl jsb_n)))) (ct_X11_closing_r31_50 hD hQ ih l1 l2 l3 h (jr_of rfl (by omega)) (jr_of rfl (by omega)) (by omega) J Sm)
        ·
          refine x_iloadn (x := l3) rfl rfl ?_
          refine x_iret rfl rfl ?_
          exact hQ _ _ (jr_of rfl (by omega)) J Sm
set_option maxRecDepth 100000 in
set_option maxHeartbeats 4000000 in
theorem sf_X11_closing_r31 {Dy : jH → Prop} {h : jH} {Q : Option Value → jH → Prop} {a1 : Int32} {a2 : Int32} (y1 : 0 ≤ a1.toInt ∧ a1.toInt ≤ 3) (hD : jDk Dy) (J : jJ jSgX Dy h) (hQ : ∀ (v : Int32) hx9, (-1) ≤ v.toInt ∧ v.toInt ≤ 39 → jJ jSgX Dy hx9 → jSm fp_X11_closing_r31 h hx9 → Q (some (.int v)) hx9) : jC m_X11_closing 2 0 0 [.ref 31, .int a1, .int a2] h Q := by
  refine jC.of rfl k_X11_closing rfl ?_
  have Sm := jSm_rf fp_X11_closing_r31 h
  have ea2 := jfull a2
  show jX m_X11_closing 2 0 0 0 [(0, .ref 31), (1, .int a1), (2, .int a2)] [] _ 0 0 _
  refine x_iconst (v := 0) rfl ki_0 ?_
  refine x_istoren (lsx9 := [(3, .int 0), (0, .ref 31), (1, .int a1), (2, .int a2)]) rfl rfl rfl ?_
  exact jX.sub (jsb_c rfl (jsb_c rfl (jsb_c rfl (jsb_c rfl jsb_n)))) (ct_X11_closing_r31_2 hD hQ  41 a1 a2 0 h (by have := jk_0; omega) (jr_of rfl (by omega)) (jr_of jk_0 (by omega)) J Sm)
def fp_X8_at_r57_c0 : jFp := []
set_option maxRecDepth 100000 in
set_option maxHeartbeats 4000000 in
theorem ct_X8_at_r57_c0_24 {Dy : jH → Prop} {h0 : jH} {Q : Option Value → jH → Prop} (hD : jDk Dy) (hQ : ∀ (v : Int32) hx9, 0 ≤ v.toInt ∧ v.toInt ≤ 146399 → jJ jSgX Dy hx9 → jSm fp_X8_at_r57_c0 h0 hx9 → Q (some (.int v)) hx9) : ∀ (h : jH), jJ jSgX Dy h → jSm fp_X8_at_r57_c0 h0 h → jX m_X8_at 1 0 0 24 [] [] h 0 0 Q := by
  intro  h    J Sm
  refine x_iconst (v := 0) rfl ki_0 ?_
  refine x_iret rfl rfl ?_
  exact hQ _ _ (jr_of jk_0 (by omega)) J Sm
set_option maxRecDepth 100000 in
set_option maxHeartbeats 4000000 in
theorem sf_X8_at_r57_c0 {Dy : jH → Prop} {h : jH} {Q : Option Value → jH → Prop} {a1 : Int32} (y1 : 0 ≤ a1.toInt ∧ a1.toInt ≤ 99) (hD : jDk Dy) (J : jJ jSgX Dy h) (hQ : ∀ (v : Int32) hx9, 0 ≤ v.toInt ∧ v.toInt ≤ 146399 → jJ jSgX Dy hx9 → jSm fp_X8_at_r57_c0 h hx9 → Q (some (.int v)) hx9) : jC m_X8_at 1 0 0 [.ref 57, .int a1, .int 0] h Q := by
  refine jC.of rfl k_X8_at rfl ?_
  have Sm := jSm_rf fp_X8_at_r57_c0 h
  show jX m_X8_at 1 0 0 0 [(0, .ref 57), (1, .int a1), (2, .int 0)] [] _ 0 0 _
  refine x_iloadn (x := a1) rfl rfl ?_
  refine x_iflt (tgt := 24) rfl rfl (ti_lt rfl jk_0 (br_f (by omega) ?_))
  refine x_iloadn (x := a1) rfl rfl ?_
  refine x_aloadn (x := 57) rfl rfl ?_
  refine z_getI (N := 4) 8 3 rfl f_8_7 rfl J rfl sg_57_3_4_1_0_1 (fun v1 qv1 ev1 => ?_)
  refine x_icge (tgt := 24) rfl rfl (ti_ge rfl rfl ⟨fun c2 => ?_, fun c2 => ?_⟩)
  ·
    exact jX.sub jsb_n (ct_X8_at_r57_c0_24 hD hQ  h J Sm)
  ·
    refine x_iloadn (x := 0) rfl rfl ?_
    refine x_iflt (tgt := 24) rfl rfl (ti_lt jk_0 jk_0 (br_f (by omega) ?_))
    refine x_iloadn (x := 0) rfl rfl ?_
    refine x_aloadn (x := 57) rfl rfl ?_
    refine z_getC (N := 4) (v := 4) 8 0 rfl f_8_19 rfl J rfl sg_57_0_1_1_0_1 jk_4 ?_
    refine x_iclt (tgt := 26) rfl rfl (ti_lt jk_0 jk_4 (br_t (by omega) ?_))
    refine x_aloadn (x := 57) rfl rfl ?_
    refine z_getR (N := 4) (b := 58) 8 2 rfl f_8_25 rfl J rfl 7298 ⟨rfl, rfl⟩ rfl ?_
    refine x_iloadn (x := a1) rfl rfl ?_
    refine x_aloadn (x := 57) rfl rfl ?_
    refine z_getC (N := 4) (v := 4) 8 0 rfl f_8_19 rfl J rfl sg_57_0_1_1_0_1 jk_4 ?_
    refine z_imul rfl rfl jk_4 (by omega) (fun v3 ev3 => ?_)
    refine x_iloadn (x := 0) rfl rfl ?_
    refine z_iadd rfl rfl jk_0 (by omega) (fun v4 ev4 => ?_)
    refine z_iald (N := 400) rfl J rfl sg_58_0_400_4_0_1 rfl (by omega) (fun v5 qv5 ev5 => ?_)
    refine x_iret rfl rfl ?_
    exact hQ _ _ (jr_of rfl (by omega)) J Sm
def fp_X8_at_r57_c1 : jFp := []
set_option maxRecDepth 100000 in
set_option maxHeartbeats 4000000 in
theorem ct_X8_at_r57_c1_24 {Dy : jH → Prop} {h0 : jH} {Q : Option Value → jH → Prop} (hD : jDk Dy) (hQ : ∀ (v : Int32) hx9, 0 ≤ v.toInt ∧ v.toInt ≤ 399 → jJ jSgX Dy hx9 → jSm fp_X8_at_r57_c1 h0 hx9 → Q (some (.int v)) hx9) : ∀ (h : jH), jJ jSgX Dy h → jSm fp_X8_at_r57_c1 h0 h → jX m_X8_at 1 0 0 24 [] [] h 0 0 Q := by
  intro  h    J Sm
  refine x_iconst (v := 0) rfl ki_0 ?_
  refine x_iret rfl rfl ?_
  exact hQ _ _ (jr_of jk_0 (by omega)) J Sm
set_option maxRecDepth 100000 in
set_option maxHeartbeats 4000000 in
theorem sf_X8_at_r57_c1 {Dy : jH → Prop} {h : jH} {Q : Option Value → jH → Prop} {a1 : Int32} (y1 : 0 ≤ a1.toInt ∧ a1.toInt ≤ 99) (hD : jDk Dy) (J : jJ jSgX Dy h) (hQ : ∀ (v : Int32) hx9, 0 ≤ v.toInt ∧ v.toInt ≤ 399 → jJ jSgX Dy hx9 → jSm fp_X8_at_r57_c1 h hx9 → Q (some (.int v)) hx9) : jC m_X8_at 1 0 0 [.ref 57, .int a1, .int 1] h Q := by
  refine jC.of rfl k_X8_at rfl ?_
  have Sm := jSm_rf fp_X8_at_r57_c1 h
  show jX m_X8_at 1 0 0 0 [(0, .ref 57), (1, .int a1), (2, .int 1)] [] _ 0 0 _
  refine x_iloadn (x := a1) rfl rfl ?_
  refine x_iflt (tgt := 24) rfl rfl (ti_lt rfl jk_0 (br_f (by omega) ?_))
  refine x_iloadn (x := a1) rfl rfl ?_
  refine x_aloadn (x := 57) rfl rfl ?_
  refine z_getI (N := 4) 8 3 rfl f_8_7 rfl J rfl sg_57_3_4_1_0_1 (fun v1 qv1 ev1 => ?_)
  refine x_icge (tgt := 24) rfl rfl (ti_ge rfl rfl ⟨fun c2 => ?_, fun c2 => ?_⟩)
  ·
    exact jX.sub jsb_n (ct_X8_at_r57_c1_24 hD hQ  h J Sm)
  ·
    refine x_iloadn (x := 1) rfl rfl ?_
    refine x_iflt (tgt := 24) rfl rfl (ti_lt jk_1 jk_0 (br_f (by omega) ?_))
    refine x_iloadn (x := 1) rfl rfl ?_
    refine x_aloadn (x := 57) rfl rfl ?_
    refine z_getC (N := 4) (v := 4) 8 0 rfl f_8_19 rfl J rfl sg_57_0_1_1_0_1 jk_4 ?_
    refine x_iclt (tgt := 26) rfl rfl (ti_lt jk_1 jk_4 (br_t (by omega) ?_))
    refine x_aloadn (x := 57) rfl rfl ?_
    refine z_getR (N := 4) (b := 58) 8 2 rfl f_8_25 rfl J rfl 7298 ⟨rfl, rfl⟩ rfl ?_
    refine x_iloadn (x := a1) rfl rfl ?_
    refine x_aloadn (x := 57) rfl rfl ?_
    refine z_getC (N := 4) (v := 4) 8 0 rfl f_8_19 rfl J rfl sg_57_0_1_1_0_1 jk_4 ?_
    refine z_imul rfl rfl jk_4 (by omega) (fun v3 ev3 => ?_)
    refine x_iloadn (x := 1) rfl rfl ?_
    refine z_iadd rfl rfl jk_1 (by omega) (fun v4 ev4 => ?_)
    refine z_iald (N := 400) rfl J rfl sg_58_0_400_4_1_2 rfl (by omega) (fun v5 qv5 ev5 => ?_)
    refine x_iret rfl rfl ?_
    exact hQ _ _ (jr_of rfl (by omega)) J Sm
def fp_X8_at_r57_c2 : jFp := []
set_option maxRecDepth 100000 in
set_option maxHeartbeats 4000000 in
theorem ct_X8_at_r57_c2_24 {Dy : jH → Prop} {h0 : jH} {Q : Option Value → jH → Prop} (hD : jDk Dy) (hQ : ∀ (v : Int32) hx9, 0 ≤ v.toInt ∧ v.toInt ≤ 3 → jJ jSgX Dy hx9 → jSm fp_X8_at_r57_c2 h0 hx9 → Q (some (.int v)) hx9) : ∀ (h : jH), jJ jSgX Dy h → jSm fp_X8_at_r57_c2 h0 h → jX m_X8_at 1 0 0 24 [] [] h 0 0 Q := by
  intro  h    J Sm
  refine x_iconst (v := 0) rfl ki_0 ?_
  refine x_iret rfl rfl ?_
  exact hQ _ _ (jr_of jk_0 (by omega)) J Sm
set_option maxRecDepth 100000 in
set_option maxHeartbeats 4000000 in
theorem sf_X8_at_r57_c2 {Dy : jH → Prop} {h : jH} {Q : Option Value → jH → Prop} {a1 : Int32} (y1 : 0 ≤ a1.toInt ∧ a1.toInt ≤ 99) (hD : jDk Dy) (J : jJ jSgX Dy h) (hQ : ∀ (v : Int32) hx9, 0 ≤ v.toInt ∧ v.toInt ≤ 3 → jJ jSgX Dy hx9 → jSm fp_X8_at_r57_c2 h hx9 → Q (some (.int v)) hx9) : jC m_X8_at 1 0 0 [.ref 57, .int a1, .int 2] h Q := by
  refine jC.of rfl k_X8_at rfl ?_
  have Sm := jSm_rf fp_X8_at_r57_c2 h
  show jX m_X8_at 1 0 0 0 [(0, .ref 57), (1, .int a1), (2, .int 2)] [] _ 0 0 _
  refine x_iloadn (x := a1) rfl rfl ?_
  refine x_iflt (tgt := 24) rfl rfl (ti_lt rfl jk_0 (br_f (by omega) ?_))
  refine x_iloadn (x := a1) rfl rfl ?_
  refine x_aloadn (x := 57) rfl rfl ?_
  refine z_getI (N := 4) 8 3 rfl f_8_7 rfl J rfl sg_57_3_4_1_0_1 (fun v1 qv1 ev1 => ?_)
  refine x_icge (tgt := 24) rfl rfl (ti_ge rfl rfl ⟨fun c2 => ?_, fun c2 => ?_⟩)
  ·
    exact jX.sub jsb_n (ct_X8_at_r57_c2_24 hD hQ  h J Sm)
  ·
    refine x_iloadn (x := 2) rfl rfl ?_
    refine x_iflt (tgt := 24) rfl rfl (ti_lt jk_2 jk_0 (br_f (by omega) ?_))
    refine x_iloadn (x := 2) rfl rfl ?_
    refine x_aloadn (x := 57) rfl rfl ?_
    refine z_getC (N := 4) (v := 4) 8 0 rfl f_8_19 rfl J rfl sg_57_0_1_1_0_1 jk_4 ?_
    refine x_iclt (tgt := 26) rfl rfl (ti_lt jk_2 jk_4 (br_t (by omega) ?_))
    refine x_aloadn (x := 57) rfl rfl ?_
    refine z_getR (N := 4) (b := 58) 8 2 rfl f_8_25 rfl J rfl 7298 ⟨rfl, rfl⟩ rfl ?_
    refine x_iloadn (x := a1) rfl rfl ?_
    refine x_aloadn (x := 57) rfl rfl ?_
    refine z_getC (N := 4) (v := 4) 8 0 rfl f_8_19 rfl J rfl sg_57_0_1_1_0_1 jk_4 ?_
    refine z_imul rfl rfl jk_4 (by omega) (fun v3 ev3 => ?_)
    refine x_iloadn (x := 2) rfl rfl ?_
    refine z_iadd rfl rfl jk_2 (by omega) (fun v4 ev4 => ?_)
    refine z_iald (N := 400) rfl J rfl sg_58_0_400_4_2_3 rfl (by omega) (fun v5 qv5 ev5 => ?_)
    refine x_iret rfl rfl ?_
    exact hQ _ _ (jr_of rfl (by omega)) J Sm
def fp_X8_at_r59_c0 : jFp := []
set_option maxRecDepth 100000 in
set_option maxHeartbeats 4000000 in
theorem ct_X8_at_r59_c0_24 {Dy : jH → Prop} {h0 : jH} {Q : Option Value → jH → Prop} (hD : jDk Dy) (hQ : ∀ (v : Int32) hx9, 0 ≤ v.toInt ∧ v.toInt ≤ 146399 → jJ jSgX Dy hx9 → jSm fp_X8_at_r59_c0 h0 hx9 → Q (some (.int v)) hx9) : ∀ (h : jH), jJ jSgX Dy h → jSm fp_X8_at_r59_c0 h0 h → jX m_X8_at 1 0 0 24 [] [] h 0 0 Q := by
  intro  h    J Sm
  refine x_iconst (v := 0) rfl ki_0 ?_
  refine x_iret rfl rfl ?_
  exact hQ _ _ (jr_of jk_0 (by omega)) J Sm
set_option maxRecDepth 100000 in
set_option maxHeartbeats 4000000 in
theorem sf_X8_at_r59_c0 {Dy : jH → Prop} {h : jH} {Q : Option Value → jH → Prop} {a1 : Int32} (y1 : 0 ≤ a1.toInt ∧ a1.toInt ≤ 39) (hD : jDk Dy) (J : jJ jSgX Dy h) (hQ : ∀ (v : Int32) hx9, 0 ≤ v.toInt ∧ v.toInt ≤ 146399 → jJ jSgX Dy hx9 → jSm fp_X8_at_r59_c0 h hx9 → Q (some (.int v)) hx9) : jC m_X8_at 1 0 0 [.ref 59, .int a1, .int 0] h Q := by
  refine jC.of rfl k_X8_at rfl ?_
  have Sm := jSm_rf fp_X8_at_r59_c0 h
  show jX m_X8_at 1 0 0 0 [(0, .ref 59), (1, .int a1), (2, .int 0)] [] _ 0 0 _
  refine x_iloadn (x := a1) rfl rfl ?_
  refine x_iflt (tgt := 24) rfl rfl (ti_lt rfl jk_0 (br_f (by omega) ?_))
  refine x_iloadn (x := a1) rfl rfl ?_
  refine x_aloadn (x := 59) rfl rfl ?_
  refine z_getI (N := 4) 8 3 rfl f_8_7 rfl J rfl sg_59_3_4_1_0_1 (fun v1 qv1 ev1 => ?_)
  refine x_icge (tgt := 24) rfl rfl (ti_ge rfl rfl ⟨fun c2 => ?_, fun c2 => ?_⟩)
  ·
    exact jX.sub jsb_n (ct_X8_at_r59_c0_24 hD hQ  h J Sm)
  ·
    refine x_iloadn (x := 0) rfl rfl ?_
    refine x_iflt (tgt := 24) rfl rfl (ti_lt jk_0 jk_0 (br_f (by omega) ?_))
    refine x_iloadn (x := 0) rfl rfl ?_
    refine x_aloadn (x := 59) rfl rfl ?_
    refine z_getC (N := 4) (v := 4) 8 0 rfl f_8_19 rfl J rfl sg_59_0_1_1_0_1 jk_4 ?_
    refine x_iclt (tgt := 26) rfl rfl (ti_lt jk_0 jk_4 (br_t (by omega) ?_))
    refine x_aloadn (x := 59) rfl rfl ?_
    refine z_getR (N := 4) (b := 60) 8 2 rfl f_8_25 rfl J rfl 7554 ⟨rfl, rfl⟩ rfl ?_
    refine x_iloadn (x := a1) rfl rfl ?_
    refine x_aloadn (x := 59) rfl rfl ?_
    refine z_getC (N := 4) (v := 4) 8 0 rfl f_8_19 rfl J rfl sg_59_0_1_1_0_1 jk_4 ?_
    refine z_imul rfl rfl jk_4 (by omega) (fun v3 ev3 => ?_)
    refine x_iloadn (x := 0) rfl rfl ?_
    refine z_iadd rfl rfl jk_0 (by omega) (fun v4 ev4 => ?_)
    refine z_iald (N := 160) rfl J rfl sg_60_0_160_4_0_1 rfl (by omega) (fun v5 qv5 ev5 => ?_)
    refine x_iret rfl rfl ?_
    exact hQ _ _ (jr_of rfl (by omega)) J Sm
def fp_X11_ownYear_r31 : jFp := []
set_option maxRecDepth 100000 in
set_option maxHeartbeats 4000000 in
theorem ct_X11_ownYear_r31_90 {Dy : jH → Prop} {h0 : jH} {Q : Option Value → jH → Prop} (hD : jDk Dy) (hQ : ∀ (v : Int32) hx9, jJ jSgX Dy hx9 → jSm fp_X11_ownYear_r31 h0 hx9 → Q (some (.int v)) hx9) : ∀ (l4 : Int32) (h : jH), jJ jSgX Dy h → jSm fp_X11_ownYear_r31 h0 h → jX m_X11_ownYear 3 0 0 90 [(4, .int l4)] [] h 0 0 Q := by
  intro l4 h    J Sm
  have el4 := jfull l4
  refine x_iload (x := l4) rfl rfl ?_
  refine x_iret rfl rfl ?_
  exact hQ _ _ J Sm
set_option maxRecDepth 100000 in
set_option maxHeartbeats 4000000 in
theorem ct_X11_ownYear_r31_43 {Dy : jH → Prop} {h0 : jH} {Q : Option Value → jH → Prop} (hD : jDk Dy) (hQ : ∀ (v : Int32) hx9, jJ jSgX Dy hx9 → jSm fp_X11_ownYear_r31 h0 hx9 → Q (some (.int v)) hx9) : ∀ r : Nat, ∀ (l2 : Int32) (l3 : Int32) (l4 : Int32) (l5 : Int32) (h : jH), 41 - l5.toInt < (r : Int) → 0 ≤ l2.toInt ∧ l2.toInt ≤ 3 → 0 ≤ l3.toInt ∧ l3.toInt ≤ 146399 → 0 ≤ l5.toInt ∧ l5.toInt ≤ 41 → jJ jSgX Dy h → jSm fp_X11_ownYear_r31 h0 h → jX m_X11_ownYear 3 0 0 43 [(0, .ref 31), (2, .int l2), (3, .int l3), (4, .int l4), (5, .int l5)] [] h 0 0 Q := by
  intro r
  induction r with
  | zero =>
    intro l2 l3 l4 l5 h hm y0 y1 y2   J Sm
    exfalso
    have el4 := jfull l4
    omega
  | succ r ih =>
    intro l2 l3 l4 l5 h hm y0 y1 y2   J Sm
    have el4 := jfull l4
    refine x_iload (x := l5) rfl rfl ?_
    refine x_aloadn (x := 31) rfl rfl ?_
    refine z_getR (N := 13) (b := 32) 11 0 rfl f_11_10 rfl J rfl 3968 ⟨rfl, rfl⟩ rfl ?_
    refine z_getR (N := 20) (b := 59) 1 13 rfl f_11_482 rfl J rfl 4109 ⟨rfl, rfl⟩ rfl ?_
    refine z_getI (N := 4) 8 3 rfl f_11_142 rfl J rfl sg_59_3_4_1_0_1 (fun v1 qv1 ev1 => ?_)
    refine x_icgt (tgt := 102) rfl rfl (ti_gt rfl rfl ⟨fun c2 => ?_, fun c2 => ?_⟩)
    ·
      refine x_iload (x := l4) rfl rfl ?_
      refine x_iret rfl rfl ?_
      exact hQ _ _ J Sm
    ·
      refine x_aloadn (x := 31) rfl rfl ?_
      refine x_iloadn (x := l2) rfl rfl ?_
      refine x_iload (x := l4) rfl rfl ?_
      refine x_inv (N := m_X11_closing) (As := [.int l2, .int l4]) (b := 31) (st := []) (dx9 := 2) (mc := 0) (ms := 0) (host := "") 11 rfl t_X11_closing ⟨Or.inl q_11_567, i_X11_closing.1, i_X11_closing.2⟩ ⟨by decide, rfl⟩ (congrArg Prod.fst (J.1.1 31 (11, 13) rfl)) rfl (by decide) rfl rfl ⟨by decide, by decide⟩ (sf_X11_closing_r31 (jr_of rfl (by omega)) hD J  (fun v4 h ev4 J S3 => ?_))
      have Sm := jSm_tr rfl Sm S3
      show jX m_X11_ownYear 3 0 0 65 [(0, .ref 31), (2, .int l2), (3, .int l3), (4, .int l4), (5, .int l5)] [.int v4] _ 0 0 _
      refine x_istore (lsx9 := [(6, .int v4), (0, .ref 31), (2, .int l2), (3, .int l3), (4, .int l4), (5, .int l5)]) rfl rfl rfl ?_
      refine x_iload (x := v4) rfl rfl ?_
      refine x_iconst (v := (-1)) rfl ki_m1 ?_
      refine x_iceq (tgt := 90) rfl rfl (ti_eq rfl jk_m1 ⟨fun c5 => ?_, fun c5 => ?_⟩)
      ·
        exact jX.sub (jsb_c rfl jsb_n) (ct_X11_ownYear_r31_90 hD hQ  l4 h J Sm)
      ·
        refine x_aloadn (x := 31) rfl rfl ?_
        refine z_getR (N := 13) (b := 32) 11 0 rfl f_11_10 rfl J rfl 3968 ⟨rfl, rfl⟩ rfl ?_
        refine z_getR (N := 20) (b := 59) 1 13 rfl f_11_482 rfl J rfl 4109 ⟨rfl, rfl⟩ rfl ?_
        refine x_iload (x := v4) rfl rfl ?_
        refine x_iconst (v := 0) rfl ki_0 ?_
        refine x_inv (N := m_X8_at) (As := [.int v4, .int 0]) (b := 59) (st := []) (dx9 := 1) (mc := 0) (ms := 0) (host := "") 8 rfl t_X8_at ⟨Or.inl q_11_171, i_X8_at.1, i_X8_at.2⟩ ⟨by decide, rfl⟩ (congrArg Prod.fst (J.1.1 59 (8, 4) rfl)) rfl (by decide) rfl rfl ⟨by decide, by decide⟩ (sf_X8_at_r59_c0 (jr_of rfl (by omega)) hD J  (fun v7 h ev7 J S6 => ?_))
        have Sm := jSm_tr rfl Sm S6
        show jX m_X11_ownYear 3 0 0 86 [(6, .int v4), (0, .ref 31), (2, .int l2), (3, .int l3), (4, .int l4), (5, .int l5)] [.int v7] _ 0 0 _
        refine x_iloadn (x := l3) rfl rfl ?_
        refine x_iclt (tgt := 93) rfl rfl (ti_lt rfl rfl ⟨fun c8 => ?_, fun c8 => ?_⟩)
        ·
          refine z_iinc0 (x := l4) (lsx9 := fun v9 => [(4, .int v9), (6, .int v4), (0, .ref 31), (2, .int l2), (3, .int l3), (5, .int l5)]) rfl rfl rfl (fun _ => rfl) (fun v9 => ?_)
          have ev9 := jfull v9
          refine z_iinc (x := l5) (lsx9 := fun v10 => [(5, .int v10), (4, .int v9), (6, .int v4), (0, .ref 31), (2, .int l2), (3, .int l3)]) rfl rfl rfl jko_1 (by omega) rfl (fun _ => rfl) (fun v10 ev10 => ?_)
          refine x_goto (tgt := 43) rfl rfl ?_
          exact jX.sub (jsb_c rfl (jsb_c rfl (jsb_c rfl (jsb_c rfl (jsb_c rfl jsb_n))))) (ih l2 l3 v9 v10 h (by omega) (jr_of rfl (by omega)) (jr_of rfl (by omega)) (jr_of rfl (by omega)) J Sm)
        ·
          exact jX.sub (jsb_c rfl jsb_n) (ct_X11_ownYear_r31_90 hD hQ  l4 h J Sm)
set_option maxRecDepth 100000 in
set_option maxHeartbeats 4000000 in
theorem sf_X11_ownYear_r31 {Dy : jH → Prop} {h : jH} {Q : Option Value → jH → Prop} {a1 : Int32} (y1 : 0 ≤ a1.toInt ∧ a1.toInt ≤ 99) (hD : jDk Dy) (J : jJ jSgX Dy h) (hQ : ∀ (v : Int32) hx9, jJ jSgX Dy hx9 → jSm fp_X11_ownYear_r31 h hx9 → Q (some (.int v)) hx9) : jC m_X11_ownYear 3 0 0 [.ref 31, .int a1] h Q := by
  refine jC.of rfl k_X11_ownYear rfl ?_
  have Sm := jSm_rf fp_X11_ownYear_r31 h
  show jX m_X11_ownYear 3 0 0 0 [(0, .ref 31), (1, .int a1)] [] _ 0 0 _
  refine x_aloadn (x := 31) rfl rfl ?_
  refine z_getR (N := 13) (b := 32) 11 0 rfl f_11_10 rfl J rfl 3968 ⟨rfl, rfl⟩ rfl ?_
  refine z_getR (N := 20) (b := 57) 1 12 rfl f_11_473 rfl J rfl 4108 ⟨rfl, rfl⟩ rfl ?_
  refine x_iloadn (x := a1) rfl rfl ?_
  refine x_iconst (v := 2) rfl ki_2 ?_
  refine x_inv (N := m_X8_at) (As := [.int a1, .int 2]) (b := 57) (st := []) (dx9 := 1) (mc := 0) (ms := 0) (host := "") 8 rfl t_X8_at ⟨Or.inl q_11_171, i_X8_at.1, i_X8_at.2⟩ ⟨by decide, rfl⟩ (congrArg Prod.fst (J.1.1 57 (8, 4) rfl)) rfl (by decide) rfl rfl ⟨by decide, by decide⟩ (sf_X8_at_r57_c2 (jr_of rfl (by omega)) hD J  (fun v2 h ev2 J S1 => ?_))
  have Sm := jSm_tr rfl Sm S1
  show jX m_X11_ownYear 3 0 0 12 [(0, .ref 31), (1, .int a1)] [.int v2] _ 0 0 _
  refine x_istoren (lsx9 := [(2, .int v2), (0, .ref 31), (1, .int a1)]) rfl rfl rfl ?_
  refine x_aloadn (x := 31) rfl rfl ?_
  refine z_getR (N := 13) (b := 32) 11 0 rfl f_11_10 rfl J rfl 3968 ⟨rfl, rfl⟩ rfl ?_
  refine z_getR (N := 20) (b := 57) 1 12 rfl f_11_473 rfl J rfl 4108 ⟨rfl, rfl⟩ rfl ?_
  refine x_iloadn (x := a1) rfl rfl ?_
  refine x_iconst (v := 0) rfl ki_0 ?_
  refine x_inv (N := m_X8_at) (As := [.int a1, .int 0]) (b := 57) (st := []) (dx9 := 1) (mc := 0) (ms := 0) (host := "") 8 rfl t_X8_at ⟨Or.inl q_11_171, i_X8_at.1, i_X8_at.2⟩ ⟨by decide, rfl⟩ (congrArg Prod.fst (J.1.1 57 (8, 4) rfl)) rfl (by decide) rfl rfl ⟨by decide, by decide⟩ (sf_X8_at_r57_c0 (jr_of rfl (by omega)) hD J  (fun v4 h ev4 J S3 => ?_))
  have Sm := jSm_tr rfl Sm S3
  show jX m_X11_ownYear 3 0 0 25 [(2, .int v2), (0, .ref 31), (1, .int a1)] [.int v4] _ 0 0 _
  refine x_istoren (lsx9 := [(3, .int v4), (2, .int v2), (0, .ref 31), (1, .int a1)]) rfl rfl rfl ?_
  refine x_aloadn (x := 31) rfl rfl ?_
  refine z_getR (N := 13) (b := 32) 11 0 rfl f_11_10 rfl J rfl 3968 ⟨rfl, rfl⟩ rfl ?_
  refine z_getR (N := 20) (b := 57) 1 12 rfl f_11_473 rfl J rfl 4108 ⟨rfl, rfl⟩ rfl ?_
  refine x_iloadn (x := a1) rfl rfl ?_
  refine x_iconst (v := 1) rfl ki_1 ?_
  refine x_inv (N := m_X8_at) (As := [.int a1, .int 1]) (b := 57) (st := []) (dx9 := 1) (mc := 0) (ms := 0) (host := "") 8 rfl t_X8_at ⟨Or.inl q_11_171, i_X8_at.1, i_X8_at.2⟩ ⟨by decide, rfl⟩ (congrArg Prod.fst (J.1.1 57 (8, 4) rfl)) rfl (by decide) rfl rfl ⟨by decide, by decide⟩ (sf_X8_at_r57_c1 (jr_of rfl (by omega)) hD J  (fun v6 h ev6 J S5 => ?_))
  have Sm := jSm_tr rfl Sm S5
  show jX m_X11_ownYear 3 0 0 38 [(3, .int v4), (2, .int v2), (0, .ref 31), (1, .int a1)] [.int v6] _ 0 0 _
  refine x_istore (lsx9 := [(4, .int v6), (3, .int v4), (2, .int v2), (0, .ref 31), (1, .int a1)]) rfl rfl rfl ?_
  refine x_iconst (v := 0) rfl ki_0 ?_
  refine x_istore (lsx9 := [(5, .int 0), (4, .int v6), (3, .int v4), (2, .int v2), (0, .ref 31), (1, .int a1)]) rfl rfl rfl ?_
  exact jX.sub (jsb_c rfl (jsb_c rfl (jsb_c rfl (jsb_c rfl (jsb_c rfl jsb_n))))) (ct_X11_ownYear_r31_43 hD hQ  42 v2 v4 v6 0 h (by have := jk_0; omega) (jr_of rfl (by omega)) (jr_of rfl (by omega)) (jr_of jk_0 (by omega)) J Sm)
def fp_X8_at_r57_c3 : jFp := []
set_option maxRecDepth 100000 in
set_option maxHeartbeats 4000000 in
theorem ct_X8_at_r57_c3_24 {Dy : jH → Prop} {h0 : jH} {Q : Option Value → jH → Prop} (hD : jDk Dy) (hQ : ∀ (v : Int32) hx9, (-1000000) ≤ v.toInt ∧ v.toInt ≤ 1000000 → jJ jSgX Dy hx9 → jSm fp_X8_at_r57_c3 h0 hx9 → Q (some (.int v)) hx9) : ∀ (h : jH), jJ jSgX Dy h → jSm fp_X8_at_r57_c3 h0 h → jX m_X8_at 1 0 0 24 [] [] h 0 0 Q := by
  intro  h    J Sm
  refine x_iconst (v := 0) rfl ki_0 ?_
  refine x_iret rfl rfl ?_
  exact hQ _ _ (jr_of jk_0 (by omega)) J Sm
set_option maxRecDepth 100000 in
set_option maxHeartbeats 4000000 in
theorem sf_X8_at_r57_c3 {Dy : jH → Prop} {h : jH} {Q : Option Value → jH → Prop} {a1 : Int32} (y1 : 0 ≤ a1.toInt ∧ a1.toInt ≤ 99) (hD : jDk Dy) (J : jJ jSgX Dy h) (hQ : ∀ (v : Int32) hx9, (-1000000) ≤ v.toInt ∧ v.toInt ≤ 1000000 → jJ jSgX Dy hx9 → jSm fp_X8_at_r57_c3 h hx9 → Q (some (.int v)) hx9) : jC m_X8_at 1 0 0 [.ref 57, .int a1, .int 3] h Q := by
  refine jC.of rfl k_X8_at rfl ?_
  have Sm := jSm_rf fp_X8_at_r57_c3 h
  show jX m_X8_at 1 0 0 0 [(0, .ref 57), (1, .int a1), (2, .int 3)] [] _ 0 0 _
  refine x_iloadn (x := a1) rfl rfl ?_
  refine x_iflt (tgt := 24) rfl rfl (ti_lt rfl jk_0 (br_f (by omega) ?_))
  refine x_iloadn (x := a1) rfl rfl ?_
  refine x_aloadn (x := 57) rfl rfl ?_
  refine z_getI (N := 4) 8 3 rfl f_8_7 rfl J rfl sg_57_3_4_1_0_1 (fun v1 qv1 ev1 => ?_)
  refine x_icge (tgt := 24) rfl rfl (ti_ge rfl rfl ⟨fun c2 => ?_, fun c2 => ?_⟩)
  ·
    exact jX.sub jsb_n (ct_X8_at_r57_c3_24 hD hQ  h J Sm)
  ·
    refine x_iloadn (x := 3) rfl rfl ?_
    refine x_iflt (tgt := 24) rfl rfl (ti_lt jk_3 jk_0 (br_f (by omega) ?_))
    refine x_iloadn (x := 3) rfl rfl ?_
    refine x_aloadn (x := 57) rfl rfl ?_
    refine z_getC (N := 4) (v := 4) 8 0 rfl f_8_19 rfl J rfl sg_57_0_1_1_0_1 jk_4 ?_
    refine x_iclt (tgt := 26) rfl rfl (ti_lt jk_3 jk_4 (br_t (by omega) ?_))
    refine x_aloadn (x := 57) rfl rfl ?_
    refine z_getR (N := 4) (b := 58) 8 2 rfl f_8_25 rfl J rfl 7298 ⟨rfl, rfl⟩ rfl ?_
    refine x_iloadn (x := a1) rfl rfl ?_
    refine x_aloadn (x := 57) rfl rfl ?_
    refine z_getC (N := 4) (v := 4) 8 0 rfl f_8_19 rfl J rfl sg_57_0_1_1_0_1 jk_4 ?_
    refine z_imul rfl rfl jk_4 (by omega) (fun v3 ev3 => ?_)
    refine x_iloadn (x := 3) rfl rfl ?_
    refine z_iadd rfl rfl jk_3 (by omega) (fun v4 ev4 => ?_)
    refine z_iald (N := 400) rfl J rfl sg_58_0_400_4_3_4 rfl (by omega) (fun v5 qv5 ev5 => ?_)
    refine x_iret rfl rfl ?_
    exact hQ _ _ (jr_of rfl (by omega)) J Sm
def fp_X8_at_r59_c3 : jFp := []
set_option maxRecDepth 100000 in
set_option maxHeartbeats 4000000 in
theorem ct_X8_at_r59_c3_24 {Dy : jH → Prop} {h0 : jH} {Q : Option Value → jH → Prop} (hD : jDk Dy) (hQ : ∀ (v : Int32) hx9, jJ jSgX Dy hx9 → jSm fp_X8_at_r59_c3 h0 hx9 → Q (some (.int v)) hx9) : ∀ (h : jH), jJ jSgX Dy h → jSm fp_X8_at_r59_c3 h0 h → jX m_X8_at 1 0 0 24 [] [] h 0 0 Q := by
  intro  h    J Sm
  refine x_iconst (v := 0) rfl ki_0 ?_
  refine x_iret rfl rfl ?_
  exact hQ _ _ J Sm
set_option maxRecDepth 100000 in
set_option maxHeartbeats 4000000 in
theorem sf_X8_at_r59_c3 {Dy : jH → Prop} {h : jH} {Q : Option Value → jH → Prop} {a1 : Int32} (y1 : 0 ≤ a1.toInt ∧ a1.toInt ≤ 39) (hD : jDk Dy) (J : jJ jSgX Dy h) (hQ : ∀ (v : Int32) hx9, jJ jSgX Dy hx9 → jSm fp_X8_at_r59_c3 h hx9 → Q (some (.int v)) hx9) : jC m_X8_at 1 0 0 [.ref 59, .int a1, .int 3] h Q := by
  refine jC.of rfl k_X8_at rfl ?_
  have Sm := jSm_rf fp_X8_at_r59_c3 h
  show jX m_X8_at 1 0 0 0 [(0, .ref 59), (1, .int a1), (2, .int 3)] [] _ 0 0 _
  refine x_iloadn (x := a1) rfl rfl ?_
  refine x_iflt (tgt := 24) rfl rfl (ti_lt rfl jk_0 (br_f (by omega) ?_))
  refine x_iloadn (x := a1) rfl rfl ?_
  refine x_aloadn (x := 59) rfl rfl ?_
  refine z_getI (N := 4) 8 3 rfl f_8_7 rfl J rfl sg_59_3_4_1_0_1 (fun v1 qv1 ev1 => ?_)
  refine x_icge (tgt := 24) rfl rfl (ti_ge rfl rfl ⟨fun c2 => ?_, fun c2 => ?_⟩)
  ·
    exact jX.sub jsb_n (ct_X8_at_r59_c3_24 hD hQ  h J Sm)
  ·
    refine x_iloadn (x := 3) rfl rfl ?_
    refine x_iflt (tgt := 24) rfl rfl (ti_lt jk_3 jk_0 (br_f (by omega) ?_))
    refine x_iloadn (x := 3) rfl rfl ?_
    refine x_aloadn (x := 59) rfl rfl ?_
    refine z_getC (N := 4) (v := 4) 8 0 rfl f_8_19 rfl J rfl sg_59_0_1_1_0_1 jk_4 ?_
    refine x_iclt (tgt := 26) rfl rfl (ti_lt jk_3 jk_4 (br_t (by omega) ?_))
    refine x_aloadn (x := 59) rfl rfl ?_
    refine z_getR (N := 4) (b := 60) 8 2 rfl f_8_25 rfl J rfl 7554 ⟨rfl, rfl⟩ rfl ?_
    refine x_iloadn (x := a1) rfl rfl ?_
    refine x_aloadn (x := 59) rfl rfl ?_
    refine z_getC (N := 4) (v := 4) 8 0 rfl f_8_19 rfl J rfl sg_59_0_1_1_0_1 jk_4 ?_
    refine z_imul rfl rfl jk_4 (by omega) (fun v3 ev3 => ?_)
    refine x_iloadn (x := 3) rfl rfl ?_
    refine z_iadd rfl rfl jk_3 (by omega) (fun v4 ev4 => ?_)
    refine z_iald0 (N := 160) rfl J rfl rfl (by omega) (fun v5 qv5 => ?_)
    have ev5 := jfull v5
    refine x_iret rfl rfl ?_
    exact hQ _ _ J Sm
def fp_X8_isKnown_r57 : jFp := []
set_option maxRecDepth 100000 in
set_option maxHeartbeats 4000000 in
theorem ct_X8_isKnown_r57_300032 {Dy : jH → Prop} {h0 : jH} {Q : Option Value → jH → Prop} (hD : jDk Dy) (hQ : ∀ (v : Int32) hx9, 0 ≤ v.toInt ∧ v.toInt ≤ 1 → jJ jSgX Dy hx9 → jSm fp_X8_isKnown_r57 h0 hx9 → Q (some (.int v)) hx9) : ∀ (h : jH), jJ jSgX Dy h → jSm fp_X8_isKnown_r57 h0 h → jX m_X8_isKnown 1 0 0 32 [] [.int 1] h 0 0 Q := by
  intro  h    J Sm
  refine x_zret rfl rfl (by decide) ?_
  exact hQ _ _ (jr_of jk_1 (by omega)) J Sm
set_option maxRecDepth 100000 in
set_option maxHeartbeats 4000000 in
theorem ct_X8_isKnown_r57_200032 {Dy : jH → Prop} {h0 : jH} {Q : Option Value → jH → Prop} (hD : jDk Dy) (hQ : ∀ (v : Int32) hx9, 0 ≤ v.toInt ∧ v.toInt ≤ 1 → jJ jSgX Dy hx9 → jSm fp_X8_isKnown_r57 h0 hx9 → Q (some (.int v)) hx9) : ∀ (h : jH), jJ jSgX Dy h → jSm fp_X8_isKnown_r57 h0 h → jX m_X8_isKnown 1 0 0 32 [] [.int 0] h 0 0 Q := by
  intro  h    J Sm
  refine x_zret rfl rfl (by decide) ?_
  exact hQ _ _ (jr_of jk_0 (by omega)) J Sm
set_option maxRecDepth 100000 in
set_option maxHeartbeats 4000000 in
theorem ct_X8_isKnown_r57_31 {Dy : jH → Prop} {h0 : jH} {Q : Option Value → jH → Prop} (hD : jDk Dy) (hQ : ∀ (v : Int32) hx9, 0 ≤ v.toInt ∧ v.toInt ≤ 1 → jJ jSgX Dy hx9 → jSm fp_X8_isKnown_r57 h0 hx9 → Q (some (.int v)) hx9) : ∀ (h : jH), jJ jSgX Dy h → jSm fp_X8_isKnown_r57 h0 h → jX m_X8_isKnown 1 0 0 31 [] [] h 0 0 Q := by
  intro  h    J Sm
  refine x_iconst (v := 0) rfl ki_0 ?_
  exact jX.sub jsb_n (ct_X8_isKnown_r57_200032 hD hQ  h J Sm)
set_option maxRecDepth 100000 in
set_option maxHeartbeats 4000000 in
theorem sf_X8_isKnown_r57 {Dy : jH → Prop} {h : jH} {Q : Option Value → jH → Prop} {a1 : Int32} {a2 : Int32} (y1 : 0 ≤ a1.toInt ∧ a1.toInt ≤ 99) (y2 : 0 ≤ a2.toInt ∧ a2.toInt ≤ 146399) (hD : jDk Dy) (J : jJ jSgX Dy h) (hQ : ∀ (v : Int32) hx9, 0 ≤ v.toInt ∧ v.toInt ≤ 1 → jJ jSgX Dy hx9 → jSm fp_X8_isKnown_r57 h hx9 → Q (some (.int v)) hx9) : jC m_X8_isKnown 1 0 0 [.ref 57, .int a1, .int a2] h Q := by
  refine jC.of rfl k_X8_isKnown rfl ?_
  have Sm := jSm_rf fp_X8_isKnown_r57 h
  show jX m_X8_isKnown 1 0 0 0 [(0, .ref 57), (1, .int a1), (2, .int a2)] [] _ 0 0 _
  refine x_iloadn (x := a1) rfl rfl ?_
  refine x_iflt (tgt := 31) rfl rfl (ti_lt rfl jk_0 (br_f (by omega) ?_))
  refine x_iloadn (x := a1) rfl rfl ?_
  refine x_aloadn (x := 57) rfl rfl ?_
  refine z_getI (N := 4) 8 3 rfl f_8_7 rfl J rfl sg_57_3_4_1_0_1 (fun v1 qv1 ev1 => ?_)
  refine x_icge (tgt := 31) rfl rfl (ti_ge rfl rfl ⟨fun c2 => ?_, fun c2 => ?_⟩)
  ·
    exact jX.sub jsb_n (ct_X8_isKnown_r57_31 hD hQ  h J Sm)
  ·
    refine x_aloadn (x := 57) rfl rfl ?_
    refine z_getR (N := 4) (b := 58) 8 2 rfl f_8_25 rfl J rfl 7298 ⟨rfl, rfl⟩ rfl ?_
    refine x_iloadn (x := a1) rfl rfl ?_
    refine x_aloadn (x := 57) rfl rfl ?_
    refine z_getC (N := 4) (v := 4) 8 0 rfl f_8_19 rfl J rfl sg_57_0_1_1_0_1 jk_4 ?_
    refine z_imul rfl rfl jk_4 (by omega) (fun v3 ev3 => ?_)
    refine z_iald (N := 400) rfl J rfl sg_58_0_400_4_0_1 rfl (by omega) (fun v4 qv4 ev4 => ?_)
    refine x_iloadn (x := a2) rfl rfl ?_
    refine x_icgt (tgt := 31) rfl rfl (ti_gt rfl rfl ⟨fun c5 => ?_, fun c5 => ?_⟩)
    ·
      exact jX.sub jsb_n (ct_X8_isKnown_r57_31 hD hQ  h J Sm)
    ·
      refine x_iconst (v := 1) rfl ki_1 ?_
      refine x_goto (tgt := 32) rfl rfl ?_
      exact jX.sub jsb_n (ct_X8_isKnown_r57_300032 hD hQ  h J Sm)
def fp_X11_balanceOf_r31 : jFp := []
set_option maxRecDepth 100000 in
set_option maxHeartbeats 4000000 in
theorem ct_X11_balanceOf_r31_130 {Dy : jH → Prop} {h0 : jH} {Q : Option Value → jH → Prop} {R54 : Int} (hD : jDk Dy) (hQ : ∀ (v : Int32) hx9, jJ jSgX Dy hx9 → jSm fp_X11_balanceOf_r31 h0 hx9 → Q (some (.int v)) hx9) (k54 : ∀ (l1 : Int32) (l2 : Int32) (l3 : Int32) (l4 : Int32) (l6 : Int32) (h : jH), 100 - l6.toInt < R54 → 0 ≤ l1.toInt ∧ l1.toInt ≤ 3 → 0 ≤ l2.toInt ∧ l2.toInt ≤ 399 → 0 ≤ l3.toInt ∧ l3.toInt ≤ 146399 → 0 ≤ l6.toInt ∧ l6.toInt ≤ 100 → jJ jSgX Dy h → jSm fp_X11_balanceOf_r31 h0 h → jX m_X11_balanceOf 4 0 0 54 [(0, .ref 31), (1, .int l1), (2, .int l2), (3, .int l3), (4, .int l4), (6, .int l6)] [] h 0 0 Q) : ∀ (l1 : Int32) (l2 : Int32) (l3 : Int32) (l4 : Int32) (l6 : Int32) (h : jH), 0 ≤ l1.toInt ∧ l1.toInt ≤ 3 → 0 ≤ l2.toInt ∧ l2.toInt ≤ 399 → 0 ≤ l3.toInt ∧ l3.toInt ≤ 146399 → 0 ≤ l6.toInt ∧ l6.toInt ≤ 99 → 100 - l6.toInt ≤ R54 → jJ jSgX Dy h → jSm fp_X11_balanceOf_r31 h0 h → jX m_X11_balanceOf 4 0 0 130 [(0, .ref 31), (1, .int l1), (2, .int l2), (3, .int l3), (4, .int l4), (6, .int l6)] [] h 0 0 Q := by
  intro l1 l2 l3 l4 l6 h y0 y1 y2 y3  m54 J Sm
  have el4 := jfull l4
  refine z_iinc (x := l6) (lsx9 := fun v1 => [(6, .int v1), (0, .ref 31), (1, .int l1), (2, .int l2), (3, .int l3), (4, .int l4)]) rfl rfl rfl jko_1 (by omega) rfl (fun _ => rfl) (fun v1 ev1 => ?_)
  refine x_goto (tgt := 54) rfl rfl ?_
  exact jX.sub (jsb_c rfl (jsb_c rfl (jsb_c rfl (jsb_c rfl (jsb_c rfl (jsb_c rfl jsb_n)))))) (k54 l1 l2 l3 l4 v1 h (by omega) (jr_of rfl (by omega)) (jr_of rfl (by omega)) (jr_of rfl (by omega)) (jr_of rfl (by omega)) J Sm)
set_option maxRecDepth 100000 in
set_option maxHeartbeats 4000000 in
theorem ct_X11_balanceOf_r31_54 {Dy : jH → Prop} {h0 : jH} {Q : Option Value → jH → Prop} (hD : jDk Dy) (hQ : ∀ (v : Int32) hx9, jJ jSgX Dy hx9 → jSm fp_X11_balanceOf_r31 h0 hx9 → Q (some (.int v)) hx9) : ∀ r : Nat, ∀ (l1 : Int32) (l2 : Int32) (l3 : Int32) (l4 : Int32) (l6 : Int32) (h : jH), 100 - l6.toInt < (r : Int) → 0 ≤ l1.toInt ∧ l1.toInt ≤ 3 → 0 ≤ l2.toInt ∧ l2.toInt ≤ 399 → 0 ≤ l3.toInt ∧ l3.toInt ≤ 146399 → 0 ≤ l6.toInt ∧ l6.toInt ≤ 100 → jJ jSgX Dy h → jSm fp_X11_balanceOf_r31 h0 h → jX m_X11_balanceOf 4 0 0 54 [(0, .ref 31), (1, .int l1), (2, .int l2), (3, .int l3), (4, .int l4), (6, .int l6)] [] h 0 0 Q := by
  intro r
  induction r with
  | zero =>
    intro l1 l2 l3 l4 l6 h hm y0 y1 y2 y3   J Sm
    exfalso
    have el4 := jfull l4
    omega
  | succ r ih =>
    intro l1 l2 l3 l4 l6 h hm y0 y1 y2 y3   J Sm
    have el4 := jfull l4
    refine x_iload (x := l6) rfl rfl ?_
    refine x_aloadn (x := 31) rfl rfl ?_
    refine z_getR (N := 13) (b := 32) 11 0 rfl f_11_10 rfl J rfl 3968 ⟨rfl, rfl⟩ rfl ?_
    refine z_getR (N := 20) (b := 57) 1 12 rfl f_11_473 rfl J rfl 4108 ⟨rfl, rfl⟩ rfl ?_
    refine z_getI (N := 4) 8 3 rfl f_11_142 rfl J rfl sg_57_3_4_1_0_1 (fun v1 qv1 ev1 => ?_)
    refine x_icge (tgt := 136) rfl rfl (ti_ge rfl rfl ⟨fun c2 => ?_, fun c2 => ?_⟩)
    ·
      refine x_iload (x := l4) rfl rfl ?_
      refine x_iret rfl rfl ?_
      exact hQ _ _ J Sm
    ·
      refine x_aloadn (x := 31) rfl rfl ?_
      refine z_getR (N := 13) (b := 32) 11 0 rfl f_11_10 rfl J rfl 3968 ⟨rfl, rfl⟩ rfl ?_
      refine z_getR (N := 20) (b := 57) 1 12 rfl f_11_473 rfl J rfl 4108 ⟨rfl, rfl⟩ rfl ?_
      refine x_iload (x := l6) rfl rfl ?_
      refine x_iconst (v := 2) rfl ki_2 ?_
      refine x_inv (N := m_X8_at) (As := [.int l6, .int 2]) (b := 57) (st := []) (dx9 := 1) (mc := 0) (ms := 0) (host := "") 8 rfl t_X8_at ⟨Or.inl q_11_171, i_X8_at.1, i_X8_at.2⟩ ⟨by decide, rfl⟩ (congrArg Prod.fst (J.1.1 57 (8, 4) rfl)) rfl (by decide) rfl rfl ⟨by decide, by decide⟩ (sf_X8_at_r57_c2 (jr_of rfl (by omega)) hD J  (fun v4 h ev4 J S3 => ?_))
      have Sm := jSm_tr rfl Sm S3
      show jX m_X11_balanceOf 4 0 0 82 [(0, .ref 31), (1, .int l1), (2, .int l2), (3, .int l3), (4, .int l4), (6, .int l6)] [.int v4] _ 0 0 _
      refine x_iloadn (x := l1) rfl rfl ?_
      refine x_icne (tgt := 130) rfl rfl (ti_ne rfl rfl ⟨fun c5 => ?_, fun c5 => ?_⟩)
      ·
        exact jX.sub (jsb_c rfl (jsb_c rfl (jsb_c rfl (jsb_c rfl (jsb_c rfl (jsb_c rfl jsb_n)))))) (ct_X11_balanceOf_r31_130 hD hQ ih l1 l2 l3 l4 l6 h (jr_of rfl (by omega)) (jr_of rfl (by omega)) (jr_of rfl (by omega)) (jr_of rfl (by omega)) (by omega) J Sm)
      ·
        refine x_aloadn (x := 31) rfl rfl ?_
        refine z_getR (N := 13) (b := 32) 11 0 rfl f_11_10 rfl J rfl 3968 ⟨rfl, rfl⟩ rfl ?_
        refine z_getR (N := 20) (b := 57) 1 12 rfl f_11_473 rfl J rfl 4108 ⟨rfl, rfl⟩ rfl ?_
        refine x_iload (x := l6) rfl rfl ?_
        refine x_iloadn (x := l3) rfl rfl ?_
        refine x_inv (N := m_X8_isKnown) (As := [.int l6, .int l3]) (b := 57) (st := []) (dx9 := 1) (mc := 0) (ms := 0) (host := "") 8 rfl t_X8_isKnown ⟨Or.inl q_11_440, i_X8_isKnown.1, i_X8_isKnown.2⟩ ⟨by decide, rfl⟩ (congrArg Prod.fst (J.1.1 57 (8, 4) rfl)) rfl (by decide) rfl rfl ⟨by decide, by decide⟩ (sf_X8_isKnown_r57 (jr_of rfl (by omega)) (jr_of rfl (by omega)) hD J  (fun v7 h ev7 J S6 => ?_))
        have Sm := jSm_tr rfl Sm S6
        show jX m_X11_balanceOf 4 0 0 99 [(0, .ref 31), (1, .int l1), (2, .int l2), (3, .int l3), (4, .int l4), (6, .int l6)] [.int v7] _ 0 0 _
        refine x_ifeq (tgt := 130) rfl rfl (ti_eq rfl jk_0 ⟨fun c8 => ?_, fun c8 => ?_⟩)
        ·
          exact jX.sub (jsb_c rfl (jsb_c rfl (jsb_c rfl (jsb_c rfl (jsb_c rfl (jsb_c rfl jsb_n)))))) (ct_X11_balanceOf_r31_130 hD hQ ih l1 l2 l3 l4 l6 h (jr_of rfl (by omega)) (jr_of rfl (by omega)) (jr_of rfl (by omega)) (jr_of rfl (by omega)) (by omega) J Sm)
        ·
          refine x_aloadn (x := 31) rfl rfl ?_
          refine x_iload (x := l6) rfl rfl ?_
          refine x_inv (N := m_X11_ownYear) (As := [.int l6]) (b := 31) (st := []) (dx9 := 3) (mc := 0) (ms := 0) (host := "") 11 rfl t_X11_ownYear ⟨Or.inl q_11_570, i_X11_ownYear.1, i_X11_ownYear.2⟩ ⟨by decide, rfl⟩ (congrArg Prod.fst (J.1.1 31 (11, 13) rfl)) rfl (by decide) rfl rfl ⟨by decide, by decide⟩ (sf_X11_ownYear_r31 (jr_of rfl (by omega)) hD J  (fun v10 h J S9 => ?_))
          have ev10 := jfull v10
          have Sm := jSm_tr rfl Sm S9
          show jX m_X11_balanceOf 4 0 0 108 [(0, .ref 31), (1, .int l1), (2, .int l2), (3, .int l3), (4, .int l4), (6, .int l6)] [.int v10] _ 0 0 _
          refine x_iloadn (x := l2) rfl rfl ?_
          refine x_icne (tgt := 130) rfl rfl (ti_ne rfl rfl ⟨fun c11 => ?_, fun c11 => ?_⟩)
          ·
            exact jX.sub (jsb_c rfl (jsb_c rfl (jsb_c rfl (jsb_c rfl (jsb_c rfl (jsb_c rfl jsb_n)))))) (ct_X11_balanceOf_r31_130 hD hQ ih l1 l2 l3 l4 l6 h (jr_of rfl (by omega)) (jr_of rfl (by omega)) (jr_of rfl (by omega)) (jr_of rfl (by omega)) (by omega) J Sm)
          ·
            refine x_iload (x := l4) rfl rfl ?_
            refine x_aloadn (x := 31) rfl rfl ?_
            refine z_getR (N := 13) (b := 32) 11 0 rfl f_11_10 rfl J rfl 3968 ⟨rfl, rfl⟩ rfl ?_
            refine z_getR (N := 20) (b := 57) 1 12 rfl f_11_473 rfl J rfl 4108 ⟨rfl, rfl⟩ rfl ?_
            refine x_iload (x := l6) rfl rfl ?_
            refine x_iconst (v := 3) rfl ki_3 ?_
            refine x_inv (N := m_X8_at) (As := [.int l6, .int 3]) (b := 57) (st := [.int l4]) (dx9 := 1) (mc := 0) (ms := 0) (host := "") 8 rfl t_X8_at ⟨Or.inl q_11_171, i_X8_at.1, i_X8_at.2⟩ ⟨by decide, rfl⟩ (congrArg Prod.fst (J.1.1 57 (8, 4) rfl)) rfl (by decide) rfl rfl ⟨by decide, by decide⟩ (sf_X8_at_r57_c3 (jr_of rfl (by omega)) hD J  (fun v13 h ev13 J S12 => ?_))
            have Sm := jSm_tr rfl Sm S12
            show jX m_X11_balanceOf 4 0 0 127 [(0, .ref 31), (1, .int l1), (2, .int l2), (3, .int l3), (4, .int l4), (6, .int l6)] [.int v13, .int l4] _ 0 0 _
            refine z_iadd0 rfl (fun v14 => ?_)
            have ev14 := jfull v14
            refine x_istore (lsx9 := [(4, .int v14), (0, .ref 31), (1, .int l1), (2, .int l2), (3, .int l3), (6, .int l6)]) rfl rfl rfl ?_
            exact jX.sub (jsb_c rfl (jsb_c rfl (jsb_c rfl (jsb_c rfl (jsb_c rfl (jsb_c rfl jsb_n)))))) (ct_X11_balanceOf_r31_130 hD hQ ih l1 l2 l3 v14 l6 h (jr_of rfl (by omega)) (jr_of rfl (by omega)) (jr_of rfl (by omega)) (jr_of rfl (by omega)) (by omega) J Sm)
set_option maxRecDepth 100000 in
set_option maxHeartbeats 4000000 in
theorem ct_X11_balanceOf_r31_51 {Dy : jH → Prop} {h0 : jH} {Q : Option Value → jH → Prop} (hD : jDk Dy) (hQ : ∀ (v : Int32) hx9, jJ jSgX Dy hx9 → jSm fp_X11_balanceOf_r31 h0 hx9 → Q (some (.int v)) hx9) : ∀ (l1 : Int32) (l2 : Int32) (l3 : Int32) (l4 : Int32) (h : jH), 0 ≤ l1.toInt ∧ l1.toInt ≤ 3 → 0 ≤ l2.toInt ∧ l2.toInt ≤ 399 → 0 ≤ l3.toInt ∧ l3.toInt ≤ 146399 → jJ jSgX Dy h → jSm fp_X11_balanceOf_r31 h0 h → jX m_X11_balanceOf 4 0 0 51 [(0, .ref 31), (1, .int l1), (2, .int l2), (3, .int l3), (4, .int l4)] [] h 0 0 Q := by
  intro l1 l2 l3 l4 h y0 y1 y2   J Sm
  have el4 := jfull l4
  refine x_iconst (v := 0) rfl ki_0 ?_
  refine x_istore (lsx9 := [(6, .int 0), (0, .ref 31), (1, .int l1), (2, .int l2), (3, .int l3), (4, .int l4)]) rfl rfl rfl ?_
  exact jX.sub (jsb_c rfl (jsb_c rfl (jsb_c rfl (jsb_c rfl (jsb_c rfl (jsb_c rfl jsb_n)))))) (ct_X11_balanceOf_r31_54 hD hQ  101 l1 l2 l3 l4 0 h (by have := jk_0; omega) (jr_of rfl (by omega)) (jr_of rfl (by omega)) (jr_of rfl (by omega)) (jr_of jk_0 (by omega)) J Sm)
set_option maxRecDepth 100000 in
set_option maxHeartbeats 4000000 in
theorem sf_X11_balanceOf_r31 {Dy : jH → Prop} {h : jH} {Q : Option Value → jH → Prop} {a1 : Int32} {a2 : Int32} {a3 : Int32} (y1 : 0 ≤ a1.toInt ∧ a1.toInt ≤ 3) (y2 : 0 ≤ a2.toInt ∧ a2.toInt ≤ 399) (y3 : 0 ≤ a3.toInt ∧ a3.toInt ≤ 146399) (hD : jDk Dy) (J : jJ jSgX Dy h) (hQ : ∀ (v : Int32) hx9, jJ jSgX Dy hx9 → jSm fp_X11_balanceOf_r31 h hx9 → Q (some (.int v)) hx9) : jC m_X11_balanceOf 4 0 0 [.ref 31, .int a1, .int a2, .int a3] h Q := by
  refine jC.of rfl k_X11_balanceOf rfl ?_
  have Sm := jSm_rf fp_X11_balanceOf_r31 h
  show jX m_X11_balanceOf 4 0 0 0 [(0, .ref 31), (1, .int a1), (2, .int a2), (3, .int a3)] [] _ 0 0 _
  refine x_iconst (v := 0) rfl ki_0 ?_
  refine x_istore (lsx9 := [(4, .int 0), (0, .ref 31), (1, .int a1), (2, .int a2), (3, .int a3)]) rfl rfl rfl ?_
  refine x_aloadn (x := 31) rfl rfl ?_
  refine x_iloadn (x := a1) rfl rfl ?_
  refine x_iloadn (x := a2) rfl rfl ?_
  refine x_iconst (v := 1) rfl ki_1 ?_
  refine z_isub rfl rfl jk_1 (by omega) (fun v1 ev1 => ?_)
  refine x_inv (N := m_X11_closing) (As := [.int a1, .int v1]) (b := 31) (st := []) (dx9 := 2) (mc := 0) (ms := 0) (host := "") 11 rfl t_X11_closing ⟨Or.inl q_11_567, i_X11_closing.1, i_X11_closing.2⟩ ⟨by decide, rfl⟩ (congrArg Prod.fst (J.1.1 31 (11, 13) rfl)) rfl (by decide) rfl rfl ⟨by decide, by decide⟩ (sf_X11_closing_r31 (jr_of rfl (by omega)) hD J  (fun v3 h ev3 J S2 => ?_))
  have Sm := jSm_tr rfl Sm S2
  show jX m_X11_balanceOf 4 0 0 11 [(4, .int 0), (0, .ref 31), (1, .int a1), (2, .int a2), (3, .int a3)] [.int v3] _ 0 0 _
  refine x_istore (lsx9 := [(5, .int v3), (4, .int 0), (0, .ref 31), (1, .int a1), (2, .int a2), (3, .int a3)]) rfl rfl rfl ?_
  refine x_iload (x := v3) rfl rfl ?_
  refine x_iconst (v := (-1)) rfl ki_m1 ?_
  refine x_iceq (tgt := 51) rfl rfl (ti_eq rfl jk_m1 ⟨fun c4 => ?_, fun c4 => ?_⟩)
  ·
    exact jX.sub (jsb_c rfl (jsb_c rfl (jsb_c rfl (jsb_c rfl (jsb_c rfl jsb_n))))) (ct_X11_balanceOf_r31_51 hD hQ  a1 a2 a3 0 h (jr_of rfl (by omega)) (jr_of rfl (by omega)) (jr_of rfl (by omega)) J Sm)
  ·
    refine x_aloadn (x := 31) rfl rfl ?_
    refine z_getR (N := 13) (b := 32) 11 0 rfl f_11_10 rfl J rfl 3968 ⟨rfl, rfl⟩ rfl ?_
    refine z_getR (N := 20) (b := 59) 1 13 rfl f_11_482 rfl J rfl 4109 ⟨rfl, rfl⟩ rfl ?_
    refine x_iload (x := v3) rfl rfl ?_
    refine x_iconst (v := 0) rfl ki_0 ?_
    refine x_inv (N := m_X8_at) (As := [.int v3, .int 0]) (b := 59) (st := []) (dx9 := 1) (mc := 0) (ms := 0) (host := "") 8 rfl t_X8_at ⟨Or.inl q_11_171, i_X8_at.1, i_X8_at.2⟩ ⟨by decide, rfl⟩ (congrArg Prod.fst (J.1.1 59 (8, 4) rfl)) rfl (by decide) rfl rfl ⟨by decide, by decide⟩ (sf_X8_at_r59_c0 (jr_of rfl (by omega)) hD J  (fun v6 h ev6 J S5 => ?_))
    have Sm := jSm_tr rfl Sm S5
    show jX m_X11_balanceOf 4 0 0 32 [(5, .int v3), (4, .int 0), (0, .ref 31), (1, .int a1), (2, .int a2), (3, .int a3)] [.int v6] _ 0 0 _
    refine x_iloadn (x := a3) rfl rfl ?_
    refine x_icgt (tgt := 51) rfl rfl (ti_gt rfl rfl ⟨fun c7 => ?_, fun c7 => ?_⟩)
    ·
      exact jX.sub (jsb_c rfl (jsb_c rfl (jsb_c rfl (jsb_c rfl (jsb_c rfl jsb_n))))) (ct_X11_balanceOf_r31_51 hD hQ  a1 a2 a3 0 h (jr_of rfl (by omega)) (jr_of rfl (by omega)) (jr_of rfl (by omega)) J Sm)
    ·
      refine x_aloadn (x := 31) rfl rfl ?_
      refine z_getR (N := 13) (b := 32) 11 0 rfl f_11_10 rfl J rfl 3968 ⟨rfl, rfl⟩ rfl ?_
      refine z_getR (N := 20) (b := 59) 1 13 rfl f_11_482 rfl J rfl 4109 ⟨rfl, rfl⟩ rfl ?_
      refine x_iload (x := v3) rfl rfl ?_
      refine x_iconst (v := 3) rfl ki_3 ?_
      refine x_inv (N := m_X8_at) (As := [.int v3, .int 3]) (b := 59) (st := []) (dx9 := 1) (mc := 0) (ms := 0) (host := "") 8 rfl t_X8_at ⟨Or.inl q_11_171, i_X8_at.1, i_X8_at.2⟩ ⟨by decide, rfl⟩ (congrArg Prod.fst (J.1.1 59 (8, 4) rfl)) rfl (by decide) rfl rfl ⟨by decide, by decide⟩ (sf_X8_at_r59_c3 (jr_of rfl (by omega)) hD J  (fun v9 h J S8 => ?_))
      have ev9 := jfull v9
      have Sm := jSm_tr rfl Sm S8
      show jX m_X11_balanceOf 4 0 0 49 [(5, .int v3), (4, .int 0), (0, .ref 31), (1, .int a1), (2, .int a2), (3, .int a3)] [.int v9] _ 0 0 _
      refine x_istore (lsx9 := [(4, .int v9), (5, .int v3), (0, .ref 31), (1, .int a1), (2, .int a2), (3, .int a3)]) rfl rfl rfl ?_
      exact jX.sub (jsb_c rfl (jsb_c rfl (jsb_c rfl (jsb_c rfl (jsb_c rfl jsb_n))))) (ct_X11_balanceOf_r31_51 hD hQ  a1 a2 a3 v9 h (jr_of rfl (by omega)) (jr_of rfl (by omega)) (jr_of rfl (by omega)) J Sm)
def fp_X11_balance_r31 : jFp := []
set_option maxRecDepth 100000 in
set_option maxHeartbeats 4000000 in
theorem ct_X11_balance_r31_21 {Dy : jH → Prop} {h0 : jH} {Q : Option Value → jH → Prop} (hD : jDk Dy) (hQ : ∀ (v : Int32) hx9, jJ jSgX Dy hx9 → jSm fp_X11_balance_r31 h0 hx9 → Q (some (.int v)) hx9) : ∀ (h : jH), jJ jSgX Dy h → jSm fp_X11_balance_r31 h0 h → jX m_X11_balance 5 0 0 21 [] [] h 0 0 Q := by
  intro  h    J Sm
  refine x_ldcw (v := (-2000000000)) rfl z_11_455 ?_
  refine x_iret rfl rfl ?_
  exact hQ _ _ J Sm
set_option maxRecDepth 100000 in
set_option maxHeartbeats 4000000 in
theorem sf_X11_balance_r31 {Dy : jH → Prop} {h : jH} {Q : Option Value → jH → Prop} {a1 : Int32} {a2 : Int32} {a3 : Int32} (hD : jDk Dy) (J : jJ jSgX Dy h) (hQ : ∀ (v : Int32) hx9, jJ jSgX Dy hx9 → jSm fp_X11_balance_r31 h hx9 → Q (some (.int v)) hx9) : jC m_X11_balance 5 0 0 [.ref 31, .int a1, .int a2, .int a3] h Q := by
  refine jC.of rfl k_X11_balance rfl ?_
  have Sm := jSm_rf fp_X11_balance_r31 h
  have ea1 := jfull a1
  have ea2 := jfull a2
  have ea3 := jfull a3
  show jX m_X11_balance 5 0 0 0 [(0, .ref 31), (1, .int a1), (2, .int a2), (3, .int a3)] [] _ 0 0 _
  refine x_iloadn (x := a1) rfl rfl ?_
  refine x_inst (N := m_X11_isOffice) (As := [.int a1]) (st := []) (dx9 := 1) (mc := 0) (ms := 0) (host := "") rfl t_X11_isOffice ⟨Or.inl q_11_456, s_X11_isOffice⟩ rfl (by decide) rfl rfl ⟨by decide, by decide⟩ (zc_X11_isOffice rfl (fun v1 ev1 => ?_))
  show jX m_X11_balance 5 0 0 4 [(0, .ref 31), (1, .int a1), (2, .int a2), (3, .int a3)] [.int v1] _ 0 0 _
  refine x_ifeq (tgt := 21) rfl rfl (ti_eq rfl jk_0 ⟨fun c2 => ?_, fun c2 => ?_⟩)
  ·
    exact jX.sub jsb_n (ct_X11_balance_r31_21 hD hQ  h J Sm)
  ·
    refine x_iloadn (x := a2) rfl rfl ?_
    refine x_inst (N := m_X11_isYear) (As := [.int a2]) (st := []) (dx9 := 1) (mc := 0) (ms := 0) (host := "") rfl t_X11_isYear ⟨Or.inl q_11_433, s_X11_isYear⟩ rfl (by decide) rfl rfl ⟨by decide, by decide⟩ (zc_X11_isYear rfl (fun v3 ev3 => ?_))
    show jX m_X11_balance 5 0 0 11 [(0, .ref 31), (1, .int a1), (2, .int a2), (3, .int a3)] [.int v3] _ 0 0 _
    refine x_ifeq (tgt := 21) rfl rfl (ti_eq rfl jk_0 ⟨fun c4 => ?_, fun c4 => ?_⟩)
    ·
      exact jX.sub jsb_n (ct_X11_balance_r31_21 hD hQ  h J Sm)
    ·
      refine x_iloadn (x := a3) rfl rfl ?_
      refine x_inst (N := m_X11_isDay) (As := [.int a3]) (st := []) (dx9 := 1) (mc := 0) (ms := 0) (host := "") rfl t_X11_isDay ⟨Or.inl q_11_115, s_X11_isDay⟩ rfl (by decide) rfl rfl ⟨by decide, by decide⟩ (zc_X11_isDay rfl (fun v5 ev5 => ?_))
      show jX m_X11_balance 5 0 0 18 [(0, .ref 31), (1, .int a1), (2, .int a2), (3, .int a3)] [.int v5] _ 0 0 _
      refine x_ifne (tgt := 25) rfl rfl (ti_ne rfl jk_0 ⟨fun c6 => ?_, fun c6 => ?_⟩)
      ·
        refine x_aloadn (x := 31) rfl rfl ?_
        refine x_iloadn (x := a1) rfl rfl ?_
        refine x_iloadn (x := a2) rfl rfl ?_
        refine x_iloadn (x := a3) rfl rfl ?_
        refine x_inv (N := m_X11_balanceOf) (As := [.int a1, .int a2, .int a3]) (b := 31) (st := []) (dx9 := 4) (mc := 0) (ms := 0) (host := "") 11 rfl t_X11_balanceOf ⟨Or.inl q_11_479, i_X11_balanceOf.1, i_X11_balanceOf.2⟩ ⟨by decide, rfl⟩ (congrArg Prod.fst (J.1.1 31 (11, 13) rfl)) rfl (by decide) rfl rfl ⟨by decide, by decide⟩ (sf_X11_balanceOf_r31 (jr_of rfl (by omega)) (jr_of rfl (by omega)) (jr_of rfl (by omega)) hD J  (fun v8 h J S7 => ?_))
        have ev8 := jfull v8
        have Sm := jSm_tr rfl Sm S7
        show jX m_X11_balance 5 0 0 32 [(0, .ref 31), (1, .int a1), (2, .int a2), (3, .int a3)] [.int v8] _ 0 0 _
        refine x_iret rfl rfl ?_
        exact hQ _ _ J Sm
      ·
        exact jX.sub jsb_n (ct_X11_balance_r31_21 hD hQ  h J Sm)
def fp_X6_byBirth_r120 : jFp := []
set_option maxRecDepth 100000 in
set_option maxHeartbeats 4000000 in
theorem ct_X6_byBirth_r120_100080 {Dy : jH → Prop} {h0 : jH} {Q : Option Value → jH → Prop} (hD : jDk Dy) (hQ : ∀ (v : Int32) hx9, (-1) ≤ v.toInt ∧ v.toInt ≤ 11 → jJ jSgX Dy hx9 → jSm fp_X6_byBirth_r120 h0 hx9 → Q (some (.int v)) hx9) : ∀ (h : jH), jJ jSgX Dy h → jSm fp_X6_byBirth_r120 h0 h → jX m_X6_byBirth 3 0 0 80 [] [.int (-1)] h 0 0 Q := by
  intro  h    J Sm
  refine x_iret rfl rfl ?_
  exact hQ _ _ (jr_of jk_m1 (by omega)) J Sm
set_option maxRecDepth 100000 in
set_option maxHeartbeats 4000000 in
theorem ct_X6_byBirth_r120_200080 {Dy : jH → Prop} {h0 : jH} {Q : Option Value → jH → Prop} (hD : jDk Dy) (hQ : ∀ (v : Int32) hx9, (-1) ≤ v.toInt ∧ v.toInt ≤ 11 → jJ jSgX Dy hx9 → jSm fp_X6_byBirth_r120 h0 hx9 → Q (some (.int v)) hx9) : ∀ (h : jH), jJ jSgX Dy h → jSm fp_X6_byBirth_r120 h0 h → jX m_X6_byBirth 3 0 0 80 [] [.int 0] h 0 0 Q := by
  intro  h    J Sm
  refine x_iret rfl rfl ?_
  exact hQ _ _ (jr_of jk_0 (by omega)) J Sm
set_option maxRecDepth 100000 in
set_option maxHeartbeats 4000000 in
theorem ct_X6_byBirth_r120_56 {Dy : jH → Prop} {h0 : jH} {Q : Option Value → jH → Prop} {R13 : Int} (hD : jDk Dy) (hQ : ∀ (v : Int32) hx9, (-1) ≤ v.toInt ∧ v.toInt ≤ 11 → jJ jSgX Dy hx9 → jSm fp_X6_byBirth_r120 h0 hx9 → Q (some (.int v)) hx9) (k13 : ∀ (l1 : Int32) (l2 : Int32) (l3 : Int32) (h : jH), l3.toInt - (-1) < R13 → 0 ≤ l1.toInt ∧ l1.toInt ≤ 599 → 0 ≤ l2.toInt ∧ l2.toInt ≤ 146399 → (-1) ≤ l3.toInt ∧ l3.toInt ≤ 99 → jJ jSgX Dy h → jSm fp_X6_byBirth_r120 h0 h → jX m_X6_byBirth 3 0 0 13 [(0, .ref 120), (1, .int l1), (2, .int l2), (3, .int l3)] [] h 0 0 Q) : ∀ (l1 : Int32) (l2 : Int32) (l3 : Int32) (h : jH), 0 ≤ l1.toInt ∧ l1.toInt ≤ 599 → 0 ≤ l2.toInt ∧ l2.toInt ≤ 146399 → 0 ≤ l3.toInt ∧ l3.toInt ≤ 99 → l3.toInt - (-1) ≤ R13 → jJ jSgX Dy h → jSm fp_X6_byBirth_r120 h0 h → jX m_X6_byBirth 3 0 0 56 [(0, .ref 120), (1, .int l1), (2, .int l2), (3, .int l3)] [] h 0 0 Q := by
  intro l1 l2 l3 h y0 y1 y2  m13 J Sm
  refine z_iinc (x := l3) (lsx9 := fun v1 => [(3, .int v1), (0, .ref 120), (1, .int l1), (2, .int l2)]) rfl rfl rfl jko_m1 (by omega) rfl (fun _ => rfl) (fun v1 ev1 => ?_)
  refine x_goto (tgt := 13) rfl rfl ?_
  exact jX.sub (jsb_c rfl (jsb_c rfl (jsb_c rfl (jsb_c rfl jsb_n)))) (k13 l1 l2 v1 h (by omega) (jr_of rfl (by omega)) (jr_of rfl (by omega)) (jr_of rfl (by omega)) J Sm)
set_option maxRecDepth 100000 in
set_option maxHeartbeats 4000000 in
theorem ct_X6_byBirth_r120_13 {Dy : jH → Prop} {h0 : jH} {Q : Option Value → jH → Prop} (hD : jDk Dy) (hQ : ∀ (v : Int32) hx9, (-1) ≤ v.toInt ∧ v.toInt ≤ 11 → jJ jSgX Dy hx9 → jSm fp_X6_byBirth_r120 h0 hx9 → Q (some (.int v)) hx9) : ∀ r : Nat, ∀ (l1 : Int32) (l2 : Int32) (l3 : Int32) (h : jH), l3.toInt - (-1) < (r : Int) → 0 ≤ l1.toInt ∧ l1.toInt ≤ 599 → 0 ≤ l2.toInt ∧ l2.toInt ≤ 146399 → (-1) ≤ l3.toInt ∧ l3.toInt ≤ 99 → jJ jSgX Dy h → jSm fp_X6_byBirth_r120 h0 h → jX m_X6_byBirth 3 0 0 13 [(0, .ref 120), (1, .int l1), (2, .int l2), (3, .int l3)] [] h 0 0 Q := by
  intro r
  induction r with
  | zero =>
    intro l1 l2 l3 h hm y0 y1 y2   J Sm
    exfalso
    omega
  | succ r ih =>
    intro l1 l2 l3 h hm y0 y1 y2   J Sm
    refine x_iloadn (x := l3) rfl rfl ?_
    refine x_iflt (tgt := 62) rfl rfl (ti_lt rfl jk_0 ⟨fun c1 => ?_, fun c1 => ?_⟩)
    ·
      refine x_aloadn (x := 120) rfl rfl ?_
      refine z_getR (N := 8) (b := 78) 6 1 rfl f_6_32 rfl J rfl 15361 ⟨rfl, rfl⟩ rfl ?_
      refine x_iloadn (x := l1) rfl rfl ?_
      refine x_iconst (v := 0) rfl ki_0 ?_
      refine x_iloadn (x := l2) rfl rfl ?_
      refine x_inv (N := m_X7_hasBy) (As := [.int l1, .int 0, .int l2]) (b := 78) (st := []) (dx9 := 1) (mc := 0) (ms := 0) (host := "") 7 rfl t_X7_hasBy ⟨Or.inl q_6_102, i_X7_hasBy.1, i_X7_hasBy.2⟩ ⟨by decide, rfl⟩ (congrArg Prod.fst (J.1.1 78 (7, 16) rfl)) rfl (by decide) rfl rfl ⟨by decide, by decide⟩ (sf_X7_hasBy_r78 (jr_of rfl (by omega)) (jr_of jk_0 (by omega)) (jr_of rfl (by omega)) hD J  (fun v3 h ev3 J S2 => ?_))
      have Sm := jSm_tr rfl Sm S2
      show jX m_X6_byBirth 3 0 0 72 [(0, .ref 120), (1, .int l1), (2, .int l2), (3, .int l3)] [.int v3] _ 0 0 _
      refine x_ifeq (tgt := 79) rfl rfl (ti_eq rfl jk_0 ⟨fun c4 => ?_, fun c4 => ?_⟩)
      ·
        refine x_iconst (v := (-1)) rfl ki_m1 ?_
        exact jX.sub jsb_n (ct_X6_byBirth_r120_100080 hD hQ  h J Sm)
      ·
        refine x_iconst (v := 0) rfl ki_0 ?_
        refine x_goto (tgt := 80) rfl rfl ?_
        exact jX.sub jsb_n (ct_X6_byBirth_r120_200080 hD hQ  h J Sm)
    ·
      refine x_aloadn (x := 120) rfl rfl ?_
      refine x_iloadn (x := l3) rfl rfl ?_
      refine x_iloadn (x := l1) rfl rfl ?_
      refine x_iconst (v := 0) rfl ki_0 ?_
      refine x_inv (N := m_X6_isFactOf) (As := [.int l3, .int l1, .int 0]) (b := 120) (st := []) (dx9 := 2) (mc := 0) (ms := 0) (host := "") 6 rfl t_X6_isFactOf ⟨Or.inl q_6_96, i_X6_isFactOf.1, i_X6_isFactOf.2⟩ ⟨by decide, rfl⟩ (congrArg Prod.fst (J.1.1 120 (6, 8) rfl)) rfl (by decide) rfl rfl ⟨by decide, by decide⟩ (jC.of rfl k_X6_isFactOf rfl ?_)
      show jX m_X6_isFactOf 2 0 0 0 [(0, .ref 120), (1, .int l3), (2, .int l1), (3, .int 0)] [] _ 0 0 _
      refine x_aloadn (x := 120) rfl rfl ?_
      refine z_getR (N := 8) (b := 32) 6 0 rfl f_6_28 rfl J rfl 15360 ⟨rfl, rfl⟩ rfl ?_
      refine z_getR (N := 20) (b := 43) 1 5 rfl f_6_87 rfl J rfl 4101 ⟨rfl, rfl⟩ rfl ?_
      refine x_iloadn (x := l3) rfl rfl ?_
      refine x_iconst (v := 4) rfl ki_4 ?_
      refine x_inv (N := m_X8_at) (As := [.int l3, .int 4]) (b := 43) (st := []) (dx9 := 1) (mc := 0) (ms := 0) (host := "") 8 rfl t_X8_at ⟨Or.inl q_6_99, i_X8_at.1, i_X8_at.2⟩ ⟨by decide, rfl⟩ (congrArg Prod.fst (J.1.1 43 (8, 4) rfl)) rfl (by decide) rfl rfl ⟨by decide, by decide⟩ (sf_X8_at_r43_c4 (jr_of rfl (by omega)) hD J  (fun v6 h ev6 J S5 => ?_))
      have Sm := jSm_tr rfl Sm S5
      show jX m_X6_isFactOf 2 0 0 12 [(0, .ref 120), (1, .int l3), (2, .int l1), (3, .int 0)] [.int v6] _ 0 0 _
      refine x_iloadn (x := 0) rfl rfl ?_
      refine x_icne (tgt := 61) rfl rfl (ti_ne rfl jk_0 ⟨fun c7 => ?_, fun c7 => ?_⟩)
      ·
        refine x_iconst (v := 0) rfl ki_0 ?_
        refine x_zret rfl rfl (by decide) ?_
        show jX m_X6_byBirth 3 0 0 24 [(0, .ref 120), (1, .int l1), (2, .int l2), (3, .int l3)] [.int 0] _ 0 0 _
        refine x_ifeq (tgt := 56) rfl rfl (ti_eq jk_0 jk_0 (br_t (by omega) ?_))
        exact jX.sub (jsb_c rfl (jsb_c rfl (jsb_c rfl (jsb_c rfl jsb_n)))) (ct_X6_byBirth_r120_56 hD hQ ih l1 l2 l3 h (jr_of rfl (by omega)) (jr_of rfl (by omega)) (jr_of rfl (by omega)) (by omega) J Sm)
      ·
        refine x_aloadn (x := 120) rfl rfl ?_
        refine z_getR (N := 8) (b := 32) 6 0 rfl f_6_28 rfl J rfl 15360 ⟨rfl, rfl⟩ rfl ?_
        refine z_getR (N := 20) (b := 43) 1 5 rfl f_6_87 rfl J rfl 4101 ⟨rfl, rfl⟩ rfl ?_
        refine x_iloadn (x := l3) rfl rfl ?_
        refine x_aloadn (x := 120) rfl rfl ?_
        refine z_getI (N := 8) 6 5 rfl f_6_18 rfl J rfl sg_120_5_6_1_0_1 (fun v8 qv8 ev8 => ?_)
        refine x_inv (N := m_X8_isKnown) (As := [.int l3, .int v8]) (b := 43) (st := []) (dx9 := 1) (mc := 0) (ms := 0) (host := "") 8 rfl t_X8_isKnown ⟨Or.inl q_6_107, i_X8_isKnown.1, i_X8_isKnown.2⟩ ⟨by decide, rfl⟩ (congrArg Prod.fst (J.1.1 43 (8, 4) rfl)) rfl (by decide) rfl rfl ⟨by decide, by decide⟩ (sf_X8_isKnown_r43 (jr_of rfl (by omega)) (jr_of rfl (by omega)) hD J  (fun v10 h ev10 J S9 => ?_))
        have Sm := jSm_tr rfl Sm S9
        show jX m_X6_isFactOf 2 0 0 31 [(0, .ref 120), (1, .int l3), (2, .int l1), (3, .int 0)] [.int v10] _ 0 0 _
        refine x_ifeq (tgt := 61) rfl rfl (ti_eq rfl jk_0 ⟨fun c11 => ?_, fun c11 => ?_⟩)
        ·
          refine x_iconst (v := 0) rfl ki_0 ?_
          refine x_zret rfl rfl (by decide) ?_
          show jX m_X6_byBirth 3 0 0 24 [(0, .ref 120), (1, .int l1), (2, .int l2), (3, .int l3)] [.int 0] _ 0 0 _
          refine x_ifeq (tgt := 56) rfl rfl (ti_eq jk_0 jk_0 (br_t (by omega) ?_))
          exact jX.sub (jsb_c rfl (jsb_c rfl (jsb_c rfl (jsb_c rfl jsb_n)))) (ct_X6_byBirth_r120_56 hD hQ ih l1 l2 l3 h (jr_of rfl (by omega)) (jr_of rfl (by omega)) (jr_of rfl (by omega)) (by omega) J Sm)
        ·
          refine x_aloadn (x := 120) rfl rfl ?_
          refine z_getR (N := 8) (b := 78) 6 1 rfl f_6_32 rfl J rfl 15361 ⟨rfl, rfl⟩ rfl ?_
          refine x_aloadn (x := 120) rfl rfl ?_
          refine z_getR (N := 8) (b := 32) 6 0 rfl f_6_28 rfl J rfl 15360 ⟨rfl, rfl⟩ rfl ?_
          refine z_getR (N := 20) (b := 43) 1 5 rfl f_6_87 rfl J rfl 4101 ⟨rfl, rfl⟩ rfl ?_
          refine x_iloadn (x := l3) rfl rfl ?_
          refine x_iconst (v := 3) rfl ki_3 ?_
          refine x_inv (N := m_X8_at) (As := [.int l3, .int 3]) (b := 43) (st := [.ref 78]) (dx9 := 1) (mc := 0) (ms := 0) (host := "") 8 rfl t_X8_at ⟨Or.inl q_6_99, i_X8_at.1, i_X8_at.2⟩ ⟨by decide, rfl⟩ (congrArg Prod.fst (J.1.1 43 (8, 4) rfl)) rfl (by decide) rfl rfl ⟨by decide, by decide⟩ (sf_X8_at_r43_c3 (jr_of rfl (by omega)) hD J  (fun v13 h ev13 J S12 => ?_))
          have Sm := jSm_tr rfl Sm S12
          show jX m_X6_isFactOf 2 0 0 50 [(0, .ref 120), (1, .int l3), (2, .int l1), (3, .int 0)] [.int v13, .ref 78] _ 0 0 _
          refine x_inv (N := m_X7_soulAt) (As := [.int v13]) (b := 78) (st := []) (dx9 := 1) (mc := 0) (ms := 0) (host := "") 7 rfl t_X7_soulAt ⟨Or.inl q_6_111, i_X7_soulAt.1, i_X7_soulAt.2⟩ ⟨by decide, rfl⟩ (congrArg Prod.fst (J.1.1 78 (7, 16) rfl)) rfl (by decide) rfl rfl ⟨by decide, by decide⟩ (jC.of rfl k_X7_soulAt rfl ?_)
          show jX m_X7_soulAt 1 0 0 0 [(0, .ref 78), (1, .int v13)] [] _ 0 0 _
          refine x_iloadn (x := v13) rfl rfl ?_
          refine x_iflt (tgt := 36) rfl rfl (ti_lt rfl jk_0 (br_f (by omega) ?_))
          refine x_iloadn (x := v13) rfl rfl ?_
          refine x_sipush (v := 600) rfl ks_600 ?_
          refine x_icge (tgt := 36) rfl rfl (ti_ge rfl jk_600 (br_f (by omega) ?_))
          refine x_iloadn (x := v13) rfl rfl ?_
          refine x_iconst (v := 3) rfl ki_3 ?_
          refine z_idiv rfl rfl jk_3 (by omega) (by omega) (fun v14 ev14 => ?_)
          refine x_aloadn (x := 78) rfl rfl ?_
          refine z_getR (N := 16) (b := 32) 7 0 rfl f_7_55 rfl J rfl 9984 ⟨rfl, rfl⟩ rfl ?_
          refine z_getR (N := 20) (b := 33) 1 0 rfl f_7_63 rfl J rfl 4096 ⟨rfl, rfl⟩ rfl ?_
          refine z_getI (N := 4) 8 3 rfl f_7_85 rfl J rfl sg_33_3_4_1_0_1 (fun v15 qv15 ev15 => ?_)
          refine x_icge (tgt := 36) rfl rfl (ti_ge rfl rfl ⟨fun c16 => ?_, fun c16 => ?_⟩)
          ·
            refine x_iconst (v := (-1)) rfl ki_m1 ?_
            refine x_iret rfl rfl ?_
            show jX m_X6_isFactOf 2 0 0 53 [(0, .ref 120), (1, .int l3), (2, .int l1), (3, .int 0)] [.int (-1)] _ 0 0 _
            refine x_iloadn (x := l1) rfl rfl ?_
            refine x_icne (tgt := 61) rfl rfl (ti_ne jk_m1 rfl (bn_t (by omega) ?_))
            refine x_iconst (v := 0) rfl ki_0 ?_
            refine x_zret rfl rfl (by decide) ?_
            show jX m_X6_byBirth 3 0 0 24 [(0, .ref 120), (1, .int l1), (2, .int l2), (3, .int l3)] [.int 0] _ 0 0 _
            refine x_ifeq (tgt := 56) rfl rfl (ti_eq jk_0 jk_0 (br_t (by omega) ?_))
            exact jX.sub (jsb_c rfl (jsb_c rfl (jsb_c rfl (jsb_c rfl jsb_n)))) (ct_X6_byBirth_r120_56 hD hQ ih l1 l2 l3 h (jr_of rfl (by omega)) (jr_of rfl (by omega)) (jr_of rfl (by omega)) (by omega) J Sm)
          ·
            refine x_aloadn (x := 78) rfl rfl ?_
            refine z_getR (N := 16) (b := 82) 7 10 rfl f_7_37 rfl J rfl 9994 ⟨rfl, rfl⟩ rfl ?_
            refine x_iloadn (x := v13) rfl rfl ?_
            refine z_iald (N := 600) rfl J rfl sg_82_0_600_1_0_1 rfl (by omega) (fun v17 qv17 ev17 => ?_)
            refine x_goto (tgt := 37) rfl rfl ?_
            refine x_iret rfl rfl ?_
            show jX m_X6_isFactOf 2 0 0 53 [(0, .ref 120), (1, .int l3), (2, .int l1), (3, .int 0)] [.int v17] _ 0 0 _
            refine x_iloadn (x := l1) rfl rfl ?_
            refine x_icne (tgt := 61) rfl rfl (ti_ne rfl rfl ⟨fun c18 => ?_, fun c18 => ?_⟩)
            ·
              refine x_iconst (v := 0) rfl ki_0 ?_
              refine x_zret rfl rfl (by decide) ?_
              show jX m_X6_byBirth 3 0 0 24 [(0, .ref 120), (1, .int l1), (2, .int l2), (3, .int l3)] [.int 0] _ 0 0 _
              refine x_ifeq (tgt := 56) rfl rfl (ti_eq jk_0 jk_0 (br_t (by omega) ?_))
              exact jX.sub (jsb_c rfl (jsb_c rfl (jsb_c rfl (jsb_c rfl jsb_n)))) (ct_X6_byBirth_r120_56 hD hQ ih l1 l2 l3 h (jr_of rfl (by omega)) (jr_of rfl (by omega)) (jr_of rfl (by omega)) (by omega) J Sm)
            ·
              refine x_iconst (v := 1) rfl ki_1 ?_
              refine x_goto (tgt := 62) rfl rfl ?_
              refine x_zret rfl rfl (by decide) ?_
              show jX m_X6_byBirth 3 0 0 24 [(0, .ref 120), (1, .int l1), (2, .int l2), (3, .int l3)] [.int 1] _ 0 0 _
              refine x_ifeq (tgt := 56) rfl rfl (ti_eq jk_1 jk_0 (br_f (by omega) ?_))
              refine x_aloadn (x := 120) rfl rfl ?_
              refine z_getR (N := 8) (b := 32) 6 0 rfl f_6_28 rfl J rfl 15360 ⟨rfl, rfl⟩ rfl ?_
              refine z_getR (N := 20) (b := 43) 1 5 rfl f_6_87 rfl J rfl 4101 ⟨rfl, rfl⟩ rfl ?_
              refine x_iloadn (x := l3) rfl rfl ?_
              refine x_iconst (v := 1) rfl ki_1 ?_
              refine x_inv (N := m_X8_at) (As := [.int l3, .int 1]) (b := 43) (st := []) (dx9 := 1) (mc := 0) (ms := 0) (host := "") 8 rfl t_X8_at ⟨Or.inl q_6_99, i_X8_at.1, i_X8_at.2⟩ ⟨by decide, rfl⟩ (congrArg Prod.fst (J.1.1 43 (8, 4) rfl)) rfl (by decide) rfl rfl ⟨by decide, by decide⟩ (sf_X8_at_r43_c1 (jr_of rfl (by omega)) hD J  (fun v20 h ev20 J S19 => ?_))
              have Sm := jSm_tr rfl Sm S19
              show jX m_X6_byBirth 3 0 0 39 [(0, .ref 120), (1, .int l1), (2, .int l2), (3, .int l3)] [.int v20] _ 0 0 _
              refine x_iloadn (x := l2) rfl rfl ?_
              refine x_icgt (tgt := 56) rfl rfl (ti_gt rfl rfl ⟨fun c21 => ?_, fun c21 => ?_⟩)
              ·
                exact jX.sub (jsb_c rfl (jsb_c rfl (jsb_c rfl (jsb_c rfl jsb_n)))) (ct_X6_byBirth_r120_56 hD hQ ih l1 l2 l3 h (jr_of rfl (by omega)) (jr_of rfl (by omega)) (jr_of rfl (by omega)) (by omega) J Sm)
              ·
                refine x_aloadn (x := 120) rfl rfl ?_
                refine z_getR (N := 8) (b := 32) 6 0 rfl f_6_28 rfl J rfl 15360 ⟨rfl, rfl⟩ rfl ?_
                refine z_getR (N := 20) (b := 43) 1 5 rfl f_6_87 rfl J rfl 4101 ⟨rfl, rfl⟩ rfl ?_
                refine x_iloadn (x := l3) rfl rfl ?_
                refine x_iconst (v := 5) rfl ki_5 ?_
                refine x_inv (N := m_X8_at) (As := [.int l3, .int 5]) (b := 43) (st := []) (dx9 := 1) (mc := 0) (ms := 0) (host := "") 8 rfl t_X8_at ⟨Or.inl q_6_99, i_X8_at.1, i_X8_at.2⟩ ⟨by decide, rfl⟩ (congrArg Prod.fst (J.1.1 43 (8, 4) rfl)) rfl (by decide) rfl rfl ⟨by decide, by decide⟩ (sf_X8_at_r43_c5 (jr_of rfl (by omega)) hD J  (fun v23 h ev23 J S22 => ?_))
                have Sm := jSm_tr rfl Sm S22
                show jX m_X6_byBirth 3 0 0 55 [(0, .ref 120), (1, .int l1), (2, .int l2), (3, .int l3)] [.int v23] _ 0 0 _
                refine x_iret rfl rfl ?_
                exact hQ _ _ (jr_of rfl (by omega)) J Sm
set_option maxRecDepth 100000 in
set_option maxHeartbeats 4000000 in
theorem sf_X6_byBirth_r120 {Dy : jH → Prop} {h : jH} {Q : Option Value → jH → Prop} {a1 : Int32} {a2 : Int32} (y1 : 0 ≤ a1.toInt ∧ a1.toInt ≤ 599) (y2 : 0 ≤ a2.toInt ∧ a2.toInt ≤ 146399) (hD : jDk Dy) (J : jJ jSgX Dy h) (hQ : ∀ (v : Int32) hx9, (-1) ≤ v.toInt ∧ v.toInt ≤ 11 → jJ jSgX Dy hx9 → jSm fp_X6_byBirth_r120 h hx9 → Q (some (.int v)) hx9) : jC m_X6_byBirth 3 0 0 [.ref 120, .int a1, .int a2] h Q := by
  refine jC.of rfl k_X6_byBirth rfl ?_
  have Sm := jSm_rf fp_X6_byBirth_r120 h
  show jX m_X6_byBirth 3 0 0 0 [(0, .ref 120), (1, .int a1), (2, .int a2)] [] _ 0 0 _
  refine x_aloadn (x := 120) rfl rfl ?_
  refine z_getR (N := 8) (b := 32) 6 0 rfl f_6_28 rfl J rfl 15360 ⟨rfl, rfl⟩ rfl ?_
  refine z_getR (N := 20) (b := 43) 1 5 rfl f_6_87 rfl J rfl 4101 ⟨rfl, rfl⟩ rfl ?_
  refine z_getI (N := 4) 8 3 rfl f_6_91 rfl J rfl sg_43_3_4_1_0_1 (fun v1 qv1 ev1 => ?_)
  refine x_iconst (v := 1) rfl ki_1 ?_
  refine z_isub rfl rfl jk_1 (by omega) (fun v2 ev2 => ?_)
  refine x_istoren (lsx9 := [(3, .int v2), (0, .ref 120), (1, .int a1), (2, .int a2)]) rfl rfl rfl ?_
  exact jX.sub (jsb_c rfl (jsb_c rfl (jsb_c rfl (jsb_c rfl jsb_n)))) (ct_X6_byBirth_r120_13 hD hQ  101 a1 a2 v2 h (by omega) (jr_of rfl (by omega)) (jr_of rfl (by omega)) (jr_of rfl (by omega)) J Sm)
def fp_X8_at_r43 : jFp := []
set_option maxRecDepth 100000 in
set_option maxHeartbeats 4000000 in
theorem ct_X8_at_r43_24 {Dy : jH → Prop} {h0 : jH} {Q : Option Value → jH → Prop} (hD : jDk Dy) (hQ : ∀ (v : Int32) hx9, jJ jSgX Dy hx9 → jSm fp_X8_at_r43 h0 hx9 → Q (some (.int v)) hx9) : ∀ (h : jH), jJ jSgX Dy h → jSm fp_X8_at_r43 h0 h → jX m_X8_at 1 0 0 24 [] [] h 0 0 Q := by
  intro  h    J Sm
  refine x_iconst (v := 0) rfl ki_0 ?_
  refine x_iret rfl rfl ?_
  exact hQ _ _ J Sm
set_option maxRecDepth 100000 in
set_option maxHeartbeats 4000000 in
theorem sf_X8_at_r43 {Dy : jH → Prop} {h : jH} {Q : Option Value → jH → Prop} {a1 : Int32} {a2 : Int32} (y1 : 0 ≤ a1.toInt ∧ a1.toInt ≤ 99) (y2 : 1 ≤ a2.toInt ∧ a2.toInt ≤ 2) (hD : jDk Dy) (J : jJ jSgX Dy h) (hQ : ∀ (v : Int32) hx9, jJ jSgX Dy hx9 → jSm fp_X8_at_r43 h hx9 → Q (some (.int v)) hx9) : jC m_X8_at 1 0 0 [.ref 43, .int a1, .int a2] h Q := by
  refine jC.of rfl k_X8_at rfl ?_
  have Sm := jSm_rf fp_X8_at_r43 h
  show jX m_X8_at 1 0 0 0 [(0, .ref 43), (1, .int a1), (2, .int a2)] [] _ 0 0 _
  refine x_iloadn (x := a1) rfl rfl ?_
  refine x_iflt (tgt := 24) rfl rfl (ti_lt rfl jk_0 (br_f (by omega) ?_))
  refine x_iloadn (x := a1) rfl rfl ?_
  refine x_aloadn (x := 43) rfl rfl ?_
  refine z_getI (N := 4) 8 3 rfl f_8_7 rfl J rfl sg_43_3_4_1_0_1 (fun v1 qv1 ev1 => ?_)
  refine x_icge (tgt := 24) rfl rfl (ti_ge rfl rfl ⟨fun c2 => ?_, fun c2 => ?_⟩)
  ·
    exact jX.sub jsb_n (ct_X8_at_r43_24 hD hQ  h J Sm)
  ·
    refine x_iloadn (x := a2) rfl rfl ?_
    refine x_iflt (tgt := 24) rfl rfl (ti_lt rfl jk_0 (br_f (by omega) ?_))
    refine x_iloadn (x := a2) rfl rfl ?_
    refine x_aloadn (x := 43) rfl rfl ?_
    refine z_getC (N := 4) (v := 6) 8 0 rfl f_8_19 rfl J rfl sg_43_0_1_1_0_1 jk_6 ?_
    refine x_iclt (tgt := 26) rfl rfl (ti_lt rfl jk_6 (br_t (by omega) ?_))
    refine x_aloadn (x := 43) rfl rfl ?_
    refine z_getR (N := 4) (b := 44) 8 2 rfl f_8_25 rfl J rfl 5506 ⟨rfl, rfl⟩ rfl ?_
    refine x_iloadn (x := a1) rfl rfl ?_
    refine x_aloadn (x := 43) rfl rfl ?_
    refine z_getC (N := 4) (v := 6) 8 0 rfl f_8_19 rfl J rfl sg_43_0_1_1_0_1 jk_6 ?_
    refine z_imul rfl rfl jk_6 (by omega) (fun v3 ev3 => ?_)
    refine x_iloadn (x := a2) rfl rfl ?_
    refine z_iadd rfl rfl rfl (by omega) (fun v4 ev4 => ?_)
    refine z_iald0 (N := 600) rfl J rfl rfl (by omega) (fun v5 qv5 => ?_)
    have ev5 := jfull v5
    refine x_iret rfl rfl ?_
    exact hQ _ _ J Sm
def fp_X6_byLatest_r120 : jFp := []
set_option maxRecDepth 100000 in
set_option maxHeartbeats 4000000 in
theorem ct_X6_byLatest_r120_125 {Dy : jH → Prop} {h0 : jH} {Q : Option Value → jH → Prop} {R9 : Int} (hD : jDk Dy) (hQ : ∀ (v : Int32) hx9, (-1) ≤ v.toInt ∧ v.toInt ≤ 11 → jJ jSgX Dy hx9 → jSm fp_X6_byLatest_r120 h0 hx9 → Q (some (.int v)) hx9) (k9 : ∀ (l1 : Int32) (l2 : Int32) (l3 : Int32) (l4 : Int32) (l5 : Int32) (l6 : Int32) (l7 : Int32) (h : jH), 100 - l7.toInt < R9 → 0 ≤ l1.toInt ∧ l1.toInt ≤ 599 → 1 ≤ l2.toInt ∧ l2.toInt ≤ 3 → 1 ≤ l3.toInt ∧ l3.toInt ≤ 2 → (-366) ≤ l4.toInt ∧ l4.toInt ≤ 146399 → (-1) ≤ l5.toInt ∧ l5.toInt ≤ 146399 → (-1) ≤ l6.toInt ∧ l6.toInt ≤ 11 → 0 ≤ l7.toInt ∧ l7.toInt ≤ 100 → jJ jSgX Dy h → jSm fp_X6_byLatest_r120 h0 h → jX m_X6_byLatest 3 0 0 9 [(0, .ref 120), (1, .int l1), (2, .int l2), (3, .int l3), (4, .int l4), (5, .int l5), (6, .int l6), (7, .int l7)] [] h 0 0 Q) : ∀ (l1 : Int32) (l2 : Int32) (l3 : Int32) (l4 : Int32) (l5 : Int32) (l6 : Int32) (l7 : Int32) (h : jH), 0 ≤ l1.toInt ∧ l1.toInt ≤ 599 → 1 ≤ l2.toInt ∧ l2.toInt ≤ 3 → 1 ≤ l3.toInt ∧ l3.toInt ≤ 2 → (-366) ≤ l4.toInt ∧ l4.toInt ≤ 146399 → (-1) ≤ l5.toInt ∧ l5.toInt ≤ 146399 → (-1) ≤ l6.toInt ∧ l6.toInt ≤ 11 → 0 ≤ l7.toInt ∧ l7.toInt ≤ 99 → 100 - l7.toInt ≤ R9 → jJ jSgX Dy h → jSm fp_X6_byLatest_r120 h0 h → jX m_X6_byLatest 3 0 0 125 [(0, .ref 120), (1, .int l1), (2, .int l2), (3, .int l3), (4, .int l4), (5, .int l5), (6, .int l6), (7, .int l7)] [] h 0 0 Q := by
  intro l1 l2 l3 l4 l5 l6 l7 h y0 y1 y2 y3 y4 y5 y6  m9 J Sm
  refine z_iinc (x := l7) (lsx9 := fun v1 => [(7, .int v1), (0, .ref 120), (1, .int l1), (2, .int l2), (3, .int l3), (4, .int l4), (5, .int l5), (6, .int l6)]) rfl rfl rfl jko_1 (by omega) rfl (fun _ => rfl) (fun v1 ev1 => ?_)
  refine x_goto (tgt := 9) rfl rfl ?_
  exact jX.sub (jsb_c rfl (jsb_c rfl (jsb_c rfl (jsb_c rfl (jsb_c rfl (jsb_c rfl (jsb_c rfl (jsb_c rfl jsb_n)))))))) (k9 l1 l2 l3 l4 l5 l6 v1 h (by omega) (jr_of rfl (by omega)) (jr_of rfl (by omega)) (jr_of rfl (by omega)) (jr_of rfl (by omega)) (jr_of rfl (by omega)) (jr_of rfl (by omega)) (jr_of rfl (by omega)) J Sm)
set_option maxRecDepth 100000 in
set_option maxHeartbeats 4000000 in
theorem ct_X6_byLatest_r120_95 {Dy : jH → Prop} {h0 : jH} {Q : Option Value → jH → Prop} {R9 : Int} (hD : jDk Dy) (hQ : ∀ (v : Int32) hx9, (-1) ≤ v.toInt ∧ v.toInt ≤ 11 → jJ jSgX Dy hx9 → jSm fp_X6_byLatest_r120 h0 hx9 → Q (some (.int v)) hx9) (k9 : ∀ (l1 : Int32) (l2 : Int32) (l3 : Int32) (l4 : Int32) (l5 : Int32) (l6 : Int32) (l7 : Int32) (h : jH), 100 - l7.toInt < R9 → 0 ≤ l1.toInt ∧ l1.toInt ≤ 599 → 1 ≤ l2.toInt ∧ l2.toInt ≤ 3 → 1 ≤ l3.toInt ∧ l3.toInt ≤ 2 → (-366) ≤ l4.toInt ∧ l4.toInt ≤ 146399 → (-1) ≤ l5.toInt ∧ l5.toInt ≤ 146399 → (-1) ≤ l6.toInt ∧ l6.toInt ≤ 11 → 0 ≤ l7.toInt ∧ l7.toInt ≤ 100 → jJ jSgX Dy h → jSm fp_X6_byLatest_r120 h0 h → jX m_X6_byLatest 3 0 0 9 [(0, .ref 120), (1, .int l1), (2, .int l2), (3, .int l3), (4, .int l4), (5, .int l5), (6, .int l6), (7, .int l7)] [] h 0 0 Q) : ∀ (l1 : Int32) (l2 : Int32) (l3 : Int32) (l4 : Int32) (l5 : Int32) (l6 : Int32) (l7 : Int32) (l8 : Int32) (h : jH), 0 ≤ l1.toInt ∧ l1.toInt ≤ 599 → 1 ≤ l2.toInt ∧ l2.toInt ≤ 3 → 1 ≤ l3.toInt ∧ l3.toInt ≤ 2 → (-366) ≤ l4.toInt ∧ l4.toInt ≤ 146399 → (-1) ≤ l5.toInt ∧ l5.toInt ≤ 146399 → (-1) ≤ l6.toInt ∧ l6.toInt ≤ 11 → 0 ≤ l7.toInt ∧ l7.toInt ≤ 99 → (-1) ≤ l8.toInt ∧ l8.toInt ≤ 146399 → 100 - l7.toInt ≤ R9 → jJ jSgX Dy h → jSm fp_X6_byLatest_r120 h0 h → jX m_X6_byLatest 3 0 0 95 [(0, .ref 120), (1, .int l1), (2, .int l2), (3, .int l3), (4, .int l4), (5, .int l5), (6, .int l6), (7, .int l7), (8, .int l8)] [] h 0 0 Q := by
  intro l1 l2 l3 l4 l5 l6 l7 l8 h y0 y1 y2 y3 y4 y5 y6 y7  m9 J Sm
  refine x_aloadn (x := 120) rfl rfl ?_
  refine x_iload (x := l7) rfl rfl ?_
  refine x_iloadn (x := l1) rfl rfl ?_
  refine x_iloadn (x := l2) rfl rfl ?_
  refine x_inv (N := m_X6_isFactOf) (As := [.int l7, .int l1, .int l2]) (b := 120) (st := []) (dx9 := 2) (mc := 0) (ms := 0) (host := "") 6 rfl t_X6_isFactOf ⟨Or.inl q_6_96, i_X6_isFactOf.1, i_X6_isFactOf.2⟩ ⟨by decide, rfl⟩ (congrArg Prod.fst (J.1.1 120 (6, 8) rfl)) rfl (by decide) rfl rfl ⟨by decide, by decide⟩ (jC.of rfl k_X6_isFactOf rfl ?_)
  show jX m_X6_isFactOf 2 0 0 0 [(0, .ref 120), (1, .int l7), (2, .int l1), (3, .int l2)] [] _ 0 0 _
  refine x_aloadn (x := 120) rfl rfl ?_
  refine z_getR (N := 8) (b := 32) 6 0 rfl f_6_28 rfl J rfl 15360 ⟨rfl, rfl⟩ rfl ?_
  refine z_getR (N := 20) (b := 43) 1 5 rfl f_6_87 rfl J rfl 4101 ⟨rfl, rfl⟩ rfl ?_
  refine x_iloadn (x := l7) rfl rfl ?_
  refine x_iconst (v := 4) rfl ki_4 ?_
  refine x_inv (N := m_X8_at) (As := [.int l7, .int 4]) (b := 43) (st := []) (dx9 := 1) (mc := 0) (ms := 0) (host := "") 8 rfl t_X8_at ⟨Or.inl q_6_99, i_X8_at.1, i_X8_at.2⟩ ⟨by decide, rfl⟩ (congrArg Prod.fst (J.1.1 43 (8, 4) rfl)) rfl (by decide) rfl rfl ⟨by decide, by decide⟩ (sf_X8_at_r43_c4 (jr_of rfl (by omega)) hD J  (fun v2 h ev2 J S1 => ?_))
  have Sm := jSm_tr rfl Sm S1
  show jX m_X6_isFactOf 2 0 0 12 [(0, .ref 120), (1, .int l7), (2, .int l1), (3, .int l2)] [.int v2] _ 0 0 _
  refine x_iloadn (x := l2) rfl rfl ?_
  refine x_icne (tgt := 61) rfl rfl (ti_ne rfl rfl ⟨fun c3 => ?_, fun c3 => ?_⟩)
  ·
    refine x_iconst (v := 0) rfl ki_0 ?_
    refine x_zret rfl rfl (by decide) ?_
    show jX m_X6_byLatest 3 0 0 103 [(0, .ref 120), (1, .int l1), (2, .int l2), (3, .int l3), (4, .int l4), (5, .int l5), (6, .int l6), (7, .int l7), (8, .int l8)] [.int 0] _ 0 0 _
    refine x_ifeq (tgt := 125) rfl rfl (ti_eq jk_0 jk_0 (br_t (by omega) ?_))
    exact jX.sub (jsb_c rfl (jsb_c rfl (jsb_c rfl (jsb_c rfl (jsb_c rfl (jsb_c rfl (jsb_c rfl (jsb_c rfl jsb_n)))))))) (ct_X6_byLatest_r120_125 hD hQ k9 l1 l2 l3 l4 l5 l6 l7 h (jr_of rfl (by omega)) (jr_of rfl (by omega)) (jr_of rfl (by omega)) (jr_of rfl (by omega)) (jr_of rfl (by omega)) (jr_of rfl (by omega)) (jr_of rfl (by omega)) (by omega) J Sm)
  ·
    refine x_aloadn (x := 120) rfl rfl ?_
    refine z_getR (N := 8) (b := 32) 6 0 rfl f_6_28 rfl J rfl 15360 ⟨rfl, rfl⟩ rfl ?_
    refine z_getR (N := 20) (b := 43) 1 5 rfl f_6_87 rfl J rfl 4101 ⟨rfl, rfl⟩ rfl ?_
    refine x_iloadn (x := l7) rfl rfl ?_
    refine x_aloadn (x := 120) rfl rfl ?_
    refine z_getI (N := 8) 6 5 rfl f_6_18 rfl J rfl sg_120_5_6_1_0_1 (fun v4 qv4 ev4 => ?_)
    refine x_inv (N := m_X8_isKnown) (As := [.int l7, .int v4]) (b := 43) (st := []) (dx9 := 1) (mc := 0) (ms := 0) (host := "") 8 rfl t_X8_isKnown ⟨Or.inl q_6_107, i_X8_isKnown.1, i_X8_isKnown.2⟩ ⟨by decide, rfl⟩ (congrArg Prod.fst (J.1.1 43 (8, 4) rfl)) rfl (by decide) rfl rfl ⟨by decide, by decide⟩ (sf_X8_isKnown_r43 (jr_of rfl (by omega)) (jr_of rfl (by omega)) hD J  (fun v6 h ev6 J S5 => ?_))
    have Sm := jSm_tr rfl Sm S5
    show jX m_X6_isFactOf 2 0 0 31 [(0, .ref 120), (1, .int l7), (2, .int l1), (3, .int l2)] [.int v6] _ 0 0 _
    refine x_ifeq (tgt := 61) rfl rfl (ti_eq rfl jk_0 ⟨fun c7 => ?_, fun c7 => ?_⟩)
    ·
      refine x_iconst (v := 0) rfl ki_0 ?_
      refine x_zret rfl rfl (by decide) ?_
      show jX m_X6_byLatest 3 0 0 103 [(0, .ref 120), (1, .int l1), (2, .int l2), (3, .int l3), (4, .int l4), (5, .int l5), (6, .int l6), (7, .int l7), (8, .int l8)] [.int 0] _ 0 0 _
      refine x_ifeq (tgt := 125) rfl rfl (ti_eq jk_0 jk_0 (br_t (by omega) ?_))
      exact jX.sub (jsb_c rfl (jsb_c rfl (jsb_c rfl (jsb_c rfl (jsb_c rfl (jsb_c rfl (jsb_c rfl (jsb_c rfl jsb_n)))))))) (ct_X6_byLatest_r120_125 hD hQ k9 l1 l2 l3 l4 l5 l6 l7 h (jr_of rfl (by omega)) (jr_of rfl (by omega)) (jr_of rfl (by omega)) (jr_of rfl (by omega)) (jr_of rfl (by omega)) (jr_of rfl (by omega)) (jr_of rfl (by omega)) (by omega) J Sm)
    ·
      refine x_aloadn (x := 120) rfl rfl ?_
      refine z_getR (N := 8) (b := 78) 6 1 rfl f_6_32 rfl J rfl 15361 ⟨rfl, rfl⟩ rfl ?_
      refine x_aloadn (x := 120) rfl rfl ?_
      refine z_getR (N := 8) (b := 32) 6 0 rfl f_6_28 rfl J rfl 15360 ⟨rfl, rfl⟩ rfl ?_
      refine z_getR (N := 20) (b := 43) 1 5 rfl f_6_87 rfl J rfl 4101 ⟨rfl, rfl⟩ rfl ?_
      refine x_iloadn (x := l7) rfl rfl ?_
      refine x_iconst (v := 3) rfl ki_3 ?_
      refine x_inv (N := m_X8_at) (As := [.int l7, .int 3]) (b := 43) (st := [.ref 78]) (dx9 := 1) (mc := 0) (ms := 0) (host := "") 8 rfl t_X8_at ⟨Or.inl q_6_99, i_X8_at.1, i_X8_at.2⟩ ⟨by decide, rfl⟩ (congrArg Prod.fst (J.1.1 43 (8, 4) rfl)) rfl (by decide) rfl rfl ⟨by decide, by decide⟩ (sf_X8_at_r43_c3 (jr_of rfl (by omega)) hD J  (fun v9 h ev9 J S8 => ?_))
      have Sm := jSm_tr rfl Sm S8
      show jX m_X6_isFactOf 2 0 0 50 [(0, .ref 120), (1, .int l7), (2, .int l1), (3, .int l2)] [.int v9, .ref 78] _ 0 0 _
      refine x_inv (N := m_X7_soulAt) (As := [.int v9]) (b := 78) (st := []) (dx9 := 1) (mc := 0) (ms := 0) (host := "") 7 rfl t_X7_soulAt ⟨Or.inl q_6_111, i_X7_soulAt.1, i_X7_soulAt.2⟩ ⟨by decide, rfl⟩ (congrArg Prod.fst (J.1.1 78 (7, 16) rfl)) rfl (by decide) rfl rfl ⟨by decide, by decide⟩ (jC.of rfl k_X7_soulAt rfl ?_)
      show jX m_X7_soulAt 1 0 0 0 [(0, .ref 78), (1, .int v9)] [] _ 0 0 _
      refine x_iloadn (x := v9) rfl rfl ?_
      refine x_iflt (tgt := 36) rfl rfl (ti_lt rfl jk_0 (br_f (by omega) ?_))
      refine x_iloadn (x := v9) rfl rfl ?_
      refine x_sipush (v := 600) rfl ks_600 ?_
      refine x_icge (tgt := 36) rfl rfl (ti_ge rfl jk_600 (br_f (by omega) ?_))
      refine x_iloadn (x := v9) rfl rfl ?_
      refine x_iconst (v := 3) rfl ki_3 ?_
      refine z_idiv rfl rfl jk_3 (by omega) (by omega) (fun v10 ev10 => ?_)
      refine x_aloadn (x := 78) rfl rfl ?_
      refine z_getR (N := 16) (b := 32) 7 0 rfl f_7_55 rfl J rfl 9984 ⟨rfl, rfl⟩ rfl ?_
      refine z_getR (N := 20) (b := 33) 1 0 rfl f_7_63 rfl J rfl 4096 ⟨rfl, rfl⟩ rfl ?_
      refine z_getI (N := 4) 8 3 rfl f_7_85 rfl J rfl sg_33_3_4_1_0_1 (fun v11 qv11 ev11 => ?_)
      refine x_icge (tgt := 36) rfl rfl (ti_ge rfl rfl ⟨fun c12 => ?_, fun c12 => ?_⟩)
      ·
        refine x_iconst (v := (-1)) rfl ki_m1 ?_
        refine x_iret rfl rfl ?_
        show jX m_X6_isFactOf 2 0 0 53 [(0, .ref 120), (1, .int l7), (2, .int l1), (3, .int l2)] [.int (-1)] _ 0 0 _
        refine x_iloadn (x := l1) rfl rfl ?_
        refine x_icne (tgt := 61) rfl rfl (ti_ne jk_m1 rfl (bn_t (by omega) ?_))
        refine x_iconst (v := 0) rfl ki_0 ?_
        refine x_zret rfl rfl (by decide) ?_
        show jX m_X6_byLatest 3 0 0 103 [(0, .ref 120), (1, .int l1), (2, .int l2), (3, .int l3), (4, .int l4), (5, .int l5), (6, .int l6), (7, .int l7), (8, .int l8)] [.int 0] _ 0 0 _
        refine x_ifeq (tgt := 125) rfl rfl (ti_eq jk_0 jk_0 (br_t (by omega) ?_))
        exact jX.sub (jsb_c rfl (jsb_c rfl (jsb_c rfl (jsb_c rfl (jsb_c rfl (jsb_c rfl (jsb_c rfl (jsb_c rfl jsb_n)))))))) (ct_X6_byLatest_r120_125 hD hQ k9 l1 l2 l3 l4 l5 l6 l7 h (jr_of rfl (by omega)) (jr_of rfl (by omega)) (jr_of rfl (by omega)) (jr_of rfl (by omega)) (jr_of rfl (by omega)) (jr_of rfl (by omega)) (jr_of rfl (by omega)) (by omega) J Sm)
      ·
        refine x_aloadn (x := 78) rfl rfl ?_
        refine z_getR (N := 16) (b := 82) 7 10 rfl f_7_37 rfl J rfl 9994 ⟨rfl, rfl⟩ rfl ?_
        refine x_iloadn (x := v9) rfl rfl ?_
        refine z_iald (N := 600) rfl J rfl sg_82_0_600_1_0_1 rfl (by omega) (fun v13 qv13 ev13 => ?_)
        refine x_goto (tgt := 37) rfl rfl ?_
        refine x_iret rfl rfl ?_
        show jX m_X6_isFactOf 2 0 0 53 [(0, .ref 120), (1, .int l7), (2, .int l1), (3, .int l2)] [.int v13] _ 0 0 _
        refine x_iloadn (x := l1) rfl rfl ?_
        refine x_icne (tgt := 61) rfl rfl (ti_ne rfl rfl ⟨fun c14 => ?_, fun c14 => ?_⟩)
        ·
          refine x_iconst (v := 0) rfl ki_0 ?_
          refine x_zret rfl rfl (by decide) ?_
          show jX m_X6_byLatest 3 0 0 103 [(0, .ref 120), (1, .int l1), (2, .int l2), (3, .int l3), (4, .int l4), (5, .int l5), (6, .int l6), (7, .int l7), (8, .int l8)] [.int 0] _ 0 0 _
          refine x_ifeq (tgt := 125) rfl rfl (ti_eq jk_0 jk_0 (br_t (by omega) ?_))
          exact jX.sub (jsb_c rfl (jsb_c rfl (jsb_c rfl (jsb_c rfl (jsb_c rfl (jsb_c rfl (jsb_c rfl (jsb_c rfl jsb_n)))))))) (ct_X6_byLatest_r120_125 hD hQ k9 l1 l2 l3 l4 l5 l6 l7 h (jr_of rfl (by omega)) (jr_of rfl (by omega)) (jr_of rfl (by omega)) (jr_of rfl (by omega)) (jr_of rfl (by omega)) (jr_of rfl (by omega)) (jr_of rfl (by omega)) (by omega) J Sm)
        ·
          refine x_iconst (v := 1) rfl ki_1 ?_
          refine x_goto (tgt := 62) rfl rfl ?_
          refine x_zret rfl rfl (by decide) ?_
          show jX m_X6_byLatest 3 0 0 103 [(0, .ref 120), (1, .int l1), (2, .int l2), (3, .int l3), (4, .int l4), (5, .int l5), (6, .int l6), (7, .int l7), (8, .int l8)] [.int 1] _ 0 0 _
          refine x_ifeq (tgt := 125) rfl rfl (ti_eq jk_1 jk_0 (br_f (by omega) ?_))
          refine x_iload (x := l8) rfl rfl ?_
          refine x_istore (lsx9 := [(5, .int l8), (0, .ref 120), (1, .int l1), (2, .int l2), (3, .int l3), (4, .int l4), (6, .int l6), (7, .int l7), (8, .int l8)]) rfl rfl rfl ?_
          refine x_aloadn (x := 120) rfl rfl ?_
          refine z_getR (N := 8) (b := 32) 6 0 rfl f_6_28 rfl J rfl 15360 ⟨rfl, rfl⟩ rfl ?_
          refine z_getR (N := 20) (b := 43) 1 5 rfl f_6_87 rfl J rfl 4101 ⟨rfl, rfl⟩ rfl ?_
          refine x_iload (x := l7) rfl rfl ?_
          refine x_iconst (v := 5) rfl ki_5 ?_
          refine x_inv (N := m_X8_at) (As := [.int l7, .int 5]) (b := 43) (st := []) (dx9 := 1) (mc := 0) (ms := 0) (host := "") 8 rfl t_X8_at ⟨Or.inl q_6_99, i_X8_at.1, i_X8_at.2⟩ ⟨by decide, rfl⟩ (congrArg Prod.fst (J.1.1 43 (8, 4) rfl)) rfl (by decide) rfl rfl ⟨by decide, by decide⟩ (sf_X8_at_r43_c5 (jr_of rfl (by omega)) hD J  (fun v16 h ev16 J S15 => ?_))
          have Sm := jSm_tr rfl Sm S15
          show jX m_X6_byLatest 3 0 0 123 [(5, .int l8), (0, .ref 120), (1, .int l1), (2, .int l2), (3, .int l3), (4, .int l4), (6, .int l6), (7, .int l7), (8, .int l8)] [.int v16] _ 0 0 _
          refine x_istore (lsx9 := [(6, .int v16), (5, .int l8), (0, .ref 120), (1, .int l1), (2, .int l2), (3, .int l3), (4, .int l4), (7, .int l7), (8, .int l8)]) rfl rfl rfl ?_
          exact jX.sub (jsb_c rfl (jsb_c rfl (jsb_c rfl (jsb_c rfl (jsb_c rfl (jsb_c rfl (jsb_c rfl (jsb_c rfl jsb_n)))))))) (ct_X6_byLatest_r120_125 hD hQ k9 l1 l2 l3 l4 l8 v16 l7 h (jr_of rfl (by omega)) (jr_of rfl (by omega)) (jr_of rfl (by omega)) (jr_of rfl (by omega)) (jr_of rfl (by omega)) (jr_of rfl (by omega)) (jr_of rfl (by omega)) (by omega) J Sm)
set_option maxRecDepth 100000 in
set_option maxHeartbeats 4000000 in
theorem ct_X6_byLatest_r120_9 {Dy : jH → Prop} {h0 : jH} {Q : Option Value → jH → Prop} (hD : jDk Dy) (hQ : ∀ (v : Int32) hx9, (-1) ≤ v.toInt ∧ v.toInt ≤ 11 → jJ jSgX Dy hx9 → jSm fp_X6_byLatest_r120 h0 hx9 → Q (some (.int v)) hx9) : ∀ r : Nat, ∀ (l1 : Int32) (l2 : Int32) (l3 : Int32) (l4 : Int32) (l5 : Int32) (l6 : Int32) (l7 : Int32) (h : jH), 100 - l7.toInt < (r : Int) → 0 ≤ l1.toInt ∧ l1.toInt ≤ 599 → 1 ≤ l2.toInt ∧ l2.toInt ≤ 3 → 1 ≤ l3.toInt ∧ l3.toInt ≤ 2 → (-366) ≤ l4.toInt ∧ l4.toInt ≤ 146399 → (-1) ≤ l5.toInt ∧ l5.toInt ≤ 146399 → (-1) ≤ l6.toInt ∧ l6.toInt ≤ 11 → 0 ≤ l7.toInt ∧ l7.toInt ≤ 100 → jJ jSgX Dy h → jSm fp_X6_byLatest_r120 h0 h → jX m_X6_byLatest 3 0 0 9 [(0, .ref 120), (1, .int l1), (2, .int l2), (3, .int l3), (4, .int l4), (5, .int l5), (6, .int l6), (7, .int l7)] [] h 0 0 Q := by
  intro r
  induction r with
  | zero =>
    intro l1 l2 l3 l4 l5 l6 l7 h hm y0 y1 y2 y3 y4 y5 y6   J Sm
    exfalso
    omega
  | succ r ih =>
    intro l1 l2 l3 l4 l5 l6 l7 h hm y0 y1 y2 y3 y4 y5 y6   J Sm
    refine x_iload (x := l7) rfl rfl ?_
    refine x_aloadn (x := 120) rfl rfl ?_
    refine z_getR (N := 8) (b := 32) 6 0 rfl f_6_28 rfl J rfl 15360 ⟨rfl, rfl⟩ rfl ?_
    refine z_getR (N := 20) (b := 43) 1 5 rfl f_6_87 rfl J rfl 4101 ⟨rfl, rfl⟩ rfl ?_
    refine z_getI (N := 4) 8 3 rfl f_6_91 rfl J rfl sg_43_3_4_1_0_1 (fun v1 qv1 ev1 => ?_)
    refine x_icge (tgt := 131) rfl rfl (ti_ge rfl rfl ⟨fun c2 => ?_, fun c2 => ?_⟩)
    ·
      refine x_iload (x := l6) rfl rfl ?_
      refine x_iret rfl rfl ?_
      exact hQ _ _ (jr_of rfl (by omega)) J Sm
    ·
      refine x_aloadn (x := 120) rfl rfl ?_
      refine z_getR (N := 8) (b := 32) 6 0 rfl f_6_28 rfl J rfl 15360 ⟨rfl, rfl⟩ rfl ?_
      refine z_getR (N := 20) (b := 43) 1 5 rfl f_6_87 rfl J rfl 4101 ⟨rfl, rfl⟩ rfl ?_
      refine x_iload (x := l7) rfl rfl ?_
      refine x_iloadn (x := l3) rfl rfl ?_
      refine x_inv (N := m_X8_at) (As := [.int l7, .int l3]) (b := 43) (st := []) (dx9 := 1) (mc := 0) (ms := 0) (host := "") 8 rfl t_X8_at ⟨Or.inl q_6_99, i_X8_at.1, i_X8_at.2⟩ ⟨by decide, rfl⟩ (congrArg Prod.fst (J.1.1 43 (8, 4) rfl)) rfl (by decide) rfl rfl ⟨by decide, by decide⟩ (sf_X8_at_r43 (jr_of rfl (by omega)) (jr_of rfl (by omega)) hD J  (fun v4 h J S3 => ?_))
      have ev4 := jfull v4
      have Sm := jSm_tr rfl Sm S3
      show jX m_X6_byLatest 3 0 0 37 [(0, .ref 120), (1, .int l1), (2, .int l2), (3, .int l3), (4, .int l4), (5, .int l5), (6, .int l6), (7, .int l7)] [.int v4] _ 0 0 _
      refine x_istore (lsx9 := [(8, .int v4), (0, .ref 120), (1, .int l1), (2, .int l2), (3, .int l3), (4, .int l4), (5, .int l5), (6, .int l6), (7, .int l7)]) rfl rfl rfl ?_
      refine x_aloadn (x := 120) rfl rfl ?_
      refine z_getR (N := 8) (b := 32) 6 0 rfl f_6_28 rfl J rfl 15360 ⟨rfl, rfl⟩ rfl ?_
      refine z_getR (N := 20) (b := 43) 1 5 rfl f_6_87 rfl J rfl 4101 ⟨rfl, rfl⟩ rfl ?_
      refine x_iload (x := l7) rfl rfl ?_
      refine x_iconst (v := 2) rfl ki_2 ?_
      refine x_inv (N := m_X8_at) (As := [.int l7, .int 2]) (b := 43) (st := []) (dx9 := 1) (mc := 0) (ms := 0) (host := "") 8 rfl t_X8_at ⟨Or.inl q_6_99, i_X8_at.1, i_X8_at.2⟩ ⟨by decide, rfl⟩ (congrArg Prod.fst (J.1.1 43 (8, 4) rfl)) rfl (by decide) rfl rfl ⟨by decide, by decide⟩ (sf_X8_at_r43_c2 (jr_of rfl (by omega)) hD J  (fun v6 h ev6 J S5 => ?_))
      have Sm := jSm_tr rfl Sm S5
      show jX m_X6_byLatest 3 0 0 52 [(8, .int v4), (0, .ref 120), (1, .int l1), (2, .int l2), (3, .int l3), (4, .int l4), (5, .int l5), (6, .int l6), (7, .int l7)] [.int v6] _ 0 0 _
      refine x_aloadn (x := 120) rfl rfl ?_
      refine z_getR (N := 8) (b := 32) 6 0 rfl f_6_28 rfl J rfl 15360 ⟨rfl, rfl⟩ rfl ?_
      refine z_getR (N := 20) (b := 43) 1 5 rfl f_6_87 rfl J rfl 4101 ⟨rfl, rfl⟩ rfl ?_
      refine x_iload (x := l7) rfl rfl ?_
      refine x_iconst (v := 1) rfl ki_1 ?_
      refine x_inv (N := m_X8_at) (As := [.int l7, .int 1]) (b := 43) (st := [.int v6]) (dx9 := 1) (mc := 0) (ms := 0) (host := "") 8 rfl t_X8_at ⟨Or.inl q_6_99, i_X8_at.1, i_X8_at.2⟩ ⟨by decide, rfl⟩ (congrArg Prod.fst (J.1.1 43 (8, 4) rfl)) rfl (by decide) rfl rfl ⟨by decide, by decide⟩ (sf_X8_at_r43_c1 (jr_of rfl (by omega)) hD J  (fun v8 h ev8 J S7 => ?_))
      have Sm := jSm_tr rfl Sm S7
      show jX m_X6_byLatest 3 0 0 65 [(8, .int v4), (0, .ref 120), (1, .int l1), (2, .int l2), (3, .int l3), (4, .int l4), (5, .int l5), (6, .int l6), (7, .int l7)] [.int v8, .int v6] _ 0 0 _
      refine z_isub rfl rfl rfl (by omega) (fun v9 ev9 => ?_)
      refine x_istore (lsx9 := [(9, .int v9), (8, .int v4), (0, .ref 120), (1, .int l1), (2, .int l2), (3, .int l3), (4, .int l4), (5, .int l5), (6, .int l6), (7, .int l7)]) rfl rfl rfl ?_
      refine x_iload (x := v4) rfl rfl ?_
      refine x_iload (x := l4) rfl rfl ?_
      refine x_icgt (tgt := 125) rfl rfl (ti_gt rfl rfl ⟨fun c10 => ?_, fun c10 => ?_⟩)
      ·
        exact jX.sub (jsb_c rfl (jsb_c rfl (jsb_c rfl (jsb_c rfl (jsb_c rfl (jsb_c rfl (jsb_c rfl (jsb_c rfl jsb_n)))))))) (ct_X6_byLatest_r120_125 hD hQ ih l1 l2 l3 l4 l5 l6 l7 h (jr_of rfl (by omega)) (jr_of rfl (by omega)) (jr_of rfl (by omega)) (jr_of rfl (by omega)) (jr_of rfl (by omega)) (jr_of rfl (by omega)) (jr_of rfl (by omega)) (by omega) J Sm)
      ·
        refine x_iload (x := v4) rfl rfl ?_
        refine x_iload (x := l5) rfl rfl ?_
        refine x_iclt (tgt := 125) rfl rfl (ti_lt rfl rfl ⟨fun c11 => ?_, fun c11 => ?_⟩)
        ·
          exact jX.sub (jsb_c rfl (jsb_c rfl (jsb_c rfl (jsb_c rfl (jsb_c rfl (jsb_c rfl (jsb_c rfl (jsb_c rfl jsb_n)))))))) (ct_X6_byLatest_r120_125 hD hQ ih l1 l2 l3 l4 l5 l6 l7 h (jr_of rfl (by omega)) (jr_of rfl (by omega)) (jr_of rfl (by omega)) (jr_of rfl (by omega)) (jr_of rfl (by omega)) (jr_of rfl (by omega)) (jr_of rfl (by omega)) (by omega) J Sm)
        ·
          refine x_iloadn (x := l2) rfl rfl ?_
          refine x_iconst (v := 2) rfl ki_2 ?_
          refine x_iceq (tgt := 95) rfl rfl (ti_eq rfl jk_2 ⟨fun c12 => ?_, fun c12 => ?_⟩)
          ·
            exact jX.sub (jsb_c rfl (jsb_c rfl (jsb_c rfl (jsb_c rfl (jsb_c rfl (jsb_c rfl (jsb_c rfl (jsb_c rfl (jsb_c rfl jsb_n))))))))) (ct_X6_byLatest_r120_95 hD hQ ih l1 l2 l3 l4 l5 l6 l7 v4 h (jr_of rfl (by omega)) (jr_of rfl (by omega)) (jr_of rfl (by omega)) (jr_of rfl (by omega)) (jr_of rfl (by omega)) (jr_of rfl (by omega)) (jr_of rfl (by omega)) (jr_of rfl (by omega)) (by omega) J Sm)
          ·
            refine x_iload (x := v9) rfl rfl ?_
            refine x_sipush (v := 365) rfl ks_365 ?_
            refine x_iclt (tgt := 125) rfl rfl (ti_lt rfl jk_365 ⟨fun c13 => ?_, fun c13 => ?_⟩)
            ·
              exact jX.sub (jsb_c rfl (jsb_c rfl (jsb_c rfl (jsb_c rfl (jsb_c rfl (jsb_c rfl (jsb_c rfl (jsb_c rfl jsb_n)))))))) (ct_X6_byLatest_r120_125 hD hQ ih l1 l2 l3 l4 l5 l6 l7 h (jr_of rfl (by omega)) (jr_of rfl (by omega)) (jr_of rfl (by omega)) (jr_of rfl (by omega)) (jr_of rfl (by omega)) (jr_of rfl (by omega)) (jr_of rfl (by omega)) (by omega) J Sm)
            ·
              exact jX.sub (jsb_c rfl (jsb_c rfl (jsb_c rfl (jsb_c rfl (jsb_c rfl (jsb_c rfl (jsb_c rfl (jsb_c rfl (jsb_c rfl jsb_n))))))))) (ct_X6_byLatest_r120_95 hD hQ ih l1 l2 l3 l4 l5 l6 l7 v4 h (jr_of rfl (by omega)) (jr_of rfl (by omega)) (jr_of rfl (by omega)) (jr_of rfl (by omega)) (jr_of rfl (by omega)) (jr_of rfl (by omega)) (jr_of rfl (by omega)) (jr_of rfl (by omega)) (by omega) J Sm)
set_option maxRecDepth 100000 in
set_option maxHeartbeats 4000000 in
theorem sf_X6_byLatest_r120 {Dy : jH → Prop} {h : jH} {Q : Option Value → jH → Prop} {a1 : Int32} {a2 : Int32} {a3 : Int32} {a4 : Int32} (y1 : 0 ≤ a1.toInt ∧ a1.toInt ≤ 599) (y2 : 1 ≤ a2.toInt ∧ a2.toInt ≤ 3) (y3 : 1 ≤ a3.toInt ∧ a3.toInt ≤ 2) (y4 : (-366) ≤ a4.toInt ∧ a4.toInt ≤ 146399) (hD : jDk Dy) (J : jJ jSgX Dy h) (hQ : ∀ (v : Int32) hx9, (-1) ≤ v.toInt ∧ v.toInt ≤ 11 → jJ jSgX Dy hx9 → jSm fp_X6_byLatest_r120 h hx9 → Q (some (.int v)) hx9) : jC m_X6_byLatest 3 0 0 [.ref 120, .int a1, .int a2, .int a3, .int a4] h Q := by
  refine jC.of rfl k_X6_byLatest rfl ?_
  have Sm := jSm_rf fp_X6_byLatest_r120 h
  show jX m_X6_byLatest 3 0 0 0 [(0, .ref 120), (1, .int a1), (2, .int a2), (3, .int a3), (4, .int a4)] [] _ 0 0 _
  refine x_iconst (v := (-1)) rfl ki_m1 ?_
  refine x_istore (lsx9 := [(5, .int (-1)), (0, .ref 120), (1, .int a1), (2, .int a2), (3, .int a3), (4, .int a4)]) rfl rfl rfl ?_
  refine x_iconst (v := (-1)) rfl ki_m1 ?_
  refine x_istore (lsx9 := [(6, .int (-1)), (5, .int (-1)), (0, .ref 120), (1, .int a1), (2, .int a2), (3, .int a3), (4, .int a4)]) rfl rfl rfl ?_
  refine x_iconst (v := 0) rfl ki_0 ?_
  refine x_istore (lsx9 := [(7, .int 0), (6, .int (-1)), (5, .int (-1)), (0, .ref 120), (1, .int a1), (2, .int a2), (3, .int a3), (4, .int a4)]) rfl rfl rfl ?_
  exact jX.sub (jsb_c rfl (jsb_c rfl (jsb_c rfl (jsb_c rfl (jsb_c rfl (jsb_c rfl (jsb_c rfl (jsb_c rfl jsb_n)))))))) (ct_X6_byLatest_r120_9 hD hQ  101 a1 a2 a3 a4 (-1) (-1) 0 h (by have := jk_0; omega) (jr_of rfl (by omega)) (jr_of rfl (by omega)) (jr_of rfl (by omega)) (jr_of rfl (by omega)) (jr_of jk_m1 (by omega)) (jr_of jk_m1 (by omega)) (jr_of jk_0 (by omega)) J Sm)
def fp_X7_birthOf_r78 : jFp := []
set_option maxRecDepth 100000 in
set_option maxHeartbeats 4000000 in
theorem ct_X7_birthOf_r78_40 {Dy : jH → Prop} {h0 : jH} {Q : Option Value → jH → Prop} (hD : jDk Dy) (hQ : ∀ (v : Int32) hx9, (-1) ≤ v.toInt ∧ v.toInt ≤ 599 → jJ jSgX Dy hx9 → jSm fp_X7_birthOf_r78 h0 hx9 → Q (some (.int v)) hx9) : ∀ (h : jH), jJ jSgX Dy h → jSm fp_X7_birthOf_r78 h0 h → jX m_X7_birthOf 1 0 0 40 [] [] h 0 0 Q := by
  intro  h    J Sm
  refine x_iconst (v := (-1)) rfl ki_m1 ?_
  refine x_iret rfl rfl ?_
  exact hQ _ _ (jr_of jk_m1 (by omega)) J Sm
set_option maxRecDepth 100000 in
set_option maxHeartbeats 4000000 in
theorem ct_X7_birthOf_r78_4 {Dy : jH → Prop} {h0 : jH} {Q : Option Value → jH → Prop} (hD : jDk Dy) (hQ : ∀ (v : Int32) hx9, (-1) ≤ v.toInt ∧ v.toInt ≤ 599 → jJ jSgX Dy hx9 → jSm fp_X7_birthOf_r78 h0 hx9 → Q (some (.int v)) hx9) : ∀ r : Nat, ∀ (l2 : Int32) (l3 : Int32) (h : jH), 600 - l3.toInt < (r : Int) → (-1) ≤ l2.toInt ∧ l2.toInt ≤ 599 → 0 ≤ l3.toInt ∧ l3.toInt ≤ 600 → jJ jSgX Dy h → jSm fp_X7_birthOf_r78 h0 h → jX m_X7_birthOf 1 0 0 4 [(0, .ref 78), (2, .int l2), (3, .int l3)] [] h 0 0 Q := by
  intro r
  induction r with
  | zero =>
    intro l2 l3 h hm y0 y1   J Sm
    exfalso
    omega
  | succ r ih =>
    intro l2 l3 h hm y0 y1   J Sm
    refine x_iloadn (x := l2) rfl rfl ?_
    refine x_iconst (v := (-1)) rfl ki_m1 ?_
    refine x_iceq (tgt := 40) rfl rfl (ti_eq rfl jk_m1 ⟨fun c1 => ?_, fun c1 => ?_⟩)
    ·
      exact jX.sub jsb_n (ct_X7_birthOf_r78_40 hD hQ  h J Sm)
    ·
      refine x_iloadn (x := l3) rfl rfl ?_
      refine x_sipush (v := 600) rfl ks_600 ?_
      refine x_icge (tgt := 40) rfl rfl (ti_ge rfl jk_600 ⟨fun c2 => ?_, fun c2 => ?_⟩)
      ·
        exact jX.sub jsb_n (ct_X7_birthOf_r78_40 hD hQ  h J Sm)
      ·
        refine x_aloadn (x := 78) rfl rfl ?_
        refine z_getR (N := 16) (b := 79) 7 7 rfl f_7_27 rfl J rfl 9991 ⟨rfl, rfl⟩ rfl ?_
        refine x_iloadn (x := l2) rfl rfl ?_
        refine z_iald (N := 600) rfl J rfl sg_79_0_600_1_0_1 rfl (by omega) (fun v3 qv3 ev3 => ?_)
        refine x_ifne (tgt := 27) rfl rfl (ti_ne rfl jk_0 ⟨fun c4 => ?_, fun c4 => ?_⟩)
        ·
          refine x_aloadn (x := 78) rfl rfl ?_
          refine z_getR (N := 16) (b := 83) 7 11 rfl f_7_40 rfl J rfl 9995 ⟨rfl, rfl⟩ rfl ?_
          refine x_iloadn (x := l2) rfl rfl ?_
          refine z_iald (N := 600) rfl J rfl sg_83_0_600_1_0_1 rfl (by omega) (fun v5 qv5 ev5 => ?_)
          refine x_istoren (lsx9 := [(2, .int v5), (0, .ref 78), (3, .int l3)]) rfl rfl rfl ?_
          refine z_iinc (x := l3) (lsx9 := fun v6 => [(3, .int v6), (2, .int v5), (0, .ref 78)]) rfl rfl rfl jko_1 (by omega) rfl (fun _ => rfl) (fun v6 ev6 => ?_)
          refine x_goto (tgt := 4) rfl rfl ?_
          exact jX.sub (jsb_c rfl (jsb_c rfl (jsb_c rfl jsb_n))) (ih v5 v6 h (by omega) (jr_of rfl (by omega)) (jr_of rfl (by omega)) J Sm)
        ·
          refine x_iloadn (x := l2) rfl rfl ?_
          refine x_iret rfl rfl ?_
          exact hQ _ _ (jr_of rfl (by omega)) J Sm
set_option maxRecDepth 100000 in
set_option maxHeartbeats 4000000 in
theorem sf_X7_birthOf_r78 {Dy : jH → Prop} {h : jH} {Q : Option Value → jH → Prop} {a1 : Int32} (y1 : 0 ≤ a1.toInt ∧ a1.toInt ≤ 599) (hD : jDk Dy) (J : jJ jSgX Dy h) (hQ : ∀ (v : Int32) hx9, (-1) ≤ v.toInt ∧ v.toInt ≤ 599 → jJ jSgX Dy hx9 → jSm fp_X7_birthOf_r78 h hx9 → Q (some (.int v)) hx9) : jC m_X7_birthOf 1 0 0 [.ref 78, .int a1] h Q := by
  refine jC.of rfl k_X7_birthOf rfl ?_
  have Sm := jSm_rf fp_X7_birthOf_r78 h
  show jX m_X7_birthOf 1 0 0 0 [(0, .ref 78), (1, .int a1)] [] _ 0 0 _
  refine x_iloadn (x := a1) rfl rfl ?_
  refine x_istoren (lsx9 := [(2, .int a1), (0, .ref 78), (1, .int a1)]) rfl rfl rfl ?_
  refine x_iconst (v := 0) rfl ki_0 ?_
  refine x_istoren (lsx9 := [(3, .int 0), (2, .int a1), (0, .ref 78), (1, .int a1)]) rfl rfl rfl ?_
  exact jX.sub (jsb_c rfl (jsb_c rfl (jsb_c rfl jsb_n))) (ct_X7_birthOf_r78_4 hD hQ  601 a1 0 h (by have := jk_0; omega) (jr_of rfl (by omega)) (jr_of jk_0 (by omega)) J Sm)
def fp_X6_byParents_r120_c6 : jFp := []
set_option maxRecDepth 100000 in
set_option maxHeartbeats 4000000 in
theorem ct_X6_byParents_r120_c6_20 {Dy : jH → Prop} {h0 : jH} {Q : Option Value → jH → Prop} (hD : jDk Dy) (hQ : ∀ (v : Int32) hx9, (-1) ≤ v.toInt ∧ v.toInt ≤ (-1) → jJ jSgX Dy hx9 → jSm fp_X6_byParents_r120_c6 h0 hx9 → Q (some (.int v)) hx9) : ∀ (h : jH), jJ jSgX Dy h → jSm fp_X6_byParents_r120_c6 h0 h → jX m_X6_byParents 2 0 0 20 [] [] h 0 0 Q := by
  intro  h    J Sm
  refine x_iconst (v := (-1)) rfl ki_m1 ?_
  refine x_iret rfl rfl ?_
  exact hQ _ _ (jr_of jk_m1 (by omega)) J Sm
set_option maxRecDepth 100000 in
set_option maxHeartbeats 4000000 in
theorem sf_X6_byParents_r120_c6 {Dy : jH → Prop} {h : jH} {Q : Option Value → jH → Prop} {a1 : Int32} (y1 : 0 ≤ a1.toInt ∧ a1.toInt ≤ 599) (hD : jDk Dy) (J : jJ jSgX Dy h) (hQ : ∀ (v : Int32) hx9, (-1) ≤ v.toInt ∧ v.toInt ≤ (-1) → jJ jSgX Dy hx9 → jSm fp_X6_byParents_r120_c6 h hx9 → Q (some (.int v)) hx9) : jC m_X6_byParents 2 0 0 [.ref 120, .int a1, .int 6] h Q := by
  refine jC.of rfl k_X6_byParents rfl ?_
  have Sm := jSm_rf fp_X6_byParents_r120_c6 h
  show jX m_X6_byParents 2 0 0 0 [(0, .ref 120), (1, .int a1), (2, .int 6)] [] _ 0 0 _
  refine x_aloadn (x := 120) rfl rfl ?_
  refine z_getR (N := 8) (b := 78) 6 1 rfl f_6_32 rfl J rfl 15361 ⟨rfl, rfl⟩ rfl ?_
  refine x_iloadn (x := a1) rfl rfl ?_
  refine x_inv (N := m_X7_birthOf) (As := [.int a1]) (b := 78) (st := []) (dx9 := 1) (mc := 0) (ms := 0) (host := "") 7 rfl t_X7_birthOf ⟨Or.inl q_6_130, i_X7_birthOf.1, i_X7_birthOf.2⟩ ⟨by decide, rfl⟩ (congrArg Prod.fst (J.1.1 78 (7, 16) rfl)) rfl (by decide) rfl rfl ⟨by decide, by decide⟩ (sf_X7_birthOf_r78 (jr_of rfl (by omega)) hD J  (fun v2 h ev2 J S1 => ?_))
  have Sm := jSm_tr rfl Sm S1
  show jX m_X6_byParents 2 0 0 8 [(0, .ref 120), (1, .int a1), (2, .int 6)] [.int v2] _ 0 0 _
  refine x_istoren (lsx9 := [(3, .int v2), (0, .ref 120), (1, .int a1), (2, .int 6)]) rfl rfl rfl ?_
  refine x_iloadn (x := v2) rfl rfl ?_
  refine x_iconst (v := (-1)) rfl ki_m1 ?_
  refine x_iceq (tgt := 20) rfl rfl (ti_eq rfl jk_m1 ⟨fun c3 => ?_, fun c3 => ?_⟩)
  ·
    exact jX.sub jsb_n (ct_X6_byParents_r120_c6_20 hD hQ  h J Sm)
  ·
    refine x_iloadn (x := 6) rfl rfl ?_
    refine x_bipush (v := 6) rfl kb_6 ?_
    refine x_iclt (tgt := 22) rfl rfl (ti_lt jk_6 jk_6 (br_f (by omega) ?_))
    exact jX.sub jsb_n (ct_X6_byParents_r120_c6_20 hD hQ  h J Sm)
def fp_X6_byWedding_r120_c6 : jFp := []
set_option maxRecDepth 100000 in
set_option maxHeartbeats 4000000 in
theorem ct_X6_byWedding_r120_c6_100138 {Dy : jH → Prop} {h0 : jH} {Q : Option Value → jH → Prop} (hD : jDk Dy) (hQ : ∀ (v : Int32) hx9, (-1) ≤ v.toInt ∧ v.toInt ≤ (-1) → jJ jSgX Dy hx9 → jSm fp_X6_byWedding_r120_c6 h0 hx9 → Q (some (.int v)) hx9) : ∀ (h : jH), jJ jSgX Dy h → jSm fp_X6_byWedding_r120_c6 h0 h → jX m_X6_byWedding 1 0 0 138 [] [.int (-1)] h 0 0 Q := by
  intro  h    J Sm
  refine x_iret rfl rfl ?_
  exact hQ _ _ (jr_of jk_m1 (by omega)) J Sm
set_option maxRecDepth 100000 in
set_option maxHeartbeats 4000000 in
theorem ct_X6_byWedding_r120_c6_115 {Dy : jH → Prop} {h0 : jH} {Q : Option Value → jH → Prop} (hD : jDk Dy) (hQ : ∀ (v : Int32) hx9, (-1) ≤ v.toInt ∧ v.toInt ≤ (-1) → jJ jSgX Dy hx9 → jSm fp_X6_byWedding_r120_c6 h0 hx9 → Q (some (.int v)) hx9) : ∀ (h : jH), jJ jSgX Dy h → jSm fp_X6_byWedding_r120_c6 h0 h → jX m_X6_byWedding 1 0 0 115 [] [] h 0 0 Q := by
  intro  h    J Sm
  refine x_iconst (v := (-1)) rfl ki_m1 ?_
  refine x_goto (tgt := 138) rfl rfl ?_
  exact jX.sub jsb_n (ct_X6_byWedding_r120_c6_100138 hD hQ  h J Sm)
set_option maxRecDepth 100000 in
set_option maxHeartbeats 4000000 in
theorem ct_X6_byWedding_r120_c6_103 {Dy : jH → Prop} {h0 : jH} {Q : Option Value → jH → Prop} (hD : jDk Dy) (hQ : ∀ (v : Int32) hx9, (-1) ≤ v.toInt ∧ v.toInt ≤ (-1) → jJ jSgX Dy hx9 → jSm fp_X6_byWedding_r120_c6 h0 hx9 → Q (some (.int v)) hx9) : ∀ (l2 : Int32) (l5 : Int32) (h : jH), 0 ≤ l2.toInt ∧ l2.toInt ≤ 146399 → (-1) ≤ l5.toInt ∧ l5.toInt ≤ 599 → jJ jSgX Dy h → jSm fp_X6_byWedding_r120_c6 h0 h → jX m_X6_byWedding 1 0 0 103 [(0, .ref 120), (2, .int l2), (3, .int 6), (5, .int l5)] [] h 0 0 Q := by
  intro l2 l5 h y0 y1   J Sm
  refine x_iload (x := l5) rfl rfl ?_
  refine x_iconst (v := (-1)) rfl ki_m1 ?_
  refine x_iceq (tgt := 115) rfl rfl (ti_eq rfl jk_m1 ⟨fun c1 => ?_, fun c1 => ?_⟩)
  ·
    exact jX.sub jsb_n (ct_X6_byWedding_r120_c6_115 hD hQ  h J Sm)
  ·
    refine x_iloadn (x := 6) rfl rfl ?_
    refine x_bipush (v := 6) rfl kb_6 ?_
    refine x_iclt (tgt := 119) rfl rfl (ti_lt jk_6 jk_6 (br_f (by omega) ?_))
    exact jX.sub jsb_n (ct_X6_byWedding_r120_c6_115 hD hQ  h J Sm)
set_option maxRecDepth 100000 in
set_option maxHeartbeats 4000000 in
theorem ct_X6_byWedding_r120_c6_85 {Dy : jH → Prop} {h0 : jH} {Q : Option Value → jH → Prop} {R12 : Int} (hD : jDk Dy) (hQ : ∀ (v : Int32) hx9, (-1) ≤ v.toInt ∧ v.toInt ≤ (-1) → jJ jSgX Dy hx9 → jSm fp_X6_byWedding_r120_c6 h0 hx9 → Q (some (.int v)) hx9) (k12 : ∀ (l2 : Int32) (l4 : Int32) (l5 : Int32) (l6 : Int32) (l7 : Int32) (h : jH), 600 - l7.toInt < R12 → 0 ≤ l2.toInt ∧ l2.toInt ≤ 146399 → (-1) ≤ l4.toInt ∧ l4.toInt ≤ 146399 → (-1) ≤ l5.toInt ∧ l5.toInt ≤ 599 → (-1) ≤ l6.toInt ∧ l6.toInt ≤ 599 → 0 ≤ l7.toInt ∧ l7.toInt ≤ 600 → jJ jSgX Dy h → jSm fp_X6_byWedding_r120_c6 h0 h → jX m_X6_byWedding 1 0 0 12 [(0, .ref 120), (2, .int l2), (3, .int 6), (4, .int l4), (5, .int l5), (6, .int l6), (7, .int l7)] [] h 0 0 Q) : ∀ (l2 : Int32) (l4 : Int32) (l5 : Int32) (l6 : Int32) (l7 : Int32) (h : jH), 0 ≤ l2.toInt ∧ l2.toInt ≤ 146399 → (-1) ≤ l4.toInt ∧ l4.toInt ≤ 146399 → (-1) ≤ l5.toInt ∧ l5.toInt ≤ 599 → 0 ≤ l6.toInt ∧ l6.toInt ≤ 599 → 0 ≤ l7.toInt ∧ l7.toInt ≤ 599 → 600 - l7.toInt ≤ R12 → jJ jSgX Dy h → jSm fp_X6_byWedding_r120_c6 h0 h → jX m_X6_byWedding 1 0 0 85 [(0, .ref 120), (2, .int l2), (3, .int 6), (4, .int l4), (5, .int l5), (6, .int l6), (7, .int l7)] [] h 0 0 Q := by
  intro l2 l4 l5 l6 l7 h y0 y1 y2 y3 y4  m12 J Sm
  refine x_aloadn (x := 120) rfl rfl ?_
  refine z_getR (N := 8) (b := 78) 6 1 rfl f_6_32 rfl J rfl 15361 ⟨rfl, rfl⟩ rfl ?_
  refine z_getR (N := 16) (b := 83) 7 11 rfl f_6_121 rfl J rfl 9995 ⟨rfl, rfl⟩ rfl ?_
  refine x_iload (x := l6) rfl rfl ?_
  refine z_iald (N := 600) rfl J rfl sg_83_0_600_1_0_1 rfl (by omega) (fun v1 qv1 ev1 => ?_)
  refine x_istore (lsx9 := [(6, .int v1), (0, .ref 120), (2, .int l2), (3, .int 6), (4, .int l4), (5, .int l5), (7, .int l7)]) rfl rfl rfl ?_
  refine z_iinc (x := l7) (lsx9 := fun v2 => [(7, .int v2), (6, .int v1), (0, .ref 120), (2, .int l2), (3, .int 6), (4, .int l4), (5, .int l5)]) rfl rfl rfl jko_1 (by omega) rfl (fun _ => rfl) (fun v2 ev2 => ?_)
  refine x_goto (tgt := 12) rfl rfl ?_
  exact jX.sub (jsb_c rfl (jsb_c rfl (jsb_c rfl (jsb_c rfl (jsb_c rfl (jsb_c rfl (jsb_c rfl jsb_n))))))) (k12 l2 l4 l5 v1 v2 h (by omega) (jr_of rfl (by omega)) (jr_of rfl (by omega)) (jr_of rfl (by omega)) (jr_of rfl (by omega)) (jr_of rfl (by omega)) J Sm)
set_option maxRecDepth 100000 in
set_option maxHeartbeats 4000000 in
theorem ct_X6_byWedding_r120_c6_12 {Dy : jH → Prop} {h0 : jH} {Q : Option Value → jH → Prop} (hD : jDk Dy) (hQ : ∀ (v : Int32) hx9, (-1) ≤ v.toInt ∧ v.toInt ≤ (-1) → jJ jSgX Dy hx9 → jSm fp_X6_byWedding_r120_c6 h0 hx9 → Q (some (.int v)) hx9) : ∀ r : Nat, ∀ (l2 : Int32) (l4 : Int32) (l5 : Int32) (l6 : Int32) (l7 : Int32) (h : jH), 600 - l7.toInt < (r : Int) → 0 ≤ l2.toInt ∧ l2.toInt ≤ 146399 → (-1) ≤ l4.toInt ∧ l4.toInt ≤ 146399 → (-1) ≤ l5.toInt ∧ l5.toInt ≤ 599 → (-1) ≤ l6.toInt ∧ l6.toInt ≤ 599 → 0 ≤ l7.toInt ∧ l7.toInt ≤ 600 → jJ jSgX Dy h → jSm fp_X6_byWedding_r120_c6 h0 h → jX m_X6_byWedding 1 0 0 12 [(0, .ref 120), (2, .int l2), (3, .int 6), (4, .int l4), (5, .int l5), (6, .int l6), (7, .int l7)] [] h 0 0 Q := by
  intro r
  induction r with
  | zero =>
    intro l2 l4 l5 l6 l7 h hm y0 y1 y2 y3 y4   J Sm
    exfalso
    omega
  | succ r ih =>
    intro l2 l4 l5 l6 l7 h hm y0 y1 y2 y3 y4   J Sm
    refine x_iload (x := l6) rfl rfl ?_
    refine x_iconst (v := (-1)) rfl ki_m1 ?_
    refine x_iceq (tgt := 103) rfl rfl (ti_eq rfl jk_m1 ⟨fun c1 => ?_, fun c1 => ?_⟩)
    ·
      exact jX.sub (jsb_c rfl (jsb_c rfl (jsb_c rfl (jsb_c rfl jsb_n)))) (ct_X6_byWedding_r120_c6_103 hD hQ  l2 l5 h (jr_of rfl (by omega)) (jr_of rfl (by omega)) J Sm)
    ·
      refine x_iload (x := l7) rfl rfl ?_
      refine x_sipush (v := 600) rfl ks_600 ?_
      refine x_icge (tgt := 103) rfl rfl (ti_ge rfl jk_600 ⟨fun c2 => ?_, fun c2 => ?_⟩)
      ·
        exact jX.sub (jsb_c rfl (jsb_c rfl (jsb_c rfl (jsb_c rfl jsb_n)))) (ct_X6_byWedding_r120_c6_103 hD hQ  l2 l5 h (jr_of rfl (by omega)) (jr_of rfl (by omega)) J Sm)
      ·
        refine x_aloadn (x := 120) rfl rfl ?_
        refine z_getR (N := 8) (b := 78) 6 1 rfl f_6_32 rfl J rfl 15361 ⟨rfl, rfl⟩ rfl ?_
        refine z_getR (N := 16) (b := 79) 7 7 rfl f_6_115 rfl J rfl 9991 ⟨rfl, rfl⟩ rfl ?_
        refine x_iload (x := l6) rfl rfl ?_
        refine z_iald (N := 600) rfl J rfl sg_79_0_600_1_0_1 rfl (by omega) (fun v3 qv3 ev3 => ?_)
        refine x_iconst (v := 4) rfl ki_4 ?_
        refine x_icne (tgt := 85) rfl rfl (ti_ne rfl jk_4 ⟨fun c4 => ?_, fun c4 => ?_⟩)
        ·
          exact jX.sub (jsb_c rfl (jsb_c rfl (jsb_c rfl (jsb_c rfl (jsb_c rfl (jsb_c rfl (jsb_c rfl jsb_n))))))) (ct_X6_byWedding_r120_c6_85 hD hQ ih l2 l4 l5 l6 l7 h (jr_of rfl (by omega)) (jr_of rfl (by omega)) (jr_of rfl (by omega)) (jr_of rfl (by omega)) (jr_of rfl (by omega)) (by omega) J Sm)
        ·
          refine x_aloadn (x := 120) rfl rfl ?_
          refine z_getR (N := 8) (b := 78) 6 1 rfl f_6_32 rfl J rfl 15361 ⟨rfl, rfl⟩ rfl ?_
          refine z_getR (N := 16) (b := 80) 7 8 rfl f_6_118 rfl J rfl 9992 ⟨rfl, rfl⟩ rfl ?_
          refine x_iload (x := l6) rfl rfl ?_
          refine z_iald (N := 600) rfl J rfl sg_80_0_600_1_0_1 rfl (by omega) (fun v5 qv5 ev5 => ?_)
          refine x_iloadn (x := l2) rfl rfl ?_
          refine x_icgt (tgt := 85) rfl rfl (ti_gt rfl rfl ⟨fun c6 => ?_, fun c6 => ?_⟩)
          ·
            exact jX.sub (jsb_c rfl (jsb_c rfl (jsb_c rfl (jsb_c rfl (jsb_c rfl (jsb_c rfl (jsb_c rfl jsb_n))))))) (ct_X6_byWedding_r120_c6_85 hD hQ ih l2 l4 l5 l6 l7 h (jr_of rfl (by omega)) (jr_of rfl (by omega)) (jr_of rfl (by omega)) (jr_of rfl (by omega)) (jr_of rfl (by omega)) (by omega) J Sm)
          ·
            refine x_aloadn (x := 120) rfl rfl ?_
            refine z_getR (N := 8) (b := 78) 6 1 rfl f_6_32 rfl J rfl 15361 ⟨rfl, rfl⟩ rfl ?_
            refine z_getR (N := 16) (b := 80) 7 8 rfl f_6_118 rfl J rfl 9992 ⟨rfl, rfl⟩ rfl ?_
            refine x_iload (x := l6) rfl rfl ?_
            refine z_ialdM (N := 600) (v := v5) rfl J rfl rfl (by omega) qv5 ?_
            refine x_iload (x := l4) rfl rfl ?_
            refine x_iclt (tgt := 85) rfl rfl (ti_lt rfl rfl ⟨fun c7 => ?_, fun c7 => ?_⟩)
            ·
              exact jX.sub (jsb_c rfl (jsb_c rfl (jsb_c rfl (jsb_c rfl (jsb_c rfl (jsb_c rfl (jsb_c rfl jsb_n))))))) (ct_X6_byWedding_r120_c6_85 hD hQ ih l2 l4 l5 l6 l7 h (jr_of rfl (by omega)) (jr_of rfl (by omega)) (jr_of rfl (by omega)) (jr_of rfl (by omega)) (jr_of rfl (by omega)) (by omega) J Sm)
            ·
              refine x_aloadn (x := 120) rfl rfl ?_
              refine z_getR (N := 8) (b := 78) 6 1 rfl f_6_32 rfl J rfl 15361 ⟨rfl, rfl⟩ rfl ?_
              refine z_getR (N := 16) (b := 80) 7 8 rfl f_6_118 rfl J rfl 9992 ⟨rfl, rfl⟩ rfl ?_
              refine x_iload (x := l6) rfl rfl ?_
              refine z_ialdM (N := 600) (v := v5) rfl J rfl rfl (by omega) qv5 ?_
              refine x_istore (lsx9 := [(4, .int v5), (0, .ref 120), (2, .int l2), (3, .int 6), (5, .int l5), (6, .int l6), (7, .int l7)]) rfl rfl rfl ?_
              refine x_iload (x := l6) rfl rfl ?_
              refine x_istore (lsx9 := [(5, .int l6), (4, .int v5), (0, .ref 120), (2, .int l2), (3, .int 6), (6, .int l6), (7, .int l7)]) rfl rfl rfl ?_
              exact jX.sub (jsb_c rfl (jsb_c rfl (jsb_c rfl (jsb_c rfl (jsb_c rfl (jsb_c rfl (jsb_c rfl jsb_n))))))) (ct_X6_byWedding_r120_c6_85 hD hQ ih l2 v5 l6 l6 l7 h (jr_of rfl (by omega)) (jr_of rfl (by omega)) (jr_of rfl (by omega)) (jr_of rfl (by omega)) (jr_of rfl (by omega)) (by omega) J Sm)
set_option maxRecDepth 100000 in
set_option maxHeartbeats 4000000 in
theorem sf_X6_byWedding_r120_c6 {Dy : jH → Prop} {h : jH} {Q : Option Value → jH → Prop} {a1 : Int32} {a2 : Int32} (y1 : 0 ≤ a1.toInt ∧ a1.toInt ≤ 599) (y2 : 0 ≤ a2.toInt ∧ a2.toInt ≤ 146399) (hD : jDk Dy) (J : jJ jSgX Dy h) (hQ : ∀ (v : Int32) hx9, (-1) ≤ v.toInt ∧ v.toInt ≤ (-1) → jJ jSgX Dy hx9 → jSm fp_X6_byWedding_r120_c6 h hx9 → Q (some (.int v)) hx9) : jC m_X6_byWedding 1 0 0 [.ref 120, .int a1, .int a2, .int 6] h Q := by
  refine jC.of rfl k_X6_byWedding rfl ?_
  have Sm := jSm_rf fp_X6_byWedding_r120_c6 h
  show jX m_X6_byWedding 1 0 0 0 [(0, .ref 120), (1, .int a1), (2, .int a2), (3, .int 6)] [] _ 0 0 _
  refine x_iconst (v := (-1)) rfl ki_m1 ?_
  refine x_istore (lsx9 := [(4, .int (-1)), (0, .ref 120), (1, .int a1), (2, .int a2), (3, .int 6)]) rfl rfl rfl ?_
  refine x_iconst (v := (-1)) rfl ki_m1 ?_
  refine x_istore (lsx9 := [(5, .int (-1)), (4, .int (-1)), (0, .ref 120), (1, .int a1), (2, .int a2), (3, .int 6)]) rfl rfl rfl ?_
  refine x_iloadn (x := a1) rfl rfl ?_
  refine x_istore (lsx9 := [(6, .int a1), (5, .int (-1)), (4, .int (-1)), (0, .ref 120), (1, .int a1), (2, .int a2), (3, .int 6)]) rfl rfl rfl ?_
  refine x_iconst (v := 0) rfl ki_0 ?_
  refine x_istore (lsx9 := [(7, .int 0), (6, .int a1), (5, .int (-1)), (4, .int (-1)), (0, .ref 120), (1, .int a1), (2, .int a2), (3, .int 6)]) rfl rfl rfl ?_
  exact jX.sub (jsb_c rfl (jsb_c rfl (jsb_c rfl (jsb_c rfl (jsb_c rfl (jsb_c rfl (jsb_c rfl jsb_n))))))) (ct_X6_byWedding_r120_c6_12 hD hQ  601 a2 (-1) (-1) a1 0 h (by have := jk_0; omega) (jr_of rfl (by omega)) (jr_of jk_m1 (by omega)) (jr_of jk_m1 (by omega)) (jr_of rfl (by omega)) (jr_of jk_0 (by omega)) J Sm)
def fp_X6_parishBy_r120_c6 : jFp := []
set_option maxRecDepth 100000 in
set_option maxHeartbeats 4000000 in
theorem sf_X6_parishBy_r120_c6 {Dy : jH → Prop} {h : jH} {Q : Option Value → jH → Prop} {a1 : Int32} {a2 : Int32} {a3 : Int32} (y2 : 0 ≤ a2.toInt ∧ a2.toInt ≤ 599) (y3 : 0 ≤ a3.toInt ∧ a3.toInt ≤ 146399) (hD : jDk Dy) (J : jJ jSgX Dy h) (hQ : ∀ (v : Int32) hx9, (-1) ≤ v.toInt ∧ v.toInt ≤ 11 → jJ jSgX Dy hx9 → jSm fp_X6_parishBy_r120_c6 h hx9 → Q (some (.int v)) hx9) : jC m_X6_parishBy 4 0 0 [.ref 120, .int a1, .int a2, .int a3, .int 6] h Q := by
  refine jC.of rfl k_X6_parishBy rfl ?_
  have Sm := jSm_rf fp_X6_parishBy_r120_c6 h
  have ea1 := jfull a1
  show jX m_X6_parishBy 4 0 0 0 [(0, .ref 120), (1, .int a1), (2, .int a2), (3, .int a3), (4, .int 6)] [] _ 0 0 _
  refine x_iloadn (x := a1) rfl rfl ?_
  by_cases c1 : a1.toInt = 1
  ·
    refine x_tableIn (tgt := 65) 1 rfl c1 (by decide) (by decide) rfl rfl ?_
    refine x_aloadn (x := 120) rfl rfl ?_
    refine x_iloadn (x := a2) rfl rfl ?_
    refine x_iloadn (x := a1) rfl rfl ?_
    refine x_iconst (v := 2) rfl ki_2 ?_
    refine x_iloadn (x := a3) rfl rfl ?_
    refine x_inv (N := m_X6_byLatest) (As := [.int a2, .int a1, .int 2, .int a3]) (b := 120) (st := []) (dx9 := 3) (mc := 0) (ms := 0) (host := "") 6 rfl t_X6_byLatest ⟨Or.inl q_6_81, i_X6_byLatest.1, i_X6_byLatest.2⟩ ⟨by decide, rfl⟩ (congrArg Prod.fst (J.1.1 120 (6, 8) rfl)) rfl (by decide) rfl rfl ⟨by decide, by decide⟩ (sf_X6_byLatest_r120 (jr_of rfl (by omega)) (jr_of rfl (by omega)) (jr_of jk_2 (by omega)) (jr_of rfl (by omega)) hD J  (fun v3 h ev3 J S2 => ?_))
    have Sm := jSm_tr rfl Sm S2
    show jX m_X6_parishBy 4 0 0 73 [(0, .ref 120), (1, .int a1), (2, .int a2), (3, .int a3), (4, .int 6)] [.int v3] _ 0 0 _
    refine x_iret rfl rfl ?_
    exact hQ _ _ (jr_of rfl (by omega)) J Sm
  by_cases c4 : a1.toInt = 2
  ·
    refine x_tableIn (tgt := 53) 2 rfl c4 (by decide) (by decide) rfl rfl ?_
    refine x_aloadn (x := 120) rfl rfl ?_
    refine x_iloadn (x := a2) rfl rfl ?_
    refine x_iconst (v := 2) rfl ki_2 ?_
    refine x_iconst (v := 1) rfl ki_1 ?_
    refine x_iloadn (x := a3) rfl rfl ?_
    refine x_bipush (v := 40) rfl kb_40 ?_
    refine z_isub rfl rfl jk_40 (by omega) (fun v5 ev5 => ?_)
    refine x_inv (N := m_X6_byLatest) (As := [.int a2, .int 2, .int 1, .int v5]) (b := 120) (st := []) (dx9 := 3) (mc := 0) (ms := 0) (host := "") 6 rfl t_X6_byLatest ⟨Or.inl q_6_81, i_X6_byLatest.1, i_X6_byLatest.2⟩ ⟨by decide, rfl⟩ (congrArg Prod.fst (J.1.1 120 (6, 8) rfl)) rfl (by decide) rfl rfl ⟨by decide, by decide⟩ (sf_X6_byLatest_r120 (jr_of rfl (by omega)) (jr_of jk_2 (by omega)) (jr_of jk_1 (by omega)) (jr_of rfl (by omega)) hD J  (fun v7 h ev7 J S6 => ?_))
    have Sm := jSm_tr rfl Sm S6
    show jX m_X6_parishBy 4 0 0 64 [(0, .ref 120), (1, .int a1), (2, .int a2), (3, .int a3), (4, .int 6)] [.int v7] _ 0 0 _
    refine x_iret rfl rfl ?_
    exact hQ _ _ (jr_of rfl (by omega)) J Sm
  by_cases c8 : a1.toInt = 3
  ·
    refine x_tableIn (tgt := 65) 3 rfl c8 (by decide) (by decide) rfl rfl ?_
    refine x_aloadn (x := 120) rfl rfl ?_
    refine x_iloadn (x := a2) rfl rfl ?_
    refine x_iloadn (x := a1) rfl rfl ?_
    refine x_iconst (v := 2) rfl ki_2 ?_
    refine x_iloadn (x := a3) rfl rfl ?_
    refine x_inv (N := m_X6_byLatest) (As := [.int a2, .int a1, .int 2, .int a3]) (b := 120) (st := []) (dx9 := 3) (mc := 0) (ms := 0) (host := "") 6 rfl t_X6_byLatest ⟨Or.inl q_6_81, i_X6_byLatest.1, i_X6_byLatest.2⟩ ⟨by decide, rfl⟩ (congrArg Prod.fst (J.1.1 120 (6, 8) rfl)) rfl (by decide) rfl rfl ⟨by decide, by decide⟩ (sf_X6_byLatest_r120 (jr_of rfl (by omega)) (jr_of rfl (by omega)) (jr_of jk_2 (by omega)) (jr_of rfl (by omega)) hD J  (fun v10 h ev10 J S9 => ?_))
    have Sm := jSm_tr rfl Sm S9
    show jX m_X6_parishBy 4 0 0 73 [(0, .ref 120), (1, .int a1), (2, .int a2), (3, .int a3), (4, .int 6)] [.int v10] _ 0 0 _
    refine x_iret rfl rfl ?_
    exact hQ _ _ (jr_of rfl (by omega)) J Sm
  by_cases c11 : a1.toInt = 4
  ·
    refine x_tableIn (tgt := 36) 4 rfl c11 (by decide) (by decide) rfl rfl ?_
    refine x_aloadn (x := 120) rfl rfl ?_
    refine x_iloadn (x := a2) rfl rfl ?_
    refine x_iloadn (x := a3) rfl rfl ?_
    refine x_iload (x := 6) rfl rfl ?_
    refine x_inv (N := m_X6_byWedding) (As := [.int a2, .int a3, .int 6]) (b := 120) (st := []) (dx9 := 1) (mc := 0) (ms := 0) (host := "") 6 rfl t_X6_byWedding ⟨Or.inl q_6_74, i_X6_byWedding.1, i_X6_byWedding.2⟩ ⟨by decide, rfl⟩ (congrArg Prod.fst (J.1.1 120 (6, 8) rfl)) rfl (by decide) rfl rfl ⟨by decide, by decide⟩ (sf_X6_byWedding_r120_c6 (jr_of rfl (by omega)) (jr_of rfl (by omega)) hD J  (fun v13 h ev13 J S12 => ?_))
    have Sm := jSm_tr rfl Sm S12
    show jX m_X6_parishBy 4 0 0 44 [(0, .ref 120), (1, .int a1), (2, .int a2), (3, .int a3), (4, .int 6)] [.int v13] _ 0 0 _
    refine x_iret rfl rfl ?_
    exact hQ _ _ (jr_of rfl (by omega)) J Sm
  by_cases c14 : a1.toInt = 5
  ·
    refine x_tableIn (tgt := 45) 5 rfl c14 (by decide) (by decide) rfl rfl ?_
    refine x_aloadn (x := 120) rfl rfl ?_
    refine x_iloadn (x := a2) rfl rfl ?_
    refine x_iload (x := 6) rfl rfl ?_
    refine x_inv (N := m_X6_byParents) (As := [.int a2, .int 6]) (b := 120) (st := []) (dx9 := 2) (mc := 0) (ms := 0) (host := "") 6 rfl t_X6_byParents ⟨Or.inl q_6_78, i_X6_byParents.1, i_X6_byParents.2⟩ ⟨by decide, rfl⟩ (congrArg Prod.fst (J.1.1 120 (6, 8) rfl)) rfl (by decide) rfl rfl ⟨by decide, by decide⟩ (sf_X6_byParents_r120_c6 (jr_of rfl (by omega)) hD J  (fun v16 h ev16 J S15 => ?_))
    have Sm := jSm_tr rfl Sm S15
    show jX m_X6_parishBy 4 0 0 52 [(0, .ref 120), (1, .int a1), (2, .int a2), (3, .int a3), (4, .int 6)] [.int v16] _ 0 0 _
    refine x_iret rfl rfl ?_
    exact hQ _ _ (jr_of rfl (by omega)) J Sm
  refine x_tableOut (tgt := 74) rfl (by omega) rfl ?_
  refine x_aloadn (x := 120) rfl rfl ?_
  refine x_iloadn (x := a2) rfl rfl ?_
  refine x_iloadn (x := a3) rfl rfl ?_
  refine x_inv (N := m_X6_byBirth) (As := [.int a2, .int a3]) (b := 120) (st := []) (dx9 := 3) (mc := 0) (ms := 0) (host := "") 6 rfl t_X6_byBirth ⟨Or.inl q_6_84, i_X6_byBirth.1, i_X6_byBirth.2⟩ ⟨by decide, rfl⟩ (congrArg Prod.fst (J.1.1 120 (6, 8) rfl)) rfl (by decide) rfl rfl ⟨by decide, by decide⟩ (sf_X6_byBirth_r120 (jr_of rfl (by omega)) (jr_of rfl (by omega)) hD J  (fun v18 h ev18 J S17 => ?_))
  have Sm := jSm_tr rfl Sm S17
  show jX m_X6_parishBy 4 0 0 80 [(0, .ref 120), (1, .int a1), (2, .int a2), (3, .int a3), (4, .int 6)] [.int v18] _ 0 0 _
  refine x_iret rfl rfl ?_
  exact hQ _ _ (jr_of rfl (by omega)) J Sm
def fp_X6_belongs_r120_c6 : jFp := [(85, 0, 4), (98, 10, 11), (98, 11, 12), (98, 12, 13), (99, 0, 30), (100, 0, 30), (101, 0, 3), (102, 0, 40), (103, 0, 40), (104, 0, 40), (105, 0, 3), (106, 0, 100), (120, 6, 7), (120, 7, 8), (121, 0, 42), (122, 0, 42)]
set_option maxRecDepth 100000 in
set_option maxHeartbeats 4000000 in
theorem ct_X6_belongs_r120_c6_25 {Dy : jH → Prop} {h0 : jH} {Q : Option Value → jH → Prop} (hD : jDk Dy) (hQ : ∀ (v : Int32) hx9, (-1) ≤ v.toInt ∧ v.toInt ≤ 11 → jJ jSgX Dy hx9 → jSm fp_X6_belongs_r120_c6 h0 hx9 → Q (some (.int v)) hx9) : ∀ (h : jH), jJ jSgX Dy h → jSm fp_X6_belongs_r120_c6 h0 h → jX m_X6_belongs 6 0 0 25 [] [] h 0 0 Q := by
  intro  h    J Sm
  refine x_iconst (v := (-1)) rfl ki_m1 ?_
  refine x_iret rfl rfl ?_
  exact hQ _ _ (jr_of jk_m1 (by omega)) J Sm
set_option maxRecDepth 100000 in
set_option maxHeartbeats 4000000 in
theorem ct_X6_belongs_r120_c6_238 {Dy : jH → Prop} {h0 : jH} {Q : Option Value → jH → Prop} (hD : jDk Dy) (hQ : ∀ (v : Int32) hx9, (-1) ≤ v.toInt ∧ v.toInt ≤ 11 → jJ jSgX Dy hx9 → jSm fp_X6_belongs_r120_c6 h0 hx9 → Q (some (.int v)) hx9) : ∀ r : Nat, ∀ (l1 : Int32) (l2 : Int32) (l5 : Int32) (l6 : Int32) (l7 : Int32) (h : jH), 6 - l7.toInt < (r : Int) → 0 ≤ l1.toInt ∧ l1.toInt ≤ 599 → 0 ≤ l2.toInt ∧ l2.toInt ≤ 146399 → 0 ≤ l5.toInt ∧ l5.toInt ≤ 6 → 0 ≤ l7.toInt ∧ l7.toInt ≤ 6 → jJ jSgX Dy h → jSm fp_X6_belongs_r120_c6 h0 h → jX m_X6_belongs 6 0 0 238 [(0, .ref 120), (1, .int l1), (2, .int l2), (3, .int 6), (4, .int 36), (5, .int l5), (6, .int l6), (7, .int l7)] [] h 0 0 Q := by
  intro r
  induction r with
  | zero =>
    intro l1 l2 l5 l6 l7 h hm y0 y1 y2 y3   J Sm
    exfalso
    have el6 := jfull l6
    omega
  | succ r ih =>
    intro l1 l2 l5 l6 l7 h hm y0 y1 y2 y3   J Sm
    have el6 := jfull l6
    refine x_iload (x := l7) rfl rfl ?_
    refine x_iload (x := l5) rfl rfl ?_
    refine x_icge (tgt := 298) rfl rfl (ti_ge rfl rfl ⟨fun c1 => ?_, fun c1 => ?_⟩)
    ·
      refine x_aloadn (x := 120) rfl rfl ?_
      refine x_iconst (v := (-1)) rfl ki_m1 ?_
      refine z_putI (N := 8) (w := (-1)) 6 6 rfl f_6_22 rfl (jfin_no TX6 RX6 8 rfl rfl) hD J Sm rfl rfl jk_m1 (pw_120_6 (by omega)) rfl (fun h w2 J Sm => ?_)
      refine x_aloadn (x := 120) rfl rfl ?_
      refine x_iload (x := l6) rfl rfl ?_
      refine z_putI (N := 8) (w := l6.toInt) 6 7 rfl f_6_25 rfl (jfin_no TX6 RX6 8 rfl rfl) hD J Sm rfl rfl rfl (pw_120_7 trivial) rfl (fun h w3 J Sm => ?_)
      refine x_iconst (v := (-1)) rfl ki_m1 ?_
      refine x_iret rfl rfl ?_
      exact hQ _ _ (jr_of jk_m1 (by omega)) J Sm
    ·
      refine x_aloadn (x := 120) rfl rfl ?_
      refine x_aloadn (x := 120) rfl rfl ?_
      refine z_getR (N := 8) (b := 121) 6 3 rfl f_6_11 rfl J rfl 15363 ⟨rfl, rfl⟩ rfl ?_
      refine x_iload (x := 36) rfl rfl ?_
      refine x_iload (x := l7) rfl rfl ?_
      refine z_iadd rfl jk_36 rfl (by omega) (fun v4 ev4 => ?_)
      refine z_iald0 (N := 42) rfl J rfl rfl (by omega) (fun v5 qv5 => ?_)
      have ev5 := jfull v5
      refine x_iloadn (x := l1) rfl rfl ?_
      refine x_iloadn (x := l2) rfl rfl ?_
      refine x_iloadn (x := 6) rfl rfl ?_
      refine x_inv (N := m_X6_parishBy) (As := [.int v5, .int l1, .int l2, .int 6]) (b := 120) (st := []) (dx9 := 4) (mc := 0) (ms := 0) (host := "") 6 rfl t_X6_parishBy ⟨Or.inl q_6_70, i_X6_parishBy.1, i_X6_parishBy.2⟩ ⟨by decide, rfl⟩ (congrArg Prod.fst (J.1.1 120 (6, 8) rfl)) rfl (by decide) rfl rfl ⟨by decide, by decide⟩ (sf_X6_parishBy_r120_c6 (jr_of rfl (by omega)) (jr_of rfl (by omega)) hD J  (fun v7 h ev7 J S6 => ?_))
      have Sm := jSm_tr rfl Sm S6
      show jX m_X6_belongs 6 0 0 262 [(0, .ref 120), (1, .int l1), (2, .int l2), (3, .int 6), (4, .int 36), (5, .int l5), (6, .int l6), (7, .int l7)] [.int v7] _ 0 0 _
      refine x_istore (lsx9 := [(8, .int v7), (0, .ref 120), (1, .int l1), (2, .int l2), (3, .int 6), (4, .int 36), (5, .int l5), (6, .int l6), (7, .int l7)]) rfl rfl rfl ?_
      refine x_iload (x := v7) rfl rfl ?_
      refine x_iconst (v := (-1)) rfl ki_m1 ?_
      refine x_iceq (tgt := 292) rfl rfl (ti_eq rfl jk_m1 ⟨fun c8 => ?_, fun c8 => ?_⟩)
      ·
        refine z_iinc (x := l7) (lsx9 := fun v9 => [(7, .int v9), (8, .int v7), (0, .ref 120), (1, .int l1), (2, .int l2), (3, .int 6), (4, .int 36), (5, .int l5), (6, .int l6)]) rfl rfl rfl jko_1 (by omega) rfl (fun _ => rfl) (fun v9 ev9 => ?_)
        refine x_goto (tgt := 238) rfl rfl ?_
        exact jX.sub (jsb_c rfl (jsb_c rfl (jsb_c rfl (jsb_c rfl (jsb_c rfl (jsb_c rfl (jsb_c rfl (jsb_c rfl jsb_n)))))))) (ih l1 l2 l5 l6 v9 h (by omega) (jr_of rfl (by omega)) (jr_of rfl (by omega)) (jr_of rfl (by omega)) (jr_of rfl (by omega)) J Sm)
      ·
        refine x_aloadn (x := 120) rfl rfl ?_
        refine x_aloadn (x := 120) rfl rfl ?_
        refine z_getR (N := 8) (b := 122) 6 4 rfl f_6_15 rfl J rfl 15364 ⟨rfl, rfl⟩ rfl ?_
        refine x_iload (x := 36) rfl rfl ?_
        refine x_iload (x := l7) rfl rfl ?_
        refine z_iadd rfl jk_36 rfl (by omega) (fun v10 ev10 => ?_)
        refine z_iald (N := 42) rfl J rfl sg_122_0_42_1_0_1 rfl (by omega) (fun v11 qv11 ev11 => ?_)
        refine z_putI (N := 8) (w := v11.toInt) 6 6 rfl f_6_22 rfl (jfin_no TX6 RX6 8 rfl rfl) hD J Sm rfl rfl rfl (pw_120_6 (by omega)) rfl (fun h w12 J Sm => ?_)
        refine x_aloadn (x := 120) rfl rfl ?_
        refine x_iconst (v := 0) rfl ki_0 ?_
        refine z_putI (N := 8) (w := 0) 6 7 rfl f_6_25 rfl (jfin_no TX6 RX6 8 rfl rfl) hD J Sm rfl rfl jk_0 (pw_120_7 trivial) rfl (fun h w13 J Sm => ?_)
        refine x_iload (x := v7) rfl rfl ?_
        refine x_iret rfl rfl ?_
        exact hQ _ _ (jr_of rfl (by omega)) J Sm
set_option maxRecDepth 100000 in
set_option maxHeartbeats 4000000 in
theorem ct_X6_belongs_r120_c6_217 {Dy : jH → Prop} {h0 : jH} {Q : Option Value → jH → Prop} {R54 : Int} {R63 : Int} {R115 : Int} (hD : jDk Dy) (hQ : ∀ (v : Int32) hx9, (-1) ≤ v.toInt ∧ v.toInt ≤ 11 → jJ jSgX Dy hx9 → jSm fp_X6_belongs_r120_c6 h0 hx9 → Q (some (.int v)) hx9) (k54 : ∀ (l1 : Int32) (l2 : Int32) (l5 : Int32) (l6 : Int32) (l7 : Int32) (h : jH), 2 - l7.toInt < R54 → 0 ≤ l1.toInt ∧ l1.toInt ≤ 599 → 0 ≤ l2.toInt ∧ l2.toInt ≤ 146399 → 0 ≤ l5.toInt ∧ l5.toInt ≤ 6 → 0 ≤ l7.toInt ∧ l7.toInt ≤ 2 → jJ jSgX Dy h → jSm fp_X6_belongs_r120_c6 h0 h → jX m_X6_belongs 6 0 0 54 [(0, .ref 120), (1, .int l1), (2, .int l2), (3, .int 6), (4, .int 36), (5, .int l5), (6, .int l6), (7, .int l7)] [] h 0 0 Q) (k63 : ∀ (l1 : Int32) (l2 : Int32) (l5 : Int32) (l6 : Int32) (l7 : Int32) (l8 : Int32) (h : jH), 30 - l8.toInt < R63 → 0 ≤ l1.toInt ∧ l1.toInt ≤ 599 → 0 ≤ l2.toInt ∧ l2.toInt ≤ 146399 → 0 ≤ l5.toInt ∧ l5.toInt ≤ 6 → 0 ≤ l7.toInt ∧ l7.toInt ≤ 1 → 0 ≤ l8.toInt ∧ l8.toInt ≤ 30 → 2 - l7.toInt ≤ R54 → jJ jSgX Dy h → jSm fp_X6_belongs_r120_c6 h0 h → jX m_X6_belongs 6 0 0 63 [(0, .ref 120), (1, .int l1), (2, .int l2), (3, .int 6), (4, .int 36), (5, .int l5), (6, .int l6), (7, .int l7), (8, .int l8)] [] h 0 0 Q) (k115 : ∀ (l1 : Int32) (l2 : Int32) (l5 : Int32) (l6 : Int32) (l7 : Int32) (l8 : Int32) (l9 : Value) (l10 : Int32) (l11 : Int32) (h : jH), 12 - l11.toInt < R115 → 0 ≤ l1.toInt ∧ l1.toInt ≤ 599 → 0 ≤ l2.toInt ∧ l2.toInt ≤ 146399 → 0 ≤ l5.toInt ∧ l5.toInt ≤ 6 → 0 ≤ l7.toInt ∧ l7.toInt ≤ 1 → 0 ≤ l8.toInt ∧ l8.toInt ≤ 29 → 0 ≤ l10.toInt ∧ l10.toInt ≤ 12 → 0 ≤ l11.toInt ∧ l11.toInt ≤ 12 → (l9 = .null ∨ ∃ a, l9 = .ref a ∧ jTx h a) → (l9 = .null → l10.toInt ≤ 0) → 2 - l7.toInt ≤ R54 → 30 - l8.toInt ≤ R63 → jJ jSgX Dy h → jSm fp_X6_belongs_r120_c6 h0 h → jX m_X6_belongs 6 0 0 115 [(0, .ref 120), (1, .int l1), (2, .int l2), (3, .int 6), (4, .int 36), (5, .int l5), (6, .int l6), (7, .int l7), (8, .int l8), (9, l9), (10, .int l10), (11, .int l11)] [] h 0 0 Q) : ∀ (l1 : Int32) (l2 : Int32) (l5 : Int32) (l6 : Int32) (l7 : Int32) (l8 : Int32) (l9 : Nat) (l10 : Int32) (l11 : Int32) (h : jH), 0 ≤ l1.toInt ∧ l1.toInt ≤ 599 → 0 ≤ l2.toInt ∧ l2.toInt ≤ 146399 → 0 ≤ l5.toInt ∧ l5.toInt ≤ 6 → 0 ≤ l7.toInt ∧ l7.toInt ≤ 1 → 0 ≤ l8.toInt ∧ l8.toInt ≤ 29 → 1 ≤ l10.toInt ∧ l10.toInt ≤ 12 → 0 ≤ l11.toInt ∧ l11.toInt ≤ 11 → jTx h l9 → 2 - l7.toInt ≤ R54 → 30 - l8.toInt ≤ R63 → 12 - l11.toInt ≤ R115 → jJ jSgX Dy h → jSm fp_X6_belongs_r120_c6 h0 h → jX m_X6_belongs 6 0 0 217 [(0, .ref 120), (1, .int l1), (2, .int l2), (3, .int 6), (4, .int 36), (5, .int l5), (6, .int l6), (7, .int l7), (8, .int l8), (9, .ref l9), (10, .int l10), (11, .int l11)] [] h 0 0 Q := by
  intro l1 l2 l5 l6 l7 l8 l9 l10 l11 h y0 y1 y2 y3 y4 y5 y6 Tl9  m54 m63 m115 J Sm
  have el6 := jfull l6
  refine z_iinc (x := l11) (lsx9 := fun v1 => [(11, .int v1), (0, .ref 120), (1, .int l1), (2, .int l2), (3, .int 6), (4, .int 36), (5, .int l5), (6, .int l6), (7, .int l7), (8, .int l8), (9, .ref l9), (10, .int l10)]) rfl rfl rfl jko_1 (by omega) rfl (fun _ => rfl) (fun v1 ev1 => ?_)
  refine x_goto (tgt := 115) rfl rfl ?_
  exact jX.sub (jsb_c rfl (jsb_c rfl (jsb_c rfl (jsb_c rfl (jsb_c rfl (jsb_c rfl (jsb_c rfl (jsb_c rfl (jsb_c rfl (jsb_c rfl (jsb_c rfl (jsb_c rfl jsb_n)))))))))))) (k115 l1 l2 l5 l6 l7 l8 (.ref l9) l10 v1 h (by omega) (jr_of rfl (by omega)) (jr_of rfl (by omega)) (jr_of rfl (by omega)) (jr_of rfl (by omega)) (jr_of rfl (by omega)) (jr_of rfl (by omega)) (jr_of rfl (by omega)) (Or.inr ⟨_, rfl, Tl9⟩) (fun q => by cases q) (by omega) (by omega) J Sm)
set_option maxRecDepth 100000 in
set_option maxHeartbeats 4000000 in
theorem ct_X6_belongs_r120_c6_115 {Dy : jH → Prop} {h0 : jH} {Q : Option Value → jH → Prop} {R54 : Int} {R63 : Int} (hD : jDk Dy) (hQ : ∀ (v : Int32) hx9, (-1) ≤ v.toInt ∧ v.toInt ≤ 11 → jJ jSgX Dy hx9 → jSm fp_X6_belongs_r120_c6 h0 hx9 → Q (some (.int v)) hx9) (k54 : ∀ (l1 : Int32) (l2 : Int32) (l5 : Int32) (l6 : Int32) (l7 : Int32) (h : jH), 2 - l7.toInt < R54 → 0 ≤ l1.toInt ∧ l1.toInt ≤ 599 → 0 ≤ l2.toInt ∧ l2.toInt ≤ 146399 → 0 ≤ l5.toInt ∧ l5.toInt ≤ 6 → 0 ≤ l7.toInt ∧ l7.toInt ≤ 2 → jJ jSgX Dy h → jSm fp_X6_belongs_r120_c6 h0 h → jX m_X6_belongs 6 0 0 54 [(0, .ref 120), (1, .int l1), (2, .int l2), (3, .int 6), (4, .int 36), (5, .int l5), (6, .int l6), (7, .int l7)] [] h 0 0 Q) (k63 : ∀ (l1 : Int32) (l2 : Int32) (l5 : Int32) (l6 : Int32) (l7 : Int32) (l8 : Int32) (h : jH), 30 - l8.toInt < R63 → 0 ≤ l1.toInt ∧ l1.toInt ≤ 599 → 0 ≤ l2.toInt ∧ l2.toInt ≤ 146399 → 0 ≤ l5.toInt ∧ l5.toInt ≤ 6 → 0 ≤ l7.toInt ∧ l7.toInt ≤ 1 → 0 ≤ l8.toInt ∧ l8.toInt ≤ 30 → 2 - l7.toInt ≤ R54 → jJ jSgX Dy h → jSm fp_X6_belongs_r120_c6 h0 h → jX m_X6_belongs 6 0 0 63 [(0, .ref 120), (1, .int l1), (2, .int l2), (3, .int 6), (4, .int 36), (5, .int l5), (6, .int l6), (7, .int l7), (8, .int l8)] [] h 0 0 Q) : ∀ r : Nat, ∀ (l1 : Int32) (l2 : Int32) (l5 : Int32) (l6 : Int32) (l7 : Int32) (l8 : Int32) (l9 : Value) (l10 : Int32) (l11 : Int32) (h : jH), 12 - l11.toInt < (r : Int) → 0 ≤ l1.toInt ∧ l1.toInt ≤ 599 → 0 ≤ l2.toInt ∧ l2.toInt ≤ 146399 → 0 ≤ l5.toInt ∧ l5.toInt ≤ 6 → 0 ≤ l7.toInt ∧ l7.toInt ≤ 1 → 0 ≤ l8.toInt ∧ l8.toInt ≤ 29 → 0 ≤ l10.toInt ∧ l10.toInt ≤ 12 → 0 ≤ l11.toInt ∧ l11.toInt ≤ 12 → (l9 = .null ∨ ∃ a, l9 = .ref a ∧ jTx h a) → (l9 = .null → l10.toInt ≤ 0) → 2 - l7.toInt ≤ R54 → 30 - l8.toInt ≤ R63 → jJ jSgX Dy h → jSm fp_X6_belongs_r120_c6 h0 h → jX m_X6_belongs 6 0 0 115 [(0, .ref 120), (1, .int l1), (2, .int l2), (3, .int 6), (4, .int 36), (5, .int l5), (6, .int l6), (7, .int l7), (8, .int l8), (9, l9), (10, .int l10), (11, .int l11)] [] h 0 0 Q := by
  intro r
  induction r with
  | zero =>
    intro l1 l2 l5 l6 l7 l8 l9 l10 l11 h hm y0 y1 y2 y3 y4 y5 y6 Ol9 Ul9  m54 m63 J Sm
    exfalso
    have el6 := jfull l6
    omega
  | succ r ih =>
    intro l1 l2 l5 l6 l7 l8 l9 l10 l11 h hm y0 y1 y2 y3 y4 y5 y6 Ol9 Ul9  m54 m63 J Sm
    have el6 := jfull l6
    rcases Ol9 with rfl | ⟨l9, rfl, Tl9⟩
    ·
      have Ul9 := Ul9 rfl
      refine x_iload (x := l11) rfl rfl ?_
      refine x_iload (x := l10) rfl rfl ?_
      refine x_icge (tgt := 223) rfl rfl (ti_ge rfl rfl (br_t (by omega) ?_))
      refine z_iinc (x := l8) (lsx9 := fun v1 => [(8, .int v1), (0, .ref 120), (1, .int l1), (2, .int l2), (3, .int 6), (4, .int 36), (5, .int l5), (6, .int l6), (7, .int l7), (9, .null), (10, .int l10), (11, .int l11)]) rfl rfl rfl jko_1 (by omega) rfl (fun _ => rfl) (fun v1 ev1 => ?_)
      refine x_goto (tgt := 63) rfl rfl ?_
      exact jX.sub (jsb_c rfl (jsb_c rfl (jsb_c rfl (jsb_c rfl (jsb_c rfl (jsb_c rfl (jsb_c rfl (jsb_c rfl (jsb_c rfl jsb_n))))))))) (k63 l1 l2 l5 l6 l7 v1 h (by omega) (jr_of rfl (by omega)) (jr_of rfl (by omega)) (jr_of rfl (by omega)) (jr_of rfl (by omega)) (jr_of rfl (by omega)) (by omega) J Sm)
    ·
      refine x_iload (x := l11) rfl rfl ?_
      refine x_iload (x := l10) rfl rfl ?_
      refine x_icge (tgt := 223) rfl rfl (ti_ge rfl rfl ⟨fun c2 => ?_, fun c2 => ?_⟩)
      ·
        refine z_iinc (x := l8) (lsx9 := fun v3 => [(8, .int v3), (0, .ref 120), (1, .int l1), (2, .int l2), (3, .int 6), (4, .int 36), (5, .int l5), (6, .int l6), (7, .int l7), (9, .ref l9), (10, .int l10), (11, .int l11)]) rfl rfl rfl jko_1 (by omega) rfl (fun _ => rfl) (fun v3 ev3 => ?_)
        refine x_goto (tgt := 63) rfl rfl ?_
        exact jX.sub (jsb_c rfl (jsb_c rfl (jsb_c rfl (jsb_c rfl (jsb_c rfl (jsb_c rfl (jsb_c rfl (jsb_c rfl (jsb_c rfl jsb_n))))))))) (k63 l1 l2 l5 l6 l7 v3 h (by omega) (jr_of rfl (by omega)) (jr_of rfl (by omega)) (jr_of rfl (by omega)) (jr_of rfl (by omega)) (jr_of rfl (by omega)) (by omega) J Sm)
      ·
        refine x_aload (x := l9) rfl rfl ?_
        refine x_iload (x := l11) rfl rfl ?_
        refine x_iconst (v := 1) rfl ki_1 ?_
        refine x_inv (N := m_X10_head) (As := [.int l11, .int 1]) (b := l9) (st := []) (dx9 := 1) (mc := 0) (ms := 0) (host := "") 10 rfl t_X10_head ⟨Or.inl q_6_62, i_X10_head.1, i_X10_head.2⟩ ⟨by decide, rfl⟩ (congrArg Prod.fst Tl9.1.2.2) rfl (by decide) rfl rfl ⟨by decide, by decide⟩ (c_head Tl9 (fun v4 => ?_))
        have ev4 := jfull v4
        show jX m_X6_belongs 6 0 0 130 [(0, .ref 120), (1, .int l1), (2, .int l2), (3, .int 6), (4, .int 36), (5, .int l5), (6, .int l6), (7, .int l7), (8, .int l8), (9, .ref l9), (10, .int l10), (11, .int l11)] [.int v4] _ 0 0 _
        refine x_istore (lsx9 := [(12, .int v4), (0, .ref 120), (1, .int l1), (2, .int l2), (3, .int 6), (4, .int 36), (5, .int l5), (6, .int l6), (7, .int l7), (8, .int l8), (9, .ref l9), (10, .int l10), (11, .int l11)]) rfl rfl rfl ?_
        refine x_aload (x := l9) rfl rfl ?_
        refine x_iload (x := l11) rfl rfl ?_
        refine x_iconst (v := 0) rfl ki_0 ?_
        refine x_inv (N := m_X10_head) (As := [.int l11, .int 0]) (b := l9) (st := []) (dx9 := 1) (mc := 0) (ms := 0) (host := "") 10 rfl t_X10_head ⟨Or.inl q_6_62, i_X10_head.1, i_X10_head.2⟩ ⟨by decide, rfl⟩ (congrArg Prod.fst Tl9.1.2.2) rfl (by decide) rfl rfl ⟨by decide, by decide⟩ (c_head Tl9 (fun v5 => ?_))
        have ev5 := jfull v5
        show jX m_X6_belongs 6 0 0 140 [(12, .int v4), (0, .ref 120), (1, .int l1), (2, .int l2), (3, .int 6), (4, .int 36), (5, .int l5), (6, .int l6), (7, .int l7), (8, .int l8), (9, .ref l9), (10, .int l10), (11, .int l11)] [.int v5] _ 0 0 _
        refine x_ifne (tgt := 217) rfl rfl (ti_ne rfl jk_0 ⟨fun c6 => ?_, fun c6 => ?_⟩)
        ·
          exact jX.sub (jsb_c rfl (jsb_c rfl (jsb_c rfl (jsb_c rfl (jsb_c rfl (jsb_c rfl (jsb_c rfl (jsb_c rfl (jsb_c rfl (jsb_c rfl (jsb_c rfl (jsb_c rfl jsb_n)))))))))))) (ct_X6_belongs_r120_c6_217 hD hQ k54 k63 ih l1 l2 l5 l6 l7 l8 l9 l10 l11 h (jr_of rfl (by omega)) (jr_of rfl (by omega)) (jr_of rfl (by omega)) (jr_of rfl (by omega)) (jr_of rfl (by omega)) (jr_of rfl (by omega)) (jr_of rfl (by omega)) Tl9 (by omega) (by omega) (by omega) J Sm)
        ·
          refine x_iload (x := l6) rfl rfl ?_
          refine x_iload (x := v4) rfl rfl ?_
          refine z_ishr0 rfl (fun v7 => ?_)
          have ev7 := jfull v7
          refine x_iconst (v := 1) rfl ki_1 ?_
          refine z_iand rfl jk_1 (by decide) (fun v8 ev8 => ?_)
          refine x_ifne (tgt := 217) rfl rfl (ti_ne rfl jk_0 ⟨fun c9 => ?_, fun c9 => ?_⟩)
          ·
            exact jX.sub (jsb_c rfl (jsb_c rfl (jsb_c rfl (jsb_c rfl (jsb_c rfl (jsb_c rfl (jsb_c rfl (jsb_c rfl (jsb_c rfl (jsb_c rfl (jsb_c rfl (jsb_c rfl jsb_n)))))))))))) (ct_X6_belongs_r120_c6_217 hD hQ k54 k63 ih l1 l2 l5 l6 l7 l8 l9 l10 l11 h (jr_of rfl (by omega)) (jr_of rfl (by omega)) (jr_of rfl (by omega)) (jr_of rfl (by omega)) (jr_of rfl (by omega)) (jr_of rfl (by omega)) (jr_of rfl (by omega)) Tl9 (by omega) (by omega) (by omega) J Sm)
          ·
            refine x_iload (x := l5) rfl rfl ?_
            refine x_bipush (v := 6) rfl kb_6 ?_
            refine x_icge (tgt := 217) rfl rfl (ti_ge rfl jk_6 ⟨fun c10 => ?_, fun c10 => ?_⟩)
            ·
              exact jX.sub (jsb_c rfl (jsb_c rfl (jsb_c rfl (jsb_c rfl (jsb_c rfl (jsb_c rfl (jsb_c rfl (jsb_c rfl (jsb_c rfl (jsb_c rfl (jsb_c rfl (jsb_c rfl jsb_n)))))))))))) (ct_X6_belongs_r120_c6_217 hD hQ k54 k63 ih l1 l2 l5 l6 l7 l8 l9 l10 l11 h (jr_of rfl (by omega)) (jr_of rfl (by omega)) (jr_of rfl (by omega)) (jr_of rfl (by omega)) (jr_of rfl (by omega)) (jr_of rfl (by omega)) (jr_of rfl (by omega)) Tl9 (by omega) (by omega) (by omega) J Sm)
            ·
              refine x_aloadn (x := 120) rfl rfl ?_
              refine z_getR (N := 8) (b := 98) 6 2 rfl f_6_36 rfl J rfl 15362 ⟨rfl, rfl⟩ rfl ?_
              refine x_iload (x := l8) rfl rfl ?_
              refine x_iload (x := l11) rfl rfl ?_
              refine x_iloadn (x := l1) rfl rfl ?_
              refine x_inv (N := m_X0_holdsFor) (As := [.int l8, .int l11, .int l1]) (b := 98) (st := []) (dx9 := 5) (mc := 0) (ms := 0) (host := "") 0 rfl t_X0_holdsFor ⟨Or.inl q_6_66, i_X0_holdsFor.1, i_X0_holdsFor.2⟩ ⟨by decide, rfl⟩ (congrArg Prod.fst (J.1.1 98 (0, 16) rfl)) rfl (by decide) rfl rfl ⟨by decide, by decide⟩ (sf_X0_holdsFor_r98 (jr_of rfl (by omega)) (jr_of rfl (by omega)) (jr_of rfl (by omega)) hD J  (fun v12 h ev12 J S11 => ?_))
              have Sm := jSm_tr rfl Sm S11
              have Tl9 := jTx_m S11 rfl Tl9
              show jX m_X6_belongs 6 0 0 172 [(12, .int v4), (0, .ref 120), (1, .int l1), (2, .int l2), (3, .int 6), (4, .int 36), (5, .int l5), (6, .int l6), (7, .int l7), (8, .int l8), (9, .ref l9), (10, .int l10), (11, .int l11)] [.int v12] _ 0 0 _
              refine x_ifeq (tgt := 217) rfl rfl (ti_eq rfl jk_0 ⟨fun c13 => ?_, fun c13 => ?_⟩)
              ·
                exact jX.sub (jsb_c rfl (jsb_c rfl (jsb_c rfl (jsb_c rfl (jsb_c rfl (jsb_c rfl (jsb_c rfl (jsb_c rfl (jsb_c rfl (jsb_c rfl (jsb_c rfl (jsb_c rfl jsb_n)))))))))))) (ct_X6_belongs_r120_c6_217 hD hQ k54 k63 ih l1 l2 l5 l6 l7 l8 l9 l10 l11 h (jr_of rfl (by omega)) (jr_of rfl (by omega)) (jr_of rfl (by omega)) (jr_of rfl (by omega)) (jr_of rfl (by omega)) (jr_of rfl (by omega)) (jr_of rfl (by omega)) Tl9 (by omega) (by omega) (by omega) J Sm)
              ·
                refine x_iload (x := l6) rfl rfl ?_
                refine x_iconst (v := 1) rfl ki_1 ?_
                refine x_iload (x := v4) rfl rfl ?_
                refine z_ishl0 rfl (fun v14 => ?_)
                have ev14 := jfull v14
                refine z_ior0 rfl (fun v15 => ?_)
                have ev15 := jfull v15
                refine x_istore (lsx9 := [(6, .int v15), (12, .int v4), (0, .ref 120), (1, .int l1), (2, .int l2), (3, .int 6), (4, .int 36), (5, .int l5), (7, .int l7), (8, .int l8), (9, .ref l9), (10, .int l10), (11, .int l11)]) rfl rfl rfl ?_
                refine x_aloadn (x := 120) rfl rfl ?_
                refine z_getR (N := 8) (b := 121) 6 3 rfl f_6_11 rfl J rfl 15363 ⟨rfl, rfl⟩ rfl ?_
                refine x_iload (x := 36) rfl rfl ?_
                refine x_iload (x := l5) rfl rfl ?_
                refine z_iadd rfl jk_36 rfl (by omega) (fun v16 ev16 => ?_)
                refine x_iload (x := v4) rfl rfl ?_
                refine z_iast (N := 42) (l := 0) (u := 42) (w := v4.toInt) rfl hD J Sm rfl rfl rfl (by omega) rfl (wr_121) rfl (fun h w17 J Sm => ?_)
                have Tl9 := jTx_i w17 rfl Tl9
                refine x_aloadn (x := 120) rfl rfl ?_
                refine z_getR (N := 8) (b := 122) 6 4 rfl f_6_15 rfl J rfl 15364 ⟨rfl, rfl⟩ rfl ?_
                refine x_iload (x := 36) rfl rfl ?_
                refine x_iload (x := l5) rfl rfl ?_
                refine z_iadd rfl jk_36 rfl (by omega) (fun v18 ev18 => ?_)
                refine x_iload (x := l8) rfl rfl ?_
                refine x_bipush (v := 12) rfl kb_12 ?_
                refine z_imul rfl rfl jk_12 (by omega) (fun v19 ev19 => ?_)
                refine x_iload (x := l11) rfl rfl ?_
                refine z_iadd rfl rfl rfl (by omega) (fun v20 ev20 => ?_)
                refine z_iast (N := 42) (l := 0) (u := 42) (w := v20.toInt) rfl hD J Sm rfl rfl rfl (by omega) rfl (wr_122 (fun q1 q2 q3 q4 => by omega)) rfl (fun h w21 J Sm => ?_)
                have Tl9 := jTx_i w21 rfl Tl9
                refine z_iinc (x := l5) (lsx9 := fun v22 => [(5, .int v22), (6, .int v15), (12, .int v4), (0, .ref 120), (1, .int l1), (2, .int l2), (3, .int 6), (4, .int 36), (7, .int l7), (8, .int l8), (9, .ref l9), (10, .int l10), (11, .int l11)]) rfl rfl rfl jko_1 (by omega) rfl (fun _ => rfl) (fun v22 ev22 => ?_)
                exact jX.sub (jsb_c rfl (jsb_c rfl (jsb_c rfl (jsb_c rfl (jsb_c rfl (jsb_c rfl (jsb_c rfl (jsb_c rfl (jsb_c rfl (jsb_c rfl (jsb_c rfl (jsb_c rfl jsb_n)))))))))))) (ct_X6_belongs_r120_c6_217 hD hQ k54 k63 ih l1 l2 v22 v15 l7 l8 l9 l10 l11 h (jr_of rfl (by omega)) (jr_of rfl (by omega)) (jr_of rfl (by omega)) (jr_of rfl (by omega)) (jr_of rfl (by omega)) (jr_of rfl (by omega)) (jr_of rfl (by omega)) Tl9 (by omega) (by omega) (by omega) J Sm)
set_option maxRecDepth 100000 in
set_option maxHeartbeats 4000000 in
theorem ct_X6_belongs_r120_c6_110 {Dy : jH → Prop} {h0 : jH} {Q : Option Value → jH → Prop} {R54 : Int} {R63 : Int} (hD : jDk Dy) (hQ : ∀ (v : Int32) hx9, (-1) ≤ v.toInt ∧ v.toInt ≤ 11 → jJ jSgX Dy hx9 → jSm fp_X6_belongs_r120_c6 h0 hx9 → Q (some (.int v)) hx9) (k54 : ∀ (l1 : Int32) (l2 : Int32) (l5 : Int32) (l6 : Int32) (l7 : Int32) (h : jH), 2 - l7.toInt < R54 → 0 ≤ l1.toInt ∧ l1.toInt ≤ 599 → 0 ≤ l2.toInt ∧ l2.toInt ≤ 146399 → 0 ≤ l5.toInt ∧ l5.toInt ≤ 6 → 0 ≤ l7.toInt ∧ l7.toInt ≤ 2 → jJ jSgX Dy h → jSm fp_X6_belongs_r120_c6 h0 h → jX m_X6_belongs 6 0 0 54 [(0, .ref 120), (1, .int l1), (2, .int l2), (3, .int 6), (4, .int 36), (5, .int l5), (6, .int l6), (7, .int l7)] [] h 0 0 Q) (k63 : ∀ (l1 : Int32) (l2 : Int32) (l5 : Int32) (l6 : Int32) (l7 : Int32) (l8 : Int32) (h : jH), 30 - l8.toInt < R63 → 0 ≤ l1.toInt ∧ l1.toInt ≤ 599 → 0 ≤ l2.toInt ∧ l2.toInt ≤ 146399 → 0 ≤ l5.toInt ∧ l5.toInt ≤ 6 → 0 ≤ l7.toInt ∧ l7.toInt ≤ 1 → 0 ≤ l8.toInt ∧ l8.toInt ≤ 30 → 2 - l7.toInt ≤ R54 → jJ jSgX Dy h → jSm fp_X6_belongs_r120_c6 h0 h → jX m_X6_belongs 6 0 0 63 [(0, .ref 120), (1, .int l1), (2, .int l2), (3, .int 6), (4, .int 36), (5, .int l5), (6, .int l6), (7, .int l7), (8, .int l8)] [] h 0 0 Q) : ∀ (l1 : Int32) (l2 : Int32) (l5 : Int32) (l6 : Int32) (l7 : Int32) (l8 : Int32) (l9 : Nat) (s0 : Int32) (h : jH), 0 ≤ l1.toInt ∧ l1.toInt ≤ 599 → 0 ≤ l2.toInt ∧ l2.toInt ≤ 146399 → 0 ≤ l5.toInt ∧ l5.toInt ≤ 6 → 0 ≤ l7.toInt ∧ l7.toInt ≤ 1 → 0 ≤ l8.toInt ∧ l8.toInt ≤ 29 → 0 ≤ s0.toInt ∧ s0.toInt ≤ 12 → jTx h l9 → 2 - l7.toInt ≤ R54 → 30 - l8.toInt ≤ R63 → jJ jSgX Dy h → jSm fp_X6_belongs_r120_c6 h0 h → jX m_X6_belongs 6 0 0 110 [(0, .ref 120), (1, .int l1), (2, .int l2), (3, .int 6), (4, .int 36), (5, .int l5), (6, .int l6), (7, .int l7), (8, .int l8), (9, .ref l9)] [.int s0] h 0 0 Q := by
  intro l1 l2 l5 l6 l7 l8 l9 s0 h y0 y1 y2 y3 y4 y5 Tl9  m54 m63 J Sm
  have el6 := jfull l6
  refine x_istore (lsx9 := [(10, .int s0), (0, .ref 120), (1, .int l1), (2, .int l2), (3, .int 6), (4, .int 36), (5, .int l5), (6, .int l6), (7, .int l7), (8, .int l8), (9, .ref l9)]) rfl rfl rfl ?_
  refine x_iconst (v := 0) rfl ki_0 ?_
  refine x_istore (lsx9 := [(11, .int 0), (10, .int s0), (0, .ref 120), (1, .int l1), (2, .int l2), (3, .int 6), (4, .int 36), (5, .int l5), (6, .int l6), (7, .int l7), (8, .int l8), (9, .ref l9)]) rfl rfl rfl ?_
  exact jX.sub (jsb_c rfl (jsb_c rfl (jsb_c rfl (jsb_c rfl (jsb_c rfl (jsb_c rfl (jsb_c rfl (jsb_c rfl (jsb_c rfl (jsb_c rfl (jsb_c rfl (jsb_c rfl jsb_n)))))))))))) (ct_X6_belongs_r120_c6_115 hD hQ k54 k63 13 l1 l2 l5 l6 l7 l8 (.ref l9) s0 0 h (by have := jk_0; omega) (jr_of rfl (by omega)) (jr_of rfl (by omega)) (jr_of rfl (by omega)) (jr_of rfl (by omega)) (jr_of rfl (by omega)) (jr_of rfl (by omega)) (jr_of jk_0 (by omega)) (Or.inr ⟨_, rfl, Tl9⟩) (fun q => by cases q) (by omega) (by omega) J Sm)
set_option maxRecDepth 100000 in
set_option maxHeartbeats 4000000 in
theorem ct_X6_belongs_r120_c6_200110 {Dy : jH → Prop} {h0 : jH} {Q : Option Value → jH → Prop} {R54 : Int} {R63 : Int} (hD : jDk Dy) (hQ : ∀ (v : Int32) hx9, (-1) ≤ v.toInt ∧ v.toInt ≤ 11 → jJ jSgX Dy hx9 → jSm fp_X6_belongs_r120_c6 h0 hx9 → Q (some (.int v)) hx9) (k54 : ∀ (l1 : Int32) (l2 : Int32) (l5 : Int32) (l6 : Int32) (l7 : Int32) (h : jH), 2 - l7.toInt < R54 → 0 ≤ l1.toInt ∧ l1.toInt ≤ 599 → 0 ≤ l2.toInt ∧ l2.toInt ≤ 146399 → 0 ≤ l5.toInt ∧ l5.toInt ≤ 6 → 0 ≤ l7.toInt ∧ l7.toInt ≤ 2 → jJ jSgX Dy h → jSm fp_X6_belongs_r120_c6 h0 h → jX m_X6_belongs 6 0 0 54 [(0, .ref 120), (1, .int l1), (2, .int l2), (3, .int 6), (4, .int 36), (5, .int l5), (6, .int l6), (7, .int l7)] [] h 0 0 Q) (k63 : ∀ (l1 : Int32) (l2 : Int32) (l5 : Int32) (l6 : Int32) (l7 : Int32) (l8 : Int32) (h : jH), 30 - l8.toInt < R63 → 0 ≤ l1.toInt ∧ l1.toInt ≤ 599 → 0 ≤ l2.toInt ∧ l2.toInt ≤ 146399 → 0 ≤ l5.toInt ∧ l5.toInt ≤ 6 → 0 ≤ l7.toInt ∧ l7.toInt ≤ 1 → 0 ≤ l8.toInt ∧ l8.toInt ≤ 30 → 2 - l7.toInt ≤ R54 → jJ jSgX Dy h → jSm fp_X6_belongs_r120_c6 h0 h → jX m_X6_belongs 6 0 0 63 [(0, .ref 120), (1, .int l1), (2, .int l2), (3, .int 6), (4, .int 36), (5, .int l5), (6, .int l6), (7, .int l7), (8, .int l8)] [] h 0 0 Q) : ∀ (l1 : Int32) (l2 : Int32) (l5 : Int32) (l6 : Int32) (l7 : Int32) (l8 : Int32) (l9 : Value) (h : jH), 0 ≤ l1.toInt ∧ l1.toInt ≤ 599 → 0 ≤ l2.toInt ∧ l2.toInt ≤ 146399 → 0 ≤ l5.toInt ∧ l5.toInt ≤ 6 → 0 ≤ l7.toInt ∧ l7.toInt ≤ 1 → 0 ≤ l8.toInt ∧ l8.toInt ≤ 29 → (l9 = .null ∨ ∃ a, l9 = .ref a ∧ jTx h a) → 2 - l7.toInt ≤ R54 → 30 - l8.toInt ≤ R63 → jJ jSgX Dy h → jSm fp_X6_belongs_r120_c6 h0 h → jX m_X6_belongs 6 0 0 110 [(0, .ref 120), (1, .int l1), (2, .int l2), (3, .int 6), (4, .int 36), (5, .int l5), (6, .int l6), (7, .int l7), (8, .int l8), (9, l9)] [.int 0] h 0 0 Q := by
  intro l1 l2 l5 l6 l7 l8 l9 h y0 y1 y2 y3 y4 Ol9  m54 m63 J Sm
  have el6 := jfull l6
  rcases Ol9 with rfl | ⟨l9, rfl, Tl9⟩
  ·
    refine x_istore (lsx9 := [(10, .int 0), (0, .ref 120), (1, .int l1), (2, .int l2), (3, .int 6), (4, .int 36), (5, .int l5), (6, .int l6), (7, .int l7), (8, .int l8), (9, .null)]) rfl rfl rfl ?_
    refine x_iconst (v := 0) rfl ki_0 ?_
    refine x_istore (lsx9 := [(11, .int 0), (10, .int 0), (0, .ref 120), (1, .int l1), (2, .int l2), (3, .int 6), (4, .int 36), (5, .int l5), (6, .int l6), (7, .int l7), (8, .int l8), (9, .null)]) rfl rfl rfl ?_
    exact jX.sub (jsb_c rfl (jsb_c rfl (jsb_c rfl (jsb_c rfl (jsb_c rfl (jsb_c rfl (jsb_c rfl (jsb_c rfl (jsb_c rfl (jsb_c rfl (jsb_c rfl (jsb_c rfl jsb_n)))))))))))) (ct_X6_belongs_r120_c6_115 hD hQ k54 k63 13 l1 l2 l5 l6 l7 l8 .null 0 0 h (by have := jk_0; omega) (jr_of rfl (by omega)) (jr_of rfl (by omega)) (jr_of rfl (by omega)) (jr_of rfl (by omega)) (jr_of rfl (by omega)) (jr_of jk_0 (by omega)) (jr_of jk_0 (by omega)) (Or.inl rfl) (fun _ => by have := jk_0; omega) (by omega) (by omega) J Sm)
  ·
    refine x_istore (lsx9 := [(10, .int 0), (0, .ref 120), (1, .int l1), (2, .int l2), (3, .int 6), (4, .int 36), (5, .int l5), (6, .int l6), (7, .int l7), (8, .int l8), (9, .ref l9)]) rfl rfl rfl ?_
    refine x_iconst (v := 0) rfl ki_0 ?_
    refine x_istore (lsx9 := [(11, .int 0), (10, .int 0), (0, .ref 120), (1, .int l1), (2, .int l2), (3, .int 6), (4, .int 36), (5, .int l5), (6, .int l6), (7, .int l7), (8, .int l8), (9, .ref l9)]) rfl rfl rfl ?_
    exact jX.sub (jsb_c rfl (jsb_c rfl (jsb_c rfl (jsb_c rfl (jsb_c rfl (jsb_c rfl (jsb_c rfl (jsb_c rfl (jsb_c rfl (jsb_c rfl (jsb_c rfl (jsb_c rfl jsb_n)))))))))))) (ct_X6_belongs_r120_c6_115 hD hQ k54 k63 13 l1 l2 l5 l6 l7 l8 (.ref l9) 0 0 h (by have := jk_0; omega) (jr_of rfl (by omega)) (jr_of rfl (by omega)) (jr_of rfl (by omega)) (jr_of rfl (by omega)) (jr_of rfl (by omega)) (jr_of jk_0 (by omega)) (jr_of jk_0 (by omega)) (Or.inr ⟨_, rfl, Tl9⟩) (fun q => by cases q) (by omega) (by omega) J Sm)
set_option maxRecDepth 100000 in
set_option maxHeartbeats 4000000 in
theorem ct_X6_belongs_r120_c6_101 {Dy : jH → Prop} {h0 : jH} {Q : Option Value → jH → Prop} {R54 : Int} {R63 : Int} (hD : jDk Dy) (hQ : ∀ (v : Int32) hx9, (-1) ≤ v.toInt ∧ v.toInt ≤ 11 → jJ jSgX Dy hx9 → jSm fp_X6_belongs_r120_c6 h0 hx9 → Q (some (.int v)) hx9) (k54 : ∀ (l1 : Int32) (l2 : Int32) (l5 : Int32) (l6 : Int32) (l7 : Int32) (h : jH), 2 - l7.toInt < R54 → 0 ≤ l1.toInt ∧ l1.toInt ≤ 599 → 0 ≤ l2.toInt ∧ l2.toInt ≤ 146399 → 0 ≤ l5.toInt ∧ l5.toInt ≤ 6 → 0 ≤ l7.toInt ∧ l7.toInt ≤ 2 → jJ jSgX Dy h → jSm fp_X6_belongs_r120_c6 h0 h → jX m_X6_belongs 6 0 0 54 [(0, .ref 120), (1, .int l1), (2, .int l2), (3, .int 6), (4, .int 36), (5, .int l5), (6, .int l6), (7, .int l7)] [] h 0 0 Q) (k63 : ∀ (l1 : Int32) (l2 : Int32) (l5 : Int32) (l6 : Int32) (l7 : Int32) (l8 : Int32) (h : jH), 30 - l8.toInt < R63 → 0 ≤ l1.toInt ∧ l1.toInt ≤ 599 → 0 ≤ l2.toInt ∧ l2.toInt ≤ 146399 → 0 ≤ l5.toInt ∧ l5.toInt ≤ 6 → 0 ≤ l7.toInt ∧ l7.toInt ≤ 1 → 0 ≤ l8.toInt ∧ l8.toInt ≤ 30 → 2 - l7.toInt ≤ R54 → jJ jSgX Dy h → jSm fp_X6_belongs_r120_c6 h0 h → jX m_X6_belongs 6 0 0 63 [(0, .ref 120), (1, .int l1), (2, .int l2), (3, .int 6), (4, .int 36), (5, .int l5), (6, .int l6), (7, .int l7), (8, .int l8)] [] h 0 0 Q) : ∀ (l1 : Int32) (l2 : Int32) (l5 : Int32) (l6 : Int32) (l7 : Int32) (l8 : Int32) (l9 : Value) (h : jH), 0 ≤ l1.toInt ∧ l1.toInt ≤ 599 → 0 ≤ l2.toInt ∧ l2.toInt ≤ 146399 → 0 ≤ l5.toInt ∧ l5.toInt ≤ 6 → 0 ≤ l7.toInt ∧ l7.toInt ≤ 1 → 0 ≤ l8.toInt ∧ l8.toInt ≤ 29 → (l9 = .null ∨ ∃ a, l9 = .ref a ∧ jTx h a) → 2 - l7.toInt ≤ R54 → 30 - l8.toInt ≤ R63 → jJ jSgX Dy h → jSm fp_X6_belongs_r120_c6 h0 h → jX m_X6_belongs 6 0 0 101 [(0, .ref 120), (1, .int l1), (2, .int l2), (3, .int 6), (4, .int 36), (5, .int l5), (6, .int l6), (7, .int l7), (8, .int l8), (9, l9)] [] h 0 0 Q := by
  intro l1 l2 l5 l6 l7 l8 l9 h y0 y1 y2 y3 y4 Ol9  m54 m63 J Sm
  have el6 := jfull l6
  rcases Ol9 with rfl | ⟨l9, rfl, Tl9⟩
  ·
    refine x_iconst (v := 0) rfl ki_0 ?_
    refine x_goto (tgt := 110) rfl rfl ?_
    exact jX.sub (jsb_c rfl (jsb_c rfl (jsb_c rfl (jsb_c rfl (jsb_c rfl (jsb_c rfl (jsb_c rfl (jsb_c rfl (jsb_c rfl (jsb_c rfl jsb_n)))))))))) (ct_X6_belongs_r120_c6_200110 hD hQ k54 k63 l1 l2 l5 l6 l7 l8 .null h (jr_of rfl (by omega)) (jr_of rfl (by omega)) (jr_of rfl (by omega)) (jr_of rfl (by omega)) (jr_of rfl (by omega)) (Or.inl rfl) (by omega) (by omega) J Sm)
  ·
    refine x_iconst (v := 0) rfl ki_0 ?_
    refine x_goto (tgt := 110) rfl rfl ?_
    exact jX.sub (jsb_c rfl (jsb_c rfl (jsb_c rfl (jsb_c rfl (jsb_c rfl (jsb_c rfl (jsb_c rfl (jsb_c rfl (jsb_c rfl (jsb_c rfl jsb_n)))))))))) (ct_X6_belongs_r120_c6_200110 hD hQ k54 k63 l1 l2 l5 l6 l7 l8 (.ref l9) h (jr_of rfl (by omega)) (jr_of rfl (by omega)) (jr_of rfl (by omega)) (jr_of rfl (by omega)) (jr_of rfl (by omega)) (Or.inr ⟨_, rfl, Tl9⟩) (by omega) (by omega) J Sm)
set_option maxRecDepth 100000 in
set_option maxHeartbeats 4000000 in
theorem ct_X6_belongs_r120_c6_63 {Dy : jH → Prop} {h0 : jH} {Q : Option Value → jH → Prop} {R54 : Int} (hD : jDk Dy) (hQ : ∀ (v : Int32) hx9, (-1) ≤ v.toInt ∧ v.toInt ≤ 11 → jJ jSgX Dy hx9 → jSm fp_X6_belongs_r120_c6 h0 hx9 → Q (some (.int v)) hx9) (k54 : ∀ (l1 : Int32) (l2 : Int32) (l5 : Int32) (l6 : Int32) (l7 : Int32) (h : jH), 2 - l7.toInt < R54 → 0 ≤ l1.toInt ∧ l1.toInt ≤ 599 → 0 ≤ l2.toInt ∧ l2.toInt ≤ 146399 → 0 ≤ l5.toInt ∧ l5.toInt ≤ 6 → 0 ≤ l7.toInt ∧ l7.toInt ≤ 2 → jJ jSgX Dy h → jSm fp_X6_belongs_r120_c6 h0 h → jX m_X6_belongs 6 0 0 54 [(0, .ref 120), (1, .int l1), (2, .int l2), (3, .int 6), (4, .int 36), (5, .int l5), (6, .int l6), (7, .int l7)] [] h 0 0 Q) : ∀ r : Nat, ∀ (l1 : Int32) (l2 : Int32) (l5 : Int32) (l6 : Int32) (l7 : Int32) (l8 : Int32) (h : jH), 30 - l8.toInt < (r : Int) → 0 ≤ l1.toInt ∧ l1.toInt ≤ 599 → 0 ≤ l2.toInt ∧ l2.toInt ≤ 146399 → 0 ≤ l5.toInt ∧ l5.toInt ≤ 6 → 0 ≤ l7.toInt ∧ l7.toInt ≤ 1 → 0 ≤ l8.toInt ∧ l8.toInt ≤ 30 → 2 - l7.toInt ≤ R54 → jJ jSgX Dy h → jSm fp_X6_belongs_r120_c6 h0 h → jX m_X6_belongs 6 0 0 63 [(0, .ref 120), (1, .int l1), (2, .int l2), (3, .int 6), (4, .int 36), (5, .int l5), (6, .int l6), (7, .int l7), (8, .int l8)] [] h 0 0 Q := by
  intro r
  induction r with
  | zero =>
    intro l1 l2 l5 l6 l7 l8 h hm y0 y1 y2 y3 y4  m54 J Sm
    exfalso
    have el6 := jfull l6
    omega
  | succ r ih =>
    intro l1 l2 l5 l6 l7 l8 h hm y0 y1 y2 y3 y4  m54 J Sm
    have el6 := jfull l6
    refine x_iload (x := l8) rfl rfl ?_
    refine x_aloadn (x := 120) rfl rfl ?_
    refine z_getR (N := 8) (b := 32) 6 0 rfl f_6_28 rfl J rfl 15360 ⟨rfl, rfl⟩ rfl ?_
    refine z_getI (N := 20) 1 18 rfl f_6_46 rfl J rfl sg_32_18_19_1_0_1 (fun v1 qv1 ev1 => ?_)
    refine x_icge (tgt := 229) rfl rfl (ti_ge rfl rfl ⟨fun c2 => ?_, fun c2 => ?_⟩)
    ·
      refine z_iinc (x := l7) (lsx9 := fun v3 => [(7, .int v3), (0, .ref 120), (1, .int l1), (2, .int l2), (3, .int 6), (4, .int 36), (5, .int l5), (6, .int l6), (8, .int l8)]) rfl rfl rfl jko_1 (by omega) rfl (fun _ => rfl) (fun v3 ev3 => ?_)
      refine x_goto (tgt := 54) rfl rfl ?_
      exact jX.sub (jsb_c rfl (jsb_c rfl (jsb_c rfl (jsb_c rfl (jsb_c rfl (jsb_c rfl (jsb_c rfl (jsb_c rfl jsb_n)))))))) (k54 l1 l2 l5 l6 v3 h (by omega) (jr_of rfl (by omega)) (jr_of rfl (by omega)) (jr_of rfl (by omega)) (jr_of rfl (by omega)) J Sm)
    ·
      refine x_aloadn (x := 120) rfl rfl ?_
      refine z_getR (N := 8) (b := 98) 6 2 rfl f_6_36 rfl J rfl 15362 ⟨rfl, rfl⟩ rfl ?_
      refine x_iload (x := l8) rfl rfl ?_
      refine x_inv (N := m_X0_textAt) (As := [.int l8]) (b := 98) (st := []) (dx9 := 5) (mc := 0) (ms := 0) (host := "") 0 rfl t_X0_textAt ⟨Or.inl q_6_51, i_X0_textAt.1, i_X0_textAt.2⟩ ⟨by decide, rfl⟩ (congrArg Prod.fst (J.1.1 98 (0, 16) rfl)) rfl (by decide) rfl rfl ⟨by decide, by decide⟩ (jC.of rfl k_X0_textAt rfl ?_)
      show jX m_X0_textAt 5 0 0 0 [(0, .ref 98), (1, .int l8)] [] _ 0 0 _
      refine x_iloadn (x := l8) rfl rfl ?_
      refine x_iflt (tgt := 33) rfl rfl (ti_lt rfl jk_0 (br_f (by omega) ?_))
      refine x_iloadn (x := l8) rfl rfl ?_
      refine x_aloadn (x := 98) rfl rfl ?_
      refine z_getR (N := 16) (b := 32) 0 0 rfl f_0_57 rfl J rfl 12544 ⟨rfl, rfl⟩ rfl ?_
      refine z_getM (N := 20) (v := v1) 1 18 rfl f_0_72 rfl J rfl qv1 ?_
      refine x_icge (tgt := 33) rfl rfl (ti_ge rfl rfl ⟨fun c4 => ?_, fun c4 => ?_⟩)
      ·
        refine x_null rfl ?_
        refine x_aret rfl rfl rfl (Or.inl rfl) ?_
        show jX m_X6_belongs 6 0 0 84 [(0, .ref 120), (1, .int l1), (2, .int l2), (3, .int 6), (4, .int 36), (5, .int l5), (6, .int l6), (7, .int l7), (8, .int l8)] [.null] _ 0 0 _
        refine x_astoreN (lsx9 := [(9, .null), (0, .ref 120), (1, .int l1), (2, .int l2), (3, .int 6), (4, .int 36), (5, .int l5), (6, .int l6), (7, .int l7), (8, .int l8)]) rfl rfl rfl ?_
        refine x_aloadN rfl rfl ?_
        refine x_ifnullN (tgt := 101) rfl rfl ?_
        exact jX.sub (jsb_c rfl (jsb_c rfl (jsb_c rfl (jsb_c rfl (jsb_c rfl (jsb_c rfl (jsb_c rfl (jsb_c rfl (jsb_c rfl (jsb_c rfl jsb_n)))))))))) (ct_X6_belongs_r120_c6_101 hD hQ k54 ih l1 l2 l5 l6 l7 l8 .null h (jr_of rfl (by omega)) (jr_of rfl (by omega)) (jr_of rfl (by omega)) (jr_of rfl (by omega)) (jr_of rfl (by omega)) (Or.inl rfl) (by omega) (by omega) J Sm)
      ·
        refine x_iloadn (x := l8) rfl rfl ?_
        refine x_bipush (v := 30) rfl kb_30 ?_
        refine x_icge (tgt := 33) rfl rfl (ti_ge rfl jk_30 (br_f (by omega) ?_))
        refine x_aloadn (x := 98) rfl rfl ?_
        refine z_getR (N := 16) (b := 32) 0 0 rfl f_0_57 rfl J rfl 12544 ⟨rfl, rfl⟩ rfl ?_
        refine z_getR (N := 20) (b := 66) 1 17 rfl f_0_77 rfl J rfl 4113 ⟨rfl, rfl⟩ rfl ?_
        refine x_iloadn (x := l8) rfl rfl ?_
        refine z_aaldT rfl hD J rfl rfl (by omega) ⟨?_, fun b5 Tb5 => ?_⟩
        ·
          refine x_goto (tgt := 34) rfl rfl ?_
          refine x_aret rfl rfl rfl (Or.inl rfl) ?_
          show jX m_X6_belongs 6 0 0 84 [(0, .ref 120), (1, .int l1), (2, .int l2), (3, .int 6), (4, .int 36), (5, .int l5), (6, .int l6), (7, .int l7), (8, .int l8)] [.null] _ 0 0 _
          refine x_astoreN (lsx9 := [(9, .null), (0, .ref 120), (1, .int l1), (2, .int l2), (3, .int 6), (4, .int 36), (5, .int l5), (6, .int l6), (7, .int l7), (8, .int l8)]) rfl rfl rfl ?_
          refine x_aloadN rfl rfl ?_
          refine x_ifnullN (tgt := 101) rfl rfl ?_
          exact jX.sub (jsb_c rfl (jsb_c rfl (jsb_c rfl (jsb_c rfl (jsb_c rfl (jsb_c rfl (jsb_c rfl (jsb_c rfl (jsb_c rfl (jsb_c rfl jsb_n)))))))))) (ct_X6_belongs_r120_c6_101 hD hQ k54 ih l1 l2 l5 l6 l7 l8 .null h (jr_of rfl (by omega)) (jr_of rfl (by omega)) (jr_of rfl (by omega)) (jr_of rfl (by omega)) (jr_of rfl (by omega)) (Or.inl rfl) (by omega) (by omega) J Sm)
        ·
          refine x_goto (tgt := 34) rfl rfl ?_
          refine x_aret rfl rfl rfl (Or.inr ⟨_, rfl⟩) ?_
          show jX m_X6_belongs 6 0 0 84 [(0, .ref 120), (1, .int l1), (2, .int l2), (3, .int 6), (4, .int 36), (5, .int l5), (6, .int l6), (7, .int l7), (8, .int l8)] [.ref b5] _ 0 0 _
          refine x_astore (lsx9 := [(9, .ref b5), (0, .ref 120), (1, .int l1), (2, .int l2), (3, .int 6), (4, .int 36), (5, .int l5), (6, .int l6), (7, .int l7), (8, .int l8)]) rfl rfl rfl ?_
          refine x_aload (x := b5) rfl rfl ?_
          refine x_ifnull rfl ?_
          refine x_aload (x := b5) rfl rfl ?_
          refine z_getT 0 rfl f_6_55 rfl Tb5 (fun v6 => ?_)
          have ev6 := jfull v6
          refine x_iload (x := l7) rfl rfl ?_
          refine x_iceq (tgt := 105) rfl rfl (ti_eq rfl rfl ⟨fun c7 => ?_, fun c7 => ?_⟩)
          ·
            refine x_aload (x := b5) rfl rfl ?_
            refine z_getTc rfl f_6_60 Tb5 (fun v8 ev8 => ?_)
            exact jX.sub (jsb_c rfl (jsb_c rfl (jsb_c rfl (jsb_c rfl (jsb_c rfl (jsb_c rfl (jsb_c rfl (jsb_c rfl (jsb_c rfl (jsb_c rfl jsb_n)))))))))) (ct_X6_belongs_r120_c6_110 hD hQ k54 ih l1 l2 l5 l6 l7 l8 b5 v8 h (jr_of rfl (by omega)) (jr_of rfl (by omega)) (jr_of rfl (by omega)) (jr_of rfl (by omega)) (jr_of rfl (by omega)) (jr_of rfl (by omega)) Tb5 (by omega) (by omega) J Sm)
          ·
            exact jX.sub (jsb_c rfl (jsb_c rfl (jsb_c rfl (jsb_c rfl (jsb_c rfl (jsb_c rfl (jsb_c rfl (jsb_c rfl (jsb_c rfl (jsb_c rfl jsb_n)))))))))) (ct_X6_belongs_r120_c6_101 hD hQ k54 ih l1 l2 l5 l6 l7 l8 (.ref b5) h (jr_of rfl (by omega)) (jr_of rfl (by omega)) (jr_of rfl (by omega)) (jr_of rfl (by omega)) (jr_of rfl (by omega)) (Or.inr ⟨_, rfl, Tb5⟩) (by omega) (by omega) J Sm)
set_option maxRecDepth 100000 in
set_option maxHeartbeats 4000000 in
theorem ct_X6_belongs_r120_c6_54 {Dy : jH → Prop} {h0 : jH} {Q : Option Value → jH → Prop} (hD : jDk Dy) (hQ : ∀ (v : Int32) hx9, (-1) ≤ v.toInt ∧ v.toInt ≤ 11 → jJ jSgX Dy hx9 → jSm fp_X6_belongs_r120_c6 h0 hx9 → Q (some (.int v)) hx9) : ∀ r : Nat, ∀ (l1 : Int32) (l2 : Int32) (l5 : Int32) (l6 : Int32) (l7 : Int32) (h : jH), 2 - l7.toInt < (r : Int) → 0 ≤ l1.toInt ∧ l1.toInt ≤ 599 → 0 ≤ l2.toInt ∧ l2.toInt ≤ 146399 → 0 ≤ l5.toInt ∧ l5.toInt ≤ 6 → 0 ≤ l7.toInt ∧ l7.toInt ≤ 2 → jJ jSgX Dy h → jSm fp_X6_belongs_r120_c6 h0 h → jX m_X6_belongs 6 0 0 54 [(0, .ref 120), (1, .int l1), (2, .int l2), (3, .int 6), (4, .int 36), (5, .int l5), (6, .int l6), (7, .int l7)] [] h 0 0 Q := by
  intro r
  induction r with
  | zero =>
    intro l1 l2 l5 l6 l7 h hm y0 y1 y2 y3   J Sm
    exfalso
    have el6 := jfull l6
    omega
  | succ r ih =>
    intro l1 l2 l5 l6 l7 h hm y0 y1 y2 y3   J Sm
    have el6 := jfull l6
    refine x_iload (x := l7) rfl rfl ?_
    refine x_iconst (v := 2) rfl ki_2 ?_
    refine x_icge (tgt := 235) rfl rfl (ti_ge rfl jk_2 ⟨fun c1 => ?_, fun c1 => ?_⟩)
    ·
      refine x_iconst (v := 0) rfl ki_0 ?_
      refine x_istore (lsx9 := [(7, .int 0), (0, .ref 120), (1, .int l1), (2, .int l2), (3, .int 6), (4, .int 36), (5, .int l5), (6, .int l6)]) rfl rfl rfl ?_
      exact jX.sub (jsb_c rfl (jsb_c rfl (jsb_c rfl (jsb_c rfl (jsb_c rfl (jsb_c rfl (jsb_c rfl (jsb_c rfl jsb_n)))))))) (ct_X6_belongs_r120_c6_238 hD hQ  7 l1 l2 l5 l6 0 h (by have := jk_0; omega) (jr_of rfl (by omega)) (jr_of rfl (by omega)) (jr_of rfl (by omega)) (jr_of jk_0 (by omega)) J Sm)
    ·
      refine x_iconst (v := 0) rfl ki_0 ?_
      refine x_istore (lsx9 := [(8, .int 0), (0, .ref 120), (1, .int l1), (2, .int l2), (3, .int 6), (4, .int 36), (5, .int l5), (6, .int l6), (7, .int l7)]) rfl rfl rfl ?_
      exact jX.sub (jsb_c rfl (jsb_c rfl (jsb_c rfl (jsb_c rfl (jsb_c rfl (jsb_c rfl (jsb_c rfl (jsb_c rfl (jsb_c rfl jsb_n))))))))) (ct_X6_belongs_r120_c6_63 hD hQ ih 31 l1 l2 l5 l6 l7 0 h (by have := jk_0; omega) (jr_of rfl (by omega)) (jr_of rfl (by omega)) (jr_of rfl (by omega)) (jr_of rfl (by omega)) (jr_of jk_0 (by omega)) (by omega) J Sm)
set_option maxRecDepth 100000 in
set_option maxHeartbeats 4000000 in
theorem sf_X6_belongs_r120_c6 {Dy : jH → Prop} {h : jH} {Q : Option Value → jH → Prop} {a1 : Int32} {a2 : Int32} (y1 : (-1) ≤ a1.toInt ∧ a1.toInt ≤ 599) (y2 : 0 ≤ a2.toInt ∧ a2.toInt ≤ 146399) (hD : jDk Dy) (J : jJ jSgX Dy h) (hQ : ∀ (v : Int32) hx9, (-1) ≤ v.toInt ∧ v.toInt ≤ 11 → jJ jSgX Dy hx9 → jSm fp_X6_belongs_r120_c6 h hx9 → Q (some (.int v)) hx9) : jC m_X6_belongs 6 0 0 [.ref 120, .int a1, .int a2, .int 6] h Q := by
  refine jC.of rfl k_X6_belongs rfl ?_
  have Sm := jSm_rf fp_X6_belongs_r120_c6 h
  show jX m_X6_belongs 6 0 0 0 [(0, .ref 120), (1, .int a1), (2, .int a2), (3, .int 6)] [] _ 0 0 _
  refine x_aloadn (x := 120) rfl rfl ?_
  refine x_iconst (v := (-1)) rfl ki_m1 ?_
  refine z_putI (N := 8) (w := (-1)) 6 6 rfl f_6_22 rfl (jfin_no TX6 RX6 8 rfl rfl) hD J Sm rfl rfl jk_m1 (pw_120_6 (by omega)) rfl (fun h w1 J Sm => ?_)
  refine x_aloadn (x := 120) rfl rfl ?_
  refine x_iconst (v := 0) rfl ki_0 ?_
  refine z_putI (N := 8) (w := 0) 6 7 rfl f_6_25 rfl (jfin_no TX6 RX6 8 rfl rfl) hD J Sm rfl rfl jk_0 (pw_120_7 trivial) rfl (fun h w2 J Sm => ?_)
  refine x_iloadn (x := a1) rfl rfl ?_
  refine x_iconst (v := (-1)) rfl ki_m1 ?_
  refine x_iceq (tgt := 25) rfl rfl (ti_eq rfl jk_m1 ⟨fun c3 => ?_, fun c3 => ?_⟩)
  ·
    exact jX.sub jsb_n (ct_X6_belongs_r120_c6_25 hD hQ  h J Sm)
  ·
    refine x_iloadn (x := 6) rfl rfl ?_
    refine x_iflt (tgt := 25) rfl rfl (ti_lt jk_6 jk_0 (br_f (by omega) ?_))
    refine x_iloadn (x := 6) rfl rfl ?_
    refine x_bipush (v := 6) rfl kb_6 ?_
    refine x_icle (tgt := 27) rfl rfl (ti_le jk_6 jk_6 (br_t (by omega) ?_))
    refine x_aloadn (x := 120) rfl rfl ?_
    refine z_getR (N := 8) (b := 98) 6 2 rfl f_6_36 rfl J rfl 15362 ⟨rfl, rfl⟩ rfl ?_
    refine x_iloadn (x := a2) rfl rfl ?_
    refine x_aloadn (x := 120) rfl rfl ?_
    refine z_getI (N := 8) 6 5 rfl f_6_18 rfl J rfl sg_120_5_6_1_0_1 (fun v4 qv4 ev4 => ?_)
    refine x_inv (N := m_X0_turnTo) (As := [.int a2, .int v4]) (b := 98) (st := []) (dx9 := 5) (mc := 0) (ms := 0) (host := "") 0 rfl t_X0_turnTo ⟨Or.inl q_6_40, i_X0_turnTo.1, i_X0_turnTo.2⟩ ⟨by decide, rfl⟩ (congrArg Prod.fst (J.1.1 98 (0, 16) rfl)) rfl (by decide) rfl rfl ⟨by decide, by decide⟩ (jC.of rfl k_X0_turnTo rfl ?_)
    show jX m_X0_turnTo 5 0 0 0 [(0, .ref 98), (1, .int a2), (2, .int v4)] [] _ 0 0 _
    refine x_aloadn (x := 98) rfl rfl ?_
    refine x_iloadn (x := a2) rfl rfl ?_
    refine x_iloadn (x := v4) rfl rfl ?_
    refine x_inv (N := m_X0_readLaws) (As := [.int a2, .int v4]) (b := 98) (st := []) (dx9 := 3) (mc := 0) (ms := 0) (host := "") 0 rfl t_X0_readLaws ⟨Or.inl q_0_65, i_X0_readLaws.1, i_X0_readLaws.2⟩ ⟨by decide, rfl⟩ (congrArg Prod.fst (J.1.1 98 (0, 16) rfl)) rfl (by decide) rfl rfl ⟨by decide, by decide⟩ (sf_X0_readLaws_r98 (jr_of rfl (by omega)) (jr_of rfl (by omega)) hD J  (fun h J S5 => ?_))
    have Sm := jSm_tr rfl Sm S5
    show jX m_X0_turnTo 5 0 0 6 [(0, .ref 98), (1, .int a2), (2, .int v4)] [] _ 0 0 _
    refine x_aloadn (x := 98) rfl rfl ?_
    refine x_iloadn (x := a2) rfl rfl ?_
    refine x_iloadn (x := v4) rfl rfl ?_
    refine x_inv (N := m_X0_readHouses) (As := [.int a2, .int v4]) (b := 98) (st := []) (dx9 := 3) (mc := 0) (ms := 0) (host := "") 0 rfl t_X0_readHouses ⟨Or.inl q_0_69, i_X0_readHouses.1, i_X0_readHouses.2⟩ ⟨by decide, rfl⟩ (congrArg Prod.fst (J.1.1 98 (0, 16) rfl)) rfl (by decide) rfl rfl ⟨by decide, by decide⟩ (sf_X0_readHouses_r98 (jr_of rfl (by omega)) (jr_of rfl (by omega)) hD J  (fun h J S6 => ?_))
    have Sm := jSm_tr rfl Sm S6
    show jX m_X0_turnTo 5 0 0 12 [(0, .ref 98), (1, .int a2), (2, .int v4)] [] _ 0 0 _
    refine x_vret rfl rfl ?_
    show jX m_X6_belongs 6 0 0 39 [(0, .ref 120), (1, .int a1), (2, .int a2), (3, .int 6)] [] _ 0 0 _
    refine x_iloadn (x := 6) rfl rfl ?_
    refine x_bipush (v := 6) rfl kb_6 ?_
    refine y_imul (v := 36) rfl (by decide) ?_
    refine x_istore (lsx9 := [(4, .int 36), (0, .ref 120), (1, .int a1), (2, .int a2), (3, .int 6)]) rfl rfl rfl ?_
    refine x_iconst (v := 0) rfl ki_0 ?_
    refine x_istore (lsx9 := [(5, .int 0), (4, .int 36), (0, .ref 120), (1, .int a1), (2, .int a2), (3, .int 6)]) rfl rfl rfl ?_
    refine x_iconst (v := 0) rfl ki_0 ?_
    refine x_istore (lsx9 := [(6, .int 0), (5, .int 0), (4, .int 36), (0, .ref 120), (1, .int a1), (2, .int a2), (3, .int 6)]) rfl rfl rfl ?_
    refine x_iconst (v := 0) rfl ki_0 ?_
    refine x_istore (lsx9 := [(7, .int 0), (6, .int 0), (5, .int 0), (4, .int 36), (0, .ref 120), (1, .int a1), (2, .int a2), (3, .int 6)]) rfl rfl rfl ?_
    exact jX.sub (jsb_c rfl (jsb_c rfl (jsb_c rfl (jsb_c rfl (jsb_c rfl (jsb_c rfl (jsb_c rfl (jsb_c rfl jsb_n)))))))) (ct_X6_belongs_r120_c6_54 hD hQ  3 a1 a2 0 0 0 h (by have := jk_0; omega) (jr_of rfl (by omega)) (jr_of rfl (by omega)) (jr_of jk_0 (by omega)) (jr_of jk_0 (by omega)) J Sm)
