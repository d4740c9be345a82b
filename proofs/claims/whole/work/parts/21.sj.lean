def fp_X12_arrear_r125 : jFp := [(125, 0, 1), (125, 28, 29), (125, 31, 32), (125, 32, 33), (125, 33, 34), (125, 34, 35), (125, 35, 36), (125, 57, 58), (125, 61, 62), (125, 62, 63), (125, 63, 64), (125, 64, 65), (125, 65, 66), (125, 66, 67), (137, 0, 80), (138, 0, 2), (139, 0, 600), (140, 0, 200), (152, 0, 360), (153, 0, 30), (154, 0, 400), (155, 0, 360), (162, 0, 80), (163, 0, 80), (164, 0, 40), (165, 0, 40), (166, 0, 40), (167, 0, 40)]
set_option maxRecDepth 100000 in
set_option maxHeartbeats 4000000 in
theorem ct_X12_arrear_r125_55 {Dy : jH → Prop} {h0 : jH} {Q : Option Value → jH → Prop} (hD : jDk Dy) (hQ : ∀ (v : Int32) h', jJ jSgM Dy h' → jSm fp_X12_arrear_r125 h0 h' → Q (some (.int v)) h') : ∀ (h : jH), jJ jSgM Dy h → jSm fp_X12_arrear_r125 h0 h → jX m_X12_arrear 13 0 0 55 [] [] h 0 0 Q := by
  intro  h    J Sm
  refine x_ldcw (v := (-2000000000)) rfl z_12_831 ?_
  refine x_iret rfl rfl ?_
  exact hQ _ _ J Sm
set_option maxRecDepth 100000 in
set_option maxHeartbeats 4000000 in
theorem ct_X12_arrear_r125_170 {Dy : jH → Prop} {h0 : jH} {Q : Option Value → jH → Prop} {R82 : Int} (hD : jDk Dy) (hQ : ∀ (v : Int32) h', jJ jSgM Dy h' → jSm fp_X12_arrear_r125 h0 h' → Q (some (.int v)) h') (k82 : ∀ (l1 : Int32) (l2 : Int32) (l3 : Int32) (l4 : Int32) (l5 : Int32) (l6 : Int32) (h : jH), 100 - l6.toInt < R82 → 0 ≤ l1.toInt ∧ l1.toInt ≤ 39 → 0 ≤ l2.toInt ∧ l2.toInt ≤ 39 → 0 ≤ l3.toInt ∧ l3.toInt ≤ 146399 → 0 ≤ l4.toInt ∧ l4.toInt ≤ 146399 → 0 ≤ l6.toInt ∧ l6.toInt ≤ 100 → jJ jSgM Dy h → jSm fp_X12_arrear_r125 h0 h → jX m_X12_arrear 13 0 0 82 [(0, .ref 125), (1, .int l1), (2, .int l2), (3, .int l3), (4, .int l4), (5, .int l5), (6, .int l6)] [] h 0 0 Q) : ∀ (l1 : Int32) (l2 : Int32) (l3 : Int32) (l4 : Int32) (l6 : Int32) (s0 : Int32) (s1 : Int32) (h : jH), 0 ≤ l1.toInt ∧ l1.toInt ≤ 39 → 0 ≤ l2.toInt ∧ l2.toInt ≤ 39 → 0 ≤ l3.toInt ∧ l3.toInt ≤ 146399 → 0 ≤ l4.toInt ∧ l4.toInt ≤ 146399 → 0 ≤ l6.toInt ∧ l6.toInt ≤ 99 → 0 ≤ s0.toInt ∧ s0.toInt ≤ 1000000 → 100 - l6.toInt ≤ R82 → jJ jSgM Dy h → jSm fp_X12_arrear_r125 h0 h → jX m_X12_arrear 13 0 0 170 [(0, .ref 125), (1, .int l1), (2, .int l2), (3, .int l3), (4, .int l4), (6, .int l6)] [.int s0, .int s1] h 0 0 Q := by
  intro l1 l2 l3 l4 l6 s0 s1 h y0 y1 y2 y3 y4 y5  m82 J Sm
  have es1 := jfull s1
  refine z_isub0 rfl (fun v1 => ?_)
  have ev1 := jfull v1
  refine x_istore (ls' := [(5, .int v1), (0, .ref 125), (1, .int l1), (2, .int l2), (3, .int l3), (4, .int l4), (6, .int l6)]) rfl rfl rfl ?_
  refine z_iinc (x := l6) (ls' := fun v2 => [(6, .int v2), (5, .int v1), (0, .ref 125), (1, .int l1), (2, .int l2), (3, .int l3), (4, .int l4)]) rfl rfl rfl jko_1 (by omega) rfl (fun _ => rfl) (fun v2 ev2 => ?_)
  refine x_goto (tgt := 82) rfl rfl ?_
  exact jX.sub (jsb_c rfl (jsb_c rfl (jsb_c rfl (jsb_c rfl (jsb_c rfl (jsb_c rfl (jsb_c rfl jsb_n))))))) (k82 l1 l2 l3 l4 v1 v2 h (by omega) (jr_of rfl (by omega)) (jr_of rfl (by omega)) (jr_of rfl (by omega)) (jr_of rfl (by omega)) (jr_of rfl (by omega)) J Sm)
set_option maxRecDepth 100000 in
set_option maxHeartbeats 4000000 in
theorem ct_X12_arrear_r125_200170 {Dy : jH → Prop} {h0 : jH} {Q : Option Value → jH → Prop} {R82 : Int} (hD : jDk Dy) (hQ : ∀ (v : Int32) h', jJ jSgM Dy h' → jSm fp_X12_arrear_r125 h0 h' → Q (some (.int v)) h') (k82 : ∀ (l1 : Int32) (l2 : Int32) (l3 : Int32) (l4 : Int32) (l5 : Int32) (l6 : Int32) (h : jH), 100 - l6.toInt < R82 → 0 ≤ l1.toInt ∧ l1.toInt ≤ 39 → 0 ≤ l2.toInt ∧ l2.toInt ≤ 39 → 0 ≤ l3.toInt ∧ l3.toInt ≤ 146399 → 0 ≤ l4.toInt ∧ l4.toInt ≤ 146399 → 0 ≤ l6.toInt ∧ l6.toInt ≤ 100 → jJ jSgM Dy h → jSm fp_X12_arrear_r125 h0 h → jX m_X12_arrear 13 0 0 82 [(0, .ref 125), (1, .int l1), (2, .int l2), (3, .int l3), (4, .int l4), (5, .int l5), (6, .int l6)] [] h 0 0 Q) : ∀ (l1 : Int32) (l2 : Int32) (l3 : Int32) (l4 : Int32) (l6 : Int32) (s1 : Int32) (h : jH), 0 ≤ l1.toInt ∧ l1.toInt ≤ 39 → 0 ≤ l2.toInt ∧ l2.toInt ≤ 39 → 0 ≤ l3.toInt ∧ l3.toInt ≤ 146399 → 0 ≤ l4.toInt ∧ l4.toInt ≤ 146399 → 0 ≤ l6.toInt ∧ l6.toInt ≤ 99 → 100 - l6.toInt ≤ R82 → jJ jSgM Dy h → jSm fp_X12_arrear_r125 h0 h → jX m_X12_arrear 13 0 0 170 [(0, .ref 125), (1, .int l1), (2, .int l2), (3, .int l3), (4, .int l4), (6, .int l6)] [.int 0, .int s1] h 0 0 Q := by
  intro l1 l2 l3 l4 l6 s1 h y0 y1 y2 y3 y4  m82 J Sm
  have es1 := jfull s1
  refine z_isub rfl rfl jk_0 (by omega) (fun v1 ev1 => ?_)
  refine x_istore (ls' := [(5, .int v1), (0, .ref 125), (1, .int l1), (2, .int l2), (3, .int l3), (4, .int l4), (6, .int l6)]) rfl rfl rfl ?_
  refine z_iinc (x := l6) (ls' := fun v2 => [(6, .int v2), (5, .int v1), (0, .ref 125), (1, .int l1), (2, .int l2), (3, .int l3), (4, .int l4)]) rfl rfl rfl jko_1 (by omega) rfl (fun _ => rfl) (fun v2 ev2 => ?_)
  refine x_goto (tgt := 82) rfl rfl ?_
  exact jX.sub (jsb_c rfl (jsb_c rfl (jsb_c rfl (jsb_c rfl (jsb_c rfl (jsb_c rfl (jsb_c rfl jsb_n))))))) (k82 l1 l2 l3 l4 v1 v2 h (by omega) (jr_of rfl (by omega)) (jr_of rfl (by omega)) (jr_of rfl (by omega)) (jr_of rfl (by omega)) (jr_of rfl (by omega)) J Sm)
set_option maxRecDepth 100000 in
set_option maxHeartbeats 4000000 in
theorem ct_X12_arrear_r125_169 {Dy : jH → Prop} {h0 : jH} {Q : Option Value → jH → Prop} {R82 : Int} (hD : jDk Dy) (hQ : ∀ (v : Int32) h', jJ jSgM Dy h' → jSm fp_X12_arrear_r125 h0 h' → Q (some (.int v)) h') (k82 : ∀ (l1 : Int32) (l2 : Int32) (l3 : Int32) (l4 : Int32) (l5 : Int32) (l6 : Int32) (h : jH), 100 - l6.toInt < R82 → 0 ≤ l1.toInt ∧ l1.toInt ≤ 39 → 0 ≤ l2.toInt ∧ l2.toInt ≤ 39 → 0 ≤ l3.toInt ∧ l3.toInt ≤ 146399 → 0 ≤ l4.toInt ∧ l4.toInt ≤ 146399 → 0 ≤ l6.toInt ∧ l6.toInt ≤ 100 → jJ jSgM Dy h → jSm fp_X12_arrear_r125 h0 h → jX m_X12_arrear 13 0 0 82 [(0, .ref 125), (1, .int l1), (2, .int l2), (3, .int l3), (4, .int l4), (5, .int l5), (6, .int l6)] [] h 0 0 Q) : ∀ (l1 : Int32) (l2 : Int32) (l3 : Int32) (l4 : Int32) (l6 : Int32) (s0 : Int32) (h : jH), 0 ≤ l1.toInt ∧ l1.toInt ≤ 39 → 0 ≤ l2.toInt ∧ l2.toInt ≤ 39 → 0 ≤ l3.toInt ∧ l3.toInt ≤ 146399 → 0 ≤ l4.toInt ∧ l4.toInt ≤ 146399 → 0 ≤ l6.toInt ∧ l6.toInt ≤ 99 → 100 - l6.toInt ≤ R82 → jJ jSgM Dy h → jSm fp_X12_arrear_r125 h0 h → jX m_X12_arrear 13 0 0 169 [(0, .ref 125), (1, .int l1), (2, .int l2), (3, .int l3), (4, .int l4), (6, .int l6)] [.int s0] h 0 0 Q := by
  intro l1 l2 l3 l4 l6 s0 h y0 y1 y2 y3 y4  m82 J Sm
  have es0 := jfull s0
  refine x_iconst (v := 0) rfl ki_0 ?_
  exact jX.sub (jsb_c rfl (jsb_c rfl (jsb_c rfl (jsb_c rfl (jsb_c rfl (jsb_c rfl jsb_n)))))) (ct_X12_arrear_r125_200170 hD hQ k82 l1 l2 l3 l4 l6 s0 h (jr_of rfl (by omega)) (jr_of rfl (by omega)) (jr_of rfl (by omega)) (jr_of rfl (by omega)) (jr_of rfl (by omega)) (by omega) J Sm)
set_option maxRecDepth 100000 in
set_option maxHeartbeats 4000000 in
theorem ct_X12_arrear_r125_82 {Dy : jH → Prop} {h0 : jH} {Q : Option Value → jH → Prop} (hD : jDk Dy) (hQ : ∀ (v : Int32) h', jJ jSgM Dy h' → jSm fp_X12_arrear_r125 h0 h' → Q (some (.int v)) h') : ∀ r : Nat, ∀ (l1 : Int32) (l2 : Int32) (l3 : Int32) (l4 : Int32) (l5 : Int32) (l6 : Int32) (h : jH), 100 - l6.toInt < (r : Int) → 0 ≤ l1.toInt ∧ l1.toInt ≤ 39 → 0 ≤ l2.toInt ∧ l2.toInt ≤ 39 → 0 ≤ l3.toInt ∧ l3.toInt ≤ 146399 → 0 ≤ l4.toInt ∧ l4.toInt ≤ 146399 → 0 ≤ l6.toInt ∧ l6.toInt ≤ 100 → jJ jSgM Dy h → jSm fp_X12_arrear_r125 h0 h → jX m_X12_arrear 13 0 0 82 [(0, .ref 125), (1, .int l1), (2, .int l2), (3, .int l3), (4, .int l4), (5, .int l5), (6, .int l6)] [] h 0 0 Q := by
  intro r
  induction r with
  | zero =>
    intro l1 l2 l3 l4 l5 l6 h hm y0 y1 y2 y3 y4   J Sm
    exfalso
    have el5 := jfull l5
    omega
  | succ r ih =>
    intro l1 l2 l3 l4 l5 l6 h hm y0 y1 y2 y3 y4   J Sm
    have el5 := jfull l5
    refine x_iload (x := l6) rfl rfl ?_
    refine x_aloadn (x := 125) rfl rfl ?_
    refine z_getR (N := 92) (b := 126) 12 2 rfl f_12_8 rfl J rfl 16002 ⟨rfl, rfl⟩ rfl ?_
    refine x_bipush (v := 12) rfl kb_12 ?_
    refine z_iald (N := 50660) rfl J rfl sg_126_12_13_1_0_1 jk_12 (by omega) (fun v1 qv1 ev1 => ?_)
    refine x_icge (tgt := 179) rfl rfl (ti_ge rfl rfl ⟨fun c2 => ?_, fun c2 => ?_⟩)
    ·
      refine x_iload (x := l5) rfl rfl ?_
      refine x_iret rfl rfl ?_
      exact hQ _ _ J Sm
    ·
      refine x_ldcw (v := 48460) rfl z_12_830 ?_
      refine x_iconst (v := 5) rfl ki_5 ?_
      refine x_iload (x := l6) rfl rfl ?_
      refine z_imul rfl jk_5 rfl (by omega) (fun v3 ev3 => ?_)
      refine z_iadd rfl jk_48460 rfl (by omega) (fun v4 ev4 => ?_)
      refine x_istore (ls' := [(7, .int v4), (0, .ref 125), (1, .int l1), (2, .int l2), (3, .int l3), (4, .int l4), (5, .int l5), (6, .int l6)]) rfl rfl rfl ?_
      refine x_iload (x := l5) rfl rfl ?_
      refine x_aloadn (x := 125) rfl rfl ?_
      refine z_getR (N := 92) (b := 126) 12 2 rfl f_12_8 rfl J rfl 16002 ⟨rfl, rfl⟩ rfl ?_
      refine x_iload (x := v4) rfl rfl ?_
      refine z_iald (N := 50660) rfl J rfl sg_126_48460_48960_5_0_1 rfl (by omega) (fun v5 qv5 ev5 => ?_)
      refine x_iloadn (x := l1) rfl rfl ?_
      refine x_icne (tgt := 169) rfl rfl (ti_ne rfl rfl ⟨fun c6 => ?_, fun c6 => ?_⟩)
      ·
        exact jX.sub (jsb_c rfl (jsb_c rfl (jsb_c rfl (jsb_c rfl (jsb_c rfl (jsb_c rfl jsb_n)))))) (ct_X12_arrear_r125_169 hD hQ ih l1 l2 l3 l4 l6 l5 h (jr_of rfl (by omega)) (jr_of rfl (by omega)) (jr_of rfl (by omega)) (jr_of rfl (by omega)) (jr_of rfl (by omega)) (by omega) J Sm)
      ·
        refine x_aloadn (x := 125) rfl rfl ?_
        refine z_getR (N := 92) (b := 126) 12 2 rfl f_12_8 rfl J rfl 16002 ⟨rfl, rfl⟩ rfl ?_
        refine x_iload (x := v4) rfl rfl ?_
        refine x_iconst (v := 1) rfl ki_1 ?_
        refine z_iadd rfl rfl jk_1 (by omega) (fun v7 ev7 => ?_)
        refine z_iald (N := 50660) rfl J rfl sg_126_48460_48960_5_1_2 rfl (by omega) (fun v8 qv8 ev8 => ?_)
        refine x_iloadn (x := l2) rfl rfl ?_
        refine x_icne (tgt := 169) rfl rfl (ti_ne rfl rfl ⟨fun c9 => ?_, fun c9 => ?_⟩)
        ·
          exact jX.sub (jsb_c rfl (jsb_c rfl (jsb_c rfl (jsb_c rfl (jsb_c rfl (jsb_c rfl jsb_n)))))) (ct_X12_arrear_r125_169 hD hQ ih l1 l2 l3 l4 l6 l5 h (jr_of rfl (by omega)) (jr_of rfl (by omega)) (jr_of rfl (by omega)) (jr_of rfl (by omega)) (jr_of rfl (by omega)) (by omega) J Sm)
        ·
          refine x_aloadn (x := 125) rfl rfl ?_
          refine z_getR (N := 92) (b := 126) 12 2 rfl f_12_8 rfl J rfl 16002 ⟨rfl, rfl⟩ rfl ?_
          refine x_iload (x := v4) rfl rfl ?_
          refine x_iconst (v := 3) rfl ki_3 ?_
          refine z_iadd rfl rfl jk_3 (by omega) (fun v10 ev10 => ?_)
          refine z_iald (N := 50660) rfl J rfl sg_126_48460_48960_5_3_4 rfl (by omega) (fun v11 qv11 ev11 => ?_)
          refine x_iloadn (x := l3) rfl rfl ?_
          refine x_icgt (tgt := 169) rfl rfl (ti_gt rfl rfl ⟨fun c12 => ?_, fun c12 => ?_⟩)
          ·
            exact jX.sub (jsb_c rfl (jsb_c rfl (jsb_c rfl (jsb_c rfl (jsb_c rfl (jsb_c rfl jsb_n)))))) (ct_X12_arrear_r125_169 hD hQ ih l1 l2 l3 l4 l6 l5 h (jr_of rfl (by omega)) (jr_of rfl (by omega)) (jr_of rfl (by omega)) (jr_of rfl (by omega)) (jr_of rfl (by omega)) (by omega) J Sm)
          ·
            refine x_aloadn (x := 125) rfl rfl ?_
            refine z_getR (N := 92) (b := 126) 12 2 rfl f_12_8 rfl J rfl 16002 ⟨rfl, rfl⟩ rfl ?_
            refine x_iload (x := v4) rfl rfl ?_
            refine x_iconst (v := 4) rfl ki_4 ?_
            refine z_iadd rfl rfl jk_4 (by omega) (fun v13 ev13 => ?_)
            refine z_iald (N := 50660) rfl J rfl sg_126_48460_48960_5_4_5 rfl (by omega) (fun v14 qv14 ev14 => ?_)
            refine x_iload (x := l4) rfl rfl ?_
            refine x_icgt (tgt := 169) rfl rfl (ti_gt rfl rfl ⟨fun c15 => ?_, fun c15 => ?_⟩)
            ·
              exact jX.sub (jsb_c rfl (jsb_c rfl (jsb_c rfl (jsb_c rfl (jsb_c rfl (jsb_c rfl jsb_n)))))) (ct_X12_arrear_r125_169 hD hQ ih l1 l2 l3 l4 l6 l5 h (jr_of rfl (by omega)) (jr_of rfl (by omega)) (jr_of rfl (by omega)) (jr_of rfl (by omega)) (jr_of rfl (by omega)) (by omega) J Sm)
            ·
              refine x_aloadn (x := 125) rfl rfl ?_
              refine z_getR (N := 92) (b := 126) 12 2 rfl f_12_8 rfl J rfl 16002 ⟨rfl, rfl⟩ rfl ?_
              refine x_iload (x := v4) rfl rfl ?_
              refine x_iconst (v := 2) rfl ki_2 ?_
              refine z_iadd rfl rfl jk_2 (by omega) (fun v16 ev16 => ?_)
              refine z_iald (N := 50660) rfl J rfl sg_126_48460_48960_5_2_3 rfl (by omega) (fun v17 qv17 ev17 => ?_)
              refine x_goto (tgt := 170) rfl rfl ?_
              exact jX.sub (jsb_c rfl (jsb_c rfl (jsb_c rfl (jsb_c rfl (jsb_c rfl (jsb_c rfl jsb_n)))))) (ct_X12_arrear_r125_170 hD hQ ih l1 l2 l3 l4 l6 v17 l5 h (jr_of rfl (by omega)) (jr_of rfl (by omega)) (jr_of rfl (by omega)) (jr_of rfl (by omega)) (jr_of rfl (by omega)) (jr_of rfl (by omega)) (by omega) J Sm)
set_option maxRecDepth 100000 in
set_option maxHeartbeats 4000000 in
theorem sf_X12_arrear_r125 {Dy : jH → Prop} {h : jH} {Q : Option Value → jH → Prop} {a1 : Int32} {a2 : Int32} {a3 : Int32} {a4 : Int32} (hD : jDk Dy) (J : jJ jSgM Dy h) (hQ : ∀ (v : Int32) h', jJ jSgM Dy h' → jSm fp_X12_arrear_r125 h h' → Q (some (.int v)) h') : jC m_X12_arrear 13 0 0 [.ref 125, .int a1, .int a2, .int a3, .int a4] h Q := by
  refine jC.of rfl k_X12_arrear rfl ?_
  have Sm := jSm_rf fp_X12_arrear_r125 h
  have ea1 := jfull a1
  have ea2 := jfull a2
  have ea3 := jfull a3
  have ea4 := jfull a4
  show jX m_X12_arrear 13 0 0 0 [(0, .ref 125), (1, .int a1), (2, .int a2), (3, .int a3), (4, .int a4)] [] _ 0 0 _
  refine x_aloadn (x := 125) rfl rfl ?_
  refine x_iconst (v := 0) rfl ki_0 ?_
  refine z_putI (N := 92) (w := 0) 12 0 rfl f_12_180 rfl (jfin_no TX12 RX12 92 rfl rfl) hD J Sm rfl rfl jk_0 (pw_125_0 (by omega)) rfl (fun h w1 J Sm => ?_)
  refine x_aloadn (x := 125) rfl rfl ?_
  refine x_iloadn (x := a1) rfl rfl ?_
  refine x_inv (N := m_X12_isLevy) (As := [.int a1]) (b := 125) (st := []) (d' := 12) (mc := 0) (ms := 0) (host := "") 12 rfl t_X12_isLevy ⟨Or.inl q_12_824, i_X12_isLevy.1, i_X12_isLevy.2⟩ ⟨by decide, rfl⟩ (congrArg Prod.fst (J.1.1 125 (12, 92) rfl)) rfl (by decide) rfl rfl ⟨by decide, by decide⟩ (jC.of rfl k_X12_isLevy rfl ?_)
  show jX m_X12_isLevy 12 0 0 0 [(0, .ref 125), (1, .int a1)] [] _ 0 0 _
  refine x_iloadn (x := a1) rfl rfl ?_
  refine z_i2l rfl rfl (fun v2 ev2 => ?_)
  refine x_lconst (v := 0) rfl kl_0 ?_
  refine x_aloadn (x := 125) rfl rfl ?_
  refine z_getR (N := 92) (b := 126) 12 2 rfl f_12_8 rfl J rfl 16002 ⟨rfl, rfl⟩ rfl ?_
  refine x_bipush (v := 11) rfl kb_11 ?_
  refine z_iald (N := 50660) rfl J rfl sg_126_11_12_1_0_1 jk_11 (by omega) (fun v3 qv3 ev3 => ?_)
  refine z_i2l rfl rfl (fun v4 ev4 => ?_)
  refine x_lconst (v := 1) rfl kl_1 ?_
  refine z_lsub rfl rfl jkl_1 (by omega) (fun v5 ev5 => ?_)
  refine x_inst (N := m_X12_in) (As := [.long v2, .long 0, .long v5]) (st := []) (d' := 1) (mc := 0) (ms := 0) (host := "") rfl t_X12_in ⟨Or.inl q_12_188, s_X12_in⟩ rfl (by decide) rfl rfl ⟨by decide, by decide⟩ (zc_X12_in rfl jkl_0 rfl (fun v6 ev6 => ?_))
  show jX m_X12_isLevy 12 0 0 16 [(0, .ref 125), (1, .int a1)] [.int v6] _ 0 0 _
  refine x_zret rfl rfl (jz01 (by omega)) ?_
  show jX m_X12_arrear 13 0 0 10 [(0, .ref 125), (1, .int a1), (2, .int a2), (3, .int a3), (4, .int a4)] [.int v6] _ 0 0 _
  refine x_ifeq (tgt := 55) rfl rfl (ti_eq rfl jk_0 ⟨fun c7 => ?_, fun c7 => ?_⟩)
  ·
    exact jX.sub jsb_n (ct_X12_arrear_r125_55 hD hQ  h J Sm)
  ·
    refine x_aloadn (x := 125) rfl rfl ?_
    refine x_iloadn (x := a2) rfl rfl ?_
    refine x_inv (N := m_X12_isHolding) (As := [.int a2]) (b := 125) (st := []) (d' := 12) (mc := 0) (ms := 0) (host := "") 12 rfl t_X12_isHolding ⟨Or.inl q_12_811, i_X12_isHolding.1, i_X12_isHolding.2⟩ ⟨by decide, rfl⟩ (congrArg Prod.fst (J.1.1 125 (12, 92) rfl)) rfl (by decide) rfl rfl ⟨by decide, by decide⟩ (jC.of rfl k_X12_isHolding rfl ?_)
    show jX m_X12_isHolding 12 0 0 0 [(0, .ref 125), (1, .int a2)] [] _ 0 0 _
    refine x_iloadn (x := a2) rfl rfl ?_
    refine z_i2l rfl rfl (fun v8 ev8 => ?_)
    refine x_lconst (v := 0) rfl kl_0 ?_
    refine x_aloadn (x := 125) rfl rfl ?_
    refine z_getR (N := 92) (b := 126) 12 2 rfl f_12_8 rfl J rfl 16002 ⟨rfl, rfl⟩ rfl ?_
    refine x_bipush (v := 7) rfl kb_7 ?_
    refine z_iald (N := 50660) rfl J rfl sg_126_7_8_1_0_1 jk_7 (by omega) (fun v9 qv9 ev9 => ?_)
    refine z_i2l rfl rfl (fun v10 ev10 => ?_)
    refine x_lconst (v := 1) rfl kl_1 ?_
    refine z_lsub rfl rfl jkl_1 (by omega) (fun v11 ev11 => ?_)
    refine x_inst (N := m_X12_in) (As := [.long v8, .long 0, .long v11]) (st := []) (d' := 1) (mc := 0) (ms := 0) (host := "") rfl t_X12_in ⟨Or.inl q_12_188, s_X12_in⟩ rfl (by decide) rfl rfl ⟨by decide, by decide⟩ (zc_X12_in rfl jkl_0 rfl (fun v12 ev12 => ?_))
    show jX m_X12_isHolding 12 0 0 16 [(0, .ref 125), (1, .int a2)] [.int v12] _ 0 0 _
    refine x_zret rfl rfl (jz01 (by omega)) ?_
    show jX m_X12_arrear 13 0 0 18 [(0, .ref 125), (1, .int a1), (2, .int a2), (3, .int a3), (4, .int a4)] [.int v12] _ 0 0 _
    refine x_ifeq (tgt := 55) rfl rfl (ti_eq rfl jk_0 ⟨fun c13 => ?_, fun c13 => ?_⟩)
    ·
      exact jX.sub jsb_n (ct_X12_arrear_r125_55 hD hQ  h J Sm)
    ·
      refine x_iloadn (x := a3) rfl rfl ?_
      refine x_inst (N := m_X12_isDay) (As := [.int a3]) (st := []) (d' := 2) (mc := 0) (ms := 0) (host := "") rfl t_X12_isDay ⟨Or.inl q_12_273, s_X12_isDay⟩ rfl (by decide) rfl rfl ⟨by decide, by decide⟩ (zc_X12_isDay (d := 1) rfl (fun v14 ev14 => ?_))
      show jX m_X12_arrear 13 0 0 25 [(0, .ref 125), (1, .int a1), (2, .int a2), (3, .int a3), (4, .int a4)] [.int v14] _ 0 0 _
      refine x_ifeq (tgt := 55) rfl rfl (ti_eq rfl jk_0 ⟨fun c15 => ?_, fun c15 => ?_⟩)
      ·
        exact jX.sub jsb_n (ct_X12_arrear_r125_55 hD hQ  h J Sm)
      ·
        refine x_iload (x := a4) rfl rfl ?_
        refine x_inst (N := m_X12_isDay) (As := [.int a4]) (st := []) (d' := 2) (mc := 0) (ms := 0) (host := "") rfl t_X12_isDay ⟨Or.inl q_12_273, s_X12_isDay⟩ rfl (by decide) rfl rfl ⟨by decide, by decide⟩ (zc_X12_isDay (d := 1) rfl (fun v16 ev16 => ?_))
        show jX m_X12_arrear 13 0 0 33 [(0, .ref 125), (1, .int a1), (2, .int a2), (3, .int a3), (4, .int a4)] [.int v16] _ 0 0 _
        refine x_ifeq (tgt := 55) rfl rfl (ti_eq rfl jk_0 ⟨fun c17 => ?_, fun c17 => ?_⟩)
        ·
          exact jX.sub jsb_n (ct_X12_arrear_r125_55 hD hQ  h J Sm)
        ·
          refine x_aloadn (x := 125) rfl rfl ?_
          refine z_getR (N := 92) (b := 126) 12 2 rfl f_12_8 rfl J rfl 16002 ⟨rfl, rfl⟩ rfl ?_
          refine x_ldcw (v := 48300) rfl z_12_820 ?_
          refine x_iconst (v := 4) rfl ki_4 ?_
          refine x_iloadn (x := a1) rfl rfl ?_
          refine z_imul rfl jk_4 rfl (by omega) (fun v18 ev18 => ?_)
          refine z_iadd rfl jk_48300 rfl (by omega) (fun v19 ev19 => ?_)
          refine x_iconst (v := 3) rfl ki_3 ?_
          refine z_iadd rfl rfl jk_3 (by omega) (fun v20 ev20 => ?_)
          refine z_iald (N := 50660) rfl J rfl sg_126_48300_48460_4_3_4 rfl (by omega) (fun v21 qv21 ev21 => ?_)
          refine x_iload (x := a4) rfl rfl ?_
          refine x_icle (tgt := 59) rfl rfl (ti_le rfl rfl ⟨fun c22 => ?_, fun c22 => ?_⟩)
          ·
            refine x_aloadn (x := 125) rfl rfl ?_
            refine x_iload (x := a4) rfl rfl ?_
            refine x_inv (N := m_X12_find) (As := [.int a4]) (b := 125) (st := []) (d' := 8) (mc := 0) (ms := 0) (host := "") 12 rfl t_X12_find ⟨Or.inl q_12_393, i_X12_find.1, i_X12_find.2⟩ ⟨by decide, rfl⟩ (congrArg Prod.fst (J.1.1 125 (12, 92) rfl)) rfl (by decide) rfl rfl ⟨by decide, by decide⟩ (sf_X12_find_r125 (jr_of rfl (by omega)) hD J  (fun h J S23 => ?_))
            have Sm := jSm_tr rfl Sm S23
            show jX m_X12_arrear 13 0 0 65 [(0, .ref 125), (1, .int a1), (2, .int a2), (3, .int a3), (4, .int a4)] [] _ 0 0 _
            refine x_aloadn (x := 125) rfl rfl ?_
            refine x_iloadn (x := a1) rfl rfl ?_
            refine x_inv (N := m_X12_partLevy) (As := [.int a1]) (b := 125) (st := []) (d' := 12) (mc := 0) (ms := 0) (host := "") 12 rfl t_X12_partLevy ⟨Or.inl q_12_827, i_X12_partLevy.1, i_X12_partLevy.2⟩ ⟨by decide, rfl⟩ (congrArg Prod.fst (J.1.1 125 (12, 92) rfl)) rfl (by decide) rfl rfl ⟨by decide, by decide⟩ (sf_X12_partLevy_r125 (jr_of rfl (by omega)) hD J  (fun h J S24 => ?_))
            have Sm := jSm_tr rfl Sm S24
            show jX m_X12_arrear 13 0 0 70 [(0, .ref 125), (1, .int a1), (2, .int a2), (3, .int a3), (4, .int a4)] [] _ 0 0 _
            refine x_aloadn (x := 125) rfl rfl ?_
            refine z_getR (N := 92) (b := 165) 12 80 rfl f_12_153 rfl J rfl 16080 ⟨rfl, rfl⟩ rfl ?_
            refine x_iloadn (x := a2) rfl rfl ?_
            refine z_lald0 (N := 40) rfl J rfl rfl (by omega) (fun v25 => ?_)
            have ev25 := jfullL v25
            refine z_l2i0 rfl (fun v26 => ?_)
            refine x_istore (ls' := [(5, .int v26), (0, .ref 125), (1, .int a1), (2, .int a2), (3, .int a3), (4, .int a4)]) rfl rfl rfl ?_
            refine x_iconst (v := 0) rfl ki_0 ?_
            refine x_istore (ls' := [(6, .int 0), (5, .int v26), (0, .ref 125), (1, .int a1), (2, .int a2), (3, .int a3), (4, .int a4)]) rfl rfl rfl ?_
            exact jX.sub (jsb_c rfl (jsb_c rfl (jsb_c rfl (jsb_c rfl (jsb_c rfl (jsb_c rfl (jsb_c rfl jsb_n))))))) (ct_X12_arrear_r125_82 hD hQ  101 a1 a2 a3 a4 v26 0 h (by have := jk_0; omega) (jr_of rfl (by omega)) (jr_of rfl (by omega)) (jr_of rfl (by omega)) (jr_of rfl (by omega)) (jr_of jk_0 (by omega)) J Sm)
          ·
            exact jX.sub jsb_n (ct_X12_arrear_r125_55 hD hQ  h J Sm)
def fp_X12_owe_r125 : jFp := [(125, 0, 1), (125, 28, 29), (125, 31, 32), (125, 32, 33), (125, 33, 34), (125, 34, 35), (125, 35, 36), (125, 57, 58), (125, 61, 62), (125, 62, 63), (125, 63, 64), (125, 64, 65), (125, 65, 66), (125, 66, 67), (137, 0, 80), (138, 0, 2), (139, 0, 600), (140, 0, 200), (152, 0, 360), (153, 0, 30), (154, 0, 400), (155, 0, 360), (162, 0, 80), (163, 0, 80), (164, 0, 40), (165, 0, 40), (166, 0, 40), (167, 0, 40)]
set_option maxRecDepth 100000 in
set_option maxHeartbeats 4000000 in
theorem ct_X12_owe_r125_51 {Dy : jH → Prop} {h0 : jH} {Q : Option Value → jH → Prop} (hD : jDk Dy) (hQ : ∀ (v : Int32) h', jJ jSgM Dy h' → jSm fp_X12_owe_r125 h0 h' → Q (some (.int v)) h') : ∀ (h : jH), jJ jSgM Dy h → jSm fp_X12_owe_r125 h0 h → jX m_X12_owe 13 0 0 51 [] [] h 0 0 Q := by
  intro  h    J Sm
  refine x_iconst (v := (-1)) rfl ki_m1 ?_
  refine x_iret rfl rfl ?_
  exact hQ _ _ J Sm
set_option maxRecDepth 100000 in
set_option maxHeartbeats 4000000 in
theorem ct_X12_owe_r125_5000105 {Dy : jH → Prop} {h0 : jH} {Q : Option Value → jH → Prop} {R69 : Int} (hD : jDk Dy) (hQ : ∀ (v : Int32) h', jJ jSgM Dy h' → jSm fp_X12_owe_r125 h0 h' → Q (some (.int v)) h') (k69 : ∀ (l2 : Int32) (l4 : Int64) (l6 : Int32) (h : jH), 40 - l6.toInt < R69 → (-1) ≤ l2.toInt ∧ l2.toInt ≤ 39 → 0 ≤ l6.toInt ∧ l6.toInt ≤ 40 → jJ jSgM Dy h → jSm fp_X12_owe_r125 h0 h → jX m_X12_owe 13 0 0 69 [(0, .ref 125), (2, .int l2), (4, .long l4), (6, .int l6)] [] h 0 0 Q) : ∀ (l2 : Int32) (l6 : Int32) (s1 : Int64) (h : jH), 0 ≤ l2.toInt ∧ l2.toInt ≤ 39 → 0 ≤ l6.toInt ∧ l6.toInt ≤ 39 → 40 - l6.toInt ≤ R69 → jJ jSgM Dy h → jSm fp_X12_owe_r125 h0 h → jX m_X12_owe 13 0 0 105 [(0, .ref 125), (2, .int l2), (6, .int l6)] [.long 0, .long s1] h 0 0 Q := by
  intro l2 l6 s1 h y0 y1  m69 J Sm
  have es1 := jfullL s1
  refine z_ladd rfl rfl jkl_0 (by omega) (fun v1 ev1 => ?_)
  refine x_lstore (ls' := [(4, .long v1), (0, .ref 125), (2, .int l2), (6, .int l6)]) rfl rfl rfl ?_
  refine z_iinc (x := l6) (ls' := fun v2 => [(6, .int v2), (4, .long v1), (0, .ref 125), (2, .int l2)]) rfl rfl rfl jko_1 (by omega) rfl (fun _ => rfl) (fun v2 ev2 => ?_)
  refine x_goto (tgt := 69) rfl rfl ?_
  exact jX.sub (jsb_c rfl (jsb_c rfl (jsb_c rfl (jsb_c rfl jsb_n)))) (k69 l2 v1 v2 h (by omega) (jr_of rfl (by omega)) (jr_of rfl (by omega)) J Sm)
set_option maxRecDepth 100000 in
set_option maxHeartbeats 4000000 in
theorem ct_X12_owe_r125_105 {Dy : jH → Prop} {h0 : jH} {Q : Option Value → jH → Prop} {R69 : Int} (hD : jDk Dy) (hQ : ∀ (v : Int32) h', jJ jSgM Dy h' → jSm fp_X12_owe_r125 h0 h' → Q (some (.int v)) h') (k69 : ∀ (l2 : Int32) (l4 : Int64) (l6 : Int32) (h : jH), 40 - l6.toInt < R69 → (-1) ≤ l2.toInt ∧ l2.toInt ≤ 39 → 0 ≤ l6.toInt ∧ l6.toInt ≤ 40 → jJ jSgM Dy h → jSm fp_X12_owe_r125 h0 h → jX m_X12_owe 13 0 0 69 [(0, .ref 125), (2, .int l2), (4, .long l4), (6, .int l6)] [] h 0 0 Q) : ∀ (l2 : Int32) (l6 : Int32) (s0 : Int64) (s1 : Int64) (h : jH), (-1) ≤ l2.toInt ∧ l2.toInt ≤ 39 → 0 ≤ l6.toInt ∧ l6.toInt ≤ 39 → 40 - l6.toInt ≤ R69 → jJ jSgM Dy h → jSm fp_X12_owe_r125 h0 h → jX m_X12_owe 13 0 0 105 [(0, .ref 125), (2, .int l2), (6, .int l6)] [.long s0, .long s1] h 0 0 Q := by
  intro l2 l6 s0 s1 h y0 y1  m69 J Sm
  have es0 := jfullL s0
  have es1 := jfullL s1
  refine z_ladd0 rfl (fun v1 => ?_)
  have ev1 := jfullL v1
  refine x_lstore (ls' := [(4, .long v1), (0, .ref 125), (2, .int l2), (6, .int l6)]) rfl rfl rfl ?_
  refine z_iinc (x := l6) (ls' := fun v2 => [(6, .int v2), (4, .long v1), (0, .ref 125), (2, .int l2)]) rfl rfl rfl jko_1 (by omega) rfl (fun _ => rfl) (fun v2 ev2 => ?_)
  refine x_goto (tgt := 69) rfl rfl ?_
  exact jX.sub (jsb_c rfl (jsb_c rfl (jsb_c rfl (jsb_c rfl jsb_n)))) (k69 l2 v1 v2 h (by omega) (jr_of rfl (by omega)) (jr_of rfl (by omega)) J Sm)
set_option maxRecDepth 100000 in
set_option maxHeartbeats 4000000 in
theorem ct_X12_owe_r125_94 {Dy : jH → Prop} {h0 : jH} {Q : Option Value → jH → Prop} {R69 : Int} (hD : jDk Dy) (hQ : ∀ (v : Int32) h', jJ jSgM Dy h' → jSm fp_X12_owe_r125 h0 h' → Q (some (.int v)) h') (k69 : ∀ (l2 : Int32) (l4 : Int64) (l6 : Int32) (h : jH), 40 - l6.toInt < R69 → (-1) ≤ l2.toInt ∧ l2.toInt ≤ 39 → 0 ≤ l6.toInt ∧ l6.toInt ≤ 40 → jJ jSgM Dy h → jSm fp_X12_owe_r125 h0 h → jX m_X12_owe 13 0 0 69 [(0, .ref 125), (2, .int l2), (4, .long l4), (6, .int l6)] [] h 0 0 Q) : ∀ (l2 : Int32) (l6 : Int32) (s0 : Int64) (h : jH), (-1) ≤ l2.toInt ∧ l2.toInt ≤ 39 → 0 ≤ l6.toInt ∧ l6.toInt ≤ 39 → 40 - l6.toInt ≤ R69 → jJ jSgM Dy h → jSm fp_X12_owe_r125 h0 h → jX m_X12_owe 13 0 0 94 [(0, .ref 125), (2, .int l2), (6, .int l6)] [.long s0] h 0 0 Q := by
  intro l2 l6 s0 h y0 y1  m69 J Sm
  have es0 := jfullL s0
  refine x_aloadn (x := 125) rfl rfl ?_
  refine z_getR (N := 92) (b := 165) 12 80 rfl f_12_153 rfl J rfl 16080 ⟨rfl, rfl⟩ rfl ?_
  refine x_iload (x := l6) rfl rfl ?_
  refine z_lald0 (N := 40) rfl J rfl rfl (by omega) (fun v1 => ?_)
  have ev1 := jfullL v1
  refine x_goto (tgt := 105) rfl rfl ?_
  exact jX.sub (jsb_c rfl (jsb_c rfl (jsb_c rfl jsb_n))) (ct_X12_owe_r125_105 hD hQ k69 l2 l6 v1 s0 h (jr_of rfl (by omega)) (jr_of rfl (by omega)) (by omega) J Sm)
set_option maxRecDepth 100000 in
set_option maxHeartbeats 4000000 in
theorem ct_X12_owe_r125_69 {Dy : jH → Prop} {h0 : jH} {Q : Option Value → jH → Prop} (hD : jDk Dy) (hQ : ∀ (v : Int32) h', jJ jSgM Dy h' → jSm fp_X12_owe_r125 h0 h' → Q (some (.int v)) h') : ∀ r : Nat, ∀ (l2 : Int32) (l4 : Int64) (l6 : Int32) (h : jH), 40 - l6.toInt < (r : Int) → (-1) ≤ l2.toInt ∧ l2.toInt ≤ 39 → 0 ≤ l6.toInt ∧ l6.toInt ≤ 40 → jJ jSgM Dy h → jSm fp_X12_owe_r125 h0 h → jX m_X12_owe 13 0 0 69 [(0, .ref 125), (2, .int l2), (4, .long l4), (6, .int l6)] [] h 0 0 Q := by
  intro r
  induction r with
  | zero =>
    intro l2 l4 l6 h hm y0 y1   J Sm
    exfalso
    have el4 := jfullL l4
    omega
  | succ r ih =>
    intro l2 l4 l6 h hm y0 y1   J Sm
    have el4 := jfullL l4
    refine x_iload (x := l6) rfl rfl ?_
    refine x_aloadn (x := 125) rfl rfl ?_
    refine z_getR (N := 92) (b := 126) 12 2 rfl f_12_8 rfl J rfl 16002 ⟨rfl, rfl⟩ rfl ?_
    refine x_bipush (v := 7) rfl kb_7 ?_
    refine z_iald (N := 50660) rfl J rfl sg_126_7_8_1_0_1 jk_7 (by omega) (fun v1 qv1 ev1 => ?_)
    refine x_icge (tgt := 114) rfl rfl (ti_ge rfl rfl ⟨fun c2 => ?_, fun c2 => ?_⟩)
    ·
      refine x_lload (x := l4) rfl rfl ?_
      refine z_l2i0 rfl (fun v3 => ?_)
      refine x_iret rfl rfl ?_
      exact hQ _ _ J Sm
    ·
      refine x_lload (x := l4) rfl rfl ?_
      refine x_iloadn (x := l2) rfl rfl ?_
      refine x_iconst (v := (-1)) rfl ki_m1 ?_
      refine x_iceq (tgt := 94) rfl rfl (ti_eq rfl jk_m1 ⟨fun c4 => ?_, fun c4 => ?_⟩)
      ·
        exact jX.sub (jsb_c rfl (jsb_c rfl (jsb_c rfl jsb_n))) (ct_X12_owe_r125_94 hD hQ ih l2 l6 l4 h (jr_of rfl (by omega)) (jr_of rfl (by omega)) (by omega) J Sm)
      ·
        refine x_iloadn (x := l2) rfl rfl ?_
        refine x_iload (x := l6) rfl rfl ?_
        refine x_icne (tgt := 104) rfl rfl (ti_ne rfl rfl ⟨fun c5 => ?_, fun c5 => ?_⟩)
        ·
          refine x_lconst (v := 0) rfl kl_0 ?_
          exact jX.sub (jsb_c rfl (jsb_c rfl (jsb_c rfl jsb_n))) (ct_X12_owe_r125_5000105 hD hQ ih l2 l6 l4 h (jr_of rfl (by omega)) (jr_of rfl (by omega)) (by omega) J Sm)
        ·
          exact jX.sub (jsb_c rfl (jsb_c rfl (jsb_c rfl jsb_n))) (ct_X12_owe_r125_94 hD hQ ih l2 l6 l4 h (jr_of rfl (by omega)) (jr_of rfl (by omega)) (by omega) J Sm)
set_option maxRecDepth 100000 in
set_option maxHeartbeats 4000000 in
theorem ct_X12_owe_r125_26 {Dy : jH → Prop} {h0 : jH} {Q : Option Value → jH → Prop} (hD : jDk Dy) (hQ : ∀ (v : Int32) h', jJ jSgM Dy h' → jSm fp_X12_owe_r125 h0 h' → Q (some (.int v)) h') : ∀ (l1 : Int32) (l2 : Int32) (l3 : Int32) (h : jH), 0 ≤ l1.toInt ∧ l1.toInt ≤ 39 → (-1) ≤ l2.toInt ∧ l2.toInt ≤ 39 → jJ jSgM Dy h → jSm fp_X12_owe_r125 h0 h → jX m_X12_owe 13 0 0 26 [(0, .ref 125), (1, .int l1), (2, .int l2), (3, .int l3)] [] h 0 0 Q := by
  intro l1 l2 l3 h y0 y1   J Sm
  have el3 := jfull l3
  refine x_iloadn (x := l3) rfl rfl ?_
  refine x_inst (N := m_X12_isDay) (As := [.int l3]) (st := []) (d' := 2) (mc := 0) (ms := 0) (host := "") rfl t_X12_isDay ⟨Or.inl q_12_273, s_X12_isDay⟩ rfl (by decide) rfl rfl ⟨by decide, by decide⟩ (zc_X12_isDay (d := 1) rfl (fun v1 ev1 => ?_))
  show jX m_X12_owe 13 0 0 30 [(0, .ref 125), (1, .int l1), (2, .int l2), (3, .int l3)] [.int v1] _ 0 0 _
  refine x_ifeq (tgt := 51) rfl rfl (ti_eq rfl jk_0 ⟨fun c2 => ?_, fun c2 => ?_⟩)
  ·
    exact jX.sub jsb_n (ct_X12_owe_r125_51 hD hQ  h J Sm)
  ·
    refine x_aloadn (x := 125) rfl rfl ?_
    refine z_getR (N := 92) (b := 126) 12 2 rfl f_12_8 rfl J rfl 16002 ⟨rfl, rfl⟩ rfl ?_
    refine x_ldcw (v := 48300) rfl z_12_820 ?_
    refine x_iconst (v := 4) rfl ki_4 ?_
    refine x_iloadn (x := l1) rfl rfl ?_
    refine z_imul rfl jk_4 rfl (by omega) (fun v3 ev3 => ?_)
    refine z_iadd rfl jk_48300 rfl (by omega) (fun v4 ev4 => ?_)
    refine x_iconst (v := 3) rfl ki_3 ?_
    refine z_iadd rfl rfl jk_3 (by omega) (fun v5 ev5 => ?_)
    refine z_iald (N := 50660) rfl J rfl sg_126_48300_48460_4_3_4 rfl (by omega) (fun v6 qv6 ev6 => ?_)
    refine x_iloadn (x := l3) rfl rfl ?_
    refine x_icle (tgt := 53) rfl rfl (ti_le rfl rfl ⟨fun c7 => ?_, fun c7 => ?_⟩)
    ·
      refine x_aloadn (x := 125) rfl rfl ?_
      refine x_iloadn (x := l3) rfl rfl ?_
      refine x_inv (N := m_X12_find) (As := [.int l3]) (b := 125) (st := []) (d' := 8) (mc := 0) (ms := 0) (host := "") 12 rfl t_X12_find ⟨Or.inl q_12_393, i_X12_find.1, i_X12_find.2⟩ ⟨by decide, rfl⟩ (congrArg Prod.fst (J.1.1 125 (12, 92) rfl)) rfl (by decide) rfl rfl ⟨by decide, by decide⟩ (sf_X12_find_r125 (jr_of rfl (by omega)) hD J  (fun h J S8 => ?_))
      have Sm := jSm_tr rfl Sm S8
      show jX m_X12_owe 13 0 0 58 [(0, .ref 125), (1, .int l1), (2, .int l2), (3, .int l3)] [] _ 0 0 _
      refine x_aloadn (x := 125) rfl rfl ?_
      refine x_iloadn (x := l1) rfl rfl ?_
      refine x_inv (N := m_X12_partLevy) (As := [.int l1]) (b := 125) (st := []) (d' := 12) (mc := 0) (ms := 0) (host := "") 12 rfl t_X12_partLevy ⟨Or.inl q_12_827, i_X12_partLevy.1, i_X12_partLevy.2⟩ ⟨by decide, rfl⟩ (congrArg Prod.fst (J.1.1 125 (12, 92) rfl)) rfl (by decide) rfl rfl ⟨by decide, by decide⟩ (sf_X12_partLevy_r125 (jr_of rfl (by omega)) hD J  (fun h J S9 => ?_))
      have Sm := jSm_tr rfl Sm S9
      show jX m_X12_owe 13 0 0 63 [(0, .ref 125), (1, .int l1), (2, .int l2), (3, .int l3)] [] _ 0 0 _
      refine x_lconst (v := 0) rfl kl_0 ?_
      refine x_lstore (ls' := [(4, .long 0), (0, .ref 125), (1, .int l1), (2, .int l2), (3, .int l3)]) rfl rfl rfl ?_
      refine x_iconst (v := 0) rfl ki_0 ?_
      refine x_istore (ls' := [(6, .int 0), (4, .long 0), (0, .ref 125), (1, .int l1), (2, .int l2), (3, .int l3)]) rfl rfl rfl ?_
      exact jX.sub (jsb_c rfl (jsb_c rfl (jsb_c rfl (jsb_c rfl jsb_n)))) (ct_X12_owe_r125_69 hD hQ  41 l2 0 0 h (by have := jk_0; omega) (jr_of rfl (by omega)) (jr_of jk_0 (by omega)) J Sm)
    ·
      exact jX.sub jsb_n (ct_X12_owe_r125_51 hD hQ  h J Sm)
set_option maxRecDepth 100000 in
set_option maxHeartbeats 4000000 in
theorem sf_X12_owe_r125 {Dy : jH → Prop} {h : jH} {Q : Option Value → jH → Prop} {a1 : Int32} {a2 : Int32} {a3 : Int32} (hD : jDk Dy) (J : jJ jSgM Dy h) (hQ : ∀ (v : Int32) h', jJ jSgM Dy h' → jSm fp_X12_owe_r125 h h' → Q (some (.int v)) h') : jC m_X12_owe 13 0 0 [.ref 125, .int a1, .int a2, .int a3] h Q := by
  refine jC.of rfl k_X12_owe rfl ?_
  have Sm := jSm_rf fp_X12_owe_r125 h
  have ea1 := jfull a1
  have ea2 := jfull a2
  have ea3 := jfull a3
  show jX m_X12_owe 13 0 0 0 [(0, .ref 125), (1, .int a1), (2, .int a2), (3, .int a3)] [] _ 0 0 _
  refine x_aloadn (x := 125) rfl rfl ?_
  refine x_iconst (v := 0) rfl ki_0 ?_
  refine z_putI (N := 92) (w := 0) 12 0 rfl f_12_180 rfl (jfin_no TX12 RX12 92 rfl rfl) hD J Sm rfl rfl jk_0 (pw_125_0 (by omega)) rfl (fun h w1 J Sm => ?_)
  refine x_aloadn (x := 125) rfl rfl ?_
  refine x_iloadn (x := a1) rfl rfl ?_
  refine x_inv (N := m_X12_isLevy) (As := [.int a1]) (b := 125) (st := []) (d' := 12) (mc := 0) (ms := 0) (host := "") 12 rfl t_X12_isLevy ⟨Or.inl q_12_824, i_X12_isLevy.1, i_X12_isLevy.2⟩ ⟨by decide, rfl⟩ (congrArg Prod.fst (J.1.1 125 (12, 92) rfl)) rfl (by decide) rfl rfl ⟨by decide, by decide⟩ (jC.of rfl k_X12_isLevy rfl ?_)
  show jX m_X12_isLevy 12 0 0 0 [(0, .ref 125), (1, .int a1)] [] _ 0 0 _
  refine x_iloadn (x := a1) rfl rfl ?_
  refine z_i2l rfl rfl (fun v2 ev2 => ?_)
  refine x_lconst (v := 0) rfl kl_0 ?_
  refine x_aloadn (x := 125) rfl rfl ?_
  refine z_getR (N := 92) (b := 126) 12 2 rfl f_12_8 rfl J rfl 16002 ⟨rfl, rfl⟩ rfl ?_
  refine x_bipush (v := 11) rfl kb_11 ?_
  refine z_iald (N := 50660) rfl J rfl sg_126_11_12_1_0_1 jk_11 (by omega) (fun v3 qv3 ev3 => ?_)
  refine z_i2l rfl rfl (fun v4 ev4 => ?_)
  refine x_lconst (v := 1) rfl kl_1 ?_
  refine z_lsub rfl rfl jkl_1 (by omega) (fun v5 ev5 => ?_)
  refine x_inst (N := m_X12_in) (As := [.long v2, .long 0, .long v5]) (st := []) (d' := 1) (mc := 0) (ms := 0) (host := "") rfl t_X12_in ⟨Or.inl q_12_188, s_X12_in⟩ rfl (by decide) rfl rfl ⟨by decide, by decide⟩ (zc_X12_in rfl jkl_0 rfl (fun v6 ev6 => ?_))
  show jX m_X12_isLevy 12 0 0 16 [(0, .ref 125), (1, .int a1)] [.int v6] _ 0 0 _
  refine x_zret rfl rfl (jz01 (by omega)) ?_
  show jX m_X12_owe 13 0 0 10 [(0, .ref 125), (1, .int a1), (2, .int a2), (3, .int a3)] [.int v6] _ 0 0 _
  refine x_ifeq (tgt := 51) rfl rfl (ti_eq rfl jk_0 ⟨fun c7 => ?_, fun c7 => ?_⟩)
  ·
    exact jX.sub jsb_n (ct_X12_owe_r125_51 hD hQ  h J Sm)
  ·
    refine x_iloadn (x := a2) rfl rfl ?_
    refine x_iconst (v := (-1)) rfl ki_m1 ?_
    refine x_iceq (tgt := 26) rfl rfl (ti_eq rfl jk_m1 ⟨fun c8 => ?_, fun c8 => ?_⟩)
    ·
      exact jX.sub (jsb_c rfl (jsb_c rfl (jsb_c rfl (jsb_c rfl jsb_n)))) (ct_X12_owe_r125_26 hD hQ  a1 a2 a3 h (jr_of rfl (by omega)) (jr_of rfl (by omega)) J Sm)
    ·
      refine x_aloadn (x := 125) rfl rfl ?_
      refine x_iloadn (x := a2) rfl rfl ?_
      refine x_inv (N := m_X12_isHolding) (As := [.int a2]) (b := 125) (st := []) (d' := 12) (mc := 0) (ms := 0) (host := "") 12 rfl t_X12_isHolding ⟨Or.inl q_12_811, i_X12_isHolding.1, i_X12_isHolding.2⟩ ⟨by decide, rfl⟩ (congrArg Prod.fst (J.1.1 125 (12, 92) rfl)) rfl (by decide) rfl rfl ⟨by decide, by decide⟩ (jC.of rfl k_X12_isHolding rfl ?_)
      show jX m_X12_isHolding 12 0 0 0 [(0, .ref 125), (1, .int a2)] [] _ 0 0 _
      refine x_iloadn (x := a2) rfl rfl ?_
      refine z_i2l rfl rfl (fun v9 ev9 => ?_)
      refine x_lconst (v := 0) rfl kl_0 ?_
      refine x_aloadn (x := 125) rfl rfl ?_
      refine z_getR (N := 92) (b := 126) 12 2 rfl f_12_8 rfl J rfl 16002 ⟨rfl, rfl⟩ rfl ?_
      refine x_bipush (v := 7) rfl kb_7 ?_
      refine z_iald (N := 50660) rfl J rfl sg_126_7_8_1_0_1 jk_7 (by omega) (fun v10 qv10 ev10 => ?_)
      refine z_i2l rfl rfl (fun v11 ev11 => ?_)
      refine x_lconst (v := 1) rfl kl_1 ?_
      refine z_lsub rfl rfl jkl_1 (by omega) (fun v12 ev12 => ?_)
      refine x_inst (N := m_X12_in) (As := [.long v9, .long 0, .long v12]) (st := []) (d' := 1) (mc := 0) (ms := 0) (host := "") rfl t_X12_in ⟨Or.inl q_12_188, s_X12_in⟩ rfl (by decide) rfl rfl ⟨by decide, by decide⟩ (zc_X12_in rfl jkl_0 rfl (fun v13 ev13 => ?_))
      show jX m_X12_isHolding 12 0 0 16 [(0, .ref 125), (1, .int a2)] [.int v13] _ 0 0 _
      refine x_zret rfl rfl (jz01 (by omega)) ?_
      show jX m_X12_owe 13 0 0 23 [(0, .ref 125), (1, .int a1), (2, .int a2), (3, .int a3)] [.int v13] _ 0 0 _
      refine x_ifeq (tgt := 51) rfl rfl (ti_eq rfl jk_0 ⟨fun c14 => ?_, fun c14 => ?_⟩)
      ·
        exact jX.sub jsb_n (ct_X12_owe_r125_51 hD hQ  h J Sm)
      ·
        exact jX.sub (jsb_c rfl (jsb_c rfl (jsb_c rfl (jsb_c rfl jsb_n)))) (ct_X12_owe_r125_26 hD hQ  a1 a2 a3 h (jr_of rfl (by omega)) (jr_of rfl (by omega)) J Sm)
