def fp_X12_kindAt_r125 : jFp := []
set_option maxRecDepth 100000 in
set_option maxHeartbeats 4000000 in
theorem ct_X12_kindAt_r125_400059 {Dy : jH → Prop} {h0 : jH} {Q : Option Value → jH → Prop} (hD : jDk Dy) (hQ : ∀ (v : Int32) hx9, (-1) ≤ v.toInt ∧ v.toInt ≤ 8 → jJ jSgM Dy hx9 → jSm fp_X12_kindAt_r125 h0 hx9 → Q (some (.int v)) hx9) : ∀ (h : jH), jJ jSgM Dy h → jSm fp_X12_kindAt_r125 h0 h → jX m_X12_kindAt 2 0 0 59 [] [.int 2] h 0 0 Q := by
  intro  h    J Sm
  refine x_iret rfl rfl ?_
  exact hQ _ _ (jr_of jk_2 (by omega)) J Sm
set_option maxRecDepth 100000 in
set_option maxHeartbeats 4000000 in
theorem ct_X12_kindAt_r125_300059 {Dy : jH → Prop} {h0 : jH} {Q : Option Value → jH → Prop} (hD : jDk Dy) (hQ : ∀ (v : Int32) hx9, (-1) ≤ v.toInt ∧ v.toInt ≤ 8 → jJ jSgM Dy hx9 → jSm fp_X12_kindAt_r125 h0 hx9 → Q (some (.int v)) hx9) : ∀ (h : jH), jJ jSgM Dy h → jSm fp_X12_kindAt_r125 h0 h → jX m_X12_kindAt 2 0 0 59 [] [.int 1] h 0 0 Q := by
  intro  h    J Sm
  refine x_iret rfl rfl ?_
  exact hQ _ _ (jr_of jk_1 (by omega)) J Sm
set_option maxRecDepth 100000 in
set_option maxHeartbeats 4000000 in
theorem ct_X12_kindAt_r125_200059 {Dy : jH → Prop} {h0 : jH} {Q : Option Value → jH → Prop} (hD : jDk Dy) (hQ : ∀ (v : Int32) hx9, (-1) ≤ v.toInt ∧ v.toInt ≤ 8 → jJ jSgM Dy hx9 → jSm fp_X12_kindAt_r125 h0 hx9 → Q (some (.int v)) hx9) : ∀ (h : jH), jJ jSgM Dy h → jSm fp_X12_kindAt_r125 h0 h → jX m_X12_kindAt 2 0 0 59 [] [.int 0] h 0 0 Q := by
  intro  h    J Sm
  refine x_iret rfl rfl ?_
  exact hQ _ _ (jr_of jk_0 (by omega)) J Sm
set_option maxRecDepth 100000 in
set_option maxHeartbeats 4000000 in
theorem ct_X12_kindAt_r125_30 {Dy : jH → Prop} {h0 : jH} {Q : Option Value → jH → Prop} (hD : jDk Dy) (hQ : ∀ (v : Int32) hx9, (-1) ≤ v.toInt ∧ v.toInt ≤ 8 → jJ jSgM Dy hx9 → jSm fp_X12_kindAt_r125 h0 hx9 → Q (some (.int v)) hx9) : ∀ (g0 : Int32) (h : jH), 1 ≤ g0.toInt ∧ g0.toInt ≤ 1 → jiv h 125 11 = g0 → jJ jSgM Dy h → jSm fp_X12_kindAt_r125 h0 h → jX m_X12_kindAt 2 0 0 30 [(0, .ref 125)] [] h 0 0 Q := by
  intro g0 h y0 z0  J Sm
  refine x_aloadn (x := 125) rfl rfl ?_
  refine x_ldc2 (v := 659105125) rfl z_12_615 ?_
  refine x_inv (N := m_X12_isWord) (As := [.long 659105125]) (b := 125) (st := []) (dx9 := 1) (mc := 0) (ms := 0) (host := "") 12 rfl t_X12_isWord ⟨Or.inl q_12_511, i_X12_isWord.1, i_X12_isWord.2⟩ ⟨by decide, rfl⟩ (congrArg Prod.fst (J.1.1 125 (12, 92) rfl)) rfl (by decide) rfl rfl ⟨by decide, by decide⟩ (jC.of rfl k_X12_isWord rfl ?_)
  show jX m_X12_isWord 1 0 0 0 [(0, .ref 125), (1, .long 659105125)] [] _ 0 0 _
  refine x_aloadn (x := 125) rfl rfl ?_
  refine z_getM (N := 92) (v := g0) 12 11 rfl f_12_235 rfl J rfl z0 ?_
  refine x_iconst (v := 1) rfl ki_1 ?_
  refine x_icne (tgt := 21) rfl rfl (ti_ne rfl jk_1 (bn_f (by omega) ?_))
  refine x_aloadn (x := 125) rfl rfl ?_
  refine z_getL0 (N := 92) 12 12 rfl f_12_224 rfl J rfl (fun v1 => ?_)
  have ev1 := jfullL v1
  refine x_lloadn (x := 659105125) rfl rfl ?_
  refine z_lcmp rfl rfl jkl_659105125 (fun v2 ev2 => ?_)
  refine x_ifne (tgt := 21) rfl rfl (ti_ne rfl jk_0 ⟨fun c3 => ?_, fun c3 => ?_⟩)
  ·
    refine x_iconst (v := 0) rfl ki_0 ?_
    refine x_zret rfl rfl (by decide) ?_
    show jX m_X12_kindAt 2 0 0 37 [(0, .ref 125)] [.int 0] _ 0 0 _
    refine x_ifeq (tgt := 44) rfl rfl (ti_eq jk_0 jk_0 (br_t (by omega) ?_))
    refine x_aloadn (x := 125) rfl rfl ?_
    refine x_ldc2 (v := 72760775) rfl z_12_617 ?_
    refine x_inv (N := m_X12_isWord) (As := [.long 72760775]) (b := 125) (st := []) (dx9 := 1) (mc := 0) (ms := 0) (host := "") 12 rfl t_X12_isWord ⟨Or.inl q_12_511, i_X12_isWord.1, i_X12_isWord.2⟩ ⟨by decide, rfl⟩ (congrArg Prod.fst (J.1.1 125 (12, 92) rfl)) rfl (by decide) rfl rfl ⟨by decide, by decide⟩ (jC.of rfl k_X12_isWord rfl ?_)
    show jX m_X12_isWord 1 0 0 0 [(0, .ref 125), (1, .long 72760775)] [] _ 0 0 _
    refine x_aloadn (x := 125) rfl rfl ?_
    refine z_getM (N := 92) (v := g0) 12 11 rfl f_12_235 rfl J rfl z0 ?_
    refine x_iconst (v := 1) rfl ki_1 ?_
    refine x_icne (tgt := 21) rfl rfl (ti_ne rfl jk_1 (bn_f (by omega) ?_))
    refine x_aloadn (x := 125) rfl rfl ?_
    refine z_getL0 (N := 92) 12 12 rfl f_12_224 rfl J rfl (fun v4 => ?_)
    have ev4 := jfullL v4
    refine x_lloadn (x := 72760775) rfl rfl ?_
    refine z_lcmp rfl rfl jkl_72760775 (fun v5 ev5 => ?_)
    refine x_ifne (tgt := 21) rfl rfl (ti_ne rfl jk_0 ⟨fun c6 => ?_, fun c6 => ?_⟩)
    ·
      refine x_iconst (v := 0) rfl ki_0 ?_
      refine x_zret rfl rfl (by decide) ?_
      show jX m_X12_kindAt 2 0 0 51 [(0, .ref 125)] [.int 0] _ 0 0 _
      refine x_ifeq (tgt := 58) rfl rfl (ti_eq jk_0 jk_0 (br_t (by omega) ?_))
      refine x_iconst (v := 2) rfl ki_2 ?_
      exact jX.sub jsb_n (ct_X12_kindAt_r125_400059 hD hQ  h J Sm)
    ·
      refine x_iconst (v := 1) rfl ki_1 ?_
      refine x_goto (tgt := 22) rfl rfl ?_
      refine x_zret rfl rfl (by decide) ?_
      show jX m_X12_kindAt 2 0 0 51 [(0, .ref 125)] [.int 1] _ 0 0 _
      refine x_ifeq (tgt := 58) rfl rfl (ti_eq jk_1 jk_0 (br_f (by omega) ?_))
      refine x_iconst (v := 1) rfl ki_1 ?_
      refine x_goto (tgt := 59) rfl rfl ?_
      exact jX.sub jsb_n (ct_X12_kindAt_r125_300059 hD hQ  h J Sm)
  ·
    refine x_iconst (v := 1) rfl ki_1 ?_
    refine x_goto (tgt := 22) rfl rfl ?_
    refine x_zret rfl rfl (by decide) ?_
    show jX m_X12_kindAt 2 0 0 37 [(0, .ref 125)] [.int 1] _ 0 0 _
    refine x_ifeq (tgt := 44) rfl rfl (ti_eq jk_1 jk_0 (br_f (by omega) ?_))
    refine x_iconst (v := 0) rfl ki_0 ?_
    refine x_goto (tgt := 59) rfl rfl ?_
    exact jX.sub jsb_n (ct_X12_kindAt_r125_200059 hD hQ  h J Sm)
set_option maxRecDepth 100000 in
set_option maxHeartbeats 4000000 in
theorem ct_X12_kindAt_r125_700119 {Dy : jH → Prop} {h0 : jH} {Q : Option Value → jH → Prop} (hD : jDk Dy) (hQ : ∀ (v : Int32) hx9, (-1) ≤ v.toInt ∧ v.toInt ≤ 8 → jJ jSgM Dy hx9 → jSm fp_X12_kindAt_r125 h0 hx9 → Q (some (.int v)) hx9) : ∀ (h : jH), jJ jSgM Dy h → jSm fp_X12_kindAt_r125 h0 h → jX m_X12_kindAt 2 0 0 119 [] [.int 5] h 0 0 Q := by
  intro  h    J Sm
  refine x_iret rfl rfl ?_
  exact hQ _ _ (jr_of jk_5 (by omega)) J Sm
set_option maxRecDepth 100000 in
set_option maxHeartbeats 4000000 in
theorem ct_X12_kindAt_r125_600119 {Dy : jH → Prop} {h0 : jH} {Q : Option Value → jH → Prop} (hD : jDk Dy) (hQ : ∀ (v : Int32) hx9, (-1) ≤ v.toInt ∧ v.toInt ≤ 8 → jJ jSgM Dy hx9 → jSm fp_X12_kindAt_r125 h0 hx9 → Q (some (.int v)) hx9) : ∀ (h : jH), jJ jSgM Dy h → jSm fp_X12_kindAt_r125 h0 h → jX m_X12_kindAt 2 0 0 119 [] [.int 4] h 0 0 Q := by
  intro  h    J Sm
  refine x_iret rfl rfl ?_
  exact hQ _ _ (jr_of jk_4 (by omega)) J Sm
set_option maxRecDepth 100000 in
set_option maxHeartbeats 4000000 in
theorem ct_X12_kindAt_r125_500119 {Dy : jH → Prop} {h0 : jH} {Q : Option Value → jH → Prop} (hD : jDk Dy) (hQ : ∀ (v : Int32) hx9, (-1) ≤ v.toInt ∧ v.toInt ≤ 8 → jJ jSgM Dy hx9 → jSm fp_X12_kindAt_r125 h0 hx9 → Q (some (.int v)) hx9) : ∀ (h : jH), jJ jSgM Dy h → jSm fp_X12_kindAt_r125 h0 h → jX m_X12_kindAt 2 0 0 119 [] [.int 3] h 0 0 Q := by
  intro  h    J Sm
  refine x_iret rfl rfl ?_
  exact hQ _ _ (jr_of jk_3 (by omega)) J Sm
set_option maxRecDepth 100000 in
set_option maxHeartbeats 4000000 in
theorem ct_X12_kindAt_r125_90 {Dy : jH → Prop} {h0 : jH} {Q : Option Value → jH → Prop} (hD : jDk Dy) (hQ : ∀ (v : Int32) hx9, (-1) ≤ v.toInt ∧ v.toInt ≤ 8 → jJ jSgM Dy hx9 → jSm fp_X12_kindAt_r125 h0 hx9 → Q (some (.int v)) hx9) : ∀ (g0 : Int32) (h : jH), 1 ≤ g0.toInt ∧ g0.toInt ≤ 1 → jiv h 125 11 = g0 → jJ jSgM Dy h → jSm fp_X12_kindAt_r125 h0 h → jX m_X12_kindAt 2 0 0 90 [(0, .ref 125)] [] h 0 0 Q := by
  intro g0 h y0 z0  J Sm
  refine x_aloadn (x := 125) rfl rfl ?_
  refine x_ldc2 (v := 591493) rfl z_12_621 ?_
  refine x_inv (N := m_X12_isWord) (As := [.long 591493]) (b := 125) (st := []) (dx9 := 1) (mc := 0) (ms := 0) (host := "") 12 rfl t_X12_isWord ⟨Or.inl q_12_511, i_X12_isWord.1, i_X12_isWord.2⟩ ⟨by decide, rfl⟩ (congrArg Prod.fst (J.1.1 125 (12, 92) rfl)) rfl (by decide) rfl rfl ⟨by decide, by decide⟩ (jC.of rfl k_X12_isWord rfl ?_)
  show jX m_X12_isWord 1 0 0 0 [(0, .ref 125), (1, .long 591493)] [] _ 0 0 _
  refine x_aloadn (x := 125) rfl rfl ?_
  refine z_getM (N := 92) (v := g0) 12 11 rfl f_12_235 rfl J rfl z0 ?_
  refine x_iconst (v := 1) rfl ki_1 ?_
  refine x_icne (tgt := 21) rfl rfl (ti_ne rfl jk_1 (bn_f (by omega) ?_))
  refine x_aloadn (x := 125) rfl rfl ?_
  refine z_getL0 (N := 92) 12 12 rfl f_12_224 rfl J rfl (fun v1 => ?_)
  have ev1 := jfullL v1
  refine x_lloadn (x := 591493) rfl rfl ?_
  refine z_lcmp rfl rfl jkl_591493 (fun v2 ev2 => ?_)
  refine x_ifne (tgt := 21) rfl rfl (ti_ne rfl jk_0 ⟨fun c3 => ?_, fun c3 => ?_⟩)
  ·
    refine x_iconst (v := 0) rfl ki_0 ?_
    refine x_zret rfl rfl (by decide) ?_
    show jX m_X12_kindAt 2 0 0 97 [(0, .ref 125)] [.int 0] _ 0 0 _
    refine x_ifeq (tgt := 104) rfl rfl (ti_eq jk_0 jk_0 (br_t (by omega) ?_))
    refine x_aloadn (x := 125) rfl rfl ?_
    refine x_ldc2 (v := 609625254) rfl z_12_623 ?_
    refine x_inv (N := m_X12_isWord) (As := [.long 609625254]) (b := 125) (st := []) (dx9 := 1) (mc := 0) (ms := 0) (host := "") 12 rfl t_X12_isWord ⟨Or.inl q_12_511, i_X12_isWord.1, i_X12_isWord.2⟩ ⟨by decide, rfl⟩ (congrArg Prod.fst (J.1.1 125 (12, 92) rfl)) rfl (by decide) rfl rfl ⟨by decide, by decide⟩ (jC.of rfl k_X12_isWord rfl ?_)
    show jX m_X12_isWord 1 0 0 0 [(0, .ref 125), (1, .long 609625254)] [] _ 0 0 _
    refine x_aloadn (x := 125) rfl rfl ?_
    refine z_getM (N := 92) (v := g0) 12 11 rfl f_12_235 rfl J rfl z0 ?_
    refine x_iconst (v := 1) rfl ki_1 ?_
    refine x_icne (tgt := 21) rfl rfl (ti_ne rfl jk_1 (bn_f (by omega) ?_))
    refine x_aloadn (x := 125) rfl rfl ?_
    refine z_getL0 (N := 92) 12 12 rfl f_12_224 rfl J rfl (fun v4 => ?_)
    have ev4 := jfullL v4
    refine x_lloadn (x := 609625254) rfl rfl ?_
    refine z_lcmp rfl rfl jkl_609625254 (fun v5 ev5 => ?_)
    refine x_ifne (tgt := 21) rfl rfl (ti_ne rfl jk_0 ⟨fun c6 => ?_, fun c6 => ?_⟩)
    ·
      refine x_iconst (v := 0) rfl ki_0 ?_
      refine x_zret rfl rfl (by decide) ?_
      show jX m_X12_kindAt 2 0 0 111 [(0, .ref 125)] [.int 0] _ 0 0 _
      refine x_ifeq (tgt := 118) rfl rfl (ti_eq jk_0 jk_0 (br_t (by omega) ?_))
      refine x_iconst (v := 5) rfl ki_5 ?_
      exact jX.sub jsb_n (ct_X12_kindAt_r125_700119 hD hQ  h J Sm)
    ·
      refine x_iconst (v := 1) rfl ki_1 ?_
      refine x_goto (tgt := 22) rfl rfl ?_
      refine x_zret rfl rfl (by decide) ?_
      show jX m_X12_kindAt 2 0 0 111 [(0, .ref 125)] [.int 1] _ 0 0 _
      refine x_ifeq (tgt := 118) rfl rfl (ti_eq jk_1 jk_0 (br_f (by omega) ?_))
      refine x_iconst (v := 4) rfl ki_4 ?_
      refine x_goto (tgt := 119) rfl rfl ?_
      exact jX.sub jsb_n (ct_X12_kindAt_r125_600119 hD hQ  h J Sm)
  ·
    refine x_iconst (v := 1) rfl ki_1 ?_
    refine x_goto (tgt := 22) rfl rfl ?_
    refine x_zret rfl rfl (by decide) ?_
    show jX m_X12_kindAt 2 0 0 97 [(0, .ref 125)] [.int 1] _ 0 0 _
    refine x_ifeq (tgt := 104) rfl rfl (ti_eq jk_1 jk_0 (br_f (by omega) ?_))
    refine x_iconst (v := 3) rfl ki_3 ?_
    refine x_goto (tgt := 119) rfl rfl ?_
    exact jX.sub jsb_n (ct_X12_kindAt_r125_500119 hD hQ  h J Sm)
set_option maxRecDepth 100000 in
set_option maxHeartbeats 4000000 in
theorem ct_X12_kindAt_r125_100166 {Dy : jH → Prop} {h0 : jH} {Q : Option Value → jH → Prop} (hD : jDk Dy) (hQ : ∀ (v : Int32) hx9, (-1) ≤ v.toInt ∧ v.toInt ≤ 8 → jJ jSgM Dy hx9 → jSm fp_X12_kindAt_r125 h0 hx9 → Q (some (.int v)) hx9) : ∀ (h : jH), jJ jSgM Dy h → jSm fp_X12_kindAt_r125 h0 h → jX m_X12_kindAt 2 0 0 166 [] [.int (-1)] h 0 0 Q := by
  intro  h    J Sm
  refine x_iret rfl rfl ?_
  exact hQ _ _ (jr_of jk_m1 (by omega)) J Sm
set_option maxRecDepth 100000 in
set_option maxHeartbeats 4000000 in
theorem ct_X12_kindAt_r125_1000166 {Dy : jH → Prop} {h0 : jH} {Q : Option Value → jH → Prop} (hD : jDk Dy) (hQ : ∀ (v : Int32) hx9, (-1) ≤ v.toInt ∧ v.toInt ≤ 8 → jJ jSgM Dy hx9 → jSm fp_X12_kindAt_r125 h0 hx9 → Q (some (.int v)) hx9) : ∀ (h : jH), jJ jSgM Dy h → jSm fp_X12_kindAt_r125 h0 h → jX m_X12_kindAt 2 0 0 166 [] [.int 8] h 0 0 Q := by
  intro  h    J Sm
  refine x_iret rfl rfl ?_
  exact hQ _ _ (jr_of jk_8 (by omega)) J Sm
set_option maxRecDepth 100000 in
set_option maxHeartbeats 4000000 in
theorem ct_X12_kindAt_r125_900166 {Dy : jH → Prop} {h0 : jH} {Q : Option Value → jH → Prop} (hD : jDk Dy) (hQ : ∀ (v : Int32) hx9, (-1) ≤ v.toInt ∧ v.toInt ≤ 8 → jJ jSgM Dy hx9 → jSm fp_X12_kindAt_r125 h0 hx9 → Q (some (.int v)) hx9) : ∀ (h : jH), jJ jSgM Dy h → jSm fp_X12_kindAt_r125 h0 h → jX m_X12_kindAt 2 0 0 166 [] [.int 7] h 0 0 Q := by
  intro  h    J Sm
  refine x_iret rfl rfl ?_
  exact hQ _ _ (jr_of jk_7 (by omega)) J Sm
set_option maxRecDepth 100000 in
set_option maxHeartbeats 4000000 in
theorem ct_X12_kindAt_r125_800166 {Dy : jH → Prop} {h0 : jH} {Q : Option Value → jH → Prop} (hD : jDk Dy) (hQ : ∀ (v : Int32) hx9, (-1) ≤ v.toInt ∧ v.toInt ≤ 8 → jJ jSgM Dy hx9 → jSm fp_X12_kindAt_r125 h0 hx9 → Q (some (.int v)) hx9) : ∀ (h : jH), jJ jSgM Dy h → jSm fp_X12_kindAt_r125 h0 h → jX m_X12_kindAt 2 0 0 166 [] [.int 6] h 0 0 Q := by
  intro  h    J Sm
  refine x_iret rfl rfl ?_
  exact hQ _ _ (jr_of jk_6 (by omega)) J Sm
set_option maxRecDepth 100000 in
set_option maxHeartbeats 4000000 in
theorem sf_X12_kindAt_r125 {Dy : jH → Prop} {h : jH} {Q : Option Value → jH → Prop} (hD : jDk Dy) (J : jJ jSgM Dy h) (hQ : ∀ (v : Int32) hx9, (-1) ≤ v.toInt ∧ v.toInt ≤ 8 → jJ jSgM Dy hx9 → jSm fp_X12_kindAt_r125 h hx9 → Q (some (.int v)) hx9) : jC m_X12_kindAt 2 0 0 [.ref 125] h Q := by
  refine jC.of rfl k_X12_kindAt rfl ?_
  have Sm := jSm_rf fp_X12_kindAt_r125 h
  show jX m_X12_kindAt 2 0 0 0 [(0, .ref 125)] [] _ 0 0 _
  refine x_aloadn (x := 125) rfl rfl ?_
  refine x_ldc2 (v := 659105125) rfl z_12_615 ?_
  refine x_inv (N := m_X12_isWord) (As := [.long 659105125]) (b := 125) (st := []) (dx9 := 1) (mc := 0) (ms := 0) (host := "") 12 rfl t_X12_isWord ⟨Or.inl q_12_511, i_X12_isWord.1, i_X12_isWord.2⟩ ⟨by decide, rfl⟩ (congrArg Prod.fst (J.1.1 125 (12, 92) rfl)) rfl (by decide) rfl rfl ⟨by decide, by decide⟩ (jC.of rfl k_X12_isWord rfl ?_)
  show jX m_X12_isWord 1 0 0 0 [(0, .ref 125), (1, .long 659105125)] [] _ 0 0 _
  refine x_aloadn (x := 125) rfl rfl ?_
  refine z_getI (N := 92) 12 11 rfl f_12_235 rfl J rfl sg_125_11_12_1_0_1 (fun v1 qv1 ev1 => ?_)
  refine x_iconst (v := 1) rfl ki_1 ?_
  refine x_icne (tgt := 21) rfl rfl (ti_ne rfl jk_1 ⟨fun c2 => ?_, fun c2 => ?_⟩)
  ·
    refine x_iconst (v := 0) rfl ki_0 ?_
    refine x_zret rfl rfl (by decide) ?_
    show jX m_X12_kindAt 2 0 0 7 [(0, .ref 125)] [.int 0] _ 0 0 _
    refine x_ifne (tgt := 30) rfl rfl (ti_ne jk_0 jk_0 (bn_f (by omega) ?_))
    refine x_aloadn (x := 125) rfl rfl ?_
    refine x_ldc2 (v := 72760775) rfl z_12_617 ?_
    refine x_inv (N := m_X12_isWord) (As := [.long 72760775]) (b := 125) (st := []) (dx9 := 1) (mc := 0) (ms := 0) (host := "") 12 rfl t_X12_isWord ⟨Or.inl q_12_511, i_X12_isWord.1, i_X12_isWord.2⟩ ⟨by decide, rfl⟩ (congrArg Prod.fst (J.1.1 125 (12, 92) rfl)) rfl (by decide) rfl rfl ⟨by decide, by decide⟩ (jC.of rfl k_X12_isWord rfl ?_)
    show jX m_X12_isWord 1 0 0 0 [(0, .ref 125), (1, .long 72760775)] [] _ 0 0 _
    refine x_aloadn (x := 125) rfl rfl ?_
    refine z_getM (N := 92) (v := v1) 12 11 rfl f_12_235 rfl J rfl qv1 ?_
    refine x_iconst (v := 1) rfl ki_1 ?_
    refine x_icne (tgt := 21) rfl rfl (ti_ne rfl jk_1 ⟨fun c3 => ?_, fun c3 => ?_⟩)
    ·
      refine x_iconst (v := 0) rfl ki_0 ?_
      refine x_zret rfl rfl (by decide) ?_
      show jX m_X12_kindAt 2 0 0 17 [(0, .ref 125)] [.int 0] _ 0 0 _
      refine x_ifne (tgt := 30) rfl rfl (ti_ne jk_0 jk_0 (bn_f (by omega) ?_))
      refine x_aloadn (x := 125) rfl rfl ?_
      refine x_ldc2 (v := 193115668) rfl z_12_619 ?_
      refine x_inv (N := m_X12_isWord) (As := [.long 193115668]) (b := 125) (st := []) (dx9 := 1) (mc := 0) (ms := 0) (host := "") 12 rfl t_X12_isWord ⟨Or.inl q_12_511, i_X12_isWord.1, i_X12_isWord.2⟩ ⟨by decide, rfl⟩ (congrArg Prod.fst (J.1.1 125 (12, 92) rfl)) rfl (by decide) rfl rfl ⟨by decide, by decide⟩ (jC.of rfl k_X12_isWord rfl ?_)
      show jX m_X12_isWord 1 0 0 0 [(0, .ref 125), (1, .long 193115668)] [] _ 0 0 _
      refine x_aloadn (x := 125) rfl rfl ?_
      refine z_getM (N := 92) (v := v1) 12 11 rfl f_12_235 rfl J rfl qv1 ?_
      refine x_iconst (v := 1) rfl ki_1 ?_
      refine x_icne (tgt := 21) rfl rfl (ti_ne rfl jk_1 ⟨fun c4 => ?_, fun c4 => ?_⟩)
      ·
        refine x_iconst (v := 0) rfl ki_0 ?_
        refine x_zret rfl rfl (by decide) ?_
        show jX m_X12_kindAt 2 0 0 27 [(0, .ref 125)] [.int 0] _ 0 0 _
        refine x_ifeq (tgt := 60) rfl rfl (ti_eq jk_0 jk_0 (br_t (by omega) ?_))
        refine x_aloadn (x := 125) rfl rfl ?_
        refine x_ldc2 (v := 591493) rfl z_12_621 ?_
        refine x_inv (N := m_X12_isWord) (As := [.long 591493]) (b := 125) (st := []) (dx9 := 1) (mc := 0) (ms := 0) (host := "") 12 rfl t_X12_isWord ⟨Or.inl q_12_511, i_X12_isWord.1, i_X12_isWord.2⟩ ⟨by decide, rfl⟩ (congrArg Prod.fst (J.1.1 125 (12, 92) rfl)) rfl (by decide) rfl rfl ⟨by decide, by decide⟩ (jC.of rfl k_X12_isWord rfl ?_)
        show jX m_X12_isWord 1 0 0 0 [(0, .ref 125), (1, .long 591493)] [] _ 0 0 _
        refine x_aloadn (x := 125) rfl rfl ?_
        refine z_getM (N := 92) (v := v1) 12 11 rfl f_12_235 rfl J rfl qv1 ?_
        refine x_iconst (v := 1) rfl ki_1 ?_
        refine x_icne (tgt := 21) rfl rfl (ti_ne rfl jk_1 ⟨fun c5 => ?_, fun c5 => ?_⟩)
        ·
          refine x_iconst (v := 0) rfl ki_0 ?_
          refine x_zret rfl rfl (by decide) ?_
          show jX m_X12_kindAt 2 0 0 67 [(0, .ref 125)] [.int 0] _ 0 0 _
          refine x_ifne (tgt := 90) rfl rfl (ti_ne jk_0 jk_0 (bn_f (by omega) ?_))
          refine x_aloadn (x := 125) rfl rfl ?_
          refine x_ldc2 (v := 609625254) rfl z_12_623 ?_
          refine x_inv (N := m_X12_isWord) (As := [.long 609625254]) (b := 125) (st := []) (dx9 := 1) (mc := 0) (ms := 0) (host := "") 12 rfl t_X12_isWord ⟨Or.inl q_12_511, i_X12_isWord.1, i_X12_isWord.2⟩ ⟨by decide, rfl⟩ (congrArg Prod.fst (J.1.1 125 (12, 92) rfl)) rfl (by decide) rfl rfl ⟨by decide, by decide⟩ (jC.of rfl k_X12_isWord rfl ?_)
          show jX m_X12_isWord 1 0 0 0 [(0, .ref 125), (1, .long 609625254)] [] _ 0 0 _
          refine x_aloadn (x := 125) rfl rfl ?_
          refine z_getM (N := 92) (v := v1) 12 11 rfl f_12_235 rfl J rfl qv1 ?_
          refine x_iconst (v := 1) rfl ki_1 ?_
          refine x_icne (tgt := 21) rfl rfl (ti_ne rfl jk_1 ⟨fun c6 => ?_, fun c6 => ?_⟩)
          ·
            refine x_iconst (v := 0) rfl ki_0 ?_
            refine x_zret rfl rfl (by decide) ?_
            show jX m_X12_kindAt 2 0 0 77 [(0, .ref 125)] [.int 0] _ 0 0 _
            refine x_ifne (tgt := 90) rfl rfl (ti_ne jk_0 jk_0 (bn_f (by omega) ?_))
            refine x_aloadn (x := 125) rfl rfl ?_
            refine x_ldc2 (v := 2134245) rfl z_12_625 ?_
            refine x_inv (N := m_X12_isWord) (As := [.long 2134245]) (b := 125) (st := []) (dx9 := 1) (mc := 0) (ms := 0) (host := "") 12 rfl t_X12_isWord ⟨Or.inl q_12_511, i_X12_isWord.1, i_X12_isWord.2⟩ ⟨by decide, rfl⟩ (congrArg Prod.fst (J.1.1 125 (12, 92) rfl)) rfl (by decide) rfl rfl ⟨by decide, by decide⟩ (jC.of rfl k_X12_isWord rfl ?_)
            show jX m_X12_isWord 1 0 0 0 [(0, .ref 125), (1, .long 2134245)] [] _ 0 0 _
            refine x_aloadn (x := 125) rfl rfl ?_
            refine z_getM (N := 92) (v := v1) 12 11 rfl f_12_235 rfl J rfl qv1 ?_
            refine x_iconst (v := 1) rfl ki_1 ?_
            refine x_icne (tgt := 21) rfl rfl (ti_ne rfl jk_1 ⟨fun c7 => ?_, fun c7 => ?_⟩)
            ·
              refine x_iconst (v := 0) rfl ki_0 ?_
              refine x_zret rfl rfl (by decide) ?_
              show jX m_X12_kindAt 2 0 0 87 [(0, .ref 125)] [.int 0] _ 0 0 _
              refine x_ifeq (tgt := 120) rfl rfl (ti_eq jk_0 jk_0 (br_t (by omega) ?_))
              refine x_aloadn (x := 125) rfl rfl ?_
              refine x_ldc2 (v := 677454) rfl z_12_627 ?_
              refine x_inv (N := m_X12_isWord) (As := [.long 677454]) (b := 125) (st := []) (dx9 := 1) (mc := 0) (ms := 0) (host := "") 12 rfl t_X12_isWord ⟨Or.inl q_12_511, i_X12_isWord.1, i_X12_isWord.2⟩ ⟨by decide, rfl⟩ (congrArg Prod.fst (J.1.1 125 (12, 92) rfl)) rfl (by decide) rfl rfl ⟨by decide, by decide⟩ (jC.of rfl k_X12_isWord rfl ?_)
              show jX m_X12_isWord 1 0 0 0 [(0, .ref 125), (1, .long 677454)] [] _ 0 0 _
              refine x_aloadn (x := 125) rfl rfl ?_
              refine z_getM (N := 92) (v := v1) 12 11 rfl f_12_235 rfl J rfl qv1 ?_
              refine x_iconst (v := 1) rfl ki_1 ?_
              refine x_icne (tgt := 21) rfl rfl (ti_ne rfl jk_1 ⟨fun c8 => ?_, fun c8 => ?_⟩)
              ·
                refine x_iconst (v := 0) rfl ki_0 ?_
                refine x_zret rfl rfl (by decide) ?_
                show jX m_X12_kindAt 2 0 0 127 [(0, .ref 125)] [.int 0] _ 0 0 _
                refine x_ifeq (tgt := 135) rfl rfl (ti_eq jk_0 jk_0 (br_t (by omega) ?_))
                refine x_aloadn (x := 125) rfl rfl ?_
                refine x_ldc2 (v := 6309) rfl z_12_629 ?_
                refine x_inv (N := m_X12_isWord) (As := [.long 6309]) (b := 125) (st := []) (dx9 := 1) (mc := 0) (ms := 0) (host := "") 12 rfl t_X12_isWord ⟨Or.inl q_12_511, i_X12_isWord.1, i_X12_isWord.2⟩ ⟨by decide, rfl⟩ (congrArg Prod.fst (J.1.1 125 (12, 92) rfl)) rfl (by decide) rfl rfl ⟨by decide, by decide⟩ (jC.of rfl k_X12_isWord rfl ?_)
                show jX m_X12_isWord 1 0 0 0 [(0, .ref 125), (1, .long 6309)] [] _ 0 0 _
                refine x_aloadn (x := 125) rfl rfl ?_
                refine z_getM (N := 92) (v := v1) 12 11 rfl f_12_235 rfl J rfl qv1 ?_
                refine x_iconst (v := 1) rfl ki_1 ?_
                refine x_icne (tgt := 21) rfl rfl (ti_ne rfl jk_1 ⟨fun c9 => ?_, fun c9 => ?_⟩)
                ·
                  refine x_iconst (v := 0) rfl ki_0 ?_
                  refine x_zret rfl rfl (by decide) ?_
                  show jX m_X12_kindAt 2 0 0 142 [(0, .ref 125)] [.int 0] _ 0 0 _
                  refine x_ifeq (tgt := 150) rfl rfl (ti_eq jk_0 jk_0 (br_t (by omega) ?_))
                  refine x_aloadn (x := 125) rfl rfl ?_
                  refine x_ldc2 (v := 627764) rfl z_12_631 ?_
                  refine x_inv (N := m_X12_isWord) (As := [.long 627764]) (b := 125) (st := []) (dx9 := 1) (mc := 0) (ms := 0) (host := "") 12 rfl t_X12_isWord ⟨Or.inl q_12_511, i_X12_isWord.1, i_X12_isWord.2⟩ ⟨by decide, rfl⟩ (congrArg Prod.fst (J.1.1 125 (12, 92) rfl)) rfl (by decide) rfl rfl ⟨by decide, by decide⟩ (jC.of rfl k_X12_isWord rfl ?_)
                  show jX m_X12_isWord 1 0 0 0 [(0, .ref 125), (1, .long 627764)] [] _ 0 0 _
                  refine x_aloadn (x := 125) rfl rfl ?_
                  refine z_getM (N := 92) (v := v1) 12 11 rfl f_12_235 rfl J rfl qv1 ?_
                  refine x_iconst (v := 1) rfl ki_1 ?_
                  refine x_icne (tgt := 21) rfl rfl (ti_ne rfl jk_1 ⟨fun c10 => ?_, fun c10 => ?_⟩)
                  ·
                    refine x_iconst (v := 0) rfl ki_0 ?_
                    refine x_zret rfl rfl (by decide) ?_
                    show jX m_X12_kindAt 2 0 0 157 [(0, .ref 125)] [.int 0] _ 0 0 _
                    refine x_ifeq (tgt := 165) rfl rfl (ti_eq jk_0 jk_0 (br_t (by omega) ?_))
                    refine x_iconst (v := (-1)) rfl ki_m1 ?_
                    exact jX.sub jsb_n (ct_X12_kindAt_r125_100166 hD hQ  h J Sm)
                  ·
                    refine x_aloadn (x := 125) rfl rfl ?_
                    refine z_getL0 (N := 92) 12 12 rfl f_12_224 rfl J rfl (fun v11 => ?_)
                    have ev11 := jfullL v11
                    refine x_lloadn (x := 627764) rfl rfl ?_
                    refine z_lcmp rfl rfl jkl_627764 (fun v12 ev12 => ?_)
                    refine x_ifne (tgt := 21) rfl rfl (ti_ne rfl jk_0 ⟨fun c13 => ?_, fun c13 => ?_⟩)
                    ·
                      refine x_iconst (v := 0) rfl ki_0 ?_
                      refine x_zret rfl rfl (by decide) ?_
                      show jX m_X12_kindAt 2 0 0 157 [(0, .ref 125)] [.int 0] _ 0 0 _
                      refine x_ifeq (tgt := 165) rfl rfl (ti_eq jk_0 jk_0 (br_t (by omega) ?_))
                      refine x_iconst (v := (-1)) rfl ki_m1 ?_
                      exact jX.sub jsb_n (ct_X12_kindAt_r125_100166 hD hQ  h J Sm)
                    ·
                      refine x_iconst (v := 1) rfl ki_1 ?_
                      refine x_goto (tgt := 22) rfl rfl ?_
                      refine x_zret rfl rfl (by decide) ?_
                      show jX m_X12_kindAt 2 0 0 157 [(0, .ref 125)] [.int 1] _ 0 0 _
                      refine x_ifeq (tgt := 165) rfl rfl (ti_eq jk_1 jk_0 (br_f (by omega) ?_))
                      refine x_bipush (v := 8) rfl kb_8 ?_
                      refine x_goto (tgt := 166) rfl rfl ?_
                      exact jX.sub jsb_n (ct_X12_kindAt_r125_1000166 hD hQ  h J Sm)
                ·
                  refine x_aloadn (x := 125) rfl rfl ?_
                  refine z_getL0 (N := 92) 12 12 rfl f_12_224 rfl J rfl (fun v14 => ?_)
                  have ev14 := jfullL v14
                  refine x_lloadn (x := 6309) rfl rfl ?_
                  refine z_lcmp rfl rfl jkl_6309 (fun v15 ev15 => ?_)
                  refine x_ifne (tgt := 21) rfl rfl (ti_ne rfl jk_0 ⟨fun c16 => ?_, fun c16 => ?_⟩)
                  ·
                    refine x_iconst (v := 0) rfl ki_0 ?_
                    refine x_zret rfl rfl (by decide) ?_
                    show jX m_X12_kindAt 2 0 0 142 [(0, .ref 125)] [.int 0] _ 0 0 _
                    refine x_ifeq (tgt := 150) rfl rfl (ti_eq jk_0 jk_0 (br_t (by omega) ?_))
                    refine x_aloadn (x := 125) rfl rfl ?_
                    refine x_ldc2 (v := 627764) rfl z_12_631 ?_
                    refine x_inv (N := m_X12_isWord) (As := [.long 627764]) (b := 125) (st := []) (dx9 := 1) (mc := 0) (ms := 0) (host := "") 12 rfl t_X12_isWord ⟨Or.inl q_12_511, i_X12_isWord.1, i_X12_isWord.2⟩ ⟨by decide, rfl⟩ (congrArg Prod.fst (J.1.1 125 (12, 92) rfl)) rfl (by decide) rfl rfl ⟨by decide, by decide⟩ (jC.of rfl k_X12_isWord rfl ?_)
                    show jX m_X12_isWord 1 0 0 0 [(0, .ref 125), (1, .long 627764)] [] _ 0 0 _
                    refine x_aloadn (x := 125) rfl rfl ?_
                    refine z_getM (N := 92) (v := v1) 12 11 rfl f_12_235 rfl J rfl qv1 ?_
                    refine x_iconst (v := 1) rfl ki_1 ?_
                    refine x_icne (tgt := 21) rfl rfl (ti_ne rfl jk_1 (bn_f (by omega) ?_))
                    refine x_aloadn (x := 125) rfl rfl ?_
                    refine z_getL0 (N := 92) 12 12 rfl f_12_224 rfl J rfl (fun v17 => ?_)
                    have ev17 := jfullL v17
                    refine x_lloadn (x := 627764) rfl rfl ?_
                    refine z_lcmp rfl rfl jkl_627764 (fun v18 ev18 => ?_)
                    refine x_ifne (tgt := 21) rfl rfl (ti_ne rfl jk_0 ⟨fun c19 => ?_, fun c19 => ?_⟩)
                    ·
                      refine x_iconst (v := 0) rfl ki_0 ?_
                      refine x_zret rfl rfl (by decide) ?_
                      show jX m_X12_kindAt 2 0 0 157 [(0, .ref 125)] [.int 0] _ 0 0 _
                      refine x_ifeq (tgt := 165) rfl rfl (ti_eq jk_0 jk_0 (br_t (by omega) ?_))
                      refine x_iconst (v := (-1)) rfl ki_m1 ?_
                      exact jX.sub jsb_n (ct_X12_kindAt_r125_100166 hD hQ  h J Sm)
                    ·
                      refine x_iconst (v := 1) rfl ki_1 ?_
                      refine x_goto (tgt := 22) rfl rfl ?_
                      refine x_zret rfl rfl (by decide) ?_
                      show jX m_X12_kindAt 2 0 0 157 [(0, .ref 125)] [.int 1] _ 0 0 _
                      refine x_ifeq (tgt := 165) rfl rfl (ti_eq jk_1 jk_0 (br_f (by omega) ?_))
                      refine x_bipush (v := 8) rfl kb_8 ?_
                      refine x_goto (tgt := 166) rfl rfl ?_
                      exact jX.sub jsb_n (ct_X12_kindAt_r125_1000166 hD hQ  h J Sm)
                  ·
                    refine x_iconst (v := 1) rfl ki_1 ?_
                    refine x_goto (tgt := 22) rfl rfl ?_
                    refine x_zret rfl rfl (by decide) ?_
                    show jX m_X12_kindAt 2 0 0 142 [(0, .ref 125)] [.int 1] _ 0 0 _
                    refine x_ifeq (tgt := 150) rfl rfl (ti_eq jk_1 jk_0 (br_f (by omega) ?_))
                    refine x_bipush (v := 7) rfl kb_7 ?_
                    refine x_goto (tgt := 166) rfl rfl ?_
                    exact jX.sub jsb_n (ct_X12_kindAt_r125_900166 hD hQ  h J Sm)
              ·
                refine x_aloadn (x := 125) rfl rfl ?_
                refine z_getL0 (N := 92) 12 12 rfl f_12_224 rfl J rfl (fun v20 => ?_)
                have ev20 := jfullL v20
                refine x_lloadn (x := 677454) rfl rfl ?_
                refine z_lcmp rfl rfl jkl_677454 (fun v21 ev21 => ?_)
                refine x_ifne (tgt := 21) rfl rfl (ti_ne rfl jk_0 ⟨fun c22 => ?_, fun c22 => ?_⟩)
                ·
                  refine x_iconst (v := 0) rfl ki_0 ?_
                  refine x_zret rfl rfl (by decide) ?_
                  show jX m_X12_kindAt 2 0 0 127 [(0, .ref 125)] [.int 0] _ 0 0 _
                  refine x_ifeq (tgt := 135) rfl rfl (ti_eq jk_0 jk_0 (br_t (by omega) ?_))
                  refine x_aloadn (x := 125) rfl rfl ?_
                  refine x_ldc2 (v := 6309) rfl z_12_629 ?_
                  refine x_inv (N := m_X12_isWord) (As := [.long 6309]) (b := 125) (st := []) (dx9 := 1) (mc := 0) (ms := 0) (host := "") 12 rfl t_X12_isWord ⟨Or.inl q_12_511, i_X12_isWord.1, i_X12_isWord.2⟩ ⟨by decide, rfl⟩ (congrArg Prod.fst (J.1.1 125 (12, 92) rfl)) rfl (by decide) rfl rfl ⟨by decide, by decide⟩ (jC.of rfl k_X12_isWord rfl ?_)
                  show jX m_X12_isWord 1 0 0 0 [(0, .ref 125), (1, .long 6309)] [] _ 0 0 _
                  refine x_aloadn (x := 125) rfl rfl ?_
                  refine z_getM (N := 92) (v := v1) 12 11 rfl f_12_235 rfl J rfl qv1 ?_
                  refine x_iconst (v := 1) rfl ki_1 ?_
                  refine x_icne (tgt := 21) rfl rfl (ti_ne rfl jk_1 (bn_f (by omega) ?_))
                  refine x_aloadn (x := 125) rfl rfl ?_
                  refine z_getL0 (N := 92) 12 12 rfl f_12_224 rfl J rfl (fun v23 => ?_)
                  have ev23 := jfullL v23
                  refine x_lloadn (x := 6309) rfl rfl ?_
                  refine z_lcmp rfl rfl jkl_6309 (fun v24 ev24 => ?_)
                  refine x_ifne (tgt := 21) rfl rfl (ti_ne rfl jk_0 ⟨fun c25 => ?_, fun c25 => ?_⟩)
                  ·
                    refine x_iconst (v := 0) rfl ki_0 ?_
                    refine x_zret rfl rfl (by decide) ?_
                    show jX m_X12_kindAt 2 0 0 142 [(0, .ref 125)] [.int 0] _ 0 0 _
                    refine x_ifeq (tgt := 150) rfl rfl (ti_eq jk_0 jk_0 (br_t (by omega) ?_))
                    refine x_aloadn (x := 125) rfl rfl ?_
                    refine x_ldc2 (v := 627764) rfl z_12_631 ?_
                    refine x_inv (N := m_X12_isWord) (As := [.long 627764]) (b := 125) (st := []) (dx9 := 1) (mc := 0) (ms := 0) (host := "") 12 rfl t_X12_isWord ⟨Or.inl q_12_511, i_X12_isWord.1, i_X12_isWord.2⟩ ⟨by decide, rfl⟩ (congrArg Prod.fst (J.1.1 125 (12, 92) rfl)) rfl (by decide) rfl rfl ⟨by decide, by decide⟩ (jC.of rfl k_X12_isWord rfl ?_)
                    show jX m_X12_isWord 1 0 0 0 [(0, .ref 125), (1, .long 627764)] [] _ 0 0 _
                    refine x_aloadn (x := 125) rfl rfl ?_
                    refine z_getM (N := 92) (v := v1) 12 11 rfl f_12_235 rfl J rfl qv1 ?_
                    refine x_iconst (v := 1) rfl ki_1 ?_
                    refine x_icne (tgt := 21) rfl rfl (ti_ne rfl jk_1 (bn_f (by omega) ?_))
                    refine x_aloadn (x := 125) rfl rfl ?_
                    refine z_getL0 (N := 92) 12 12 rfl f_12_224 rfl J rfl (fun v26 => ?_)
                    have ev26 := jfullL v26
                    refine x_lloadn (x := 627764) rfl rfl ?_
                    refine z_lcmp rfl rfl jkl_627764 (fun v27 ev27 => ?_)
                    refine x_ifne (tgt := 21) rfl rfl (ti_ne rfl jk_0 ⟨fun c28 => ?_, fun c28 => ?_⟩)
                    ·
                      refine x_iconst (v := 0) rfl ki_0 ?_
                      refine x_zret rfl rfl (by decide) ?_
                      show jX m_X12_kindAt 2 0 0 157 [(0, .ref 125)] [.int 0] _ 0 0 _
                      refine x_ifeq (tgt := 165) rfl rfl (ti_eq jk_0 jk_0 (br_t (by omega) ?_))
                      refine x_iconst (v := (-1)) rfl ki_m1 ?_
                      exact jX.sub jsb_n (ct_X12_kindAt_r125_100166 hD hQ  h J Sm)
                    ·
                      refine x_iconst (v := 1) rfl ki_1 ?_
                      refine x_goto (tgt := 22) rfl rfl ?_
                      refine x_zret rfl rfl (by decide) ?_
                      show jX m_X12_kindAt 2 0 0 157 [(0, .ref 125)] [.int 1] _ 0 0 _
                      refine x_ifeq (tgt := 165) rfl rfl (ti_eq jk_1 jk_0 (br_f (by omega) ?_))
                      refine x_bipush (v := 8) rfl kb_8 ?_
                      refine x_goto (tgt := 166) rfl rfl ?_
                      exact jX.sub jsb_n (ct_X12_kindAt_r125_1000166 hD hQ  h J Sm)
                  ·
                    refine x_iconst (v := 1) rfl ki_1 ?_
                    refine x_goto (tgt := 22) rfl rfl ?_
                    refine x_zret rfl rfl (by decide) ?_
                    show jX m_X12_kindAt 2 0 0 142 [(0, .ref 125)] [.int 1] _ 0 0 _
                    refine x_ifeq (tgt := 150) rfl rfl (ti_eq jk_1 jk_0 (br_f (by omega) ?_))
                    refine x_bipush (v := 7) rfl kb_7 ?_
                    refine x_goto (tgt := 166) rfl rfl ?_
                    exact jX.sub jsb_n (ct_X12_kindAt_r125_900166 hD hQ  h J Sm)
                ·
                  refine x_iconst (v := 1) rfl ki_1 ?_
                  refine x_goto (tgt := 22) rfl rfl ?_
                  refine x_zret rfl rfl (by decide) ?_
                  show jX m_X12_kindAt 2 0 0 127 [(0, .ref 125)] [.int 1] _ 0 0 _
                  refine x_ifeq (tgt := 135) rfl rfl (ti_eq jk_1 jk_0 (br_f (by omega) ?_))
                  refine x_bipush (v := 6) rfl kb_6 ?_
                  refine x_goto (tgt := 166) rfl rfl ?_
                  exact jX.sub jsb_n (ct_X12_kindAt_r125_800166 hD hQ  h J Sm)
            ·
              refine x_aloadn (x := 125) rfl rfl ?_
              refine z_getL0 (N := 92) 12 12 rfl f_12_224 rfl J rfl (fun v29 => ?_)
              have ev29 := jfullL v29
              refine x_lloadn (x := 2134245) rfl rfl ?_
              refine z_lcmp rfl rfl jkl_2134245 (fun v30 ev30 => ?_)
              refine x_ifne (tgt := 21) rfl rfl (ti_ne rfl jk_0 ⟨fun c31 => ?_, fun c31 => ?_⟩)
              ·
                refine x_iconst (v := 0) rfl ki_0 ?_
                refine x_zret rfl rfl (by decide) ?_
                show jX m_X12_kindAt 2 0 0 87 [(0, .ref 125)] [.int 0] _ 0 0 _
                refine x_ifeq (tgt := 120) rfl rfl (ti_eq jk_0 jk_0 (br_t (by omega) ?_))
                refine x_aloadn (x := 125) rfl rfl ?_
                refine x_ldc2 (v := 677454) rfl z_12_627 ?_
                refine x_inv (N := m_X12_isWord) (As := [.long 677454]) (b := 125) (st := []) (dx9 := 1) (mc := 0) (ms := 0) (host := "") 12 rfl t_X12_isWord ⟨Or.inl q_12_511, i_X12_isWord.1, i_X12_isWord.2⟩ ⟨by decide, rfl⟩ (congrArg Prod.fst (J.1.1 125 (12, 92) rfl)) rfl (by decide) rfl rfl ⟨by decide, by decide⟩ (jC.of rfl k_X12_isWord rfl ?_)
                show jX m_X12_isWord 1 0 0 0 [(0, .ref 125), (1, .long 677454)] [] _ 0 0 _
                refine x_aloadn (x := 125) rfl rfl ?_
                refine z_getM (N := 92) (v := v1) 12 11 rfl f_12_235 rfl J rfl qv1 ?_
                refine x_iconst (v := 1) rfl ki_1 ?_
                refine x_icne (tgt := 21) rfl rfl (ti_ne rfl jk_1 (bn_f (by omega) ?_))
                refine x_aloadn (x := 125) rfl rfl ?_
                refine z_getL0 (N := 92) 12 12 rfl f_12_224 rfl J rfl (fun v32 => ?_)
                have ev32 := jfullL v32
                refine x_lloadn (x := 677454) rfl rfl ?_
                refine z_lcmp rfl rfl jkl_677454 (fun v33 ev33 => ?_)
                refine x_ifne (tgt := 21) rfl rfl (ti_ne rfl jk_0 ⟨fun c34 => ?_, fun c34 => ?_⟩)
                ·
                  refine x_iconst (v := 0) rfl ki_0 ?_
                  refine x_zret rfl rfl (by decide) ?_
                  show jX m_X12_kindAt 2 0 0 127 [(0, .ref 125)] [.int 0] _ 0 0 _
                  refine x_ifeq (tgt := 135) rfl rfl (ti_eq jk_0 jk_0 (br_t (by omega) ?_))
                  refine x_aloadn (x := 125) rfl rfl ?_
                  refine x_ldc2 (v := 6309) rfl z_12_629 ?_
                  refine x_inv (N := m_X12_isWord) (As := [.long 6309]) (b := 125) (st := []) (dx9 := 1) (mc := 0) (ms := 0) (host := "") 12 rfl t_X12_isWord ⟨Or.inl q_12_511, i_X12_isWord.1, i_X12_isWord.2⟩ ⟨by decide, rfl⟩ (congrArg Prod.fst (J.1.1 125 (12, 92) rfl)) rfl (by decide) rfl rfl ⟨by decide, by decide⟩ (jC.of rfl k_X12_isWord rfl ?_)
                  show jX m_X12_isWord 1 0 0 0 [(0, .ref 125), (1, .long 6309)] [] _ 0 0 _
                  refine x_aloadn (x := 125) rfl rfl ?_
                  refine z_getM (N := 92) (v := v1) 12 11 rfl f_12_235 rfl J rfl qv1 ?_
                  refine x_iconst (v := 1) rfl ki_1 ?_
                  refine x_icne (tgt := 21) rfl rfl (ti_ne rfl jk_1 (bn_f (by omega) ?_))
                  refine x_aloadn (x := 125) rfl rfl ?_
                  refine z_getL0 (N := 92) 12 12 rfl f_12_224 rfl J rfl (fun v35 => ?_)
                  have ev35 := jfullL v35
                  refine x_lloadn (x := 6309) rfl rfl ?_
                  refine z_lcmp rfl rfl jkl_6309 (fun v36 ev36 => ?_)
                  refine x_ifne (tgt := 21) rfl rfl (ti_ne rfl jk_0 ⟨fun c37 => ?_, fun c37 => ?_⟩)
                  ·
                    refine x_iconst (v := 0) rfl ki_0 ?_
                    refine x_zret rfl rfl (by decide) ?_
                    show jX m_X12_kindAt 2 0 0 142 [(0, .ref 125)] [.int 0] _ 0 0 _
                    refine x_ifeq (tgt := 150) rfl rfl (ti_eq jk_0 jk_0 (br_t (by omega) ?_))
                    refine x_aloadn (x := 125) rfl rfl ?_
                    refine x_ldc2 (v := 627764) rfl z_12_631 ?_
                    refine x_inv (N := m_X12_isWord) (As := [.long 627764]) (b := 125) (st := []) (dx9 := 1) (mc := 0) (ms := 0) (host := "") 12 rfl t_X12_isWord ⟨Or.inl q_12_511, i_X12_isWord.1, i_X12_isWord.2⟩ ⟨by decide, rfl⟩ (congrArg Prod.fst (J.1.1 125 (12, 92) rfl)) rfl (by decide) rfl rfl ⟨by decide, by decide⟩ (jC.of rfl k_X12_isWord rfl ?_)
                    show jX m_X12_isWord 1 0 0 0 [(0, .ref 125), (1, .long 627764)] [] _ 0 0 _
                    refine x_aloadn (x := 125) rfl rfl ?_
                    refine z_getM (N := 92) (v := v1) 12 11 rfl f_12_235 rfl J rfl qv1 ?_
                    refine x_iconst (v := 1) rfl ki_1 ?_
                    refine x_icne (tgt := 21) rfl rfl (ti_ne rfl jk_1 (bn_f (by omega) ?_))
                    refine x_aloadn (x := 125) rfl rfl ?_
                    refine z_getL0 (N := 92) 12 12 rfl f_12_224 rfl J rfl (fun v38 => ?_)
                    have ev38 := jfullL v38
                    refine x_lloadn (x := 627764) rfl rfl ?_
                    refine z_lcmp rfl rfl jkl_627764 (fun v39 ev39 => ?_)
                    refine x_ifne (tgt := 21) rfl rfl (ti_ne rfl jk_0 ⟨fun c40 => ?_, fun c40 => ?_⟩)
                    ·
                      refine x_iconst (v := 0) rfl ki_0 ?_
                      refine x_zret rfl rfl (by decide) ?_
                      show jX m_X12_kindAt 2 0 0 157 [(0, .ref 125)] [.int 0] _ 0 0 _
                      refine x_ifeq (tgt := 165) rfl rfl (ti_eq jk_0 jk_0 (br_t (by omega) ?_))
                      refine x_iconst (v := (-1)) rfl ki_m1 ?_
                      exact jX.sub jsb_n (ct_X12_kindAt_r125_100166 hD hQ  h J Sm)
                    ·
                      refine x_iconst (v := 1) rfl ki_1 ?_
                      refine x_goto (tgt := 22) rfl rfl ?_
                      refine x_zret rfl rfl (by decide) ?_
                      show jX m_X12_kindAt 2 0 0 157 [(0, .ref 125)] [.int 1] _ 0 0 _
                      refine x_ifeq (tgt := 165) rfl rfl (ti_eq jk_1 jk_0 (br_f (by omega) ?_))
                      refine x_bipush (v := 8) rfl kb_8 ?_
                      refine x_goto (tgt := 166) rfl rfl ?_
                      exact jX.sub jsb_n (ct_X12_kindAt_r125_1000166 hD hQ  h J Sm)
                  ·
                    refine x_iconst (v := 1) rfl ki_1 ?_
                    refine x_goto (tgt := 22) rfl rfl ?_
                    refine x_zret rfl rfl (by decide) ?_
                    show jX m_X12_kindAt 2 0 0 142 [(0, .ref 125)] [.int 1] _ 0 0 _
                    refine x_ifeq (tgt := 150) rfl rfl (ti_eq jk_1 jk_0 (br_f (by omega) ?_))
                    refine x_bipush (v := 7) rfl kb_7 ?_
                    refine x_goto (tgt := 166) rfl rfl ?_
                    exact jX.sub jsb_n (ct_X12_kindAt_r125_900166 hD hQ  h J Sm)
                ·
                  refine x_iconst (v := 1) rfl ki_1 ?_
                  refine x_goto (tgt := 22) rfl rfl ?_
                  refine x_zret rfl rfl (by decide) ?_
                  show jX m_X12_kindAt 2 0 0 127 [(0, .ref 125)] [.int 1] _ 0 0 _
                  refine x_ifeq (tgt := 135) rfl rfl (ti_eq jk_1 jk_0 (br_f (by omega) ?_))
                  refine x_bipush (v := 6) rfl kb_6 ?_
                  refine x_goto (tgt := 166) rfl rfl ?_
                  exact jX.sub jsb_n (ct_X12_kindAt_r125_800166 hD hQ  h J Sm)
              ·
                refine x_iconst (v := 1) rfl ki_1 ?_
                refine x_goto (tgt := 22) rfl rfl ?_
                refine x_zret rfl rfl (by decide) ?_
                show jX m_X12_kindAt 2 0 0 87 [(0, .ref 125)] [.int 1] _ 0 0 _
                refine x_ifeq (tgt := 120) rfl rfl (ti_eq jk_1 jk_0 (br_f (by omega) ?_))
                exact jX.sub (jsb_c rfl jsb_n) (ct_X12_kindAt_r125_90 hD hQ  v1 h (jr_of rfl (by omega)) qv1 J Sm)
          ·
            refine x_aloadn (x := 125) rfl rfl ?_
            refine z_getL0 (N := 92) 12 12 rfl f_12_224 rfl J rfl (fun v41 => ?_)
            have ev41 := jfullL v41
            refine x_lloadn (x := 609625254) rfl rfl ?_
            refine z_lcmp rfl rfl jkl_609625254 (fun v42 ev42 => ?_)
            refine x_ifne (tgt := 21) rfl rfl (ti_ne rfl jk_0 ⟨fun c43 => ?_, fun c43 => ?_⟩)
            ·
              refine x_iconst (v := 0) rfl ki_0 ?_
              refine x_zret rfl rfl (by decide) ?_
              show jX m_X12_kindAt 2 0 0 77 [(0, .ref 125)] [.int 0] _ 0 0 _
              refine x_ifne (tgt := 90) rfl rfl (ti_ne jk_0 jk_0 (bn_f (by omega) ?_))
              refine x_aloadn (x := 125) rfl rfl ?_
              refine x_ldc2 (v := 2134245) rfl z_12_625 ?_
              refine x_inv (N := m_X12_isWord) (As := [.long 2134245]) (b := 125) (st := []) (dx9 := 1) (mc := 0) (ms := 0) (host := "") 12 rfl t_X12_isWord ⟨Or.inl q_12_511, i_X12_isWord.1, i_X12_isWord.2⟩ ⟨by decide, rfl⟩ (congrArg Prod.fst (J.1.1 125 (12, 92) rfl)) rfl (by decide) rfl rfl ⟨by decide, by decide⟩ (jC.of rfl k_X12_isWord rfl ?_)
              show jX m_X12_isWord 1 0 0 0 [(0, .ref 125), (1, .long 2134245)] [] _ 0 0 _
              refine x_aloadn (x := 125) rfl rfl ?_
              refine z_getM (N := 92) (v := v1) 12 11 rfl f_12_235 rfl J rfl qv1 ?_
              refine x_iconst (v := 1) rfl ki_1 ?_
              refine x_icne (tgt := 21) rfl rfl (ti_ne rfl jk_1 (bn_f (by omega) ?_))
              refine x_aloadn (x := 125) rfl rfl ?_
              refine z_getL0 (N := 92) 12 12 rfl f_12_224 rfl J rfl (fun v44 => ?_)
              have ev44 := jfullL v44
              refine x_lloadn (x := 2134245) rfl rfl ?_
              refine z_lcmp rfl rfl jkl_2134245 (fun v45 ev45 => ?_)
              refine x_ifne (tgt := 21) rfl rfl (ti_ne rfl jk_0 ⟨fun c46 => ?_, fun c46 => ?_⟩)
              ·
                refine x_iconst (v := 0) rfl ki_0 ?_
                refine x_zret rfl rfl (by decide) ?_
                show jX m_X12_kindAt 2 0 0 87 [(0, .ref 125)] [.int 0] _ 0 0 _
                refine x_ifeq (tgt := 120) rfl rfl (ti_eq jk_0 jk_0 (br_t (by omega) ?_))
                refine x_aloadn (x := 125) rfl rfl ?_
                refine x_ldc2 (v := 677454) rfl z_12_627 ?_
                refine x_inv (N := m_X12_isWord) (As := [.long 677454]) (b := 125) (st := []) (dx9 := 1) (mc := 0) (ms := 0) (host := "") 12 rfl t_X12_isWord ⟨Or.inl q_12_511, i_X12_isWord.1, i_X12_isWord.2⟩ ⟨by decide, rfl⟩ (congrArg Prod.fst (J.1.1 125 (12, 92) rfl)) rfl (by decide) rfl rfl ⟨by decide, by decide⟩ (jC.of rfl k_X12_isWord rfl ?_)
                show jX m_X12_isWord 1 0 0 0 [(0, .ref 125), (1, .long 677454)] [] _ 0 0 _
                refine x_aloadn (x := 125) rfl rfl ?_
                refine z_getM (N := 92) (v := v1) 12 11 rfl f_12_235 rfl J rfl qv1 ?_
                refine x_iconst (v := 1) rfl ki_1 ?_
                refine x_icne (tgt := 21) rfl rfl (ti_ne rfl jk_1 (bn_f (by omega) ?_))
                refine x_aloadn (x := 125) rfl rfl ?_
                refine z_getL0 (N := 92) 12 12 rfl f_12_224 rfl J rfl (fun v47 => ?_)
                have ev47 := jfullL v47
                refine x_lloadn (x := 677454) rfl rfl ?_
                refine z_lcmp rfl rfl jkl_677454 (fun v48 ev48 => ?_)
                refine x_ifne (tgt := 21) rfl rfl (ti_ne rfl jk_0 ⟨fun c49 => ?_, fun c49 => ?_⟩)
                ·
                  refine x_iconst (v := 0) rfl ki_0 ?_
                  refine x_zret rfl rfl (by decide) ?_
                  show jX m_X12_kindAt 2 0 0 127 [(0, .ref 125)] [.int 0] _ 0 0 _
                  refine x_ifeq (tgt := 135) rfl rfl (ti_eq jk_0 jk_0 (br_t (by omega) ?_))
                  refine x_aloadn (x := 125) rfl rfl ?_
                  refine x_ldc2 (v := 6309) rfl z_12_629 ?_
                  refine x_inv (N := m_X12_isWord) (As := [.long 6309]) (b := 125) (st := []) (dx9 := 1) (mc := 0) (ms := 0) (host := "") 12 rfl t_X12_isWord ⟨Or.inl q_12_511, i_X12_isWord.1, i_X12_isWord.2⟩ ⟨by decide, rfl⟩ (congrArg Prod.fst (J.1.1 125 (12, 92) rfl)) rfl (by decide) rfl rfl ⟨by decide, by decide⟩ (jC.of rfl k_X12_isWord rfl ?_)
                  show jX m_X12_isWord 1 0 0 0 [(0, .ref 125), (1, .long 6309)] [] _ 0 0 _
                  refine x_aloadn (x := 125) rfl rfl ?_
                  refine z_getM (N := 92) (v := v1) 12 11 rfl f_12_235 rfl J rfl qv1 ?_
                  refine x_iconst (v := 1) rfl ki_1 ?_
                  refine x_icne (tgt := 21) rfl rfl (ti_ne rfl jk_1 (bn_f (by omega) ?_))
                  refine x_aloadn (x := 125) rfl rfl ?_
                  refine z_getL0 (N := 92) 12 12 rfl f_12_224 rfl J rfl (fun v50 => ?_)
                  have ev50 := jfullL v50
                  refine x_lloadn (x := 6309) rfl rfl ?_
                  refine z_lcmp rfl rfl jkl_6309 (fun v51 ev51 => ?_)
                  refine x_ifne (tgt := 21) rfl rfl (ti_ne rfl jk_0 ⟨fun c52 => ?_, fun c52 => ?_⟩)
                  ·
                    refine x_iconst (v := 0) rfl ki_0 ?_
                    refine x_zret rfl rfl (by decide) ?_
                    show jX m_X12_kindAt 2 0 0 142 [(0, .ref 125)] [.int 0] _ 0 0 _
                    refine x_ifeq (tgt := 150) rfl rfl (ti_eq jk_0 jk_0 (br_t (by omega) ?_))
                    refine x_aloadn (x := 125) rfl rfl ?_
                    refine x_ldc2 (v := 627764) rfl z_12_631 ?_
                    refine x_inv (N := m_X12_isWord) (As := [.long 627764]) (b := 125) (st := []) (dx9 := 1) (mc := 0) (ms := 0) (host := "") 12 rfl t_X12_isWord ⟨Or.inl q_12_511, i_X12_isWord.1, i_X12_isWord.2⟩ ⟨by decide, rfl⟩ (congrArg Prod.fst (J.1.1 125 (12, 92) rfl)) rfl (by decide) rfl rfl ⟨by decide, by decide⟩ (jC.of rfl k_X12_isWord rfl ?_)
                    show jX m_X12_isWord 1 0 0 0 [(0, .ref 125), (1, .long 627764)] [] _ 0 0 _
                    refine x_aloadn (x := 125) rfl rfl ?_
                    refine z_getM (N := 92) (v := v1) 12 11 rfl f_12_235 rfl J rfl qv1 ?_
                    refine x_iconst (v := 1) rfl ki_1 ?_
                    refine x_icne (tgt := 21) rfl rfl (ti_ne rfl jk_1 (bn_f (by omega) ?_))
                    refine x_aloadn (x := 125) rfl rfl ?_
                    refine z_getL0 (N := 92) 12 12 rfl f_12_224 rfl J rfl (fun v53 => ?_)
                    have ev53 := jfullL v53
                    refine x_lloadn (x := 627764) rfl rfl ?_
                    refine z_lcmp rfl rfl jkl_627764 (fun v54 ev54 => ?_)
                    refine x_ifne (tgt := 21) rfl rfl (ti_ne rfl jk_0 ⟨fun c55 => ?_, fun c55 => ?_⟩)
                    ·
                      refine x_iconst (v := 0) rfl ki_0 ?_
                      refine x_zret rfl rfl (by decide) ?_
                      show jX m_X12_kindAt 2 0 0 157 [(0, .ref 125)] [.int 0] _ 0 0 _
                      refine x_ifeq (tgt := 165) rfl rfl (ti_eq jk_0 jk_0 (br_t (by omega) ?_))
                      refine x_iconst (v := (-1)) rfl ki_m1 ?_
                      exact jX.sub jsb_n (ct_X12_kindAt_r125_100166 hD hQ  h J Sm)
                    ·
                      refine x_iconst (v := 1) rfl ki_1 ?_
                      refine x_goto (tgt := 22) rfl rfl ?_
                      refine x_zret rfl rfl (by decide) ?_
                      show jX m_X12_kindAt 2 0 0 157 [(0, .ref 125)] [.int 1] _ 0 0 _
                      refine x_ifeq (tgt := 165) rfl rfl (ti_eq jk_1 jk_0 (br_f (by omega) ?_))
                      refine x_bipush (v := 8) rfl kb_8 ?_
                      refine x_goto (tgt := 166) rfl rfl ?_
                      exact jX.sub jsb_n (ct_X12_kindAt_r125_1000166 hD hQ  h J Sm)
                  ·
                    refine x_iconst (v := 1) rfl ki_1 ?_
                    refine x_goto (tgt := 22) rfl rfl ?_
                    refine x_zret rfl rfl (by decide) ?_
                    show jX m_X12_kindAt 2 0 0 142 [(0, .ref 125)] [.int 1] _ 0 0 _
                    refine x_ifeq (tgt := 150) rfl rfl (ti_eq jk_1 jk_0 (br_f (by omega) ?_))
                    refine x_bipush (v := 7) rfl kb_7 ?_
                    refine x_goto (tgt := 166) rfl rfl ?_
                    exact jX.sub jsb_n (ct_X12_kindAt_r125_900166 hD hQ  h J Sm)
                ·
                  refine x_iconst (v := 1) rfl ki_1 ?_
                  refine x_goto (tgt := 22) rfl rfl ?_
                  refine x_zret rfl rfl (by decide) ?_
                  show jX m_X12_kindAt 2 0 0 127 [(0, .ref 125)] [.int 1] _ 0 0 _
                  refine x_ifeq (tgt := 135) rfl rfl (ti_eq jk_1 jk_0 (br_f (by omega) ?_))
                  refine x_bipush (v := 6) rfl kb_6 ?_
                  refine x_goto (tgt := 166) rfl rfl ?_
                  exact jX.sub jsb_n (ct_X12_kindAt_r125_800166 hD hQ  h J Sm)
              ·
                refine x_iconst (v := 1) rfl ki_1 ?_
                refine x_goto (tgt := 22) rfl rfl ?_
                refine x_zret rfl rfl (by decide) ?_
                show jX m_X12_kindAt 2 0 0 87 [(0, .ref 125)] [.int 1] _ 0 0 _
                refine x_ifeq (tgt := 120) rfl rfl (ti_eq jk_1 jk_0 (br_f (by omega) ?_))
                exact jX.sub (jsb_c rfl jsb_n) (ct_X12_kindAt_r125_90 hD hQ  v1 h (jr_of rfl (by omega)) qv1 J Sm)
            ·
              refine x_iconst (v := 1) rfl ki_1 ?_
              refine x_goto (tgt := 22) rfl rfl ?_
              refine x_zret rfl rfl (by decide) ?_
              show jX m_X12_kindAt 2 0 0 77 [(0, .ref 125)] [.int 1] _ 0 0 _
              refine x_ifne (tgt := 90) rfl rfl (ti_ne jk_1 jk_0 (bn_t (by omega) ?_))
              exact jX.sub (jsb_c rfl jsb_n) (ct_X12_kindAt_r125_90 hD hQ  v1 h (jr_of rfl (by omega)) qv1 J Sm)
        ·
          refine x_aloadn (x := 125) rfl rfl ?_
          refine z_getL0 (N := 92) 12 12 rfl f_12_224 rfl J rfl (fun v56 => ?_)
          have ev56 := jfullL v56
          refine x_lloadn (x := 591493) rfl rfl ?_
          refine z_lcmp rfl rfl jkl_591493 (fun v57 ev57 => ?_)
          refine x_ifne (tgt := 21) rfl rfl (ti_ne rfl jk_0 ⟨fun c58 => ?_, fun c58 => ?_⟩)
          ·
            refine x_iconst (v := 0) rfl ki_0 ?_
            refine x_zret rfl rfl (by decide) ?_
            show jX m_X12_kindAt 2 0 0 67 [(0, .ref 125)] [.int 0] _ 0 0 _
            refine x_ifne (tgt := 90) rfl rfl (ti_ne jk_0 jk_0 (bn_f (by omega) ?_))
            refine x_aloadn (x := 125) rfl rfl ?_
            refine x_ldc2 (v := 609625254) rfl z_12_623 ?_
            refine x_inv (N := m_X12_isWord) (As := [.long 609625254]) (b := 125) (st := []) (dx9 := 1) (mc := 0) (ms := 0) (host := "") 12 rfl t_X12_isWord ⟨Or.inl q_12_511, i_X12_isWord.1, i_X12_isWord.2⟩ ⟨by decide, rfl⟩ (congrArg Prod.fst (J.1.1 125 (12, 92) rfl)) rfl (by decide) rfl rfl ⟨by decide, by decide⟩ (jC.of rfl k_X12_isWord rfl ?_)
            show jX m_X12_isWord 1 0 0 0 [(0, .ref 125), (1, .long 609625254)] [] _ 0 0 _
            refine x_aloadn (x := 125) rfl rfl ?_
            refine z_getM (N := 92) (v := v1) 12 11 rfl f_12_235 rfl J rfl qv1 ?_
            refine x_iconst (v := 1) rfl ki_1 ?_
            refine x_icne (tgt := 21) rfl rfl (ti_ne rfl jk_1 (bn_f (by omega) ?_))
            refine x_aloadn (x := 125) rfl rfl ?_
            refine z_getL0 (N := 92) 12 12 rfl f_12_224 rfl J rfl (fun v59 => ?_)
            have ev59 := jfullL v59
            refine x_lloadn (x := 609625254) rfl rfl ?_
            refine z_lcmp rfl rfl jkl_609625254 (fun v60 ev60 => ?_)
            refine x_ifne (tgt := 21) rfl rfl (ti_ne rfl jk_0 ⟨fun c61 => ?_, fun c61 => ?_⟩)
            ·
              refine x_iconst (v := 0) rfl ki_0 ?_
              refine x_zret rfl rfl (by decide) ?_
              show jX m_X12_kindAt 2 0 0 77 [(0, .ref 125)] [.int 0] _ 0 0 _
              refine x_ifne (tgt := 90) rfl rfl (ti_ne jk_0 jk_0 (bn_f (by omega) ?_))
              refine x_aloadn (x := 125) rfl rfl ?_
              refine x_ldc2 (v := 2134245) rfl z_12_625 ?_
              refine x_inv (N := m_X12_isWord) (As := [.long 2134245]) (b := 125) (st := []) (dx9 := 1) (mc := 0) (ms := 0) (host := "") 12 rfl t_X12_isWord ⟨Or.inl q_12_511, i_X12_isWord.1, i_X12_isWord.2⟩ ⟨by decide, rfl⟩ (congrArg Prod.fst (J.1.1 125 (12, 92) rfl)) rfl (by decide) rfl rfl ⟨by decide, by decide⟩ (jC.of rfl k_X12_isWord rfl ?_)
              show jX m_X12_isWord 1 0 0 0 [(0, .ref 125), (1, .long 2134245)] [] _ 0 0 _
              refine x_aloadn (x := 125) rfl rfl ?_
              refine z_getM (N := 92) (v := v1) 12 11 rfl f_12_235 rfl J rfl qv1 ?_
              refine x_iconst (v := 1) rfl ki_1 ?_
              refine x_icne (tgt := 21) rfl rfl (ti_ne rfl jk_1 (bn_f (by omega) ?_))
              refine x_aloadn (x := 125) rfl rfl ?_
              refine z_getL0 (N := 92) 12 12 rfl f_12_224 rfl J rfl (fun v62 => ?_)
              have ev62 := jfullL v62
              refine x_lloadn (x := 2134245) rfl rfl ?_
              refine z_lcmp rfl rfl jkl_2134245 (fun v63 ev63 => ?_)
              refine x_ifne (tgt := 21) rfl rfl (ti_ne rfl jk_0 ⟨fun c64 => ?_, fun c64 => ?_⟩)
              ·
                refine x_iconst (v := 0) rfl ki_0 ?_
                refine x_zret rfl rfl (by decide) ?_
                show jX m_X12_kindAt 2 0 0 87 [(0, .ref 125)] [.int 0] _ 0 0 _
                refine x_ifeq (tgt := 120) rfl rfl (ti_eq jk_0 jk_0 (br_t (by omega) ?_))
                refine x_aloadn (x := 125) rfl rfl ?_
                refine x_ldc2 (v := 677454) rfl z_12_627 ?_
                refine x_inv (N := m_X12_isWord) (As := [.long 677454]) (b := 125) (st := []) (dx9 := 1) (mc := 0) (ms := 0) (host := "") 12 rfl t_X12_isWord ⟨Or.inl q_12_511, i_X12_isWord.1, i_X12_isWord.2⟩ ⟨by decide, rfl⟩ (congrArg Prod.fst (J.1.1 125 (12, 92) rfl)) rfl (by decide) rfl rfl ⟨by decide, by decide⟩ (jC.of rfl k_X12_isWord rfl ?_)
                show jX m_X12_isWord 1 0 0 0 [(0, .ref 125), (1, .long 677454)] [] _ 0 0 _
                refine x_aloadn (x := 125) rfl rfl ?_
                refine z_getM (N := 92) (v := v1) 12 11 rfl f_12_235 rfl J rfl qv1 ?_
                refine x_iconst (v := 1) rfl ki_1 ?_
                refine x_icne (tgt := 21) rfl rfl (ti_ne rfl jk_1 (bn_f (by omega) ?_))
                refine x_aloadn (x := 125) rfl rfl ?_
                refine z_getL0 (N := 92) 12 12 rfl f_12_224 rfl J rfl (fun v65 => ?_)
                have ev65 := jfullL v65
                refine x_lloadn (x := 677454) rfl rfl ?_
                refine z_lcmp rfl rfl jkl_677454 (fun v66 ev66 => ?_)
                refine x_ifne (tgt := 21) rfl rfl (ti_ne rfl jk_0 ⟨fun c67 => ?_, fun c67 => ?_⟩)
                ·
                  refine x_iconst (v := 0) rfl ki_0 ?_
                  refine x_zret rfl rfl (by decide) ?_
                  show jX m_X12_kindAt 2 0 0 127 [(0, .ref 125)] [.int 0] _ 0 0 _
                  refine x_ifeq (tgt := 135) rfl rfl (ti_eq jk_0 jk_0 (br_t (by omega) ?_))
                  refine x_aloadn (x := 125) rfl rfl ?_
                  refine x_ldc2 (v := 6309) rfl z_12_629 ?_
                  refine x_inv (N := m_X12_isWord) (As := [.long 6309]) (b := 125) (st := []) (dx9 := 1) (mc := 0) (ms := 0) (host := "") 12 rfl t_X12_isWord ⟨Or.inl q_12_511, i_X12_isWord.1, i_X12_isWord.2⟩ ⟨by decide, rfl⟩ (congrArg Prod.fst (J.1.1 125 (12, 92) rfl)) rfl (by decide) rfl rfl ⟨by decide, by decide⟩ (jC.of rfl k_X12_isWord rfl ?_)
                  show jX m_X12_isWord 1 0 0 0 [(0, .ref 125), (1, .long 6309)] [] _ 0 0 _
                  refine x_aloadn (x := 125) rfl rfl ?_
                  refine z_getM (N := 92) (v := v1) 12 11 rfl f_12_235 rfl J rfl qv1 ?_
                  refine x_iconst (v := 1) rfl ki_1 ?_
                  refine x_icne (tgt := 21) rfl rfl (ti_ne rfl jk_1 (bn_f (by omega) ?_))
                  refine x_aloadn (x := 125) rfl rfl ?_
                  refine z_getL0 (N := 92) 12 12 rfl f_12_224 rfl J rfl (fun v68 => ?_)
                  have ev68 := jfullL v68
                  refine x_lloadn (x := 6309) rfl rfl ?_
                  refine z_lcmp rfl rfl jkl_6309 (fun v69 ev69 => ?_)
                  refine x_ifne (tgt := 21) rfl rfl (ti_ne rfl jk_0 ⟨fun c70 => ?_, fun c70 => ?_⟩)
                  ·
                    refine x_iconst (v := 0) rfl ki_0 ?_
                    refine x_zret rfl rfl (by decide) ?_
                    show jX m_X12_kindAt 2 0 0 142 [(0, .ref 125)] [.int 0] _ 0 0 _
                    refine x_ifeq (tgt := 150) rfl rfl (ti_eq jk_0 jk_0 (br_t (by omega) ?_))
                    refine x_aloadn (x := 125) rfl rfl ?_
                    refine x_ldc2 (v := 627764) rfl z_12_631 ?_
                    refine x_inv (N := m_X12_isWord) (As := [.long 627764]) (b := 125) (st := []) (dx9 := 1) (mc := 0) (ms := 0) (host := "") 12 rfl t_X12_isWord ⟨Or.inl q_12_511, i_X12_isWord.1, i_X12_isWord.2⟩ ⟨by decide, rfl⟩ (congrArg Prod.fst (J.1.1 125 (12, 92) rfl)) rfl (by decide) rfl rfl ⟨by decide, by decide⟩ (jC.of rfl k_X12_isWord rfl ?_)
                    show jX m_X12_isWord 1 0 0 0 [(0, .ref 125), (1, .long 627764)] [] _ 0 0 _
                    refine x_aloadn (x := 125) rfl rfl ?_
                    refine z_getM (N := 92) (v := v1) 12 11 rfl f_12_235 rfl J rfl qv1 ?_
                    refine x_iconst (v := 1) rfl ki_1 ?_
                    refine x_icne (tgt := 21) rfl rfl (ti_ne rfl jk_1 (bn_f (by omega) ?_))
                    refine x_aloadn (x := 125) rfl rfl ?_
                    refine z_getL0 (N := 92) 12 12 rfl f_12_224 rfl J rfl (fun v71 => ?_)
                    have ev71 := jfullL v71
                    refine x_lloadn (x := 627764) rfl rfl ?_
                    refine z_lcmp rfl rfl jkl_627764 (fun v72 ev72 => ?_)
                    refine x_ifne (tgt := 21) rfl rfl (ti_ne rfl jk_0 ⟨fun c73 => ?_, fun c73 => ?_⟩)
                    ·
                      refine x_iconst (v := 0) rfl ki_0 ?_
                      refine x_zret rfl rfl (by decide) ?_
                      show jX m_X12_kindAt 2 0 0 157 [(0, .ref 125)] [.int 0] _ 0 0 _
                      refine x_ifeq (tgt := 165) rfl rfl (ti_eq jk_0 jk_0 (br_t (by omega) ?_))
                      refine x_iconst (v := (-1)) rfl ki_m1 ?_
                      exact jX.sub jsb_n (ct_X12_kindAt_r125_100166 hD hQ  h J Sm)
                    ·
                      refine x_iconst (v := 1) rfl ki_1 ?_
                      refine x_goto (tgt := 22) rfl rfl ?_
                      refine x_zret rfl rfl (by decide) ?_
                      show jX m_X12_kindAt 2 0 0 157 [(0, .ref 125)] [.int 1] _ 0 0 _
                      refine x_ifeq (tgt := 165) rfl rfl (ti_eq jk_1 jk_0 (br_f (by omega) ?_))
                      refine x_bipush (v := 8) rfl kb_8 ?_
                      refine x_goto (tgt := 166) rfl rfl ?_
                      exact jX.sub jsb_n (ct_X12_kindAt_r125_1000166 hD hQ  h J Sm)
                  ·
                    refine x_iconst (v := 1) rfl ki_1 ?_
                    refine x_goto (tgt := 22) rfl rfl ?_
                    refine x_zret rfl rfl (by decide) ?_
                    show jX m_X12_kindAt 2 0 0 142 [(0, .ref 125)] [.int 1] _ 0 0 _
                    refine x_ifeq (tgt := 150) rfl rfl (ti_eq jk_1 jk_0 (br_f (by omega) ?_))
                    refine x_bipush (v := 7) rfl kb_7 ?_
                    refine x_goto (tgt := 166) rfl rfl ?_
                    exact jX.sub jsb_n (ct_X12_kindAt_r125_900166 hD hQ  h J Sm)
                ·
                  refine x_iconst (v := 1) rfl ki_1 ?_
                  refine x_goto (tgt := 22) rfl rfl ?_
                  refine x_zret rfl rfl (by decide) ?_
                  show jX m_X12_kindAt 2 0 0 127 [(0, .ref 125)] [.int 1] _ 0 0 _
                  refine x_ifeq (tgt := 135) rfl rfl (ti_eq jk_1 jk_0 (br_f (by omega) ?_))
                  refine x_bipush (v := 6) rfl kb_6 ?_
                  refine x_goto (tgt := 166) rfl rfl ?_
                  exact jX.sub jsb_n (ct_X12_kindAt_r125_800166 hD hQ  h J Sm)
              ·
                refine x_iconst (v := 1) rfl ki_1 ?_
                refine x_goto (tgt := 22) rfl rfl ?_
                refine x_zret rfl rfl (by decide) ?_
                show jX m_X12_kindAt 2 0 0 87 [(0, .ref 125)] [.int 1] _ 0 0 _
                refine x_ifeq (tgt := 120) rfl rfl (ti_eq jk_1 jk_0 (br_f (by omega) ?_))
                exact jX.sub (jsb_c rfl jsb_n) (ct_X12_kindAt_r125_90 hD hQ  v1 h (jr_of rfl (by omega)) qv1 J Sm)
            ·
              refine x_iconst (v := 1) rfl ki_1 ?_
              refine x_goto (tgt := 22) rfl rfl ?_
              refine x_zret rfl rfl (by decide) ?_
              show jX m_X12_kindAt 2 0 0 77 [(0, .ref 125)] [.int 1] _ 0 0 _
              refine x_ifne (tgt := 90) rfl rfl (ti_ne jk_1 jk_0 (bn_t (by omega) ?_))
              exact jX.sub (jsb_c rfl jsb_n) (ct_X12_kindAt_r125_90 hD hQ  v1 h (jr_of rfl (by omega)) qv1 J Sm)
          ·
            refine x_iconst (v := 1) rfl ki_1 ?_
            refine x_goto (tgt := 22) rfl rfl ?_
            refine x_zret rfl rfl (by decide) ?_
            show jX m_X12_kindAt 2 0 0 67 [(0, .ref 125)] [.int 1] _ 0 0 _
            refine x_ifne (tgt := 90) rfl rfl (ti_ne jk_1 jk_0 (bn_t (by omega) ?_))
            exact jX.sub (jsb_c rfl jsb_n) (ct_X12_kindAt_r125_90 hD hQ  v1 h (jr_of rfl (by omega)) qv1 J Sm)
      ·
        refine x_aloadn (x := 125) rfl rfl ?_
        refine z_getL0 (N := 92) 12 12 rfl f_12_224 rfl J rfl (fun v74 => ?_)
        have ev74 := jfullL v74
        refine x_lloadn (x := 193115668) rfl rfl ?_
        refine z_lcmp rfl rfl jkl_193115668 (fun v75 ev75 => ?_)
        refine x_ifne (tgt := 21) rfl rfl (ti_ne rfl jk_0 ⟨fun c76 => ?_, fun c76 => ?_⟩)
        ·
          refine x_iconst (v := 0) rfl ki_0 ?_
          refine x_zret rfl rfl (by decide) ?_
          show jX m_X12_kindAt 2 0 0 27 [(0, .ref 125)] [.int 0] _ 0 0 _
          refine x_ifeq (tgt := 60) rfl rfl (ti_eq jk_0 jk_0 (br_t (by omega) ?_))
          refine x_aloadn (x := 125) rfl rfl ?_
          refine x_ldc2 (v := 591493) rfl z_12_621 ?_
          refine x_inv (N := m_X12_isWord) (As := [.long 591493]) (b := 125) (st := []) (dx9 := 1) (mc := 0) (ms := 0) (host := "") 12 rfl t_X12_isWord ⟨Or.inl q_12_511, i_X12_isWord.1, i_X12_isWord.2⟩ ⟨by decide, rfl⟩ (congrArg Prod.fst (J.1.1 125 (12, 92) rfl)) rfl (by decide) rfl rfl ⟨by decide, by decide⟩ (jC.of rfl k_X12_isWord rfl ?_)
          show jX m_X12_isWord 1 0 0 0 [(0, .ref 125), (1, .long 591493)] [] _ 0 0 _
          refine x_aloadn (x := 125) rfl rfl ?_
          refine z_getM (N := 92) (v := v1) 12 11 rfl f_12_235 rfl J rfl qv1 ?_
          refine x_iconst (v := 1) rfl ki_1 ?_
          refine x_icne (tgt := 21) rfl rfl (ti_ne rfl jk_1 (bn_f (by omega) ?_))
          refine x_aloadn (x := 125) rfl rfl ?_
          refine z_getL0 (N := 92) 12 12 rfl f_12_224 rfl J rfl (fun v77 => ?_)
          have ev77 := jfullL v77
          refine x_lloadn (x := 591493) rfl rfl ?_
          refine z_lcmp rfl rfl jkl_591493 (fun v78 ev78 => ?_)
          refine x_ifne (tgt := 21) rfl rfl (ti_ne rfl jk_0 ⟨fun c79 => ?_, fun c79 => ?_⟩)
          ·
            refine x_iconst (v := 0) rfl ki_0 ?_
            refine x_zret rfl rfl (by decide) ?_
            show jX m_X12_kindAt 2 0 0 67 [(0, .ref 125)] [.int 0] _ 0 0 _
            refine x_ifne (tgt := 90) rfl rfl (ti_ne jk_0 jk_0 (bn_f (by omega) ?_))
            refine x_aloadn (x := 125) rfl rfl ?_
            refine x_ldc2 (v := 609625254) rfl z_12_623 ?_
            refine x_inv (N := m_X12_isWord) (As := [.long 609625254]) (b := 125) (st := []) (dx9 := 1) (mc := 0) (ms := 0) (host := "") 12 rfl t_X12_isWord ⟨Or.inl q_12_511, i_X12_isWord.1, i_X12_isWord.2⟩ ⟨by decide, rfl⟩ (congrArg Prod.fst (J.1.1 125 (12, 92) rfl)) rfl (by decide) rfl rfl ⟨by decide, by decide⟩ (jC.of rfl k_X12_isWord rfl ?_)
            show jX m_X12_isWord 1 0 0 0 [(0, .ref 125), (1, .long 609625254)] [] _ 0 0 _
            refine x_aloadn (x := 125) rfl rfl ?_
            refine z_getM (N := 92) (v := v1) 12 11 rfl f_12_235 rfl J rfl qv1 ?_
            refine x_iconst (v := 1) rfl ki_1 ?_
            refine x_icne (tgt := 21) rfl rfl (ti_ne rfl jk_1 (bn_f (by omega) ?_))
            refine x_aloadn (x := 125) rfl rfl ?_
            refine z_getL0 (N := 92) 12 12 rfl f_12_224 rfl J rfl (fun v80 => ?_)
            have ev80 := jfullL v80
            refine x_lloadn (x := 609625254) rfl rfl ?_
            refine z_lcmp rfl rfl jkl_609625254 (fun v81 ev81 => ?_)
            refine x_ifne (tgt := 21) rfl rfl (ti_ne rfl jk_0 ⟨fun c82 => ?_, fun c82 => ?_⟩)
            ·
              refine x_iconst (v := 0) rfl ki_0 ?_
              refine x_zret rfl rfl (by decide) ?_
              show jX m_X12_kindAt 2 0 0 77 [(0, .ref 125)] [.int 0] _ 0 0 _
              refine x_ifne (tgt := 90) rfl rfl (ti_ne jk_0 jk_0 (bn_f (by omega) ?_))
              refine x_aloadn (x := 125) rfl rfl ?_
              refine x_ldc2 (v := 2134245) rfl z_12_625 ?_
              refine x_inv (N := m_X12_isWord) (As := [.long 2134245]) (b := 125) (st := []) (dx9 := 1) (mc := 0) (ms := 0) (host := "") 12 rfl t_X12_isWord ⟨Or.inl q_12_511, i_X12_isWord.1, i_X12_isWord.2⟩ ⟨by decide, rfl⟩ (congrArg Prod.fst (J.1.1 125 (12, 92) rfl)) rfl (by decide) rfl rfl ⟨by decide, by decide⟩ (jC.of rfl k_X12_isWord rfl ?_)
              show jX m_X12_isWord 1 0 0 0 [(0, .ref 125), (1, .long 2134245)] [] _ 0 0 _
              refine x_aloadn (x := 125) rfl rfl ?_
              refine z_getM (N := 92) (v := v1) 12 11 rfl f_12_235 rfl J rfl qv1 ?_
              refine x_iconst (v := 1) rfl ki_1 ?_
              refine x_icne (tgt := 21) rfl rfl (ti_ne rfl jk_1 (bn_f (by omega) ?_))
              refine x_aloadn (x := 125) rfl rfl ?_
              refine z_getL0 (N := 92) 12 12 rfl f_12_224 rfl J rfl (fun v83 => ?_)
              have ev83 := jfullL v83
              refine x_lloadn (x := 2134245) rfl rfl ?_
              refine z_lcmp rfl rfl jkl_2134245 (fun v84 ev84 => ?_)
              refine x_ifne (tgt := 21) rfl rfl (ti_ne rfl jk_0 ⟨fun c85 => ?_, fun c85 => ?_⟩)
              ·
                refine x_iconst (v := 0) rfl ki_0 ?_
                refine x_zret rfl rfl (by decide) ?_
                show jX m_X12_kindAt 2 0 0 87 [(0, .ref 125)] [.int 0] _ 0 0 _
                refine x_ifeq (tgt := 120) rfl rfl (ti_eq jk_0 jk_0 (br_t (by omega) ?_))
                refine x_aloadn (x := 125) rfl rfl ?_
                refine x_ldc2 (v := 677454) rfl z_12_627 ?_
                refine x_inv (N := m_X12_isWord) (As := [.long 677454]) (b := 125) (st := []) (dx9 := 1) (mc := 0) (ms := 0) (host := "") 12 rfl t_X12_isWord ⟨Or.inl q_12_511, i_X12_isWord.1, i_X12_isWord.2⟩ ⟨by decide, rfl⟩ (congrArg Prod.fst (J.1.1 125 (12, 92) rfl)) rfl (by decide) rfl rfl ⟨by decide, by decide⟩ (jC.of rfl k_X12_isWord rfl ?_)
                show jX m_X12_isWord 1 0 0 0 [(0, .ref 125), (1, .long 677454)] [] _ 0 0 _
                refine x_aloadn (x := 125) rfl rfl ?_
                refine z_getM (N := 92) (v := v1) 12 11 rfl f_12_235 rfl J rfl qv1 ?_
                refine x_iconst (v := 1) rfl ki_1 ?_
                refine x_icne (tgt := 21) rfl rfl (ti_ne rfl jk_1 (bn_f (by omega) ?_))
                refine x_aloadn (x := 125) rfl rfl ?_
                refine z_getL0 (N := 92) 12 12 rfl f_12_224 rfl J rfl (fun v86 => ?_)
                have ev86 := jfullL v86
                refine x_lloadn (x := 677454) rfl rfl ?_
                refine z_lcmp rfl rfl jkl_677454 (fun v87 ev87 => ?_)
                refine x_ifne (tgt := 21) rfl rfl (ti_ne rfl jk_0 ⟨fun c88 => ?_, fun c88 => ?_⟩)
                ·
                  refine x_iconst (v := 0) rfl ki_0 ?_
                  refine x_zret rfl rfl (by decide) ?_
                  show jX m_X12_kindAt 2 0 0 127 [(0, .ref 125)] [.int 0] _ 0 0 _
                  refine x_ifeq (tgt := 135) rfl rfl (ti_eq jk_0 jk_0 (br_t (by omega) ?_))
                  refine x_aloadn (x := 125) rfl rfl ?_
                  refine x_ldc2 (v := 6309) rfl z_12_629 ?_
                  refine x_inv (N := m_X12_isWord) (As := [.long 6309]) (b := 125) (st := []) (dx9 := 1) (mc := 0) (ms := 0) (host := "") 12 rfl t_X12_isWord ⟨Or.inl q_12_511, i_X12_isWord.1, i_X12_isWord.2⟩ ⟨by decide, rfl⟩ (congrArg Prod.fst (J.1.1 125 (12, 92) rfl)) rfl (by decide) rfl rfl ⟨by decide, by decide⟩ (jC.of rfl k_X12_isWord rfl ?_)
                  show jX m_X12_isWord 1 0 0 0 [(0, .ref 125), (1, .long 6309)] [] _ 0 0 _
                  refine x_aloadn (x := 125) rfl rfl ?_
                  refine z_getM (N := 92) (v := v1) 12 11 rfl f_12_235 rfl J rfl qv1 ?_
                  refine x_iconst (v := 1) rfl ki_1 ?_
                  refine x_icne (tgt := 21) rfl rfl (ti_ne rfl jk_1 (bn_f (by omega) ?_))
                  refine x_aloadn (x := 125) rfl rfl ?_
                  refine z_getL0 (N := 92) 12 12 rfl f_12_224 rfl J rfl (fun v89 => ?_)
                  have ev89 := jfullL v89
                  refine x_lloadn (x := 6309) rfl rfl ?_
                  refine z_lcmp rfl rfl jkl_6309 (fun v90 ev90 => ?_)
                  refine x_ifne (tgt := 21) rfl rfl (ti_ne rfl jk_0 ⟨fun c91 => ?_, fun c91 => ?_⟩)
                  ·
                    refine x_iconst (v := 0) rfl ki_0 ?_
                    refine x_zret rfl rfl (by decide) ?_
                    show jX m_X12_kindAt 2 0 0 142 [(0, .ref 125)] [.int 0] _ 0 0 _
                    refine x_ifeq (tgt := 150) rfl rfl (ti_eq jk_0 jk_0 (br_t (by omega) ?_))
                    refine x_aloadn (x := 125) rfl rfl ?_
                    refine x_ldc2 (v := 627764) rfl z_12_631 ?_
                    refine x_inv (N := m_X12_isWord) (As := [.long 627764]) (b := 125) (st := []) (dx9 := 1) (mc := 0) (ms := 0) (host := "") 12 rfl t_X12_isWord ⟨Or.inl q_12_511, i_X12_isWord.1, i_X12_isWord.2⟩ ⟨by decide, rfl⟩ (congrArg Prod.fst (J.1.1 125 (12, 92) rfl)) rfl (by decide) rfl rfl ⟨by decide, by decide⟩ (jC.of rfl k_X12_isWord rfl ?_)
                    show jX m_X12_isWord 1 0 0 0 [(0, .ref 125), (1, .long 627764)] [] _ 0 0 _
                    refine x_aloadn (x := 125) rfl rfl ?_
                    refine z_getM (N := 92) (v := v1) 12 11 rfl f_12_235 rfl J rfl qv1 ?_
                    refine x_iconst (v := 1) rfl ki_1 ?_
                    refine x_icne (tgt := 21) rfl rfl (ti_ne rfl jk_1 (bn_f (by omega) ?_))
                    refine x_aloadn (x := 125) rfl rfl ?_
                    refine z_getL0 (N := 92) 12 12 rfl f_12_224 rfl J rfl (fun v92 => ?_)
                    have ev92 := jfullL v92
                    refine x_lloadn (x := 627764) rfl rfl ?_
                    refine z_lcmp rfl rfl jkl_627764 (fun v93 ev93 => ?_)
                    refine x_ifne (tgt := 21) rfl rfl (ti_ne rfl jk_0 ⟨fun c94 => ?_, fun c94 => ?_⟩)
                    ·
                      refine x_iconst (v := 0) rfl ki_0 ?_
                      refine x_zret rfl rfl (by decide) ?_
                      show jX m_X12_kindAt 2 0 0 157 [(0, .ref 125)] [.int 0] _ 0 0 _
                      refine x_ifeq (tgt := 165) rfl rfl (ti_eq jk_0 jk_0 (br_t (by omega) ?_))
                      refine x_iconst (v := (-1)) rfl ki_m1 ?_
                      exact jX.sub jsb_n (ct_X12_kindAt_r125_100166 hD hQ  h J Sm)
                    ·
                      refine x_iconst (v := 1) rfl ki_1 ?_
                      refine x_goto (tgt := 22) rfl rfl ?_
                      refine x_zret rfl rfl (by decide) ?_
                      show jX m_X12_kindAt 2 0 0 157 [(0, .ref 125)] [.int 1] _ 0 0 _
                      refine x_ifeq (tgt := 165) rfl rfl (ti_eq jk_1 jk_0 (br_f (by omega) ?_))
                      refine x_bipush (v := 8) rfl kb_8 ?_
                      refine x_goto (tgt := 166) rfl rfl ?_
                      exact jX.sub jsb_n (ct_X12_kindAt_r125_1000166 hD hQ  h J Sm)
                  ·
                    refine x_iconst (v := 1) rfl ki_1 ?_
                    refine x_goto (tgt := 22) rfl rfl ?_
                    refine x_zret rfl rfl (by decide) ?_
                    show jX m_X12_kindAt 2 0 0 142 [(0, .ref 125)] [.int 1] _ 0 0 _
                    refine x_ifeq (tgt := 150) rfl rfl (ti_eq jk_1 jk_0 (br_f (by omega) ?_))
                    refine x_bipush (v := 7) rfl kb_7 ?_
                    refine x_goto (tgt := 166) rfl rfl ?_
                    exact jX.sub jsb_n (ct_X12_kindAt_r125_900166 hD hQ  h J Sm)
                ·
                  refine x_iconst (v := 1) rfl ki_1 ?_
                  refine x_goto (tgt := 22) rfl rfl ?_
                  refine x_zret rfl rfl (by decide) ?_
                  show jX m_X12_kindAt 2 0 0 127 [(0, .ref 125)] [.int 1] _ 0 0 _
                  refine x_ifeq (tgt := 135) rfl rfl (ti_eq jk_1 jk_0 (br_f (by omega) ?_))
                  refine x_bipush (v := 6) rfl kb_6 ?_
                  refine x_goto (tgt := 166) rfl rfl ?_
                  exact jX.sub jsb_n (ct_X12_kindAt_r125_800166 hD hQ  h J Sm)
              ·
                refine x_iconst (v := 1) rfl ki_1 ?_
                refine x_goto (tgt := 22) rfl rfl ?_
                refine x_zret rfl rfl (by decide) ?_
                show jX m_X12_kindAt 2 0 0 87 [(0, .ref 125)] [.int 1] _ 0 0 _
                refine x_ifeq (tgt := 120) rfl rfl (ti_eq jk_1 jk_0 (br_f (by omega) ?_))
                exact jX.sub (jsb_c rfl jsb_n) (ct_X12_kindAt_r125_90 hD hQ  v1 h (jr_of rfl (by omega)) qv1 J Sm)
            ·
              refine x_iconst (v := 1) rfl ki_1 ?_
              refine x_goto (tgt := 22) rfl rfl ?_
              refine x_zret rfl rfl (by decide) ?_
              show jX m_X12_kindAt 2 0 0 77 [(0, .ref 125)] [.int 1] _ 0 0 _
              refine x_ifne (tgt := 90) rfl rfl (ti_ne jk_1 jk_0 (bn_t (by omega) ?_))
              exact jX.sub (jsb_c rfl jsb_n) (ct_X12_kindAt_r125_90 hD hQ  v1 h (jr_of rfl (by omega)) qv1 J Sm)
          ·
            refine x_iconst (v := 1) rfl ki_1 ?_
            refine x_goto (tgt := 22) rfl rfl ?_
            refine x_zret rfl rfl (by decide) ?_
            show jX m_X12_kindAt 2 0 0 67 [(0, .ref 125)] [.int 1] _ 0 0 _
            refine x_ifne (tgt := 90) rfl rfl (ti_ne jk_1 jk_0 (bn_t (by omega) ?_))
            exact jX.sub (jsb_c rfl jsb_n) (ct_X12_kindAt_r125_90 hD hQ  v1 h (jr_of rfl (by omega)) qv1 J Sm)
        ·
          refine x_iconst (v := 1) rfl ki_1 ?_
          refine x_goto (tgt := 22) rfl rfl ?_
          refine x_zret rfl rfl (by decide) ?_
          show jX m_X12_kindAt 2 0 0 27 [(0, .ref 125)] [.int 1] _ 0 0 _
          refine x_ifeq (tgt := 60) rfl rfl (ti_eq jk_1 jk_0 (br_f (by omega) ?_))
          exact jX.sub (jsb_c rfl jsb_n) (ct_X12_kindAt_r125_30 hD hQ  v1 h (jr_of rfl (by omega)) qv1 J Sm)
    ·
      refine x_aloadn (x := 125) rfl rfl ?_
      refine z_getL0 (N := 92) 12 12 rfl f_12_224 rfl J rfl (fun v95 => ?_)
      have ev95 := jfullL v95
      refine x_lloadn (x := 72760775) rfl rfl ?_
      refine z_lcmp rfl rfl jkl_72760775 (fun v96 ev96 => ?_)
      refine x_ifne (tgt := 21) rfl rfl (ti_ne rfl jk_0 ⟨fun c97 => ?_, fun c97 => ?_⟩)
      ·
        refine x_iconst (v := 0) rfl ki_0 ?_
        refine x_zret rfl rfl (by decide) ?_
        show jX m_X12_kindAt 2 0 0 17 [(0, .ref 125)] [.int 0] _ 0 0 _
        refine x_ifne (tgt := 30) rfl rfl (ti_ne jk_0 jk_0 (bn_f (by omega) ?_))
        refine x_aloadn (x := 125) rfl rfl ?_
        refine x_ldc2 (v := 193115668) rfl z_12_619 ?_
        refine x_inv (N := m_X12_isWord) (As := [.long 193115668]) (b := 125) (st := []) (dx9 := 1) (mc := 0) (ms := 0) (host := "") 12 rfl t_X12_isWord ⟨Or.inl q_12_511, i_X12_isWord.1, i_X12_isWord.2⟩ ⟨by decide, rfl⟩ (congrArg Prod.fst (J.1.1 125 (12, 92) rfl)) rfl (by decide) rfl rfl ⟨by decide, by decide⟩ (jC.of rfl k_X12_isWord rfl ?_)
        show jX m_X12_isWord 1 0 0 0 [(0, .ref 125), (1, .long 193115668)] [] _ 0 0 _
        refine x_aloadn (x := 125) rfl rfl ?_
        refine z_getM (N := 92) (v := v1) 12 11 rfl f_12_235 rfl J rfl qv1 ?_
        refine x_iconst (v := 1) rfl ki_1 ?_
        refine x_icne (tgt := 21) rfl rfl (ti_ne rfl jk_1 (bn_f (by omega) ?_))
        refine x_aloadn (x := 125) rfl rfl ?_
        refine z_getL0 (N := 92) 12 12 rfl f_12_224 rfl J rfl (fun v98 => ?_)
        have ev98 := jfullL v98
        refine x_lloadn (x := 193115668) rfl rfl ?_
        refine z_lcmp rfl rfl jkl_193115668 (fun v99 ev99 => ?_)
        refine x_ifne (tgt := 21) rfl rfl (ti_ne rfl jk_0 ⟨fun c100 => ?_, fun c100 => ?_⟩)
        ·
          refine x_iconst (v := 0) rfl ki_0 ?_
          refine x_zret rfl rfl (by decide) ?_
          show jX m_X12_kindAt 2 0 0 27 [(0, .ref 125)] [.int 0] _ 0 0 _
          refine x_ifeq (tgt := 60) rfl rfl (ti_eq jk_0 jk_0 (br_t (by omega) ?_))
          refine x_aloadn (x := 125) rfl rfl ?_
          refine x_ldc2 (v := 591493) rfl z_12_621 ?_
          refine x_inv (N := m_X12_isWord) (As := [.long 591493]) (b := 125) (st := []) (dx9 := 1) (mc := 0) (ms := 0) (host := "") 12 rfl t_X12_isWord ⟨Or.inl q_12_511, i_X12_isWord.1, i_X12_isWord.2⟩ ⟨by decide, rfl⟩ (congrArg Prod.fst (J.1.1 125 (12, 92) rfl)) rfl (by decide) rfl rfl ⟨by decide, by decide⟩ (jC.of rfl k_X12_isWord rfl ?_)
          show jX m_X12_isWord 1 0 0 0 [(0, .ref 125), (1, .long 591493)] [] _ 0 0 _
          refine x_aloadn (x := 125) rfl rfl ?_
          refine z_getM (N := 92) (v := v1) 12 11 rfl f_12_235 rfl J rfl qv1 ?_
          refine x_iconst (v := 1) rfl ki_1 ?_
          refine x_icne (tgt := 21) rfl rfl (ti_ne rfl jk_1 (bn_f (by omega) ?_))
          refine x_aloadn (x := 125) rfl rfl ?_
          refine z_getL0 (N := 92) 12 12 rfl f_12_224 rfl J rfl (fun v101 => ?_)
          have ev101 := jfullL v101
          refine x_lloadn (x := 591493) rfl rfl ?_
          refine z_lcmp rfl rfl jkl_591493 (fun v102 ev102 => ?_)
          refine x_ifne (tgt := 21) rfl rfl (ti_ne rfl jk_0 ⟨fun c103 => ?_, fun c103 => ?_⟩)
          ·
            refine x_iconst (v := 0) rfl ki_0 ?_
            refine x_zret rfl rfl (by decide) ?_
            show jX m_X12_kindAt 2 0 0 67 [(0, .ref 125)] [.int 0] _ 0 0 _
            refine x_ifne (tgt := 90) rfl rfl (ti_ne jk_0 jk_0 (bn_f (by omega) ?_))
            refine x_aloadn (x := 125) rfl rfl ?_
            refine x_ldc2 (v := 609625254) rfl z_12_623 ?_
            refine x_inv (N := m_X12_isWord) (As := [.long 609625254]) (b := 125) (st := []) (dx9 := 1) (mc := 0) (ms := 0) (host := "") 12 rfl t_X12_isWord ⟨Or.inl q_12_511, i_X12_isWord.1, i_X12_isWord.2⟩ ⟨by decide, rfl⟩ (congrArg Prod.fst (J.1.1 125 (12, 92) rfl)) rfl (by decide) rfl rfl ⟨by decide, by decide⟩ (jC.of rfl k_X12_isWord rfl ?_)
            show jX m_X12_isWord 1 0 0 0 [(0, .ref 125), (1, .long 609625254)] [] _ 0 0 _
            refine x_aloadn (x := 125) rfl rfl ?_
            refine z_getM (N := 92) (v := v1) 12 11 rfl f_12_235 rfl J rfl qv1 ?_
            refine x_iconst (v := 1) rfl ki_1 ?_
            refine x_icne (tgt := 21) rfl rfl (ti_ne rfl jk_1 (bn_f (by omega) ?_))
            refine x_aloadn (x := 125) rfl rfl ?_
            refine z_getL0 (N := 92) 12 12 rfl f_12_224 rfl J rfl (fun v104 => ?_)
            have ev104 := jfullL v104
            refine x_lloadn (x := 609625254) rfl rfl ?_
            refine z_lcmp rfl rfl jkl_609625254 (fun v105 ev105 => ?_)
            refine x_ifne (tgt := 21) rfl rfl (ti_ne rfl jk_0 ⟨fun c106 => ?_, fun c106 => ?_⟩)
            ·
              refine x_iconst (v := 0) rfl ki_0 ?_
              refine x_zret rfl rfl (by decide) ?_
              show jX m_X12_kindAt 2 0 0 77 [(0, .ref 125)] [.int 0] _ 0 0 _
              refine x_ifne (tgt := 90) rfl rfl (ti_ne jk_0 jk_0 (bn_f (by omega) ?_))
              refine x_aloadn (x := 125) rfl rfl ?_
              refine x_ldc2 (v := 2134245) rfl z_12_625 ?_
              refine x_inv (N := m_X12_isWord) (As := [.long 2134245]) (b := 125) (st := []) (dx9 := 1) (mc := 0) (ms := 0) (host := "") 12 rfl t_X12_isWord ⟨Or.inl q_12_511, i_X12_isWord.1, i_X12_isWord.2⟩ ⟨by decide, rfl⟩ (congrArg Prod.fst (J.1.1 125 (12, 92) rfl)) rfl (by decide) rfl rfl ⟨by decide, by decide⟩ (jC.of rfl k_X12_isWord rfl ?_)
              show jX m_X12_isWord 1 0 0 0 [(0, .ref 125), (1, .long 2134245)] [] _ 0 0 _
              refine x_aloadn (x := 125) rfl rfl ?_
              refine z_getM (N := 92) (v := v1) 12 11 rfl f_12_235 rfl J rfl qv1 ?_
              refine x_iconst (v := 1) rfl ki_1 ?_
              refine x_icne (tgt := 21) rfl rfl (ti_ne rfl jk_1 (bn_f (by omega) ?_))
              refine x_aloadn (x := 125) rfl rfl ?_
              refine z_getL0 (N := 92) 12 12 rfl f_12_224 rfl J rfl (fun v107 => ?_)
              have ev107 := jfullL v107
              refine x_lloadn (x := 2134245) rfl rfl ?_
              refine z_lcmp rfl rfl jkl_2134245 (fun v108 ev108 => ?_)
              refine x_ifne (tgt := 21) rfl rfl (ti_ne rfl jk_0 ⟨fun c109 => ?_, fun c109 => ?_⟩)
              ·
                refine x_iconst (v := 0) rfl ki_0 ?_
                refine x_zret rfl rfl (by decide) ?_
                show jX m_X12_kindAt 2 0 0 87 [(0, .ref 125)] [.int 0] _ 0 0 _
                refine x_ifeq (tgt := 120) rfl rfl (ti_eq jk_0 jk_0 (br_t (by omega) ?_))
                refine x_aloadn (x := 125) rfl rfl ?_
                refine x_ldc2 (v := 677454) rfl z_12_627 ?_
                refine x_inv (N := m_X12_isWord) (As := [.long 677454]) (b := 125) (st := []) (dx9 := 1) (mc := 0) (ms := 0) (host := "") 12 rfl t_X12_isWord ⟨Or.inl q_12_511, i_X12_isWord.1, i_X12_isWord.2⟩ ⟨by decide, rfl⟩ (congrArg Prod.fst (J.1.1 125 (12, 92) rfl)) rfl (by decide) rfl rfl ⟨by decide, by decide⟩ (jC.of rfl k_X12_isWord rfl ?_)
                show jX m_X12_isWord 1 0 0 0 [(0, .ref 125), (1, .long 677454)] [] _ 0 0 _
                refine x_aloadn (x := 125) rfl rfl ?_
                refine z_getM (N := 92) (v := v1) 12 11 rfl f_12_235 rfl J rfl qv1 ?_
                refine x_iconst (v := 1) rfl ki_1 ?_
                refine x_icne (tgt := 21) rfl rfl (ti_ne rfl jk_1 (bn_f (by omega) ?_))
                refine x_aloadn (x := 125) rfl rfl ?_
                refine z_getL0 (N := 92) 12 12 rfl f_12_224 rfl J rfl (fun v110 => ?_)
                have ev110 := jfullL v110
                refine x_lloadn (x := 677454) rfl rfl ?_
                refine z_lcmp rfl rfl jkl_677454 (fun v111 ev111 => ?_)
                refine x_ifne (tgt := 21) rfl rfl (ti_ne rfl jk_0 ⟨fun c112 => ?_, fun c112 => ?_⟩)
                ·
                  refine x_iconst (v := 0) rfl ki_0 ?_
                  refine x_zret rfl rfl (by decide) ?_
                  show jX m_X12_kindAt 2 0 0 127 [(0, .ref 125)] [.int 0] _ 0 0 _
                  refine x_ifeq (tgt := 135) rfl rfl (ti_eq jk_0 jk_0 (br_t (by omega) ?_))
                  refine x_aloadn (x := 125) rfl rfl ?_
                  refine x_ldc2 (v := 6309) rfl z_12_629 ?_
                  refine x_inv (N := m_X12_isWord) (As := [.long 6309]) (b := 125) (st := []) (dx9 := 1) (mc := 0) (ms := 0) (host := "") 12 rfl t_X12_isWord ⟨Or.inl q_12_511, i_X12_isWord.1, i_X12_isWord.2⟩ ⟨by decide, rfl⟩ (congrArg Prod.fst (J.1.1 125 (12, 92) rfl)) rfl (by decide) rfl rfl ⟨by decide, by decide⟩ (jC.of rfl k_X12_isWord rfl ?_)
                  show jX m_X12_isWord 1 0 0 0 [(0, .ref 125), (1, .long 6309)] [] _ 0 0 _
                  refine x_aloadn (x := 125) rfl rfl ?_
                  refine z_getM (N := 92) (v := v1) 12 11 rfl f_12_235 rfl J rfl qv1 ?_
                  refine x_iconst (v := 1) rfl ki_1 ?_
                  refine x_icne (tgt := 21) rfl rfl (ti_ne rfl jk_1 (bn_f (by omega) ?_))
                  refine x_aloadn (x := 125) rfl rfl ?_
                  refine z_getL0 (N := 92) 12 12 rfl f_12_224 rfl J rfl (fun v113 => ?_)
                  have ev113 := jfullL v113
                  refine x_lloadn (x := 6309) rfl rfl ?_
                  refine z_lcmp rfl rfl jkl_6309 (fun v114 ev114 => ?_)
                  refine x_ifne (tgt := 21) rfl rfl (ti_ne rfl jk_0 ⟨fun c115 => ?_, fun c115 => ?_⟩)
                  ·
                    refine x_iconst (v := 0) rfl ki_0 ?_
                    refine x_zret rfl rfl (by decide) ?_
                    show jX m_X12_kindAt 2 0 0 142 [(0, .ref 125)] [.int 0] _ 0 0 _
                    refine x_ifeq (tgt := 150) rfl rfl (ti_eq jk_0 jk_0 (br_t (by omega) ?_))
                    refine x_aloadn (x := 125) rfl rfl ?_
                    refine x_ldc2 (v := 627764) rfl z_12_631 ?_
                    refine x_inv (N := m_X12_isWord) (As := [.long 627764]) (b := 125) (st := []) (dx9 := 1) (mc := 0) (ms := 0) (host := "") 12 rfl t_X12_isWord ⟨Or.inl q_12_511, i_X12_isWord.1, i_X12_isWord.2⟩ ⟨by decide, rfl⟩ (congrArg Prod.fst (J.1.1 125 (12, 92) rfl)) rfl (by decide) rfl rfl ⟨by decide, by decide⟩ (jC.of rfl k_X12_isWord rfl ?_)
                    show jX m_X12_isWord 1 0 0 0 [(0, .ref 125), (1, .long 627764)] [] _ 0 0 _
                    refine x_aloadn (x := 125) rfl rfl ?_
                    refine z_getM (N := 92) (v := v1) 12 11 rfl f_12_235 rfl J rfl qv1 ?_
                    refine x_iconst (v := 1) rfl ki_1 ?_
                    refine x_icne (tgt := 21) rfl rfl (ti_ne rfl jk_1 (bn_f (by omega) ?_))
                    refine x_aloadn (x := 125) rfl rfl ?_
                    refine z_getL0 (N := 92) 12 12 rfl f_12_224 rfl J rfl (fun v116 => ?_)
                    have ev116 := jfullL v116
                    refine x_lloadn (x := 627764) rfl rfl ?_
                    refine z_lcmp rfl rfl jkl_627764 (fun v117 ev117 => ?_)
                    refine x_ifne (tgt := 21) rfl rfl (ti_ne rfl jk_0 ⟨fun c118 => ?_, fun c118 => ?_⟩)
                    ·
                      refine x_iconst (v := 0) rfl ki_0 ?_
                      refine x_zret rfl rfl (by decide) ?_
                      show jX m_X12_kindAt 2 0 0 157 [(0, .ref 125)] [.int 0] _ 0 0 _
                      refine x_ifeq (tgt := 165) rfl rfl (ti_eq jk_0 jk_0 (br_t (by omega) ?_))
                      refine x_iconst (v := (-1)) rfl ki_m1 ?_
                      exact jX.sub jsb_n (ct_X12_kindAt_r125_100166 hD hQ  h J Sm)
                    ·
                      refine x_iconst (v := 1) rfl ki_1 ?_
                      refine x_goto (tgt := 22) rfl rfl ?_
                      refine x_zret rfl rfl (by decide) ?_
                      show jX m_X12_kindAt 2 0 0 157 [(0, .ref 125)] [.int 1] _ 0 0 _
                      refine x_ifeq (tgt := 165) rfl rfl (ti_eq jk_1 jk_0 (br_f (by omega) ?_))
                      refine x_bipush (v := 8) rfl kb_8 ?_
                      refine x_goto (tgt := 166) rfl rfl ?_
                      exact jX.sub jsb_n (ct_X12_kindAt_r125_1000166 hD hQ  h J Sm)
                  ·
                    refine x_iconst (v := 1) rfl ki_1 ?_
                    refine x_goto (tgt := 22) rfl rfl ?_
                    refine x_zret rfl rfl (by decide) ?_
                    show jX m_X12_kindAt 2 0 0 142 [(0, .ref 125)] [.int 1] _ 0 0 _
                    refine x_ifeq (tgt := 150) rfl rfl (ti_eq jk_1 jk_0 (br_f (by omega) ?_))
                    refine x_bipush (v := 7) rfl kb_7 ?_
                    refine x_goto (tgt := 166) rfl rfl ?_
                    exact jX.sub jsb_n (ct_X12_kindAt_r125_900166 hD hQ  h J Sm)
                ·
                  refine x_iconst (v := 1) rfl ki_1 ?_
                  refine x_goto (tgt := 22) rfl rfl ?_
                  refine x_zret rfl rfl (by decide) ?_
                  show jX m_X12_kindAt 2 0 0 127 [(0, .ref 125)] [.int 1] _ 0 0 _
                  refine x_ifeq (tgt := 135) rfl rfl (ti_eq jk_1 jk_0 (br_f (by omega) ?_))
                  refine x_bipush (v := 6) rfl kb_6 ?_
                  refine x_goto (tgt := 166) rfl rfl ?_
                  exact jX.sub jsb_n (ct_X12_kindAt_r125_800166 hD hQ  h J Sm)
              ·
                refine x_iconst (v := 1) rfl ki_1 ?_
                refine x_goto (tgt := 22) rfl rfl ?_
                refine x_zret rfl rfl (by decide) ?_
                show jX m_X12_kindAt 2 0 0 87 [(0, .ref 125)] [.int 1] _ 0 0 _
                refine x_ifeq (tgt := 120) rfl rfl (ti_eq jk_1 jk_0 (br_f (by omega) ?_))
                exact jX.sub (jsb_c rfl jsb_n) (ct_X12_kindAt_r125_90 hD hQ  v1 h (jr_of rfl (by omega)) qv1 J Sm)
            ·
              refine x_iconst (v := 1) rfl ki_1 ?_
              refine x_goto (tgt := 22) rfl rfl ?_
              refine x_zret rfl rfl (by decide) ?_
              show jX m_X12_kindAt 2 0 0 77 [(0, .ref 125)] [.int 1] _ 0 0 _
              refine x_ifne (tgt := 90) rfl rfl (ti_ne jk_1 jk_0 (bn_t (by omega) ?_))
              exact jX.sub (jsb_c rfl jsb_n) (ct_X12_kindAt_r125_90 hD hQ  v1 h (jr_of rfl (by omega)) qv1 J Sm)
          ·
            refine x_iconst (v := 1) rfl ki_1 ?_
            refine x_goto (tgt := 22) rfl rfl ?_
            refine x_zret rfl rfl (by decide) ?_
            show jX m_X12_kindAt 2 0 0 67 [(0, .ref 125)] [.int 1] _ 0 0 _
            refine x_ifne (tgt := 90) rfl rfl (ti_ne jk_1 jk_0 (bn_t (by omega) ?_))
            exact jX.sub (jsb_c rfl jsb_n) (ct_X12_kindAt_r125_90 hD hQ  v1 h (jr_of rfl (by omega)) qv1 J Sm)
        ·
          refine x_iconst (v := 1) rfl ki_1 ?_
          refine x_goto (tgt := 22) rfl rfl ?_
          refine x_zret rfl rfl (by decide) ?_
          show jX m_X12_kindAt 2 0 0 27 [(0, .ref 125)] [.int 1] _ 0 0 _
          refine x_ifeq (tgt := 60) rfl rfl (ti_eq jk_1 jk_0 (br_f (by omega) ?_))
          exact jX.sub (jsb_c rfl jsb_n) (ct_X12_kindAt_r125_30 hD hQ  v1 h (jr_of rfl (by omega)) qv1 J Sm)
      ·
        refine x_iconst (v := 1) rfl ki_1 ?_
        refine x_goto (tgt := 22) rfl rfl ?_
        refine x_zret rfl rfl (by decide) ?_
        show jX m_X12_kindAt 2 0 0 17 [(0, .ref 125)] [.int 1] _ 0 0 _
        refine x_ifne (tgt := 30) rfl rfl (ti_ne jk_1 jk_0 (bn_t (by omega) ?_))
        exact jX.sub (jsb_c rfl jsb_n) (ct_X12_kindAt_r125_30 hD hQ  v1 h (jr_of rfl (by omega)) qv1 J Sm)
  ·
    refine x_aloadn (x := 125) rfl rfl ?_
    refine z_getL0 (N := 92) 12 12 rfl f_12_224 rfl J rfl (fun v119 => ?_)
    have ev119 := jfullL v119
    refine x_lloadn (x := 659105125) rfl rfl ?_
    refine z_lcmp rfl rfl jkl_659105125 (fun v120 ev120 => ?_)
    refine x_ifne (tgt := 21) rfl rfl (ti_ne rfl jk_0 ⟨fun c121 => ?_, fun c121 => ?_⟩)
    ·
      refine x_iconst (v := 0) rfl ki_0 ?_
      refine x_zret rfl rfl (by decide) ?_
      show jX m_X12_kindAt 2 0 0 7 [(0, .ref 125)] [.int 0] _ 0 0 _
      refine x_ifne (tgt := 30) rfl rfl (ti_ne jk_0 jk_0 (bn_f (by omega) ?_))
      refine x_aloadn (x := 125) rfl rfl ?_
      refine x_ldc2 (v := 72760775) rfl z_12_617 ?_
      refine x_inv (N := m_X12_isWord) (As := [.long 72760775]) (b := 125) (st := []) (dx9 := 1) (mc := 0) (ms := 0) (host := "") 12 rfl t_X12_isWord ⟨Or.inl q_12_511, i_X12_isWord.1, i_X12_isWord.2⟩ ⟨by decide, rfl⟩ (congrArg Prod.fst (J.1.1 125 (12, 92) rfl)) rfl (by decide) rfl rfl ⟨by decide, by decide⟩ (jC.of rfl k_X12_isWord rfl ?_)
      show jX m_X12_isWord 1 0 0 0 [(0, .ref 125), (1, .long 72760775)] [] _ 0 0 _
      refine x_aloadn (x := 125) rfl rfl ?_
      refine z_getM (N := 92) (v := v1) 12 11 rfl f_12_235 rfl J rfl qv1 ?_
      refine x_iconst (v := 1) rfl ki_1 ?_
      refine x_icne (tgt := 21) rfl rfl (ti_ne rfl jk_1 (bn_f (by omega) ?_))
      refine x_aloadn (x := 125) rfl rfl ?_
      refine z_getL0 (N := 92) 12 12 rfl f_12_224 rfl J rfl (fun v122 => ?_)
      have ev122 := jfullL v122
      refine x_lloadn (x := 72760775) rfl rfl ?_
      refine z_lcmp rfl rfl jkl_72760775 (fun v123 ev123 => ?_)
      refine x_ifne (tgt := 21) rfl rfl (ti_ne rfl jk_0 ⟨fun c124 => ?_, fun c124 => ?_⟩)
      ·
        refine x_iconst (v := 0) rfl ki_0 ?_
        refine x_zret rfl rfl (by decide) ?_
        show jX m_X12_kindAt 2 0 0 17 [(0, .ref 125)] [.int 0] _ 0 0 _
        refine x_ifne (tgt := 30) rfl rfl (ti_ne jk_0 jk_0 (bn_f (by omega) ?_))
        refine x_aloadn (x := 125) rfl rfl ?_
        refine x_ldc2 (v := 193115668) rfl z_12_619 ?_
        refine x_inv (N := m_X12_isWord) (As := [.long 193115668]) (b := 125) (st := []) (dx9 := 1) (mc := 0) (ms := 0) (host := "") 12 rfl t_X12_isWord ⟨Or.inl q_12_511, i_X12_isWord.1, i_X12_isWord.2⟩ ⟨by decide, rfl⟩ (congrArg Prod.fst (J.1.1 125 (12, 92) rfl)) rfl (by decide) rfl rfl ⟨by decide, by decide⟩ (jC.of rfl k_X12_isWord rfl ?_)
        show jX m_X12_isWord 1 0 0 0 [(0, .ref 125), (1, .long 193115668)] [] _ 0 0 _
        refine x_aloadn (x := 125) rfl rfl ?_
        refine z_getM (N := 92) (v := v1) 12 11 rfl f_12_235 rfl J rfl qv1 ?_
        refine x_iconst (v := 1) rfl ki_1 ?_
        refine x_icne (tgt := 21) rfl rfl (ti_ne rfl jk_1 (bn_f (by omega) ?_))
        refine x_aloadn (x := 125) rfl rfl ?_
        refine z_getL0 (N := 92) 12 12 rfl f_12_224 rfl J rfl (fun v125 => ?_)
        have ev125 := jfullL v125
        refine x_lloadn (x := 193115668) rfl rfl ?_
        refine z_lcmp rfl rfl jkl_193115668 (fun v126 ev126 => ?_)
        refine x_ifne (tgt := 21) rfl rfl (ti_ne rfl jk_0 ⟨fun c127 => ?_, fun c127 => ?_⟩)
        ·
          refine x_iconst (v := 0) rfl ki_0 ?_
          refine x_zret rfl rfl (by decide) ?_
          show jX m_X12_kindAt 2 0 0 27 [(0, .ref 125)] [.int 0] _ 0 0 _
          refine x_ifeq (tgt := 60) rfl rfl (ti_eq jk_0 jk_0 (br_t (by omega) ?_))
          refine x_aloadn (x := 125) rfl rfl ?_
          refine x_ldc2 (v := 591493) rfl z_12_621 ?_
          refine x_inv (N := m_X12_isWord) (As := [.long 591493]) (b := 125) (st := []) (dx9 := 1) (mc := 0) (ms := 0) (host := "") 12 rfl t_X12_isWord ⟨Or.inl q_12_511, i_X12_isWord.1, i_X12_isWord.2⟩ ⟨by decide, rfl⟩ (congrArg Prod.fst (J.1.1 125 (12, 92) rfl)) rfl (by decide) rfl rfl ⟨by decide, by decide⟩ (jC.of rfl k_X12_isWord rfl ?_)
          show jX m_X12_isWord 1 0 0 0 [(0, .ref 125), (1, .long 591493)] [] _ 0 0 _
          refine x_aloadn (x := 125) rfl rfl ?_
          refine z_getM (N := 92) (v := v1) 12 11 rfl f_12_235 rfl J rfl qv1 ?_
          refine x_iconst (v := 1) rfl ki_1 ?_
          refine x_icne (tgt := 21) rfl rfl (ti_ne rfl jk_1 (bn_f (by omega) ?_))
          refine x_aloadn (x := 125) rfl rfl ?_
          refine z_getL0 (N := 92) 12 12 rfl f_12_224 rfl J rfl (fun v128 => ?_)
          have ev128 := jfullL v128
          refine x_lloadn (x := 591493) rfl rfl ?_
          refine z_lcmp rfl rfl jkl_591493 (fun v129 ev129 => ?_)
          refine x_ifne (tgt := 21) rfl rfl (ti_ne rfl jk_0 ⟨fun c130 => ?_, fun c130 => ?_⟩)
          ·
            refine x_iconst (v := 0) rfl ki_0 ?_
            refine x_zret rfl rfl (by decide) ?_
            show jX m_X12_kindAt 2 0 0 67 [(0, .ref 125)] [.int 0] _ 0 0 _
            refine x_ifne (tgt := 90) rfl rfl (ti_ne jk_0 jk_0 (bn_f (by omega) ?_))
            refine x_aloadn (x := 125) rfl rfl ?_
            refine x_ldc2 (v := 609625254) rfl z_12_623 ?_
            refine x_inv (N := m_X12_isWord) (As := [.long 609625254]) (b := 125) (st := []) (dx9 := 1) (mc := 0) (ms := 0) (host := "") 12 rfl t_X12_isWord ⟨Or.inl q_12_511, i_X12_isWord.1, i_X12_isWord.2⟩ ⟨by decide, rfl⟩ (congrArg Prod.fst (J.1.1 125 (12, 92) rfl)) rfl (by decide) rfl rfl ⟨by decide, by decide⟩ (jC.of rfl k_X12_isWord rfl ?_)
            show jX m_X12_isWord 1 0 0 0 [(0, .ref 125), (1, .long 609625254)] [] _ 0 0 _
            refine x_aloadn (x := 125) rfl rfl ?_
            refine z_getM (N := 92) (v := v1) 12 11 rfl f_12_235 rfl J rfl qv1 ?_
            refine x_iconst (v := 1) rfl ki_1 ?_
            refine x_icne (tgt := 21) rfl rfl (ti_ne rfl jk_1 (bn_f (by omega) ?_))
            refine x_aloadn (x := 125) rfl rfl ?_
            refine z_getL0 (N := 92) 12 12 rfl f_12_224 rfl J rfl (fun v131 => ?_)
            have ev131 := jfullL v131
            refine x_lloadn (x := 609625254) rfl rfl ?_
            refine z_lcmp rfl rfl jkl_609625254 (fun v132 ev132 => ?_)
            refine x_ifne (tgt := 21) rfl rfl (ti_ne rfl jk_0 ⟨fun c133 => ?_, fun c133 => ?_⟩)
            ·
              refine x_iconst (v := 0) rfl ki_0 ?_
              refine x_zret rfl rfl (by decide) ?_
              show jX m_X12_kindAt 2 0 0 77 [(0, .ref 125)] [.int 0] _ 0 0 _
              refine x_ifne (tgt := 90) rfl rfl (ti_ne jk_0 jk_0 (bn_f (by omega) ?_))
              refine x_aloadn (x := 125) rfl rfl ?_
              refine x_ldc2 (v := 2134245) rfl z_12_625 ?_
              refine x_inv (N := m_X12_isWord) (As := [.long 2134245]) (b := 125) (st := []) (dx9 := 1) (mc := 0) (ms := 0) (host := "") 12 rfl t_X12_isWord ⟨Or.inl q_12_511, i_X12_isWord.1, i_X12_isWord.2⟩ ⟨by decide, rfl⟩ (congrArg Prod.fst (J.1.1 125 (12, 92) rfl)) rfl (by decide) rfl rfl ⟨by decide, by decide⟩ (jC.of rfl k_X12_isWord rfl ?_)
              show jX m_X12_isWord 1 0 0 0 [(0, .ref 125), (1, .long 2134245)] [] _ 0 0 _
              refine x_aloadn (x := 125) rfl rfl ?_
              refine z_getM (N := 92) (v := v1) 12 11 rfl f_12_235 rfl J rfl qv1 ?_
              refine x_iconst (v := 1) rfl ki_1 ?_
              refine x_icne (tgt := 21) rfl rfl (ti_ne rfl jk_1 (bn_f (by omega) ?_))
              refine x_aloadn (x := 125) rfl rfl ?_
              refine z_getL0 (N := 92) 12 12 rfl f_12_224 rfl J rfl (fun v134 => ?_)
              have ev134 := jfullL v134
              refine x_lloadn (x := 2134245) rfl rfl ?_
              refine z_lcmp rfl rfl jkl_2134245 (fun v135 ev135 => ?_)
              refine x_ifne (tgt := 21) rfl rfl (ti_ne rfl jk_0 ⟨fun c136 => ?_, fun c136 => ?_⟩)
              ·
                refine x_iconst (v := 0) rfl ki_0 ?_
                refine x_zret rfl rfl (by decide) ?_
                show jX m_X12_kindAt 2 0 0 87 [(0, .ref 125)] [.int 0] _ 0 0 _
                refine x_ifeq (tgt := 120) rfl rfl (ti_eq jk_0 jk_0 (br_t (by omega) ?_))
                refine x_aloadn (x := 125) rfl rfl ?_
                refine x_ldc2 (v := 677454) rfl z_12_627 ?_
                refine x_inv (N := m_X12_isWord) (As := [.long 677454]) (b := 125) (st := []) (dx9 := 1) (mc := 0) (ms := 0) (host := "") 12 rfl t_X12_isWord ⟨Or.inl q_12_511, i_X12_isWord.1, i_X12_isWord.2⟩ ⟨by decide, rfl⟩ (congrArg Prod.fst (J.1.1 125 (12, 92) rfl)) rfl (by decide) rfl rfl ⟨by decide, by decide⟩ (jC.of rfl k_X12_isWord rfl ?_)
                show jX m_X12_isWord 1 0 0 0 [(0, .ref 125), (1, .long 677454)] [] _ 0 0 _
                refine x_aloadn (x := 125) rfl rfl ?_
                refine z_getM (N := 92) (v := v1) 12 11 rfl f_12_235 rfl J rfl qv1 ?_
                refine x_iconst (v := 1) rfl ki_1 ?_
                refine x_icne (tgt := 21) rfl rfl (ti_ne rfl jk_1 (bn_f (by omega) ?_))
                refine x_aloadn (x := 125) rfl rfl ?_
                refine z_getL0 (N := 92) 12 12 rfl f_12_224 rfl J rfl (fun v137 => ?_)
                have ev137 := jfullL v137
                refine x_lloadn (x := 677454) rfl rfl ?_
                refine z_lcmp rfl rfl jkl_677454 (fun v138 ev138 => ?_)
                refine x_ifne (tgt := 21) rfl rfl (ti_ne rfl jk_0 ⟨fun c139 => ?_, fun c139 => ?_⟩)
                ·
                  refine x_iconst (v := 0) rfl ki_0 ?_
                  refine x_zret rfl rfl (by decide) ?_
                  show jX m_X12_kindAt 2 0 0 127 [(0, .ref 125)] [.int 0] _ 0 0 _
                  refine x_ifeq (tgt := 135) rfl rfl (ti_eq jk_0 jk_0 (br_t (by omega) ?_))
                  refine x_aloadn (x := 125) rfl rfl ?_
                  refine x_ldc2 (v := 6309) rfl z_12_629 ?_
                  refine x_inv (N := m_X12_isWord) (As := [.long 6309]) (b := 125) (st := []) (dx9 := 1) (mc := 0) (ms := 0) (host := "") 12 rfl t_X12_isWord ⟨Or.inl q_12_511, i_X12_isWord.1, i_X12_isWord.2⟩ ⟨by decide, rfl⟩ (congrArg Prod.fst (J.1.1 125 (12, 92) rfl)) rfl (by decide) rfl rfl ⟨by decide, by decide⟩ (jC.of rfl k_X12_isWord rfl ?_)
                  show jX m_X12_isWord 1 0 0 0 [(0, .ref 125), (1, .long 6309)] [] _ 0 0 _
                  refine x_aloadn (x := 125) rfl rfl ?_
                  refine z_getM (N := 92) (v := v1) 12 11 rfl f_12_235 rfl J rfl qv1 ?_
                  refine x_iconst (v := 1) rfl ki_1 ?_
                  refine x_icne (tgt := 21) rfl rfl (ti_ne rfl jk_1 (bn_f (by omega) ?_))
                  refine x_aloadn (x := 125) rfl rfl ?_
                  refine z_getL0 (N := 92) 12 12 rfl f_12_224 rfl J rfl (fun v140 => ?_)
                  have ev140 := jfullL v140
                  refine x_lloadn (x := 6309) rfl rfl ?_
                  refine z_lcmp rfl rfl jkl_6309 (fun v141 ev141 => ?_)
                  refine x_ifne (tgt := 21) rfl rfl (ti_ne rfl jk_0 ⟨fun c142 => ?_, fun c142 => ?_⟩)
                  ·
                    refine x_iconst (v := 0) rfl ki_0 ?_
                    refine x_zret rfl rfl (by decide) ?_
                    show jX m_X12_kindAt 2 0 0 142 [(0, .ref 125)] [.int 0] _ 0 0 _
                    refine x_ifeq (tgt := 150) rfl rfl (ti_eq jk_0 jk_0 (br_t (by omega) ?_))
                    refine x_aloadn (x := 125) rfl rfl ?_
                    refine x_ldc2 (v := 627764) rfl z_12_631 ?_
                    refine x_inv (N := m_X12_isWord) (As := [.long 627764]) (b := 125) (st := []) (dx9 := 1) (mc := 0) (ms := 0) (host := "") 12 rfl t_X12_isWord ⟨Or.inl q_12_511, i_X12_isWord.1, i_X12_isWord.2⟩ ⟨by decide, rfl⟩ (congrArg Prod.fst (J.1.1 125 (12, 92) rfl)) rfl (by decide) rfl rfl ⟨by decide, by decide⟩ (jC.of rfl k_X12_isWord rfl ?_)
                    show jX m_X12_isWord 1 0 0 0 [(0, .ref 125), (1, .long 627764)] [] _ 0 0 _
                    refine x_aloadn (x := 125) rfl rfl ?_
                    refine z_getM (N := 92) (v := v1) 12 11 rfl f_12_235 rfl J rfl qv1 ?_
                    refine x_iconst (v := 1) rfl ki_1 ?_
                    refine x_icne (tgt := 21) rfl rfl (ti_ne rfl jk_1 (bn_f (by omega) ?_))
                    refine x_aloadn (x := 125) rfl rfl ?_
                    refine z_getL0 (N := 92) 12 12 rfl f_12_224 rfl J rfl (fun v143 => ?_)
                    have ev143 := jfullL v143
                    refine x_lloadn (x := 627764) rfl rfl ?_
                    refine z_lcmp rfl rfl jkl_627764 (fun v144 ev144 => ?_)
                    refine x_ifne (tgt := 21) rfl rfl (ti_ne rfl jk_0 ⟨fun c145 => ?_, fun c145 => ?_⟩)
                    ·
                      refine x_iconst (v := 0) rfl ki_0 ?_
                      refine x_zret rfl rfl (by decide) ?_
                      show jX m_X12_kindAt 2 0 0 157 [(0, .ref 125)] [.int 0] _ 0 0 _
                      refine x_ifeq (tgt := 165) rfl rfl (ti_eq jk_0 jk_0 (br_t (by omega) ?_))
                      refine x_iconst (v := (-1)) rfl ki_m1 ?_
                      exact jX.sub jsb_n (ct_X12_kindAt_r125_100166 hD hQ  h J Sm)
                    ·
                      refine x_iconst (v := 1) rfl ki_1 ?_
                      refine x_goto (tgt := 22) rfl rfl ?_
                      refine x_zret rfl rfl (by decide) ?_
                      show jX m_X12_kindAt 2 0 0 157 [(0, .ref 125)] [.int 1] _ 0 0 _
                      refine x_ifeq (tgt := 165) rfl rfl (ti_eq jk_1 jk_0 (br_f (by omega) ?_))
                      refine x_bipush (v := 8) rfl kb_8 ?_
                      refine x_goto (tgt := 166) rfl rfl ?_
                      exact jX.sub jsb_n (ct_X12_kindAt_r125_1000166 hD hQ  h J Sm)
                  ·
                    refine x_iconst (v := 1) rfl ki_1 ?_
                    refine x_goto (tgt := 22) rfl rfl ?_
                    refine x_zret rfl rfl (by decide) ?_
                    show jX m_X12_kindAt 2 0 0 142 [(0, .ref 125)] [.int 1] _ 0 0 _
                    refine x_ifeq (tgt := 150) rfl rfl (ti_eq jk_1 jk_0 (br_f (by omega) ?_))
                    refine x_bipush (v := 7) rfl kb_7 ?_
                    refine x_goto (tgt := 166) rfl rfl ?_
                    exact jX.sub jsb_n (ct_X12_kindAt_r125_900166 hD hQ  h J Sm)
                ·
                  refine x_iconst (v := 1) rfl ki_1 ?_
                  refine x_goto (tgt := 22) rfl rfl ?_
                  refine x_zret rfl rfl (by decide) ?_
                  show jX m_X12_kindAt 2 0 0 127 [(0, .ref 125)] [.int 1] _ 0 0 _
                  refine x_ifeq (tgt := 135) rfl rfl (ti_eq jk_1 jk_0 (br_f (by omega) ?_))
                  refine x_bipush (v := 6) rfl kb_6 ?_
                  refine x_goto (tgt := 166) rfl rfl ?_
                  exact jX.sub jsb_n (ct_X12_kindAt_r125_800166 hD hQ  h J Sm)
              ·
                refine x_iconst (v := 1) rfl ki_1 ?_
                refine x_goto (tgt := 22) rfl rfl ?_
                refine x_zret rfl rfl (by decide) ?_
                show jX m_X12_kindAt 2 0 0 87 [(0, .ref 125)] [.int 1] _ 0 0 _
                refine x_ifeq (tgt := 120) rfl rfl (ti_eq jk_1 jk_0 (br_f (by omega) ?_))
                exact jX.sub (jsb_c rfl jsb_n) (ct_X12_kindAt_r125_90 hD hQ  v1 h (jr_of rfl (by omega)) qv1 J Sm)
            ·
              refine x_iconst (v := 1) rfl ki_1 ?_
              refine x_goto (tgt := 22) rfl rfl ?_
              refine x_zret rfl rfl (by decide) ?_
              show jX m_X12_kindAt 2 0 0 77 [(0, .ref 125)] [.int 1] _ 0 0 _
              refine x_ifne (tgt := 90) rfl rfl (ti_ne jk_1 jk_0 (bn_t (by omega) ?_))
              exact jX.sub (jsb_c rfl jsb_n) (ct_X12_kindAt_r125_90 hD hQ  v1 h (jr_of rfl (by omega)) qv1 J Sm)
          ·
            refine x_iconst (v := 1) rfl ki_1 ?_
            refine x_goto (tgt := 22) rfl rfl ?_
            refine x_zret rfl rfl (by decide) ?_
            show jX m_X12_kindAt 2 0 0 67 [(0, .ref 125)] [.int 1] _ 0 0 _
            refine x_ifne (tgt := 90) rfl rfl (ti_ne jk_1 jk_0 (bn_t (by omega) ?_))
            exact jX.sub (jsb_c rfl jsb_n) (ct_X12_kindAt_r125_90 hD hQ  v1 h (jr_of rfl (by omega)) qv1 J Sm)
        ·
          refine x_iconst (v := 1) rfl ki_1 ?_
          refine x_goto (tgt := 22) rfl rfl ?_
          refine x_zret rfl rfl (by decide) ?_
          show jX m_X12_kindAt 2 0 0 27 [(0, .ref 125)] [.int 1] _ 0 0 _
          refine x_ifeq (tgt := 60) rfl rfl (ti_eq jk_1 jk_0 (br_f (by omega) ?_))
          exact jX.sub (jsb_c rfl jsb_n) (ct_X12_kindAt_r125_30 hD hQ  v1 h (jr_of rfl (by omega)) qv1 J Sm)
      ·
        refine x_iconst (v := 1) rfl ki_1 ?_
        refine x_goto (tgt := 22) rfl rfl ?_
        refine x_zret rfl rfl (by decide) ?_
        show jX m_X12_kindAt 2 0 0 17 [(0, .ref 125)] [.int 1] _ 0 0 _
        refine x_ifne (tgt := 30) rfl rfl (ti_ne jk_1 jk_0 (bn_t (by omega) ?_))
        exact jX.sub (jsb_c rfl jsb_n) (ct_X12_kindAt_r125_30 hD hQ  v1 h (jr_of rfl (by omega)) qv1 J Sm)
    ·
      refine x_iconst (v := 1) rfl ki_1 ?_
      refine x_goto (tgt := 22) rfl rfl ?_
      refine x_zret rfl rfl (by decide) ?_
      show jX m_X12_kindAt 2 0 0 7 [(0, .ref 125)] [.int 1] _ 0 0 _
      refine x_ifne (tgt := 30) rfl rfl (ti_ne jk_1 jk_0 (bn_t (by omega) ?_))
      exact jX.sub (jsb_c rfl jsb_n) (ct_X12_kindAt_r125_30 hD hQ  v1 h (jr_of rfl (by omega)) qv1 J Sm)
def fp_X12_number_r125 : jFp := [(125, 9, 10), (125, 10, 11), (125, 11, 12), (125, 12, 13), (125, 13, 14), (125, 14, 15)]
set_option maxRecDepth 100000 in
set_option maxHeartbeats 4000000 in
theorem ct_X12_number_r125_300029 {Dy : jH → Prop} {h0 : jH} {Q : Option Value → jH → Prop} {a1 : Int64} (yy_a1 : 11 ≤ a1.toInt ∧ a1.toInt ≤ 399) (hD : jDk Dy) (hQ : ∀ (v : Int32) hx9, jJ jSgM Dy hx9 → jSm fp_X12_number_r125 h0 hx9 → ∀ u0 u1 u2 : Int32, jiv hx9 125 10 = u0 → jiv hx9 125 8 = u1 → jiv hx9 125 9 = u2 → (u0.toInt ≤ u1.toInt ∧ u2.toInt ≤ u0.toInt) → ∀ u3 u4 u5 : Int32, jiv hx9 125 11 = u3 → jiv hx9 125 9 = u4 → jiv hx9 125 10 = u5 → (u3.toInt = 0 ∨ u4.toInt + 1 ≤ u5.toInt) → (jMo h0 hx9 ∧ ((jiv hx9 125 14).toInt ≠ 0 ∨ (0 ≤ v.toInt ∧ v.toInt ≤ a1.toInt))) → Q (some (.int v)) hx9) : ∀ (l3 : Int32) (g0 : Int32) (g1 : Int32) (g2 : Int32) (g3 : Int32) (h : jH), 0 ≤ g0.toInt ∧ g0.toInt ≤ 400 → 2 ≤ g1.toInt ∧ g1.toInt ≤ 2 → 0 ≤ g2.toInt ∧ g2.toInt ≤ 400 → 0 ≤ g3.toInt ∧ g3.toInt ≤ 400 → (jiv h 125 9 = jiv h0 125 9 ∧ jiv h 125 14 = jiv h0 125 14) → ((jiv h 125 14).toInt ≠ 0 ∨ (0 ≤ l3.toInt ∧ l3.toInt ≤ a1.toInt)) → (g0.toInt ≤ g2.toInt ∧ g3.toInt ≤ g0.toInt) → (g1.toInt = 0 ∨ g3.toInt + 1 ≤ g0.toInt) → jiv h 125 10 = g0 → jiv h 125 11 = g1 → jiv h 125 8 = g2 → jiv h 125 9 = g3 → jJ jSgM Dy h → jSm fp_X12_number_r125 h0 h → jX m_X12_number 4 0 0 29 [(3, .int l3)] [.int 1, .ref 125] h 0 0 Q := by
  intro l3 g0 g1 g2 g3 h y0 y1 y2 y3 C0 C1 y6 y7 z0 z1 z2 z3  J Sm
  have el3 := jfull l3
  refine x_inv (N := m_X12_must) (As := [.int 1]) (b := 125) (st := []) (dx9 := 3) (mc := 0) (ms := 0) (host := "") 12 rfl t_X12_must ⟨Or.inl q_12_250, i_X12_must.1, i_X12_must.2⟩ ⟨by decide, rfl⟩ (congrArg Prod.fst (J.1.1 125 (12, 92) rfl)) rfl (by decide) rfl rfl ⟨by decide, by decide⟩ (sf_X12_must_r125 (jr_of jk_1 (by omega)) hD J z0 z2 z3 (by omega) z1 z3 z0 (by omega)  (fun h J S1 u2 u3 u4 qu2 qu3 qu4 ru2 u5 u6 u7 qu5 qu6 qu7 ru5 P8 => ?_))
  have Sm := jSm_tr rfl Sm S1
  have eu2 := (show 0 ≤ u2.toInt ∧ u2.toInt ≤ 400 from qu2 ▸ jrg_f J sg_125_10_11_1_0_1)
  have eu3 := (show 0 ≤ u3.toInt ∧ u3.toInt ≤ 400 from qu3 ▸ jrg_f J sg_125_8_9_1_0_1)
  have eu4 := (show 0 ≤ u4.toInt ∧ u4.toInt ≤ 400 from qu4 ▸ jrg_f J sg_125_9_10_1_0_1)
  have eu5 := (show 0 ≤ u5.toInt ∧ u5.toInt ≤ 3 from qu5 ▸ jrg_f J sg_125_11_12_1_0_1)
  obtain rfl : u4 = u6 := qu4.symm.trans qu6
  obtain rfl : u2 = u7 := qu2.symm.trans qu7
  show jX m_X12_number 4 0 0 32 [(3, .int l3)] [] _ 0 0 _
  refine x_iloadn (x := l3) rfl rfl ?_
  refine x_iret rfl rfl ?_
  exact hQ _ _ J Sm _ _ _ qu2 qu3 qu4 (by omega) _ _ _ qu5 qu4 qu2 (by omega) ⟨mo_k C0 P8.1, nm_2 P8 C1⟩
set_option maxRecDepth 100000 in
set_option maxHeartbeats 4000000 in
theorem ct_X12_number_r125_200029 {Dy : jH → Prop} {h0 : jH} {Q : Option Value → jH → Prop} {a1 : Int64} (yy_a1 : 11 ≤ a1.toInt ∧ a1.toInt ≤ 399) (hD : jDk Dy) (hQ : ∀ (v : Int32) hx9, jJ jSgM Dy hx9 → jSm fp_X12_number_r125 h0 hx9 → ∀ u0 u1 u2 : Int32, jiv hx9 125 10 = u0 → jiv hx9 125 8 = u1 → jiv hx9 125 9 = u2 → (u0.toInt ≤ u1.toInt ∧ u2.toInt ≤ u0.toInt) → ∀ u3 u4 u5 : Int32, jiv hx9 125 11 = u3 → jiv hx9 125 9 = u4 → jiv hx9 125 10 = u5 → (u3.toInt = 0 ∨ u4.toInt + 1 ≤ u5.toInt) → (jMo h0 hx9 ∧ ((jiv hx9 125 14).toInt ≠ 0 ∨ (0 ≤ v.toInt ∧ v.toInt ≤ a1.toInt))) → Q (some (.int v)) hx9) : ∀ (l3 : Int32) (g0 : Int32) (g1 : Int32) (g2 : Int32) (g3 : Int32) (h : jH), 0 ≤ g0.toInt ∧ g0.toInt ≤ 400 → 0 ≤ g1.toInt ∧ g1.toInt ≤ 3 → 0 ≤ g2.toInt ∧ g2.toInt ≤ 400 → 0 ≤ g3.toInt ∧ g3.toInt ≤ 400 → (jiv h 125 9 = jiv h0 125 9 ∧ jiv h 125 14 = jiv h0 125 14) → (g0.toInt ≤ g2.toInt ∧ g3.toInt ≤ g0.toInt) → (g1.toInt = 0 ∨ g3.toInt + 1 ≤ g0.toInt) → jiv h 125 10 = g0 → jiv h 125 11 = g1 → jiv h 125 8 = g2 → jiv h 125 9 = g3 → jJ jSgM Dy h → jSm fp_X12_number_r125 h0 h → jX m_X12_number 4 0 0 29 [(3, .int l3)] [.int 0, .ref 125] h 0 0 Q := by
  intro l3 g0 g1 g2 g3 h y0 y1 y2 y3 C0 y5 y6 z0 z1 z2 z3  J Sm
  have el3 := jfull l3
  refine x_inv (N := m_X12_must) (As := [.int 0]) (b := 125) (st := []) (dx9 := 3) (mc := 0) (ms := 0) (host := "") 12 rfl t_X12_must ⟨Or.inl q_12_250, i_X12_must.1, i_X12_must.2⟩ ⟨by decide, rfl⟩ (congrArg Prod.fst (J.1.1 125 (12, 92) rfl)) rfl (by decide) rfl rfl ⟨by decide, by decide⟩ (sf_X12_must_r125 (jr_of jk_0 (by omega)) hD J z0 z2 z3 (by omega) z1 z3 z0 (by omega)  (fun h J S1 u2 u3 u4 qu2 qu3 qu4 ru2 u5 u6 u7 qu5 qu6 qu7 ru5 P8 => ?_))
  have Sm := jSm_tr rfl Sm S1
  have eu2 := (show 0 ≤ u2.toInt ∧ u2.toInt ≤ 400 from qu2 ▸ jrg_f J sg_125_10_11_1_0_1)
  have eu3 := (show 0 ≤ u3.toInt ∧ u3.toInt ≤ 400 from qu3 ▸ jrg_f J sg_125_8_9_1_0_1)
  have eu4 := (show 0 ≤ u4.toInt ∧ u4.toInt ≤ 400 from qu4 ▸ jrg_f J sg_125_9_10_1_0_1)
  have eu5 := (show 0 ≤ u5.toInt ∧ u5.toInt ≤ 3 from qu5 ▸ jrg_f J sg_125_11_12_1_0_1)
  obtain rfl : u4 = u6 := qu4.symm.trans qu6
  obtain rfl : u2 = u7 := qu2.symm.trans qu7
  show jX m_X12_number 4 0 0 32 [(3, .int l3)] [] _ 0 0 _
  refine x_iloadn (x := l3) rfl rfl ?_
  refine x_iret rfl rfl ?_
  exact hQ _ _ J Sm _ _ _ qu2 qu3 qu4 (by omega) _ _ _ qu5 qu4 qu2 (by omega) ⟨mo_k C0 P8.1, nm_3 P8⟩
set_option maxRecDepth 100000 in
set_option maxHeartbeats 4000000 in
theorem ct_X12_number_r125_28 {Dy : jH → Prop} {h0 : jH} {Q : Option Value → jH → Prop} {a1 : Int64} (yy_a1 : 11 ≤ a1.toInt ∧ a1.toInt ≤ 399) (hD : jDk Dy) (hQ : ∀ (v : Int32) hx9, jJ jSgM Dy hx9 → jSm fp_X12_number_r125 h0 hx9 → ∀ u0 u1 u2 : Int32, jiv hx9 125 10 = u0 → jiv hx9 125 8 = u1 → jiv hx9 125 9 = u2 → (u0.toInt ≤ u1.toInt ∧ u2.toInt ≤ u0.toInt) → ∀ u3 u4 u5 : Int32, jiv hx9 125 11 = u3 → jiv hx9 125 9 = u4 → jiv hx9 125 10 = u5 → (u3.toInt = 0 ∨ u4.toInt + 1 ≤ u5.toInt) → (jMo h0 hx9 ∧ ((jiv hx9 125 14).toInt ≠ 0 ∨ (0 ≤ v.toInt ∧ v.toInt ≤ a1.toInt))) → Q (some (.int v)) hx9) : ∀ (l3 : Int32) (g0 : Int32) (g1 : Int32) (g2 : Int32) (g3 : Int32) (h : jH), 0 ≤ g0.toInt ∧ g0.toInt ≤ 400 → 0 ≤ g1.toInt ∧ g1.toInt ≤ 3 → 0 ≤ g2.toInt ∧ g2.toInt ≤ 400 → 0 ≤ g3.toInt ∧ g3.toInt ≤ 400 → (jiv h 125 9 = jiv h0 125 9 ∧ jiv h 125 14 = jiv h0 125 14) → (g0.toInt ≤ g2.toInt ∧ g3.toInt ≤ g0.toInt) → (g1.toInt = 0 ∨ g3.toInt + 1 ≤ g0.toInt) → jiv h 125 10 = g0 → jiv h 125 11 = g1 → jiv h 125 8 = g2 → jiv h 125 9 = g3 → jJ jSgM Dy h → jSm fp_X12_number_r125 h0 h → jX m_X12_number 4 0 0 28 [(3, .int l3)] [.ref 125] h 0 0 Q := by
  intro l3 g0 g1 g2 g3 h y0 y1 y2 y3 C0 y5 y6 z0 z1 z2 z3  J Sm
  have el3 := jfull l3
  refine x_iconst (v := 0) rfl ki_0 ?_
  exact jX.sub (jsb_c rfl jsb_n) (ct_X12_number_r125_200029 yy_a1 hD hQ  l3 g0 g1 g2 g3 h (jr_of rfl (by omega)) (jr_of rfl (by omega)) (jr_of rfl (by omega)) (jr_of rfl (by omega)) C0 (by omega) (by omega) z0 z1 z2 z3 J Sm)
set_option maxRecDepth 100000 in
set_option maxHeartbeats 4000000 in
theorem sf_X12_number_r125 {Dy : jH → Prop} {h : jH} {Q : Option Value → jH → Prop} {a1 : Int64} (y1 : 11 ≤ a1.toInt ∧ a1.toInt ≤ 399) (hW : (jiv h 125 14).toInt ≠ 0 ∨ jWd h) (hD : jDk Dy) (J : jJ jSgM Dy h) {p0 p1 p2 : Int32} {p3 p4 p5 : Int32} (zp0 : jiv h 125 10 = p0) (zp1 : jiv h 125 8 = p1) (zp2 : jiv h 125 9 = p2) (rl_p0 : (p0.toInt ≤ p1.toInt ∧ p2.toInt ≤ p0.toInt)) (zp3 : jiv h 125 11 = p3) (zp4 : jiv h 125 9 = p4) (zp5 : jiv h 125 10 = p5) (rl_p3 : (p3.toInt = 0 ∨ p4.toInt + 1 ≤ p5.toInt)) (hQ : ∀ (v : Int32) hx9, jJ jSgM Dy hx9 → jSm fp_X12_number_r125 h hx9 → ∀ u0 u1 u2 : Int32, jiv hx9 125 10 = u0 → jiv hx9 125 8 = u1 → jiv hx9 125 9 = u2 → (u0.toInt ≤ u1.toInt ∧ u2.toInt ≤ u0.toInt) → ∀ u3 u4 u5 : Int32, jiv hx9 125 11 = u3 → jiv hx9 125 9 = u4 → jiv hx9 125 10 = u5 → (u3.toInt = 0 ∨ u4.toInt + 1 ≤ u5.toInt) → (jMo h hx9 ∧ ((jiv hx9 125 14).toInt ≠ 0 ∨ (0 ≤ v.toInt ∧ v.toInt ≤ a1.toInt))) → Q (some (.int v)) hx9) : jC m_X12_number 4 0 0 [.ref 125, .long a1] h Q := by
  refine jC.of rfl k_X12_number rfl ?_
  have Sm := jSm_rf fp_X12_number_r125 h
  have ep0 := (show 0 ≤ p0.toInt ∧ p0.toInt ≤ 400 from zp0 ▸ jrg_f J sg_125_10_11_1_0_1)
  have ep1 := (show 0 ≤ p1.toInt ∧ p1.toInt ≤ 400 from zp1 ▸ jrg_f J sg_125_8_9_1_0_1)
  have ep2 := (show 0 ≤ p2.toInt ∧ p2.toInt ≤ 400 from zp2 ▸ jrg_f J sg_125_9_10_1_0_1)
  have ep3 := (show 0 ≤ p3.toInt ∧ p3.toInt ≤ 3 from zp3 ▸ jrg_f J sg_125_11_12_1_0_1)
  have ep4 := (show 0 ≤ p4.toInt ∧ p4.toInt ≤ 400 from zp4 ▸ jrg_f J sg_125_9_10_1_0_1)
  have ep5 := (show 0 ≤ p5.toInt ∧ p5.toInt ≤ 400 from zp5 ▸ jrg_f J sg_125_10_11_1_0_1)
  obtain rfl : p2 = p4 := zp2.symm.trans zp4
  obtain rfl : p0 = p5 := zp0.symm.trans zp5
  skip
  have yy_a1 := y1
  show jX m_X12_number 4 0 0 0 [(0, .ref 125), (1, .long a1)] [] _ 0 0 _
  refine x_aloadn (x := 125) rfl rfl ?_
  refine z_getLQ (N := 92) 12 12 rfl f_12_224 rfl J rfl (fun v1 qv1 => ?_)
  have ev1 := jfullL v1
  refine z_l2iW rfl (fun v2 xv2 => ?_)
  have ev2 := jfull v2
  refine x_istoren (lsx9 := [(3, .int v2), (0, .ref 125), (1, .long a1)]) rfl rfl rfl ?_
  refine x_aloadn (x := 125) rfl rfl ?_
  refine x_aloadn (x := 125) rfl rfl ?_
  refine z_getM (N := 92) (v := p3) 12 11 rfl f_12_235 rfl J rfl zp3 ?_
  refine x_iconst (v := 2) rfl ki_2 ?_
  refine x_icne (tgt := 28) rfl rfl (ti_ne rfl jk_2 ⟨fun c3 => ?_, fun c3 => ?_⟩)
  ·
    exact jX.sub (jsb_c rfl jsb_n) (ct_X12_number_r125_28 yy_a1 hD hQ  v2 p0 p3 p1 p2 h (jr_of rfl (by omega)) (jr_of rfl (by omega)) (jr_of rfl (by omega)) (jr_of rfl (by omega)) ⟨rfl, rfl⟩ (by omega) (by omega) zp0 zp3 zp1 zp2 J Sm)
  ·
    refine x_aloadn (x := 125) rfl rfl ?_
    refine z_getLQ (N := 92) 12 12 rfl f_12_224 rfl J rfl (fun v4 qv4 => ?_)
    have ev4 := jfullL v4
    refine x_lloadn (x := a1) rfl rfl ?_
    refine z_lcmp rfl rfl rfl (fun v5 ev5 => ?_)
    refine x_ifgt (tgt := 28) rfl rfl (ti_gt rfl jk_0 ⟨fun c6 => ?_, fun c6 => ?_⟩)
    ·
      exact jX.sub (jsb_c rfl jsb_n) (ct_X12_number_r125_28 yy_a1 hD hQ  v2 p0 p3 p1 p2 h (jr_of rfl (by omega)) (jr_of rfl (by omega)) (jr_of rfl (by omega)) (jr_of rfl (by omega)) ⟨rfl, rfl⟩ (by omega) (by omega) zp0 zp3 zp1 zp2 J Sm)
    ·
      refine x_iconst (v := 1) rfl ki_1 ?_
      refine x_goto (tgt := 29) rfl rfl ?_
      exact jX.sub (jsb_c rfl jsb_n) (ct_X12_number_r125_300029 yy_a1 hD hQ  v2 p0 p3 p1 p2 h (jr_of rfl (by omega)) (jr_of rfl (by omega)) (jr_of rfl (by omega)) (jr_of rfl (by omega)) ⟨rfl, rfl⟩ (nm_1 hW qv1 xv2 qv4 zp3 (by omega) (by omega) (by omega)) (by omega) (by omega) zp0 zp3 zp1 zp2 J Sm)
def fp_X12_officeAt_r125 : jFp := []
set_option maxRecDepth 100000 in
set_option maxHeartbeats 4000000 in
theorem ct_X12_officeAt_r125_100057 {Dy : jH → Prop} {h0 : jH} {Q : Option Value → jH → Prop} (hD : jDk Dy) (hQ : ∀ (v : Int32) hx9, (-1) ≤ v.toInt ∧ v.toInt ≤ 3 → jJ jSgM Dy hx9 → jSm fp_X12_officeAt_r125 h0 hx9 → Q (some (.int v)) hx9) : ∀ (h : jH), jJ jSgM Dy h → jSm fp_X12_officeAt_r125 h0 h → jX m_X12_officeAt 2 0 0 57 [] [.int (-1)] h 0 0 Q := by
  intro  h    J Sm
  refine x_iret rfl rfl ?_
  exact hQ _ _ (jr_of jk_m1 (by omega)) J Sm
set_option maxRecDepth 100000 in
set_option maxHeartbeats 4000000 in
theorem ct_X12_officeAt_r125_500057 {Dy : jH → Prop} {h0 : jH} {Q : Option Value → jH → Prop} (hD : jDk Dy) (hQ : ∀ (v : Int32) hx9, (-1) ≤ v.toInt ∧ v.toInt ≤ 3 → jJ jSgM Dy hx9 → jSm fp_X12_officeAt_r125 h0 hx9 → Q (some (.int v)) hx9) : ∀ (h : jH), jJ jSgM Dy h → jSm fp_X12_officeAt_r125 h0 h → jX m_X12_officeAt 2 0 0 57 [] [.int 3] h 0 0 Q := by
  intro  h    J Sm
  refine x_iret rfl rfl ?_
  exact hQ _ _ (jr_of jk_3 (by omega)) J Sm
set_option maxRecDepth 100000 in
set_option maxHeartbeats 4000000 in
theorem ct_X12_officeAt_r125_400057 {Dy : jH → Prop} {h0 : jH} {Q : Option Value → jH → Prop} (hD : jDk Dy) (hQ : ∀ (v : Int32) hx9, (-1) ≤ v.toInt ∧ v.toInt ≤ 3 → jJ jSgM Dy hx9 → jSm fp_X12_officeAt_r125 h0 hx9 → Q (some (.int v)) hx9) : ∀ (h : jH), jJ jSgM Dy h → jSm fp_X12_officeAt_r125 h0 h → jX m_X12_officeAt 2 0 0 57 [] [.int 2] h 0 0 Q := by
  intro  h    J Sm
  refine x_iret rfl rfl ?_
  exact hQ _ _ (jr_of jk_2 (by omega)) J Sm
set_option maxRecDepth 100000 in
set_option maxHeartbeats 4000000 in
theorem ct_X12_officeAt_r125_300057 {Dy : jH → Prop} {h0 : jH} {Q : Option Value → jH → Prop} (hD : jDk Dy) (hQ : ∀ (v : Int32) hx9, (-1) ≤ v.toInt ∧ v.toInt ≤ 3 → jJ jSgM Dy hx9 → jSm fp_X12_officeAt_r125 h0 hx9 → Q (some (.int v)) hx9) : ∀ (h : jH), jJ jSgM Dy h → jSm fp_X12_officeAt_r125 h0 h → jX m_X12_officeAt 2 0 0 57 [] [.int 1] h 0 0 Q := by
  intro  h    J Sm
  refine x_iret rfl rfl ?_
  exact hQ _ _ (jr_of jk_1 (by omega)) J Sm
set_option maxRecDepth 100000 in
set_option maxHeartbeats 4000000 in
theorem ct_X12_officeAt_r125_200057 {Dy : jH → Prop} {h0 : jH} {Q : Option Value → jH → Prop} (hD : jDk Dy) (hQ : ∀ (v : Int32) hx9, (-1) ≤ v.toInt ∧ v.toInt ≤ 3 → jJ jSgM Dy hx9 → jSm fp_X12_officeAt_r125 h0 hx9 → Q (some (.int v)) hx9) : ∀ (h : jH), jJ jSgM Dy h → jSm fp_X12_officeAt_r125 h0 h → jX m_X12_officeAt 2 0 0 57 [] [.int 0] h 0 0 Q := by
  intro  h    J Sm
  refine x_iret rfl rfl ?_
  exact hQ _ _ (jr_of jk_0 (by omega)) J Sm
set_option maxRecDepth 100000 in
set_option maxHeartbeats 4000000 in
theorem sf_X12_officeAt_r125 {Dy : jH → Prop} {h : jH} {Q : Option Value → jH → Prop} (hD : jDk Dy) (J : jJ jSgM Dy h) (hQ : ∀ (v : Int32) hx9, (-1) ≤ v.toInt ∧ v.toInt ≤ 3 → jJ jSgM Dy hx9 → jSm fp_X12_officeAt_r125 h hx9 → Q (some (.int v)) hx9) : jC m_X12_officeAt 2 0 0 [.ref 125] h Q := by
  refine jC.of rfl k_X12_officeAt rfl ?_
  have Sm := jSm_rf fp_X12_officeAt_r125 h
  show jX m_X12_officeAt 2 0 0 0 [(0, .ref 125)] [] _ 0 0 _
  refine x_aloadn (x := 125) rfl rfl ?_
  refine x_ldc2 (v := 3829621885317) rfl z_12_601 ?_
  refine x_inv (N := m_X12_isWord) (As := [.long 3829621885317]) (b := 125) (st := []) (dx9 := 1) (mc := 0) (ms := 0) (host := "") 12 rfl t_X12_isWord ⟨Or.inl q_12_511, i_X12_isWord.1, i_X12_isWord.2⟩ ⟨by decide, rfl⟩ (congrArg Prod.fst (J.1.1 125 (12, 92) rfl)) rfl (by decide) rfl rfl ⟨by decide, by decide⟩ (jC.of rfl k_X12_isWord rfl ?_)
  show jX m_X12_isWord 1 0 0 0 [(0, .ref 125), (1, .long 3829621885317)] [] _ 0 0 _
  refine x_aloadn (x := 125) rfl rfl ?_
  refine z_getI (N := 92) 12 11 rfl f_12_235 rfl J rfl sg_125_11_12_1_0_1 (fun v1 qv1 ev1 => ?_)
  refine x_iconst (v := 1) rfl ki_1 ?_
  refine x_icne (tgt := 21) rfl rfl (ti_ne rfl jk_1 ⟨fun c2 => ?_, fun c2 => ?_⟩)
  ·
    refine x_iconst (v := 0) rfl ki_0 ?_
    refine x_zret rfl rfl (by decide) ?_
    show jX m_X12_officeAt 2 0 0 7 [(0, .ref 125)] [.int 0] _ 0 0 _
    refine x_ifeq (tgt := 14) rfl rfl (ti_eq jk_0 jk_0 (br_t (by omega) ?_))
    refine x_aloadn (x := 125) rfl rfl ?_
    refine x_ldc2 (v := 676010845682) rfl z_12_603 ?_
    refine x_inv (N := m_X12_isWord) (As := [.long 676010845682]) (b := 125) (st := []) (dx9 := 1) (mc := 0) (ms := 0) (host := "") 12 rfl t_X12_isWord ⟨Or.inl q_12_511, i_X12_isWord.1, i_X12_isWord.2⟩ ⟨by decide, rfl⟩ (congrArg Prod.fst (J.1.1 125 (12, 92) rfl)) rfl (by decide) rfl rfl ⟨by decide, by decide⟩ (jC.of rfl k_X12_isWord rfl ?_)
    show jX m_X12_isWord 1 0 0 0 [(0, .ref 125), (1, .long 676010845682)] [] _ 0 0 _
    refine x_aloadn (x := 125) rfl rfl ?_
    refine z_getM (N := 92) (v := v1) 12 11 rfl f_12_235 rfl J rfl qv1 ?_
    refine x_iconst (v := 1) rfl ki_1 ?_
    refine x_icne (tgt := 21) rfl rfl (ti_ne rfl jk_1 ⟨fun c3 => ?_, fun c3 => ?_⟩)
    ·
      refine x_iconst (v := 0) rfl ki_0 ?_
      refine x_zret rfl rfl (by decide) ?_
      show jX m_X12_officeAt 2 0 0 21 [(0, .ref 125)] [.int 0] _ 0 0 _
      refine x_ifeq (tgt := 28) rfl rfl (ti_eq jk_0 jk_0 (br_t (by omega) ?_))
      refine x_aloadn (x := 125) rfl rfl ?_
      refine x_ldc2 (v := 539205670066) rfl z_12_605 ?_
      refine x_inv (N := m_X12_isWord) (As := [.long 539205670066]) (b := 125) (st := []) (dx9 := 1) (mc := 0) (ms := 0) (host := "") 12 rfl t_X12_isWord ⟨Or.inl q_12_511, i_X12_isWord.1, i_X12_isWord.2⟩ ⟨by decide, rfl⟩ (congrArg Prod.fst (J.1.1 125 (12, 92) rfl)) rfl (by decide) rfl rfl ⟨by decide, by decide⟩ (jC.of rfl k_X12_isWord rfl ?_)
      show jX m_X12_isWord 1 0 0 0 [(0, .ref 125), (1, .long 539205670066)] [] _ 0 0 _
      refine x_aloadn (x := 125) rfl rfl ?_
      refine z_getM (N := 92) (v := v1) 12 11 rfl f_12_235 rfl J rfl qv1 ?_
      refine x_iconst (v := 1) rfl ki_1 ?_
      refine x_icne (tgt := 21) rfl rfl (ti_ne rfl jk_1 ⟨fun c4 => ?_, fun c4 => ?_⟩)
      ·
        refine x_iconst (v := 0) rfl ki_0 ?_
        refine x_zret rfl rfl (by decide) ?_
        show jX m_X12_officeAt 2 0 0 35 [(0, .ref 125)] [.int 0] _ 0 0 _
        refine x_ifeq (tgt := 42) rfl rfl (ti_eq jk_0 jk_0 (br_t (by omega) ?_))
        refine x_aloadn (x := 125) rfl rfl ?_
        refine x_ldc2 (v := 773394606) rfl z_12_607 ?_
        refine x_inv (N := m_X12_isWord) (As := [.long 773394606]) (b := 125) (st := []) (dx9 := 1) (mc := 0) (ms := 0) (host := "") 12 rfl t_X12_isWord ⟨Or.inl q_12_511, i_X12_isWord.1, i_X12_isWord.2⟩ ⟨by decide, rfl⟩ (congrArg Prod.fst (J.1.1 125 (12, 92) rfl)) rfl (by decide) rfl rfl ⟨by decide, by decide⟩ (jC.of rfl k_X12_isWord rfl ?_)
        show jX m_X12_isWord 1 0 0 0 [(0, .ref 125), (1, .long 773394606)] [] _ 0 0 _
        refine x_aloadn (x := 125) rfl rfl ?_
        refine z_getM (N := 92) (v := v1) 12 11 rfl f_12_235 rfl J rfl qv1 ?_
        refine x_iconst (v := 1) rfl ki_1 ?_
        refine x_icne (tgt := 21) rfl rfl (ti_ne rfl jk_1 ⟨fun c5 => ?_, fun c5 => ?_⟩)
        ·
          refine x_iconst (v := 0) rfl ki_0 ?_
          refine x_zret rfl rfl (by decide) ?_
          show jX m_X12_officeAt 2 0 0 49 [(0, .ref 125)] [.int 0] _ 0 0 _
          refine x_ifeq (tgt := 56) rfl rfl (ti_eq jk_0 jk_0 (br_t (by omega) ?_))
          refine x_iconst (v := (-1)) rfl ki_m1 ?_
          exact jX.sub jsb_n (ct_X12_officeAt_r125_100057 hD hQ  h J Sm)
        ·
          refine x_aloadn (x := 125) rfl rfl ?_
          refine z_getL0 (N := 92) 12 12 rfl f_12_224 rfl J rfl (fun v6 => ?_)
          have ev6 := jfullL v6
          refine x_lloadn (x := 773394606) rfl rfl ?_
          refine z_lcmp rfl rfl jkl_773394606 (fun v7 ev7 => ?_)
          refine x_ifne (tgt := 21) rfl rfl (ti_ne rfl jk_0 ⟨fun c8 => ?_, fun c8 => ?_⟩)
          ·
            refine x_iconst (v := 0) rfl ki_0 ?_
            refine x_zret rfl rfl (by decide) ?_
            show jX m_X12_officeAt 2 0 0 49 [(0, .ref 125)] [.int 0] _ 0 0 _
            refine x_ifeq (tgt := 56) rfl rfl (ti_eq jk_0 jk_0 (br_t (by omega) ?_))
            refine x_iconst (v := (-1)) rfl ki_m1 ?_
            exact jX.sub jsb_n (ct_X12_officeAt_r125_100057 hD hQ  h J Sm)
          ·
            refine x_iconst (v := 1) rfl ki_1 ?_
            refine x_goto (tgt := 22) rfl rfl ?_
            refine x_zret rfl rfl (by decide) ?_
            show jX m_X12_officeAt 2 0 0 49 [(0, .ref 125)] [.int 1] _ 0 0 _
            refine x_ifeq (tgt := 56) rfl rfl (ti_eq jk_1 jk_0 (br_f (by omega) ?_))
            refine x_iconst (v := 3) rfl ki_3 ?_
            refine x_goto (tgt := 57) rfl rfl ?_
            exact jX.sub jsb_n (ct_X12_officeAt_r125_500057 hD hQ  h J Sm)
      ·
        refine x_aloadn (x := 125) rfl rfl ?_
        refine z_getL0 (N := 92) 12 12 rfl f_12_224 rfl J rfl (fun v9 => ?_)
        have ev9 := jfullL v9
        refine x_lloadn (x := 539205670066) rfl rfl ?_
        refine z_lcmp rfl rfl jkl_539205670066 (fun v10 ev10 => ?_)
        refine x_ifne (tgt := 21) rfl rfl (ti_ne rfl jk_0 ⟨fun c11 => ?_, fun c11 => ?_⟩)
        ·
          refine x_iconst (v := 0) rfl ki_0 ?_
          refine x_zret rfl rfl (by decide) ?_
          show jX m_X12_officeAt 2 0 0 35 [(0, .ref 125)] [.int 0] _ 0 0 _
          refine x_ifeq (tgt := 42) rfl rfl (ti_eq jk_0 jk_0 (br_t (by omega) ?_))
          refine x_aloadn (x := 125) rfl rfl ?_
          refine x_ldc2 (v := 773394606) rfl z_12_607 ?_
          refine x_inv (N := m_X12_isWord) (As := [.long 773394606]) (b := 125) (st := []) (dx9 := 1) (mc := 0) (ms := 0) (host := "") 12 rfl t_X12_isWord ⟨Or.inl q_12_511, i_X12_isWord.1, i_X12_isWord.2⟩ ⟨by decide, rfl⟩ (congrArg Prod.fst (J.1.1 125 (12, 92) rfl)) rfl (by decide) rfl rfl ⟨by decide, by decide⟩ (jC.of rfl k_X12_isWord rfl ?_)
          show jX m_X12_isWord 1 0 0 0 [(0, .ref 125), (1, .long 773394606)] [] _ 0 0 _
          refine x_aloadn (x := 125) rfl rfl ?_
          refine z_getM (N := 92) (v := v1) 12 11 rfl f_12_235 rfl J rfl qv1 ?_
          refine x_iconst (v := 1) rfl ki_1 ?_
          refine x_icne (tgt := 21) rfl rfl (ti_ne rfl jk_1 (bn_f (by omega) ?_))
          refine x_aloadn (x := 125) rfl rfl ?_
          refine z_getL0 (N := 92) 12 12 rfl f_12_224 rfl J rfl (fun v12 => ?_)
          have ev12 := jfullL v12
          refine x_lloadn (x := 773394606) rfl rfl ?_
          refine z_lcmp rfl rfl jkl_773394606 (fun v13 ev13 => ?_)
          refine x_ifne (tgt := 21) rfl rfl (ti_ne rfl jk_0 ⟨fun c14 => ?_, fun c14 => ?_⟩)
          ·
            refine x_iconst (v := 0) rfl ki_0 ?_
            refine x_zret rfl rfl (by decide) ?_
            show jX m_X12_officeAt 2 0 0 49 [(0, .ref 125)] [.int 0] _ 0 0 _
            refine x_ifeq (tgt := 56) rfl rfl (ti_eq jk_0 jk_0 (br_t (by omega) ?_))
            refine x_iconst (v := (-1)) rfl ki_m1 ?_
            exact jX.sub jsb_n (ct_X12_officeAt_r125_100057 hD hQ  h J Sm)
          ·
            refine x_iconst (v := 1) rfl ki_1 ?_
            refine x_goto (tgt := 22) rfl rfl ?_
            refine x_zret rfl rfl (by decide) ?_
            show jX m_X12_officeAt 2 0 0 49 [(0, .ref 125)] [.int 1] _ 0 0 _
            refine x_ifeq (tgt := 56) rfl rfl (ti_eq jk_1 jk_0 (br_f (by omega) ?_))
            refine x_iconst (v := 3) rfl ki_3 ?_
            refine x_goto (tgt := 57) rfl rfl ?_
            exact jX.sub jsb_n (ct_X12_officeAt_r125_500057 hD hQ  h J Sm)
        ·
          refine x_iconst (v := 1) rfl ki_1 ?_
          refine x_goto (tgt := 22) rfl rfl ?_
          refine x_zret rfl rfl (by decide) ?_
          show jX m_X12_officeAt 2 0 0 35 [(0, .ref 125)] [.int 1] _ 0 0 _
          refine x_ifeq (tgt := 42) rfl rfl (ti_eq jk_1 jk_0 (br_f (by omega) ?_))
          refine x_iconst (v := 2) rfl ki_2 ?_
          refine x_goto (tgt := 57) rfl rfl ?_
          exact jX.sub jsb_n (ct_X12_officeAt_r125_400057 hD hQ  h J Sm)
    ·
      refine x_aloadn (x := 125) rfl rfl ?_
      refine z_getL0 (N := 92) 12 12 rfl f_12_224 rfl J rfl (fun v15 => ?_)
      have ev15 := jfullL v15
      refine x_lloadn (x := 676010845682) rfl rfl ?_
      refine z_lcmp rfl rfl jkl_676010845682 (fun v16 ev16 => ?_)
      refine x_ifne (tgt := 21) rfl rfl (ti_ne rfl jk_0 ⟨fun c17 => ?_, fun c17 => ?_⟩)
      ·
        refine x_iconst (v := 0) rfl ki_0 ?_
        refine x_zret rfl rfl (by decide) ?_
        show jX m_X12_officeAt 2 0 0 21 [(0, .ref 125)] [.int 0] _ 0 0 _
        refine x_ifeq (tgt := 28) rfl rfl (ti_eq jk_0 jk_0 (br_t (by omega) ?_))
        refine x_aloadn (x := 125) rfl rfl ?_
        refine x_ldc2 (v := 539205670066) rfl z_12_605 ?_
        refine x_inv (N := m_X12_isWord) (As := [.long 539205670066]) (b := 125) (st := []) (dx9 := 1) (mc := 0) (ms := 0) (host := "") 12 rfl t_X12_isWord ⟨Or.inl q_12_511, i_X12_isWord.1, i_X12_isWord.2⟩ ⟨by decide, rfl⟩ (congrArg Prod.fst (J.1.1 125 (12, 92) rfl)) rfl (by decide) rfl rfl ⟨by decide, by decide⟩ (jC.of rfl k_X12_isWord rfl ?_)
        show jX m_X12_isWord 1 0 0 0 [(0, .ref 125), (1, .long 539205670066)] [] _ 0 0 _
        refine x_aloadn (x := 125) rfl rfl ?_
        refine z_getM (N := 92) (v := v1) 12 11 rfl f_12_235 rfl J rfl qv1 ?_
        refine x_iconst (v := 1) rfl ki_1 ?_
        refine x_icne (tgt := 21) rfl rfl (ti_ne rfl jk_1 (bn_f (by omega) ?_))
        refine x_aloadn (x := 125) rfl rfl ?_
        refine z_getL0 (N := 92) 12 12 rfl f_12_224 rfl J rfl (fun v18 => ?_)
        have ev18 := jfullL v18
        refine x_lloadn (x := 539205670066) rfl rfl ?_
        refine z_lcmp rfl rfl jkl_539205670066 (fun v19 ev19 => ?_)
        refine x_ifne (tgt := 21) rfl rfl (ti_ne rfl jk_0 ⟨fun c20 => ?_, fun c20 => ?_⟩)
        ·
          refine x_iconst (v := 0) rfl ki_0 ?_
          refine x_zret rfl rfl (by decide) ?_
          show jX m_X12_officeAt 2 0 0 35 [(0, .ref 125)] [.int 0] _ 0 0 _
          refine x_ifeq (tgt := 42) rfl rfl (ti_eq jk_0 jk_0 (br_t (by omega) ?_))
          refine x_aloadn (x := 125) rfl rfl ?_
          refine x_ldc2 (v := 773394606) rfl z_12_607 ?_
          refine x_inv (N := m_X12_isWord) (As := [.long 773394606]) (b := 125) (st := []) (dx9 := 1) (mc := 0) (ms := 0) (host := "") 12 rfl t_X12_isWord ⟨Or.inl q_12_511, i_X12_isWord.1, i_X12_isWord.2⟩ ⟨by decide, rfl⟩ (congrArg Prod.fst (J.1.1 125 (12, 92) rfl)) rfl (by decide) rfl rfl ⟨by decide, by decide⟩ (jC.of rfl k_X12_isWord rfl ?_)
          show jX m_X12_isWord 1 0 0 0 [(0, .ref 125), (1, .long 773394606)] [] _ 0 0 _
          refine x_aloadn (x := 125) rfl rfl ?_
          refine z_getM (N := 92) (v := v1) 12 11 rfl f_12_235 rfl J rfl qv1 ?_
          refine x_iconst (v := 1) rfl ki_1 ?_
          refine x_icne (tgt := 21) rfl rfl (ti_ne rfl jk_1 (bn_f (by omega) ?_))
          refine x_aloadn (x := 125) rfl rfl ?_
          refine z_getL0 (N := 92) 12 12 rfl f_12_224 rfl J rfl (fun v21 => ?_)
          have ev21 := jfullL v21
          refine x_lloadn (x := 773394606) rfl rfl ?_
          refine z_lcmp rfl rfl jkl_773394606 (fun v22 ev22 => ?_)
          refine x_ifne (tgt := 21) rfl rfl (ti_ne rfl jk_0 ⟨fun c23 => ?_, fun c23 => ?_⟩)
          ·
            refine x_iconst (v := 0) rfl ki_0 ?_
            refine x_zret rfl rfl (by decide) ?_
            show jX m_X12_officeAt 2 0 0 49 [(0, .ref 125)] [.int 0] _ 0 0 _
            refine x_ifeq (tgt := 56) rfl rfl (ti_eq jk_0 jk_0 (br_t (by omega) ?_))
            refine x_iconst (v := (-1)) rfl ki_m1 ?_
            exact jX.sub jsb_n (ct_X12_officeAt_r125_100057 hD hQ  h J Sm)
          ·
            refine x_iconst (v := 1) rfl ki_1 ?_
            refine x_goto (tgt := 22) rfl rfl ?_
            refine x_zret rfl rfl (by decide) ?_
            show jX m_X12_officeAt 2 0 0 49 [(0, .ref 125)] [.int 1] _ 0 0 _
            refine x_ifeq (tgt := 56) rfl rfl (ti_eq jk_1 jk_0 (br_f (by omega) ?_))
            refine x_iconst (v := 3) rfl ki_3 ?_
            refine x_goto (tgt := 57) rfl rfl ?_
            exact jX.sub jsb_n (ct_X12_officeAt_r125_500057 hD hQ  h J Sm)
        ·
          refine x_iconst (v := 1) rfl ki_1 ?_
          refine x_goto (tgt := 22) rfl rfl ?_
          refine x_zret rfl rfl (by decide) ?_
          show jX m_X12_officeAt 2 0 0 35 [(0, .ref 125)] [.int 1] _ 0 0 _
          refine x_ifeq (tgt := 42) rfl rfl (ti_eq jk_1 jk_0 (br_f (by omega) ?_))
          refine x_iconst (v := 2) rfl ki_2 ?_
          refine x_goto (tgt := 57) rfl rfl ?_
          exact jX.sub jsb_n (ct_X12_officeAt_r125_400057 hD hQ  h J Sm)
      ·
        refine x_iconst (v := 1) rfl ki_1 ?_
        refine x_goto (tgt := 22) rfl rfl ?_
        refine x_zret rfl rfl (by decide) ?_
        show jX m_X12_officeAt 2 0 0 21 [(0, .ref 125)] [.int 1] _ 0 0 _
        refine x_ifeq (tgt := 28) rfl rfl (ti_eq jk_1 jk_0 (br_f (by omega) ?_))
        refine x_iconst (v := 1) rfl ki_1 ?_
        refine x_goto (tgt := 57) rfl rfl ?_
        exact jX.sub jsb_n (ct_X12_officeAt_r125_300057 hD hQ  h J Sm)
  ·
    refine x_aloadn (x := 125) rfl rfl ?_
    refine z_getL0 (N := 92) 12 12 rfl f_12_224 rfl J rfl (fun v24 => ?_)
    have ev24 := jfullL v24
    refine x_lloadn (x := 3829621885317) rfl rfl ?_
    refine z_lcmp rfl rfl jkl_3829621885317 (fun v25 ev25 => ?_)
    refine x_ifne (tgt := 21) rfl rfl (ti_ne rfl jk_0 ⟨fun c26 => ?_, fun c26 => ?_⟩)
    ·
      refine x_iconst (v := 0) rfl ki_0 ?_
      refine x_zret rfl rfl (by decide) ?_
      show jX m_X12_officeAt 2 0 0 7 [(0, .ref 125)] [.int 0] _ 0 0 _
      refine x_ifeq (tgt := 14) rfl rfl (ti_eq jk_0 jk_0 (br_t (by omega) ?_))
      refine x_aloadn (x := 125) rfl rfl ?_
      refine x_ldc2 (v := 676010845682) rfl z_12_603 ?_
      refine x_inv (N := m_X12_isWord) (As := [.long 676010845682]) (b := 125) (st := []) (dx9 := 1) (mc := 0) (ms := 0) (host := "") 12 rfl t_X12_isWord ⟨Or.inl q_12_511, i_X12_isWord.1, i_X12_isWord.2⟩ ⟨by decide, rfl⟩ (congrArg Prod.fst (J.1.1 125 (12, 92) rfl)) rfl (by decide) rfl rfl ⟨by decide, by decide⟩ (jC.of rfl k_X12_isWord rfl ?_)
      show jX m_X12_isWord 1 0 0 0 [(0, .ref 125), (1, .long 676010845682)] [] _ 0 0 _
      refine x_aloadn (x := 125) rfl rfl ?_
      refine z_getM (N := 92) (v := v1) 12 11 rfl f_12_235 rfl J rfl qv1 ?_
      refine x_iconst (v := 1) rfl ki_1 ?_
      refine x_icne (tgt := 21) rfl rfl (ti_ne rfl jk_1 (bn_f (by omega) ?_))
      refine x_aloadn (x := 125) rfl rfl ?_
      refine z_getL0 (N := 92) 12 12 rfl f_12_224 rfl J rfl (fun v27 => ?_)
      have ev27 := jfullL v27
      refine x_lloadn (x := 676010845682) rfl rfl ?_
      refine z_lcmp rfl rfl jkl_676010845682 (fun v28 ev28 => ?_)
      refine x_ifne (tgt := 21) rfl rfl (ti_ne rfl jk_0 ⟨fun c29 => ?_, fun c29 => ?_⟩)
      ·
        refine x_iconst (v := 0) rfl ki_0 ?_
        refine x_zret rfl rfl (by decide) ?_
        show jX m_X12_officeAt 2 0 0 21 [(0, .ref 125)] [.int 0] _ 0 0 _
        refine x_ifeq (tgt := 28) rfl rfl (ti_eq jk_0 jk_0 (br_t (by omega) ?_))
        refine x_aloadn (x := 125) rfl rfl ?_
        refine x_ldc2 (v := 539205670066) rfl z_12_605 ?_
        refine x_inv (N := m_X12_isWord) (As := [.long 539205670066]) (b := 125) (st := []) (dx9 := 1) (mc := 0) (ms := 0) (host := "") 12 rfl t_X12_isWord ⟨Or.inl q_12_511, i_X12_isWord.1, i_X12_isWord.2⟩ ⟨by decide, rfl⟩ (congrArg Prod.fst (J.1.1 125 (12, 92) rfl)) rfl (by decide) rfl rfl ⟨by decide, by decide⟩ (jC.of rfl k_X12_isWord rfl ?_)
        show jX m_X12_isWord 1 0 0 0 [(0, .ref 125), (1, .long 539205670066)] [] _ 0 0 _
        refine x_aloadn (x := 125) rfl rfl ?_
        refine z_getM (N := 92) (v := v1) 12 11 rfl f_12_235 rfl J rfl qv1 ?_
        refine x_iconst (v := 1) rfl ki_1 ?_
        refine x_icne (tgt := 21) rfl rfl (ti_ne rfl jk_1 (bn_f (by omega) ?_))
        refine x_aloadn (x := 125) rfl rfl ?_
        refine z_getL0 (N := 92) 12 12 rfl f_12_224 rfl J rfl (fun v30 => ?_)
        have ev30 := jfullL v30
        refine x_lloadn (x := 539205670066) rfl rfl ?_
        refine z_lcmp rfl rfl jkl_539205670066 (fun v31 ev31 => ?_)
        refine x_ifne (tgt := 21) rfl rfl (ti_ne rfl jk_0 ⟨fun c32 => ?_, fun c32 => ?_⟩)
        ·
          refine x_iconst (v := 0) rfl ki_0 ?_
          refine x_zret rfl rfl (by decide) ?_
          show jX m_X12_officeAt 2 0 0 35 [(0, .ref 125)] [.int 0] _ 0 0 _
          refine x_ifeq (tgt := 42) rfl rfl (ti_eq jk_0 jk_0 (br_t (by omega) ?_))
          refine x_aloadn (x := 125) rfl rfl ?_
          refine x_ldc2 (v := 773394606) rfl z_12_607 ?_
          refine x_inv (N := m_X12_isWord) (As := [.long 773394606]) (b := 125) (st := []) (dx9 := 1) (mc := 0) (ms := 0) (host := "") 12 rfl t_X12_isWord ⟨Or.inl q_12_511, i_X12_isWord.1, i_X12_isWord.2⟩ ⟨by decide, rfl⟩ (congrArg Prod.fst (J.1.1 125 (12, 92) rfl)) rfl (by decide) rfl rfl ⟨by decide, by decide⟩ (jC.of rfl k_X12_isWord rfl ?_)
          show jX m_X12_isWord 1 0 0 0 [(0, .ref 125), (1, .long 773394606)] [] _ 0 0 _
          refine x_aloadn (x := 125) rfl rfl ?_
          refine z_getM (N := 92) (v := v1) 12 11 rfl f_12_235 rfl J rfl qv1 ?_
          refine x_iconst (v := 1) rfl ki_1 ?_
          refine x_icne (tgt := 21) rfl rfl (ti_ne rfl jk_1 (bn_f (by omega) ?_))
          refine x_aloadn (x := 125) rfl rfl ?_
          refine z_getL0 (N := 92) 12 12 rfl f_12_224 rfl J rfl (fun v33 => ?_)
          have ev33 := jfullL v33
          refine x_lloadn (x := 773394606) rfl rfl ?_
          refine z_lcmp rfl rfl jkl_773394606 (fun v34 ev34 => ?_)
          refine x_ifne (tgt := 21) rfl rfl (ti_ne rfl jk_0 ⟨fun c35 => ?_, fun c35 => ?_⟩)
          ·
            refine x_iconst (v := 0) rfl ki_0 ?_
            refine x_zret rfl rfl (by decide) ?_
            show jX m_X12_officeAt 2 0 0 49 [(0, .ref 125)] [.int 0] _ 0 0 _
            refine x_ifeq (tgt := 56) rfl rfl (ti_eq jk_0 jk_0 (br_t (by omega) ?_))
            refine x_iconst (v := (-1)) rfl ki_m1 ?_
            exact jX.sub jsb_n (ct_X12_officeAt_r125_100057 hD hQ  h J Sm)
          ·
            refine x_iconst (v := 1) rfl ki_1 ?_
            refine x_goto (tgt := 22) rfl rfl ?_
            refine x_zret rfl rfl (by decide) ?_
            show jX m_X12_officeAt 2 0 0 49 [(0, .ref 125)] [.int 1] _ 0 0 _
            refine x_ifeq (tgt := 56) rfl rfl (ti_eq jk_1 jk_0 (br_f (by omega) ?_))
            refine x_iconst (v := 3) rfl ki_3 ?_
            refine x_goto (tgt := 57) rfl rfl ?_
            exact jX.sub jsb_n (ct_X12_officeAt_r125_500057 hD hQ  h J Sm)
        ·
          refine x_iconst (v := 1) rfl ki_1 ?_
          refine x_goto (tgt := 22) rfl rfl ?_
          refine x_zret rfl rfl (by decide) ?_
          show jX m_X12_officeAt 2 0 0 35 [(0, .ref 125)] [.int 1] _ 0 0 _
          refine x_ifeq (tgt := 42) rfl rfl (ti_eq jk_1 jk_0 (br_f (by omega) ?_))
          refine x_iconst (v := 2) rfl ki_2 ?_
          refine x_goto (tgt := 57) rfl rfl ?_
          exact jX.sub jsb_n (ct_X12_officeAt_r125_400057 hD hQ  h J Sm)
      ·
        refine x_iconst (v := 1) rfl ki_1 ?_
        refine x_goto (tgt := 22) rfl rfl ?_
        refine x_zret rfl rfl (by decide) ?_
        show jX m_X12_officeAt 2 0 0 21 [(0, .ref 125)] [.int 1] _ 0 0 _
        refine x_ifeq (tgt := 28) rfl rfl (ti_eq jk_1 jk_0 (br_f (by omega) ?_))
        refine x_iconst (v := 1) rfl ki_1 ?_
        refine x_goto (tgt := 57) rfl rfl ?_
        exact jX.sub jsb_n (ct_X12_officeAt_r125_300057 hD hQ  h J Sm)
    ·
      refine x_iconst (v := 1) rfl ki_1 ?_
      refine x_goto (tgt := 22) rfl rfl ?_
      refine x_zret rfl rfl (by decide) ?_
      show jX m_X12_officeAt 2 0 0 7 [(0, .ref 125)] [.int 1] _ 0 0 _
      refine x_ifeq (tgt := 14) rfl rfl (ti_eq jk_1 jk_0 (br_f (by omega) ?_))
      refine x_iconst (v := 0) rfl ki_0 ?_
      refine x_goto (tgt := 57) rfl rfl ?_
      exact jX.sub jsb_n (ct_X12_officeAt_r125_200057 hD hQ  h J Sm)
def fp_X12_readExpression_r125 : jFp := [(125, 9, 10), (125, 10, 11), (125, 11, 12), (125, 12, 13), (125, 13, 14), (125, 14, 15), (125, 49, 50), (125, 52, 53), (125, 55, 56), (125, 56, 57), (148, 0, 400), (149, 0, 400), (150, 0, 400), (151, 0, 400)]
set_option maxRecDepth 100000 in
set_option maxHeartbeats 4000000 in
theorem ct_X12_readExpression_r125_76 {Dy : jH → Prop} {h0 : jH} {Q : Option Value → jH → Prop} {A : Nat} (hA : A = jnC h0) (hC : (jiv h0 125 49).toInt ≤ (jiv h0 125 9).toInt) (hD : jDk Dy) (hQ : ∀ hx9, jJ jSgM Dy hx9 → jSm fp_X12_readExpression_r125 h0 hx9 → ∀ u0 u1 u2 : Int32, jiv hx9 125 10 = u0 → jiv hx9 125 8 = u1 → jiv hx9 125 9 = u2 → (u0.toInt ≤ u1.toInt ∧ u2.toInt ≤ u0.toInt) → ∀ u3 u4 u5 : Int32, jiv hx9 125 11 = u3 → jiv hx9 125 9 = u4 → jiv hx9 125 10 = u5 → (u3.toInt = 0 ∨ u4.toInt + 1 ≤ u5.toInt) → jRe A h0 hx9 → Q none hx9) : ∀ (g0 : Int32) (g1 : Int32) (g2 : Int32) (g3 : Int32) (h : jH), 0 ≤ g0.toInt ∧ g0.toInt ≤ 400 → 0 ≤ g1.toInt ∧ g1.toInt ≤ 3 → 0 ≤ g2.toInt ∧ g2.toInt ≤ 400 → 0 ≤ g3.toInt ∧ g3.toInt ≤ 400 → (jTu 0 h A 1 ∧ (jTn A 4 h ∨ (jiv h 125 14).toInt ≠ 0) ∧ jFm 0 A h0 h) → (g0.toInt ≤ g2.toInt ∧ g3.toInt ≤ g0.toInt) → (g1.toInt = 0 ∨ g3.toInt + 1 ≤ g0.toInt) → jiv h 125 10 = g0 → jiv h 125 11 = g1 → jiv h 125 8 = g2 → jiv h 125 9 = g3 → jJ jSgM Dy h → jSm fp_X12_readExpression_r125 h0 h → jX m_X12_readExpression 7 0 0 76 [(0, .ref 125)] [] h 0 0 Q := by
  intro g0 g1 g2 g3 h y0 y1 y2 y3 C0 y5 y6 z0 z1 z2 z3  J Sm
  refine x_aloadn (x := 125) rfl rfl ?_
  refine x_iconst (v := 1) rfl ki_1 ?_
  refine x_inv (N := m_X12_settle) (As := [.int 1]) (b := 125) (st := []) (dx9 := 2) (mc := 0) (ms := 0) (host := "") 12 rfl t_X12_settle ⟨Or.inl q_12_548, i_X12_settle.1, i_X12_settle.2⟩ ⟨by decide, rfl⟩ (congrArg Prod.fst (J.1.1 125 (12, 92) rfl)) rfl (by decide) rfl rfl ⟨by decide, by decide⟩ (sf_X12_settle_r125 (jr_of jk_1 (by omega)) (K9 := 0) (by decide) C0.1 hD J  (fun h J S1 P2 => ?_))
  have Sm := jSm_tr rfl Sm S1
  show jX m_X12_readExpression 7 0 0 81 [(0, .ref 125)] [] _ 0 0 _
  refine x_vret rfl rfl ?_
  exact hQ _ J Sm _ _ _ (jmc S1 rfl z0) (jmc S1 rfl z2) (jmc S1 rfl z3) (by omega) _ _ _ (jmc S1 rfl z1) (jmc S1 rfl z3) (jmc S1 rfl z0) (by omega) (jre_of C0.2.2 C0.2.1 P2 C0.1.1 (jmc S1 rfl rfl) (jmc S1 rfl rfl) (by have := jrg_f J sg_125_9_10_1_0_1; omega))
set_option maxRecDepth 100000 in
set_option maxHeartbeats 4000000 in
theorem ct_X12_readExpression_r125_72 {Dy : jH → Prop} {h0 : jH} {Q : Option Value → jH → Prop} {R20 : Int} {A : Nat} (hA : A = jnC h0) (hC : (jiv h0 125 49).toInt ≤ (jiv h0 125 9).toInt) (hD : jDk Dy) (hQ : ∀ hx9, jJ jSgM Dy hx9 → jSm fp_X12_readExpression_r125 h0 hx9 → ∀ u0 u1 u2 : Int32, jiv hx9 125 10 = u0 → jiv hx9 125 8 = u1 → jiv hx9 125 9 = u2 → (u0.toInt ≤ u1.toInt ∧ u2.toInt ≤ u0.toInt) → ∀ u3 u4 u5 : Int32, jiv hx9 125 11 = u3 → jiv hx9 125 9 = u4 → jiv hx9 125 10 = u5 → (u3.toInt = 0 ∨ u4.toInt + 1 ≤ u5.toInt) → jRe A h0 hx9 → Q none hx9) (k20 : ∀ (l1 : Int32) (l2 : Int32) (g0 : Int32) (g1 : Int32) (g2 : Int32) (g3 : Int32) (h : jH), jrj l2.toInt h < R20 → 0 ≤ l1.toInt ∧ l1.toInt ≤ 1 → 0 ≤ l2.toInt ∧ l2.toInt ≤ 4 → 0 ≤ g0.toInt ∧ g0.toInt ≤ 400 → 0 ≤ g1.toInt ∧ g1.toInt ≤ 3 → 0 ≤ g2.toInt ∧ g2.toInt ≤ 400 → 0 ≤ g3.toInt ∧ g3.toInt ≤ 400 → (jTn A l2.toInt h ∧ jFm 0 A h0 h) → (g0.toInt ≤ g2.toInt ∧ g3.toInt ≤ g0.toInt) → (g1.toInt = 0 ∨ g3.toInt + 1 ≤ g0.toInt) → jiv h 125 10 = g0 → jiv h 125 11 = g1 → jiv h 125 8 = g2 → jiv h 125 9 = g3 → jJ jSgM Dy h → jSm fp_X12_readExpression_r125 h0 h → jX m_X12_readExpression 7 0 0 20 [(0, .ref 125), (1, .int l1), (2, .int l2)] [] h 0 0 Q) : ∀ (l1 : Int32) (s0 : Int32) (g0 : Int32) (g1 : Int32) (g2 : Int32) (g3 : Int32) (h : jH), 0 ≤ l1.toInt ∧ l1.toInt ≤ 1 → 0 ≤ s0.toInt ∧ s0.toInt ≤ 4 → 0 ≤ g0.toInt ∧ g0.toInt ≤ 400 → 0 ≤ g1.toInt ∧ g1.toInt ≤ 3 → 0 ≤ g2.toInt ∧ g2.toInt ≤ 400 → 0 ≤ g3.toInt ∧ g3.toInt ≤ 400 → (jTn A s0.toInt h ∧ jFm 0 A h0 h) → (g0.toInt ≤ g2.toInt ∧ g3.toInt ≤ g0.toInt) → (g1.toInt = 0 ∨ g3.toInt + 1 ≤ g0.toInt) → jiv h 125 10 = g0 → jiv h 125 11 = g1 → jiv h 125 8 = g2 → jiv h 125 9 = g3 → jrj s0.toInt h < R20 → jJ jSgM Dy h → jSm fp_X12_readExpression_r125 h0 h → jX m_X12_readExpression 7 0 0 72 [(0, .ref 125), (1, .int l1)] [.int s0] h 0 0 Q := by
  intro l1 s0 g0 g1 g2 g3 h y0 y1 y2 y3 y4 y5 C0 y7 y8 z0 z1 z2 z3 m20 J Sm
  refine x_istoren (lsx9 := [(2, .int s0), (0, .ref 125), (1, .int l1)]) rfl rfl rfl ?_
  refine x_goto (tgt := 20) rfl rfl ?_
  exact jX.sub (jsb_c rfl (jsb_c rfl (jsb_c rfl jsb_n))) (k20 l1 s0 g0 g1 g2 g3 h m20 (jr_of rfl (by omega)) (jr_of rfl (by omega)) (jr_of rfl (by omega)) (jr_of rfl (by omega)) (jr_of rfl (by omega)) (jr_of rfl (by omega)) C0 (by omega) (by omega) z0 z1 z2 z3 J Sm)
set_option maxRecDepth 100000 in
set_option maxHeartbeats 4000000 in
theorem ct_X12_readExpression_r125_20 {Dy : jH → Prop} {h0 : jH} {Q : Option Value → jH → Prop} {A : Nat} (hA : A = jnC h0) (hC : (jiv h0 125 49).toInt ≤ (jiv h0 125 9).toInt) (hD : jDk Dy) (hQ : ∀ hx9, jJ jSgM Dy hx9 → jSm fp_X12_readExpression_r125 h0 hx9 → ∀ u0 u1 u2 : Int32, jiv hx9 125 10 = u0 → jiv hx9 125 8 = u1 → jiv hx9 125 9 = u2 → (u0.toInt ≤ u1.toInt ∧ u2.toInt ≤ u0.toInt) → ∀ u3 u4 u5 : Int32, jiv hx9 125 11 = u3 → jiv hx9 125 9 = u4 → jiv hx9 125 10 = u5 → (u3.toInt = 0 ∨ u4.toInt + 1 ≤ u5.toInt) → jRe A h0 hx9 → Q none hx9) : ∀ r : Nat, ∀ (l1 : Int32) (l2 : Int32) (g0 : Int32) (g1 : Int32) (g2 : Int32) (g3 : Int32) (h : jH), jrj l2.toInt h < (r : Int) → 0 ≤ l1.toInt ∧ l1.toInt ≤ 1 → 0 ≤ l2.toInt ∧ l2.toInt ≤ 4 → 0 ≤ g0.toInt ∧ g0.toInt ≤ 400 → 0 ≤ g1.toInt ∧ g1.toInt ≤ 3 → 0 ≤ g2.toInt ∧ g2.toInt ≤ 400 → 0 ≤ g3.toInt ∧ g3.toInt ≤ 400 → (jTn A l2.toInt h ∧ jFm 0 A h0 h) → (g0.toInt ≤ g2.toInt ∧ g3.toInt ≤ g0.toInt) → (g1.toInt = 0 ∨ g3.toInt + 1 ≤ g0.toInt) → jiv h 125 10 = g0 → jiv h 125 11 = g1 → jiv h 125 8 = g2 → jiv h 125 9 = g3 → jJ jSgM Dy h → jSm fp_X12_readExpression_r125 h0 h → jX m_X12_readExpression 7 0 0 20 [(0, .ref 125), (1, .int l1), (2, .int l2)] [] h 0 0 Q := by
  intro r
  induction r with
  | zero =>
    intro l1 l2 g0 g1 g2 g3 h hm y0 y1 y2 y3 y4 y5 C0 y7 y8 z0 z1 z2 z3  J Sm
    exfalso
    have := (jrj_b (t := l2.toInt) (jrg_f J sg_125_9_10_1_0_1)).1; omega
  | succ r ih =>
    intro l1 l2 g0 g1 g2 g3 h hm y0 y1 y2 y3 y4 y5 C0 y7 y8 z0 z1 z2 z3  J Sm
    refine x_aloadn (x := 125) rfl rfl ?_
    refine z_getI (N := 92) 12 14 rfl f_12_214 rfl J rfl sg_125_14_15_1_0_1 (fun v1 qv1 ev1 => ?_)
    refine x_ifne (tgt := 76) rfl rfl (ti_ne rfl jk_0 ⟨fun c2 => ?_, fun c2 => ?_⟩)
    ·
      exact jX.sub (jsb_c rfl jsb_n) (ct_X12_readExpression_r125_76 hA hC hD hQ  g0 g1 g2 g3 h (jr_of rfl (by omega)) (jr_of rfl (by omega)) (jr_of rfl (by omega)) (jr_of rfl (by omega)) ⟨⟨C0.1.1.1, Or.inl (by rw [qv1]; omega)⟩, Or.inr (by rw [qv1]; omega), C0.2⟩ (by omega) (by omega) z0 z1 z2 z3 J Sm)
    ·
      have J8 := J
      refine x_iloadn (x := l2) rfl rfl ?_
      refine x_iconst (v := 4) rfl ki_4 ?_
      refine x_iceq (tgt := 76) rfl rfl (ti_eq rfl jk_4 ⟨fun c3 => ?_, fun c3 => ?_⟩)
      ·
        exact jX.sub (jsb_c rfl jsb_n) (ct_X12_readExpression_r125_76 hA hC hD hQ  g0 g1 g2 g3 h (jr_of rfl (by omega)) (jr_of rfl (by omega)) (jr_of rfl (by omega)) (jr_of rfl (by omega)) ⟨jtn_u1 C0.1 (by omega), Or.inl ((show l2.toInt = 4 by omega) ▸ C0.1), C0.2⟩ (by omega) (by omega) z0 z1 z2 z3 J Sm)
      ·
        refine x_iloadn (x := l2) rfl rfl ?_
        refine x_ifne (tgt := 43) rfl rfl (ti_ne rfl jk_0 ⟨fun c4 => ?_, fun c4 => ?_⟩)
        ·
          refine x_iloadn (x := l2) rfl rfl ?_
          refine x_iconst (v := 1) rfl ki_1 ?_
          refine x_icne (tgt := 55) rfl rfl (ti_ne rfl jk_1 ⟨fun c5 => ?_, fun c5 => ?_⟩)
          ·
            refine x_iloadn (x := l2) rfl rfl ?_
            refine x_iconst (v := 3) rfl ki_3 ?_
            refine x_icne (tgt := 68) rfl rfl (ti_ne rfl jk_3 ⟨fun c6 => ?_, fun c6 => ?_⟩)
            ·
              refine x_aloadn (x := 125) rfl rfl ?_
              refine x_inv (N := m_X12_behindTest) (As := []) (b := 125) (st := []) (dx9 := 4) (mc := 0) (ms := 0) (host := "") 12 rfl t_X12_behindTest ⟨Or.inl q_12_582, i_X12_behindTest.1, i_X12_behindTest.2⟩ ⟨by decide, rfl⟩ (congrArg Prod.fst (J.1.1 125 (12, 92) rfl)) rfl (by decide) rfl rfl ⟨by decide, by decide⟩ (sf_X12_behindTest_r125  (jtn_u1 C0.1 (by omega)) (jtn_n C0.1 (by omega)) hD J z0 z2 z3 (by omega) z1 z3 z0 (by omega)  (fun v15 h ev15 J S7 u8 u9 u10 qu8 qu9 qu10 ru8 u11 u12 u13 qu11 qu12 qu13 ru11 P14 => ?_))
              have Sm := jSm_tr rfl Sm S7
              have eu8 := (show 0 ≤ u8.toInt ∧ u8.toInt ≤ 400 from qu8 ▸ jrg_f J sg_125_10_11_1_0_1)
              have eu9 := (show 0 ≤ u9.toInt ∧ u9.toInt ≤ 400 from qu9 ▸ jrg_f J sg_125_8_9_1_0_1)
              have eu10 := (show 0 ≤ u10.toInt ∧ u10.toInt ≤ 400 from qu10 ▸ jrg_f J sg_125_9_10_1_0_1)
              have eu11 := (show 0 ≤ u11.toInt ∧ u11.toInt ≤ 3 from qu11 ▸ jrg_f J sg_125_11_12_1_0_1)
              obtain rfl : u10 = u12 := qu10.symm.trans qu12
              obtain rfl : u8 = u13 := qu8.symm.trans qu13
              show jX m_X12_readExpression 7 0 0 72 [(0, .ref 125), (1, .int l1), (2, .int l2)] [.int v15] _ 0 0 _
              exact jX.sub (jsb_c rfl (jsb_c rfl jsb_n)) (ct_X12_readExpression_r125_72 hA hC hD hQ ih l1 v15 u8 u11 u9 u10 h (jr_of rfl (by omega)) (jr_of rfl (by omega)) (jr_of rfl (by omega)) (jr_of rfl (by omega)) (jr_of rfl (by omega)) (jr_of rfl (by omega)) (re_bp (t := l2.toInt) C0.2 P14 (by rw [qv1]; omega) (by omega) (by have := jrg_f J8 sg_125_9_10_1_0_1; omega)).1 (by omega) (by omega) qu8 qu11 qu9 qu10 (by have m_ := (re_bp (t := l2.toInt) C0.2 P14 (by rw [qv1]; omega) (by omega) (by have := jrg_f J8 sg_125_9_10_1_0_1; omega)).2; omega) J Sm)
            ·
              refine x_aloadn (x := 125) rfl rfl ?_
              refine x_iloadn (x := l1) rfl rfl ?_
              refine x_inv (N := m_X12_behindSum) (As := [.int l1]) (b := 125) (st := []) (dx9 := 4) (mc := 0) (ms := 0) (host := "") 12 rfl t_X12_behindSum ⟨Or.inl q_12_578, i_X12_behindSum.1, i_X12_behindSum.2⟩ ⟨by decide, rfl⟩ (congrArg Prod.fst (J.1.1 125 (12, 92) rfl)) rfl (by decide) rfl rfl ⟨by decide, by decide⟩ (sf_X12_behindSum_r125 (jr_of rfl (by omega)) (jtn_u1 C0.1 (by omega)) hD J z0 z2 z3 (by omega) z1 z3 z0 (by omega)  (fun v24 h ev24 J S16 u17 u18 u19 qu17 qu18 qu19 ru17 u20 u21 u22 qu20 qu21 qu22 ru20 P23 => ?_))
              have Sm := jSm_tr rfl Sm S16
              have eu17 := (show 0 ≤ u17.toInt ∧ u17.toInt ≤ 400 from qu17 ▸ jrg_f J sg_125_10_11_1_0_1)
              have eu18 := (show 0 ≤ u18.toInt ∧ u18.toInt ≤ 400 from qu18 ▸ jrg_f J sg_125_8_9_1_0_1)
              have eu19 := (show 0 ≤ u19.toInt ∧ u19.toInt ≤ 400 from qu19 ▸ jrg_f J sg_125_9_10_1_0_1)
              have eu20 := (show 0 ≤ u20.toInt ∧ u20.toInt ≤ 3 from qu20 ▸ jrg_f J sg_125_11_12_1_0_1)
              obtain rfl : u19 = u21 := qu19.symm.trans qu21
              obtain rfl : u17 = u22 := qu17.symm.trans qu22
              show jX m_X12_readExpression 7 0 0 65 [(0, .ref 125), (1, .int l1), (2, .int l2)] [.int v24] _ 0 0 _
              refine x_goto (tgt := 72) rfl rfl ?_
              exact jX.sub (jsb_c rfl (jsb_c rfl jsb_n)) (ct_X12_readExpression_r125_72 hA hC hD hQ ih l1 v24 u17 u20 u18 u19 h (jr_of rfl (by omega)) (jr_of rfl (by omega)) (jr_of rfl (by omega)) (jr_of rfl (by omega)) (jr_of rfl (by omega)) (jr_of rfl (by omega)) (re_bp (t := l2.toInt) C0.2 P23 (by rw [qv1]; omega) (by omega) (by have := jrg_f J8 sg_125_9_10_1_0_1; omega)).1 (by omega) (by omega) qu17 qu20 qu18 qu19 (by have m_ := (re_bp (t := l2.toInt) C0.2 P23 (by rw [qv1]; omega) (by omega) (by have := jrg_f J8 sg_125_9_10_1_0_1; omega)).2; omega) J Sm)
          ·
            refine x_aloadn (x := 125) rfl rfl ?_
            refine x_inv (N := m_X12_readSum) (As := []) (b := 125) (st := []) (dx9 := 5) (mc := 0) (ms := 0) (host := "") 12 rfl t_X12_readSum ⟨Or.inl q_12_569, i_X12_readSum.1, i_X12_readSum.2⟩ ⟨by decide, rfl⟩ (congrArg Prod.fst (J.1.1 125 (12, 92) rfl)) rfl (by decide) rfl rfl ⟨by decide, by decide⟩ (sf_X12_readSum_r125  (jtn_u0 C0.1 (by omega)) hD J z0 z2 z3 (by omega) z1 z3 z0 (by omega)  (fun v33 h ev33 J S25 u26 u27 u28 qu26 qu27 qu28 ru26 u29 u30 u31 qu29 qu30 qu31 ru29 P32 => ?_))
            have Sm := jSm_tr rfl Sm S25
            have eu26 := (show 0 ≤ u26.toInt ∧ u26.toInt ≤ 400 from qu26 ▸ jrg_f J sg_125_10_11_1_0_1)
            have eu27 := (show 0 ≤ u27.toInt ∧ u27.toInt ≤ 400 from qu27 ▸ jrg_f J sg_125_8_9_1_0_1)
            have eu28 := (show 0 ≤ u28.toInt ∧ u28.toInt ≤ 400 from qu28 ▸ jrg_f J sg_125_9_10_1_0_1)
            have eu29 := (show 0 ≤ u29.toInt ∧ u29.toInt ≤ 3 from qu29 ▸ jrg_f J sg_125_11_12_1_0_1)
            obtain rfl : u28 = u30 := qu28.symm.trans qu30
            obtain rfl : u26 = u31 := qu26.symm.trans qu31
            show jX m_X12_readExpression 7 0 0 52 [(0, .ref 125), (1, .int l1), (2, .int l2)] [.int v33] _ 0 0 _
            refine x_goto (tgt := 72) rfl rfl ?_
            exact jX.sub (jsb_c rfl (jsb_c rfl jsb_n)) (ct_X12_readExpression_r125_72 hA hC hD hQ ih l1 v33 u26 u29 u27 u28 h (jr_of rfl (by omega)) (jr_of rfl (by omega)) (jr_of rfl (by omega)) (jr_of rfl (by omega)) (jr_of rfl (by omega)) (jr_of rfl (by omega)) (re_rd (t := l2.toInt) C0.2 P32 (by rw [qv1]; omega) (by omega) (by have := jrg_f J8 sg_125_9_10_1_0_1; omega)).1 (by omega) (by omega) qu26 qu29 qu27 qu28 (by have m_ := (re_rd (t := l2.toInt) C0.2 P32 (by rw [qv1]; omega) (by omega) (by have := jrg_f J8 sg_125_9_10_1_0_1; omega)).2; omega) J Sm)
        ·
          refine x_aloadn (x := 125) rfl rfl ?_
          refine x_inv (N := m_X12_readPlain) (As := []) (b := 125) (st := []) (dx9 := 6) (mc := 0) (ms := 0) (host := "") 12 rfl t_X12_readPlain ⟨Or.inl q_12_575, i_X12_readPlain.1, i_X12_readPlain.2⟩ ⟨by decide, rfl⟩ (congrArg Prod.fst (J.1.1 125 (12, 92) rfl)) rfl (by decide) rfl rfl ⟨by decide, by decide⟩ (sf_X12_readPlain_r125  (jtn_u0 C0.1 (by omega)) (jtn_n C0.1 (by omega)) hD J z0 z2 z3 (by omega) z1 z3 z0 (by omega)  (fun v42 h ev42 J S34 u35 u36 u37 qu35 qu36 qu37 ru35 u38 u39 u40 qu38 qu39 qu40 ru38 P41 => ?_))
          have Sm := jSm_tr rfl Sm S34
          have eu35 := (show 0 ≤ u35.toInt ∧ u35.toInt ≤ 400 from qu35 ▸ jrg_f J sg_125_10_11_1_0_1)
          have eu36 := (show 0 ≤ u36.toInt ∧ u36.toInt ≤ 400 from qu36 ▸ jrg_f J sg_125_8_9_1_0_1)
          have eu37 := (show 0 ≤ u37.toInt ∧ u37.toInt ≤ 400 from qu37 ▸ jrg_f J sg_125_9_10_1_0_1)
          have eu38 := (show 0 ≤ u38.toInt ∧ u38.toInt ≤ 3 from qu38 ▸ jrg_f J sg_125_11_12_1_0_1)
          obtain rfl : u37 = u39 := qu37.symm.trans qu39
          obtain rfl : u35 = u40 := qu35.symm.trans qu40
          show jX m_X12_readExpression 7 0 0 40 [(0, .ref 125), (1, .int l1), (2, .int l2)] [.int v42] _ 0 0 _
          refine x_goto (tgt := 72) rfl rfl ?_
          exact jX.sub (jsb_c rfl (jsb_c rfl jsb_n)) (ct_X12_readExpression_r125_72 hA hC hD hQ ih l1 v42 u35 u38 u36 u37 h (jr_of rfl (by omega)) (jr_of rfl (by omega)) (jr_of rfl (by omega)) (jr_of rfl (by omega)) (jr_of rfl (by omega)) (jr_of rfl (by omega)) (re_rd (t := l2.toInt) C0.2 P41 (by rw [qv1]; omega) (by omega) (by have := jrg_f J8 sg_125_9_10_1_0_1; omega)).1 (by omega) (by omega) qu35 qu38 qu36 qu37 (by have m_ := (re_rd (t := l2.toInt) C0.2 P41 (by rw [qv1]; omega) (by omega) (by have := jrg_f J8 sg_125_9_10_1_0_1; omega)).2; omega) J Sm)
set_option maxRecDepth 100000 in
set_option maxHeartbeats 4000000 in
theorem ct_X12_readExpression_r125_300019 {Dy : jH → Prop} {h0 : jH} {Q : Option Value → jH → Prop} {A : Nat} (hA : A = jnC h0) (hC : (jiv h0 125 49).toInt ≤ (jiv h0 125 9).toInt) (hD : jDk Dy) (hQ : ∀ hx9, jJ jSgM Dy hx9 → jSm fp_X12_readExpression_r125 h0 hx9 → ∀ u0 u1 u2 : Int32, jiv hx9 125 10 = u0 → jiv hx9 125 8 = u1 → jiv hx9 125 9 = u2 → (u0.toInt ≤ u1.toInt ∧ u2.toInt ≤ u0.toInt) → ∀ u3 u4 u5 : Int32, jiv hx9 125 11 = u3 → jiv hx9 125 9 = u4 → jiv hx9 125 10 = u5 → (u3.toInt = 0 ∨ u4.toInt + 1 ≤ u5.toInt) → jRe A h0 hx9 → Q none hx9) : ∀ (l1 : Int32) (g0 : Int32) (g1 : Int32) (g2 : Int32) (g3 : Int32) (h : jH), 0 ≤ l1.toInt ∧ l1.toInt ≤ 0 → 0 ≤ g0.toInt ∧ g0.toInt ≤ 400 → 0 ≤ g1.toInt ∧ g1.toInt ≤ 3 → 0 ≤ g2.toInt ∧ g2.toInt ≤ 400 → 0 ≤ g3.toInt ∧ g3.toInt ≤ 400 → (jTn A 1 h ∧ jFm 0 A h0 h) → (g0.toInt ≤ g2.toInt ∧ g3.toInt ≤ g0.toInt) → (g1.toInt = 0 ∨ g3.toInt + 1 ≤ g0.toInt) → jiv h 125 10 = g0 → jiv h 125 11 = g1 → jiv h 125 8 = g2 → jiv h 125 9 = g3 → jJ jSgM Dy h → jSm fp_X12_readExpression_r125 h0 h → jX m_X12_readExpression 7 0 0 19 [(0, .ref 125), (1, .int l1)] [.int 1] h 0 0 Q := by
  intro l1 g0 g1 g2 g3 h y0 y1 y2 y3 y4 C0 y6 y7 z0 z1 z2 z3  J Sm
  refine x_istoren (lsx9 := [(2, .int 1), (0, .ref 125), (1, .int l1)]) rfl rfl rfl ?_
  exact jX.sub (jsb_c rfl (jsb_c rfl (jsb_c rfl jsb_n))) (ct_X12_readExpression_r125_20 hA hC hD hQ  1612 l1 1 g0 g1 g2 g3 h (by have := (jrj_b (t := Int32.toInt 1) (jrg_f J sg_125_9_10_1_0_1)).2; omega) (jr_of rfl (by omega)) (jr_of jk_1 (by omega)) (jr_of rfl (by omega)) (jr_of rfl (by omega)) (jr_of rfl (by omega)) (jr_of rfl (by omega)) (by rw [jk_1]; exact C0) (by omega) (by omega) z0 z1 z2 z3 J Sm)
set_option maxRecDepth 100000 in
set_option maxHeartbeats 4000000 in
theorem ct_X12_readExpression_r125_200019 {Dy : jH → Prop} {h0 : jH} {Q : Option Value → jH → Prop} {A : Nat} (hA : A = jnC h0) (hC : (jiv h0 125 49).toInt ≤ (jiv h0 125 9).toInt) (hD : jDk Dy) (hQ : ∀ hx9, jJ jSgM Dy hx9 → jSm fp_X12_readExpression_r125 h0 hx9 → ∀ u0 u1 u2 : Int32, jiv hx9 125 10 = u0 → jiv hx9 125 8 = u1 → jiv hx9 125 9 = u2 → (u0.toInt ≤ u1.toInt ∧ u2.toInt ≤ u0.toInt) → ∀ u3 u4 u5 : Int32, jiv hx9 125 11 = u3 → jiv hx9 125 9 = u4 → jiv hx9 125 10 = u5 → (u3.toInt = 0 ∨ u4.toInt + 1 ≤ u5.toInt) → jRe A h0 hx9 → Q none hx9) : ∀ (l1 : Int32) (g0 : Int32) (g1 : Int32) (g2 : Int32) (g3 : Int32) (h : jH), 1 ≤ l1.toInt ∧ l1.toInt ≤ 1 → 0 ≤ g0.toInt ∧ g0.toInt ≤ 400 → 0 ≤ g1.toInt ∧ g1.toInt ≤ 3 → 0 ≤ g2.toInt ∧ g2.toInt ≤ 400 → 0 ≤ g3.toInt ∧ g3.toInt ≤ 400 → l1.toInt ≠ 0 → (jTn A 0 h ∧ jFm 0 A h0 h) → (g0.toInt ≤ g2.toInt ∧ g3.toInt ≤ g0.toInt) → (g1.toInt = 0 ∨ g3.toInt + 1 ≤ g0.toInt) → jiv h 125 10 = g0 → jiv h 125 11 = g1 → jiv h 125 8 = g2 → jiv h 125 9 = g3 → jJ jSgM Dy h → jSm fp_X12_readExpression_r125 h0 h → jX m_X12_readExpression 7 0 0 19 [(0, .ref 125), (1, .int l1)] [.int 0] h 0 0 Q := by
  intro l1 g0 g1 g2 g3 h y0 y1 y2 y3 y4 y5 C0 y7 y8 z0 z1 z2 z3  J Sm
  refine x_istoren (lsx9 := [(2, .int 0), (0, .ref 125), (1, .int l1)]) rfl rfl rfl ?_
  exact jX.sub (jsb_c rfl (jsb_c rfl (jsb_c rfl jsb_n))) (ct_X12_readExpression_r125_20 hA hC hD hQ  1612 l1 0 g0 g1 g2 g3 h (by have := (jrj_b (t := Int32.toInt 0) (jrg_f J sg_125_9_10_1_0_1)).2; omega) (jr_of rfl (by omega)) (jr_of jk_0 (by omega)) (jr_of rfl (by omega)) (jr_of rfl (by omega)) (jr_of rfl (by omega)) (jr_of rfl (by omega)) (by rw [jk_0]; exact C0) (by omega) (by omega) z0 z1 z2 z3 J Sm)
set_option maxRecDepth 100000 in
set_option maxHeartbeats 4000000 in
theorem sf_X12_readExpression_r125 {Dy : jH → Prop} {h : jH} {Q : Option Value → jH → Prop} {a1 : Int32} (y1 : 0 ≤ a1.toInt ∧ a1.toInt ≤ 1) {A : Nat} (hA : A = jnC h) (hC : (jiv h 125 49).toInt ≤ (jiv h 125 9).toInt) (hD : jDk Dy) (J : jJ jSgM Dy h) {p0 p1 p2 : Int32} {p3 p4 p5 : Int32} (zp0 : jiv h 125 10 = p0) (zp1 : jiv h 125 8 = p1) (zp2 : jiv h 125 9 = p2) (rl_p0 : (p0.toInt ≤ p1.toInt ∧ p2.toInt ≤ p0.toInt)) (zp3 : jiv h 125 11 = p3) (zp4 : jiv h 125 9 = p4) (zp5 : jiv h 125 10 = p5) (rl_p3 : (p3.toInt = 0 ∨ p4.toInt + 1 ≤ p5.toInt)) (hQ : ∀ hx9, jJ jSgM Dy hx9 → jSm fp_X12_readExpression_r125 h hx9 → ∀ u0 u1 u2 : Int32, jiv hx9 125 10 = u0 → jiv hx9 125 8 = u1 → jiv hx9 125 9 = u2 → (u0.toInt ≤ u1.toInt ∧ u2.toInt ≤ u0.toInt) → ∀ u3 u4 u5 : Int32, jiv hx9 125 11 = u3 → jiv hx9 125 9 = u4 → jiv hx9 125 10 = u5 → (u3.toInt = 0 ∨ u4.toInt + 1 ≤ u5.toInt) → jRe A h hx9 → Q none hx9) : jC m_X12_readExpression 7 0 0 [.ref 125, .int a1] h Q := by
  refine jC.of rfl k_X12_readExpression rfl ?_
  have Sm := jSm_rf fp_X12_readExpression_r125 h
  have ep0 := (show 0 ≤ p0.toInt ∧ p0.toInt ≤ 400 from zp0 ▸ jrg_f J sg_125_10_11_1_0_1)
  have ep1 := (show 0 ≤ p1.toInt ∧ p1.toInt ≤ 400 from zp1 ▸ jrg_f J sg_125_8_9_1_0_1)
  have ep2 := (show 0 ≤ p2.toInt ∧ p2.toInt ≤ 400 from zp2 ▸ jrg_f J sg_125_9_10_1_0_1)
  have ep3 := (show 0 ≤ p3.toInt ∧ p3.toInt ≤ 3 from zp3 ▸ jrg_f J sg_125_11_12_1_0_1)
  have ep4 := (show 0 ≤ p4.toInt ∧ p4.toInt ≤ 400 from zp4 ▸ jrg_f J sg_125_9_10_1_0_1)
  have ep5 := (show 0 ≤ p5.toInt ∧ p5.toInt ≤ 400 from zp5 ▸ jrg_f J sg_125_10_11_1_0_1)
  obtain rfl : p2 = p4 := zp2.symm.trans zp4
  obtain rfl : p0 = p5 := zp0.symm.trans zp5
  have J7 := J
  show jX m_X12_readExpression 7 0 0 0 [(0, .ref 125), (1, .int a1)] [] _ 0 0 _
  refine x_aloadn (x := 125) rfl rfl ?_
  refine x_iconst (v := 0) rfl ki_0 ?_
  refine z_putI (N := 92) (w := 0) 12 55 rfl f_12_496 rfl (jfin_no TX12 RX12 92 rfl rfl) hD J Sm rfl rfl jk_0 (pw_125_55 (by omega)) rfl (fun h w1 J Sm => ?_)
  refine x_aloadn (x := 125) rfl rfl ?_
  refine x_iconst (v := 0) rfl ki_0 ?_
  refine z_putI (N := 92) (w := 0) 12 56 rfl f_12_533 rfl (jfin_no TX12 RX12 92 rfl rfl) hD J Sm rfl rfl jk_0 (pw_125_56 trivial) rfl (fun h w2 J Sm => ?_)
  refine x_iloadn (x := a1) rfl rfl ?_
  refine x_ifeq (tgt := 18) rfl rfl (ti_eq rfl jk_0 ⟨fun c3 => ?_, fun c3 => ?_⟩)
  ·
    refine x_iconst (v := 1) rfl ki_1 ?_
    exact jX.sub (jsb_c rfl (jsb_c rfl jsb_n)) (ct_X12_readExpression_r125_300019 hA hC hD hQ  a1 p0 p3 p1 p2 h (jr_of rfl (by omega)) (jr_of rfl (by omega)) (jr_of rfl (by omega)) (jr_of rfl (by omega)) (jr_of rfl (by omega)) (re_0 (by omega) hA hC (jrg_f J7 sg_125_49_50_1_0_1).1 w1 w2) (by omega) (by omega) (jmo w2 rfl (jmo w1 rfl zp0)) (jmo w2 rfl (jmo w1 rfl zp3)) (jmo w2 rfl (jmo w1 rfl zp1)) (jmo w2 rfl (jmo w1 rfl zp2)) J Sm)
  ·
    refine x_iconst (v := 0) rfl ki_0 ?_
    refine x_goto (tgt := 19) rfl rfl ?_
    exact jX.sub (jsb_c rfl (jsb_c rfl jsb_n)) (ct_X12_readExpression_r125_200019 hA hC hD hQ  a1 p0 p3 p1 p2 h (jr_of rfl (by omega)) (jr_of rfl (by omega)) (jr_of rfl (by omega)) (jr_of rfl (by omega)) (jr_of rfl (by omega)) (by omega) (re_0 (by omega) hA hC (jrg_f J7 sg_125_49_50_1_0_1).1 w1 w2) (by omega) (by omega) (jmo w2 rfl (jmo w1 rfl zp0)) (jmo w2 rfl (jmo w1 rfl zp3)) (jmo w2 rfl (jmo w1 rfl zp1)) (jmo w2 rfl (jmo w1 rfl zp2)) J Sm)
def fp_X12_readPieces_r125 : jFp := [(125, 9, 10), (125, 10, 11), (125, 11, 12), (125, 12, 13), (125, 13, 14), (125, 14, 15), (125, 49, 50), (125, 52, 53), (125, 55, 56), (125, 56, 57), (147, 0, 120), (148, 0, 400), (149, 0, 400), (150, 0, 400), (151, 0, 400)]
set_option maxRecDepth 100000 in
set_option maxHeartbeats 4000000 in
theorem ct_X12_readPieces_r125_26 {Dy : jH → Prop} {h0 : jH} {Q : Option Value → jH → Prop} {a1 : Int32} (yy_a1 : 4 ≤ a1.toInt ∧ a1.toInt ≤ 118) {A : Nat} (hA : A = jnC h0) (hD : jDk Dy) (hQ : ∀ hx9, jJ jSgM Dy hx9 → jSm fp_X12_readPieces_r125 h0 hx9 → ∀ u0 u1 u2 : Int32, jiv hx9 125 10 = u0 → jiv hx9 125 8 = u1 → jiv hx9 125 9 = u2 → (u0.toInt ≤ u1.toInt ∧ u2.toInt ≤ u0.toInt) → ∀ u3 u4 u5 : Int32, jiv hx9 125 11 = u3 → jiv hx9 125 9 = u4 → jiv hx9 125 10 = u5 → (u3.toInt = 0 ∨ u4.toInt + 1 ≤ u5.toInt) → jPs a1 A h0 hx9 → Q none hx9) : ∀ (g0 : Int32) (g1 : Int32) (g2 : Int32) (g3 : Int32) (h : jH), 0 ≤ g0.toInt ∧ g0.toInt ≤ 400 → 0 ≤ g1.toInt ∧ g1.toInt ≤ 3 → 0 ≤ g2.toInt ∧ g2.toInt ≤ 400 → 0 ≤ g3.toInt ∧ g3.toInt ≤ 400 → jP26 a1 A h0 h → (g0.toInt ≤ g2.toInt ∧ g3.toInt ≤ g0.toInt) → (g1.toInt = 0 ∨ g3.toInt + 1 ≤ g0.toInt) → jiv h 125 10 = g0 → jiv h 125 11 = g1 → jiv h 125 8 = g2 → jiv h 125 9 = g3 → jJ jSgM Dy h → jSm fp_X12_readPieces_r125 h0 h → jX m_X12_readPieces 8 0 0 26 [(0, .ref 125), (1, .int a1)] [] h 0 0 Q := by
  intro g0 g1 g2 g3 h y0 y1 y2 y3 C0 y5 y6 z0 z1 z2 z3  J Sm
  refine x_aloadn (x := 125) rfl rfl ?_
  refine z_getR (N := 92) (b := 147) 12 48 rfl f_12_96 rfl J rfl 16048 ⟨rfl, rfl⟩ rfl ?_
  refine x_iloadn (x := a1) rfl rfl ?_
  refine x_iconst (v := 1) rfl ki_1 ?_
  refine z_iadd rfl rfl jk_1 (by omega) (fun v1 ev1 => ?_)
  refine x_aloadn (x := 125) rfl rfl ?_
  refine z_getI (N := 92) 12 49 rfl f_12_493 rfl J rfl sg_125_49_50_1_0_1 (fun v2 qv2 ev2 => ?_)
  refine z_iast (N := 120) (l := 0) (u := 120) (w := v2.toInt) rfl hD J Sm rfl rfl rfl (by omega) rfl (wr_147) rfl (fun h w3 J Sm => ?_)
  refine x_vret rfl rfl ?_
  exact hQ _ J Sm _ _ _ (jmo w3 rfl z0) (jmo w3 rfl z2) (jmo w3 rfl z3) (by omega) _ _ _ (jmo w3 rfl z1) (jmo w3 rfl z3) (jmo w3 rfl z0) (by omega) (ps_2 hA C0 (by omega) (by omega) qv2 (by omega) w3)
set_option maxRecDepth 100000 in
set_option maxHeartbeats 4000000 in
theorem sf_X12_readPieces_r125 {Dy : jH → Prop} {h : jH} {Q : Option Value → jH → Prop} {a1 : Int32} {a2 : Int32} {a3 : Int32} (y1 : 4 ≤ a1.toInt ∧ a1.toInt ≤ 118) (ym1 : a1.toInt % 2 = 0) (y2 : 0 ≤ a2.toInt ∧ a2.toInt ≤ 1) (y3 : 0 ≤ a3.toInt ∧ a3.toInt ≤ 1) {A : Nat} (hA : A = jnC h) (hC : (jiv h 125 49).toInt ≤ (jiv h 125 9).toInt) (hD : jDk Dy) (J : jJ jSgM Dy h) {p0 p1 p2 : Int32} {p3 p4 p5 : Int32} (zp0 : jiv h 125 10 = p0) (zp1 : jiv h 125 8 = p1) (zp2 : jiv h 125 9 = p2) (rl_p0 : (p0.toInt ≤ p1.toInt ∧ p2.toInt ≤ p0.toInt)) (zp3 : jiv h 125 11 = p3) (zp4 : jiv h 125 9 = p4) (zp5 : jiv h 125 10 = p5) (rl_p3 : (p3.toInt = 0 ∨ p4.toInt + 1 ≤ p5.toInt)) (hQ : ∀ hx9, jJ jSgM Dy hx9 → jSm fp_X12_readPieces_r125 h hx9 → ∀ u0 u1 u2 : Int32, jiv hx9 125 10 = u0 → jiv hx9 125 8 = u1 → jiv hx9 125 9 = u2 → (u0.toInt ≤ u1.toInt ∧ u2.toInt ≤ u0.toInt) → ∀ u3 u4 u5 : Int32, jiv hx9 125 11 = u3 → jiv hx9 125 9 = u4 → jiv hx9 125 10 = u5 → (u3.toInt = 0 ∨ u4.toInt + 1 ≤ u5.toInt) → jPs a1 A h hx9 → Q none hx9) : jC m_X12_readPieces 8 0 0 [.ref 125, .int a1, .int a2, .int a3] h Q := by
  refine jC.of rfl k_X12_readPieces rfl ?_
  have Sm := jSm_rf fp_X12_readPieces_r125 h
  have ep0 := (show 0 ≤ p0.toInt ∧ p0.toInt ≤ 400 from zp0 ▸ jrg_f J sg_125_10_11_1_0_1)
  have ep1 := (show 0 ≤ p1.toInt ∧ p1.toInt ≤ 400 from zp1 ▸ jrg_f J sg_125_8_9_1_0_1)
  have ep2 := (show 0 ≤ p2.toInt ∧ p2.toInt ≤ 400 from zp2 ▸ jrg_f J sg_125_9_10_1_0_1)
  have ep3 := (show 0 ≤ p3.toInt ∧ p3.toInt ≤ 3 from zp3 ▸ jrg_f J sg_125_11_12_1_0_1)
  have ep4 := (show 0 ≤ p4.toInt ∧ p4.toInt ≤ 400 from zp4 ▸ jrg_f J sg_125_9_10_1_0_1)
  have ep5 := (show 0 ≤ p5.toInt ∧ p5.toInt ≤ 400 from zp5 ▸ jrg_f J sg_125_10_11_1_0_1)
  obtain rfl : p2 = p4 := zp2.symm.trans zp4
  obtain rfl : p0 = p5 := zp0.symm.trans zp5
  have J7 := J
  have yy_a1 := y1
  show jX m_X12_readPieces 8 0 0 0 [(0, .ref 125), (1, .int a1), (2, .int a2), (3, .int a3)] [] _ 0 0 _
  refine x_aloadn (x := 125) rfl rfl ?_
  refine z_getR (N := 92) (b := 147) 12 48 rfl f_12_96 rfl J rfl 16048 ⟨rfl, rfl⟩ rfl ?_
  refine x_iloadn (x := a1) rfl rfl ?_
  refine x_aloadn (x := 125) rfl rfl ?_
  refine z_getI (N := 92) 12 49 rfl f_12_493 rfl J rfl sg_125_49_50_1_0_1 (fun v1 qv1 ev1 => ?_)
  refine z_iast (N := 120) (l := 0) (u := 120) (w := v1.toInt) rfl hD J Sm rfl rfl rfl (by omega) rfl (wr_147) rfl (fun h w2 J Sm => ?_)
  refine x_iloadn (x := a2) rfl rfl ?_
  refine x_ifeq (tgt := 26) rfl rfl (ti_eq rfl jk_0 ⟨fun c3 => ?_, fun c3 => ?_⟩)
  ·
    exact jX.sub (jsb_c rfl (jsb_c rfl jsb_n)) (ct_X12_readPieces_r125_26 yy_a1 hA hD hQ  p0 p3 p1 p2 h (jr_of rfl (by omega)) (jr_of rfl (by omega)) (jr_of rfl (by omega)) (jr_of rfl (by omega)) (ps_0 hA hC (jrg_f J7 sg_125_49_50_1_0_1) qv1 w2) (by omega) (by omega) (jmo w2 rfl zp0) (jmo w2 rfl zp3) (jmo w2 rfl zp1) (jmo w2 rfl zp2) J Sm)
  ·
    refine x_aloadn (x := 125) rfl rfl ?_
    refine z_getI (N := 92) 12 14 rfl f_12_214 rfl J rfl sg_125_14_15_1_0_1 (fun v4 qv4 ev4 => ?_)
    refine x_ifne (tgt := 26) rfl rfl (ti_ne rfl jk_0 ⟨fun c5 => ?_, fun c5 => ?_⟩)
    ·
      exact jX.sub (jsb_c rfl (jsb_c rfl jsb_n)) (ct_X12_readPieces_r125_26 yy_a1 hA hD hQ  p0 p3 p1 p2 h (jr_of rfl (by omega)) (jr_of rfl (by omega)) (jr_of rfl (by omega)) (jr_of rfl (by omega)) (ps_0 hA hC (jrg_f J7 sg_125_49_50_1_0_1) qv1 w2) (by omega) (by omega) (jmo w2 rfl zp0) (jmo w2 rfl zp3) (jmo w2 rfl zp1) (jmo w2 rfl zp2) J Sm)
    ·
      refine x_aloadn (x := 125) rfl rfl ?_
      refine x_iloadn (x := a3) rfl rfl ?_
      refine x_inv (N := m_X12_readExpression) (As := [.int a3]) (b := 125) (st := []) (dx9 := 7) (mc := 0) (ms := 0) (host := "") 12 rfl t_X12_readExpression ⟨Or.inl q_12_670, i_X12_readExpression.1, i_X12_readExpression.2⟩ ⟨by decide, rfl⟩ (congrArg Prod.fst (J.1.1 125 (12, 92) rfl)) rfl (by decide) rfl rfl ⟨by decide, by decide⟩ (sf_X12_readExpression_r125 (jr_of rfl (by omega)) (ps_a hA w2) (ps_c hC w2) hD J (jmo w2 rfl zp0) (jmo w2 rfl zp1) (jmo w2 rfl zp2) (by omega) (jmo w2 rfl zp3) (jmo w2 rfl zp2) (jmo w2 rfl zp0) (by omega)  (fun h J S6 u7 u8 u9 qu7 qu8 qu9 ru7 u10 u11 u12 qu10 qu11 qu12 ru10 P13 => ?_))
      have Sm := jSm_tr rfl Sm S6
      have eu7 := (show 0 ≤ u7.toInt ∧ u7.toInt ≤ 400 from qu7 ▸ jrg_f J sg_125_10_11_1_0_1)
      have eu8 := (show 0 ≤ u8.toInt ∧ u8.toInt ≤ 400 from qu8 ▸ jrg_f J sg_125_8_9_1_0_1)
      have eu9 := (show 0 ≤ u9.toInt ∧ u9.toInt ≤ 400 from qu9 ▸ jrg_f J sg_125_9_10_1_0_1)
      have eu10 := (show 0 ≤ u10.toInt ∧ u10.toInt ≤ 3 from qu10 ▸ jrg_f J sg_125_11_12_1_0_1)
      obtain rfl : u9 = u11 := qu9.symm.trans qu11
      obtain rfl : u7 = u12 := qu7.symm.trans qu12
      show jX m_X12_readPieces 8 0 0 26 [(0, .ref 125), (1, .int a1), (2, .int a2), (3, .int a3)] [] _ 0 0 _
      exact jX.sub (jsb_c rfl (jsb_c rfl jsb_n)) (ct_X12_readPieces_r125_26 yy_a1 hA hD hQ  u7 u10 u8 u9 h (jr_of rfl (by omega)) (jr_of rfl (by omega)) (jr_of rfl (by omega)) (jr_of rfl (by omega)) (ps_1 (ps_0 hA hC (jrg_f J7 sg_125_49_50_1_0_1) qv1 w2) P13 (jeq_c S6 rfl jeq_0)) (by omega) (by omega) qu7 qu10 qu8 qu9 J Sm)
def fp_X12_whatAt_r125 : jFp := []
set_option maxRecDepth 100000 in
set_option maxHeartbeats 4000000 in
theorem ct_X12_whatAt_r125_100043 {Dy : jH → Prop} {h0 : jH} {Q : Option Value → jH → Prop} (hD : jDk Dy) (hQ : ∀ (v : Int32) hx9, (-1) ≤ v.toInt ∧ v.toInt ≤ 2 → jJ jSgM Dy hx9 → jSm fp_X12_whatAt_r125 h0 hx9 → Q (some (.int v)) hx9) : ∀ (h : jH), jJ jSgM Dy h → jSm fp_X12_whatAt_r125 h0 h → jX m_X12_whatAt 2 0 0 43 [] [.int (-1)] h 0 0 Q := by
  intro  h    J Sm
  refine x_iret rfl rfl ?_
  exact hQ _ _ (jr_of jk_m1 (by omega)) J Sm
set_option maxRecDepth 100000 in
set_option maxHeartbeats 4000000 in
theorem ct_X12_whatAt_r125_400043 {Dy : jH → Prop} {h0 : jH} {Q : Option Value → jH → Prop} (hD : jDk Dy) (hQ : ∀ (v : Int32) hx9, (-1) ≤ v.toInt ∧ v.toInt ≤ 2 → jJ jSgM Dy hx9 → jSm fp_X12_whatAt_r125 h0 hx9 → Q (some (.int v)) hx9) : ∀ (h : jH), jJ jSgM Dy h → jSm fp_X12_whatAt_r125 h0 h → jX m_X12_whatAt 2 0 0 43 [] [.int 2] h 0 0 Q := by
  intro  h    J Sm
  refine x_iret rfl rfl ?_
  exact hQ _ _ (jr_of jk_2 (by omega)) J Sm
set_option maxRecDepth 100000 in
set_option maxHeartbeats 4000000 in
theorem ct_X12_whatAt_r125_300043 {Dy : jH → Prop} {h0 : jH} {Q : Option Value → jH → Prop} (hD : jDk Dy) (hQ : ∀ (v : Int32) hx9, (-1) ≤ v.toInt ∧ v.toInt ≤ 2 → jJ jSgM Dy hx9 → jSm fp_X12_whatAt_r125 h0 hx9 → Q (some (.int v)) hx9) : ∀ (h : jH), jJ jSgM Dy h → jSm fp_X12_whatAt_r125 h0 h → jX m_X12_whatAt 2 0 0 43 [] [.int 1] h 0 0 Q := by
  intro  h    J Sm
  refine x_iret rfl rfl ?_
  exact hQ _ _ (jr_of jk_1 (by omega)) J Sm
set_option maxRecDepth 100000 in
set_option maxHeartbeats 4000000 in
theorem ct_X12_whatAt_r125_200043 {Dy : jH → Prop} {h0 : jH} {Q : Option Value → jH → Prop} (hD : jDk Dy) (hQ : ∀ (v : Int32) hx9, (-1) ≤ v.toInt ∧ v.toInt ≤ 2 → jJ jSgM Dy hx9 → jSm fp_X12_whatAt_r125 h0 hx9 → Q (some (.int v)) hx9) : ∀ (h : jH), jJ jSgM Dy h → jSm fp_X12_whatAt_r125 h0 h → jX m_X12_whatAt 2 0 0 43 [] [.int 0] h 0 0 Q := by
  intro  h    J Sm
  refine x_iret rfl rfl ?_
  exact hQ _ _ (jr_of jk_0 (by omega)) J Sm
set_option maxRecDepth 100000 in
set_option maxHeartbeats 4000000 in
theorem sf_X12_whatAt_r125 {Dy : jH → Prop} {h : jH} {Q : Option Value → jH → Prop} (hD : jDk Dy) (J : jJ jSgM Dy h) (hQ : ∀ (v : Int32) hx9, (-1) ≤ v.toInt ∧ v.toInt ≤ 2 → jJ jSgM Dy hx9 → jSm fp_X12_whatAt_r125 h hx9 → Q (some (.int v)) hx9) : jC m_X12_whatAt 2 0 0 [.ref 125] h Q := by
  refine jC.of rfl k_X12_whatAt rfl ?_
  have Sm := jSm_rf fp_X12_whatAt_r125 h
  show jX m_X12_whatAt 2 0 0 0 [(0, .ref 125)] [] _ 0 0 _
  refine x_aloadn (x := 125) rfl rfl ?_
  refine x_ldc2 (v := 109758568) rfl z_12_597 ?_
  refine x_inv (N := m_X12_isWord) (As := [.long 109758568]) (b := 125) (st := []) (dx9 := 1) (mc := 0) (ms := 0) (host := "") 12 rfl t_X12_isWord ⟨Or.inl q_12_511, i_X12_isWord.1, i_X12_isWord.2⟩ ⟨by decide, rfl⟩ (congrArg Prod.fst (J.1.1 125 (12, 92) rfl)) rfl (by decide) rfl rfl ⟨by decide, by decide⟩ (jC.of rfl k_X12_isWord rfl ?_)
  show jX m_X12_isWord 1 0 0 0 [(0, .ref 125), (1, .long 109758568)] [] _ 0 0 _
  refine x_aloadn (x := 125) rfl rfl ?_
  refine z_getI (N := 92) 12 11 rfl f_12_235 rfl J rfl sg_125_11_12_1_0_1 (fun v1 qv1 ev1 => ?_)
  refine x_iconst (v := 1) rfl ki_1 ?_
  refine x_icne (tgt := 21) rfl rfl (ti_ne rfl jk_1 ⟨fun c2 => ?_, fun c2 => ?_⟩)
  ·
    refine x_iconst (v := 0) rfl ki_0 ?_
    refine x_zret rfl rfl (by decide) ?_
    show jX m_X12_whatAt 2 0 0 7 [(0, .ref 125)] [.int 0] _ 0 0 _
    refine x_ifeq (tgt := 14) rfl rfl (ti_eq jk_0 jk_0 (br_t (by omega) ?_))
    refine x_aloadn (x := 125) rfl rfl ?_
    refine x_ldc2 (v := 23609) rfl z_12_599 ?_
    refine x_inv (N := m_X12_isWord) (As := [.long 23609]) (b := 125) (st := []) (dx9 := 1) (mc := 0) (ms := 0) (host := "") 12 rfl t_X12_isWord ⟨Or.inl q_12_511, i_X12_isWord.1, i_X12_isWord.2⟩ ⟨by decide, rfl⟩ (congrArg Prod.fst (J.1.1 125 (12, 92) rfl)) rfl (by decide) rfl rfl ⟨by decide, by decide⟩ (jC.of rfl k_X12_isWord rfl ?_)
    show jX m_X12_isWord 1 0 0 0 [(0, .ref 125), (1, .long 23609)] [] _ 0 0 _
    refine x_aloadn (x := 125) rfl rfl ?_
    refine z_getM (N := 92) (v := v1) 12 11 rfl f_12_235 rfl J rfl qv1 ?_
    refine x_iconst (v := 1) rfl ki_1 ?_
    refine x_icne (tgt := 21) rfl rfl (ti_ne rfl jk_1 ⟨fun c3 => ?_, fun c3 => ?_⟩)
    ·
      refine x_iconst (v := 0) rfl ki_0 ?_
      refine x_zret rfl rfl (by decide) ?_
      show jX m_X12_whatAt 2 0 0 21 [(0, .ref 125)] [.int 0] _ 0 0 _
      refine x_ifeq (tgt := 28) rfl rfl (ti_eq jk_0 jk_0 (br_t (by omega) ?_))
      refine x_aloadn (x := 125) rfl rfl ?_
      refine x_ldc2 (v := 540146) rfl z_12_527 ?_
      refine x_inv (N := m_X12_isWord) (As := [.long 540146]) (b := 125) (st := []) (dx9 := 1) (mc := 0) (ms := 0) (host := "") 12 rfl t_X12_isWord ⟨Or.inl q_12_511, i_X12_isWord.1, i_X12_isWord.2⟩ ⟨by decide, rfl⟩ (congrArg Prod.fst (J.1.1 125 (12, 92) rfl)) rfl (by decide) rfl rfl ⟨by decide, by decide⟩ (jC.of rfl k_X12_isWord rfl ?_)
      show jX m_X12_isWord 1 0 0 0 [(0, .ref 125), (1, .long 540146)] [] _ 0 0 _
      refine x_aloadn (x := 125) rfl rfl ?_
      refine z_getM (N := 92) (v := v1) 12 11 rfl f_12_235 rfl J rfl qv1 ?_
      refine x_iconst (v := 1) rfl ki_1 ?_
      refine x_icne (tgt := 21) rfl rfl (ti_ne rfl jk_1 ⟨fun c4 => ?_, fun c4 => ?_⟩)
      ·
        refine x_iconst (v := 0) rfl ki_0 ?_
        refine x_zret rfl rfl (by decide) ?_
        show jX m_X12_whatAt 2 0 0 35 [(0, .ref 125)] [.int 0] _ 0 0 _
        refine x_ifeq (tgt := 42) rfl rfl (ti_eq jk_0 jk_0 (br_t (by omega) ?_))
        refine x_iconst (v := (-1)) rfl ki_m1 ?_
        exact jX.sub jsb_n (ct_X12_whatAt_r125_100043 hD hQ  h J Sm)
      ·
        refine x_aloadn (x := 125) rfl rfl ?_
        refine z_getL0 (N := 92) 12 12 rfl f_12_224 rfl J rfl (fun v5 => ?_)
        have ev5 := jfullL v5
        refine x_lloadn (x := 540146) rfl rfl ?_
        refine z_lcmp rfl rfl jkl_540146 (fun v6 ev6 => ?_)
        refine x_ifne (tgt := 21) rfl rfl (ti_ne rfl jk_0 ⟨fun c7 => ?_, fun c7 => ?_⟩)
        ·
          refine x_iconst (v := 0) rfl ki_0 ?_
          refine x_zret rfl rfl (by decide) ?_
          show jX m_X12_whatAt 2 0 0 35 [(0, .ref 125)] [.int 0] _ 0 0 _
          refine x_ifeq (tgt := 42) rfl rfl (ti_eq jk_0 jk_0 (br_t (by omega) ?_))
          refine x_iconst (v := (-1)) rfl ki_m1 ?_
          exact jX.sub jsb_n (ct_X12_whatAt_r125_100043 hD hQ  h J Sm)
        ·
          refine x_iconst (v := 1) rfl ki_1 ?_
          refine x_goto (tgt := 22) rfl rfl ?_
          refine x_zret rfl rfl (by decide) ?_
          show jX m_X12_whatAt 2 0 0 35 [(0, .ref 125)] [.int 1] _ 0 0 _
          refine x_ifeq (tgt := 42) rfl rfl (ti_eq jk_1 jk_0 (br_f (by omega) ?_))
          refine x_iconst (v := 2) rfl ki_2 ?_
          refine x_goto (tgt := 43) rfl rfl ?_
          exact jX.sub jsb_n (ct_X12_whatAt_r125_400043 hD hQ  h J Sm)
    ·
      refine x_aloadn (x := 125) rfl rfl ?_
      refine z_getL0 (N := 92) 12 12 rfl f_12_224 rfl J rfl (fun v8 => ?_)
      have ev8 := jfullL v8
      refine x_lloadn (x := 23609) rfl rfl ?_
      refine z_lcmp rfl rfl jkl_23609 (fun v9 ev9 => ?_)
      refine x_ifne (tgt := 21) rfl rfl (ti_ne rfl jk_0 ⟨fun c10 => ?_, fun c10 => ?_⟩)
      ·
        refine x_iconst (v := 0) rfl ki_0 ?_
        refine x_zret rfl rfl (by decide) ?_
        show jX m_X12_whatAt 2 0 0 21 [(0, .ref 125)] [.int 0] _ 0 0 _
        refine x_ifeq (tgt := 28) rfl rfl (ti_eq jk_0 jk_0 (br_t (by omega) ?_))
        refine x_aloadn (x := 125) rfl rfl ?_
        refine x_ldc2 (v := 540146) rfl z_12_527 ?_
        refine x_inv (N := m_X12_isWord) (As := [.long 540146]) (b := 125) (st := []) (dx9 := 1) (mc := 0) (ms := 0) (host := "") 12 rfl t_X12_isWord ⟨Or.inl q_12_511, i_X12_isWord.1, i_X12_isWord.2⟩ ⟨by decide, rfl⟩ (congrArg Prod.fst (J.1.1 125 (12, 92) rfl)) rfl (by decide) rfl rfl ⟨by decide, by decide⟩ (jC.of rfl k_X12_isWord rfl ?_)
        show jX m_X12_isWord 1 0 0 0 [(0, .ref 125), (1, .long 540146)] [] _ 0 0 _
        refine x_aloadn (x := 125) rfl rfl ?_
        refine z_getM (N := 92) (v := v1) 12 11 rfl f_12_235 rfl J rfl qv1 ?_
        refine x_iconst (v := 1) rfl ki_1 ?_
        refine x_icne (tgt := 21) rfl rfl (ti_ne rfl jk_1 (bn_f (by omega) ?_))
        refine x_aloadn (x := 125) rfl rfl ?_
        refine z_getL0 (N := 92) 12 12 rfl f_12_224 rfl J rfl (fun v11 => ?_)
        have ev11 := jfullL v11
        refine x_lloadn (x := 540146) rfl rfl ?_
        refine z_lcmp rfl rfl jkl_540146 (fun v12 ev12 => ?_)
        refine x_ifne (tgt := 21) rfl rfl (ti_ne rfl jk_0 ⟨fun c13 => ?_, fun c13 => ?_⟩)
        ·
          refine x_iconst (v := 0) rfl ki_0 ?_
          refine x_zret rfl rfl (by decide) ?_
          show jX m_X12_whatAt 2 0 0 35 [(0, .ref 125)] [.int 0] _ 0 0 _
          refine x_ifeq (tgt := 42) rfl rfl (ti_eq jk_0 jk_0 (br_t (by omega) ?_))
          refine x_iconst (v := (-1)) rfl ki_m1 ?_
          exact jX.sub jsb_n (ct_X12_whatAt_r125_100043 hD hQ  h J Sm)
        ·
          refine x_iconst (v := 1) rfl ki_1 ?_
          refine x_goto (tgt := 22) rfl rfl ?_
          refine x_zret rfl rfl (by decide) ?_
          show jX m_X12_whatAt 2 0 0 35 [(0, .ref 125)] [.int 1] _ 0 0 _
          refine x_ifeq (tgt := 42) rfl rfl (ti_eq jk_1 jk_0 (br_f (by omega) ?_))
          refine x_iconst (v := 2) rfl ki_2 ?_
          refine x_goto (tgt := 43) rfl rfl ?_
          exact jX.sub jsb_n (ct_X12_whatAt_r125_400043 hD hQ  h J Sm)
      ·
        refine x_iconst (v := 1) rfl ki_1 ?_
        refine x_goto (tgt := 22) rfl rfl ?_
        refine x_zret rfl rfl (by decide) ?_
        show jX m_X12_whatAt 2 0 0 21 [(0, .ref 125)] [.int 1] _ 0 0 _
        refine x_ifeq (tgt := 28) rfl rfl (ti_eq jk_1 jk_0 (br_f (by omega) ?_))
        refine x_iconst (v := 1) rfl ki_1 ?_
        refine x_goto (tgt := 43) rfl rfl ?_
        exact jX.sub jsb_n (ct_X12_whatAt_r125_300043 hD hQ  h J Sm)
  ·
    refine x_aloadn (x := 125) rfl rfl ?_
    refine z_getL0 (N := 92) 12 12 rfl f_12_224 rfl J rfl (fun v14 => ?_)
    have ev14 := jfullL v14
    refine x_lloadn (x := 109758568) rfl rfl ?_
    refine z_lcmp rfl rfl jkl_109758568 (fun v15 ev15 => ?_)
    refine x_ifne (tgt := 21) rfl rfl (ti_ne rfl jk_0 ⟨fun c16 => ?_, fun c16 => ?_⟩)
    ·
      refine x_iconst (v := 0) rfl ki_0 ?_
      refine x_zret rfl rfl (by decide) ?_
      show jX m_X12_whatAt 2 0 0 7 [(0, .ref 125)] [.int 0] _ 0 0 _
      refine x_ifeq (tgt := 14) rfl rfl (ti_eq jk_0 jk_0 (br_t (by omega) ?_))
      refine x_aloadn (x := 125) rfl rfl ?_
      refine x_ldc2 (v := 23609) rfl z_12_599 ?_
      refine x_inv (N := m_X12_isWord) (As := [.long 23609]) (b := 125) (st := []) (dx9 := 1) (mc := 0) (ms := 0) (host := "") 12 rfl t_X12_isWord ⟨Or.inl q_12_511, i_X12_isWord.1, i_X12_isWord.2⟩ ⟨by decide, rfl⟩ (congrArg Prod.fst (J.1.1 125 (12, 92) rfl)) rfl (by decide) rfl rfl ⟨by decide, by decide⟩ (jC.of rfl k_X12_isWord rfl ?_)
      show jX m_X12_isWord 1 0 0 0 [(0, .ref 125), (1, .long 23609)] [] _ 0 0 _
      refine x_aloadn (x := 125) rfl rfl ?_
      refine z_getM (N := 92) (v := v1) 12 11 rfl f_12_235 rfl J rfl qv1 ?_
      refine x_iconst (v := 1) rfl ki_1 ?_
      refine x_icne (tgt := 21) rfl rfl (ti_ne rfl jk_1 (bn_f (by omega) ?_))
      refine x_aloadn (x := 125) rfl rfl ?_
      refine z_getL0 (N := 92) 12 12 rfl f_12_224 rfl J rfl (fun v17 => ?_)
      have ev17 := jfullL v17
      refine x_lloadn (x := 23609) rfl rfl ?_
      refine z_lcmp rfl rfl jkl_23609 (fun v18 ev18 => ?_)
      refine x_ifne (tgt := 21) rfl rfl (ti_ne rfl jk_0 ⟨fun c19 => ?_, fun c19 => ?_⟩)
      ·
        refine x_iconst (v := 0) rfl ki_0 ?_
        refine x_zret rfl rfl (by decide) ?_
        show jX m_X12_whatAt 2 0 0 21 [(0, .ref 125)] [.int 0] _ 0 0 _
        refine x_ifeq (tgt := 28) rfl rfl (ti_eq jk_0 jk_0 (br_t (by omega) ?_))
        refine x_aloadn (x := 125) rfl rfl ?_
        refine x_ldc2 (v := 540146) rfl z_12_527 ?_
        refine x_inv (N := m_X12_isWord) (As := [.long 540146]) (b := 125) (st := []) (dx9 := 1) (mc := 0) (ms := 0) (host := "") 12 rfl t_X12_isWord ⟨Or.inl q_12_511, i_X12_isWord.1, i_X12_isWord.2⟩ ⟨by decide, rfl⟩ (congrArg Prod.fst (J.1.1 125 (12, 92) rfl)) rfl (by decide) rfl rfl ⟨by decide, by decide⟩ (jC.of rfl k_X12_isWord rfl ?_)
        show jX m_X12_isWord 1 0 0 0 [(0, .ref 125), (1, .long 540146)] [] _ 0 0 _
        refine x_aloadn (x := 125) rfl rfl ?_
        refine z_getM (N := 92) (v := v1) 12 11 rfl f_12_235 rfl J rfl qv1 ?_
        refine x_iconst (v := 1) rfl ki_1 ?_
        refine x_icne (tgt := 21) rfl rfl (ti_ne rfl jk_1 (bn_f (by omega) ?_))
        refine x_aloadn (x := 125) rfl rfl ?_
        refine z_getL0 (N := 92) 12 12 rfl f_12_224 rfl J rfl (fun v20 => ?_)
        have ev20 := jfullL v20
        refine x_lloadn (x := 540146) rfl rfl ?_
        refine z_lcmp rfl rfl jkl_540146 (fun v21 ev21 => ?_)
        refine x_ifne (tgt := 21) rfl rfl (ti_ne rfl jk_0 ⟨fun c22 => ?_, fun c22 => ?_⟩)
        ·
          refine x_iconst (v := 0) rfl ki_0 ?_
          refine x_zret rfl rfl (by decide) ?_
          show jX m_X12_whatAt 2 0 0 35 [(0, .ref 125)] [.int 0] _ 0 0 _
          refine x_ifeq (tgt := 42) rfl rfl (ti_eq jk_0 jk_0 (br_t (by omega) ?_))
          refine x_iconst (v := (-1)) rfl ki_m1 ?_
          exact jX.sub jsb_n (ct_X12_whatAt_r125_100043 hD hQ  h J Sm)
        ·
          refine x_iconst (v := 1) rfl ki_1 ?_
          refine x_goto (tgt := 22) rfl rfl ?_
          refine x_zret rfl rfl (by decide) ?_
          show jX m_X12_whatAt 2 0 0 35 [(0, .ref 125)] [.int 1] _ 0 0 _
          refine x_ifeq (tgt := 42) rfl rfl (ti_eq jk_1 jk_0 (br_f (by omega) ?_))
          refine x_iconst (v := 2) rfl ki_2 ?_
          refine x_goto (tgt := 43) rfl rfl ?_
          exact jX.sub jsb_n (ct_X12_whatAt_r125_400043 hD hQ  h J Sm)
      ·
        refine x_iconst (v := 1) rfl ki_1 ?_
        refine x_goto (tgt := 22) rfl rfl ?_
        refine x_zret rfl rfl (by decide) ?_
        show jX m_X12_whatAt 2 0 0 21 [(0, .ref 125)] [.int 1] _ 0 0 _
        refine x_ifeq (tgt := 28) rfl rfl (ti_eq jk_1 jk_0 (br_f (by omega) ?_))
        refine x_iconst (v := 1) rfl ki_1 ?_
        refine x_goto (tgt := 43) rfl rfl ?_
        exact jX.sub jsb_n (ct_X12_whatAt_r125_300043 hD hQ  h J Sm)
    ·
      refine x_iconst (v := 1) rfl ki_1 ?_
      refine x_goto (tgt := 22) rfl rfl ?_
      refine x_zret rfl rfl (by decide) ?_
      show jX m_X12_whatAt 2 0 0 7 [(0, .ref 125)] [.int 1] _ 0 0 _
      refine x_ifeq (tgt := 14) rfl rfl (ti_eq jk_1 jk_0 (br_f (by omega) ?_))
      refine x_iconst (v := 0) rfl ki_0 ?_
      refine x_goto (tgt := 43) rfl rfl ?_
      exact jX.sub jsb_n (ct_X12_whatAt_r125_200043 hD hQ  h J Sm)
def fp_X12_readClause_r125 : jFp := [(125, 9, 10), (125, 10, 11), (125, 11, 12), (125, 12, 13), (125, 13, 14), (125, 14, 15), (125, 47, 48), (125, 49, 50), (125, 52, 53), (125, 55, 56), (125, 56, 57), (147, 0, 120), (148, 0, 400), (149, 0, 400), (150, 0, 400), (151, 0, 400)]
set_option maxRecDepth 100000 in
set_option maxHeartbeats 4000000 in
theorem ct_X12_readClause_r125_349 {Dy : jH → Prop} {h0 : jH} {Q : Option Value → jH → Prop} (hD : jDk Dy) (hQ : ∀ hx9, jJ jSgM Dy hx9 → jSm fp_X12_readClause_r125 h0 hx9 → ∀ u0 u1 u2 : Int32, jiv hx9 125 10 = u0 → jiv hx9 125 8 = u1 → jiv hx9 125 9 = u2 → (u0.toInt ≤ u1.toInt ∧ u2.toInt ≤ u0.toInt) → ∀ u3 u4 u5 : Int32, jiv hx9 125 11 = u3 → jiv hx9 125 9 = u4 → jiv hx9 125 10 = u5 → (u3.toInt = 0 ∨ u4.toInt + 1 ≤ u5.toInt) → jRk (jnK hx9) h0 hx9 → Q none hx9) : ∀ (l2 : Int32) (l4 : Int32) (g0 : Int32) (g1 : Int32) (g2 : Int32) (g3 : Int32) (g4 : Int32) (h : jH), 0 ≤ l2.toInt ∧ l2.toInt ≤ 110 → l2.toInt % 10 = 0 → 0 ≤ l4.toInt ∧ l4.toInt ≤ 1 → 0 ≤ g0.toInt ∧ g0.toInt ≤ 400 → 0 ≤ g1.toInt ∧ g1.toInt ≤ 3 → 0 ≤ g2.toInt ∧ g2.toInt ≤ 11 → 0 ≤ g3.toInt ∧ g3.toInt ≤ 400 → 0 ≤ g4.toInt ∧ g4.toInt ≤ 400 → jZl h0 l2 h → (g0.toInt ≤ g3.toInt ∧ g4.toInt ≤ g0.toInt) → (g1.toInt = 0 ∨ g4.toInt + 1 ≤ g0.toInt) → jiv h 125 10 = g0 → jiv h 125 11 = g1 → jiv h 125 47 = g2 → jiv h 125 8 = g3 → jiv h 125 9 = g4 → jJ jSgM Dy h → jSm fp_X12_readClause_r125 h0 h → jX m_X12_readClause 9 0 0 349 [(0, .ref 125), (2, .int l2), (4, .int l4)] [] h 0 0 Q := by
  intro l2 l4 g0 g1 g2 g3 g4 h y0 y1 y2 y3 y4 y5 y6 y7 C0 y9 y10 z0 z1 z2 z3 z4  J Sm
  refine x_aloadn (x := 125) rfl rfl ?_
  refine x_iloadn (x := l2) rfl rfl ?_
  refine x_bipush (v := 8) rfl kb_8 ?_
  refine z_iadd rfl rfl jk_8 (by omega) (fun v1 ev1 => ?_)
  refine x_iload (x := l4) rfl rfl ?_
  refine x_iconst (v := 1) rfl ki_1 ?_
  refine x_inv (N := m_X12_readPieces) (As := [.int v1, .int l4, .int 1]) (b := 125) (st := []) (dx9 := 8) (mc := 0) (ms := 0) (host := "") 12 rfl t_X12_readPieces ⟨Or.inl q_12_662, i_X12_readPieces.1, i_X12_readPieces.2⟩ ⟨by decide, rfl⟩ (congrArg Prod.fst (J.1.1 125 (12, 92) rfl)) rfl (by decide) rfl rfl ⟨by decide, by decide⟩ (sf_X12_readPieces_r125 (jr_of rfl (by omega)) (jr_mod rfl (by omega)) (jr_of rfl (by omega)) (jr_of jk_1 (by omega)) (A := jnC h) rfl C0.1.2.1 hD J z0 z3 z4 (by omega) z1 z4 z0 (by omega)  (fun h J S2 u3 u4 u5 qu3 qu4 qu5 ru3 u6 u7 u8 qu6 qu7 qu8 ru6 P9 => ?_))
  have Sm := jSm_tr rfl Sm S2
  have eu3 := (show 0 ≤ u3.toInt ∧ u3.toInt ≤ 400 from qu3 ▸ jrg_f J sg_125_10_11_1_0_1)
  have eu4 := (show 0 ≤ u4.toInt ∧ u4.toInt ≤ 400 from qu4 ▸ jrg_f J sg_125_8_9_1_0_1)
  have eu5 := (show 0 ≤ u5.toInt ∧ u5.toInt ≤ 400 from qu5 ▸ jrg_f J sg_125_9_10_1_0_1)
  have eu6 := (show 0 ≤ u6.toInt ∧ u6.toInt ≤ 3 from qu6 ▸ jrg_f J sg_125_11_12_1_0_1)
  obtain rfl : u5 = u7 := qu5.symm.trans qu7
  obtain rfl : u3 = u8 := qu3.symm.trans qu8
  show jX m_X12_readClause 9 0 0 360 [(0, .ref 125), (2, .int l2), (4, .int l4)] [] _ 0 0 _
  refine x_aloadn (x := 125) rfl rfl ?_
  refine x_dup rfl rfl ?_
  refine z_getM (N := 92) (v := g2) 12 47 rfl f_12_636 rfl J rfl (jmc S2 rfl z2) ?_
  refine x_iconst (v := 1) rfl ki_1 ?_
  refine z_iadd rfl rfl jk_1 (by omega) (fun v10 ev10 => ?_)
  refine z_putI (N := 92) (w := v10.toInt) 12 47 rfl f_12_636 rfl (jfin_no TX12 RX12 92 rfl rfl) hD J Sm rfl rfl rfl (pw_125_47 (by omega)) rfl (fun h w11 J Sm => ?_)
  refine x_vret rfl rfl ?_
  exact hQ _ J Sm _ _ _ (jmo w11 rfl qu3) (jmo w11 rfl qu4) (jmo w11 rfl qu5) (by omega) _ _ _ (jmo w11 rfl qu6) (jmo w11 rfl qu5) (jmo w11 rfl qu3) (by omega) (rk_e (zl_p C0 P9 (jmc S2 rfl rfl) (by omega)) (jmc S2 rfl z2) w11 (by omega))
set_option maxRecDepth 100000 in
set_option maxHeartbeats 4000000 in
theorem ct_X12_readClause_r125_300338 {Dy : jH → Prop} {h0 : jH} {Q : Option Value → jH → Prop} (hD : jDk Dy) (hQ : ∀ hx9, jJ jSgM Dy hx9 → jSm fp_X12_readClause_r125 h0 hx9 → ∀ u0 u1 u2 : Int32, jiv hx9 125 10 = u0 → jiv hx9 125 8 = u1 → jiv hx9 125 9 = u2 → (u0.toInt ≤ u1.toInt ∧ u2.toInt ≤ u0.toInt) → ∀ u3 u4 u5 : Int32, jiv hx9 125 11 = u3 → jiv hx9 125 9 = u4 → jiv hx9 125 10 = u5 → (u3.toInt = 0 ∨ u4.toInt + 1 ≤ u5.toInt) → jRk (jnK hx9) h0 hx9 → Q none hx9) : ∀ (l2 : Int32) (g0 : Int32) (g1 : Int32) (g2 : Int32) (g3 : Int32) (g4 : Int32) (h : jH), 0 ≤ l2.toInt ∧ l2.toInt ≤ 110 → l2.toInt % 10 = 0 → 0 ≤ g0.toInt ∧ g0.toInt ≤ 400 → 1 ≤ g1.toInt ∧ g1.toInt ≤ 1 → 0 ≤ g2.toInt ∧ g2.toInt ≤ 11 → 0 ≤ g3.toInt ∧ g3.toInt ≤ 400 → 0 ≤ g4.toInt ∧ g4.toInt ≤ 400 → jZl h0 l2 h → (g0.toInt ≤ g3.toInt ∧ g4.toInt ≤ g0.toInt) → (g1.toInt = 0 ∨ g4.toInt + 1 ≤ g0.toInt) → jiv h 125 10 = g0 → jiv h 125 11 = g1 → jiv h 125 47 = g2 → jiv h 125 8 = g3 → jiv h 125 9 = g4 → jJ jSgM Dy h → jSm fp_X12_readClause_r125 h0 h → jX m_X12_readClause 9 0 0 338 [(0, .ref 125), (2, .int l2)] [.int 1] h 0 0 Q := by
  intro l2 g0 g1 g2 g3 g4 h y0 y1 y2 y3 y4 y5 y6 C0 y8 y9 z0 z1 z2 z3 z4  J Sm
  refine x_istore (lsx9 := [(4, .int 1), (0, .ref 125), (2, .int l2)]) rfl rfl rfl ?_
  refine x_iload (x := 1) rfl rfl ?_
  refine x_ifeq (tgt := 349) rfl rfl (ti_eq jk_1 jk_0 (br_f (by omega) ?_))
  refine x_aloadn (x := 125) rfl rfl ?_
  refine x_inv (N := m_X12_next) (As := []) (b := 125) (st := []) (dx9 := 2) (mc := 0) (ms := 0) (host := "") 12 rfl t_X12_next ⟨Or.inl q_12_218, i_X12_next.1, i_X12_next.2⟩ ⟨by decide, rfl⟩ (congrArg Prod.fst (J.1.1 125 (12, 92) rfl)) rfl (by decide) rfl rfl ⟨by decide, by decide⟩ (sf_X12_next_r125  hD J z0 z3 (by omega)  (fun h J S1 u2 u3 u4 qu2 qu3 qu4 ru2 u5 u6 u7 qu5 qu6 qu7 ru5 P8 => ?_))
  have Sm := jSm_tr rfl Sm S1
  have eu2 := (show 0 ≤ u2.toInt ∧ u2.toInt ≤ 400 from qu2 ▸ jrg_f J sg_125_10_11_1_0_1)
  have eu3 := (show 0 ≤ u3.toInt ∧ u3.toInt ≤ 400 from qu3 ▸ jrg_f J sg_125_8_9_1_0_1)
  have eu4 := (show 0 ≤ u4.toInt ∧ u4.toInt ≤ 400 from qu4 ▸ jrg_f J sg_125_9_10_1_0_1)
  have eu5 := (show 0 ≤ u5.toInt ∧ u5.toInt ≤ 3 from qu5 ▸ jrg_f J sg_125_11_12_1_0_1)
  obtain rfl : u4 = u6 := qu4.symm.trans qu6
  obtain rfl : u2 = u7 := qu2.symm.trans qu7
  have nfP8 := jnf P8.1 z0 qu4
  show jX m_X12_readClause 9 0 0 349 [(4, .int 1), (0, .ref 125), (2, .int l2)] [] _ 0 0 _
  exact jX.sub (jsb_c rfl (jsb_c rfl (jsb_c rfl jsb_n))) (ct_X12_readClause_r125_349 hD hQ  l2 1 u2 u5 g2 u3 u4 h (jr_of rfl (by omega)) (jr_mod rfl (by omega)) (jr_of jk_1 (by omega)) (jr_of rfl (by omega)) (jr_of rfl (by omega)) (jr_of rfl (by omega)) (jr_of rfl (by omega)) (jr_of rfl (by omega)) (zl_m C0 (ke_f S1 rfl rfl rfl rfl rfl rfl z4 qu4 (by omega))) (by omega) (by omega) qu2 qu5 (jmc S1 rfl z2) qu3 qu4 J Sm)
set_option maxRecDepth 100000 in
set_option maxHeartbeats 4000000 in
theorem ct_X12_readClause_r125_200338 {Dy : jH → Prop} {h0 : jH} {Q : Option Value → jH → Prop} (hD : jDk Dy) (hQ : ∀ hx9, jJ jSgM Dy hx9 → jSm fp_X12_readClause_r125 h0 hx9 → ∀ u0 u1 u2 : Int32, jiv hx9 125 10 = u0 → jiv hx9 125 8 = u1 → jiv hx9 125 9 = u2 → (u0.toInt ≤ u1.toInt ∧ u2.toInt ≤ u0.toInt) → ∀ u3 u4 u5 : Int32, jiv hx9 125 11 = u3 → jiv hx9 125 9 = u4 → jiv hx9 125 10 = u5 → (u3.toInt = 0 ∨ u4.toInt + 1 ≤ u5.toInt) → jRk (jnK hx9) h0 hx9 → Q none hx9) : ∀ (l2 : Int32) (g0 : Int32) (g1 : Int32) (g2 : Int32) (g3 : Int32) (g4 : Int32) (h : jH), 0 ≤ l2.toInt ∧ l2.toInt ≤ 110 → l2.toInt % 10 = 0 → 0 ≤ g0.toInt ∧ g0.toInt ≤ 400 → 0 ≤ g1.toInt ∧ g1.toInt ≤ 3 → 0 ≤ g2.toInt ∧ g2.toInt ≤ 11 → 0 ≤ g3.toInt ∧ g3.toInt ≤ 400 → 0 ≤ g4.toInt ∧ g4.toInt ≤ 400 → jZl h0 l2 h → (g0.toInt ≤ g3.toInt ∧ g4.toInt ≤ g0.toInt) → (g1.toInt = 0 ∨ g4.toInt + 1 ≤ g0.toInt) → jiv h 125 10 = g0 → jiv h 125 11 = g1 → jiv h 125 47 = g2 → jiv h 125 8 = g3 → jiv h 125 9 = g4 → jJ jSgM Dy h → jSm fp_X12_readClause_r125 h0 h → jX m_X12_readClause 9 0 0 338 [(0, .ref 125), (2, .int l2)] [.int 0] h 0 0 Q := by
  intro l2 g0 g1 g2 g3 g4 h y0 y1 y2 y3 y4 y5 y6 C0 y8 y9 z0 z1 z2 z3 z4  J Sm
  refine x_istore (lsx9 := [(4, .int 0), (0, .ref 125), (2, .int l2)]) rfl rfl rfl ?_
  refine x_iload (x := 0) rfl rfl ?_
  refine x_ifeq (tgt := 349) rfl rfl (ti_eq jk_0 jk_0 (br_t (by omega) ?_))
  exact jX.sub (jsb_c rfl (jsb_c rfl (jsb_c rfl jsb_n))) (ct_X12_readClause_r125_349 hD hQ  l2 0 g0 g1 g2 g3 g4 h (jr_of rfl (by omega)) (jr_mod rfl (by omega)) (jr_of jk_0 (by omega)) (jr_of rfl (by omega)) (jr_of rfl (by omega)) (jr_of rfl (by omega)) (jr_of rfl (by omega)) (jr_of rfl (by omega)) C0 (by omega) (by omega) z0 z1 z2 z3 z4 J Sm)
set_option maxRecDepth 100000 in
set_option maxHeartbeats 4000000 in
theorem ct_X12_readClause_r125_337 {Dy : jH → Prop} {h0 : jH} {Q : Option Value → jH → Prop} (hD : jDk Dy) (hQ : ∀ hx9, jJ jSgM Dy hx9 → jSm fp_X12_readClause_r125 h0 hx9 → ∀ u0 u1 u2 : Int32, jiv hx9 125 10 = u0 → jiv hx9 125 8 = u1 → jiv hx9 125 9 = u2 → (u0.toInt ≤ u1.toInt ∧ u2.toInt ≤ u0.toInt) → ∀ u3 u4 u5 : Int32, jiv hx9 125 11 = u3 → jiv hx9 125 9 = u4 → jiv hx9 125 10 = u5 → (u3.toInt = 0 ∨ u4.toInt + 1 ≤ u5.toInt) → jRk (jnK hx9) h0 hx9 → Q none hx9) : ∀ (l2 : Int32) (g0 : Int32) (g1 : Int32) (g2 : Int32) (g3 : Int32) (g4 : Int32) (h : jH), 0 ≤ l2.toInt ∧ l2.toInt ≤ 110 → l2.toInt % 10 = 0 → 0 ≤ g0.toInt ∧ g0.toInt ≤ 400 → 0 ≤ g1.toInt ∧ g1.toInt ≤ 3 → 0 ≤ g2.toInt ∧ g2.toInt ≤ 11 → 0 ≤ g3.toInt ∧ g3.toInt ≤ 400 → 0 ≤ g4.toInt ∧ g4.toInt ≤ 400 → jZl h0 l2 h → (g0.toInt ≤ g3.toInt ∧ g4.toInt ≤ g0.toInt) → (g1.toInt = 0 ∨ g4.toInt + 1 ≤ g0.toInt) → jiv h 125 10 = g0 → jiv h 125 11 = g1 → jiv h 125 47 = g2 → jiv h 125 8 = g3 → jiv h 125 9 = g4 → jJ jSgM Dy h → jSm fp_X12_readClause_r125 h0 h → jX m_X12_readClause 9 0 0 337 [(0, .ref 125), (2, .int l2)] [] h 0 0 Q := by
  intro l2 g0 g1 g2 g3 g4 h y0 y1 y2 y3 y4 y5 y6 C0 y8 y9 z0 z1 z2 z3 z4  J Sm
  refine x_iconst (v := 0) rfl ki_0 ?_
  exact jX.sub (jsb_c rfl (jsb_c rfl jsb_n)) (ct_X12_readClause_r125_200338 hD hQ  l2 g0 g1 g2 g3 g4 h (jr_of rfl (by omega)) (jr_mod rfl (by omega)) (jr_of rfl (by omega)) (jr_of rfl (by omega)) (jr_of rfl (by omega)) (jr_of rfl (by omega)) (jr_of rfl (by omega)) C0 (by omega) (by omega) z0 z1 z2 z3 z4 J Sm)
set_option maxRecDepth 100000 in
set_option maxHeartbeats 4000000 in
theorem ct_X12_readClause_r125_305 {Dy : jH → Prop} {h0 : jH} {Q : Option Value → jH → Prop} (hD : jDk Dy) (hQ : ∀ hx9, jJ jSgM Dy hx9 → jSm fp_X12_readClause_r125 h0 hx9 → ∀ u0 u1 u2 : Int32, jiv hx9 125 10 = u0 → jiv hx9 125 8 = u1 → jiv hx9 125 9 = u2 → (u0.toInt ≤ u1.toInt ∧ u2.toInt ≤ u0.toInt) → ∀ u3 u4 u5 : Int32, jiv hx9 125 11 = u3 → jiv hx9 125 9 = u4 → jiv hx9 125 10 = u5 → (u3.toInt = 0 ∨ u4.toInt + 1 ≤ u5.toInt) → jRk (jnK hx9) h0 hx9 → Q none hx9) : ∀ (l2 : Int32) (l4 : Int32) (g0 : Int32) (g1 : Int32) (g2 : Int32) (g3 : Int32) (g4 : Int32) (h : jH), 0 ≤ l2.toInt ∧ l2.toInt ≤ 110 → l2.toInt % 10 = 0 → 0 ≤ l4.toInt ∧ l4.toInt ≤ 1 → 0 ≤ g0.toInt ∧ g0.toInt ≤ 400 → 0 ≤ g1.toInt ∧ g1.toInt ≤ 3 → 0 ≤ g2.toInt ∧ g2.toInt ≤ 11 → 0 ≤ g3.toInt ∧ g3.toInt ≤ 400 → 0 ≤ g4.toInt ∧ g4.toInt ≤ 400 → jZl h0 l2 h → (g0.toInt ≤ g3.toInt ∧ g4.toInt ≤ g0.toInt) → (g1.toInt = 0 ∨ g4.toInt + 1 ≤ g0.toInt) → jiv h 125 10 = g0 → jiv h 125 11 = g1 → jiv h 125 47 = g2 → jiv h 125 8 = g3 → jiv h 125 9 = g4 → jJ jSgM Dy h → jSm fp_X12_readClause_r125 h0 h → jX m_X12_readClause 9 0 0 305 [(0, .ref 125), (2, .int l2), (4, .int l4)] [] h 0 0 Q := by
  intro l2 l4 g0 g1 g2 g3 g4 h y0 y1 y2 y3 y4 y5 y6 y7 C0 y9 y10 z0 z1 z2 z3 z4  J Sm
  refine x_aloadn (x := 125) rfl rfl ?_
  refine x_iloadn (x := l2) rfl rfl ?_
  refine x_bipush (v := 6) rfl kb_6 ?_
  refine z_iadd rfl rfl jk_6 (by omega) (fun v1 ev1 => ?_)
  refine x_iload (x := l4) rfl rfl ?_
  refine x_iconst (v := 1) rfl ki_1 ?_
  refine x_inv (N := m_X12_readPieces) (As := [.int v1, .int l4, .int 1]) (b := 125) (st := []) (dx9 := 8) (mc := 0) (ms := 0) (host := "") 12 rfl t_X12_readPieces ⟨Or.inl q_12_662, i_X12_readPieces.1, i_X12_readPieces.2⟩ ⟨by decide, rfl⟩ (congrArg Prod.fst (J.1.1 125 (12, 92) rfl)) rfl (by decide) rfl rfl ⟨by decide, by decide⟩ (sf_X12_readPieces_r125 (jr_of rfl (by omega)) (jr_mod rfl (by omega)) (jr_of rfl (by omega)) (jr_of jk_1 (by omega)) (A := jnC h) rfl C0.1.2.1 hD J z0 z3 z4 (by omega) z1 z4 z0 (by omega)  (fun h J S2 u3 u4 u5 qu3 qu4 qu5 ru3 u6 u7 u8 qu6 qu7 qu8 ru6 P9 => ?_))
  have Sm := jSm_tr rfl Sm S2
  have eu3 := (show 0 ≤ u3.toInt ∧ u3.toInt ≤ 400 from qu3 ▸ jrg_f J sg_125_10_11_1_0_1)
  have eu4 := (show 0 ≤ u4.toInt ∧ u4.toInt ≤ 400 from qu4 ▸ jrg_f J sg_125_8_9_1_0_1)
  have eu5 := (show 0 ≤ u5.toInt ∧ u5.toInt ≤ 400 from qu5 ▸ jrg_f J sg_125_9_10_1_0_1)
  have eu6 := (show 0 ≤ u6.toInt ∧ u6.toInt ≤ 3 from qu6 ▸ jrg_f J sg_125_11_12_1_0_1)
  obtain rfl : u5 = u7 := qu5.symm.trans qu7
  obtain rfl : u3 = u8 := qu3.symm.trans qu8
  show jX m_X12_readClause 9 0 0 316 [(0, .ref 125), (2, .int l2), (4, .int l4)] [] _ 0 0 _
  refine x_aloadn (x := 125) rfl rfl ?_
  refine z_getI (N := 92) 12 14 rfl f_12_214 rfl J rfl sg_125_14_15_1_0_1 (fun v10 qv10 ev10 => ?_)
  refine x_ifne (tgt := 337) rfl rfl (ti_ne rfl jk_0 ⟨fun c11 => ?_, fun c11 => ?_⟩)
  ·
    exact jX.sub (jsb_c rfl (jsb_c rfl jsb_n)) (ct_X12_readClause_r125_337 hD hQ  l2 u3 u6 g2 u4 u5 h (jr_of rfl (by omega)) (jr_mod rfl (by omega)) (jr_of rfl (by omega)) (jr_of rfl (by omega)) (jr_of rfl (by omega)) (jr_of rfl (by omega)) (jr_of rfl (by omega)) (zl_p C0 P9 (jmc S2 rfl rfl) (by omega)) (by omega) (by omega) qu3 qu6 (jmc S2 rfl z2) qu4 qu5 J Sm)
  ·
    refine x_aloadn (x := 125) rfl rfl ?_
    refine x_ldc2 (v := 719722099) rfl z_12_668 ?_
    refine x_inv (N := m_X12_isWord) (As := [.long 719722099]) (b := 125) (st := []) (dx9 := 8) (mc := 0) (ms := 0) (host := "") 12 rfl t_X12_isWord ⟨Or.inl q_12_511, i_X12_isWord.1, i_X12_isWord.2⟩ ⟨by decide, rfl⟩ (congrArg Prod.fst (J.1.1 125 (12, 92) rfl)) rfl (by decide) rfl rfl ⟨by decide, by decide⟩ (jC.of rfl k_X12_isWord rfl ?_)
    show jX m_X12_isWord 8 0 0 0 [(0, .ref 125), (1, .long 719722099)] [] _ 0 0 _
    refine x_aloadn (x := 125) rfl rfl ?_
    refine z_getM (N := 92) (v := u6) 12 11 rfl f_12_235 rfl J rfl qu6 ?_
    refine x_iconst (v := 1) rfl ki_1 ?_
    refine x_icne (tgt := 21) rfl rfl (ti_ne rfl jk_1 ⟨fun c12 => ?_, fun c12 => ?_⟩)
    ·
      refine x_iconst (v := 0) rfl ki_0 ?_
      refine x_zret rfl rfl (by decide) ?_
      show jX m_X12_readClause 9 0 0 330 [(0, .ref 125), (2, .int l2), (4, .int l4)] [.int 0] _ 0 0 _
      refine x_ifeq (tgt := 337) rfl rfl (ti_eq jk_0 jk_0 (br_t (by omega) ?_))
      exact jX.sub (jsb_c rfl (jsb_c rfl jsb_n)) (ct_X12_readClause_r125_337 hD hQ  l2 u3 u6 g2 u4 u5 h (jr_of rfl (by omega)) (jr_mod rfl (by omega)) (jr_of rfl (by omega)) (jr_of rfl (by omega)) (jr_of rfl (by omega)) (jr_of rfl (by omega)) (jr_of rfl (by omega)) (zl_p C0 P9 (jmc S2 rfl rfl) (by omega)) (by omega) (by omega) qu3 qu6 (jmc S2 rfl z2) qu4 qu5 J Sm)
    ·
      refine x_aloadn (x := 125) rfl rfl ?_
      refine z_getL0 (N := 92) 12 12 rfl f_12_224 rfl J rfl (fun v13 => ?_)
      have ev13 := jfullL v13
      refine x_lloadn (x := 719722099) rfl rfl ?_
      refine z_lcmp rfl rfl jkl_719722099 (fun v14 ev14 => ?_)
      refine x_ifne (tgt := 21) rfl rfl (ti_ne rfl jk_0 ⟨fun c15 => ?_, fun c15 => ?_⟩)
      ·
        refine x_iconst (v := 0) rfl ki_0 ?_
        refine x_zret rfl rfl (by decide) ?_
        show jX m_X12_readClause 9 0 0 330 [(0, .ref 125), (2, .int l2), (4, .int l4)] [.int 0] _ 0 0 _
        refine x_ifeq (tgt := 337) rfl rfl (ti_eq jk_0 jk_0 (br_t (by omega) ?_))
        exact jX.sub (jsb_c rfl (jsb_c rfl jsb_n)) (ct_X12_readClause_r125_337 hD hQ  l2 u3 u6 g2 u4 u5 h (jr_of rfl (by omega)) (jr_mod rfl (by omega)) (jr_of rfl (by omega)) (jr_of rfl (by omega)) (jr_of rfl (by omega)) (jr_of rfl (by omega)) (jr_of rfl (by omega)) (zl_p C0 P9 (jmc S2 rfl rfl) (by omega)) (by omega) (by omega) qu3 qu6 (jmc S2 rfl z2) qu4 qu5 J Sm)
      ·
        refine x_iconst (v := 1) rfl ki_1 ?_
        refine x_goto (tgt := 22) rfl rfl ?_
        refine x_zret rfl rfl (by decide) ?_
        show jX m_X12_readClause 9 0 0 330 [(0, .ref 125), (2, .int l2), (4, .int l4)] [.int 1] _ 0 0 _
        refine x_ifeq (tgt := 337) rfl rfl (ti_eq jk_1 jk_0 (br_f (by omega) ?_))
        refine x_iconst (v := 1) rfl ki_1 ?_
        refine x_goto (tgt := 338) rfl rfl ?_
        exact jX.sub (jsb_c rfl (jsb_c rfl jsb_n)) (ct_X12_readClause_r125_300338 hD hQ  l2 u3 u6 g2 u4 u5 h (jr_of rfl (by omega)) (jr_mod rfl (by omega)) (jr_of rfl (by omega)) (jr_of rfl (by omega)) (jr_of rfl (by omega)) (jr_of rfl (by omega)) (jr_of rfl (by omega)) (zl_p C0 P9 (jmc S2 rfl rfl) (by omega)) (by omega) (by omega) qu3 qu6 (jmc S2 rfl z2) qu4 qu5 J Sm)
set_option maxRecDepth 100000 in
set_option maxHeartbeats 4000000 in
theorem ct_X12_readClause_r125_300294 {Dy : jH → Prop} {h0 : jH} {Q : Option Value → jH → Prop} (hD : jDk Dy) (hQ : ∀ hx9, jJ jSgM Dy hx9 → jSm fp_X12_readClause_r125 h0 hx9 → ∀ u0 u1 u2 : Int32, jiv hx9 125 10 = u0 → jiv hx9 125 8 = u1 → jiv hx9 125 9 = u2 → (u0.toInt ≤ u1.toInt ∧ u2.toInt ≤ u0.toInt) → ∀ u3 u4 u5 : Int32, jiv hx9 125 11 = u3 → jiv hx9 125 9 = u4 → jiv hx9 125 10 = u5 → (u3.toInt = 0 ∨ u4.toInt + 1 ≤ u5.toInt) → jRk (jnK hx9) h0 hx9 → Q none hx9) : ∀ (l2 : Int32) (g0 : Int32) (g1 : Int32) (g2 : Int32) (g3 : Int32) (g4 : Int32) (h : jH), 0 ≤ l2.toInt ∧ l2.toInt ≤ 110 → l2.toInt % 10 = 0 → 0 ≤ g0.toInt ∧ g0.toInt ≤ 400 → 1 ≤ g1.toInt ∧ g1.toInt ≤ 1 → 0 ≤ g2.toInt ∧ g2.toInt ≤ 11 → 0 ≤ g3.toInt ∧ g3.toInt ≤ 400 → 0 ≤ g4.toInt ∧ g4.toInt ≤ 400 → jZl h0 l2 h → (g0.toInt ≤ g3.toInt ∧ g4.toInt ≤ g0.toInt) → (g1.toInt = 0 ∨ g4.toInt + 1 ≤ g0.toInt) → jiv h 125 10 = g0 → jiv h 125 11 = g1 → jiv h 125 47 = g2 → jiv h 125 8 = g3 → jiv h 125 9 = g4 → jJ jSgM Dy h → jSm fp_X12_readClause_r125 h0 h → jX m_X12_readClause 9 0 0 294 [(0, .ref 125), (2, .int l2)] [.int 1] h 0 0 Q := by
  intro l2 g0 g1 g2 g3 g4 h y0 y1 y2 y3 y4 y5 y6 C0 y8 y9 z0 z1 z2 z3 z4  J Sm
  refine x_istore (lsx9 := [(4, .int 1), (0, .ref 125), (2, .int l2)]) rfl rfl rfl ?_
  refine x_iload (x := 1) rfl rfl ?_
  refine x_ifeq (tgt := 305) rfl rfl (ti_eq jk_1 jk_0 (br_f (by omega) ?_))
  refine x_aloadn (x := 125) rfl rfl ?_
  refine x_inv (N := m_X12_next) (As := []) (b := 125) (st := []) (dx9 := 2) (mc := 0) (ms := 0) (host := "") 12 rfl t_X12_next ⟨Or.inl q_12_218, i_X12_next.1, i_X12_next.2⟩ ⟨by decide, rfl⟩ (congrArg Prod.fst (J.1.1 125 (12, 92) rfl)) rfl (by decide) rfl rfl ⟨by decide, by decide⟩ (sf_X12_next_r125  hD J z0 z3 (by omega)  (fun h J S1 u2 u3 u4 qu2 qu3 qu4 ru2 u5 u6 u7 qu5 qu6 qu7 ru5 P8 => ?_))
  have Sm := jSm_tr rfl Sm S1
  have eu2 := (show 0 ≤ u2.toInt ∧ u2.toInt ≤ 400 from qu2 ▸ jrg_f J sg_125_10_11_1_0_1)
  have eu3 := (show 0 ≤ u3.toInt ∧ u3.toInt ≤ 400 from qu3 ▸ jrg_f J sg_125_8_9_1_0_1)
  have eu4 := (show 0 ≤ u4.toInt ∧ u4.toInt ≤ 400 from qu4 ▸ jrg_f J sg_125_9_10_1_0_1)
  have eu5 := (show 0 ≤ u5.toInt ∧ u5.toInt ≤ 3 from qu5 ▸ jrg_f J sg_125_11_12_1_0_1)
  obtain rfl : u4 = u6 := qu4.symm.trans qu6
  obtain rfl : u2 = u7 := qu2.symm.trans qu7
  have nfP8 := jnf P8.1 z0 qu4
  show jX m_X12_readClause 9 0 0 305 [(4, .int 1), (0, .ref 125), (2, .int l2)] [] _ 0 0 _
  exact jX.sub (jsb_c rfl (jsb_c rfl (jsb_c rfl jsb_n))) (ct_X12_readClause_r125_305 hD hQ  l2 1 u2 u5 g2 u3 u4 h (jr_of rfl (by omega)) (jr_mod rfl (by omega)) (jr_of jk_1 (by omega)) (jr_of rfl (by omega)) (jr_of rfl (by omega)) (jr_of rfl (by omega)) (jr_of rfl (by omega)) (jr_of rfl (by omega)) (zl_m C0 (ke_f S1 rfl rfl rfl rfl rfl rfl z4 qu4 (by omega))) (by omega) (by omega) qu2 qu5 (jmc S1 rfl z2) qu3 qu4 J Sm)
set_option maxRecDepth 100000 in
set_option maxHeartbeats 4000000 in
theorem ct_X12_readClause_r125_200294 {Dy : jH → Prop} {h0 : jH} {Q : Option Value → jH → Prop} (hD : jDk Dy) (hQ : ∀ hx9, jJ jSgM Dy hx9 → jSm fp_X12_readClause_r125 h0 hx9 → ∀ u0 u1 u2 : Int32, jiv hx9 125 10 = u0 → jiv hx9 125 8 = u1 → jiv hx9 125 9 = u2 → (u0.toInt ≤ u1.toInt ∧ u2.toInt ≤ u0.toInt) → ∀ u3 u4 u5 : Int32, jiv hx9 125 11 = u3 → jiv hx9 125 9 = u4 → jiv hx9 125 10 = u5 → (u3.toInt = 0 ∨ u4.toInt + 1 ≤ u5.toInt) → jRk (jnK hx9) h0 hx9 → Q none hx9) : ∀ (l2 : Int32) (g0 : Int32) (g1 : Int32) (g2 : Int32) (g3 : Int32) (g4 : Int32) (h : jH), 0 ≤ l2.toInt ∧ l2.toInt ≤ 110 → l2.toInt % 10 = 0 → 0 ≤ g0.toInt ∧ g0.toInt ≤ 400 → 0 ≤ g1.toInt ∧ g1.toInt ≤ 3 → 0 ≤ g2.toInt ∧ g2.toInt ≤ 11 → 0 ≤ g3.toInt ∧ g3.toInt ≤ 400 → 0 ≤ g4.toInt ∧ g4.toInt ≤ 400 → jZl h0 l2 h → (g0.toInt ≤ g3.toInt ∧ g4.toInt ≤ g0.toInt) → (g1.toInt = 0 ∨ g4.toInt + 1 ≤ g0.toInt) → jiv h 125 10 = g0 → jiv h 125 11 = g1 → jiv h 125 47 = g2 → jiv h 125 8 = g3 → jiv h 125 9 = g4 → jJ jSgM Dy h → jSm fp_X12_readClause_r125 h0 h → jX m_X12_readClause 9 0 0 294 [(0, .ref 125), (2, .int l2)] [.int 0] h 0 0 Q := by
  intro l2 g0 g1 g2 g3 g4 h y0 y1 y2 y3 y4 y5 y6 C0 y8 y9 z0 z1 z2 z3 z4  J Sm
  refine x_istore (lsx9 := [(4, .int 0), (0, .ref 125), (2, .int l2)]) rfl rfl rfl ?_
  refine x_iload (x := 0) rfl rfl ?_
  refine x_ifeq (tgt := 305) rfl rfl (ti_eq jk_0 jk_0 (br_t (by omega) ?_))
  exact jX.sub (jsb_c rfl (jsb_c rfl (jsb_c rfl jsb_n))) (ct_X12_readClause_r125_305 hD hQ  l2 0 g0 g1 g2 g3 g4 h (jr_of rfl (by omega)) (jr_mod rfl (by omega)) (jr_of jk_0 (by omega)) (jr_of rfl (by omega)) (jr_of rfl (by omega)) (jr_of rfl (by omega)) (jr_of rfl (by omega)) (jr_of rfl (by omega)) C0 (by omega) (by omega) z0 z1 z2 z3 z4 J Sm)
set_option maxRecDepth 100000 in
set_option maxHeartbeats 4000000 in
theorem ct_X12_readClause_r125_293 {Dy : jH → Prop} {h0 : jH} {Q : Option Value → jH → Prop} (hD : jDk Dy) (hQ : ∀ hx9, jJ jSgM Dy hx9 → jSm fp_X12_readClause_r125 h0 hx9 → ∀ u0 u1 u2 : Int32, jiv hx9 125 10 = u0 → jiv hx9 125 8 = u1 → jiv hx9 125 9 = u2 → (u0.toInt ≤ u1.toInt ∧ u2.toInt ≤ u0.toInt) → ∀ u3 u4 u5 : Int32, jiv hx9 125 11 = u3 → jiv hx9 125 9 = u4 → jiv hx9 125 10 = u5 → (u3.toInt = 0 ∨ u4.toInt + 1 ≤ u5.toInt) → jRk (jnK hx9) h0 hx9 → Q none hx9) : ∀ (l2 : Int32) (g0 : Int32) (g1 : Int32) (g2 : Int32) (g3 : Int32) (g4 : Int32) (h : jH), 0 ≤ l2.toInt ∧ l2.toInt ≤ 110 → l2.toInt % 10 = 0 → 0 ≤ g0.toInt ∧ g0.toInt ≤ 400 → 0 ≤ g1.toInt ∧ g1.toInt ≤ 3 → 0 ≤ g2.toInt ∧ g2.toInt ≤ 11 → 0 ≤ g3.toInt ∧ g3.toInt ≤ 400 → 0 ≤ g4.toInt ∧ g4.toInt ≤ 400 → jZl h0 l2 h → (g0.toInt ≤ g3.toInt ∧ g4.toInt ≤ g0.toInt) → (g1.toInt = 0 ∨ g4.toInt + 1 ≤ g0.toInt) → jiv h 125 10 = g0 → jiv h 125 11 = g1 → jiv h 125 47 = g2 → jiv h 125 8 = g3 → jiv h 125 9 = g4 → jJ jSgM Dy h → jSm fp_X12_readClause_r125 h0 h → jX m_X12_readClause 9 0 0 293 [(0, .ref 125), (2, .int l2)] [] h 0 0 Q := by
  intro l2 g0 g1 g2 g3 g4 h y0 y1 y2 y3 y4 y5 y6 C0 y8 y9 z0 z1 z2 z3 z4  J Sm
  refine x_iconst (v := 0) rfl ki_0 ?_
  exact jX.sub (jsb_c rfl (jsb_c rfl jsb_n)) (ct_X12_readClause_r125_200294 hD hQ  l2 g0 g1 g2 g3 g4 h (jr_of rfl (by omega)) (jr_mod rfl (by omega)) (jr_of rfl (by omega)) (jr_of rfl (by omega)) (jr_of rfl (by omega)) (jr_of rfl (by omega)) (jr_of rfl (by omega)) C0 (by omega) (by omega) z0 z1 z2 z3 z4 J Sm)
set_option maxRecDepth 100000 in
set_option maxHeartbeats 4000000 in
theorem ct_X12_readClause_r125_200262 {Dy : jH → Prop} {h0 : jH} {Q : Option Value → jH → Prop} (hD : jDk Dy) (hQ : ∀ hx9, jJ jSgM Dy hx9 → jSm fp_X12_readClause_r125 h0 hx9 → ∀ u0 u1 u2 : Int32, jiv hx9 125 10 = u0 → jiv hx9 125 8 = u1 → jiv hx9 125 9 = u2 → (u0.toInt ≤ u1.toInt ∧ u2.toInt ≤ u0.toInt) → ∀ u3 u4 u5 : Int32, jiv hx9 125 11 = u3 → jiv hx9 125 9 = u4 → jiv hx9 125 10 = u5 → (u3.toInt = 0 ∨ u4.toInt + 1 ≤ u5.toInt) → jRk (jnK hx9) h0 hx9 → Q none hx9) : ∀ (l2 : Int32) (g0 : Int32) (g1 : Int32) (g2 : Int32) (g3 : Int32) (g4 : Int32) (h : jH), 0 ≤ l2.toInt ∧ l2.toInt ≤ 110 → l2.toInt % 10 = 0 → 0 ≤ g0.toInt ∧ g0.toInt ≤ 400 → 0 ≤ g1.toInt ∧ g1.toInt ≤ 3 → 0 ≤ g2.toInt ∧ g2.toInt ≤ 11 → 0 ≤ g3.toInt ∧ g3.toInt ≤ 400 → 0 ≤ g4.toInt ∧ g4.toInt ≤ 400 → jZl h0 l2 h → (g0.toInt ≤ g3.toInt ∧ g4.toInt ≤ g0.toInt) → (g1.toInt = 0 ∨ g4.toInt + 1 ≤ g0.toInt) → jiv h 125 10 = g0 → jiv h 125 11 = g1 → jiv h 125 47 = g2 → jiv h 125 8 = g3 → jiv h 125 9 = g4 → jJ jSgM Dy h → jSm fp_X12_readClause_r125 h0 h → jX m_X12_readClause 9 0 0 262 [(0, .ref 125), (2, .int l2)] [.int 0] h 0 0 Q := by
  intro l2 g0 g1 g2 g3 g4 h y0 y1 y2 y3 y4 y5 y6 C0 y8 y9 z0 z1 z2 z3 z4  J Sm
  refine x_istoren (lsx9 := [(3, .int 0), (0, .ref 125), (2, .int l2)]) rfl rfl rfl ?_
  refine x_aloadn (x := 125) rfl rfl ?_
  refine x_iloadn (x := l2) rfl rfl ?_
  refine x_iconst (v := 4) rfl ki_4 ?_
  refine z_iadd rfl rfl jk_4 (by omega) (fun v1 ev1 => ?_)
  refine x_iloadn (x := 0) rfl rfl ?_
  refine x_iconst (v := 0) rfl ki_0 ?_
  refine x_inv (N := m_X12_readPieces) (As := [.int v1, .int 0, .int 0]) (b := 125) (st := []) (dx9 := 8) (mc := 0) (ms := 0) (host := "") 12 rfl t_X12_readPieces ⟨Or.inl q_12_662, i_X12_readPieces.1, i_X12_readPieces.2⟩ ⟨by decide, rfl⟩ (congrArg Prod.fst (J.1.1 125 (12, 92) rfl)) rfl (by decide) rfl rfl ⟨by decide, by decide⟩ (sf_X12_readPieces_r125 (jr_of rfl (by omega)) (jr_mod rfl (by omega)) (jr_of jk_0 (by omega)) (jr_of jk_0 (by omega)) (A := jnC h) rfl C0.1.2.1 hD J z0 z3 z4 (by omega) z1 z4 z0 (by omega)  (fun h J S2 u3 u4 u5 qu3 qu4 qu5 ru3 u6 u7 u8 qu6 qu7 qu8 ru6 P9 => ?_))
  have Sm := jSm_tr rfl Sm S2
  have eu3 := (show 0 ≤ u3.toInt ∧ u3.toInt ≤ 400 from qu3 ▸ jrg_f J sg_125_10_11_1_0_1)
  have eu4 := (show 0 ≤ u4.toInt ∧ u4.toInt ≤ 400 from qu4 ▸ jrg_f J sg_125_8_9_1_0_1)
  have eu5 := (show 0 ≤ u5.toInt ∧ u5.toInt ≤ 400 from qu5 ▸ jrg_f J sg_125_9_10_1_0_1)
  have eu6 := (show 0 ≤ u6.toInt ∧ u6.toInt ≤ 3 from qu6 ▸ jrg_f J sg_125_11_12_1_0_1)
  obtain rfl : u5 = u7 := qu5.symm.trans qu7
  obtain rfl : u3 = u8 := qu3.symm.trans qu8
  show jX m_X12_readClause 9 0 0 272 [(3, .int 0), (0, .ref 125), (2, .int l2)] [] _ 0 0 _
  refine x_aloadn (x := 125) rfl rfl ?_
  refine z_getI (N := 92) 12 14 rfl f_12_214 rfl J rfl sg_125_14_15_1_0_1 (fun v10 qv10 ev10 => ?_)
  refine x_ifne (tgt := 293) rfl rfl (ti_ne rfl jk_0 ⟨fun c11 => ?_, fun c11 => ?_⟩)
  ·
    exact jX.sub (jsb_c rfl (jsb_c rfl jsb_n)) (ct_X12_readClause_r125_293 hD hQ  l2 u3 u6 g2 u4 u5 h (jr_of rfl (by omega)) (jr_mod rfl (by omega)) (jr_of rfl (by omega)) (jr_of rfl (by omega)) (jr_of rfl (by omega)) (jr_of rfl (by omega)) (jr_of rfl (by omega)) (zl_p C0 P9 (jmc S2 rfl rfl) (by omega)) (by omega) (by omega) qu3 qu6 (jmc S2 rfl z2) qu4 qu5 J Sm)
  ·
    refine x_aloadn (x := 125) rfl rfl ?_
    refine x_ldc2 (v := 294) rfl z_12_666 ?_
    refine x_inv (N := m_X12_isWord) (As := [.long 294]) (b := 125) (st := []) (dx9 := 8) (mc := 0) (ms := 0) (host := "") 12 rfl t_X12_isWord ⟨Or.inl q_12_511, i_X12_isWord.1, i_X12_isWord.2⟩ ⟨by decide, rfl⟩ (congrArg Prod.fst (J.1.1 125 (12, 92) rfl)) rfl (by decide) rfl rfl ⟨by decide, by decide⟩ (jC.of rfl k_X12_isWord rfl ?_)
    show jX m_X12_isWord 8 0 0 0 [(0, .ref 125), (1, .long 294)] [] _ 0 0 _
    refine x_aloadn (x := 125) rfl rfl ?_
    refine z_getM (N := 92) (v := u6) 12 11 rfl f_12_235 rfl J rfl qu6 ?_
    refine x_iconst (v := 1) rfl ki_1 ?_
    refine x_icne (tgt := 21) rfl rfl (ti_ne rfl jk_1 ⟨fun c12 => ?_, fun c12 => ?_⟩)
    ·
      refine x_iconst (v := 0) rfl ki_0 ?_
      refine x_zret rfl rfl (by decide) ?_
      show jX m_X12_readClause 9 0 0 286 [(3, .int 0), (0, .ref 125), (2, .int l2)] [.int 0] _ 0 0 _
      refine x_ifeq (tgt := 293) rfl rfl (ti_eq jk_0 jk_0 (br_t (by omega) ?_))
      exact jX.sub (jsb_c rfl (jsb_c rfl jsb_n)) (ct_X12_readClause_r125_293 hD hQ  l2 u3 u6 g2 u4 u5 h (jr_of rfl (by omega)) (jr_mod rfl (by omega)) (jr_of rfl (by omega)) (jr_of rfl (by omega)) (jr_of rfl (by omega)) (jr_of rfl (by omega)) (jr_of rfl (by omega)) (zl_p C0 P9 (jmc S2 rfl rfl) (by omega)) (by omega) (by omega) qu3 qu6 (jmc S2 rfl z2) qu4 qu5 J Sm)
    ·
      refine x_aloadn (x := 125) rfl rfl ?_
      refine z_getL0 (N := 92) 12 12 rfl f_12_224 rfl J rfl (fun v13 => ?_)
      have ev13 := jfullL v13
      refine x_lloadn (x := 294) rfl rfl ?_
      refine z_lcmp rfl rfl jkl_294 (fun v14 ev14 => ?_)
      refine x_ifne (tgt := 21) rfl rfl (ti_ne rfl jk_0 ⟨fun c15 => ?_, fun c15 => ?_⟩)
      ·
        refine x_iconst (v := 0) rfl ki_0 ?_
        refine x_zret rfl rfl (by decide) ?_
        show jX m_X12_readClause 9 0 0 286 [(3, .int 0), (0, .ref 125), (2, .int l2)] [.int 0] _ 0 0 _
        refine x_ifeq (tgt := 293) rfl rfl (ti_eq jk_0 jk_0 (br_t (by omega) ?_))
        exact jX.sub (jsb_c rfl (jsb_c rfl jsb_n)) (ct_X12_readClause_r125_293 hD hQ  l2 u3 u6 g2 u4 u5 h (jr_of rfl (by omega)) (jr_mod rfl (by omega)) (jr_of rfl (by omega)) (jr_of rfl (by omega)) (jr_of rfl (by omega)) (jr_of rfl (by omega)) (jr_of rfl (by omega)) (zl_p C0 P9 (jmc S2 rfl rfl) (by omega)) (by omega) (by omega) qu3 qu6 (jmc S2 rfl z2) qu4 qu5 J Sm)
      ·
        refine x_iconst (v := 1) rfl ki_1 ?_
        refine x_goto (tgt := 22) rfl rfl ?_
        refine x_zret rfl rfl (by decide) ?_
        show jX m_X12_readClause 9 0 0 286 [(3, .int 0), (0, .ref 125), (2, .int l2)] [.int 1] _ 0 0 _
        refine x_ifeq (tgt := 293) rfl rfl (ti_eq jk_1 jk_0 (br_f (by omega) ?_))
        refine x_iconst (v := 1) rfl ki_1 ?_
        refine x_goto (tgt := 294) rfl rfl ?_
        exact jX.sub (jsb_c rfl (jsb_c rfl jsb_n)) (ct_X12_readClause_r125_300294 hD hQ  l2 u3 u6 g2 u4 u5 h (jr_of rfl (by omega)) (jr_mod rfl (by omega)) (jr_of rfl (by omega)) (jr_of rfl (by omega)) (jr_of rfl (by omega)) (jr_of rfl (by omega)) (jr_of rfl (by omega)) (zl_p C0 P9 (jmc S2 rfl rfl) (by omega)) (by omega) (by omega) qu3 qu6 (jmc S2 rfl z2) qu4 qu5 J Sm)
set_option maxRecDepth 100000 in
set_option maxHeartbeats 4000000 in
theorem ct_X12_readClause_r125_300262 {Dy : jH → Prop} {h0 : jH} {Q : Option Value → jH → Prop} (hD : jDk Dy) (hQ : ∀ hx9, jJ jSgM Dy hx9 → jSm fp_X12_readClause_r125 h0 hx9 → ∀ u0 u1 u2 : Int32, jiv hx9 125 10 = u0 → jiv hx9 125 8 = u1 → jiv hx9 125 9 = u2 → (u0.toInt ≤ u1.toInt ∧ u2.toInt ≤ u0.toInt) → ∀ u3 u4 u5 : Int32, jiv hx9 125 11 = u3 → jiv hx9 125 9 = u4 → jiv hx9 125 10 = u5 → (u3.toInt = 0 ∨ u4.toInt + 1 ≤ u5.toInt) → jRk (jnK hx9) h0 hx9 → Q none hx9) : ∀ (l2 : Int32) (g0 : Int32) (g1 : Int32) (g2 : Int32) (g3 : Int32) (g4 : Int32) (h : jH), 0 ≤ l2.toInt ∧ l2.toInt ≤ 110 → l2.toInt % 10 = 0 → 0 ≤ g0.toInt ∧ g0.toInt ≤ 400 → 0 ≤ g1.toInt ∧ g1.toInt ≤ 3 → 0 ≤ g2.toInt ∧ g2.toInt ≤ 11 → 0 ≤ g3.toInt ∧ g3.toInt ≤ 400 → 0 ≤ g4.toInt ∧ g4.toInt ≤ 400 → jZl h0 l2 h → (g0.toInt ≤ g3.toInt ∧ g4.toInt ≤ g0.toInt) → (g1.toInt = 0 ∨ g4.toInt + 1 ≤ g0.toInt) → jiv h 125 10 = g0 → jiv h 125 11 = g1 → jiv h 125 47 = g2 → jiv h 125 8 = g3 → jiv h 125 9 = g4 → jJ jSgM Dy h → jSm fp_X12_readClause_r125 h0 h → jX m_X12_readClause 9 0 0 262 [(0, .ref 125), (2, .int l2)] [.int 1] h 0 0 Q := by
  intro l2 g0 g1 g2 g3 g4 h y0 y1 y2 y3 y4 y5 y6 C0 y8 y9 z0 z1 z2 z3 z4  J Sm
  refine x_istoren (lsx9 := [(3, .int 1), (0, .ref 125), (2, .int l2)]) rfl rfl rfl ?_
  refine x_aloadn (x := 125) rfl rfl ?_
  refine x_iloadn (x := l2) rfl rfl ?_
  refine x_iconst (v := 4) rfl ki_4 ?_
  refine z_iadd rfl rfl jk_4 (by omega) (fun v1 ev1 => ?_)
  refine x_iloadn (x := 1) rfl rfl ?_
  refine x_iconst (v := 0) rfl ki_0 ?_
  refine x_inv (N := m_X12_readPieces) (As := [.int v1, .int 1, .int 0]) (b := 125) (st := []) (dx9 := 8) (mc := 0) (ms := 0) (host := "") 12 rfl t_X12_readPieces ⟨Or.inl q_12_662, i_X12_readPieces.1, i_X12_readPieces.2⟩ ⟨by decide, rfl⟩ (congrArg Prod.fst (J.1.1 125 (12, 92) rfl)) rfl (by decide) rfl rfl ⟨by decide, by decide⟩ (sf_X12_readPieces_r125 (jr_of rfl (by omega)) (jr_mod rfl (by omega)) (jr_of jk_1 (by omega)) (jr_of jk_0 (by omega)) (A := jnC h) rfl C0.1.2.1 hD J z0 z3 z4 (by omega) z1 z4 z0 (by omega)  (fun h J S2 u3 u4 u5 qu3 qu4 qu5 ru3 u6 u7 u8 qu6 qu7 qu8 ru6 P9 => ?_))
  have Sm := jSm_tr rfl Sm S2
  have eu3 := (show 0 ≤ u3.toInt ∧ u3.toInt ≤ 400 from qu3 ▸ jrg_f J sg_125_10_11_1_0_1)
  have eu4 := (show 0 ≤ u4.toInt ∧ u4.toInt ≤ 400 from qu4 ▸ jrg_f J sg_125_8_9_1_0_1)
  have eu5 := (show 0 ≤ u5.toInt ∧ u5.toInt ≤ 400 from qu5 ▸ jrg_f J sg_125_9_10_1_0_1)
  have eu6 := (show 0 ≤ u6.toInt ∧ u6.toInt ≤ 3 from qu6 ▸ jrg_f J sg_125_11_12_1_0_1)
  obtain rfl : u5 = u7 := qu5.symm.trans qu7
  obtain rfl : u3 = u8 := qu3.symm.trans qu8
  show jX m_X12_readClause 9 0 0 272 [(3, .int 1), (0, .ref 125), (2, .int l2)] [] _ 0 0 _
  refine x_aloadn (x := 125) rfl rfl ?_
  refine z_getI (N := 92) 12 14 rfl f_12_214 rfl J rfl sg_125_14_15_1_0_1 (fun v10 qv10 ev10 => ?_)
  refine x_ifne (tgt := 293) rfl rfl (ti_ne rfl jk_0 ⟨fun c11 => ?_, fun c11 => ?_⟩)
  ·
    exact jX.sub (jsb_c rfl (jsb_c rfl jsb_n)) (ct_X12_readClause_r125_293 hD hQ  l2 u3 u6 g2 u4 u5 h (jr_of rfl (by omega)) (jr_mod rfl (by omega)) (jr_of rfl (by omega)) (jr_of rfl (by omega)) (jr_of rfl (by omega)) (jr_of rfl (by omega)) (jr_of rfl (by omega)) (zl_p C0 P9 (jmc S2 rfl rfl) (by omega)) (by omega) (by omega) qu3 qu6 (jmc S2 rfl z2) qu4 qu5 J Sm)
  ·
    refine x_aloadn (x := 125) rfl rfl ?_
    refine x_ldc2 (v := 294) rfl z_12_666 ?_
    refine x_inv (N := m_X12_isWord) (As := [.long 294]) (b := 125) (st := []) (dx9 := 8) (mc := 0) (ms := 0) (host := "") 12 rfl t_X12_isWord ⟨Or.inl q_12_511, i_X12_isWord.1, i_X12_isWord.2⟩ ⟨by decide, rfl⟩ (congrArg Prod.fst (J.1.1 125 (12, 92) rfl)) rfl (by decide) rfl rfl ⟨by decide, by decide⟩ (jC.of rfl k_X12_isWord rfl ?_)
    show jX m_X12_isWord 8 0 0 0 [(0, .ref 125), (1, .long 294)] [] _ 0 0 _
    refine x_aloadn (x := 125) rfl rfl ?_
    refine z_getM (N := 92) (v := u6) 12 11 rfl f_12_235 rfl J rfl qu6 ?_
    refine x_iconst (v := 1) rfl ki_1 ?_
    refine x_icne (tgt := 21) rfl rfl (ti_ne rfl jk_1 ⟨fun c12 => ?_, fun c12 => ?_⟩)
    ·
      refine x_iconst (v := 0) rfl ki_0 ?_
      refine x_zret rfl rfl (by decide) ?_
      show jX m_X12_readClause 9 0 0 286 [(3, .int 1), (0, .ref 125), (2, .int l2)] [.int 0] _ 0 0 _
      refine x_ifeq (tgt := 293) rfl rfl (ti_eq jk_0 jk_0 (br_t (by omega) ?_))
      exact jX.sub (jsb_c rfl (jsb_c rfl jsb_n)) (ct_X12_readClause_r125_293 hD hQ  l2 u3 u6 g2 u4 u5 h (jr_of rfl (by omega)) (jr_mod rfl (by omega)) (jr_of rfl (by omega)) (jr_of rfl (by omega)) (jr_of rfl (by omega)) (jr_of rfl (by omega)) (jr_of rfl (by omega)) (zl_p C0 P9 (jmc S2 rfl rfl) (by omega)) (by omega) (by omega) qu3 qu6 (jmc S2 rfl z2) qu4 qu5 J Sm)
    ·
      refine x_aloadn (x := 125) rfl rfl ?_
      refine z_getL0 (N := 92) 12 12 rfl f_12_224 rfl J rfl (fun v13 => ?_)
      have ev13 := jfullL v13
      refine x_lloadn (x := 294) rfl rfl ?_
      refine z_lcmp rfl rfl jkl_294 (fun v14 ev14 => ?_)
      refine x_ifne (tgt := 21) rfl rfl (ti_ne rfl jk_0 ⟨fun c15 => ?_, fun c15 => ?_⟩)
      ·
        refine x_iconst (v := 0) rfl ki_0 ?_
        refine x_zret rfl rfl (by decide) ?_
        show jX m_X12_readClause 9 0 0 286 [(3, .int 1), (0, .ref 125), (2, .int l2)] [.int 0] _ 0 0 _
        refine x_ifeq (tgt := 293) rfl rfl (ti_eq jk_0 jk_0 (br_t (by omega) ?_))
        exact jX.sub (jsb_c rfl (jsb_c rfl jsb_n)) (ct_X12_readClause_r125_293 hD hQ  l2 u3 u6 g2 u4 u5 h (jr_of rfl (by omega)) (jr_mod rfl (by omega)) (jr_of rfl (by omega)) (jr_of rfl (by omega)) (jr_of rfl (by omega)) (jr_of rfl (by omega)) (jr_of rfl (by omega)) (zl_p C0 P9 (jmc S2 rfl rfl) (by omega)) (by omega) (by omega) qu3 qu6 (jmc S2 rfl z2) qu4 qu5 J Sm)
      ·
        refine x_iconst (v := 1) rfl ki_1 ?_
        refine x_goto (tgt := 22) rfl rfl ?_
        refine x_zret rfl rfl (by decide) ?_
        show jX m_X12_readClause 9 0 0 286 [(3, .int 1), (0, .ref 125), (2, .int l2)] [.int 1] _ 0 0 _
        refine x_ifeq (tgt := 293) rfl rfl (ti_eq jk_1 jk_0 (br_f (by omega) ?_))
        refine x_iconst (v := 1) rfl ki_1 ?_
        refine x_goto (tgt := 294) rfl rfl ?_
        exact jX.sub (jsb_c rfl (jsb_c rfl jsb_n)) (ct_X12_readClause_r125_300294 hD hQ  l2 u3 u6 g2 u4 u5 h (jr_of rfl (by omega)) (jr_mod rfl (by omega)) (jr_of rfl (by omega)) (jr_of rfl (by omega)) (jr_of rfl (by omega)) (jr_of rfl (by omega)) (jr_of rfl (by omega)) (zl_p C0 P9 (jmc S2 rfl rfl) (by omega)) (by omega) (by omega) qu3 qu6 (jmc S2 rfl z2) qu4 qu5 J Sm)
set_option maxRecDepth 100000 in
set_option maxHeartbeats 4000000 in
theorem ct_X12_readClause_r125_257 {Dy : jH → Prop} {h0 : jH} {Q : Option Value → jH → Prop} (hD : jDk Dy) (hQ : ∀ hx9, jJ jSgM Dy hx9 → jSm fp_X12_readClause_r125 h0 hx9 → ∀ u0 u1 u2 : Int32, jiv hx9 125 10 = u0 → jiv hx9 125 8 = u1 → jiv hx9 125 9 = u2 → (u0.toInt ≤ u1.toInt ∧ u2.toInt ≤ u0.toInt) → ∀ u3 u4 u5 : Int32, jiv hx9 125 11 = u3 → jiv hx9 125 9 = u4 → jiv hx9 125 10 = u5 → (u3.toInt = 0 ∨ u4.toInt + 1 ≤ u5.toInt) → jRk (jnK hx9) h0 hx9 → Q none hx9) : ∀ (l2 : Int32) (g0 : Int32) (g1 : Int32) (g2 : Int32) (g3 : Int32) (g4 : Int32) (h : jH), 0 ≤ l2.toInt ∧ l2.toInt ≤ 110 → l2.toInt % 10 = 0 → 0 ≤ g0.toInt ∧ g0.toInt ≤ 400 → 0 ≤ g1.toInt ∧ g1.toInt ≤ 3 → 0 ≤ g2.toInt ∧ g2.toInt ≤ 11 → 0 ≤ g3.toInt ∧ g3.toInt ≤ 400 → 0 ≤ g4.toInt ∧ g4.toInt ≤ 400 → jZl h0 l2 h → (g0.toInt ≤ g3.toInt ∧ g4.toInt ≤ g0.toInt) → (g1.toInt = 0 ∨ g4.toInt + 1 ≤ g0.toInt) → jiv h 125 10 = g0 → jiv h 125 11 = g1 → jiv h 125 47 = g2 → jiv h 125 8 = g3 → jiv h 125 9 = g4 → jJ jSgM Dy h → jSm fp_X12_readClause_r125 h0 h → jX m_X12_readClause 9 0 0 257 [(0, .ref 125), (2, .int l2)] [] h 0 0 Q := by
  intro l2 g0 g1 g2 g3 g4 h y0 y1 y2 y3 y4 y5 y6 C0 y8 y9 z0 z1 z2 z3 z4  J Sm
  refine x_iconst (v := 1) rfl ki_1 ?_
  refine x_goto (tgt := 262) rfl rfl ?_
  exact jX.sub (jsb_c rfl (jsb_c rfl jsb_n)) (ct_X12_readClause_r125_300262 hD hQ  l2 g0 g1 g2 g3 g4 h (jr_of rfl (by omega)) (jr_mod rfl (by omega)) (jr_of rfl (by omega)) (jr_of rfl (by omega)) (jr_of rfl (by omega)) (jr_of rfl (by omega)) (jr_of rfl (by omega)) C0 (by omega) (by omega) z0 z1 z2 z3 z4 J Sm)
set_option maxRecDepth 100000 in
set_option maxHeartbeats 4000000 in
theorem ct_X12_readClause_r125_200234 {Dy : jH → Prop} {h0 : jH} {Q : Option Value → jH → Prop} (hD : jDk Dy) (hQ : ∀ hx9, jJ jSgM Dy hx9 → jSm fp_X12_readClause_r125 h0 hx9 → ∀ u0 u1 u2 : Int32, jiv hx9 125 10 = u0 → jiv hx9 125 8 = u1 → jiv hx9 125 9 = u2 → (u0.toInt ≤ u1.toInt ∧ u2.toInt ≤ u0.toInt) → ∀ u3 u4 u5 : Int32, jiv hx9 125 11 = u3 → jiv hx9 125 9 = u4 → jiv hx9 125 10 = u5 → (u3.toInt = 0 ∨ u4.toInt + 1 ≤ u5.toInt) → jRk (jnK hx9) h0 hx9 → Q none hx9) : ∀ (l1 : Int32) (l2 : Int32) (s1 : Int32) (g0 : Int32) (g1 : Int32) (g2 : Int32) (g3 : Int32) (g4 : Int32) (h : jH), 1 ≤ l1.toInt ∧ l1.toInt ≤ 8 → 0 ≤ l2.toInt ∧ l2.toInt ≤ 110 → l2.toInt % 10 = 0 → 2 ≤ s1.toInt ∧ s1.toInt ≤ 112 → s1.toInt % 10 = 2 → 0 ≤ g0.toInt ∧ g0.toInt ≤ 400 → 0 ≤ g1.toInt ∧ g1.toInt ≤ 3 → 0 ≤ g2.toInt ∧ g2.toInt ≤ 11 → 0 ≤ g3.toInt ∧ g3.toInt ≤ 400 → 0 ≤ g4.toInt ∧ g4.toInt ≤ 400 → l1.toInt ≠ 0 → jZy h0 l2 h → s1.toInt = l2.toInt + 2 → (g0.toInt ≤ g3.toInt ∧ g4.toInt ≤ g0.toInt) → (g1.toInt = 0 ∨ g4.toInt + 1 ≤ g0.toInt) → jiv h 125 10 = g0 → jiv h 125 11 = g1 → jiv h 125 47 = g2 → jiv h 125 8 = g3 → jiv h 125 9 = g4 → jJ jSgM Dy h → jSm fp_X12_readClause_r125 h0 h → jX m_X12_readClause 9 0 0 234 [(0, .ref 125), (1, .int l1), (2, .int l2)] [.int 0, .int s1, .ref 147] h 0 0 Q := by
  intro l1 l2 s1 g0 g1 g2 g3 g4 h y0 y1 y2 y3 y4 y5 y6 y7 y8 y9 y10 C0 y12 y13 y14 z0 z1 z2 z3 z4  J Sm
  refine z_iast (N := 120) (l := 0) (u := 120) (w := 0) rfl hD J Sm rfl rfl rfl (by omega) jk_0 (wr_147) rfl (fun h w1 J Sm => ?_)
  refine x_iloadn (x := l1) rfl rfl ?_
  refine x_iconst (v := 3) rfl ki_3 ?_
  refine x_iceq (tgt := 257) rfl rfl (ti_eq rfl jk_3 ⟨fun c2 => ?_, fun c2 => ?_⟩)
  ·
    exact jX.sub (jsb_c rfl (jsb_c rfl jsb_n)) (ct_X12_readClause_r125_257 hD hQ  l2 g0 g1 g2 g3 g4 h (jr_of rfl (by omega)) (jr_mod rfl (by omega)) (jr_of rfl (by omega)) (jr_of rfl (by omega)) (jr_of rfl (by omega)) (jr_of rfl (by omega)) (jr_of rfl (by omega)) (zl_0 C0 (by omega) w1 (Or.inr (by decide))) (by omega) (by omega) (jmo w1 rfl z0) (jmo w1 rfl z1) (jmo w1 rfl z2) (jmo w1 rfl z3) (jmo w1 rfl z4) J Sm)
  ·
    refine x_iloadn (x := l1) rfl rfl ?_
    refine x_iconst (v := 4) rfl ki_4 ?_
    refine x_iceq (tgt := 257) rfl rfl (ti_eq rfl jk_4 ⟨fun c3 => ?_, fun c3 => ?_⟩)
    ·
      exact jX.sub (jsb_c rfl (jsb_c rfl jsb_n)) (ct_X12_readClause_r125_257 hD hQ  l2 g0 g1 g2 g3 g4 h (jr_of rfl (by omega)) (jr_mod rfl (by omega)) (jr_of rfl (by omega)) (jr_of rfl (by omega)) (jr_of rfl (by omega)) (jr_of rfl (by omega)) (jr_of rfl (by omega)) (zl_0 C0 (by omega) w1 (Or.inr (by decide))) (by omega) (by omega) (jmo w1 rfl z0) (jmo w1 rfl z1) (jmo w1 rfl z2) (jmo w1 rfl z3) (jmo w1 rfl z4) J Sm)
    ·
      refine x_iloadn (x := l1) rfl rfl ?_
      refine x_bipush (v := 7) rfl kb_7 ?_
      refine x_iceq (tgt := 257) rfl rfl (ti_eq rfl jk_7 ⟨fun c4 => ?_, fun c4 => ?_⟩)
      ·
        exact jX.sub (jsb_c rfl (jsb_c rfl jsb_n)) (ct_X12_readClause_r125_257 hD hQ  l2 g0 g1 g2 g3 g4 h (jr_of rfl (by omega)) (jr_mod rfl (by omega)) (jr_of rfl (by omega)) (jr_of rfl (by omega)) (jr_of rfl (by omega)) (jr_of rfl (by omega)) (jr_of rfl (by omega)) (zl_0 C0 (by omega) w1 (Or.inr (by decide))) (by omega) (by omega) (jmo w1 rfl z0) (jmo w1 rfl z1) (jmo w1 rfl z2) (jmo w1 rfl z3) (jmo w1 rfl z4) J Sm)
      ·
        refine x_iloadn (x := l1) rfl rfl ?_
        refine x_bipush (v := 8) rfl kb_8 ?_
        refine x_icne (tgt := 261) rfl rfl (ti_ne rfl jk_8 ⟨fun c5 => ?_, fun c5 => ?_⟩)
        ·
          refine x_iconst (v := 0) rfl ki_0 ?_
          exact jX.sub (jsb_c rfl (jsb_c rfl jsb_n)) (ct_X12_readClause_r125_200262 hD hQ  l2 g0 g1 g2 g3 g4 h (jr_of rfl (by omega)) (jr_mod rfl (by omega)) (jr_of rfl (by omega)) (jr_of rfl (by omega)) (jr_of rfl (by omega)) (jr_of rfl (by omega)) (jr_of rfl (by omega)) (zl_0 C0 (by omega) w1 (Or.inr (by decide))) (by omega) (by omega) (jmo w1 rfl z0) (jmo w1 rfl z1) (jmo w1 rfl z2) (jmo w1 rfl z3) (jmo w1 rfl z4) J Sm)
        ·
          exact jX.sub (jsb_c rfl (jsb_c rfl jsb_n)) (ct_X12_readClause_r125_257 hD hQ  l2 g0 g1 g2 g3 g4 h (jr_of rfl (by omega)) (jr_mod rfl (by omega)) (jr_of rfl (by omega)) (jr_of rfl (by omega)) (jr_of rfl (by omega)) (jr_of rfl (by omega)) (jr_of rfl (by omega)) (zl_0 C0 (by omega) w1 (Or.inr (by decide))) (by omega) (by omega) (jmo w1 rfl z0) (jmo w1 rfl z1) (jmo w1 rfl z2) (jmo w1 rfl z3) (jmo w1 rfl z4) J Sm)
set_option maxRecDepth 100000 in
set_option maxHeartbeats 4000000 in
theorem ct_X12_readClause_r125_234 {Dy : jH → Prop} {h0 : jH} {Q : Option Value → jH → Prop} (hD : jDk Dy) (hQ : ∀ hx9, jJ jSgM Dy hx9 → jSm fp_X12_readClause_r125 h0 hx9 → ∀ u0 u1 u2 : Int32, jiv hx9 125 10 = u0 → jiv hx9 125 8 = u1 → jiv hx9 125 9 = u2 → (u0.toInt ≤ u1.toInt ∧ u2.toInt ≤ u0.toInt) → ∀ u3 u4 u5 : Int32, jiv hx9 125 11 = u3 → jiv hx9 125 9 = u4 → jiv hx9 125 10 = u5 → (u3.toInt = 0 ∨ u4.toInt + 1 ≤ u5.toInt) → jRk (jnK hx9) h0 hx9 → Q none hx9) : ∀ (l1 : Int32) (l2 : Int32) (s0 : Int32) (s1 : Int32) (g0 : Int32) (g1 : Int32) (g2 : Int32) (g3 : Int32) (g4 : Int32) (h : jH), 6 ≤ l1.toInt ∧ l1.toInt ≤ 6 → 0 ≤ l2.toInt ∧ l2.toInt ≤ 110 → l2.toInt % 10 = 0 → 2 ≤ s1.toInt ∧ s1.toInt ≤ 112 → s1.toInt % 10 = 2 → 0 ≤ g0.toInt ∧ g0.toInt ≤ 400 → 0 ≤ g1.toInt ∧ g1.toInt ≤ 3 → 0 ≤ g2.toInt ∧ g2.toInt ≤ 11 → 0 ≤ g3.toInt ∧ g3.toInt ≤ 400 → 0 ≤ g4.toInt ∧ g4.toInt ≤ 400 → l1.toInt ≠ 0 → jZy h0 l2 h → ((jiv h 125 14).toInt ≠ 0 ∨ (0 ≤ s0.toInt ∧ s0.toInt ≤ 399)) → s1.toInt = l2.toInt + 2 → (g0.toInt ≤ g3.toInt ∧ g4.toInt ≤ g0.toInt) → (g1.toInt = 0 ∨ g4.toInt + 1 ≤ g0.toInt) → jiv h 125 10 = g0 → jiv h 125 11 = g1 → jiv h 125 47 = g2 → jiv h 125 8 = g3 → jiv h 125 9 = g4 → jJ jSgM Dy h → jSm fp_X12_readClause_r125 h0 h → jX m_X12_readClause 9 0 0 234 [(0, .ref 125), (1, .int l1), (2, .int l2)] [.int s0, .int s1, .ref 147] h 0 0 Q := by
  intro l1 l2 s0 s1 g0 g1 g2 g3 g4 h y0 y1 y2 y3 y4 y5 y6 y7 y8 y9 y10 C0 C1 y13 y14 y15 z0 z1 z2 z3 z4  J Sm
  have es0 := jfull s0
  refine z_iast (N := 120) (l := 0) (u := 120) (w := s0.toInt) rfl hD J Sm rfl rfl rfl (by omega) rfl (wr_147) rfl (fun h w1 J Sm => ?_)
  refine x_iloadn (x := l1) rfl rfl ?_
  refine x_iconst (v := 3) rfl ki_3 ?_
  refine x_iceq (tgt := 257) rfl rfl (ti_eq rfl jk_3 (br_f (by omega) ?_))
  refine x_iloadn (x := l1) rfl rfl ?_
  refine x_iconst (v := 4) rfl ki_4 ?_
  refine x_iceq (tgt := 257) rfl rfl (ti_eq rfl jk_4 (br_f (by omega) ?_))
  refine x_iloadn (x := l1) rfl rfl ?_
  refine x_bipush (v := 7) rfl kb_7 ?_
  refine x_iceq (tgt := 257) rfl rfl (ti_eq rfl jk_7 (br_f (by omega) ?_))
  refine x_iloadn (x := l1) rfl rfl ?_
  refine x_bipush (v := 8) rfl kb_8 ?_
  refine x_icne (tgt := 261) rfl rfl (ti_ne rfl jk_8 (bn_t (by omega) ?_))
  refine x_iconst (v := 0) rfl ki_0 ?_
  exact jX.sub (jsb_c rfl (jsb_c rfl jsb_n)) (ct_X12_readClause_r125_200262 hD hQ  l2 g0 g1 g2 g3 g4 h (jr_of rfl (by omega)) (jr_mod rfl (by omega)) (jr_of rfl (by omega)) (jr_of rfl (by omega)) (jr_of rfl (by omega)) (jr_of rfl (by omega)) (jr_of rfl (by omega)) (zl_0 C0 (by omega) w1 C1) (by omega) (by omega) (jmo w1 rfl z0) (jmo w1 rfl z1) (jmo w1 rfl z2) (jmo w1 rfl z3) (jmo w1 rfl z4) J Sm)
set_option maxRecDepth 100000 in
set_option maxHeartbeats 4000000 in
theorem ct_X12_readClause_r125_200209 {Dy : jH → Prop} {h0 : jH} {Q : Option Value → jH → Prop} (hD : jDk Dy) (hQ : ∀ hx9, jJ jSgM Dy hx9 → jSm fp_X12_readClause_r125 h0 hx9 → ∀ u0 u1 u2 : Int32, jiv hx9 125 10 = u0 → jiv hx9 125 8 = u1 → jiv hx9 125 9 = u2 → (u0.toInt ≤ u1.toInt ∧ u2.toInt ≤ u0.toInt) → ∀ u3 u4 u5 : Int32, jiv hx9 125 11 = u3 → jiv hx9 125 9 = u4 → jiv hx9 125 10 = u5 → (u3.toInt = 0 ∨ u4.toInt + 1 ≤ u5.toInt) → jRk (jnK hx9) h0 hx9 → Q none hx9) : ∀ (l1 : Int32) (l2 : Int32) (s1 : Int32) (g0 : Int32) (g1 : Int32) (g2 : Int32) (g3 : Int32) (g4 : Int32) (h : jH), 4 ≤ l1.toInt ∧ l1.toInt ≤ 8 → 0 ≤ l2.toInt ∧ l2.toInt ≤ 110 → l2.toInt % 10 = 0 → 1 ≤ s1.toInt ∧ s1.toInt ≤ 111 → s1.toInt % 10 = 1 → 0 ≤ g0.toInt ∧ g0.toInt ≤ 400 → 0 ≤ g1.toInt ∧ g1.toInt ≤ 3 → 0 ≤ g2.toInt ∧ g2.toInt ≤ 11 → 0 ≤ g3.toInt ∧ g3.toInt ≤ 400 → 0 ≤ g4.toInt ∧ g4.toInt ≤ 400 → l1.toInt ≠ 0 → jZy h0 l2 h → s1.toInt = l2.toInt + 1 → (g0.toInt ≤ g3.toInt ∧ g4.toInt ≤ g0.toInt) → (g1.toInt = 0 ∨ g4.toInt + 1 ≤ g0.toInt) → jiv h 125 10 = g0 → jiv h 125 11 = g1 → jiv h 125 47 = g2 → jiv h 125 8 = g3 → jiv h 125 9 = g4 → jJ jSgM Dy h → jSm fp_X12_readClause_r125 h0 h → jX m_X12_readClause 9 0 0 209 [(0, .ref 125), (1, .int l1), (2, .int l2)] [.int 0, .int s1, .ref 147] h 0 0 Q := by
  intro l1 l2 s1 g0 g1 g2 g3 g4 h y0 y1 y2 y3 y4 y5 y6 y7 y8 y9 y10 C0 y12 y13 y14 z0 z1 z2 z3 z4  J Sm
  refine z_iast (N := 120) (l := 0) (u := 120) (w := 0) rfl hD J Sm rfl rfl rfl (by omega) jk_0 (wr_147) rfl (fun h w1 J Sm => ?_)
  refine x_aloadn (x := 125) rfl rfl ?_
  refine z_getR (N := 92) (b := 147) 12 48 rfl f_12_96 rfl J rfl 16048 ⟨rfl, rfl⟩ rfl ?_
  refine x_iloadn (x := l2) rfl rfl ?_
  refine x_iconst (v := 2) rfl ki_2 ?_
  refine z_iadd rfl rfl jk_2 (by omega) (fun v2 ev2 => ?_)
  refine x_iloadn (x := l1) rfl rfl ?_
  refine x_bipush (v := 6) rfl kb_6 ?_
  refine x_icne (tgt := 233) rfl rfl (ti_ne rfl jk_6 ⟨fun c3 => ?_, fun c3 => ?_⟩)
  ·
    refine x_iconst (v := 0) rfl ki_0 ?_
    exact jX.sub (jsb_c rfl (jsb_c rfl (jsb_c rfl jsb_n))) (ct_X12_readClause_r125_200234 hD hQ  l1 l2 v2 g0 g1 g2 g3 g4 h (jr_of rfl (by omega)) (jr_of rfl (by omega)) (jr_mod rfl (by omega)) (jr_of rfl (by omega)) (jr_mod rfl (by omega)) (jr_of rfl (by omega)) (jr_of rfl (by omega)) (jr_of rfl (by omega)) (jr_of rfl (by omega)) (jr_of rfl (by omega)) (by omega) (zy_w C0 (by omega) w1) (by omega) (by omega) (by omega) (jmo w1 rfl z0) (jmo w1 rfl z1) (jmo w1 rfl z2) (jmo w1 rfl z3) (jmo w1 rfl z4) J Sm)
  ·
    refine x_aloadn (x := 125) rfl rfl ?_
    refine x_ldc2 (v := 399) rfl z_12_192 ?_
    refine x_inv (N := m_X12_number) (As := [.long 399]) (b := 125) (st := [.int v2, .ref 147]) (dx9 := 4) (mc := 0) (ms := 0) (host := "") 12 rfl t_X12_number ⟨Or.inl q_12_641, i_X12_number.1, i_X12_number.2⟩ ⟨by decide, rfl⟩ (congrArg Prod.fst (J.1.1 125 (12, 92) rfl)) rfl (by decide) rfl rfl ⟨by decide, by decide⟩ (sf_X12_number_r125 (jr_ofl jkl_399 (by omega)) (wd_w w1 C0.2.2.1) hD J (jmo w1 rfl z0) (jmo w1 rfl z3) (jmo w1 rfl z4) (by omega) (jmo w1 rfl z1) (jmo w1 rfl z4) (jmo w1 rfl z0) (by omega)  (fun v12 h J S4 u5 u6 u7 qu5 qu6 qu7 ru5 u8 u9 u10 qu8 qu9 qu10 ru8 P11 => ?_))
    have ev12 := jfull v12
    have Sm := jSm_tr rfl Sm S4
    have eu5 := (show 0 ≤ u5.toInt ∧ u5.toInt ≤ 400 from qu5 ▸ jrg_f J sg_125_10_11_1_0_1)
    have eu6 := (show 0 ≤ u6.toInt ∧ u6.toInt ≤ 400 from qu6 ▸ jrg_f J sg_125_8_9_1_0_1)
    have eu7 := (show 0 ≤ u7.toInt ∧ u7.toInt ≤ 400 from qu7 ▸ jrg_f J sg_125_9_10_1_0_1)
    have eu8 := (show 0 ≤ u8.toInt ∧ u8.toInt ≤ 3 from qu8 ▸ jrg_f J sg_125_11_12_1_0_1)
    obtain rfl : u7 = u9 := qu7.symm.trans qu9
    obtain rfl : u5 = u10 := qu5.symm.trans qu10
    show jX m_X12_readClause 9 0 0 230 [(0, .ref 125), (1, .int l1), (2, .int l2)] [.int v12, .int v2, .ref 147] _ 0 0 _
    refine x_goto (tgt := 234) rfl rfl ?_
    exact jX.sub (jsb_c rfl (jsb_c rfl (jsb_c rfl jsb_n))) (ct_X12_readClause_r125_234 hD hQ  l1 l2 v12 v2 u5 u8 g2 u6 u7 h (jr_of rfl (by omega)) (jr_of rfl (by omega)) (jr_mod rfl (by omega)) (jr_of rfl (by omega)) (jr_mod rfl (by omega)) (jr_of rfl (by omega)) (jr_of rfl (by omega)) (jr_of rfl (by omega)) (jr_of rfl (by omega)) (jr_of rfl (by omega)) (by omega) (zy_m (zy_w C0 (by omega) w1) (ke_c S4 rfl rfl rfl rfl rfl P11.1) P11.1.2.2) (nm_4 P11.2 jkl_399) (by omega) (by omega) (by omega) qu5 qu8 (jmc S4 rfl (jmo w1 rfl z2)) qu6 qu7 J Sm)
set_option maxRecDepth 100000 in
set_option maxHeartbeats 4000000 in
theorem ct_X12_readClause_r125_209 {Dy : jH → Prop} {h0 : jH} {Q : Option Value → jH → Prop} (hD : jDk Dy) (hQ : ∀ hx9, jJ jSgM Dy hx9 → jSm fp_X12_readClause_r125 h0 hx9 → ∀ u0 u1 u2 : Int32, jiv hx9 125 10 = u0 → jiv hx9 125 8 = u1 → jiv hx9 125 9 = u2 → (u0.toInt ≤ u1.toInt ∧ u2.toInt ≤ u0.toInt) → ∀ u3 u4 u5 : Int32, jiv hx9 125 11 = u3 → jiv hx9 125 9 = u4 → jiv hx9 125 10 = u5 → (u3.toInt = 0 ∨ u4.toInt + 1 ≤ u5.toInt) → jRk (jnK hx9) h0 hx9 → Q none hx9) : ∀ (l1 : Int32) (l2 : Int32) (s0 : Int32) (s1 : Int32) (g0 : Int32) (g1 : Int32) (g2 : Int32) (g3 : Int32) (g4 : Int32) (h : jH), 1 ≤ l1.toInt ∧ l1.toInt ≤ 7 → 0 ≤ l2.toInt ∧ l2.toInt ≤ 110 → l2.toInt % 10 = 0 → (-1) ≤ s0.toInt ∧ s0.toInt ≤ 5 → 1 ≤ s1.toInt ∧ s1.toInt ≤ 111 → s1.toInt % 10 = 1 → 0 ≤ g0.toInt ∧ g0.toInt ≤ 400 → 0 ≤ g1.toInt ∧ g1.toInt ≤ 3 → 0 ≤ g2.toInt ∧ g2.toInt ≤ 11 → 0 ≤ g3.toInt ∧ g3.toInt ≤ 400 → 0 ≤ g4.toInt ∧ g4.toInt ≤ 400 → l1.toInt ≠ 0 → jZy h0 l2 h → s1.toInt = l2.toInt + 1 → (g0.toInt ≤ g3.toInt ∧ g4.toInt ≤ g0.toInt) → (g1.toInt = 0 ∨ g4.toInt + 1 ≤ g0.toInt) → jiv h 125 10 = g0 → jiv h 125 11 = g1 → jiv h 125 47 = g2 → jiv h 125 8 = g3 → jiv h 125 9 = g4 → jJ jSgM Dy h → jSm fp_X12_readClause_r125 h0 h → jX m_X12_readClause 9 0 0 209 [(0, .ref 125), (1, .int l1), (2, .int l2)] [.int s0, .int s1, .ref 147] h 0 0 Q := by
  intro l1 l2 s0 s1 g0 g1 g2 g3 g4 h y0 y1 y2 y3 y4 y5 y6 y7 y8 y9 y10 y11 C0 y13 y14 y15 z0 z1 z2 z3 z4  J Sm
  refine z_iast (N := 120) (l := 0) (u := 120) (w := s0.toInt) rfl hD J Sm rfl rfl rfl (by omega) rfl (wr_147) rfl (fun h w1 J Sm => ?_)
  refine x_aloadn (x := 125) rfl rfl ?_
  refine z_getR (N := 92) (b := 147) 12 48 rfl f_12_96 rfl J rfl 16048 ⟨rfl, rfl⟩ rfl ?_
  refine x_iloadn (x := l2) rfl rfl ?_
  refine x_iconst (v := 2) rfl ki_2 ?_
  refine z_iadd rfl rfl jk_2 (by omega) (fun v2 ev2 => ?_)
  refine x_iloadn (x := l1) rfl rfl ?_
  refine x_bipush (v := 6) rfl kb_6 ?_
  refine x_icne (tgt := 233) rfl rfl (ti_ne rfl jk_6 ⟨fun c3 => ?_, fun c3 => ?_⟩)
  ·
    refine x_iconst (v := 0) rfl ki_0 ?_
    exact jX.sub (jsb_c rfl (jsb_c rfl (jsb_c rfl jsb_n))) (ct_X12_readClause_r125_200234 hD hQ  l1 l2 v2 g0 g1 g2 g3 g4 h (jr_of rfl (by omega)) (jr_of rfl (by omega)) (jr_mod rfl (by omega)) (jr_of rfl (by omega)) (jr_mod rfl (by omega)) (jr_of rfl (by omega)) (jr_of rfl (by omega)) (jr_of rfl (by omega)) (jr_of rfl (by omega)) (jr_of rfl (by omega)) (by omega) (zy_w C0 (by omega) w1) (by omega) (by omega) (by omega) (jmo w1 rfl z0) (jmo w1 rfl z1) (jmo w1 rfl z2) (jmo w1 rfl z3) (jmo w1 rfl z4) J Sm)
  ·
    refine x_aloadn (x := 125) rfl rfl ?_
    refine x_ldc2 (v := 399) rfl z_12_192 ?_
    refine x_inv (N := m_X12_number) (As := [.long 399]) (b := 125) (st := [.int v2, .ref 147]) (dx9 := 4) (mc := 0) (ms := 0) (host := "") 12 rfl t_X12_number ⟨Or.inl q_12_641, i_X12_number.1, i_X12_number.2⟩ ⟨by decide, rfl⟩ (congrArg Prod.fst (J.1.1 125 (12, 92) rfl)) rfl (by decide) rfl rfl ⟨by decide, by decide⟩ (sf_X12_number_r125 (jr_ofl jkl_399 (by omega)) (wd_w w1 C0.2.2.1) hD J (jmo w1 rfl z0) (jmo w1 rfl z3) (jmo w1 rfl z4) (by omega) (jmo w1 rfl z1) (jmo w1 rfl z4) (jmo w1 rfl z0) (by omega)  (fun v12 h J S4 u5 u6 u7 qu5 qu6 qu7 ru5 u8 u9 u10 qu8 qu9 qu10 ru8 P11 => ?_))
    have ev12 := jfull v12
    have Sm := jSm_tr rfl Sm S4
    have eu5 := (show 0 ≤ u5.toInt ∧ u5.toInt ≤ 400 from qu5 ▸ jrg_f J sg_125_10_11_1_0_1)
    have eu6 := (show 0 ≤ u6.toInt ∧ u6.toInt ≤ 400 from qu6 ▸ jrg_f J sg_125_8_9_1_0_1)
    have eu7 := (show 0 ≤ u7.toInt ∧ u7.toInt ≤ 400 from qu7 ▸ jrg_f J sg_125_9_10_1_0_1)
    have eu8 := (show 0 ≤ u8.toInt ∧ u8.toInt ≤ 3 from qu8 ▸ jrg_f J sg_125_11_12_1_0_1)
    obtain rfl : u7 = u9 := qu7.symm.trans qu9
    obtain rfl : u5 = u10 := qu5.symm.trans qu10
    show jX m_X12_readClause 9 0 0 230 [(0, .ref 125), (1, .int l1), (2, .int l2)] [.int v12, .int v2, .ref 147] _ 0 0 _
    refine x_goto (tgt := 234) rfl rfl ?_
    exact jX.sub (jsb_c rfl (jsb_c rfl (jsb_c rfl jsb_n))) (ct_X12_readClause_r125_234 hD hQ  l1 l2 v12 v2 u5 u8 g2 u6 u7 h (jr_of rfl (by omega)) (jr_of rfl (by omega)) (jr_mod rfl (by omega)) (jr_of rfl (by omega)) (jr_mod rfl (by omega)) (jr_of rfl (by omega)) (jr_of rfl (by omega)) (jr_of rfl (by omega)) (jr_of rfl (by omega)) (jr_of rfl (by omega)) (by omega) (zy_m (zy_w C0 (by omega) w1) (ke_c S4 rfl rfl rfl rfl rfl P11.1) P11.1.2.2) (nm_4 P11.2 jkl_399) (by omega) (by omega) (by omega) qu5 qu8 (jmc S4 rfl (jmo w1 rfl z2)) qu6 qu7 J Sm)
set_option maxRecDepth 100000 in
set_option maxHeartbeats 4000000 in
theorem ct_X12_readClause_r125_163 {Dy : jH → Prop} {h0 : jH} {Q : Option Value → jH → Prop} (hD : jDk Dy) (hQ : ∀ hx9, jJ jSgM Dy hx9 → jSm fp_X12_readClause_r125 h0 hx9 → ∀ u0 u1 u2 : Int32, jiv hx9 125 10 = u0 → jiv hx9 125 8 = u1 → jiv hx9 125 9 = u2 → (u0.toInt ≤ u1.toInt ∧ u2.toInt ≤ u0.toInt) → ∀ u3 u4 u5 : Int32, jiv hx9 125 11 = u3 → jiv hx9 125 9 = u4 → jiv hx9 125 10 = u5 → (u3.toInt = 0 ∨ u4.toInt + 1 ≤ u5.toInt) → jRk (jnK hx9) h0 hx9 → Q none hx9) : ∀ (l1 : Int32) (l2 : Int32) (s0 : Int32) (g0 : Int32) (g1 : Int32) (g2 : Int32) (g3 : Int32) (g4 : Int32) (h : jH), 2 ≤ l1.toInt ∧ l1.toInt ≤ 3 → 0 ≤ l2.toInt ∧ l2.toInt ≤ 110 → l2.toInt % 10 = 0 → 1 ≤ s0.toInt ∧ s0.toInt ≤ 111 → s0.toInt % 10 = 1 → 0 ≤ g0.toInt ∧ g0.toInt ≤ 400 → 0 ≤ g1.toInt ∧ g1.toInt ≤ 3 → 0 ≤ g2.toInt ∧ g2.toInt ≤ 11 → 0 ≤ g3.toInt ∧ g3.toInt ≤ 400 → 0 ≤ g4.toInt ∧ g4.toInt ≤ 400 → l1.toInt ≠ 0 → jZy h0 l2 h → s0.toInt = l2.toInt + 1 → (g0.toInt ≤ g3.toInt ∧ g4.toInt ≤ g0.toInt) → (g1.toInt = 0 ∨ g4.toInt + 1 ≤ g0.toInt) → jiv h 125 10 = g0 → jiv h 125 11 = g1 → jiv h 125 47 = g2 → jiv h 125 8 = g3 → jiv h 125 9 = g4 → jJ jSgM Dy h → jSm fp_X12_readClause_r125 h0 h → jX m_X12_readClause 9 0 0 163 [(0, .ref 125), (1, .int l1), (2, .int l2)] [.int s0, .ref 147] h 0 0 Q := by
  intro l1 l2 s0 g0 g1 g2 g3 g4 h y0 y1 y2 y3 y4 y5 y6 y7 y8 y9 y10 C0 y12 y13 y14 z0 z1 z2 z3 z4  J Sm
  refine x_aloadn (x := 125) rfl rfl ?_
  refine x_aloadn (x := 125) rfl rfl ?_
  refine x_inv (N := m_X12_whatAt) (As := []) (b := 125) (st := [.ref 125, .int s0, .ref 147]) (dx9 := 2) (mc := 0) (ms := 0) (host := "") 12 rfl t_X12_whatAt ⟨Or.inl q_12_653, i_X12_whatAt.1, i_X12_whatAt.2⟩ ⟨by decide, rfl⟩ (congrArg Prod.fst (J.1.1 125 (12, 92) rfl)) rfl (by decide) rfl rfl ⟨by decide, by decide⟩ (sf_X12_whatAt_r125  hD J  (fun v2 h ev2 J S1 => ?_))
  have Sm := jSm_tr rfl Sm S1
  show jX m_X12_readClause 9 0 0 168 [(0, .ref 125), (1, .int l1), (2, .int l2)] [.int v2, .ref 125, .int s0, .ref 147] _ 0 0 _
  refine x_inv (N := m_X12_choice) (As := [.int v2]) (b := 125) (st := [.int s0, .ref 147]) (dx9 := 4) (mc := 0) (ms := 0) (host := "") 12 rfl t_X12_choice ⟨Or.inl q_12_650, i_X12_choice.1, i_X12_choice.2⟩ ⟨by decide, rfl⟩ (congrArg Prod.fst (J.1.1 125 (12, 92) rfl)) rfl (by decide) rfl rfl ⟨by decide, by decide⟩ (sf_X12_choice_r125 (jr_of rfl (by omega)) hD J (jmc S1 rfl z0) (jmc S1 rfl z3) (jmc S1 rfl z4) (by omega) (jmc S1 rfl z1) (jmc S1 rfl z4) (jmc S1 rfl z0) (by omega)  (fun v11 h ev11 J S3 u4 u5 u6 qu4 qu5 qu6 ru4 u7 u8 u9 qu7 qu8 qu9 ru7 P10 => ?_))
  have Sm := jSm_tr rfl Sm S3
  have eu4 := (show 0 ≤ u4.toInt ∧ u4.toInt ≤ 400 from qu4 ▸ jrg_f J sg_125_10_11_1_0_1)
  have eu5 := (show 0 ≤ u5.toInt ∧ u5.toInt ≤ 400 from qu5 ▸ jrg_f J sg_125_8_9_1_0_1)
  have eu6 := (show 0 ≤ u6.toInt ∧ u6.toInt ≤ 400 from qu6 ▸ jrg_f J sg_125_9_10_1_0_1)
  have eu7 := (show 0 ≤ u7.toInt ∧ u7.toInt ≤ 3 from qu7 ▸ jrg_f J sg_125_11_12_1_0_1)
  obtain rfl : u6 = u8 := qu6.symm.trans qu8
  obtain rfl : u4 = u9 := qu4.symm.trans qu9
  show jX m_X12_readClause 9 0 0 171 [(0, .ref 125), (1, .int l1), (2, .int l2)] [.int v11, .int s0, .ref 147] _ 0 0 _
  refine x_goto (tgt := 209) rfl rfl ?_
  exact jX.sub (jsb_c rfl (jsb_c rfl (jsb_c rfl jsb_n))) (ct_X12_readClause_r125_209 hD hQ  l1 l2 v11 s0 u4 u7 g2 u5 u6 h (jr_of rfl (by omega)) (jr_of rfl (by omega)) (jr_mod rfl (by omega)) (jr_of rfl (by omega)) (jr_of rfl (by omega)) (jr_mod rfl (by omega)) (jr_of rfl (by omega)) (jr_of rfl (by omega)) (jr_of rfl (by omega)) (jr_of rfl (by omega)) (jr_of rfl (by omega)) (by omega) (zy_m C0 (ke_t (ke_z S1 rfl rfl rfl rfl rfl rfl rfl) (ke_c S3 rfl rfl rfl rfl rfl P10)) P10.2.2) (by omega) (by omega) (by omega) qu4 qu7 (jmc S3 rfl (jmc S1 rfl z2)) qu5 qu6 J Sm)
set_option maxRecDepth 100000 in
set_option maxHeartbeats 4000000 in
theorem ct_X12_readClause_r125_46 {Dy : jH → Prop} {h0 : jH} {Q : Option Value → jH → Prop} (hD : jDk Dy) (hQ : ∀ hx9, jJ jSgM Dy hx9 → jSm fp_X12_readClause_r125 h0 hx9 → ∀ u0 u1 u2 : Int32, jiv hx9 125 10 = u0 → jiv hx9 125 8 = u1 → jiv hx9 125 9 = u2 → (u0.toInt ≤ u1.toInt ∧ u2.toInt ≤ u0.toInt) → ∀ u3 u4 u5 : Int32, jiv hx9 125 11 = u3 → jiv hx9 125 9 = u4 → jiv hx9 125 10 = u5 → (u3.toInt = 0 ∨ u4.toInt + 1 ≤ u5.toInt) → jRk (jnK hx9) h0 hx9 → Q none hx9) : ∀ r : Nat, ∀ (l1 : Int32) (l2 : Int32) (l3 : Int32) (g0 : Int32) (g1 : Int32) (g2 : Int32) (g3 : Int32) (g4 : Int32) (h : jH), 10 - l3.toInt < (r : Int) → 0 ≤ l1.toInt ∧ l1.toInt ≤ 8 → 0 ≤ l2.toInt ∧ l2.toInt ≤ 110 → l2.toInt % 10 = 0 → 0 ≤ l3.toInt ∧ l3.toInt ≤ 10 → 0 ≤ g0.toInt ∧ g0.toInt ≤ 400 → 0 ≤ g1.toInt ∧ g1.toInt ≤ 3 → 0 ≤ g2.toInt ∧ g2.toInt ≤ 11 → 0 ≤ g3.toInt ∧ g3.toInt ≤ 400 → 0 ≤ g4.toInt ∧ g4.toInt ≤ 400 → jZz h0 l2 l3 h → (g0.toInt ≤ g3.toInt ∧ g4.toInt ≤ g0.toInt) → (g1.toInt = 0 ∨ g4.toInt + 1 ≤ g0.toInt) → jiv h 125 10 = g0 → jiv h 125 11 = g1 → jiv h 125 47 = g2 → jiv h 125 8 = g3 → jiv h 125 9 = g4 → jJ jSgM Dy h → jSm fp_X12_readClause_r125 h0 h → jX m_X12_readClause 9 0 0 46 [(0, .ref 125), (1, .int l1), (2, .int l2), (3, .int l3)] [] h 0 0 Q := by
  intro r
  induction r with
  | zero =>
    intro l1 l2 l3 g0 g1 g2 g3 g4 h hm y0 y1 y2 y3 y4 y5 y6 y7 y8 C0 y10 y11 z0 z1 z2 z3 z4  J Sm
    exfalso
    omega
  | succ r ih =>
    intro l1 l2 l3 g0 g1 g2 g3 g4 h hm y0 y1 y2 y3 y4 y5 y6 y7 y8 C0 y10 y11 z0 z1 z2 z3 z4  J Sm
    refine x_iloadn (x := l3) rfl rfl ?_
    refine x_bipush (v := 10) rfl kb_10 ?_
    refine x_icge (tgt := 67) rfl rfl (ti_ge rfl jk_10 ⟨fun c1 => ?_, fun c1 => ?_⟩)
    ·
      refine x_aloadn (x := 125) rfl rfl ?_
      refine z_getR (N := 92) (b := 147) 12 48 rfl f_12_96 rfl J rfl 16048 ⟨rfl, rfl⟩ rfl ?_
      refine x_iloadn (x := l2) rfl rfl ?_
      refine x_iloadn (x := l1) rfl rfl ?_
      refine z_iast (N := 120) (l := 0) (u := 120) (w := l1.toInt) rfl hD J Sm rfl rfl rfl (by omega) rfl (wr_147) rfl (fun h w2 J Sm => ?_)
      refine x_iloadn (x := l1) rfl rfl ?_
      refine x_ifne (tgt := 130) rfl rfl (ti_ne rfl jk_0 ⟨fun c3 => ?_, fun c3 => ?_⟩)
      ·
        refine x_aloadn (x := 125) rfl rfl ?_
        refine z_getR (N := 92) (b := 147) 12 48 rfl f_12_96 rfl J rfl 16048 ⟨rfl, rfl⟩ rfl ?_
        refine x_iloadn (x := l2) rfl rfl ?_
        refine x_iconst (v := 1) rfl ki_1 ?_
        refine z_iadd rfl rfl jk_1 (by omega) (fun v4 ev4 => ?_)
        refine x_iloadn (x := l1) rfl rfl ?_
        refine x_iconst (v := 1) rfl ki_1 ?_
        refine x_icne (tgt := 153) rfl rfl (ti_ne rfl jk_1 ⟨fun c5 => ?_, fun c5 => ?_⟩)
        ·
          refine x_iloadn (x := l1) rfl rfl ?_
          refine x_iconst (v := 2) rfl ki_2 ?_
          refine x_iceq (tgt := 163) rfl rfl (ti_eq rfl jk_2 ⟨fun c6 => ?_, fun c6 => ?_⟩)
          ·
            exact jX.sub (jsb_c rfl (jsb_c rfl (jsb_c rfl jsb_n))) (ct_X12_readClause_r125_163 hD hQ  l1 l2 v4 g0 g1 g2 g3 g4 h (jr_of rfl (by omega)) (jr_of rfl (by omega)) (jr_mod rfl (by omega)) (jr_of rfl (by omega)) (jr_mod rfl (by omega)) (jr_of rfl (by omega)) (jr_of rfl (by omega)) (jr_of rfl (by omega)) (jr_of rfl (by omega)) (jr_of rfl (by omega)) (by omega) (zy_0 C0 (by omega) w2 (by omega)) (by omega) (by omega) (by omega) (jmo w2 rfl z0) (jmo w2 rfl z1) (jmo w2 rfl z2) (jmo w2 rfl z3) (jmo w2 rfl z4) J Sm)
          ·
            refine x_iloadn (x := l1) rfl rfl ?_
            refine x_iconst (v := 3) rfl ki_3 ?_
            refine x_icne (tgt := 174) rfl rfl (ti_ne rfl jk_3 ⟨fun c7 => ?_, fun c7 => ?_⟩)
            ·
              refine x_iloadn (x := l1) rfl rfl ?_
              refine x_bipush (v := 6) rfl kb_6 ?_
              refine x_icne (tgt := 191) rfl rfl (ti_ne rfl jk_6 ⟨fun c8 => ?_, fun c8 => ?_⟩)
              ·
                refine x_iloadn (x := l1) rfl rfl ?_
                refine x_bipush (v := 7) rfl kb_7 ?_
                refine x_icne (tgt := 208) rfl rfl (ti_ne rfl jk_7 ⟨fun c9 => ?_, fun c9 => ?_⟩)
                ·
                  refine x_iconst (v := 0) rfl ki_0 ?_
                  exact jX.sub (jsb_c rfl (jsb_c rfl (jsb_c rfl jsb_n))) (ct_X12_readClause_r125_200209 hD hQ  l1 l2 v4 g0 g1 g2 g3 g4 h (jr_of rfl (by omega)) (jr_of rfl (by omega)) (jr_mod rfl (by omega)) (jr_of rfl (by omega)) (jr_mod rfl (by omega)) (jr_of rfl (by omega)) (jr_of rfl (by omega)) (jr_of rfl (by omega)) (jr_of rfl (by omega)) (jr_of rfl (by omega)) (by omega) (zy_0 C0 (by omega) w2 (by omega)) (by omega) (by omega) (by omega) (jmo w2 rfl z0) (jmo w2 rfl z1) (jmo w2 rfl z2) (jmo w2 rfl z3) (jmo w2 rfl z4) J Sm)
                ·
                  refine x_aloadn (x := 125) rfl rfl ?_
                  refine x_aloadn (x := 125) rfl rfl ?_
                  refine x_inv (N := m_X12_feeAt) (As := []) (b := 125) (st := [.ref 125, .int v4, .ref 147]) (dx9 := 2) (mc := 0) (ms := 0) (host := "") 12 rfl t_X12_feeAt ⟨Or.inl q_12_659, i_X12_feeAt.1, i_X12_feeAt.2⟩ ⟨by decide, rfl⟩ (congrArg Prod.fst (J.1.1 125 (12, 92) rfl)) rfl (by decide) rfl rfl ⟨by decide, by decide⟩ (sf_X12_feeAt_r125  hD J  (fun v11 h ev11 J S10 => ?_))
                  have Sm := jSm_tr rfl Sm S10
                  show jX m_X12_readClause 9 0 0 202 [(0, .ref 125), (1, .int l1), (2, .int l2), (3, .int l3)] [.int v11, .ref 125, .int v4, .ref 147] _ 0 0 _
                  refine x_inv (N := m_X12_choice) (As := [.int v11]) (b := 125) (st := [.int v4, .ref 147]) (dx9 := 4) (mc := 0) (ms := 0) (host := "") 12 rfl t_X12_choice ⟨Or.inl q_12_650, i_X12_choice.1, i_X12_choice.2⟩ ⟨by decide, rfl⟩ (congrArg Prod.fst (J.1.1 125 (12, 92) rfl)) rfl (by decide) rfl rfl ⟨by decide, by decide⟩ (sf_X12_choice_r125 (jr_of rfl (by omega)) hD J (jmc S10 rfl (jmo w2 rfl z0)) (jmc S10 rfl (jmo w2 rfl z3)) (jmc S10 rfl (jmo w2 rfl z4)) (by omega) (jmc S10 rfl (jmo w2 rfl z1)) (jmc S10 rfl (jmo w2 rfl z4)) (jmc S10 rfl (jmo w2 rfl z0)) (by omega)  (fun v20 h ev20 J S12 u13 u14 u15 qu13 qu14 qu15 ru13 u16 u17 u18 qu16 qu17 qu18 ru16 P19 => ?_))
                  have Sm := jSm_tr rfl Sm S12
                  have eu13 := (show 0 ≤ u13.toInt ∧ u13.toInt ≤ 400 from qu13 ▸ jrg_f J sg_125_10_11_1_0_1)
                  have eu14 := (show 0 ≤ u14.toInt ∧ u14.toInt ≤ 400 from qu14 ▸ jrg_f J sg_125_8_9_1_0_1)
                  have eu15 := (show 0 ≤ u15.toInt ∧ u15.toInt ≤ 400 from qu15 ▸ jrg_f J sg_125_9_10_1_0_1)
                  have eu16 := (show 0 ≤ u16.toInt ∧ u16.toInt ≤ 3 from qu16 ▸ jrg_f J sg_125_11_12_1_0_1)
                  obtain rfl : u15 = u17 := qu15.symm.trans qu17
                  obtain rfl : u13 = u18 := qu13.symm.trans qu18
                  show jX m_X12_readClause 9 0 0 205 [(0, .ref 125), (1, .int l1), (2, .int l2), (3, .int l3)] [.int v20, .int v4, .ref 147] _ 0 0 _
                  refine x_goto (tgt := 209) rfl rfl ?_
                  exact jX.sub (jsb_c rfl (jsb_c rfl (jsb_c rfl jsb_n))) (ct_X12_readClause_r125_209 hD hQ  l1 l2 v20 v4 u13 u16 g2 u14 u15 h (jr_of rfl (by omega)) (jr_of rfl (by omega)) (jr_mod rfl (by omega)) (jr_of rfl (by omega)) (jr_of rfl (by omega)) (jr_mod rfl (by omega)) (jr_of rfl (by omega)) (jr_of rfl (by omega)) (jr_of rfl (by omega)) (jr_of rfl (by omega)) (jr_of rfl (by omega)) (by omega) (zy_m (zy_0 C0 (by omega) w2 (by omega)) (ke_t (ke_z S10 rfl rfl rfl rfl rfl rfl rfl) (ke_c S12 rfl rfl rfl rfl rfl P19)) P19.2.2) (by omega) (by omega) (by omega) qu13 qu16 (jmc S12 rfl (jmc S10 rfl (jmo w2 rfl z2))) qu14 qu15 J Sm)
              ·
                refine x_aloadn (x := 125) rfl rfl ?_
                refine x_aloadn (x := 125) rfl rfl ?_
                refine x_inv (N := m_X12_officeAt) (As := []) (b := 125) (st := [.ref 125, .int v4, .ref 147]) (dx9 := 2) (mc := 0) (ms := 0) (host := "") 12 rfl t_X12_officeAt ⟨Or.inl q_12_656, i_X12_officeAt.1, i_X12_officeAt.2⟩ ⟨by decide, rfl⟩ (congrArg Prod.fst (J.1.1 125 (12, 92) rfl)) rfl (by decide) rfl rfl ⟨by decide, by decide⟩ (sf_X12_officeAt_r125  hD J  (fun v22 h ev22 J S21 => ?_))
                have Sm := jSm_tr rfl Sm S21
                show jX m_X12_readClause 9 0 0 185 [(0, .ref 125), (1, .int l1), (2, .int l2), (3, .int l3)] [.int v22, .ref 125, .int v4, .ref 147] _ 0 0 _
                refine x_inv (N := m_X12_choice) (As := [.int v22]) (b := 125) (st := [.int v4, .ref 147]) (dx9 := 4) (mc := 0) (ms := 0) (host := "") 12 rfl t_X12_choice ⟨Or.inl q_12_650, i_X12_choice.1, i_X12_choice.2⟩ ⟨by decide, rfl⟩ (congrArg Prod.fst (J.1.1 125 (12, 92) rfl)) rfl (by decide) rfl rfl ⟨by decide, by decide⟩ (sf_X12_choice_r125 (jr_of rfl (by omega)) hD J (jmc S21 rfl (jmo w2 rfl z0)) (jmc S21 rfl (jmo w2 rfl z3)) (jmc S21 rfl (jmo w2 rfl z4)) (by omega) (jmc S21 rfl (jmo w2 rfl z1)) (jmc S21 rfl (jmo w2 rfl z4)) (jmc S21 rfl (jmo w2 rfl z0)) (by omega)  (fun v31 h ev31 J S23 u24 u25 u26 qu24 qu25 qu26 ru24 u27 u28 u29 qu27 qu28 qu29 ru27 P30 => ?_))
                have Sm := jSm_tr rfl Sm S23
                have eu24 := (show 0 ≤ u24.toInt ∧ u24.toInt ≤ 400 from qu24 ▸ jrg_f J sg_125_10_11_1_0_1)
                have eu25 := (show 0 ≤ u25.toInt ∧ u25.toInt ≤ 400 from qu25 ▸ jrg_f J sg_125_8_9_1_0_1)
                have eu26 := (show 0 ≤ u26.toInt ∧ u26.toInt ≤ 400 from qu26 ▸ jrg_f J sg_125_9_10_1_0_1)
                have eu27 := (show 0 ≤ u27.toInt ∧ u27.toInt ≤ 3 from qu27 ▸ jrg_f J sg_125_11_12_1_0_1)
                obtain rfl : u26 = u28 := qu26.symm.trans qu28
                obtain rfl : u24 = u29 := qu24.symm.trans qu29
                show jX m_X12_readClause 9 0 0 188 [(0, .ref 125), (1, .int l1), (2, .int l2), (3, .int l3)] [.int v31, .int v4, .ref 147] _ 0 0 _
                refine x_goto (tgt := 209) rfl rfl ?_
                exact jX.sub (jsb_c rfl (jsb_c rfl (jsb_c rfl jsb_n))) (ct_X12_readClause_r125_209 hD hQ  l1 l2 v31 v4 u24 u27 g2 u25 u26 h (jr_of rfl (by omega)) (jr_of rfl (by omega)) (jr_mod rfl (by omega)) (jr_of rfl (by omega)) (jr_of rfl (by omega)) (jr_mod rfl (by omega)) (jr_of rfl (by omega)) (jr_of rfl (by omega)) (jr_of rfl (by omega)) (jr_of rfl (by omega)) (jr_of rfl (by omega)) (by omega) (zy_m (zy_0 C0 (by omega) w2 (by omega)) (ke_t (ke_z S21 rfl rfl rfl rfl rfl rfl rfl) (ke_c S23 rfl rfl rfl rfl rfl P30)) P30.2.2) (by omega) (by omega) (by omega) qu24 qu27 (jmc S23 rfl (jmc S21 rfl (jmo w2 rfl z2))) qu25 qu26 J Sm)
            ·
              exact jX.sub (jsb_c rfl (jsb_c rfl (jsb_c rfl jsb_n))) (ct_X12_readClause_r125_163 hD hQ  l1 l2 v4 g0 g1 g2 g3 g4 h (jr_of rfl (by omega)) (jr_of rfl (by omega)) (jr_mod rfl (by omega)) (jr_of rfl (by omega)) (jr_mod rfl (by omega)) (jr_of rfl (by omega)) (jr_of rfl (by omega)) (jr_of rfl (by omega)) (jr_of rfl (by omega)) (jr_of rfl (by omega)) (by omega) (zy_0 C0 (by omega) w2 (by omega)) (by omega) (by omega) (by omega) (jmo w2 rfl z0) (jmo w2 rfl z1) (jmo w2 rfl z2) (jmo w2 rfl z3) (jmo w2 rfl z4) J Sm)
        ·
          refine x_aloadn (x := 125) rfl rfl ?_
          refine x_aloadn (x := 125) rfl rfl ?_
          refine x_inv (N := m_X12_groundAt) (As := []) (b := 125) (st := [.ref 125, .int v4, .ref 147]) (dx9 := 2) (mc := 0) (ms := 0) (host := "") 12 rfl t_X12_groundAt ⟨Or.inl q_12_647, i_X12_groundAt.1, i_X12_groundAt.2⟩ ⟨by decide, rfl⟩ (congrArg Prod.fst (J.1.1 125 (12, 92) rfl)) rfl (by decide) rfl rfl ⟨by decide, by decide⟩ (sf_X12_groundAt_r125  hD J  (fun v33 h ev33 J S32 => ?_))
          have Sm := jSm_tr rfl Sm S32
          show jX m_X12_readClause 9 0 0 147 [(0, .ref 125), (1, .int l1), (2, .int l2), (3, .int l3)] [.int v33, .ref 125, .int v4, .ref 147] _ 0 0 _
          refine x_inv (N := m_X12_choice) (As := [.int v33]) (b := 125) (st := [.int v4, .ref 147]) (dx9 := 4) (mc := 0) (ms := 0) (host := "") 12 rfl t_X12_choice ⟨Or.inl q_12_650, i_X12_choice.1, i_X12_choice.2⟩ ⟨by decide, rfl⟩ (congrArg Prod.fst (J.1.1 125 (12, 92) rfl)) rfl (by decide) rfl rfl ⟨by decide, by decide⟩ (sf_X12_choice_r125 (jr_of rfl (by omega)) hD J (jmc S32 rfl (jmo w2 rfl z0)) (jmc S32 rfl (jmo w2 rfl z3)) (jmc S32 rfl (jmo w2 rfl z4)) (by omega) (jmc S32 rfl (jmo w2 rfl z1)) (jmc S32 rfl (jmo w2 rfl z4)) (jmc S32 rfl (jmo w2 rfl z0)) (by omega)  (fun v42 h ev42 J S34 u35 u36 u37 qu35 qu36 qu37 ru35 u38 u39 u40 qu38 qu39 qu40 ru38 P41 => ?_))
          have Sm := jSm_tr rfl Sm S34
          have eu35 := (show 0 ≤ u35.toInt ∧ u35.toInt ≤ 400 from qu35 ▸ jrg_f J sg_125_10_11_1_0_1)
          have eu36 := (show 0 ≤ u36.toInt ∧ u36.toInt ≤ 400 from qu36 ▸ jrg_f J sg_125_8_9_1_0_1)
          have eu37 := (show 0 ≤ u37.toInt ∧ u37.toInt ≤ 400 from qu37 ▸ jrg_f J sg_125_9_10_1_0_1)
          have eu38 := (show 0 ≤ u38.toInt ∧ u38.toInt ≤ 3 from qu38 ▸ jrg_f J sg_125_11_12_1_0_1)
          obtain rfl : u37 = u39 := qu37.symm.trans qu39
          obtain rfl : u35 = u40 := qu35.symm.trans qu40
          show jX m_X12_readClause 9 0 0 150 [(0, .ref 125), (1, .int l1), (2, .int l2), (3, .int l3)] [.int v42, .int v4, .ref 147] _ 0 0 _
          refine x_goto (tgt := 209) rfl rfl ?_
          exact jX.sub (jsb_c rfl (jsb_c rfl (jsb_c rfl jsb_n))) (ct_X12_readClause_r125_209 hD hQ  l1 l2 v42 v4 u35 u38 g2 u36 u37 h (jr_of rfl (by omega)) (jr_of rfl (by omega)) (jr_mod rfl (by omega)) (jr_of rfl (by omega)) (jr_of rfl (by omega)) (jr_mod rfl (by omega)) (jr_of rfl (by omega)) (jr_of rfl (by omega)) (jr_of rfl (by omega)) (jr_of rfl (by omega)) (jr_of rfl (by omega)) (by omega) (zy_m (zy_0 C0 (by omega) w2 (by omega)) (ke_t (ke_z S32 rfl rfl rfl rfl rfl rfl rfl) (ke_c S34 rfl rfl rfl rfl rfl P41)) P41.2.2) (by omega) (by omega) (by omega) qu35 qu38 (jmc S34 rfl (jmc S32 rfl (jmo w2 rfl z2))) qu36 qu37 J Sm)
      ·
        refine x_aloadn (x := 125) rfl rfl ?_
        refine z_getR (N := 92) (b := 147) 12 48 rfl f_12_96 rfl J rfl 16048 ⟨rfl, rfl⟩ rfl ?_
        refine x_iloadn (x := l2) rfl rfl ?_
        refine x_iconst (v := 2) rfl ki_2 ?_
        refine z_iadd rfl rfl jk_2 (by omega) (fun v43 ev43 => ?_)
        refine x_aloadn (x := 125) rfl rfl ?_
        refine x_ldc2 (v := 29) rfl z_12_639 ?_
        refine x_inv (N := m_X12_number) (As := [.long 29]) (b := 125) (st := [.int v43, .ref 147]) (dx9 := 4) (mc := 0) (ms := 0) (host := "") 12 rfl t_X12_number ⟨Or.inl q_12_641, i_X12_number.1, i_X12_number.2⟩ ⟨by decide, rfl⟩ (congrArg Prod.fst (J.1.1 125 (12, 92) rfl)) rfl (by decide) rfl rfl ⟨by decide, by decide⟩ (sf_X12_number_r125 (jr_ofl jkl_29 (by omega)) (wd_w w2 C0.2.2.1) hD J (jmo w2 rfl z0) (jmo w2 rfl z3) (jmo w2 rfl z4) (by omega) (jmo w2 rfl z1) (jmo w2 rfl z4) (jmo w2 rfl z0) (by omega)  (fun v52 h J S44 u45 u46 u47 qu45 qu46 qu47 ru45 u48 u49 u50 qu48 qu49 qu50 ru48 P51 => ?_))
        have ev52 := jfull v52
        have Sm := jSm_tr rfl Sm S44
        have eu45 := (show 0 ≤ u45.toInt ∧ u45.toInt ≤ 400 from qu45 ▸ jrg_f J sg_125_10_11_1_0_1)
        have eu46 := (show 0 ≤ u46.toInt ∧ u46.toInt ≤ 400 from qu46 ▸ jrg_f J sg_125_8_9_1_0_1)
        have eu47 := (show 0 ≤ u47.toInt ∧ u47.toInt ≤ 400 from qu47 ▸ jrg_f J sg_125_9_10_1_0_1)
        have eu48 := (show 0 ≤ u48.toInt ∧ u48.toInt ≤ 3 from qu48 ▸ jrg_f J sg_125_11_12_1_0_1)
        obtain rfl : u47 = u49 := qu47.symm.trans qu49
        obtain rfl : u45 = u50 := qu45.symm.trans qu50
        show jX m_X12_readClause 9 0 0 92 [(0, .ref 125), (1, .int l1), (2, .int l2), (3, .int l3)] [.int v52, .int v43, .ref 147] _ 0 0 _
        refine z_iast (N := 120) (l := 0) (u := 120) (w := v52.toInt) rfl hD J Sm rfl rfl rfl (by omega) rfl (wr_147) rfl (fun h w53 J Sm => ?_)
        refine x_aloadn (x := 125) rfl rfl ?_
        refine x_aloadn (x := 125) rfl rfl ?_
        refine x_ldc2 (v := 113301093) rfl z_12_645 ?_
        refine x_inv (N := m_X12_isWord) (As := [.long 113301093]) (b := 125) (st := [.ref 125]) (dx9 := 8) (mc := 0) (ms := 0) (host := "") 12 rfl t_X12_isWord ⟨Or.inl q_12_511, i_X12_isWord.1, i_X12_isWord.2⟩ ⟨by decide, rfl⟩ (congrArg Prod.fst (J.1.1 125 (12, 92) rfl)) rfl (by decide) rfl rfl ⟨by decide, by decide⟩ (jC.of rfl k_X12_isWord rfl ?_)
        show jX m_X12_isWord 8 0 0 0 [(0, .ref 125), (1, .long 113301093)] [] _ 0 0 _
        refine x_aloadn (x := 125) rfl rfl ?_
        refine z_getM (N := 92) (v := u48) 12 11 rfl f_12_235 rfl J rfl (jmo w53 rfl qu48) ?_
        refine x_iconst (v := 1) rfl ki_1 ?_
        refine x_icne (tgt := 21) rfl rfl (ti_ne rfl jk_1 ⟨fun c54 => ?_, fun c54 => ?_⟩)
        ·
          refine x_iconst (v := 0) rfl ki_0 ?_
          refine x_zret rfl rfl (by decide) ?_
          show jX m_X12_readClause 9 0 0 101 [(0, .ref 125), (1, .int l1), (2, .int l2), (3, .int l3)] [.int 0, .ref 125] _ 0 0 _
          refine x_inv (N := m_X12_must) (As := [.int 0]) (b := 125) (st := []) (dx9 := 3) (mc := 0) (ms := 0) (host := "") 12 rfl t_X12_must ⟨Or.inl q_12_250, i_X12_must.1, i_X12_must.2⟩ ⟨by decide, rfl⟩ (congrArg Prod.fst (J.1.1 125 (12, 92) rfl)) rfl (by decide) rfl rfl ⟨by decide, by decide⟩ (sf_X12_must_r125 (jr_of jk_0 (by omega)) hD J (jmo w53 rfl qu45) (jmo w53 rfl qu46) (jmo w53 rfl qu47) (by omega) (jmo w53 rfl qu48) (jmo w53 rfl qu47) (jmo w53 rfl qu45) (by omega)  (fun h J S55 u56 u57 u58 qu56 qu57 qu58 ru56 u59 u60 u61 qu59 qu60 qu61 ru59 P62 => ?_))
          have Sm := jSm_tr rfl Sm S55
          have eu56 := (show 0 ≤ u56.toInt ∧ u56.toInt ≤ 400 from qu56 ▸ jrg_f J sg_125_10_11_1_0_1)
          have eu57 := (show 0 ≤ u57.toInt ∧ u57.toInt ≤ 400 from qu57 ▸ jrg_f J sg_125_8_9_1_0_1)
          have eu58 := (show 0 ≤ u58.toInt ∧ u58.toInt ≤ 400 from qu58 ▸ jrg_f J sg_125_9_10_1_0_1)
          have eu59 := (show 0 ≤ u59.toInt ∧ u59.toInt ≤ 3 from qu59 ▸ jrg_f J sg_125_11_12_1_0_1)
          obtain rfl : u58 = u60 := qu58.symm.trans qu60
          obtain rfl : u56 = u61 := qu56.symm.trans qu61
          show jX m_X12_readClause 9 0 0 104 [(0, .ref 125), (1, .int l1), (2, .int l2), (3, .int l3)] [] _ 0 0 _
          refine x_aloadn (x := 125) rfl rfl ?_
          refine z_getR (N := 92) (b := 147) 12 48 rfl f_12_96 rfl J rfl 16048 ⟨rfl, rfl⟩ rfl ?_
          refine x_iloadn (x := l2) rfl rfl ?_
          refine x_iconst (v := 3) rfl ki_3 ?_
          refine z_iadd rfl rfl jk_3 (by omega) (fun v63 ev63 => ?_)
          refine x_aloadn (x := 125) rfl rfl ?_
          refine x_ldc2 (v := 11) rfl z_12_267 ?_
          refine x_inv (N := m_X12_number) (As := [.long 11]) (b := 125) (st := [.int v63, .ref 147]) (dx9 := 4) (mc := 0) (ms := 0) (host := "") 12 rfl t_X12_number ⟨Or.inl q_12_641, i_X12_number.1, i_X12_number.2⟩ ⟨by decide, rfl⟩ (congrArg Prod.fst (J.1.1 125 (12, 92) rfl)) rfl (by decide) rfl rfl ⟨by decide, by decide⟩ (sf_X12_number_r125 (jr_ofl jkl_11 (by omega)) P62.1.2.2 hD J qu56 qu57 qu58 (by omega) qu59 qu58 qu56 (by omega)  (fun v72 h J S64 u65 u66 u67 qu65 qu66 qu67 ru65 u68 u69 u70 qu68 qu69 qu70 ru68 P71 => ?_))
          have ev72 := jfull v72
          have Sm := jSm_tr rfl Sm S64
          have eu65 := (show 0 ≤ u65.toInt ∧ u65.toInt ≤ 400 from qu65 ▸ jrg_f J sg_125_10_11_1_0_1)
          have eu66 := (show 0 ≤ u66.toInt ∧ u66.toInt ≤ 400 from qu66 ▸ jrg_f J sg_125_8_9_1_0_1)
          have eu67 := (show 0 ≤ u67.toInt ∧ u67.toInt ≤ 400 from qu67 ▸ jrg_f J sg_125_9_10_1_0_1)
          have eu68 := (show 0 ≤ u68.toInt ∧ u68.toInt ≤ 3 from qu68 ▸ jrg_f J sg_125_11_12_1_0_1)
          obtain rfl : u67 = u69 := qu67.symm.trans qu69
          obtain rfl : u65 = u70 := qu65.symm.trans qu70
          show jX m_X12_readClause 9 0 0 118 [(0, .ref 125), (1, .int l1), (2, .int l2), (3, .int l3)] [.int v72, .int v63, .ref 147] _ 0 0 _
          refine z_iast (N := 120) (l := 0) (u := 120) (w := v72.toInt) rfl hD J Sm rfl rfl rfl (by omega) rfl (wr_147) rfl (fun h w73 J Sm => ?_)
          refine x_aloadn (x := 125) rfl rfl ?_
          refine x_dup rfl rfl ?_
          refine z_getM (N := 92) (v := g2) 12 47 rfl f_12_636 rfl J rfl (jmo w73 rfl (jmc S64 rfl (jmc S55 rfl (jmo w53 rfl (jmc S44 rfl (jmo w2 rfl z2)))))) ?_
          refine x_iconst (v := 1) rfl ki_1 ?_
          refine z_iadd rfl rfl jk_1 (by omega) (fun v74 ev74 => ?_)
          refine z_putI (N := 92) (w := v74.toInt) 12 47 rfl f_12_636 rfl (jfin_no TX12 RX12 92 rfl rfl) hD J Sm rfl rfl rfl (pw_125_47 (by omega)) rfl (fun h w75 J Sm => ?_)
          refine x_vret rfl rfl ?_
          exact hQ _ J Sm _ _ _ (jmo w75 rfl (jmo w73 rfl qu65)) (jmo w75 rfl (jmo w73 rfl qu66)) (jmo w75 rfl (jmo w73 rfl qu67)) (by omega) _ _ _ (jmo w75 rfl (jmo w73 rfl qu68)) (jmo w75 rfl (jmo w73 rfl qu67)) (jmo w75 rfl (jmo w73 rfl qu65)) (by omega) (rk_e (zs_l (zs_m (zs_0 (zz_m (zz_k C0 w2 (jcl_e (by rw [jk_0]; omega))) (ke_c S44 rfl rfl rfl rfl rfl P51.1) P51.1.2.2) (by omega) (by omega) w53 (nm_4 P51.2 jkl_29)) (ke_t (ke_c S55 rfl rfl rfl rfl rfl P62.1) (ke_c S64 rfl rfl rfl rfl rfl P71.1))) (by omega) w73 (nm_4 P71.2 jkl_11)) (jmo w73 rfl (jmc S64 rfl (jmc S55 rfl (jmo w53 rfl (jmc S44 rfl (jmo w2 rfl z2)))))) w75 (by omega))
        ·
          refine x_aloadn (x := 125) rfl rfl ?_
          refine z_getL0 (N := 92) 12 12 rfl f_12_224 rfl J rfl (fun v76 => ?_)
          have ev76 := jfullL v76
          refine x_lloadn (x := 113301093) rfl rfl ?_
          refine z_lcmp rfl rfl jkl_113301093 (fun v77 ev77 => ?_)
          refine x_ifne (tgt := 21) rfl rfl (ti_ne rfl jk_0 ⟨fun c78 => ?_, fun c78 => ?_⟩)
          ·
            refine x_iconst (v := 0) rfl ki_0 ?_
            refine x_zret rfl rfl (by decide) ?_
            show jX m_X12_readClause 9 0 0 101 [(0, .ref 125), (1, .int l1), (2, .int l2), (3, .int l3)] [.int 0, .ref 125] _ 0 0 _
            refine x_inv (N := m_X12_must) (As := [.int 0]) (b := 125) (st := []) (dx9 := 3) (mc := 0) (ms := 0) (host := "") 12 rfl t_X12_must ⟨Or.inl q_12_250, i_X12_must.1, i_X12_must.2⟩ ⟨by decide, rfl⟩ (congrArg Prod.fst (J.1.1 125 (12, 92) rfl)) rfl (by decide) rfl rfl ⟨by decide, by decide⟩ (sf_X12_must_r125 (jr_of jk_0 (by omega)) hD J (jmo w53 rfl qu45) (jmo w53 rfl qu46) (jmo w53 rfl qu47) (by omega) (jmo w53 rfl qu48) (jmo w53 rfl qu47) (jmo w53 rfl qu45) (by omega)  (fun h J S79 u80 u81 u82 qu80 qu81 qu82 ru80 u83 u84 u85 qu83 qu84 qu85 ru83 P86 => ?_))
            have Sm := jSm_tr rfl Sm S79
            have eu80 := (show 0 ≤ u80.toInt ∧ u80.toInt ≤ 400 from qu80 ▸ jrg_f J sg_125_10_11_1_0_1)
            have eu81 := (show 0 ≤ u81.toInt ∧ u81.toInt ≤ 400 from qu81 ▸ jrg_f J sg_125_8_9_1_0_1)
            have eu82 := (show 0 ≤ u82.toInt ∧ u82.toInt ≤ 400 from qu82 ▸ jrg_f J sg_125_9_10_1_0_1)
            have eu83 := (show 0 ≤ u83.toInt ∧ u83.toInt ≤ 3 from qu83 ▸ jrg_f J sg_125_11_12_1_0_1)
            obtain rfl : u82 = u84 := qu82.symm.trans qu84
            obtain rfl : u80 = u85 := qu80.symm.trans qu85
            show jX m_X12_readClause 9 0 0 104 [(0, .ref 125), (1, .int l1), (2, .int l2), (3, .int l3)] [] _ 0 0 _
            refine x_aloadn (x := 125) rfl rfl ?_
            refine z_getR (N := 92) (b := 147) 12 48 rfl f_12_96 rfl J rfl 16048 ⟨rfl, rfl⟩ rfl ?_
            refine x_iloadn (x := l2) rfl rfl ?_
            refine x_iconst (v := 3) rfl ki_3 ?_
            refine z_iadd rfl rfl jk_3 (by omega) (fun v87 ev87 => ?_)
            refine x_aloadn (x := 125) rfl rfl ?_
            refine x_ldc2 (v := 11) rfl z_12_267 ?_
            refine x_inv (N := m_X12_number) (As := [.long 11]) (b := 125) (st := [.int v87, .ref 147]) (dx9 := 4) (mc := 0) (ms := 0) (host := "") 12 rfl t_X12_number ⟨Or.inl q_12_641, i_X12_number.1, i_X12_number.2⟩ ⟨by decide, rfl⟩ (congrArg Prod.fst (J.1.1 125 (12, 92) rfl)) rfl (by decide) rfl rfl ⟨by decide, by decide⟩ (sf_X12_number_r125 (jr_ofl jkl_11 (by omega)) P86.1.2.2 hD J qu80 qu81 qu82 (by omega) qu83 qu82 qu80 (by omega)  (fun v96 h J S88 u89 u90 u91 qu89 qu90 qu91 ru89 u92 u93 u94 qu92 qu93 qu94 ru92 P95 => ?_))
            have ev96 := jfull v96
            have Sm := jSm_tr rfl Sm S88
            have eu89 := (show 0 ≤ u89.toInt ∧ u89.toInt ≤ 400 from qu89 ▸ jrg_f J sg_125_10_11_1_0_1)
            have eu90 := (show 0 ≤ u90.toInt ∧ u90.toInt ≤ 400 from qu90 ▸ jrg_f J sg_125_8_9_1_0_1)
            have eu91 := (show 0 ≤ u91.toInt ∧ u91.toInt ≤ 400 from qu91 ▸ jrg_f J sg_125_9_10_1_0_1)
            have eu92 := (show 0 ≤ u92.toInt ∧ u92.toInt ≤ 3 from qu92 ▸ jrg_f J sg_125_11_12_1_0_1)
            obtain rfl : u91 = u93 := qu91.symm.trans qu93
            obtain rfl : u89 = u94 := qu89.symm.trans qu94
            show jX m_X12_readClause 9 0 0 118 [(0, .ref 125), (1, .int l1), (2, .int l2), (3, .int l3)] [.int v96, .int v87, .ref 147] _ 0 0 _
            refine z_iast (N := 120) (l := 0) (u := 120) (w := v96.toInt) rfl hD J Sm rfl rfl rfl (by omega) rfl (wr_147) rfl (fun h w97 J Sm => ?_)
            refine x_aloadn (x := 125) rfl rfl ?_
            refine x_dup rfl rfl ?_
            refine z_getM (N := 92) (v := g2) 12 47 rfl f_12_636 rfl J rfl (jmo w97 rfl (jmc S88 rfl (jmc S79 rfl (jmo w53 rfl (jmc S44 rfl (jmo w2 rfl z2)))))) ?_
            refine x_iconst (v := 1) rfl ki_1 ?_
            refine z_iadd rfl rfl jk_1 (by omega) (fun v98 ev98 => ?_)
            refine z_putI (N := 92) (w := v98.toInt) 12 47 rfl f_12_636 rfl (jfin_no TX12 RX12 92 rfl rfl) hD J Sm rfl rfl rfl (pw_125_47 (by omega)) rfl (fun h w99 J Sm => ?_)
            refine x_vret rfl rfl ?_
            exact hQ _ J Sm _ _ _ (jmo w99 rfl (jmo w97 rfl qu89)) (jmo w99 rfl (jmo w97 rfl qu90)) (jmo w99 rfl (jmo w97 rfl qu91)) (by omega) _ _ _ (jmo w99 rfl (jmo w97 rfl qu92)) (jmo w99 rfl (jmo w97 rfl qu91)) (jmo w99 rfl (jmo w97 rfl qu89)) (by omega) (rk_e (zs_l (zs_m (zs_0 (zz_m (zz_k C0 w2 (jcl_e (by rw [jk_0]; omega))) (ke_c S44 rfl rfl rfl rfl rfl P51.1) P51.1.2.2) (by omega) (by omega) w53 (nm_4 P51.2 jkl_29)) (ke_t (ke_c S79 rfl rfl rfl rfl rfl P86.1) (ke_c S88 rfl rfl rfl rfl rfl P95.1))) (by omega) w97 (nm_4 P95.2 jkl_11)) (jmo w97 rfl (jmc S88 rfl (jmc S79 rfl (jmo w53 rfl (jmc S44 rfl (jmo w2 rfl z2)))))) w99 (by omega))
          ·
            refine x_iconst (v := 1) rfl ki_1 ?_
            refine x_goto (tgt := 22) rfl rfl ?_
            refine x_zret rfl rfl (by decide) ?_
            show jX m_X12_readClause 9 0 0 101 [(0, .ref 125), (1, .int l1), (2, .int l2), (3, .int l3)] [.int 1, .ref 125] _ 0 0 _
            refine x_inv (N := m_X12_must) (As := [.int 1]) (b := 125) (st := []) (dx9 := 3) (mc := 0) (ms := 0) (host := "") 12 rfl t_X12_must ⟨Or.inl q_12_250, i_X12_must.1, i_X12_must.2⟩ ⟨by decide, rfl⟩ (congrArg Prod.fst (J.1.1 125 (12, 92) rfl)) rfl (by decide) rfl rfl ⟨by decide, by decide⟩ (sf_X12_must_r125 (jr_of jk_1 (by omega)) hD J (jmo w53 rfl qu45) (jmo w53 rfl qu46) (jmo w53 rfl qu47) (by omega) (jmo w53 rfl qu48) (jmo w53 rfl qu47) (jmo w53 rfl qu45) (by omega)  (fun h J S100 u101 u102 u103 qu101 qu102 qu103 ru101 u104 u105 u106 qu104 qu105 qu106 ru104 P107 => ?_))
            have Sm := jSm_tr rfl Sm S100
            have eu101 := (show 0 ≤ u101.toInt ∧ u101.toInt ≤ 400 from qu101 ▸ jrg_f J sg_125_10_11_1_0_1)
            have eu102 := (show 0 ≤ u102.toInt ∧ u102.toInt ≤ 400 from qu102 ▸ jrg_f J sg_125_8_9_1_0_1)
            have eu103 := (show 0 ≤ u103.toInt ∧ u103.toInt ≤ 400 from qu103 ▸ jrg_f J sg_125_9_10_1_0_1)
            have eu104 := (show 0 ≤ u104.toInt ∧ u104.toInt ≤ 3 from qu104 ▸ jrg_f J sg_125_11_12_1_0_1)
            obtain rfl : u103 = u105 := qu103.symm.trans qu105
            obtain rfl : u101 = u106 := qu101.symm.trans qu106
            show jX m_X12_readClause 9 0 0 104 [(0, .ref 125), (1, .int l1), (2, .int l2), (3, .int l3)] [] _ 0 0 _
            refine x_aloadn (x := 125) rfl rfl ?_
            refine z_getR (N := 92) (b := 147) 12 48 rfl f_12_96 rfl J rfl 16048 ⟨rfl, rfl⟩ rfl ?_
            refine x_iloadn (x := l2) rfl rfl ?_
            refine x_iconst (v := 3) rfl ki_3 ?_
            refine z_iadd rfl rfl jk_3 (by omega) (fun v108 ev108 => ?_)
            refine x_aloadn (x := 125) rfl rfl ?_
            refine x_ldc2 (v := 11) rfl z_12_267 ?_
            refine x_inv (N := m_X12_number) (As := [.long 11]) (b := 125) (st := [.int v108, .ref 147]) (dx9 := 4) (mc := 0) (ms := 0) (host := "") 12 rfl t_X12_number ⟨Or.inl q_12_641, i_X12_number.1, i_X12_number.2⟩ ⟨by decide, rfl⟩ (congrArg Prod.fst (J.1.1 125 (12, 92) rfl)) rfl (by decide) rfl rfl ⟨by decide, by decide⟩ (sf_X12_number_r125 (jr_ofl jkl_11 (by omega)) P107.1.2.2 hD J qu101 qu102 qu103 (by omega) qu104 qu103 qu101 (by omega)  (fun v117 h J S109 u110 u111 u112 qu110 qu111 qu112 ru110 u113 u114 u115 qu113 qu114 qu115 ru113 P116 => ?_))
            have ev117 := jfull v117
            have Sm := jSm_tr rfl Sm S109
            have eu110 := (show 0 ≤ u110.toInt ∧ u110.toInt ≤ 400 from qu110 ▸ jrg_f J sg_125_10_11_1_0_1)
            have eu111 := (show 0 ≤ u111.toInt ∧ u111.toInt ≤ 400 from qu111 ▸ jrg_f J sg_125_8_9_1_0_1)
            have eu112 := (show 0 ≤ u112.toInt ∧ u112.toInt ≤ 400 from qu112 ▸ jrg_f J sg_125_9_10_1_0_1)
            have eu113 := (show 0 ≤ u113.toInt ∧ u113.toInt ≤ 3 from qu113 ▸ jrg_f J sg_125_11_12_1_0_1)
            obtain rfl : u112 = u114 := qu112.symm.trans qu114
            obtain rfl : u110 = u115 := qu110.symm.trans qu115
            show jX m_X12_readClause 9 0 0 118 [(0, .ref 125), (1, .int l1), (2, .int l2), (3, .int l3)] [.int v117, .int v108, .ref 147] _ 0 0 _
            refine z_iast (N := 120) (l := 0) (u := 120) (w := v117.toInt) rfl hD J Sm rfl rfl rfl (by omega) rfl (wr_147) rfl (fun h w118 J Sm => ?_)
            refine x_aloadn (x := 125) rfl rfl ?_
            refine x_dup rfl rfl ?_
            refine z_getM (N := 92) (v := g2) 12 47 rfl f_12_636 rfl J rfl (jmo w118 rfl (jmc S109 rfl (jmc S100 rfl (jmo w53 rfl (jmc S44 rfl (jmo w2 rfl z2)))))) ?_
            refine x_iconst (v := 1) rfl ki_1 ?_
            refine z_iadd rfl rfl jk_1 (by omega) (fun v119 ev119 => ?_)
            refine z_putI (N := 92) (w := v119.toInt) 12 47 rfl f_12_636 rfl (jfin_no TX12 RX12 92 rfl rfl) hD J Sm rfl rfl rfl (pw_125_47 (by omega)) rfl (fun h w120 J Sm => ?_)
            refine x_vret rfl rfl ?_
            exact hQ _ J Sm _ _ _ (jmo w120 rfl (jmo w118 rfl qu110)) (jmo w120 rfl (jmo w118 rfl qu111)) (jmo w120 rfl (jmo w118 rfl qu112)) (by omega) _ _ _ (jmo w120 rfl (jmo w118 rfl qu113)) (jmo w120 rfl (jmo w118 rfl qu112)) (jmo w120 rfl (jmo w118 rfl qu110)) (by omega) (rk_e (zs_l (zs_m (zs_0 (zz_m (zz_k C0 w2 (jcl_e (by rw [jk_0]; omega))) (ke_c S44 rfl rfl rfl rfl rfl P51.1) P51.1.2.2) (by omega) (by omega) w53 (nm_4 P51.2 jkl_29)) (ke_t (ke_c S100 rfl rfl rfl rfl rfl P107.1) (ke_c S109 rfl rfl rfl rfl rfl P116.1))) (by omega) w118 (nm_4 P116.2 jkl_11)) (jmo w118 rfl (jmc S109 rfl (jmc S100 rfl (jmo w53 rfl (jmc S44 rfl (jmo w2 rfl z2)))))) w120 (by omega))
    ·
      refine x_aloadn (x := 125) rfl rfl ?_
      refine z_getR (N := 92) (b := 147) 12 48 rfl f_12_96 rfl J rfl 16048 ⟨rfl, rfl⟩ rfl ?_
      refine x_iloadn (x := l2) rfl rfl ?_
      refine x_iloadn (x := l3) rfl rfl ?_
      refine z_iadd rfl rfl rfl (by omega) (fun v121 ev121 => ?_)
      refine x_iconst (v := 0) rfl ki_0 ?_
      refine z_iast (N := 120) (l := 0) (u := 120) (w := 0) rfl hD J Sm rfl rfl rfl (by omega) jk_0 (wr_147) rfl (fun h w122 J Sm => ?_)
      refine z_iinc (x := l3) (lsx9 := fun v123 => [(3, .int v123), (0, .ref 125), (1, .int l1), (2, .int l2)]) rfl rfl rfl jko_1 (by omega) rfl (fun _ => rfl) (fun v123 ev123 => ?_)
      refine x_goto (tgt := 46) rfl rfl ?_
      exact jX.sub (jsb_c rfl (jsb_c rfl (jsb_c rfl (jsb_c rfl jsb_n)))) (ih l1 l2 v123 g0 g1 g2 g3 g4 h (by omega) (jr_of rfl (by omega)) (jr_of rfl (by omega)) (jr_mod rfl (by omega)) (jr_of rfl (by omega)) (jr_of rfl (by omega)) (jr_of rfl (by omega)) (jr_of rfl (by omega)) (jr_of rfl (by omega)) (jr_of rfl (by omega)) (zz_s C0 (by omega) (by omega) w122 (by omega)) (by omega) (by omega) (jmo w122 rfl z0) (jmo w122 rfl z1) (jmo w122 rfl z2) (jmo w122 rfl z3) (jmo w122 rfl z4) J Sm)
set_option maxRecDepth 100000 in
set_option maxHeartbeats 4000000 in
theorem ct_X12_readClause_r125_300025 {Dy : jH → Prop} {h0 : jH} {Q : Option Value → jH → Prop} (hD : jDk Dy) (hQ : ∀ hx9, jJ jSgM Dy hx9 → jSm fp_X12_readClause_r125 h0 hx9 → ∀ u0 u1 u2 : Int32, jiv hx9 125 10 = u0 → jiv hx9 125 8 = u1 → jiv hx9 125 9 = u2 → (u0.toInt ≤ u1.toInt ∧ u2.toInt ≤ u0.toInt) → ∀ u3 u4 u5 : Int32, jiv hx9 125 11 = u3 → jiv hx9 125 9 = u4 → jiv hx9 125 10 = u5 → (u3.toInt = 0 ∨ u4.toInt + 1 ≤ u5.toInt) → jRk (jnK hx9) h0 hx9 → Q none hx9) : ∀ (l1 : Int32) (g0 : Int32) (g1 : Int32) (g2 : Int32) (g3 : Int32) (g4 : Int32) (h : jH), 0 ≤ l1.toInt ∧ l1.toInt ≤ 8 → 0 ≤ g0.toInt ∧ g0.toInt ≤ 400 → 0 ≤ g1.toInt ∧ g1.toInt ≤ 3 → 0 ≤ g2.toInt ∧ g2.toInt ≤ 11 → 0 ≤ g3.toInt ∧ g3.toInt ≤ 400 → 0 ≤ g4.toInt ∧ g4.toInt ≤ 400 → jRk (jnK h) h0 h → (g0.toInt ≤ g3.toInt ∧ g4.toInt ≤ g0.toInt) → (g1.toInt = 0 ∨ g4.toInt + 1 ≤ g0.toInt) → jiv h 125 10 = g0 → jiv h 125 11 = g1 → jiv h 125 47 = g2 → jiv h 125 8 = g3 → jiv h 125 9 = g4 → jJ jSgM Dy h → jSm fp_X12_readClause_r125 h0 h → jX m_X12_readClause 9 0 0 25 [(0, .ref 125), (1, .int l1)] [.int 1, .ref 125] h 0 0 Q := by
  intro l1 g0 g1 g2 g3 g4 h y0 y1 y2 y3 y4 y5 C0 y7 y8 z0 z1 z2 z3 z4  J Sm
  refine x_inv (N := m_X12_must) (As := [.int 1]) (b := 125) (st := []) (dx9 := 3) (mc := 0) (ms := 0) (host := "") 12 rfl t_X12_must ⟨Or.inl q_12_250, i_X12_must.1, i_X12_must.2⟩ ⟨by decide, rfl⟩ (congrArg Prod.fst (J.1.1 125 (12, 92) rfl)) rfl (by decide) rfl rfl ⟨by decide, by decide⟩ (sf_X12_must_r125 (jr_of jk_1 (by omega)) hD J z0 z3 z4 (by omega) z1 z4 z0 (by omega)  (fun h J S1 u2 u3 u4 qu2 qu3 qu4 ru2 u5 u6 u7 qu5 qu6 qu7 ru5 P8 => ?_))
  have Sm := jSm_tr rfl Sm S1
  have eu2 := (show 0 ≤ u2.toInt ∧ u2.toInt ≤ 400 from qu2 ▸ jrg_f J sg_125_10_11_1_0_1)
  have eu3 := (show 0 ≤ u3.toInt ∧ u3.toInt ≤ 400 from qu3 ▸ jrg_f J sg_125_8_9_1_0_1)
  have eu4 := (show 0 ≤ u4.toInt ∧ u4.toInt ≤ 400 from qu4 ▸ jrg_f J sg_125_9_10_1_0_1)
  have eu5 := (show 0 ≤ u5.toInt ∧ u5.toInt ≤ 3 from qu5 ▸ jrg_f J sg_125_11_12_1_0_1)
  obtain rfl : u4 = u6 := qu4.symm.trans qu6
  obtain rfl : u2 = u7 := qu2.symm.trans qu7
  show jX m_X12_readClause 9 0 0 28 [(0, .ref 125), (1, .int l1)] [] _ 0 0 _
  obtain ⟨u9, qu9⟩ : ∃ v : Int32, jiv h 125 14 = v := ⟨_, rfl⟩
  have eu9 := (show 0 ≤ u9.toInt ∧ u9.toInt ≤ 1 from qu9 ▸ jrg_f J sg_125_14_15_1_0_1)
  have bk := ms_k P8 qu9
  have k0 := jk_0
  refine x_aloadn (x := 125) rfl rfl ?_
  refine z_getM (N := 92) (v := u9) 12 14 rfl f_12_214 rfl J rfl qu9 ?_
  refine x_ifeq (tgt := 36) rfl rfl (ti_eq rfl jk_0 ⟨fun c10 => ?_, fun c10 => ?_⟩)
  ·
    refine x_bipush (v := 10) rfl kb_10 ?_
    refine x_aloadn (x := 125) rfl rfl ?_
    refine z_getM (N := 92) (v := g2) 12 47 rfl f_12_636 rfl J rfl (jmc S1 rfl z2) ?_
    refine z_imul rfl jk_10 rfl (by omega) (fun v11 ev11 => ?_)
    refine x_istoren (lsx9 := [(2, .int v11), (0, .ref 125), (1, .int l1)]) rfl rfl rfl ?_
    refine x_iconst (v := 0) rfl ki_0 ?_
    refine x_istoren (lsx9 := [(3, .int 0), (2, .int v11), (0, .ref 125), (1, .int l1)]) rfl rfl rfl ?_
    exact jX.sub (jsb_c rfl (jsb_c rfl (jsb_c rfl (jsb_c rfl jsb_n)))) (ct_X12_readClause_r125_46 hD hQ  11 l1 v11 0 u2 u5 g2 u3 u4 h (by have := jk_0; omega) (jr_of rfl (by omega)) (jr_of rfl (by omega)) (jr_mod rfl (by omega)) (jr_of jk_0 (by omega)) (jr_of rfl (by omega)) (jr_of rfl (by omega)) (jr_of rfl (by omega)) (jr_of rfl (by omega)) (jr_of rfl (by omega)) (zz_0 C0 (ke_c S1 rfl rfl rfl rfl rfl P8.1) P8.1.2.2 (jmc S1 rfl z2) (by omega) (by omega)) (by omega) (by omega) qu2 qu5 (jmc S1 rfl z2) qu3 qu4 J Sm)
  ·
    refine x_vret rfl rfl ?_
    exact hQ _ J Sm _ _ _ qu2 qu3 qu4 (by omega) _ _ _ qu5 qu4 qu2 (by omega) (rk_z C0 (ke_c S1 rfl rfl rfl rfl rfl P8.1))
set_option maxRecDepth 100000 in
set_option maxHeartbeats 4000000 in
theorem ct_X12_readClause_r125_200025 {Dy : jH → Prop} {h0 : jH} {Q : Option Value → jH → Prop} (hD : jDk Dy) (hQ : ∀ hx9, jJ jSgM Dy hx9 → jSm fp_X12_readClause_r125 h0 hx9 → ∀ u0 u1 u2 : Int32, jiv hx9 125 10 = u0 → jiv hx9 125 8 = u1 → jiv hx9 125 9 = u2 → (u0.toInt ≤ u1.toInt ∧ u2.toInt ≤ u0.toInt) → ∀ u3 u4 u5 : Int32, jiv hx9 125 11 = u3 → jiv hx9 125 9 = u4 → jiv hx9 125 10 = u5 → (u3.toInt = 0 ∨ u4.toInt + 1 ≤ u5.toInt) → jRk (jnK hx9) h0 hx9 → Q none hx9) : ∀ (l1 : Int32) (g0 : Int32) (g1 : Int32) (g2 : Int32) (g3 : Int32) (h : jH), (-1) ≤ l1.toInt ∧ l1.toInt ≤ 8 → 0 ≤ g0.toInt ∧ g0.toInt ≤ 400 → 0 ≤ g1.toInt ∧ g1.toInt ≤ 3 → 0 ≤ g2.toInt ∧ g2.toInt ≤ 400 → 0 ≤ g3.toInt ∧ g3.toInt ≤ 400 → jRk (jnK h) h0 h → (g0.toInt ≤ g2.toInt ∧ g3.toInt ≤ g0.toInt) → (g1.toInt = 0 ∨ g3.toInt + 1 ≤ g0.toInt) → jiv h 125 10 = g0 → jiv h 125 11 = g1 → jiv h 125 8 = g2 → jiv h 125 9 = g3 → jJ jSgM Dy h → jSm fp_X12_readClause_r125 h0 h → jX m_X12_readClause 9 0 0 25 [(0, .ref 125), (1, .int l1)] [.int 0, .ref 125] h 0 0 Q := by
  intro l1 g0 g1 g2 g3 h y0 y1 y2 y3 y4 C0 y6 y7 z0 z1 z2 z3  J Sm
  refine x_inv (N := m_X12_must) (As := [.int 0]) (b := 125) (st := []) (dx9 := 3) (mc := 0) (ms := 0) (host := "") 12 rfl t_X12_must ⟨Or.inl q_12_250, i_X12_must.1, i_X12_must.2⟩ ⟨by decide, rfl⟩ (congrArg Prod.fst (J.1.1 125 (12, 92) rfl)) rfl (by decide) rfl rfl ⟨by decide, by decide⟩ (sf_X12_must_r125 (jr_of jk_0 (by omega)) hD J z0 z2 z3 (by omega) z1 z3 z0 (by omega)  (fun h J S1 u2 u3 u4 qu2 qu3 qu4 ru2 u5 u6 u7 qu5 qu6 qu7 ru5 P8 => ?_))
  have Sm := jSm_tr rfl Sm S1
  have eu2 := (show 0 ≤ u2.toInt ∧ u2.toInt ≤ 400 from qu2 ▸ jrg_f J sg_125_10_11_1_0_1)
  have eu3 := (show 0 ≤ u3.toInt ∧ u3.toInt ≤ 400 from qu3 ▸ jrg_f J sg_125_8_9_1_0_1)
  have eu4 := (show 0 ≤ u4.toInt ∧ u4.toInt ≤ 400 from qu4 ▸ jrg_f J sg_125_9_10_1_0_1)
  have eu5 := (show 0 ≤ u5.toInt ∧ u5.toInt ≤ 3 from qu5 ▸ jrg_f J sg_125_11_12_1_0_1)
  obtain rfl : u4 = u6 := qu4.symm.trans qu6
  obtain rfl : u2 = u7 := qu2.symm.trans qu7
  show jX m_X12_readClause 9 0 0 28 [(0, .ref 125), (1, .int l1)] [] _ 0 0 _
  obtain ⟨u9, qu9⟩ : ∃ v : Int32, jiv h 125 14 = v := ⟨_, rfl⟩
  have eu9 := (show 0 ≤ u9.toInt ∧ u9.toInt ≤ 1 from qu9 ▸ jrg_f J sg_125_14_15_1_0_1)
  have bk := ms_k P8 qu9
  have k0 := jk_0
  refine x_aloadn (x := 125) rfl rfl ?_
  refine z_getM (N := 92) (v := u9) 12 14 rfl f_12_214 rfl J rfl qu9 ?_
  refine x_ifeq (tgt := 36) rfl rfl (ti_eq rfl jk_0 (br_f (by omega) ?_))
  refine x_vret rfl rfl ?_
  exact hQ _ J Sm _ _ _ qu2 qu3 qu4 (by omega) _ _ _ qu5 qu4 qu2 (by omega) (rk_z C0 (ke_c S1 rfl rfl rfl rfl rfl P8.1))
set_option maxRecDepth 100000 in
set_option maxHeartbeats 4000000 in
theorem ct_X12_readClause_r125_24 {Dy : jH → Prop} {h0 : jH} {Q : Option Value → jH → Prop} (hD : jDk Dy) (hQ : ∀ hx9, jJ jSgM Dy hx9 → jSm fp_X12_readClause_r125 h0 hx9 → ∀ u0 u1 u2 : Int32, jiv hx9 125 10 = u0 → jiv hx9 125 8 = u1 → jiv hx9 125 9 = u2 → (u0.toInt ≤ u1.toInt ∧ u2.toInt ≤ u0.toInt) → ∀ u3 u4 u5 : Int32, jiv hx9 125 11 = u3 → jiv hx9 125 9 = u4 → jiv hx9 125 10 = u5 → (u3.toInt = 0 ∨ u4.toInt + 1 ≤ u5.toInt) → jRk (jnK hx9) h0 hx9 → Q none hx9) : ∀ (l1 : Int32) (g0 : Int32) (g1 : Int32) (g2 : Int32) (g3 : Int32) (h : jH), (-1) ≤ l1.toInt ∧ l1.toInt ≤ 8 → 0 ≤ g0.toInt ∧ g0.toInt ≤ 400 → 0 ≤ g1.toInt ∧ g1.toInt ≤ 3 → 0 ≤ g2.toInt ∧ g2.toInt ≤ 400 → 0 ≤ g3.toInt ∧ g3.toInt ≤ 400 → jRk (jnK h) h0 h → (g0.toInt ≤ g2.toInt ∧ g3.toInt ≤ g0.toInt) → (g1.toInt = 0 ∨ g3.toInt + 1 ≤ g0.toInt) → jiv h 125 10 = g0 → jiv h 125 11 = g1 → jiv h 125 8 = g2 → jiv h 125 9 = g3 → jJ jSgM Dy h → jSm fp_X12_readClause_r125 h0 h → jX m_X12_readClause 9 0 0 24 [(0, .ref 125), (1, .int l1)] [.ref 125] h 0 0 Q := by
  intro l1 g0 g1 g2 g3 h y0 y1 y2 y3 y4 C0 y6 y7 z0 z1 z2 z3  J Sm
  refine x_iconst (v := 0) rfl ki_0 ?_
  exact jX.sub (jsb_c rfl (jsb_c rfl jsb_n)) (ct_X12_readClause_r125_200025 hD hQ  l1 g0 g1 g2 g3 h (jr_of rfl (by omega)) (jr_of rfl (by omega)) (jr_of rfl (by omega)) (jr_of rfl (by omega)) (jr_of rfl (by omega)) C0 (by omega) (by omega) z0 z1 z2 z3 J Sm)
set_option maxRecDepth 100000 in
set_option maxHeartbeats 4000000 in
theorem sf_X12_readClause_r125 {Dy : jH → Prop} {h : jH} {Q : Option Value → jH → Prop} (hK : jRk (jnK h) h h) (hD : jDk Dy) (J : jJ jSgM Dy h) {p0 p1 p2 : Int32} {p3 p4 p5 : Int32} (zp0 : jiv h 125 10 = p0) (zp1 : jiv h 125 8 = p1) (zp2 : jiv h 125 9 = p2) (rl_p0 : (p0.toInt ≤ p1.toInt ∧ p2.toInt ≤ p0.toInt)) (zp3 : jiv h 125 11 = p3) (zp4 : jiv h 125 9 = p4) (zp5 : jiv h 125 10 = p5) (rl_p3 : (p3.toInt = 0 ∨ p4.toInt + 1 ≤ p5.toInt)) (hQ : ∀ hx9, jJ jSgM Dy hx9 → jSm fp_X12_readClause_r125 h hx9 → ∀ u0 u1 u2 : Int32, jiv hx9 125 10 = u0 → jiv hx9 125 8 = u1 → jiv hx9 125 9 = u2 → (u0.toInt ≤ u1.toInt ∧ u2.toInt ≤ u0.toInt) → ∀ u3 u4 u5 : Int32, jiv hx9 125 11 = u3 → jiv hx9 125 9 = u4 → jiv hx9 125 10 = u5 → (u3.toInt = 0 ∨ u4.toInt + 1 ≤ u5.toInt) → jRk (jnK hx9) h hx9 → Q none hx9) : jC m_X12_readClause 9 0 0 [.ref 125] h Q := by
  refine jC.of rfl k_X12_readClause rfl ?_
  have Sm := jSm_rf fp_X12_readClause_r125 h
  have ep0 := (show 0 ≤ p0.toInt ∧ p0.toInt ≤ 400 from zp0 ▸ jrg_f J sg_125_10_11_1_0_1)
  have ep1 := (show 0 ≤ p1.toInt ∧ p1.toInt ≤ 400 from zp1 ▸ jrg_f J sg_125_8_9_1_0_1)
  have ep2 := (show 0 ≤ p2.toInt ∧ p2.toInt ≤ 400 from zp2 ▸ jrg_f J sg_125_9_10_1_0_1)
  have ep3 := (show 0 ≤ p3.toInt ∧ p3.toInt ≤ 3 from zp3 ▸ jrg_f J sg_125_11_12_1_0_1)
  have ep4 := (show 0 ≤ p4.toInt ∧ p4.toInt ≤ 400 from zp4 ▸ jrg_f J sg_125_9_10_1_0_1)
  have ep5 := (show 0 ≤ p5.toInt ∧ p5.toInt ≤ 400 from zp5 ▸ jrg_f J sg_125_10_11_1_0_1)
  obtain rfl : p2 = p4 := zp2.symm.trans zp4
  obtain rfl : p0 = p5 := zp0.symm.trans zp5
  skip
  show jX m_X12_readClause 9 0 0 0 [(0, .ref 125)] [] _ 0 0 _
  refine x_aloadn (x := 125) rfl rfl ?_
  refine x_inv (N := m_X12_kindAt) (As := []) (b := 125) (st := []) (dx9 := 2) (mc := 0) (ms := 0) (host := "") 12 rfl t_X12_kindAt ⟨Or.inl q_12_633, i_X12_kindAt.1, i_X12_kindAt.2⟩ ⟨by decide, rfl⟩ (congrArg Prod.fst (J.1.1 125 (12, 92) rfl)) rfl (by decide) rfl rfl ⟨by decide, by decide⟩ (sf_X12_kindAt_r125  hD J  (fun v2 h ev2 J S1 => ?_))
  have Sm := jSm_tr rfl Sm S1
  show jX m_X12_readClause 9 0 0 4 [(0, .ref 125)] [.int v2] _ 0 0 _
  refine x_istoren (lsx9 := [(1, .int v2), (0, .ref 125)]) rfl rfl rfl ?_
  refine x_aloadn (x := 125) rfl rfl ?_
  refine x_iloadn (x := v2) rfl rfl ?_
  refine x_iconst (v := (-1)) rfl ki_m1 ?_
  refine x_iceq (tgt := 24) rfl rfl (ti_eq rfl jk_m1 ⟨fun c3 => ?_, fun c3 => ?_⟩)
  ·
    exact jX.sub (jsb_c rfl (jsb_c rfl jsb_n)) (ct_X12_readClause_r125_24 hD hQ  v2 p0 p3 p1 p2 h (jr_of rfl (by omega)) (jr_of rfl (by omega)) (jr_of rfl (by omega)) (jr_of rfl (by omega)) (jr_of rfl (by omega)) (rk_z hK (ke_z S1 rfl rfl rfl rfl rfl rfl rfl)) (by omega) (by omega) (jmc S1 rfl zp0) (jmc S1 rfl zp3) (jmc S1 rfl zp1) (jmc S1 rfl zp2) J Sm)
  ·
    refine x_aloadn (x := 125) rfl rfl ?_
    refine z_getI (N := 92) 12 47 rfl f_12_636 rfl J rfl sg_125_47_48_1_0_1 (fun v4 qv4 ev4 => ?_)
    refine x_bipush (v := 12) rfl kb_12 ?_
    refine x_icge (tgt := 24) rfl rfl (ti_ge rfl jk_12 ⟨fun c5 => ?_, fun c5 => ?_⟩)
    ·
      exact jX.sub (jsb_c rfl (jsb_c rfl jsb_n)) (ct_X12_readClause_r125_24 hD hQ  v2 p0 p3 p1 p2 h (jr_of rfl (by omega)) (jr_of rfl (by omega)) (jr_of rfl (by omega)) (jr_of rfl (by omega)) (jr_of rfl (by omega)) (rk_z hK (ke_z S1 rfl rfl rfl rfl rfl rfl rfl)) (by omega) (by omega) (jmc S1 rfl zp0) (jmc S1 rfl zp3) (jmc S1 rfl zp1) (jmc S1 rfl zp2) J Sm)
    ·
      refine x_iconst (v := 1) rfl ki_1 ?_
      refine x_goto (tgt := 25) rfl rfl ?_
      exact jX.sub (jsb_c rfl (jsb_c rfl jsb_n)) (ct_X12_readClause_r125_300025 hD hQ  v2 p0 p3 v4 p1 p2 h (jr_of rfl (by omega)) (jr_of rfl (by omega)) (jr_of rfl (by omega)) (jr_of rfl (by omega)) (jr_of rfl (by omega)) (jr_of rfl (by omega)) (rk_z hK (ke_z S1 rfl rfl rfl rfl rfl rfl rfl)) (by omega) (by omega) (jmc S1 rfl zp0) (jmc S1 rfl zp3) qv4 (jmc S1 rfl zp1) (jmc S1 rfl zp2) J Sm)
