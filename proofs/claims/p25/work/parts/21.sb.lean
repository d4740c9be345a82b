def fp_X12_dayAt_r125 : jFp := []
set_option maxRecDepth 100000 in
set_option maxHeartbeats 4000000 in
theorem sf_X12_dayAt_r125 {Dy : jH → Prop} {h : jH} {Q : Option Value → jH → Prop} {a1 : Int32} (y1 : 0 ≤ a1.toInt ∧ a1.toInt ≤ 599) (hD : jDk Dy) (J : jJ jSgM Dy h) (hQ : ∀ (v : Int32) hx9, 0 ≤ v.toInt ∧ v.toInt ≤ 146399 → jJ jSgM Dy hx9 → jSm fp_X12_dayAt_r125 h hx9 → Q (some (.int v)) hx9) : jC m_X12_dayAt 3 0 0 [.ref 125, .int a1] h Q := by
  refine jC.of rfl k_X12_dayAt rfl ?_
  have Sm := jSm_rf fp_X12_dayAt_r125 h
  show jX m_X12_dayAt 3 0 0 0 [(0, .ref 125), (1, .int a1)] [] _ 0 0 _
  refine x_aloadn (x := 125) rfl rfl ?_
  refine x_iloadn (x := a1) rfl rfl ?_
  refine x_iconst (v := 3) rfl ki_3 ?_
  refine z_idiv rfl rfl jk_3 (by omega) (by omega) (fun v1 ev1 => ?_)
  refine x_inv (N := m_X12_dayOf) (As := [.int v1]) (b := 125) (st := []) (dx9 := 2) (mc := 0) (ms := 0) (host := "") 12 rfl t_X12_dayOf ⟨Or.inl q_12_335, i_X12_dayOf.1, i_X12_dayOf.2⟩ ⟨by decide, rfl⟩ (congrArg Prod.fst (J.1.1 125 (12, 92) rfl)) rfl (by decide) rfl rfl ⟨by decide, by decide⟩ (jC.of rfl k_X12_dayOf rfl ?_)
  show jX m_X12_dayOf 2 0 0 0 [(0, .ref 125), (1, .int v1)] [] _ 0 0 _
  refine x_aloadn (x := 125) rfl rfl ?_
  refine z_getR (N := 92) (b := 126) 12 2 rfl f_12_8 rfl J rfl 16002 ⟨rfl, rfl⟩ rfl ?_
  refine x_aloadn (x := 125) rfl rfl ?_
  refine x_iloadn (x := v1) rfl rfl ?_
  refine x_inv (N := m_X12_at) (As := [.int v1]) (b := 125) (st := [.ref 126]) (dx9 := 1) (mc := 0) (ms := 0) (host := "") 12 rfl t_X12_at ⟨Or.inl q_12_254, i_X12_at.1, i_X12_at.2⟩ ⟨by decide, rfl⟩ (congrArg Prod.fst (J.1.1 125 (12, 92) rfl)) rfl (by decide) rfl rfl ⟨by decide, by decide⟩ (jC.of rfl k_X12_at rfl ?_)
  show jX m_X12_at 1 0 0 0 [(0, .ref 125), (1, .int v1)] [] _ 0 0 _
  refine x_bipush (v := 20) rfl kb_20 ?_
  refine x_bipush (v := 90) rfl kb_90 ?_
  refine x_iloadn (x := v1) rfl rfl ?_
  refine z_imul rfl jk_90 rfl (by omega) (fun v2 ev2 => ?_)
  refine z_iadd rfl jk_20 rfl (by omega) (fun v3 ev3 => ?_)
  refine x_iret rfl rfl ?_
  show jX m_X12_dayOf 2 0 0 9 [(0, .ref 125), (1, .int v1)] [.int v3, .ref 126] _ 0 0 _
  refine x_iconst (v := 2) rfl ki_2 ?_
  refine z_iadd rfl rfl jk_2 (by omega) (fun v4 ev4 => ?_)
  refine z_iald (N := 50660) rfl J rfl sg_126_20_18020_90_2_3 rfl (by omega) (fun v5 qv5 ev5 => ?_)
  refine x_iret rfl rfl ?_
  show jX m_X12_dayAt 3 0 0 7 [(0, .ref 125), (1, .int a1)] [.int v5] _ 0 0 _
  refine x_iret rfl rfl ?_
  exact hQ _ _ (jr_of rfl (by omega)) J Sm
def fp_X12_partOf_r125 : jFp := []
set_option maxRecDepth 100000 in
set_option maxHeartbeats 4000000 in
theorem ct_X12_partOf_r125_800042 {Dy : jH → Prop} {h0 : jH} {Q : Option Value → jH → Prop} (hD : jDk Dy) (hQ : ∀ (v : Int32) hx9, 0 ≤ v.toInt ∧ v.toInt ≤ 6 → jJ jSgM Dy hx9 → jSm fp_X12_partOf_r125 h0 hx9 → Q (some (.int v)) hx9) : ∀ (h : jH), jJ jSgM Dy h → jSm fp_X12_partOf_r125 h0 h → jX m_X12_partOf 3 0 0 42 [] [.int 6] h 0 0 Q := by
  intro  h    J Sm
  refine x_iret rfl rfl ?_
  exact hQ _ _ (jr_of jk_6 (by omega)) J Sm
set_option maxRecDepth 100000 in
set_option maxHeartbeats 4000000 in
theorem ct_X12_partOf_r125_700042 {Dy : jH → Prop} {h0 : jH} {Q : Option Value → jH → Prop} (hD : jDk Dy) (hQ : ∀ (v : Int32) hx9, 0 ≤ v.toInt ∧ v.toInt ≤ 6 → jJ jSgM Dy hx9 → jSm fp_X12_partOf_r125 h0 hx9 → Q (some (.int v)) hx9) : ∀ (h : jH), jJ jSgM Dy h → jSm fp_X12_partOf_r125 h0 h → jX m_X12_partOf 3 0 0 42 [] [.int 5] h 0 0 Q := by
  intro  h    J Sm
  refine x_iret rfl rfl ?_
  exact hQ _ _ (jr_of jk_5 (by omega)) J Sm
set_option maxRecDepth 100000 in
set_option maxHeartbeats 4000000 in
theorem ct_X12_partOf_r125_42 {Dy : jH → Prop} {h0 : jH} {Q : Option Value → jH → Prop} (hD : jDk Dy) (hQ : ∀ (v : Int32) hx9, 0 ≤ v.toInt ∧ v.toInt ≤ 6 → jJ jSgM Dy hx9 → jSm fp_X12_partOf_r125 h0 hx9 → Q (some (.int v)) hx9) : ∀ (s0 : Int32) (h : jH), 0 ≤ s0.toInt ∧ s0.toInt ≤ 5 → jJ jSgM Dy h → jSm fp_X12_partOf_r125 h0 h → jX m_X12_partOf 3 0 0 42 [] [.int s0] h 0 0 Q := by
  intro s0 h y0   J Sm
  refine x_iret rfl rfl ?_
  exact hQ _ _ (jr_of rfl (by omega)) J Sm
set_option maxRecDepth 100000 in
set_option maxHeartbeats 4000000 in
theorem sf_X12_partOf_r125 {Dy : jH → Prop} {h : jH} {Q : Option Value → jH → Prop} {a1 : Int32} (y1 : 0 ≤ a1.toInt ∧ a1.toInt ≤ 599) (hD : jDk Dy) (J : jJ jSgM Dy h) (hQ : ∀ (v : Int32) hx9, 0 ≤ v.toInt ∧ v.toInt ≤ 6 → jJ jSgM Dy hx9 → jSm fp_X12_partOf_r125 h hx9 → Q (some (.int v)) hx9) : jC m_X12_partOf 3 0 0 [.ref 125, .int a1] h Q := by
  refine jC.of rfl k_X12_partOf rfl ?_
  have Sm := jSm_rf fp_X12_partOf_r125 h
  show jX m_X12_partOf 3 0 0 0 [(0, .ref 125), (1, .int a1)] [] _ 0 0 _
  refine x_aloadn (x := 125) rfl rfl ?_
  refine x_iloadn (x := a1) rfl rfl ?_
  refine x_iconst (v := 3) rfl ki_3 ?_
  refine z_idiv rfl rfl jk_3 (by omega) (by omega) (fun v1 ev1 => ?_)
  refine x_inv (N := m_X12_bookOf) (As := [.int v1]) (b := 125) (st := []) (dx9 := 2) (mc := 0) (ms := 0) (host := "") 12 rfl t_X12_bookOf ⟨Or.inl q_12_299, i_X12_bookOf.1, i_X12_bookOf.2⟩ ⟨by decide, rfl⟩ (congrArg Prod.fst (J.1.1 125 (12, 92) rfl)) rfl (by decide) rfl rfl ⟨by decide, by decide⟩ (jC.of rfl k_X12_bookOf rfl ?_)
  show jX m_X12_bookOf 2 0 0 0 [(0, .ref 125), (1, .int v1)] [] _ 0 0 _
  refine x_aloadn (x := 125) rfl rfl ?_
  refine z_getR (N := 92) (b := 126) 12 2 rfl f_12_8 rfl J rfl 16002 ⟨rfl, rfl⟩ rfl ?_
  refine x_aloadn (x := 125) rfl rfl ?_
  refine x_iloadn (x := v1) rfl rfl ?_
  refine x_inv (N := m_X12_at) (As := [.int v1]) (b := 125) (st := [.ref 126]) (dx9 := 1) (mc := 0) (ms := 0) (host := "") 12 rfl t_X12_at ⟨Or.inl q_12_254, i_X12_at.1, i_X12_at.2⟩ ⟨by decide, rfl⟩ (congrArg Prod.fst (J.1.1 125 (12, 92) rfl)) rfl (by decide) rfl rfl ⟨by decide, by decide⟩ (jC.of rfl k_X12_at rfl ?_)
  show jX m_X12_at 1 0 0 0 [(0, .ref 125), (1, .int v1)] [] _ 0 0 _
  refine x_bipush (v := 20) rfl kb_20 ?_
  refine x_bipush (v := 90) rfl kb_90 ?_
  refine x_iloadn (x := v1) rfl rfl ?_
  refine z_imul rfl jk_90 rfl (by omega) (fun v2 ev2 => ?_)
  refine z_iadd rfl jk_20 rfl (by omega) (fun v3 ev3 => ?_)
  refine x_iret rfl rfl ?_
  show jX m_X12_bookOf 2 0 0 9 [(0, .ref 125), (1, .int v1)] [.int v3, .ref 126] _ 0 0 _
  refine z_iald (N := 50660) rfl J rfl sg_126_20_18020_90_0_1 rfl (by omega) (fun v4 qv4 ev4 => ?_)
  refine x_iret rfl rfl ?_
  show jX m_X12_partOf 3 0 0 7 [(0, .ref 125), (1, .int a1)] [.int v4] _ 0 0 _
  refine x_istoren (lsx9 := [(2, .int v4), (0, .ref 125), (1, .int a1)]) rfl rfl rfl ?_
  refine x_iloadn (x := v4) rfl rfl ?_
  refine x_ifne (tgt := 18) rfl rfl (ti_ne rfl jk_0 ⟨fun c5 => ?_, fun c5 => ?_⟩)
  ·
    refine x_iloadn (x := v4) rfl rfl ?_
    refine x_iconst (v := 1) rfl ki_1 ?_
    refine x_icne (tgt := 31) rfl rfl (ti_ne rfl jk_1 ⟨fun c6 => ?_, fun c6 => ?_⟩)
    ·
      refine x_iloadn (x := v4) rfl rfl ?_
      refine x_iconst (v := 2) rfl ki_2 ?_
      refine x_icne (tgt := 40) rfl rfl (ti_ne rfl jk_2 ⟨fun c7 => ?_, fun c7 => ?_⟩)
      ·
        refine x_bipush (v := 6) rfl kb_6 ?_
        exact jX.sub jsb_n (ct_X12_partOf_r125_800042 hD hQ  h J Sm)
      ·
        refine x_iconst (v := 5) rfl ki_5 ?_
        refine x_goto (tgt := 42) rfl rfl ?_
        exact jX.sub jsb_n (ct_X12_partOf_r125_700042 hD hQ  h J Sm)
    ·
      refine x_iconst (v := 3) rfl ki_3 ?_
      refine x_iloadn (x := a1) rfl rfl ?_
      refine x_iconst (v := 3) rfl ki_3 ?_
      refine z_irem rfl rfl jk_3 (by omega) (by omega) (fun v8 ev8 => ?_)
      refine z_iadd rfl jk_3 rfl (by omega) (fun v9 ev9 => ?_)
      refine x_goto (tgt := 42) rfl rfl ?_
      exact jX.sub jsb_n (ct_X12_partOf_r125_42 hD hQ  v9 h (jr_of rfl (by omega)) J Sm)
  ·
    refine x_iloadn (x := a1) rfl rfl ?_
    refine x_iconst (v := 3) rfl ki_3 ?_
    refine z_irem rfl rfl jk_3 (by omega) (by omega) (fun v10 ev10 => ?_)
    refine x_goto (tgt := 42) rfl rfl ?_
    exact jX.sub jsb_n (ct_X12_partOf_r125_42 hD hQ  v10 h (jr_of rfl (by omega)) J Sm)
def fp_X12_mentionOf_r125 : jFp := []
set_option maxRecDepth 100000 in
set_option maxHeartbeats 4000000 in
theorem ct_X12_mentionOf_r125_74 {Dy : jH → Prop} {h0 : jH} {Q : Option Value → jH → Prop} {R6 : Int} (hD : jDk Dy) (hQ : ∀ (v : Int32) hx9, (-1) ≤ v.toInt ∧ v.toInt ≤ 599 → jJ jSgM Dy hx9 → jSm fp_X12_mentionOf_r125 h0 hx9 → Q (some (.int v)) hx9) (k6 : ∀ (l1 : Int32) (l2 : Int32) (l3 : Int32) (l4 : Int32) (l5 : Int32) (h : jH), 600 - l5.toInt < R6 → (-1) ≤ l1.toInt ∧ l1.toInt ≤ 599 → 0 ≤ l2.toInt ∧ l2.toInt ≤ 5 → 0 ≤ l3.toInt ∧ l3.toInt ≤ 146399 → (-1) ≤ l4.toInt ∧ l4.toInt ≤ 599 → 0 ≤ l5.toInt ∧ l5.toInt ≤ 600 → jJ jSgM Dy h → jSm fp_X12_mentionOf_r125 h0 h → jX m_X12_mentionOf 4 0 0 6 [(0, .ref 125), (1, .int l1), (2, .int l2), (3, .int l3), (4, .int l4), (5, .int l5)] [] h 0 0 Q) : ∀ (l1 : Int32) (l2 : Int32) (l3 : Int32) (l4 : Int32) (l5 : Int32) (h : jH), (-1) ≤ l1.toInt ∧ l1.toInt ≤ 599 → 0 ≤ l2.toInt ∧ l2.toInt ≤ 5 → 0 ≤ l3.toInt ∧ l3.toInt ≤ 146399 → (-1) ≤ l4.toInt ∧ l4.toInt ≤ 599 → 0 ≤ l5.toInt ∧ l5.toInt ≤ 599 → 600 - l5.toInt ≤ R6 → jJ jSgM Dy h → jSm fp_X12_mentionOf_r125 h0 h → jX m_X12_mentionOf 4 0 0 74 [(0, .ref 125), (1, .int l1), (2, .int l2), (3, .int l3), (4, .int l4), (5, .int l5)] [] h 0 0 Q := by
  intro l1 l2 l3 l4 l5 h y0 y1 y2 y3 y4  m6 J Sm
  refine z_iinc (x := l5) (lsx9 := fun v1 => [(5, .int v1), (0, .ref 125), (1, .int l1), (2, .int l2), (3, .int l3), (4, .int l4)]) rfl rfl rfl jko_1 (by omega) rfl (fun _ => rfl) (fun v1 ev1 => ?_)
  refine x_goto (tgt := 6) rfl rfl ?_
  exact jX.sub (jsb_c rfl (jsb_c rfl (jsb_c rfl (jsb_c rfl (jsb_c rfl (jsb_c rfl jsb_n)))))) (k6 l1 l2 l3 l4 v1 h (by omega) (jr_of rfl (by omega)) (jr_of rfl (by omega)) (jr_of rfl (by omega)) (jr_of rfl (by omega)) (jr_of rfl (by omega)) J Sm)
set_option maxRecDepth 100000 in
set_option maxHeartbeats 4000000 in
theorem ct_X12_mentionOf_r125_70 {Dy : jH → Prop} {h0 : jH} {Q : Option Value → jH → Prop} {R6 : Int} (hD : jDk Dy) (hQ : ∀ (v : Int32) hx9, (-1) ≤ v.toInt ∧ v.toInt ≤ 599 → jJ jSgM Dy hx9 → jSm fp_X12_mentionOf_r125 h0 hx9 → Q (some (.int v)) hx9) (k6 : ∀ (l1 : Int32) (l2 : Int32) (l3 : Int32) (l4 : Int32) (l5 : Int32) (h : jH), 600 - l5.toInt < R6 → (-1) ≤ l1.toInt ∧ l1.toInt ≤ 599 → 0 ≤ l2.toInt ∧ l2.toInt ≤ 5 → 0 ≤ l3.toInt ∧ l3.toInt ≤ 146399 → (-1) ≤ l4.toInt ∧ l4.toInt ≤ 599 → 0 ≤ l5.toInt ∧ l5.toInt ≤ 600 → jJ jSgM Dy h → jSm fp_X12_mentionOf_r125 h0 h → jX m_X12_mentionOf 4 0 0 6 [(0, .ref 125), (1, .int l1), (2, .int l2), (3, .int l3), (4, .int l4), (5, .int l5)] [] h 0 0 Q) : ∀ (l1 : Int32) (l2 : Int32) (l3 : Int32) (l5 : Int32) (h : jH), (-1) ≤ l1.toInt ∧ l1.toInt ≤ 599 → 0 ≤ l2.toInt ∧ l2.toInt ≤ 5 → 0 ≤ l3.toInt ∧ l3.toInt ≤ 146399 → 0 ≤ l5.toInt ∧ l5.toInt ≤ 599 → 600 - l5.toInt ≤ R6 → jJ jSgM Dy h → jSm fp_X12_mentionOf_r125 h0 h → jX m_X12_mentionOf 4 0 0 70 [(0, .ref 125), (1, .int l1), (2, .int l2), (3, .int l3), (5, .int l5)] [] h 0 0 Q := by
  intro l1 l2 l3 l5 h y0 y1 y2 y3  m6 J Sm
  refine x_iload (x := l5) rfl rfl ?_
  refine x_istore (lsx9 := [(4, .int l5), (0, .ref 125), (1, .int l1), (2, .int l2), (3, .int l3), (5, .int l5)]) rfl rfl rfl ?_
  exact jX.sub (jsb_c rfl (jsb_c rfl (jsb_c rfl (jsb_c rfl (jsb_c rfl (jsb_c rfl jsb_n)))))) (ct_X12_mentionOf_r125_74 hD hQ k6 l1 l2 l3 l5 l5 h (jr_of rfl (by omega)) (jr_of rfl (by omega)) (jr_of rfl (by omega)) (jr_of rfl (by omega)) (jr_of rfl (by omega)) (by omega) J Sm)
set_option maxRecDepth 100000 in
set_option maxHeartbeats 4000000 in
theorem ct_X12_mentionOf_r125_6 {Dy : jH → Prop} {h0 : jH} {Q : Option Value → jH → Prop} (hD : jDk Dy) (hQ : ∀ (v : Int32) hx9, (-1) ≤ v.toInt ∧ v.toInt ≤ 599 → jJ jSgM Dy hx9 → jSm fp_X12_mentionOf_r125 h0 hx9 → Q (some (.int v)) hx9) : ∀ r : Nat, ∀ (l1 : Int32) (l2 : Int32) (l3 : Int32) (l4 : Int32) (l5 : Int32) (h : jH), 600 - l5.toInt < (r : Int) → (-1) ≤ l1.toInt ∧ l1.toInt ≤ 599 → 0 ≤ l2.toInt ∧ l2.toInt ≤ 5 → 0 ≤ l3.toInt ∧ l3.toInt ≤ 146399 → (-1) ≤ l4.toInt ∧ l4.toInt ≤ 599 → 0 ≤ l5.toInt ∧ l5.toInt ≤ 600 → jJ jSgM Dy h → jSm fp_X12_mentionOf_r125 h0 h → jX m_X12_mentionOf 4 0 0 6 [(0, .ref 125), (1, .int l1), (2, .int l2), (3, .int l3), (4, .int l4), (5, .int l5)] [] h 0 0 Q := by
  intro r
  induction r with
  | zero =>
    intro l1 l2 l3 l4 l5 h hm y0 y1 y2 y3 y4   J Sm
    exfalso
    omega
  | succ r ih =>
    intro l1 l2 l3 l4 l5 h hm y0 y1 y2 y3 y4   J Sm
    refine x_iload (x := l5) rfl rfl ?_
    refine x_iconst (v := 3) rfl ki_3 ?_
    refine x_aloadn (x := 125) rfl rfl ?_
    refine z_getR (N := 92) (b := 126) 12 2 rfl f_12_8 rfl J rfl 16002 ⟨rfl, rfl⟩ rfl ?_
    refine x_iconst (v := 0) rfl ki_0 ?_
    refine z_iald (N := 50660) rfl J rfl sg_126_0_1_1_0_1 jk_0 (by omega) (fun v1 qv1 ev1 => ?_)
    refine z_imul rfl jk_3 rfl (by omega) (fun v2 ev2 => ?_)
    refine x_icge (tgt := 80) rfl rfl (ti_ge rfl rfl ⟨fun c3 => ?_, fun c3 => ?_⟩)
    ·
      refine x_iload (x := l4) rfl rfl ?_
      refine x_iret rfl rfl ?_
      exact hQ _ _ (jr_of rfl (by omega)) J Sm
    ·
      refine x_aloadn (x := 125) rfl rfl ?_
      refine z_getR (N := 92) (b := 139) 12 29 rfl f_12_72 rfl J rfl 16029 ⟨rfl, rfl⟩ rfl ?_
      refine x_iload (x := l5) rfl rfl ?_
      refine z_iald (N := 600) rfl J rfl sg_139_0_600_1_0_1 rfl (by omega) (fun v4 qv4 ev4 => ?_)
      refine x_iloadn (x := l1) rfl rfl ?_
      refine x_icne (tgt := 74) rfl rfl (ti_ne rfl rfl ⟨fun c5 => ?_, fun c5 => ?_⟩)
      ·
        exact jX.sub (jsb_c rfl (jsb_c rfl (jsb_c rfl (jsb_c rfl (jsb_c rfl (jsb_c rfl jsb_n)))))) (ct_X12_mentionOf_r125_74 hD hQ ih l1 l2 l3 l4 l5 h (jr_of rfl (by omega)) (jr_of rfl (by omega)) (jr_of rfl (by omega)) (jr_of rfl (by omega)) (jr_of rfl (by omega)) (by omega) J Sm)
      ·
        refine x_aloadn (x := 125) rfl rfl ?_
        refine x_iload (x := l5) rfl rfl ?_
        refine x_inv (N := m_X12_partOf) (As := [.int l5]) (b := 125) (st := []) (dx9 := 3) (mc := 0) (ms := 0) (host := "") 12 rfl t_X12_partOf ⟨Or.inl q_12_338, i_X12_partOf.1, i_X12_partOf.2⟩ ⟨by decide, rfl⟩ (congrArg Prod.fst (J.1.1 125 (12, 92) rfl)) rfl (by decide) rfl rfl ⟨by decide, by decide⟩ (sf_X12_partOf_r125 (jr_of rfl (by omega)) hD J  (fun v7 h ev7 J S6 => ?_))
        have Sm := jSm_tr rfl Sm S6
        show jX m_X12_mentionOf 4 0 0 36 [(0, .ref 125), (1, .int l1), (2, .int l2), (3, .int l3), (4, .int l4), (5, .int l5)] [.int v7] _ 0 0 _
        refine x_iloadn (x := l2) rfl rfl ?_
        refine x_icne (tgt := 74) rfl rfl (ti_ne rfl rfl ⟨fun c8 => ?_, fun c8 => ?_⟩)
        ·
          exact jX.sub (jsb_c rfl (jsb_c rfl (jsb_c rfl (jsb_c rfl (jsb_c rfl (jsb_c rfl jsb_n)))))) (ct_X12_mentionOf_r125_74 hD hQ ih l1 l2 l3 l4 l5 h (jr_of rfl (by omega)) (jr_of rfl (by omega)) (jr_of rfl (by omega)) (jr_of rfl (by omega)) (jr_of rfl (by omega)) (by omega) J Sm)
        ·
          refine x_aloadn (x := 125) rfl rfl ?_
          refine x_iload (x := l5) rfl rfl ?_
          refine x_inv (N := m_X12_dayAt) (As := [.int l5]) (b := 125) (st := []) (dx9 := 3) (mc := 0) (ms := 0) (host := "") 12 rfl t_X12_dayAt ⟨Or.inl q_12_347, i_X12_dayAt.1, i_X12_dayAt.2⟩ ⟨by decide, rfl⟩ (congrArg Prod.fst (J.1.1 125 (12, 92) rfl)) rfl (by decide) rfl rfl ⟨by decide, by decide⟩ (sf_X12_dayAt_r125 (jr_of rfl (by omega)) hD J  (fun v10 h ev10 J S9 => ?_))
          have Sm := jSm_tr rfl Sm S9
          show jX m_X12_mentionOf 4 0 0 46 [(0, .ref 125), (1, .int l1), (2, .int l2), (3, .int l3), (4, .int l4), (5, .int l5)] [.int v10] _ 0 0 _
          refine x_iloadn (x := l3) rfl rfl ?_
          refine x_icgt (tgt := 74) rfl rfl (ti_gt rfl rfl ⟨fun c11 => ?_, fun c11 => ?_⟩)
          ·
            exact jX.sub (jsb_c rfl (jsb_c rfl (jsb_c rfl (jsb_c rfl (jsb_c rfl (jsb_c rfl jsb_n)))))) (ct_X12_mentionOf_r125_74 hD hQ ih l1 l2 l3 l4 l5 h (jr_of rfl (by omega)) (jr_of rfl (by omega)) (jr_of rfl (by omega)) (jr_of rfl (by omega)) (jr_of rfl (by omega)) (by omega) J Sm)
          ·
            refine x_iload (x := l4) rfl rfl ?_
            refine x_iflt (tgt := 70) rfl rfl (ti_lt rfl jk_0 ⟨fun c12 => ?_, fun c12 => ?_⟩)
            ·
              exact jX.sub (jsb_c rfl (jsb_c rfl (jsb_c rfl (jsb_c rfl (jsb_c rfl jsb_n))))) (ct_X12_mentionOf_r125_70 hD hQ ih l1 l2 l3 l5 h (jr_of rfl (by omega)) (jr_of rfl (by omega)) (jr_of rfl (by omega)) (jr_of rfl (by omega)) (by omega) J Sm)
            ·
              refine x_aloadn (x := 125) rfl rfl ?_
              refine x_iload (x := l5) rfl rfl ?_
              refine x_inv (N := m_X12_dayAt) (As := [.int l5]) (b := 125) (st := []) (dx9 := 3) (mc := 0) (ms := 0) (host := "") 12 rfl t_X12_dayAt ⟨Or.inl q_12_347, i_X12_dayAt.1, i_X12_dayAt.2⟩ ⟨by decide, rfl⟩ (congrArg Prod.fst (J.1.1 125 (12, 92) rfl)) rfl (by decide) rfl rfl ⟨by decide, by decide⟩ (sf_X12_dayAt_r125 (jr_of rfl (by omega)) hD J  (fun v14 h ev14 J S13 => ?_))
              have Sm := jSm_tr rfl Sm S13
              show jX m_X12_mentionOf 4 0 0 61 [(0, .ref 125), (1, .int l1), (2, .int l2), (3, .int l3), (4, .int l4), (5, .int l5)] [.int v14] _ 0 0 _
              refine x_aloadn (x := 125) rfl rfl ?_
              refine x_iload (x := l4) rfl rfl ?_
              refine x_inv (N := m_X12_dayAt) (As := [.int l4]) (b := 125) (st := [.int v14]) (dx9 := 3) (mc := 0) (ms := 0) (host := "") 12 rfl t_X12_dayAt ⟨Or.inl q_12_347, i_X12_dayAt.1, i_X12_dayAt.2⟩ ⟨by decide, rfl⟩ (congrArg Prod.fst (J.1.1 125 (12, 92) rfl)) rfl (by decide) rfl rfl ⟨by decide, by decide⟩ (sf_X12_dayAt_r125 (jr_of rfl (by omega)) hD J  (fun v16 h ev16 J S15 => ?_))
              have Sm := jSm_tr rfl Sm S15
              show jX m_X12_mentionOf 4 0 0 67 [(0, .ref 125), (1, .int l1), (2, .int l2), (3, .int l3), (4, .int l4), (5, .int l5)] [.int v16, .int v14] _ 0 0 _
              refine x_iclt (tgt := 74) rfl rfl (ti_lt rfl rfl ⟨fun c17 => ?_, fun c17 => ?_⟩)
              ·
                exact jX.sub (jsb_c rfl (jsb_c rfl (jsb_c rfl (jsb_c rfl (jsb_c rfl (jsb_c rfl jsb_n)))))) (ct_X12_mentionOf_r125_74 hD hQ ih l1 l2 l3 l4 l5 h (jr_of rfl (by omega)) (jr_of rfl (by omega)) (jr_of rfl (by omega)) (jr_of rfl (by omega)) (jr_of rfl (by omega)) (by omega) J Sm)
              ·
                exact jX.sub (jsb_c rfl (jsb_c rfl (jsb_c rfl (jsb_c rfl (jsb_c rfl jsb_n))))) (ct_X12_mentionOf_r125_70 hD hQ ih l1 l2 l3 l5 h (jr_of rfl (by omega)) (jr_of rfl (by omega)) (jr_of rfl (by omega)) (jr_of rfl (by omega)) (by omega) J Sm)
set_option maxRecDepth 100000 in
set_option maxHeartbeats 4000000 in
theorem sf_X12_mentionOf_r125 {Dy : jH → Prop} {h : jH} {Q : Option Value → jH → Prop} {a1 : Int32} {a2 : Int32} {a3 : Int32} (y1 : (-1) ≤ a1.toInt ∧ a1.toInt ≤ 599) (y2 : 0 ≤ a2.toInt ∧ a2.toInt ≤ 5) (y3 : 0 ≤ a3.toInt ∧ a3.toInt ≤ 146399) (hD : jDk Dy) (J : jJ jSgM Dy h) (hQ : ∀ (v : Int32) hx9, (-1) ≤ v.toInt ∧ v.toInt ≤ 599 → jJ jSgM Dy hx9 → jSm fp_X12_mentionOf_r125 h hx9 → Q (some (.int v)) hx9) : jC m_X12_mentionOf 4 0 0 [.ref 125, .int a1, .int a2, .int a3] h Q := by
  refine jC.of rfl k_X12_mentionOf rfl ?_
  have Sm := jSm_rf fp_X12_mentionOf_r125 h
  show jX m_X12_mentionOf 4 0 0 0 [(0, .ref 125), (1, .int a1), (2, .int a2), (3, .int a3)] [] _ 0 0 _
  refine x_iconst (v := (-1)) rfl ki_m1 ?_
  refine x_istore (lsx9 := [(4, .int (-1)), (0, .ref 125), (1, .int a1), (2, .int a2), (3, .int a3)]) rfl rfl rfl ?_
  refine x_iconst (v := 0) rfl ki_0 ?_
  refine x_istore (lsx9 := [(5, .int 0), (4, .int (-1)), (0, .ref 125), (1, .int a1), (2, .int a2), (3, .int a3)]) rfl rfl rfl ?_
  exact jX.sub (jsb_c rfl (jsb_c rfl (jsb_c rfl (jsb_c rfl (jsb_c rfl (jsb_c rfl jsb_n)))))) (ct_X12_mentionOf_r125_6 hD hQ  601 a1 a2 a3 (-1) 0 h (by have := jk_0; omega) (jr_of rfl (by omega)) (jr_of rfl (by omega)) (jr_of rfl (by omega)) (jr_of jk_m1 (by omega)) (jr_of jk_0 (by omega)) J Sm)
def fp_X12_childrenOf_r125 : jFp := []
set_option maxRecDepth 100000 in
set_option maxHeartbeats 4000000 in
theorem ct_X12_childrenOf_r125_165 {Dy : jH → Prop} {h0 : jH} {Q : Option Value → jH → Prop} {R5 : Int} (hD : jDk Dy) (hQ : ∀ (v : Int32) hx9, jJ jSgM Dy hx9 → jSm fp_X12_childrenOf_r125 h0 hx9 → Q (some (.int v)) hx9) (k5 : ∀ (l1 : Int32) (l2 : Int32) (l3 : Int32) (l4 : Int32) (h : jH), 600 - l4.toInt < R5 → (-1) ≤ l1.toInt ∧ l1.toInt ≤ 599 → 0 ≤ l2.toInt ∧ l2.toInt ≤ 146399 → 0 ≤ l4.toInt ∧ l4.toInt ≤ 600 → jJ jSgM Dy h → jSm fp_X12_childrenOf_r125 h0 h → jX m_X12_childrenOf 6 0 0 5 [(0, .ref 125), (1, .int l1), (2, .int l2), (3, .int l3), (4, .int l4)] [] h 0 0 Q) : ∀ (l1 : Int32) (l2 : Int32) (l3 : Int32) (l4 : Int32) (h : jH), (-1) ≤ l1.toInt ∧ l1.toInt ≤ 599 → 0 ≤ l2.toInt ∧ l2.toInt ≤ 146399 → 0 ≤ l4.toInt ∧ l4.toInt ≤ 599 → 600 - l4.toInt ≤ R5 → jJ jSgM Dy h → jSm fp_X12_childrenOf_r125 h0 h → jX m_X12_childrenOf 6 0 0 165 [(0, .ref 125), (1, .int l1), (2, .int l2), (3, .int l3), (4, .int l4)] [] h 0 0 Q := by
  intro l1 l2 l3 l4 h y0 y1 y2  m5 J Sm
  have el3 := jfull l3
  refine z_iinc (x := l4) (lsx9 := fun v1 => [(4, .int v1), (0, .ref 125), (1, .int l1), (2, .int l2), (3, .int l3)]) rfl rfl rfl jko_1 (by omega) rfl (fun _ => rfl) (fun v1 ev1 => ?_)
  refine x_goto (tgt := 5) rfl rfl ?_
  exact jX.sub (jsb_c rfl (jsb_c rfl (jsb_c rfl (jsb_c rfl (jsb_c rfl jsb_n))))) (k5 l1 l2 l3 v1 h (by omega) (jr_of rfl (by omega)) (jr_of rfl (by omega)) (jr_of rfl (by omega)) J Sm)
set_option maxRecDepth 100000 in
set_option maxHeartbeats 4000000 in
theorem ct_X12_childrenOf_r125_200163 {Dy : jH → Prop} {h0 : jH} {Q : Option Value → jH → Prop} {R5 : Int} (hD : jDk Dy) (hQ : ∀ (v : Int32) hx9, jJ jSgM Dy hx9 → jSm fp_X12_childrenOf_r125 h0 hx9 → Q (some (.int v)) hx9) (k5 : ∀ (l1 : Int32) (l2 : Int32) (l3 : Int32) (l4 : Int32) (h : jH), 600 - l4.toInt < R5 → (-1) ≤ l1.toInt ∧ l1.toInt ≤ 599 → 0 ≤ l2.toInt ∧ l2.toInt ≤ 146399 → 0 ≤ l4.toInt ∧ l4.toInt ≤ 600 → jJ jSgM Dy h → jSm fp_X12_childrenOf_r125 h0 h → jX m_X12_childrenOf 6 0 0 5 [(0, .ref 125), (1, .int l1), (2, .int l2), (3, .int l3), (4, .int l4)] [] h 0 0 Q) : ∀ (l1 : Int32) (l2 : Int32) (l4 : Int32) (s1 : Int32) (h : jH), (-1) ≤ l1.toInt ∧ l1.toInt ≤ 599 → 0 ≤ l2.toInt ∧ l2.toInt ≤ 146399 → 0 ≤ l4.toInt ∧ l4.toInt ≤ 599 → 600 - l4.toInt ≤ R5 → jJ jSgM Dy h → jSm fp_X12_childrenOf_r125 h0 h → jX m_X12_childrenOf 6 0 0 163 [(0, .ref 125), (1, .int l1), (2, .int l2), (4, .int l4)] [.int 0, .int s1] h 0 0 Q := by
  intro l1 l2 l4 s1 h y0 y1 y2  m5 J Sm
  have es1 := jfull s1
  refine z_iadd rfl rfl jk_0 (by omega) (fun v1 ev1 => ?_)
  refine x_istoren (lsx9 := [(3, .int v1), (0, .ref 125), (1, .int l1), (2, .int l2), (4, .int l4)]) rfl rfl rfl ?_
  exact jX.sub (jsb_c rfl (jsb_c rfl (jsb_c rfl (jsb_c rfl (jsb_c rfl jsb_n))))) (ct_X12_childrenOf_r125_165 hD hQ k5 l1 l2 v1 l4 h (jr_of rfl (by omega)) (jr_of rfl (by omega)) (jr_of rfl (by omega)) (by omega) J Sm)
set_option maxRecDepth 100000 in
set_option maxHeartbeats 4000000 in
theorem ct_X12_childrenOf_r125_300163 {Dy : jH → Prop} {h0 : jH} {Q : Option Value → jH → Prop} {R5 : Int} (hD : jDk Dy) (hQ : ∀ (v : Int32) hx9, jJ jSgM Dy hx9 → jSm fp_X12_childrenOf_r125 h0 hx9 → Q (some (.int v)) hx9) (k5 : ∀ (l1 : Int32) (l2 : Int32) (l3 : Int32) (l4 : Int32) (h : jH), 600 - l4.toInt < R5 → (-1) ≤ l1.toInt ∧ l1.toInt ≤ 599 → 0 ≤ l2.toInt ∧ l2.toInt ≤ 146399 → 0 ≤ l4.toInt ∧ l4.toInt ≤ 600 → jJ jSgM Dy h → jSm fp_X12_childrenOf_r125 h0 h → jX m_X12_childrenOf 6 0 0 5 [(0, .ref 125), (1, .int l1), (2, .int l2), (3, .int l3), (4, .int l4)] [] h 0 0 Q) : ∀ (l1 : Int32) (l2 : Int32) (l4 : Int32) (s1 : Int32) (h : jH), (-1) ≤ l1.toInt ∧ l1.toInt ≤ 599 → 0 ≤ l2.toInt ∧ l2.toInt ≤ 146399 → 0 ≤ l4.toInt ∧ l4.toInt ≤ 599 → 600 - l4.toInt ≤ R5 → jJ jSgM Dy h → jSm fp_X12_childrenOf_r125 h0 h → jX m_X12_childrenOf 6 0 0 163 [(0, .ref 125), (1, .int l1), (2, .int l2), (4, .int l4)] [.int 1, .int s1] h 0 0 Q := by
  intro l1 l2 l4 s1 h y0 y1 y2  m5 J Sm
  have es1 := jfull s1
  refine z_iadd0 rfl (fun v1 => ?_)
  have ev1 := jfull v1
  refine x_istoren (lsx9 := [(3, .int v1), (0, .ref 125), (1, .int l1), (2, .int l2), (4, .int l4)]) rfl rfl rfl ?_
  exact jX.sub (jsb_c rfl (jsb_c rfl (jsb_c rfl (jsb_c rfl (jsb_c rfl jsb_n))))) (ct_X12_childrenOf_r125_165 hD hQ k5 l1 l2 v1 l4 h (jr_of rfl (by omega)) (jr_of rfl (by omega)) (jr_of rfl (by omega)) (by omega) J Sm)
set_option maxRecDepth 100000 in
set_option maxHeartbeats 4000000 in
theorem ct_X12_childrenOf_r125_300144 {Dy : jH → Prop} {h0 : jH} {Q : Option Value → jH → Prop} {R5 : Int} {R50 : Int} (hD : jDk Dy) (hQ : ∀ (v : Int32) hx9, jJ jSgM Dy hx9 → jSm fp_X12_childrenOf_r125 h0 hx9 → Q (some (.int v)) hx9) (k5 : ∀ (l1 : Int32) (l2 : Int32) (l3 : Int32) (l4 : Int32) (h : jH), 600 - l4.toInt < R5 → (-1) ≤ l1.toInt ∧ l1.toInt ≤ 599 → 0 ≤ l2.toInt ∧ l2.toInt ≤ 146399 → 0 ≤ l4.toInt ∧ l4.toInt ≤ 600 → jJ jSgM Dy h → jSm fp_X12_childrenOf_r125 h0 h → jX m_X12_childrenOf 6 0 0 5 [(0, .ref 125), (1, .int l1), (2, .int l2), (3, .int l3), (4, .int l4)] [] h 0 0 Q) (k50 : ∀ (l1 : Int32) (l2 : Int32) (l3 : Int32) (l4 : Int32) (l5 : Int32) (l6 : Int32) (g0 : Int32) (h : jH), 600 - l6.toInt < R50 → (-1) ≤ l1.toInt ∧ l1.toInt ≤ 599 → 0 ≤ l2.toInt ∧ l2.toInt ≤ 146399 → 0 ≤ l4.toInt ∧ l4.toInt ≤ 599 → 0 ≤ l5.toInt ∧ l5.toInt ≤ 1 → 0 ≤ l6.toInt ∧ l6.toInt ≤ 600 → l6.toInt % 3 = 0 → 0 ≤ g0.toInt ∧ g0.toInt ≤ 200 → jiv h 126 (0 : Int32).toNatClampNeg = g0 → 600 - l4.toInt ≤ R5 → jJ jSgM Dy h → jSm fp_X12_childrenOf_r125 h0 h → jX m_X12_childrenOf 6 0 0 50 [(0, .ref 125), (1, .int l1), (2, .int l2), (3, .int l3), (4, .int l4), (5, .int l5), (6, .int l6)] [] h 0 0 Q) : ∀ (l1 : Int32) (l2 : Int32) (l3 : Int32) (l4 : Int32) (l6 : Int32) (g0 : Int32) (h : jH), (-1) ≤ l1.toInt ∧ l1.toInt ≤ 599 → 0 ≤ l2.toInt ∧ l2.toInt ≤ 146399 → 0 ≤ l4.toInt ∧ l4.toInt ≤ 599 → 0 ≤ l6.toInt ∧ l6.toInt ≤ 597 → l6.toInt % 3 = 0 → 0 ≤ g0.toInt ∧ g0.toInt ≤ 200 → jiv h 126 (0 : Int32).toNatClampNeg = g0 → 600 - l4.toInt ≤ R5 → 600 - l6.toInt ≤ R50 → jJ jSgM Dy h → jSm fp_X12_childrenOf_r125 h0 h → jX m_X12_childrenOf 6 0 0 144 [(0, .ref 125), (1, .int l1), (2, .int l2), (3, .int l3), (4, .int l4), (6, .int l6)] [.int 1] h 0 0 Q := by
  intro l1 l2 l3 l4 l6 g0 h y0 y1 y2 y3 y4 y5 z0 m5 m50 J Sm
  have el3 := jfull l3
  refine x_istore (lsx9 := [(5, .int 1), (0, .ref 125), (1, .int l1), (2, .int l2), (3, .int l3), (4, .int l4), (6, .int l6)]) rfl rfl rfl ?_
  refine z_iinc (x := l6) (lsx9 := fun v1 => [(6, .int v1), (5, .int 1), (0, .ref 125), (1, .int l1), (2, .int l2), (3, .int l3), (4, .int l4)]) rfl rfl rfl jko_3 (by omega) rfl (fun _ => rfl) (fun v1 ev1 => ?_)
  refine x_goto (tgt := 50) rfl rfl ?_
  exact jX.sub (jsb_c rfl (jsb_c rfl (jsb_c rfl (jsb_c rfl (jsb_c rfl (jsb_c rfl (jsb_c rfl jsb_n))))))) (k50 l1 l2 l3 l4 1 v1 g0 h (by omega) (jr_of rfl (by omega)) (jr_of rfl (by omega)) (jr_of rfl (by omega)) (jr_of jk_1 (by omega)) (jr_of rfl (by omega)) (jr_mod rfl (by omega)) (jr_of rfl (by omega)) z0 (by omega) J Sm)
set_option maxRecDepth 100000 in
set_option maxHeartbeats 4000000 in
theorem ct_X12_childrenOf_r125_200144 {Dy : jH → Prop} {h0 : jH} {Q : Option Value → jH → Prop} {R5 : Int} {R50 : Int} (hD : jDk Dy) (hQ : ∀ (v : Int32) hx9, jJ jSgM Dy hx9 → jSm fp_X12_childrenOf_r125 h0 hx9 → Q (some (.int v)) hx9) (k5 : ∀ (l1 : Int32) (l2 : Int32) (l3 : Int32) (l4 : Int32) (h : jH), 600 - l4.toInt < R5 → (-1) ≤ l1.toInt ∧ l1.toInt ≤ 599 → 0 ≤ l2.toInt ∧ l2.toInt ≤ 146399 → 0 ≤ l4.toInt ∧ l4.toInt ≤ 600 → jJ jSgM Dy h → jSm fp_X12_childrenOf_r125 h0 h → jX m_X12_childrenOf 6 0 0 5 [(0, .ref 125), (1, .int l1), (2, .int l2), (3, .int l3), (4, .int l4)] [] h 0 0 Q) (k50 : ∀ (l1 : Int32) (l2 : Int32) (l3 : Int32) (l4 : Int32) (l5 : Int32) (l6 : Int32) (g0 : Int32) (h : jH), 600 - l6.toInt < R50 → (-1) ≤ l1.toInt ∧ l1.toInt ≤ 599 → 0 ≤ l2.toInt ∧ l2.toInt ≤ 146399 → 0 ≤ l4.toInt ∧ l4.toInt ≤ 599 → 0 ≤ l5.toInt ∧ l5.toInt ≤ 1 → 0 ≤ l6.toInt ∧ l6.toInt ≤ 600 → l6.toInt % 3 = 0 → 0 ≤ g0.toInt ∧ g0.toInt ≤ 200 → jiv h 126 (0 : Int32).toNatClampNeg = g0 → 600 - l4.toInt ≤ R5 → jJ jSgM Dy h → jSm fp_X12_childrenOf_r125 h0 h → jX m_X12_childrenOf 6 0 0 50 [(0, .ref 125), (1, .int l1), (2, .int l2), (3, .int l3), (4, .int l4), (5, .int l5), (6, .int l6)] [] h 0 0 Q) : ∀ (l1 : Int32) (l2 : Int32) (l3 : Int32) (l4 : Int32) (l6 : Int32) (g0 : Int32) (h : jH), (-1) ≤ l1.toInt ∧ l1.toInt ≤ 599 → 0 ≤ l2.toInt ∧ l2.toInt ≤ 146399 → 0 ≤ l4.toInt ∧ l4.toInt ≤ 599 → 0 ≤ l6.toInt ∧ l6.toInt ≤ 597 → l6.toInt % 3 = 0 → 0 ≤ g0.toInt ∧ g0.toInt ≤ 200 → jiv h 126 (0 : Int32).toNatClampNeg = g0 → 600 - l4.toInt ≤ R5 → 600 - l6.toInt ≤ R50 → jJ jSgM Dy h → jSm fp_X12_childrenOf_r125 h0 h → jX m_X12_childrenOf 6 0 0 144 [(0, .ref 125), (1, .int l1), (2, .int l2), (3, .int l3), (4, .int l4), (6, .int l6)] [.int 0] h 0 0 Q := by
  intro l1 l2 l3 l4 l6 g0 h y0 y1 y2 y3 y4 y5 z0 m5 m50 J Sm
  have el3 := jfull l3
  refine x_istore (lsx9 := [(5, .int 0), (0, .ref 125), (1, .int l1), (2, .int l2), (3, .int l3), (4, .int l4), (6, .int l6)]) rfl rfl rfl ?_
  refine z_iinc (x := l6) (lsx9 := fun v1 => [(6, .int v1), (5, .int 0), (0, .ref 125), (1, .int l1), (2, .int l2), (3, .int l3), (4, .int l4)]) rfl rfl rfl jko_3 (by omega) rfl (fun _ => rfl) (fun v1 ev1 => ?_)
  refine x_goto (tgt := 50) rfl rfl ?_
  exact jX.sub (jsb_c rfl (jsb_c rfl (jsb_c rfl (jsb_c rfl (jsb_c rfl (jsb_c rfl (jsb_c rfl jsb_n))))))) (k50 l1 l2 l3 l4 0 v1 g0 h (by omega) (jr_of rfl (by omega)) (jr_of rfl (by omega)) (jr_of rfl (by omega)) (jr_of jk_0 (by omega)) (jr_of rfl (by omega)) (jr_mod rfl (by omega)) (jr_of rfl (by omega)) z0 (by omega) J Sm)
set_option maxRecDepth 100000 in
set_option maxHeartbeats 4000000 in
theorem ct_X12_childrenOf_r125_139 {Dy : jH → Prop} {h0 : jH} {Q : Option Value → jH → Prop} {R5 : Int} {R50 : Int} (hD : jDk Dy) (hQ : ∀ (v : Int32) hx9, jJ jSgM Dy hx9 → jSm fp_X12_childrenOf_r125 h0 hx9 → Q (some (.int v)) hx9) (k5 : ∀ (l1 : Int32) (l2 : Int32) (l3 : Int32) (l4 : Int32) (h : jH), 600 - l4.toInt < R5 → (-1) ≤ l1.toInt ∧ l1.toInt ≤ 599 → 0 ≤ l2.toInt ∧ l2.toInt ≤ 146399 → 0 ≤ l4.toInt ∧ l4.toInt ≤ 600 → jJ jSgM Dy h → jSm fp_X12_childrenOf_r125 h0 h → jX m_X12_childrenOf 6 0 0 5 [(0, .ref 125), (1, .int l1), (2, .int l2), (3, .int l3), (4, .int l4)] [] h 0 0 Q) (k50 : ∀ (l1 : Int32) (l2 : Int32) (l3 : Int32) (l4 : Int32) (l5 : Int32) (l6 : Int32) (g0 : Int32) (h : jH), 600 - l6.toInt < R50 → (-1) ≤ l1.toInt ∧ l1.toInt ≤ 599 → 0 ≤ l2.toInt ∧ l2.toInt ≤ 146399 → 0 ≤ l4.toInt ∧ l4.toInt ≤ 599 → 0 ≤ l5.toInt ∧ l5.toInt ≤ 1 → 0 ≤ l6.toInt ∧ l6.toInt ≤ 600 → l6.toInt % 3 = 0 → 0 ≤ g0.toInt ∧ g0.toInt ≤ 200 → jiv h 126 (0 : Int32).toNatClampNeg = g0 → 600 - l4.toInt ≤ R5 → jJ jSgM Dy h → jSm fp_X12_childrenOf_r125 h0 h → jX m_X12_childrenOf 6 0 0 50 [(0, .ref 125), (1, .int l1), (2, .int l2), (3, .int l3), (4, .int l4), (5, .int l5), (6, .int l6)] [] h 0 0 Q) : ∀ (l1 : Int32) (l2 : Int32) (l3 : Int32) (l4 : Int32) (l6 : Int32) (g0 : Int32) (h : jH), (-1) ≤ l1.toInt ∧ l1.toInt ≤ 599 → 0 ≤ l2.toInt ∧ l2.toInt ≤ 146399 → 0 ≤ l4.toInt ∧ l4.toInt ≤ 599 → 0 ≤ l6.toInt ∧ l6.toInt ≤ 597 → l6.toInt % 3 = 0 → 0 ≤ g0.toInt ∧ g0.toInt ≤ 200 → jiv h 126 (0 : Int32).toNatClampNeg = g0 → 600 - l4.toInt ≤ R5 → 600 - l6.toInt ≤ R50 → jJ jSgM Dy h → jSm fp_X12_childrenOf_r125 h0 h → jX m_X12_childrenOf 6 0 0 139 [(0, .ref 125), (1, .int l1), (2, .int l2), (3, .int l3), (4, .int l4), (6, .int l6)] [] h 0 0 Q := by
  intro l1 l2 l3 l4 l6 g0 h y0 y1 y2 y3 y4 y5 z0 m5 m50 J Sm
  have el3 := jfull l3
  refine x_iconst (v := 1) rfl ki_1 ?_
  refine x_goto (tgt := 144) rfl rfl ?_
  exact jX.sub (jsb_c rfl (jsb_c rfl (jsb_c rfl (jsb_c rfl (jsb_c rfl (jsb_c rfl jsb_n)))))) (ct_X12_childrenOf_r125_300144 hD hQ k5 k50 l1 l2 l3 l4 l6 g0 h (jr_of rfl (by omega)) (jr_of rfl (by omega)) (jr_of rfl (by omega)) (jr_of rfl (by omega)) (jr_mod rfl (by omega)) (jr_of rfl (by omega)) z0 (by omega) (by omega) J Sm)
set_option maxRecDepth 100000 in
set_option maxHeartbeats 4000000 in
theorem ct_X12_childrenOf_r125_143 {Dy : jH → Prop} {h0 : jH} {Q : Option Value → jH → Prop} {R5 : Int} {R50 : Int} (hD : jDk Dy) (hQ : ∀ (v : Int32) hx9, jJ jSgM Dy hx9 → jSm fp_X12_childrenOf_r125 h0 hx9 → Q (some (.int v)) hx9) (k5 : ∀ (l1 : Int32) (l2 : Int32) (l3 : Int32) (l4 : Int32) (h : jH), 600 - l4.toInt < R5 → (-1) ≤ l1.toInt ∧ l1.toInt ≤ 599 → 0 ≤ l2.toInt ∧ l2.toInt ≤ 146399 → 0 ≤ l4.toInt ∧ l4.toInt ≤ 600 → jJ jSgM Dy h → jSm fp_X12_childrenOf_r125 h0 h → jX m_X12_childrenOf 6 0 0 5 [(0, .ref 125), (1, .int l1), (2, .int l2), (3, .int l3), (4, .int l4)] [] h 0 0 Q) (k50 : ∀ (l1 : Int32) (l2 : Int32) (l3 : Int32) (l4 : Int32) (l5 : Int32) (l6 : Int32) (g0 : Int32) (h : jH), 600 - l6.toInt < R50 → (-1) ≤ l1.toInt ∧ l1.toInt ≤ 599 → 0 ≤ l2.toInt ∧ l2.toInt ≤ 146399 → 0 ≤ l4.toInt ∧ l4.toInt ≤ 599 → 0 ≤ l5.toInt ∧ l5.toInt ≤ 1 → 0 ≤ l6.toInt ∧ l6.toInt ≤ 600 → l6.toInt % 3 = 0 → 0 ≤ g0.toInt ∧ g0.toInt ≤ 200 → jiv h 126 (0 : Int32).toNatClampNeg = g0 → 600 - l4.toInt ≤ R5 → jJ jSgM Dy h → jSm fp_X12_childrenOf_r125 h0 h → jX m_X12_childrenOf 6 0 0 50 [(0, .ref 125), (1, .int l1), (2, .int l2), (3, .int l3), (4, .int l4), (5, .int l5), (6, .int l6)] [] h 0 0 Q) : ∀ (l1 : Int32) (l2 : Int32) (l3 : Int32) (l4 : Int32) (l6 : Int32) (g0 : Int32) (h : jH), (-1) ≤ l1.toInt ∧ l1.toInt ≤ 599 → 0 ≤ l2.toInt ∧ l2.toInt ≤ 146399 → 0 ≤ l4.toInt ∧ l4.toInt ≤ 599 → 0 ≤ l6.toInt ∧ l6.toInt ≤ 597 → l6.toInt % 3 = 0 → 0 ≤ g0.toInt ∧ g0.toInt ≤ 200 → jiv h 126 (0 : Int32).toNatClampNeg = g0 → 600 - l4.toInt ≤ R5 → 600 - l6.toInt ≤ R50 → jJ jSgM Dy h → jSm fp_X12_childrenOf_r125 h0 h → jX m_X12_childrenOf 6 0 0 143 [(0, .ref 125), (1, .int l1), (2, .int l2), (3, .int l3), (4, .int l4), (6, .int l6)] [] h 0 0 Q := by
  intro l1 l2 l3 l4 l6 g0 h y0 y1 y2 y3 y4 y5 z0 m5 m50 J Sm
  have el3 := jfull l3
  refine x_iconst (v := 0) rfl ki_0 ?_
  exact jX.sub (jsb_c rfl (jsb_c rfl (jsb_c rfl (jsb_c rfl (jsb_c rfl (jsb_c rfl jsb_n)))))) (ct_X12_childrenOf_r125_200144 hD hQ k5 k50 l1 l2 l3 l4 l6 g0 h (jr_of rfl (by omega)) (jr_of rfl (by omega)) (jr_of rfl (by omega)) (jr_of rfl (by omega)) (jr_mod rfl (by omega)) (jr_of rfl (by omega)) z0 (by omega) (by omega) J Sm)
set_option maxRecDepth 100000 in
set_option maxHeartbeats 4000000 in
theorem ct_X12_childrenOf_r125_300101 {Dy : jH → Prop} {h0 : jH} {Q : Option Value → jH → Prop} {R5 : Int} {R50 : Int} (hD : jDk Dy) (hQ : ∀ (v : Int32) hx9, jJ jSgM Dy hx9 → jSm fp_X12_childrenOf_r125 h0 hx9 → Q (some (.int v)) hx9) (k5 : ∀ (l1 : Int32) (l2 : Int32) (l3 : Int32) (l4 : Int32) (h : jH), 600 - l4.toInt < R5 → (-1) ≤ l1.toInt ∧ l1.toInt ≤ 599 → 0 ≤ l2.toInt ∧ l2.toInt ≤ 146399 → 0 ≤ l4.toInt ∧ l4.toInt ≤ 600 → jJ jSgM Dy h → jSm fp_X12_childrenOf_r125 h0 h → jX m_X12_childrenOf 6 0 0 5 [(0, .ref 125), (1, .int l1), (2, .int l2), (3, .int l3), (4, .int l4)] [] h 0 0 Q) (k50 : ∀ (l1 : Int32) (l2 : Int32) (l3 : Int32) (l4 : Int32) (l5 : Int32) (l6 : Int32) (g0 : Int32) (h : jH), 600 - l6.toInt < R50 → (-1) ≤ l1.toInt ∧ l1.toInt ≤ 599 → 0 ≤ l2.toInt ∧ l2.toInt ≤ 146399 → 0 ≤ l4.toInt ∧ l4.toInt ≤ 599 → 0 ≤ l5.toInt ∧ l5.toInt ≤ 1 → 0 ≤ l6.toInt ∧ l6.toInt ≤ 600 → l6.toInt % 3 = 0 → 0 ≤ g0.toInt ∧ g0.toInt ≤ 200 → jiv h 126 (0 : Int32).toNatClampNeg = g0 → 600 - l4.toInt ≤ R5 → jJ jSgM Dy h → jSm fp_X12_childrenOf_r125 h0 h → jX m_X12_childrenOf 6 0 0 50 [(0, .ref 125), (1, .int l1), (2, .int l2), (3, .int l3), (4, .int l4), (5, .int l5), (6, .int l6)] [] h 0 0 Q) : ∀ (l1 : Int32) (l2 : Int32) (l3 : Int32) (l4 : Int32) (l5 : Int32) (l6 : Int32) (g0 : Int32) (h : jH), (-1) ≤ l1.toInt ∧ l1.toInt ≤ 599 → 0 ≤ l2.toInt ∧ l2.toInt ≤ 146399 → 0 ≤ l4.toInt ∧ l4.toInt ≤ 599 → 0 ≤ l5.toInt ∧ l5.toInt ≤ 1 → 0 ≤ l6.toInt ∧ l6.toInt ≤ 597 → l6.toInt % 3 = 0 → 0 ≤ g0.toInt ∧ g0.toInt ≤ 200 → jiv h 126 (0 : Int32).toNatClampNeg = g0 → 600 - l4.toInt ≤ R5 → 600 - l6.toInt ≤ R50 → jJ jSgM Dy h → jSm fp_X12_childrenOf_r125 h0 h → jX m_X12_childrenOf 6 0 0 101 [(0, .ref 125), (1, .int l1), (2, .int l2), (3, .int l3), (4, .int l4), (5, .int l5), (6, .int l6)] [.int 1] h 0 0 Q := by
  intro l1 l2 l3 l4 l5 l6 g0 h y0 y1 y2 y3 y4 y5 y6 z0 m5 m50 J Sm
  have el3 := jfull l3
  refine x_istore (lsx9 := [(7, .int 1), (0, .ref 125), (1, .int l1), (2, .int l2), (3, .int l3), (4, .int l4), (5, .int l5), (6, .int l6)]) rfl rfl rfl ?_
  refine x_iload (x := l5) rfl rfl ?_
  refine x_ifne (tgt := 139) rfl rfl (ti_ne rfl jk_0 ⟨fun c1 => ?_, fun c1 => ?_⟩)
  ·
    exact jX.sub (jsb_c rfl (jsb_c rfl (jsb_c rfl (jsb_c rfl (jsb_c rfl (jsb_c rfl jsb_n)))))) (ct_X12_childrenOf_r125_139 hD hQ k5 k50 l1 l2 l3 l4 l6 g0 h (jr_of rfl (by omega)) (jr_of rfl (by omega)) (jr_of rfl (by omega)) (jr_of rfl (by omega)) (jr_mod rfl (by omega)) (jr_of rfl (by omega)) z0 (by omega) (by omega) J Sm)
  ·
    refine x_iload (x := 1) rfl rfl ?_
    refine x_ifeq (tgt := 143) rfl rfl (ti_eq jk_1 jk_0 (br_f (by omega) ?_))
    refine x_aloadn (x := 125) rfl rfl ?_
    refine z_getR (N := 92) (b := 139) 12 29 rfl f_12_72 rfl J rfl 16029 ⟨rfl, rfl⟩ rfl ?_
    refine x_iload (x := l6) rfl rfl ?_
    refine x_iconst (v := 1) rfl ki_1 ?_
    refine z_iadd rfl rfl jk_1 (by omega) (fun v2 ev2 => ?_)
    refine z_iald (N := 600) rfl J rfl sg_139_0_600_1_0_1 rfl (by omega) (fun v3 qv3 ev3 => ?_)
    refine x_iloadn (x := l1) rfl rfl ?_
    refine x_iceq (tgt := 139) rfl rfl (ti_eq rfl rfl ⟨fun c4 => ?_, fun c4 => ?_⟩)
    ·
      exact jX.sub (jsb_c rfl (jsb_c rfl (jsb_c rfl (jsb_c rfl (jsb_c rfl (jsb_c rfl jsb_n)))))) (ct_X12_childrenOf_r125_139 hD hQ k5 k50 l1 l2 l3 l4 l6 g0 h (jr_of rfl (by omega)) (jr_of rfl (by omega)) (jr_of rfl (by omega)) (jr_of rfl (by omega)) (jr_mod rfl (by omega)) (jr_of rfl (by omega)) z0 (by omega) (by omega) J Sm)
    ·
      refine x_aloadn (x := 125) rfl rfl ?_
      refine z_getR (N := 92) (b := 139) 12 29 rfl f_12_72 rfl J rfl 16029 ⟨rfl, rfl⟩ rfl ?_
      refine x_iload (x := l6) rfl rfl ?_
      refine x_iconst (v := 2) rfl ki_2 ?_
      refine z_iadd rfl rfl jk_2 (by omega) (fun v5 ev5 => ?_)
      refine z_iald (N := 600) rfl J rfl sg_139_0_600_1_0_1 rfl (by omega) (fun v6 qv6 ev6 => ?_)
      refine x_iloadn (x := l1) rfl rfl ?_
      refine x_icne (tgt := 143) rfl rfl (ti_ne rfl rfl ⟨fun c7 => ?_, fun c7 => ?_⟩)
      ·
        exact jX.sub (jsb_c rfl (jsb_c rfl (jsb_c rfl (jsb_c rfl (jsb_c rfl (jsb_c rfl jsb_n)))))) (ct_X12_childrenOf_r125_143 hD hQ k5 k50 l1 l2 l3 l4 l6 g0 h (jr_of rfl (by omega)) (jr_of rfl (by omega)) (jr_of rfl (by omega)) (jr_of rfl (by omega)) (jr_mod rfl (by omega)) (jr_of rfl (by omega)) z0 (by omega) (by omega) J Sm)
      ·
        exact jX.sub (jsb_c rfl (jsb_c rfl (jsb_c rfl (jsb_c rfl (jsb_c rfl (jsb_c rfl jsb_n)))))) (ct_X12_childrenOf_r125_139 hD hQ k5 k50 l1 l2 l3 l4 l6 g0 h (jr_of rfl (by omega)) (jr_of rfl (by omega)) (jr_of rfl (by omega)) (jr_of rfl (by omega)) (jr_mod rfl (by omega)) (jr_of rfl (by omega)) z0 (by omega) (by omega) J Sm)
set_option maxRecDepth 100000 in
set_option maxHeartbeats 4000000 in
theorem ct_X12_childrenOf_r125_200101 {Dy : jH → Prop} {h0 : jH} {Q : Option Value → jH → Prop} {R5 : Int} {R50 : Int} (hD : jDk Dy) (hQ : ∀ (v : Int32) hx9, jJ jSgM Dy hx9 → jSm fp_X12_childrenOf_r125 h0 hx9 → Q (some (.int v)) hx9) (k5 : ∀ (l1 : Int32) (l2 : Int32) (l3 : Int32) (l4 : Int32) (h : jH), 600 - l4.toInt < R5 → (-1) ≤ l1.toInt ∧ l1.toInt ≤ 599 → 0 ≤ l2.toInt ∧ l2.toInt ≤ 146399 → 0 ≤ l4.toInt ∧ l4.toInt ≤ 600 → jJ jSgM Dy h → jSm fp_X12_childrenOf_r125 h0 h → jX m_X12_childrenOf 6 0 0 5 [(0, .ref 125), (1, .int l1), (2, .int l2), (3, .int l3), (4, .int l4)] [] h 0 0 Q) (k50 : ∀ (l1 : Int32) (l2 : Int32) (l3 : Int32) (l4 : Int32) (l5 : Int32) (l6 : Int32) (g0 : Int32) (h : jH), 600 - l6.toInt < R50 → (-1) ≤ l1.toInt ∧ l1.toInt ≤ 599 → 0 ≤ l2.toInt ∧ l2.toInt ≤ 146399 → 0 ≤ l4.toInt ∧ l4.toInt ≤ 599 → 0 ≤ l5.toInt ∧ l5.toInt ≤ 1 → 0 ≤ l6.toInt ∧ l6.toInt ≤ 600 → l6.toInt % 3 = 0 → 0 ≤ g0.toInt ∧ g0.toInt ≤ 200 → jiv h 126 (0 : Int32).toNatClampNeg = g0 → 600 - l4.toInt ≤ R5 → jJ jSgM Dy h → jSm fp_X12_childrenOf_r125 h0 h → jX m_X12_childrenOf 6 0 0 50 [(0, .ref 125), (1, .int l1), (2, .int l2), (3, .int l3), (4, .int l4), (5, .int l5), (6, .int l6)] [] h 0 0 Q) : ∀ (l1 : Int32) (l2 : Int32) (l3 : Int32) (l4 : Int32) (l5 : Int32) (l6 : Int32) (g0 : Int32) (h : jH), (-1) ≤ l1.toInt ∧ l1.toInt ≤ 599 → 0 ≤ l2.toInt ∧ l2.toInt ≤ 146399 → 0 ≤ l4.toInt ∧ l4.toInt ≤ 599 → 0 ≤ l5.toInt ∧ l5.toInt ≤ 1 → 0 ≤ l6.toInt ∧ l6.toInt ≤ 597 → l6.toInt % 3 = 0 → 0 ≤ g0.toInt ∧ g0.toInt ≤ 200 → jiv h 126 (0 : Int32).toNatClampNeg = g0 → 600 - l4.toInt ≤ R5 → 600 - l6.toInt ≤ R50 → jJ jSgM Dy h → jSm fp_X12_childrenOf_r125 h0 h → jX m_X12_childrenOf 6 0 0 101 [(0, .ref 125), (1, .int l1), (2, .int l2), (3, .int l3), (4, .int l4), (5, .int l5), (6, .int l6)] [.int 0] h 0 0 Q := by
  intro l1 l2 l3 l4 l5 l6 g0 h y0 y1 y2 y3 y4 y5 y6 z0 m5 m50 J Sm
  have el3 := jfull l3
  refine x_istore (lsx9 := [(7, .int 0), (0, .ref 125), (1, .int l1), (2, .int l2), (3, .int l3), (4, .int l4), (5, .int l5), (6, .int l6)]) rfl rfl rfl ?_
  refine x_iload (x := l5) rfl rfl ?_
  refine x_ifne (tgt := 139) rfl rfl (ti_ne rfl jk_0 ⟨fun c1 => ?_, fun c1 => ?_⟩)
  ·
    exact jX.sub (jsb_c rfl (jsb_c rfl (jsb_c rfl (jsb_c rfl (jsb_c rfl (jsb_c rfl jsb_n)))))) (ct_X12_childrenOf_r125_139 hD hQ k5 k50 l1 l2 l3 l4 l6 g0 h (jr_of rfl (by omega)) (jr_of rfl (by omega)) (jr_of rfl (by omega)) (jr_of rfl (by omega)) (jr_mod rfl (by omega)) (jr_of rfl (by omega)) z0 (by omega) (by omega) J Sm)
  ·
    refine x_iload (x := 0) rfl rfl ?_
    refine x_ifeq (tgt := 143) rfl rfl (ti_eq jk_0 jk_0 (br_t (by omega) ?_))
    exact jX.sub (jsb_c rfl (jsb_c rfl (jsb_c rfl (jsb_c rfl (jsb_c rfl (jsb_c rfl jsb_n)))))) (ct_X12_childrenOf_r125_143 hD hQ k5 k50 l1 l2 l3 l4 l6 g0 h (jr_of rfl (by omega)) (jr_of rfl (by omega)) (jr_of rfl (by omega)) (jr_of rfl (by omega)) (jr_mod rfl (by omega)) (jr_of rfl (by omega)) z0 (by omega) (by omega) J Sm)
set_option maxRecDepth 100000 in
set_option maxHeartbeats 4000000 in
theorem ct_X12_childrenOf_r125_100 {Dy : jH → Prop} {h0 : jH} {Q : Option Value → jH → Prop} {R5 : Int} {R50 : Int} (hD : jDk Dy) (hQ : ∀ (v : Int32) hx9, jJ jSgM Dy hx9 → jSm fp_X12_childrenOf_r125 h0 hx9 → Q (some (.int v)) hx9) (k5 : ∀ (l1 : Int32) (l2 : Int32) (l3 : Int32) (l4 : Int32) (h : jH), 600 - l4.toInt < R5 → (-1) ≤ l1.toInt ∧ l1.toInt ≤ 599 → 0 ≤ l2.toInt ∧ l2.toInt ≤ 146399 → 0 ≤ l4.toInt ∧ l4.toInt ≤ 600 → jJ jSgM Dy h → jSm fp_X12_childrenOf_r125 h0 h → jX m_X12_childrenOf 6 0 0 5 [(0, .ref 125), (1, .int l1), (2, .int l2), (3, .int l3), (4, .int l4)] [] h 0 0 Q) (k50 : ∀ (l1 : Int32) (l2 : Int32) (l3 : Int32) (l4 : Int32) (l5 : Int32) (l6 : Int32) (g0 : Int32) (h : jH), 600 - l6.toInt < R50 → (-1) ≤ l1.toInt ∧ l1.toInt ≤ 599 → 0 ≤ l2.toInt ∧ l2.toInt ≤ 146399 → 0 ≤ l4.toInt ∧ l4.toInt ≤ 599 → 0 ≤ l5.toInt ∧ l5.toInt ≤ 1 → 0 ≤ l6.toInt ∧ l6.toInt ≤ 600 → l6.toInt % 3 = 0 → 0 ≤ g0.toInt ∧ g0.toInt ≤ 200 → jiv h 126 (0 : Int32).toNatClampNeg = g0 → 600 - l4.toInt ≤ R5 → jJ jSgM Dy h → jSm fp_X12_childrenOf_r125 h0 h → jX m_X12_childrenOf 6 0 0 50 [(0, .ref 125), (1, .int l1), (2, .int l2), (3, .int l3), (4, .int l4), (5, .int l5), (6, .int l6)] [] h 0 0 Q) : ∀ (l1 : Int32) (l2 : Int32) (l3 : Int32) (l4 : Int32) (l5 : Int32) (l6 : Int32) (g0 : Int32) (h : jH), (-1) ≤ l1.toInt ∧ l1.toInt ≤ 599 → 0 ≤ l2.toInt ∧ l2.toInt ≤ 146399 → 0 ≤ l4.toInt ∧ l4.toInt ≤ 599 → 0 ≤ l5.toInt ∧ l5.toInt ≤ 1 → 0 ≤ l6.toInt ∧ l6.toInt ≤ 597 → l6.toInt % 3 = 0 → 0 ≤ g0.toInt ∧ g0.toInt ≤ 200 → jiv h 126 (0 : Int32).toNatClampNeg = g0 → 600 - l4.toInt ≤ R5 → 600 - l6.toInt ≤ R50 → jJ jSgM Dy h → jSm fp_X12_childrenOf_r125 h0 h → jX m_X12_childrenOf 6 0 0 100 [(0, .ref 125), (1, .int l1), (2, .int l2), (3, .int l3), (4, .int l4), (5, .int l5), (6, .int l6)] [] h 0 0 Q := by
  intro l1 l2 l3 l4 l5 l6 g0 h y0 y1 y2 y3 y4 y5 y6 z0 m5 m50 J Sm
  have el3 := jfull l3
  refine x_iconst (v := 0) rfl ki_0 ?_
  exact jX.sub (jsb_c rfl (jsb_c rfl (jsb_c rfl (jsb_c rfl (jsb_c rfl (jsb_c rfl (jsb_c rfl jsb_n))))))) (ct_X12_childrenOf_r125_200101 hD hQ k5 k50 l1 l2 l3 l4 l5 l6 g0 h (jr_of rfl (by omega)) (jr_of rfl (by omega)) (jr_of rfl (by omega)) (jr_of rfl (by omega)) (jr_of rfl (by omega)) (jr_mod rfl (by omega)) (jr_of rfl (by omega)) z0 (by omega) (by omega) J Sm)
set_option maxRecDepth 100000 in
set_option maxHeartbeats 4000000 in
theorem ct_X12_childrenOf_r125_50 {Dy : jH → Prop} {h0 : jH} {Q : Option Value → jH → Prop} {R5 : Int} (hD : jDk Dy) (hQ : ∀ (v : Int32) hx9, jJ jSgM Dy hx9 → jSm fp_X12_childrenOf_r125 h0 hx9 → Q (some (.int v)) hx9) (k5 : ∀ (l1 : Int32) (l2 : Int32) (l3 : Int32) (l4 : Int32) (h : jH), 600 - l4.toInt < R5 → (-1) ≤ l1.toInt ∧ l1.toInt ≤ 599 → 0 ≤ l2.toInt ∧ l2.toInt ≤ 146399 → 0 ≤ l4.toInt ∧ l4.toInt ≤ 600 → jJ jSgM Dy h → jSm fp_X12_childrenOf_r125 h0 h → jX m_X12_childrenOf 6 0 0 5 [(0, .ref 125), (1, .int l1), (2, .int l2), (3, .int l3), (4, .int l4)] [] h 0 0 Q) : ∀ r : Nat, ∀ (l1 : Int32) (l2 : Int32) (l3 : Int32) (l4 : Int32) (l5 : Int32) (l6 : Int32) (g0 : Int32) (h : jH), 600 - l6.toInt < (r : Int) → (-1) ≤ l1.toInt ∧ l1.toInt ≤ 599 → 0 ≤ l2.toInt ∧ l2.toInt ≤ 146399 → 0 ≤ l4.toInt ∧ l4.toInt ≤ 599 → 0 ≤ l5.toInt ∧ l5.toInt ≤ 1 → 0 ≤ l6.toInt ∧ l6.toInt ≤ 600 → l6.toInt % 3 = 0 → 0 ≤ g0.toInt ∧ g0.toInt ≤ 200 → jiv h 126 (0 : Int32).toNatClampNeg = g0 → 600 - l4.toInt ≤ R5 → jJ jSgM Dy h → jSm fp_X12_childrenOf_r125 h0 h → jX m_X12_childrenOf 6 0 0 50 [(0, .ref 125), (1, .int l1), (2, .int l2), (3, .int l3), (4, .int l4), (5, .int l5), (6, .int l6)] [] h 0 0 Q := by
  intro r
  induction r with
  | zero =>
    intro l1 l2 l3 l4 l5 l6 g0 h hm y0 y1 y2 y3 y4 y5 y6 z0 m5 J Sm
    exfalso
    have el3 := jfull l3
    omega
  | succ r ih =>
    intro l1 l2 l3 l4 l5 l6 g0 h hm y0 y1 y2 y3 y4 y5 y6 z0 m5 J Sm
    have el3 := jfull l3
    refine x_iload (x := l6) rfl rfl ?_
    refine x_iconst (v := 3) rfl ki_3 ?_
    refine x_aloadn (x := 125) rfl rfl ?_
    refine z_getR (N := 92) (b := 126) 12 2 rfl f_12_8 rfl J rfl 16002 ⟨rfl, rfl⟩ rfl ?_
    refine x_iconst (v := 0) rfl ki_0 ?_
    refine z_ialdM (N := 50660) (v := g0) rfl J rfl jk_0 (by omega) z0 ?_
    refine z_imul rfl jk_3 rfl (by omega) (fun v1 ev1 => ?_)
    refine x_icge (tgt := 152) rfl rfl (ti_ge rfl rfl ⟨fun c2 => ?_, fun c2 => ?_⟩)
    ·
      refine x_iloadn (x := l3) rfl rfl ?_
      refine x_iload (x := l5) rfl rfl ?_
      refine x_ifeq (tgt := 162) rfl rfl (ti_eq rfl jk_0 ⟨fun c3 => ?_, fun c3 => ?_⟩)
      ·
        refine x_iconst (v := 0) rfl ki_0 ?_
        exact jX.sub (jsb_c rfl (jsb_c rfl (jsb_c rfl (jsb_c rfl jsb_n)))) (ct_X12_childrenOf_r125_200163 hD hQ k5 l1 l2 l4 l3 h (jr_of rfl (by omega)) (jr_of rfl (by omega)) (jr_of rfl (by omega)) (by omega) J Sm)
      ·
        refine x_iconst (v := 1) rfl ki_1 ?_
        refine x_goto (tgt := 163) rfl rfl ?_
        exact jX.sub (jsb_c rfl (jsb_c rfl (jsb_c rfl (jsb_c rfl jsb_n)))) (ct_X12_childrenOf_r125_300163 hD hQ k5 l1 l2 l4 l3 h (jr_of rfl (by omega)) (jr_of rfl (by omega)) (jr_of rfl (by omega)) (by omega) J Sm)
    ·
      refine x_aloadn (x := 125) rfl rfl ?_
      refine z_getR (N := 92) (b := 139) 12 29 rfl f_12_72 rfl J rfl 16029 ⟨rfl, rfl⟩ rfl ?_
      refine x_iload (x := l6) rfl rfl ?_
      refine z_iald (N := 600) rfl J rfl sg_139_0_600_1_0_1 rfl (by omega) (fun v4 qv4 ev4 => ?_)
      refine x_iload (x := l4) rfl rfl ?_
      refine x_icne (tgt := 100) rfl rfl (ti_ne rfl rfl ⟨fun c5 => ?_, fun c5 => ?_⟩)
      ·
        exact jX.sub (jsb_c rfl (jsb_c rfl (jsb_c rfl (jsb_c rfl (jsb_c rfl (jsb_c rfl (jsb_c rfl jsb_n))))))) (ct_X12_childrenOf_r125_100 hD hQ k5 ih l1 l2 l3 l4 l5 l6 g0 h (jr_of rfl (by omega)) (jr_of rfl (by omega)) (jr_of rfl (by omega)) (jr_of rfl (by omega)) (jr_of rfl (by omega)) (jr_mod rfl (by omega)) (jr_of rfl (by omega)) z0 (by omega) (by omega) J Sm)
      ·
        refine x_aloadn (x := 125) rfl rfl ?_
        refine x_iload (x := l6) rfl rfl ?_
        refine x_iconst (v := 3) rfl ki_3 ?_
        refine z_idiv rfl rfl jk_3 (by omega) (by omega) (fun v6 ev6 => ?_)
        refine x_inv (N := m_X12_bookOf) (As := [.int v6]) (b := 125) (st := []) (dx9 := 5) (mc := 0) (ms := 0) (host := "") 12 rfl t_X12_bookOf ⟨Or.inl q_12_299, i_X12_bookOf.1, i_X12_bookOf.2⟩ ⟨by decide, rfl⟩ (congrArg Prod.fst (J.1.1 125 (12, 92) rfl)) rfl (by decide) rfl rfl ⟨by decide, by decide⟩ (jC.of rfl k_X12_bookOf rfl ?_)
        show jX m_X12_bookOf 5 0 0 0 [(0, .ref 125), (1, .int v6)] [] _ 0 0 _
        refine x_aloadn (x := 125) rfl rfl ?_
        refine z_getR (N := 92) (b := 126) 12 2 rfl f_12_8 rfl J rfl 16002 ⟨rfl, rfl⟩ rfl ?_
        refine x_aloadn (x := 125) rfl rfl ?_
        refine x_iloadn (x := v6) rfl rfl ?_
        refine x_inv (N := m_X12_at) (As := [.int v6]) (b := 125) (st := [.ref 126]) (dx9 := 4) (mc := 0) (ms := 0) (host := "") 12 rfl t_X12_at ⟨Or.inl q_12_254, i_X12_at.1, i_X12_at.2⟩ ⟨by decide, rfl⟩ (congrArg Prod.fst (J.1.1 125 (12, 92) rfl)) rfl (by decide) rfl rfl ⟨by decide, by decide⟩ (jC.of rfl k_X12_at rfl ?_)
        show jX m_X12_at 4 0 0 0 [(0, .ref 125), (1, .int v6)] [] _ 0 0 _
        refine x_bipush (v := 20) rfl kb_20 ?_
        refine x_bipush (v := 90) rfl kb_90 ?_
        refine x_iloadn (x := v6) rfl rfl ?_
        refine z_imul rfl jk_90 rfl (by omega) (fun v7 ev7 => ?_)
        refine z_iadd rfl jk_20 rfl (by omega) (fun v8 ev8 => ?_)
        refine x_iret rfl rfl ?_
        show jX m_X12_bookOf 5 0 0 9 [(0, .ref 125), (1, .int v6)] [.int v8, .ref 126] _ 0 0 _
        refine z_iald (N := 50660) rfl J rfl sg_126_20_18020_90_0_1 rfl (by omega) (fun v9 qv9 ev9 => ?_)
        refine x_iret rfl rfl ?_
        show jX m_X12_childrenOf 6 0 0 83 [(0, .ref 125), (1, .int l1), (2, .int l2), (3, .int l3), (4, .int l4), (5, .int l5), (6, .int l6)] [.int v9] _ 0 0 _
        refine x_ifne (tgt := 100) rfl rfl (ti_ne rfl jk_0 ⟨fun c10 => ?_, fun c10 => ?_⟩)
        ·
          exact jX.sub (jsb_c rfl (jsb_c rfl (jsb_c rfl (jsb_c rfl (jsb_c rfl (jsb_c rfl (jsb_c rfl jsb_n))))))) (ct_X12_childrenOf_r125_100 hD hQ k5 ih l1 l2 l3 l4 l5 l6 g0 h (jr_of rfl (by omega)) (jr_of rfl (by omega)) (jr_of rfl (by omega)) (jr_of rfl (by omega)) (jr_of rfl (by omega)) (jr_mod rfl (by omega)) (jr_of rfl (by omega)) z0 (by omega) (by omega) J Sm)
        ·
          refine x_aloadn (x := 125) rfl rfl ?_
          refine x_iload (x := l6) rfl rfl ?_
          refine x_inv (N := m_X12_dayAt) (As := [.int l6]) (b := 125) (st := []) (dx9 := 3) (mc := 0) (ms := 0) (host := "") 12 rfl t_X12_dayAt ⟨Or.inl q_12_347, i_X12_dayAt.1, i_X12_dayAt.2⟩ ⟨by decide, rfl⟩ (congrArg Prod.fst (J.1.1 125 (12, 92) rfl)) rfl (by decide) rfl rfl ⟨by decide, by decide⟩ (sf_X12_dayAt_r125 (jr_of rfl (by omega)) hD J  (fun v12 h ev12 J S11 => ?_))
          have Sm := jSm_tr rfl Sm S11
          show jX m_X12_childrenOf 6 0 0 92 [(0, .ref 125), (1, .int l1), (2, .int l2), (3, .int l3), (4, .int l4), (5, .int l5), (6, .int l6)] [.int v12] _ 0 0 _
          refine x_iloadn (x := l2) rfl rfl ?_
          refine x_icgt (tgt := 100) rfl rfl (ti_gt rfl rfl ⟨fun c13 => ?_, fun c13 => ?_⟩)
          ·
            exact jX.sub (jsb_c rfl (jsb_c rfl (jsb_c rfl (jsb_c rfl (jsb_c rfl (jsb_c rfl (jsb_c rfl jsb_n))))))) (ct_X12_childrenOf_r125_100 hD hQ k5 ih l1 l2 l3 l4 l5 l6 g0 h (jr_of rfl (by omega)) (jr_of rfl (by omega)) (jr_of rfl (by omega)) (jr_of rfl (by omega)) (jr_of rfl (by omega)) (jr_mod rfl (by omega)) (jr_of rfl (by omega)) (jmc S11 rfl z0) (by omega) (by omega) J Sm)
          ·
            refine x_iconst (v := 1) rfl ki_1 ?_
            refine x_goto (tgt := 101) rfl rfl ?_
            exact jX.sub (jsb_c rfl (jsb_c rfl (jsb_c rfl (jsb_c rfl (jsb_c rfl (jsb_c rfl (jsb_c rfl jsb_n))))))) (ct_X12_childrenOf_r125_300101 hD hQ k5 ih l1 l2 l3 l4 l5 l6 g0 h (jr_of rfl (by omega)) (jr_of rfl (by omega)) (jr_of rfl (by omega)) (jr_of rfl (by omega)) (jr_of rfl (by omega)) (jr_mod rfl (by omega)) (jr_of rfl (by omega)) (jmc S11 rfl z0) (by omega) (by omega) J Sm)
set_option maxRecDepth 100000 in
set_option maxHeartbeats 4000000 in
theorem ct_X12_childrenOf_r125_5 {Dy : jH → Prop} {h0 : jH} {Q : Option Value → jH → Prop} (hD : jDk Dy) (hQ : ∀ (v : Int32) hx9, jJ jSgM Dy hx9 → jSm fp_X12_childrenOf_r125 h0 hx9 → Q (some (.int v)) hx9) : ∀ r : Nat, ∀ (l1 : Int32) (l2 : Int32) (l3 : Int32) (l4 : Int32) (h : jH), 600 - l4.toInt < (r : Int) → (-1) ≤ l1.toInt ∧ l1.toInt ≤ 599 → 0 ≤ l2.toInt ∧ l2.toInt ≤ 146399 → 0 ≤ l4.toInt ∧ l4.toInt ≤ 600 → jJ jSgM Dy h → jSm fp_X12_childrenOf_r125 h0 h → jX m_X12_childrenOf 6 0 0 5 [(0, .ref 125), (1, .int l1), (2, .int l2), (3, .int l3), (4, .int l4)] [] h 0 0 Q := by
  intro r
  induction r with
  | zero =>
    intro l1 l2 l3 l4 h hm y0 y1 y2   J Sm
    exfalso
    have el3 := jfull l3
    omega
  | succ r ih =>
    intro l1 l2 l3 l4 h hm y0 y1 y2   J Sm
    have el3 := jfull l3
    refine x_iload (x := l4) rfl rfl ?_
    refine x_iconst (v := 3) rfl ki_3 ?_
    refine x_aloadn (x := 125) rfl rfl ?_
    refine z_getR (N := 92) (b := 126) 12 2 rfl f_12_8 rfl J rfl 16002 ⟨rfl, rfl⟩ rfl ?_
    refine x_iconst (v := 0) rfl ki_0 ?_
    refine z_iald (N := 50660) rfl J rfl sg_126_0_1_1_0_1 jk_0 (by omega) (fun v1 qv1 ev1 => ?_)
    refine z_imul rfl jk_3 rfl (by omega) (fun v2 ev2 => ?_)
    refine x_icge (tgt := 171) rfl rfl (ti_ge rfl rfl ⟨fun c3 => ?_, fun c3 => ?_⟩)
    ·
      refine x_iloadn (x := l3) rfl rfl ?_
      refine x_iret rfl rfl ?_
      exact hQ _ _ J Sm
    ·
      refine x_aloadn (x := 125) rfl rfl ?_
      refine z_getR (N := 92) (b := 139) 12 29 rfl f_12_72 rfl J rfl 16029 ⟨rfl, rfl⟩ rfl ?_
      refine x_iload (x := l4) rfl rfl ?_
      refine z_iald (N := 600) rfl J rfl sg_139_0_600_1_0_1 rfl (by omega) (fun v4 qv4 ev4 => ?_)
      refine x_iload (x := l4) rfl rfl ?_
      refine x_icne (tgt := 165) rfl rfl (ti_ne rfl rfl ⟨fun c5 => ?_, fun c5 => ?_⟩)
      ·
        exact jX.sub (jsb_c rfl (jsb_c rfl (jsb_c rfl (jsb_c rfl (jsb_c rfl jsb_n))))) (ct_X12_childrenOf_r125_165 hD hQ ih l1 l2 l3 l4 h (jr_of rfl (by omega)) (jr_of rfl (by omega)) (jr_of rfl (by omega)) (by omega) J Sm)
      ·
        refine x_aloadn (x := 125) rfl rfl ?_
        refine x_iload (x := l4) rfl rfl ?_
        refine x_iconst (v := 5) rfl ki_5 ?_
        refine x_iloadn (x := l2) rfl rfl ?_
        refine x_inv (N := m_X12_hasPart) (As := [.int l4, .int 5, .int l2]) (b := 125) (st := []) (dx9 := 5) (mc := 0) (ms := 0) (host := "") 12 rfl t_X12_hasPart ⟨Or.inl q_12_691, i_X12_hasPart.1, i_X12_hasPart.2⟩ ⟨by decide, rfl⟩ (congrArg Prod.fst (J.1.1 125 (12, 92) rfl)) rfl (by decide) rfl rfl ⟨by decide, by decide⟩ (jC.of rfl k_X12_hasPart rfl ?_)
        show jX m_X12_hasPart 5 0 0 0 [(0, .ref 125), (1, .int l4), (2, .int 5), (3, .int l2)] [] _ 0 0 _
        refine x_aloadn (x := 125) rfl rfl ?_
        refine x_iloadn (x := l4) rfl rfl ?_
        refine x_iloadn (x := 5) rfl rfl ?_
        refine x_iloadn (x := l2) rfl rfl ?_
        refine x_inv (N := m_X12_mentionOf) (As := [.int l4, .int 5, .int l2]) (b := 125) (st := []) (dx9 := 4) (mc := 0) (ms := 0) (host := "") 12 rfl t_X12_mentionOf ⟨Or.inl q_12_405, i_X12_mentionOf.1, i_X12_mentionOf.2⟩ ⟨by decide, rfl⟩ (congrArg Prod.fst (J.1.1 125 (12, 92) rfl)) rfl (by decide) rfl rfl ⟨by decide, by decide⟩ (sf_X12_mentionOf_r125 (jr_of rfl (by omega)) (jr_of jk_5 (by omega)) (jr_of rfl (by omega)) hD J  (fun v7 h ev7 J S6 => ?_))
        have Sm := jSm_tr rfl Sm S6
        show jX m_X12_hasPart 5 0 0 7 [(0, .ref 125), (1, .int l4), (2, .int 5), (3, .int l2)] [.int v7] _ 0 0 _
        refine x_iconst (v := (-1)) rfl ki_m1 ?_
        refine x_iceq (tgt := 15) rfl rfl (ti_eq rfl jk_m1 ⟨fun c8 => ?_, fun c8 => ?_⟩)
        ·
          refine x_iconst (v := 0) rfl ki_0 ?_
          refine x_zret rfl rfl (by decide) ?_
          show jX m_X12_childrenOf 6 0 0 38 [(0, .ref 125), (1, .int l1), (2, .int l2), (3, .int l3), (4, .int l4)] [.int 0] _ 0 0 _
          refine x_ifeq (tgt := 44) rfl rfl (ti_eq jk_0 jk_0 (br_t (by omega) ?_))
          refine x_iconst (v := 0) rfl ki_0 ?_
          refine x_istore (lsx9 := [(5, .int 0), (0, .ref 125), (1, .int l1), (2, .int l2), (3, .int l3), (4, .int l4)]) rfl rfl rfl ?_
          refine x_iconst (v := 0) rfl ki_0 ?_
          refine x_istore (lsx9 := [(6, .int 0), (5, .int 0), (0, .ref 125), (1, .int l1), (2, .int l2), (3, .int l3), (4, .int l4)]) rfl rfl rfl ?_
          exact jX.sub (jsb_c rfl (jsb_c rfl (jsb_c rfl (jsb_c rfl (jsb_c rfl (jsb_c rfl (jsb_c rfl jsb_n))))))) (ct_X12_childrenOf_r125_50 hD hQ ih 601 l1 l2 l3 l4 0 0 v1 h (by have := jk_0; omega) (jr_of rfl (by omega)) (jr_of rfl (by omega)) (jr_of rfl (by omega)) (jr_of jk_0 (by omega)) (jr_of jk_0 (by omega)) (jr_mod jk_0 (by omega)) (jr_of rfl (by omega)) (jmc S6 rfl qv1) (by omega) J Sm)
        ·
          refine x_iconst (v := 1) rfl ki_1 ?_
          refine x_goto (tgt := 16) rfl rfl ?_
          refine x_zret rfl rfl (by decide) ?_
          show jX m_X12_childrenOf 6 0 0 38 [(0, .ref 125), (1, .int l1), (2, .int l2), (3, .int l3), (4, .int l4)] [.int 1] _ 0 0 _
          refine x_ifeq (tgt := 44) rfl rfl (ti_eq jk_1 jk_0 (br_f (by omega) ?_))
          refine x_goto (tgt := 165) rfl rfl ?_
          exact jX.sub (jsb_c rfl (jsb_c rfl (jsb_c rfl (jsb_c rfl (jsb_c rfl jsb_n))))) (ct_X12_childrenOf_r125_165 hD hQ ih l1 l2 l3 l4 h (jr_of rfl (by omega)) (jr_of rfl (by omega)) (jr_of rfl (by omega)) (by omega) J Sm)
set_option maxRecDepth 100000 in
set_option maxHeartbeats 4000000 in
theorem sf_X12_childrenOf_r125 {Dy : jH → Prop} {h : jH} {Q : Option Value → jH → Prop} {a1 : Int32} {a2 : Int32} (y1 : (-1) ≤ a1.toInt ∧ a1.toInt ≤ 599) (y2 : 0 ≤ a2.toInt ∧ a2.toInt ≤ 146399) (hD : jDk Dy) (J : jJ jSgM Dy h) (hQ : ∀ (v : Int32) hx9, jJ jSgM Dy hx9 → jSm fp_X12_childrenOf_r125 h hx9 → Q (some (.int v)) hx9) : jC m_X12_childrenOf 6 0 0 [.ref 125, .int a1, .int a2] h Q := by
  refine jC.of rfl k_X12_childrenOf rfl ?_
  have Sm := jSm_rf fp_X12_childrenOf_r125 h
  show jX m_X12_childrenOf 6 0 0 0 [(0, .ref 125), (1, .int a1), (2, .int a2)] [] _ 0 0 _
  refine x_iconst (v := 0) rfl ki_0 ?_
  refine x_istoren (lsx9 := [(3, .int 0), (0, .ref 125), (1, .int a1), (2, .int a2)]) rfl rfl rfl ?_
  refine x_iconst (v := 0) rfl ki_0 ?_
  refine x_istore (lsx9 := [(4, .int 0), (3, .int 0), (0, .ref 125), (1, .int a1), (2, .int a2)]) rfl rfl rfl ?_
  exact jX.sub (jsb_c rfl (jsb_c rfl (jsb_c rfl (jsb_c rfl (jsb_c rfl jsb_n))))) (ct_X12_childrenOf_r125_5 hD hQ  601 a1 a2 0 0 h (by have := jk_0; omega) (jr_of rfl (by omega)) (jr_of rfl (by omega)) (jr_of jk_0 (by omega)) J Sm)
def fp_X12_hasAge_r125 : jFp := []
set_option maxRecDepth 100000 in
set_option maxHeartbeats 4000000 in
theorem ct_X12_hasAge_r125_300025 {Dy : jH → Prop} {h0 : jH} {Q : Option Value → jH → Prop} (hD : jDk Dy) (hQ : ∀ (v : Int32) hx9, 0 ≤ v.toInt ∧ v.toInt ≤ 1 → jJ jSgM Dy hx9 → jSm fp_X12_hasAge_r125 h0 hx9 → Q (some (.int v)) hx9) : ∀ (h : jH), jJ jSgM Dy h → jSm fp_X12_hasAge_r125 h0 h → jX m_X12_hasAge 4 0 0 25 [] [.int 1] h 0 0 Q := by
  intro  h    J Sm
  refine x_zret rfl rfl (by decide) ?_
  exact hQ _ _ (jr_of jk_1 (by omega)) J Sm
set_option maxRecDepth 100000 in
set_option maxHeartbeats 4000000 in
theorem ct_X12_hasAge_r125_200025 {Dy : jH → Prop} {h0 : jH} {Q : Option Value → jH → Prop} (hD : jDk Dy) (hQ : ∀ (v : Int32) hx9, 0 ≤ v.toInt ∧ v.toInt ≤ 1 → jJ jSgM Dy hx9 → jSm fp_X12_hasAge_r125 h0 hx9 → Q (some (.int v)) hx9) : ∀ (h : jH), jJ jSgM Dy h → jSm fp_X12_hasAge_r125 h0 h → jX m_X12_hasAge 4 0 0 25 [] [.int 0] h 0 0 Q := by
  intro  h    J Sm
  refine x_zret rfl rfl (by decide) ?_
  exact hQ _ _ (jr_of jk_0 (by omega)) J Sm
set_option maxRecDepth 100000 in
set_option maxHeartbeats 4000000 in
theorem ct_X12_hasAge_r125_24 {Dy : jH → Prop} {h0 : jH} {Q : Option Value → jH → Prop} (hD : jDk Dy) (hQ : ∀ (v : Int32) hx9, 0 ≤ v.toInt ∧ v.toInt ≤ 1 → jJ jSgM Dy hx9 → jSm fp_X12_hasAge_r125 h0 hx9 → Q (some (.int v)) hx9) : ∀ (h : jH), jJ jSgM Dy h → jSm fp_X12_hasAge_r125 h0 h → jX m_X12_hasAge 4 0 0 24 [] [] h 0 0 Q := by
  intro  h    J Sm
  refine x_iconst (v := 0) rfl ki_0 ?_
  exact jX.sub jsb_n (ct_X12_hasAge_r125_200025 hD hQ  h J Sm)
set_option maxRecDepth 100000 in
set_option maxHeartbeats 4000000 in
theorem sf_X12_hasAge_r125 {Dy : jH → Prop} {h : jH} {Q : Option Value → jH → Prop} {a1 : Int32} (y1 : 0 ≤ a1.toInt ∧ a1.toInt ≤ 599) (hD : jDk Dy) (J : jJ jSgM Dy h) (hQ : ∀ (v : Int32) hx9, 0 ≤ v.toInt ∧ v.toInt ≤ 1 → jJ jSgM Dy hx9 → jSm fp_X12_hasAge_r125 h hx9 → Q (some (.int v)) hx9) : jC m_X12_hasAge 4 0 0 [.ref 125, .int a1] h Q := by
  refine jC.of rfl k_X12_hasAge rfl ?_
  have Sm := jSm_rf fp_X12_hasAge_r125 h
  show jX m_X12_hasAge 4 0 0 0 [(0, .ref 125), (1, .int a1)] [] _ 0 0 _
  refine x_aloadn (x := 125) rfl rfl ?_
  refine x_iloadn (x := a1) rfl rfl ?_
  refine x_inv (N := m_X12_partOf) (As := [.int a1]) (b := 125) (st := []) (dx9 := 3) (mc := 0) (ms := 0) (host := "") 12 rfl t_X12_partOf ⟨Or.inl q_12_338, i_X12_partOf.1, i_X12_partOf.2⟩ ⟨by decide, rfl⟩ (congrArg Prod.fst (J.1.1 125 (12, 92) rfl)) rfl (by decide) rfl rfl ⟨by decide, by decide⟩ (sf_X12_partOf_r125 (jr_of rfl (by omega)) hD J  (fun v2 h ev2 J S1 => ?_))
  have Sm := jSm_tr rfl Sm S1
  show jX m_X12_hasAge 4 0 0 5 [(0, .ref 125), (1, .int a1)] [.int v2] _ 0 0 _
  refine x_iconst (v := 5) rfl ki_5 ?_
  refine x_icne (tgt := 24) rfl rfl (ti_ne rfl jk_5 ⟨fun c3 => ?_, fun c3 => ?_⟩)
  ·
    exact jX.sub jsb_n (ct_X12_hasAge_r125_24 hD hQ  h J Sm)
  ·
    refine x_aloadn (x := 125) rfl rfl ?_
    refine x_iloadn (x := a1) rfl rfl ?_
    refine x_iconst (v := 3) rfl ki_3 ?_
    refine z_idiv rfl rfl jk_3 (by omega) (by omega) (fun v4 ev4 => ?_)
    refine x_inv (N := m_X12_numberOf) (As := [.int v4]) (b := 125) (st := []) (dx9 := 3) (mc := 0) (ms := 0) (host := "") 12 rfl t_X12_numberOf ⟨Or.inl q_12_296, i_X12_numberOf.1, i_X12_numberOf.2⟩ ⟨by decide, rfl⟩ (congrArg Prod.fst (J.1.1 125 (12, 92) rfl)) rfl (by decide) rfl rfl ⟨by decide, by decide⟩ (jC.of rfl k_X12_numberOf rfl ?_)
    show jX m_X12_numberOf 3 0 0 0 [(0, .ref 125), (1, .int v4)] [] _ 0 0 _
    refine x_aloadn (x := 125) rfl rfl ?_
    refine z_getR (N := 92) (b := 126) 12 2 rfl f_12_8 rfl J rfl 16002 ⟨rfl, rfl⟩ rfl ?_
    refine x_aloadn (x := 125) rfl rfl ?_
    refine x_iloadn (x := v4) rfl rfl ?_
    refine x_inv (N := m_X12_at) (As := [.int v4]) (b := 125) (st := [.ref 126]) (dx9 := 2) (mc := 0) (ms := 0) (host := "") 12 rfl t_X12_at ⟨Or.inl q_12_254, i_X12_at.1, i_X12_at.2⟩ ⟨by decide, rfl⟩ (congrArg Prod.fst (J.1.1 125 (12, 92) rfl)) rfl (by decide) rfl rfl ⟨by decide, by decide⟩ (jC.of rfl k_X12_at rfl ?_)
    show jX m_X12_at 2 0 0 0 [(0, .ref 125), (1, .int v4)] [] _ 0 0 _
    refine x_bipush (v := 20) rfl kb_20 ?_
    refine x_bipush (v := 90) rfl kb_90 ?_
    refine x_iloadn (x := v4) rfl rfl ?_
    refine z_imul rfl jk_90 rfl (by omega) (fun v5 ev5 => ?_)
    refine z_iadd rfl jk_20 rfl (by omega) (fun v6 ev6 => ?_)
    refine x_iret rfl rfl ?_
    show jX m_X12_numberOf 3 0 0 9 [(0, .ref 125), (1, .int v4)] [.int v6, .ref 126] _ 0 0 _
    refine x_iconst (v := 4) rfl ki_4 ?_
    refine z_iadd rfl rfl jk_4 (by omega) (fun v7 ev7 => ?_)
    refine z_iald0 (N := 50660) rfl J rfl rfl (by omega) (fun v8 qv8 => ?_)
    have ev8 := jfull v8
    refine x_iret rfl rfl ?_
    show jX m_X12_hasAge 4 0 0 16 [(0, .ref 125), (1, .int a1)] [.int v8] _ 0 0 _
    refine x_iconst (v := (-1)) rfl ki_m1 ?_
    refine x_iceq (tgt := 24) rfl rfl (ti_eq rfl jk_m1 ⟨fun c9 => ?_, fun c9 => ?_⟩)
    ·
      exact jX.sub jsb_n (ct_X12_hasAge_r125_24 hD hQ  h J Sm)
    ·
      refine x_iconst (v := 1) rfl ki_1 ?_
      refine x_goto (tgt := 25) rfl rfl ?_
      exact jX.sub jsb_n (ct_X12_hasAge_r125_300025 hD hQ  h J Sm)
def fp_X12_isMan : jFp := []
set_option maxRecDepth 100000 in
set_option maxHeartbeats 4000000 in
theorem ct_X12_isMan_200015 {Dy : jH → Prop} {h0 : jH} {Q : Option Value → jH → Prop} (hD : jDk Dy) (hQ : ∀ (v : Int32) hx9, 0 ≤ v.toInt ∧ v.toInt ≤ 1 → jJ jSgM Dy hx9 → jSm fp_X12_isMan h0 hx9 → Q (some (.int v)) hx9) : ∀ (h : jH), jJ jSgM Dy h → jSm fp_X12_isMan h0 h → jX m_X12_isMan 1 0 0 15 [] [.int 0] h 0 0 Q := by
  intro  h    J Sm
  refine x_zret rfl rfl (by decide) ?_
  exact hQ _ _ (jr_of jk_0 (by omega)) J Sm
set_option maxRecDepth 100000 in
set_option maxHeartbeats 4000000 in
theorem ct_X12_isMan_300015 {Dy : jH → Prop} {h0 : jH} {Q : Option Value → jH → Prop} (hD : jDk Dy) (hQ : ∀ (v : Int32) hx9, 0 ≤ v.toInt ∧ v.toInt ≤ 1 → jJ jSgM Dy hx9 → jSm fp_X12_isMan h0 hx9 → Q (some (.int v)) hx9) : ∀ (h : jH), jJ jSgM Dy h → jSm fp_X12_isMan h0 h → jX m_X12_isMan 1 0 0 15 [] [.int 1] h 0 0 Q := by
  intro  h    J Sm
  refine x_zret rfl rfl (by decide) ?_
  exact hQ _ _ (jr_of jk_1 (by omega)) J Sm
set_option maxRecDepth 100000 in
set_option maxHeartbeats 4000000 in
theorem ct_X12_isMan_10 {Dy : jH → Prop} {h0 : jH} {Q : Option Value → jH → Prop} (hD : jDk Dy) (hQ : ∀ (v : Int32) hx9, 0 ≤ v.toInt ∧ v.toInt ≤ 1 → jJ jSgM Dy hx9 → jSm fp_X12_isMan h0 hx9 → Q (some (.int v)) hx9) : ∀ (h : jH), jJ jSgM Dy h → jSm fp_X12_isMan h0 h → jX m_X12_isMan 1 0 0 10 [] [] h 0 0 Q := by
  intro  h    J Sm
  refine x_iconst (v := 1) rfl ki_1 ?_
  refine x_goto (tgt := 15) rfl rfl ?_
  exact jX.sub jsb_n (ct_X12_isMan_300015 hD hQ  h J Sm)
set_option maxRecDepth 100000 in
set_option maxHeartbeats 4000000 in
theorem sf_X12_isMan {Dy : jH → Prop} {h : jH} {Q : Option Value → jH → Prop} {a1 : Int32} (y1 : 0 ≤ a1.toInt ∧ a1.toInt ≤ 6) (hD : jDk Dy) (J : jJ jSgM Dy h) (hQ : ∀ (v : Int32) hx9, 0 ≤ v.toInt ∧ v.toInt ≤ 1 → jJ jSgM Dy hx9 → jSm fp_X12_isMan h hx9 → Q (some (.int v)) hx9) : jC m_X12_isMan 1 0 0 [.int a1] h Q := by
  refine jC.of rfl k_X12_isMan rfl ?_
  have Sm := jSm_rf fp_X12_isMan h
  show jX m_X12_isMan 1 0 0 0 [(0, .int a1)] [] _ 0 0 _
  refine x_iloadn (x := a1) rfl rfl ?_
  refine x_iconst (v := 3) rfl ki_3 ?_
  refine x_iceq (tgt := 10) rfl rfl (ti_eq rfl jk_3 ⟨fun c1 => ?_, fun c1 => ?_⟩)
  ·
    exact jX.sub jsb_n (ct_X12_isMan_10 hD hQ  h J Sm)
  ·
    refine x_iloadn (x := a1) rfl rfl ?_
    refine x_iconst (v := 1) rfl ki_1 ?_
    refine x_icne (tgt := 14) rfl rfl (ti_ne rfl jk_1 ⟨fun c2 => ?_, fun c2 => ?_⟩)
    ·
      refine x_iconst (v := 0) rfl ki_0 ?_
      exact jX.sub jsb_n (ct_X12_isMan_200015 hD hQ  h J Sm)
    ·
      exact jX.sub jsb_n (ct_X12_isMan_10 hD hQ  h J Sm)
def fp_X12_isWoman : jFp := []
set_option maxRecDepth 100000 in
set_option maxHeartbeats 4000000 in
theorem ct_X12_isWoman_200015 {Dy : jH → Prop} {h0 : jH} {Q : Option Value → jH → Prop} (hD : jDk Dy) (hQ : ∀ (v : Int32) hx9, 0 ≤ v.toInt ∧ v.toInt ≤ 1 → jJ jSgM Dy hx9 → jSm fp_X12_isWoman h0 hx9 → Q (some (.int v)) hx9) : ∀ (h : jH), jJ jSgM Dy h → jSm fp_X12_isWoman h0 h → jX m_X12_isWoman 1 0 0 15 [] [.int 0] h 0 0 Q := by
  intro  h    J Sm
  refine x_zret rfl rfl (by decide) ?_
  exact hQ _ _ (jr_of jk_0 (by omega)) J Sm
set_option maxRecDepth 100000 in
set_option maxHeartbeats 4000000 in
theorem ct_X12_isWoman_300015 {Dy : jH → Prop} {h0 : jH} {Q : Option Value → jH → Prop} (hD : jDk Dy) (hQ : ∀ (v : Int32) hx9, 0 ≤ v.toInt ∧ v.toInt ≤ 1 → jJ jSgM Dy hx9 → jSm fp_X12_isWoman h0 hx9 → Q (some (.int v)) hx9) : ∀ (h : jH), jJ jSgM Dy h → jSm fp_X12_isWoman h0 h → jX m_X12_isWoman 1 0 0 15 [] [.int 1] h 0 0 Q := by
  intro  h    J Sm
  refine x_zret rfl rfl (by decide) ?_
  exact hQ _ _ (jr_of jk_1 (by omega)) J Sm
set_option maxRecDepth 100000 in
set_option maxHeartbeats 4000000 in
theorem ct_X12_isWoman_10 {Dy : jH → Prop} {h0 : jH} {Q : Option Value → jH → Prop} (hD : jDk Dy) (hQ : ∀ (v : Int32) hx9, 0 ≤ v.toInt ∧ v.toInt ≤ 1 → jJ jSgM Dy hx9 → jSm fp_X12_isWoman h0 hx9 → Q (some (.int v)) hx9) : ∀ (h : jH), jJ jSgM Dy h → jSm fp_X12_isWoman h0 h → jX m_X12_isWoman 1 0 0 10 [] [] h 0 0 Q := by
  intro  h    J Sm
  refine x_iconst (v := 1) rfl ki_1 ?_
  refine x_goto (tgt := 15) rfl rfl ?_
  exact jX.sub jsb_n (ct_X12_isWoman_300015 hD hQ  h J Sm)
set_option maxRecDepth 100000 in
set_option maxHeartbeats 4000000 in
theorem sf_X12_isWoman {Dy : jH → Prop} {h : jH} {Q : Option Value → jH → Prop} {a1 : Int32} (y1 : 0 ≤ a1.toInt ∧ a1.toInt ≤ 6) (hD : jDk Dy) (J : jJ jSgM Dy h) (hQ : ∀ (v : Int32) hx9, 0 ≤ v.toInt ∧ v.toInt ≤ 1 → jJ jSgM Dy hx9 → jSm fp_X12_isWoman h hx9 → Q (some (.int v)) hx9) : jC m_X12_isWoman 1 0 0 [.int a1] h Q := by
  refine jC.of rfl k_X12_isWoman rfl ?_
  have Sm := jSm_rf fp_X12_isWoman h
  show jX m_X12_isWoman 1 0 0 0 [(0, .int a1)] [] _ 0 0 _
  refine x_iloadn (x := a1) rfl rfl ?_
  refine x_iconst (v := 4) rfl ki_4 ?_
  refine x_iceq (tgt := 10) rfl rfl (ti_eq rfl jk_4 ⟨fun c1 => ?_, fun c1 => ?_⟩)
  ·
    exact jX.sub jsb_n (ct_X12_isWoman_10 hD hQ  h J Sm)
  ·
    refine x_iloadn (x := a1) rfl rfl ?_
    refine x_iconst (v := 2) rfl ki_2 ?_
    refine x_icne (tgt := 14) rfl rfl (ti_ne rfl jk_2 ⟨fun c2 => ?_, fun c2 => ?_⟩)
    ·
      refine x_iconst (v := 0) rfl ki_0 ?_
      exact jX.sub jsb_n (ct_X12_isWoman_200015 hD hQ  h J Sm)
    ·
      exact jX.sub jsb_n (ct_X12_isWoman_10 hD hQ  h J Sm)
def fp_X12_addSpan_r125 : jFp := [(125, 32, 33), (125, 33, 34), (125, 34, 35), (125, 35, 36)]
set_option maxRecDepth 100000 in
set_option maxHeartbeats 4000000 in
theorem ct_X12_addSpan_r125_222 {Dy : jH → Prop} {h0 : jH} {Q : Option Value → jH → Prop} (hD : jDk Dy) (hQ : ∀ hx9, jJ jSgM Dy hx9 → jSm fp_X12_addSpan_r125 h0 hx9 → Q none hx9) : ∀ (h : jH), jJ jSgM Dy h → jSm fp_X12_addSpan_r125 h0 h → jX m_X12_addSpan 5 0 0 222 [] [] h 0 0 Q := by
  intro  h    J Sm
  refine x_vret rfl rfl ?_
  exact hQ _ J Sm
set_option maxRecDepth 100000 in
set_option maxHeartbeats 4000000 in
theorem ct_X12_addSpan_r125_195 {Dy : jH → Prop} {h0 : jH} {Q : Option Value → jH → Prop} (hD : jDk Dy) (hQ : ∀ hx9, jJ jSgM Dy hx9 → jSm fp_X12_addSpan_r125 h0 hx9 → Q none hx9) : ∀ (l2 : Int32) (l3 : Int32) (s0 : Int32) (s1 : Int32) (h : jH), 0 ≤ l2.toInt ∧ l2.toInt ≤ 6 → 0 ≤ l3.toInt ∧ l3.toInt ≤ 146399 → (-366) ≤ s0.toInt ∧ s0.toInt ≤ 146399 → 0 ≤ s1.toInt ∧ s1.toInt ≤ 146399 → jJ jSgM Dy h → jSm fp_X12_addSpan_r125 h0 h → jX m_X12_addSpan 5 0 0 195 [(0, .ref 125), (2, .int l2), (3, .int l3)] [.int s0, .int s1, .ref 125] h 0 0 Q := by
  intro l2 l3 s0 s1 h y0 y1 y2 y3   J Sm
  refine x_inst (N := m_X12_more) (As := [.int s1, .int s0]) (st := [.ref 125]) (dx9 := 4) (mc := 0) (ms := 0) (host := "") rfl t_X12_more ⟨Or.inl q_12_431, s_X12_more⟩ rfl (by decide) rfl rfl ⟨by decide, by decide⟩ (jC.of rfl k_X12_more rfl ?_)
  show jX m_X12_more 4 0 0 0 [(0, .int s1), (1, .int s0)] [] _ 0 0 _
  refine x_iloadn (x := s1) rfl rfl ?_
  refine x_iloadn (x := s0) rfl rfl ?_
  refine x_icle (tgt := 9) rfl rfl (ti_le rfl rfl ⟨fun c1 => ?_, fun c1 => ?_⟩)
  ·
    refine x_iloadn (x := s0) rfl rfl ?_
    refine x_iret rfl rfl ?_
    show jX m_X12_addSpan 5 0 0 198 [(0, .ref 125), (2, .int l2), (3, .int l3)] [.int s0, .ref 125] _ 0 0 _
    refine z_putI (N := 92) (w := s0.toInt) 12 34 rfl f_12_418 rfl (jfin_no TX12 RX12 92 rfl rfl) hD J Sm rfl rfl rfl (pw_125_34 (by omega)) rfl (fun h w2 J Sm => ?_)
    refine x_iloadn (x := l2) rfl rfl ?_
    refine x_iconst (v := 2) rfl ki_2 ?_
    refine x_icne (tgt := 222) rfl rfl (ti_ne rfl jk_2 ⟨fun c3 => ?_, fun c3 => ?_⟩)
    ·
      exact jX.sub jsb_n (ct_X12_addSpan_r125_222 hD hQ  h J Sm)
    ·
      refine x_aloadn (x := 125) rfl rfl ?_
      refine x_aloadn (x := 125) rfl rfl ?_
      refine z_getI (N := 92) 12 32 rfl f_12_412 rfl J rfl sg_125_32_33_1_0_1 (fun v4 qv4 ev4 => ?_)
      refine x_iloadn (x := l3) rfl rfl ?_
      refine x_sipush (v := 18300) rfl ks_18300 ?_
      refine z_isub rfl rfl jk_18300 (by omega) (fun v5 ev5 => ?_)
      refine x_inst (N := m_X12_more) (As := [.int v4, .int v5]) (st := [.ref 125]) (dx9 := 4) (mc := 0) (ms := 0) (host := "") rfl t_X12_more ⟨Or.inl q_12_431, s_X12_more⟩ rfl (by decide) rfl rfl ⟨by decide, by decide⟩ (jC.of rfl k_X12_more rfl ?_)
      show jX m_X12_more 4 0 0 0 [(0, .int v4), (1, .int v5)] [] _ 0 0 _
      refine x_iloadn (x := v4) rfl rfl ?_
      refine x_iloadn (x := v5) rfl rfl ?_
      refine x_icle (tgt := 9) rfl rfl (ti_le rfl rfl ⟨fun c6 => ?_, fun c6 => ?_⟩)
      ·
        refine x_iloadn (x := v5) rfl rfl ?_
        refine x_iret rfl rfl ?_
        show jX m_X12_addSpan 5 0 0 219 [(0, .ref 125), (2, .int l2), (3, .int l3)] [.int v5, .ref 125] _ 0 0 _
        refine z_putI (N := 92) (w := v5.toInt) 12 32 rfl f_12_412 rfl (jfin_no TX12 RX12 92 rfl rfl) hD J Sm rfl rfl rfl (pw_125_32 (by omega)) rfl (fun h w7 J Sm => ?_)
        exact jX.sub jsb_n (ct_X12_addSpan_r125_222 hD hQ  h J Sm)
      ·
        refine x_iloadn (x := v4) rfl rfl ?_
        refine x_goto (tgt := 10) rfl rfl ?_
        refine x_iret rfl rfl ?_
        show jX m_X12_addSpan 5 0 0 219 [(0, .ref 125), (2, .int l2), (3, .int l3)] [.int v4, .ref 125] _ 0 0 _
        refine z_putI (N := 92) (w := v4.toInt) 12 32 rfl f_12_412 rfl (jfin_no TX12 RX12 92 rfl rfl) hD J Sm rfl rfl rfl (pw_125_32 (by omega)) rfl (fun h w8 J Sm => ?_)
        exact jX.sub jsb_n (ct_X12_addSpan_r125_222 hD hQ  h J Sm)
  ·
    refine x_iloadn (x := s1) rfl rfl ?_
    refine x_goto (tgt := 10) rfl rfl ?_
    refine x_iret rfl rfl ?_
    show jX m_X12_addSpan 5 0 0 198 [(0, .ref 125), (2, .int l2), (3, .int l3)] [.int s1, .ref 125] _ 0 0 _
    refine z_putI (N := 92) (w := s1.toInt) 12 34 rfl f_12_418 rfl (jfin_no TX12 RX12 92 rfl rfl) hD J Sm rfl rfl rfl (pw_125_34 (by omega)) rfl (fun h w9 J Sm => ?_)
    refine x_iloadn (x := l2) rfl rfl ?_
    refine x_iconst (v := 2) rfl ki_2 ?_
    refine x_icne (tgt := 222) rfl rfl (ti_ne rfl jk_2 ⟨fun c10 => ?_, fun c10 => ?_⟩)
    ·
      exact jX.sub jsb_n (ct_X12_addSpan_r125_222 hD hQ  h J Sm)
    ·
      refine x_aloadn (x := 125) rfl rfl ?_
      refine x_aloadn (x := 125) rfl rfl ?_
      refine z_getI (N := 92) 12 32 rfl f_12_412 rfl J rfl sg_125_32_33_1_0_1 (fun v11 qv11 ev11 => ?_)
      refine x_iloadn (x := l3) rfl rfl ?_
      refine x_sipush (v := 18300) rfl ks_18300 ?_
      refine z_isub rfl rfl jk_18300 (by omega) (fun v12 ev12 => ?_)
      refine x_inst (N := m_X12_more) (As := [.int v11, .int v12]) (st := [.ref 125]) (dx9 := 4) (mc := 0) (ms := 0) (host := "") rfl t_X12_more ⟨Or.inl q_12_431, s_X12_more⟩ rfl (by decide) rfl rfl ⟨by decide, by decide⟩ (jC.of rfl k_X12_more rfl ?_)
      show jX m_X12_more 4 0 0 0 [(0, .int v11), (1, .int v12)] [] _ 0 0 _
      refine x_iloadn (x := v11) rfl rfl ?_
      refine x_iloadn (x := v12) rfl rfl ?_
      refine x_icle (tgt := 9) rfl rfl (ti_le rfl rfl ⟨fun c13 => ?_, fun c13 => ?_⟩)
      ·
        refine x_iloadn (x := v12) rfl rfl ?_
        refine x_iret rfl rfl ?_
        show jX m_X12_addSpan 5 0 0 219 [(0, .ref 125), (2, .int l2), (3, .int l3)] [.int v12, .ref 125] _ 0 0 _
        refine z_putI (N := 92) (w := v12.toInt) 12 32 rfl f_12_412 rfl (jfin_no TX12 RX12 92 rfl rfl) hD J Sm rfl rfl rfl (pw_125_32 (by omega)) rfl (fun h w14 J Sm => ?_)
        exact jX.sub jsb_n (ct_X12_addSpan_r125_222 hD hQ  h J Sm)
      ·
        refine x_iloadn (x := v11) rfl rfl ?_
        refine x_goto (tgt := 10) rfl rfl ?_
        refine x_iret rfl rfl ?_
        show jX m_X12_addSpan 5 0 0 219 [(0, .ref 125), (2, .int l2), (3, .int l3)] [.int v11, .ref 125] _ 0 0 _
        refine z_putI (N := 92) (w := v11.toInt) 12 32 rfl f_12_412 rfl (jfin_no TX12 RX12 92 rfl rfl) hD J Sm rfl rfl rfl (pw_125_32 (by omega)) rfl (fun h w15 J Sm => ?_)
        exact jX.sub jsb_n (ct_X12_addSpan_r125_222 hD hQ  h J Sm)
set_option maxRecDepth 100000 in
set_option maxHeartbeats 4000000 in
theorem ct_X12_addSpan_r125_170 {Dy : jH → Prop} {h0 : jH} {Q : Option Value → jH → Prop} (hD : jDk Dy) (hQ : ∀ hx9, jJ jSgM Dy hx9 → jSm fp_X12_addSpan_r125 h0 hx9 → Q none hx9) : ∀ (l2 : Int32) (l3 : Int32) (s0 : Int32) (s1 : Int32) (h : jH), 0 ≤ l2.toInt ∧ l2.toInt ≤ 6 → 0 ≤ l3.toInt ∧ l3.toInt ≤ 146399 → (-5124) ≤ s0.toInt ∧ s0.toInt ≤ 146399 → (-2147483648) ≤ s1.toInt ∧ s1.toInt ≤ 146399 → jJ jSgM Dy h → jSm fp_X12_addSpan_r125 h0 h → jX m_X12_addSpan 5 0 0 170 [(0, .ref 125), (2, .int l2), (3, .int l3)] [.int s0, .int s1, .ref 125] h 0 0 Q := by
  intro l2 l3 s0 s1 h y0 y1 y2 y3   J Sm
  refine x_inst (N := m_X12_less) (As := [.int s1, .int s0]) (st := [.ref 125]) (dx9 := 4) (mc := 0) (ms := 0) (host := "") rfl t_X12_less ⟨Or.inl q_12_428, s_X12_less⟩ rfl (by decide) rfl rfl ⟨by decide, by decide⟩ (jC.of rfl k_X12_less rfl ?_)
  show jX m_X12_less 4 0 0 0 [(0, .int s1), (1, .int s0)] [] _ 0 0 _
  refine x_iloadn (x := s1) rfl rfl ?_
  refine x_iloadn (x := s0) rfl rfl ?_
  refine x_icge (tgt := 9) rfl rfl (ti_ge rfl rfl ⟨fun c1 => ?_, fun c1 => ?_⟩)
  ·
    refine x_iloadn (x := s0) rfl rfl ?_
    refine x_iret rfl rfl ?_
    show jX m_X12_addSpan 5 0 0 173 [(0, .ref 125), (2, .int l2), (3, .int l3)] [.int s0, .ref 125] _ 0 0 _
    refine z_putI (N := 92) (w := s0.toInt) 12 33 rfl f_12_415 rfl (jfin_no TX12 RX12 92 rfl rfl) hD J Sm rfl rfl rfl (pw_125_33 (by omega)) rfl (fun h w2 J Sm => ?_)
    refine x_aloadn (x := 125) rfl rfl ?_
    refine x_aloadn (x := 125) rfl rfl ?_
    refine z_getI (N := 92) 12 34 rfl f_12_418 rfl J rfl sg_125_34_35_1_0_1 (fun v3 qv3 ev3 => ?_)
    refine x_iloadn (x := l2) rfl rfl ?_
    refine x_iconst (v := 1) rfl ki_1 ?_
    refine x_icne (tgt := 194) rfl rfl (ti_ne rfl jk_1 ⟨fun c4 => ?_, fun c4 => ?_⟩)
    ·
      refine x_iloadn (x := l3) rfl rfl ?_
      exact jX.sub (jsb_c rfl (jsb_c rfl (jsb_c rfl jsb_n))) (ct_X12_addSpan_r125_195 hD hQ  l2 l3 l3 v3 h (jr_of rfl (by omega)) (jr_of rfl (by omega)) (jr_of rfl (by omega)) (jr_of rfl (by omega)) J Sm)
    ·
      refine x_iloadn (x := l3) rfl rfl ?_
      refine x_sipush (v := 366) rfl ks_366 ?_
      refine z_isub rfl rfl jk_366 (by omega) (fun v5 ev5 => ?_)
      refine x_goto (tgt := 195) rfl rfl ?_
      exact jX.sub (jsb_c rfl (jsb_c rfl (jsb_c rfl jsb_n))) (ct_X12_addSpan_r125_195 hD hQ  l2 l3 v5 v3 h (jr_of rfl (by omega)) (jr_of rfl (by omega)) (jr_of rfl (by omega)) (jr_of rfl (by omega)) J Sm)
  ·
    refine x_iloadn (x := s1) rfl rfl ?_
    refine x_goto (tgt := 10) rfl rfl ?_
    refine x_iret rfl rfl ?_
    show jX m_X12_addSpan 5 0 0 173 [(0, .ref 125), (2, .int l2), (3, .int l3)] [.int s1, .ref 125] _ 0 0 _
    refine z_putI (N := 92) (w := s1.toInt) 12 33 rfl f_12_415 rfl (jfin_no TX12 RX12 92 rfl rfl) hD J Sm rfl rfl rfl (pw_125_33 (by omega)) rfl (fun h w6 J Sm => ?_)
    refine x_aloadn (x := 125) rfl rfl ?_
    refine x_aloadn (x := 125) rfl rfl ?_
    refine z_getI (N := 92) 12 34 rfl f_12_418 rfl J rfl sg_125_34_35_1_0_1 (fun v7 qv7 ev7 => ?_)
    refine x_iloadn (x := l2) rfl rfl ?_
    refine x_iconst (v := 1) rfl ki_1 ?_
    refine x_icne (tgt := 194) rfl rfl (ti_ne rfl jk_1 ⟨fun c8 => ?_, fun c8 => ?_⟩)
    ·
      refine x_iloadn (x := l3) rfl rfl ?_
      exact jX.sub (jsb_c rfl (jsb_c rfl (jsb_c rfl jsb_n))) (ct_X12_addSpan_r125_195 hD hQ  l2 l3 l3 v7 h (jr_of rfl (by omega)) (jr_of rfl (by omega)) (jr_of rfl (by omega)) (jr_of rfl (by omega)) J Sm)
    ·
      refine x_iloadn (x := l3) rfl rfl ?_
      refine x_sipush (v := 366) rfl ks_366 ?_
      refine z_isub rfl rfl jk_366 (by omega) (fun v9 ev9 => ?_)
      refine x_goto (tgt := 195) rfl rfl ?_
      exact jX.sub (jsb_c rfl (jsb_c rfl (jsb_c rfl jsb_n))) (ct_X12_addSpan_r125_195 hD hQ  l2 l3 v9 v7 h (jr_of rfl (by omega)) (jr_of rfl (by omega)) (jr_of rfl (by omega)) (jr_of rfl (by omega)) J Sm)
set_option maxRecDepth 100000 in
set_option maxHeartbeats 4000000 in
theorem ct_X12_addSpan_r125_161 {Dy : jH → Prop} {h0 : jH} {Q : Option Value → jH → Prop} (hD : jDk Dy) (hQ : ∀ hx9, jJ jSgM Dy hx9 → jSm fp_X12_addSpan_r125 h0 hx9 → Q none hx9) : ∀ (l2 : Int32) (l3 : Int32) (s0 : Int32) (h : jH), 0 ≤ l2.toInt ∧ l2.toInt ≤ 6 → 0 ≤ l3.toInt ∧ l3.toInt ≤ 146399 → (-2147483648) ≤ s0.toInt ∧ s0.toInt ≤ 146399 → jJ jSgM Dy h → jSm fp_X12_addSpan_r125 h0 h → jX m_X12_addSpan 5 0 0 161 [(0, .ref 125), (2, .int l2), (3, .int l3)] [.int s0, .ref 125] h 0 0 Q := by
  intro l2 l3 s0 h y0 y1 y2   J Sm
  refine x_iloadn (x := l3) rfl rfl ?_
  refine x_sipush (v := 5124) rfl ks_5124 ?_
  refine z_isub rfl rfl jk_5124 (by omega) (fun v1 ev1 => ?_)
  refine x_goto (tgt := 170) rfl rfl ?_
  exact jX.sub (jsb_c rfl (jsb_c rfl (jsb_c rfl jsb_n))) (ct_X12_addSpan_r125_170 hD hQ  l2 l3 v1 s0 h (jr_of rfl (by omega)) (jr_of rfl (by omega)) (jr_of rfl (by omega)) (jr_of rfl (by omega)) J Sm)
set_option maxRecDepth 100000 in
set_option maxHeartbeats 4000000 in
theorem ct_X12_addSpan_r125_142 {Dy : jH → Prop} {h0 : jH} {Q : Option Value → jH → Prop} (hD : jDk Dy) (hQ : ∀ hx9, jJ jSgM Dy hx9 → jSm fp_X12_addSpan_r125 h0 hx9 → Q none hx9) : ∀ (l2 : Int32) (l3 : Int32) (h : jH), 0 ≤ l2.toInt ∧ l2.toInt ≤ 6 → 0 ≤ l3.toInt ∧ l3.toInt ≤ 146399 → jJ jSgM Dy h → jSm fp_X12_addSpan_r125 h0 h → jX m_X12_addSpan 5 0 0 142 [(0, .ref 125), (2, .int l2), (3, .int l3)] [] h 0 0 Q := by
  intro l2 l3 h y0 y1   J Sm
  refine x_aloadn (x := 125) rfl rfl ?_
  refine x_aloadn (x := 125) rfl rfl ?_
  refine z_getI (N := 92) 12 33 rfl f_12_415 rfl J rfl sg_125_33_34_1_0_1 (fun v1 qv1 ev1 => ?_)
  refine x_iloadn (x := l2) rfl rfl ?_
  refine x_inst (N := m_X12_isMan) (As := [.int l2]) (st := [.int v1, .ref 125]) (dx9 := 1) (mc := 0) (ms := 0) (host := "") rfl t_X12_isMan ⟨Or.inl q_12_341, s_X12_isMan⟩ rfl (by decide) rfl rfl ⟨by decide, by decide⟩ (sf_X12_isMan (jr_of rfl (by omega)) hD J  (fun v3 h ev3 J S2 => ?_))
  have Sm := jSm_tr rfl Sm S2
  show jX m_X12_addSpan 5 0 0 151 [(0, .ref 125), (2, .int l2), (3, .int l3)] [.int v3, .int v1, .ref 125] _ 0 0 _
  refine x_ifne (tgt := 161) rfl rfl (ti_ne rfl jk_0 ⟨fun c4 => ?_, fun c4 => ?_⟩)
  ·
    exact jX.sub (jsb_c rfl (jsb_c rfl (jsb_c rfl jsb_n))) (ct_X12_addSpan_r125_161 hD hQ  l2 l3 v1 h (jr_of rfl (by omega)) (jr_of rfl (by omega)) (jr_of rfl (by omega)) J Sm)
  ·
    refine x_iloadn (x := l2) rfl rfl ?_
    refine x_inst (N := m_X12_isWoman) (As := [.int l2]) (st := [.int v1, .ref 125]) (dx9 := 1) (mc := 0) (ms := 0) (host := "") rfl t_X12_isWoman ⟨Or.inl q_12_344, s_X12_isWoman⟩ rfl (by decide) rfl rfl ⟨by decide, by decide⟩ (sf_X12_isWoman (jr_of rfl (by omega)) hD J  (fun v6 h ev6 J S5 => ?_))
    have Sm := jSm_tr rfl Sm S5
    show jX m_X12_addSpan 5 0 0 158 [(0, .ref 125), (2, .int l2), (3, .int l3)] [.int v6, .int v1, .ref 125] _ 0 0 _
    refine x_ifeq (tgt := 169) rfl rfl (ti_eq rfl jk_0 ⟨fun c7 => ?_, fun c7 => ?_⟩)
    ·
      refine x_iloadn (x := l3) rfl rfl ?_
      exact jX.sub (jsb_c rfl (jsb_c rfl (jsb_c rfl jsb_n))) (ct_X12_addSpan_r125_170 hD hQ  l2 l3 l3 v1 h (jr_of rfl (by omega)) (jr_of rfl (by omega)) (jr_of rfl (by omega)) (jr_of rfl (by omega)) J Sm)
    ·
      exact jX.sub (jsb_c rfl (jsb_c rfl (jsb_c rfl jsb_n))) (ct_X12_addSpan_r125_161 hD hQ  l2 l3 v1 h (jr_of rfl (by omega)) (jr_of rfl (by omega)) (jr_of rfl (by omega)) J Sm)
set_option maxRecDepth 100000 in
set_option maxHeartbeats 4000000 in
theorem ct_X12_addSpan_r125_40 {Dy : jH → Prop} {h0 : jH} {Q : Option Value → jH → Prop} (hD : jDk Dy) (hQ : ∀ hx9, jJ jSgM Dy hx9 → jSm fp_X12_addSpan_r125 h0 hx9 → Q none hx9) : ∀ (l1 : Int32) (l2 : Int32) (l3 : Int32) (h : jH), 0 ≤ l1.toInt ∧ l1.toInt ≤ 599 → 0 ≤ l2.toInt ∧ l2.toInt ≤ 6 → 0 ≤ l3.toInt ∧ l3.toInt ≤ 146399 → jJ jSgM Dy h → jSm fp_X12_addSpan_r125 h0 h → jX m_X12_addSpan 5 0 0 40 [(0, .ref 125), (1, .int l1), (2, .int l2), (3, .int l3)] [] h 0 0 Q := by
  intro l1 l2 l3 h y0 y1 y2   J Sm
  refine x_iloadn (x := l2) rfl rfl ?_
  refine x_iconst (v := 5) rfl ki_5 ?_
  refine x_icne (tgt := 142) rfl rfl (ti_ne rfl jk_5 ⟨fun c1 => ?_, fun c1 => ?_⟩)
  ·
    exact jX.sub (jsb_c rfl (jsb_c rfl (jsb_c rfl jsb_n))) (ct_X12_addSpan_r125_142 hD hQ  l2 l3 h (jr_of rfl (by omega)) (jr_of rfl (by omega)) J Sm)
  ·
    refine x_aloadn (x := 125) rfl rfl ?_
    refine x_aloadn (x := 125) rfl rfl ?_
    refine z_getI (N := 92) 12 34 rfl f_12_418 rfl J rfl sg_125_34_35_1_0_1 (fun v2 qv2 ev2 => ?_)
    refine x_iloadn (x := l3) rfl rfl ?_
    refine x_inst (N := m_X12_more) (As := [.int v2, .int l3]) (st := [.ref 125]) (dx9 := 4) (mc := 0) (ms := 0) (host := "") rfl t_X12_more ⟨Or.inl q_12_431, s_X12_more⟩ rfl (by decide) rfl rfl ⟨by decide, by decide⟩ (jC.of rfl k_X12_more rfl ?_)
    show jX m_X12_more 4 0 0 0 [(0, .int v2), (1, .int l3)] [] _ 0 0 _
    refine x_iloadn (x := v2) rfl rfl ?_
    refine x_iloadn (x := l3) rfl rfl ?_
    refine x_icle (tgt := 9) rfl rfl (ti_le rfl rfl ⟨fun c3 => ?_, fun c3 => ?_⟩)
    ·
      refine x_iloadn (x := l3) rfl rfl ?_
      refine x_iret rfl rfl ?_
      show jX m_X12_addSpan 5 0 0 54 [(0, .ref 125), (1, .int l1), (2, .int l2), (3, .int l3)] [.int l3, .ref 125] _ 0 0 _
      refine z_putI (N := 92) (w := l3.toInt) 12 34 rfl f_12_418 rfl (jfin_no TX12 RX12 92 rfl rfl) hD J Sm rfl rfl rfl (pw_125_34 (by omega)) rfl (fun h w4 J Sm => ?_)
      refine x_aloadn (x := 125) rfl rfl ?_
      refine x_aloadn (x := 125) rfl rfl ?_
      refine z_getI (N := 92) 12 35 rfl f_12_421 rfl J rfl sg_125_35_36_1_0_1 (fun v5 qv5 ev5 => ?_)
      refine x_iloadn (x := l3) rfl rfl ?_
      refine x_inst (N := m_X12_less) (As := [.int v5, .int l3]) (st := [.ref 125]) (dx9 := 4) (mc := 0) (ms := 0) (host := "") rfl t_X12_less ⟨Or.inl q_12_428, s_X12_less⟩ rfl (by decide) rfl rfl ⟨by decide, by decide⟩ (jC.of rfl k_X12_less rfl ?_)
      show jX m_X12_less 4 0 0 0 [(0, .int v5), (1, .int l3)] [] _ 0 0 _
      refine x_iloadn (x := v5) rfl rfl ?_
      refine x_iloadn (x := l3) rfl rfl ?_
      refine x_icge (tgt := 9) rfl rfl (ti_ge rfl rfl ⟨fun c6 => ?_, fun c6 => ?_⟩)
      ·
        refine x_iloadn (x := l3) rfl rfl ?_
        refine x_iret rfl rfl ?_
        show jX m_X12_addSpan 5 0 0 66 [(0, .ref 125), (1, .int l1), (2, .int l2), (3, .int l3)] [.int l3, .ref 125] _ 0 0 _
        refine z_putI (N := 92) (w := l3.toInt) 12 35 rfl f_12_421 rfl (jfin_no TX12 RX12 92 rfl rfl) hD J Sm rfl rfl rfl (pw_125_35 (by omega)) rfl (fun h w7 J Sm => ?_)
        refine x_aloadn (x := 125) rfl rfl ?_
        refine x_iloadn (x := l1) rfl rfl ?_
        refine x_inv (N := m_X12_hasAge) (As := [.int l1]) (b := 125) (st := []) (dx9 := 4) (mc := 0) (ms := 0) (host := "") 12 rfl t_X12_hasAge ⟨Or.inl q_12_350, i_X12_hasAge.1, i_X12_hasAge.2⟩ ⟨by decide, rfl⟩ (congrArg Prod.fst (J.1.1 125 (12, 92) rfl)) rfl (by decide) rfl rfl ⟨by decide, by decide⟩ (sf_X12_hasAge_r125 (jr_of rfl (by omega)) hD J  (fun v9 h ev9 J S8 => ?_))
        have Sm := jSm_tr rfl Sm S8
        show jX m_X12_addSpan 5 0 0 74 [(0, .ref 125), (1, .int l1), (2, .int l2), (3, .int l3)] [.int v9] _ 0 0 _
        refine x_ifeq (tgt := 142) rfl rfl (ti_eq rfl jk_0 ⟨fun c10 => ?_, fun c10 => ?_⟩)
        ·
          exact jX.sub (jsb_c rfl (jsb_c rfl (jsb_c rfl jsb_n))) (ct_X12_addSpan_r125_142 hD hQ  l2 l3 h (jr_of rfl (by omega)) (jr_of rfl (by omega)) J Sm)
        ·
          refine x_iloadn (x := l3) rfl rfl ?_
          refine x_sipush (v := 366) rfl ks_366 ?_
          refine z_idiv rfl rfl jk_366 (by omega) (by omega) (fun v11 ev11 => ?_)
          refine x_aloadn (x := 125) rfl rfl ?_
          refine x_iloadn (x := l1) rfl rfl ?_
          refine x_iconst (v := 3) rfl ki_3 ?_
          refine z_idiv rfl rfl jk_3 (by omega) (by omega) (fun v12 ev12 => ?_)
          refine x_inv (N := m_X12_numberOf) (As := [.int v12]) (b := 125) (st := [.int v11]) (dx9 := 4) (mc := 0) (ms := 0) (host := "") 12 rfl t_X12_numberOf ⟨Or.inl q_12_296, i_X12_numberOf.1, i_X12_numberOf.2⟩ ⟨by decide, rfl⟩ (congrArg Prod.fst (J.1.1 125 (12, 92) rfl)) rfl (by decide) rfl rfl ⟨by decide, by decide⟩ (jC.of rfl k_X12_numberOf rfl ?_)
          show jX m_X12_numberOf 4 0 0 0 [(0, .ref 125), (1, .int v12)] [] _ 0 0 _
          refine x_aloadn (x := 125) rfl rfl ?_
          refine z_getR (N := 92) (b := 126) 12 2 rfl f_12_8 rfl J rfl 16002 ⟨rfl, rfl⟩ rfl ?_
          refine x_aloadn (x := 125) rfl rfl ?_
          refine x_iloadn (x := v12) rfl rfl ?_
          refine x_inv (N := m_X12_at) (As := [.int v12]) (b := 125) (st := [.ref 126]) (dx9 := 3) (mc := 0) (ms := 0) (host := "") 12 rfl t_X12_at ⟨Or.inl q_12_254, i_X12_at.1, i_X12_at.2⟩ ⟨by decide, rfl⟩ (congrArg Prod.fst (J.1.1 125 (12, 92) rfl)) rfl (by decide) rfl rfl ⟨by decide, by decide⟩ (jC.of rfl k_X12_at rfl ?_)
          show jX m_X12_at 3 0 0 0 [(0, .ref 125), (1, .int v12)] [] _ 0 0 _
          refine x_bipush (v := 20) rfl kb_20 ?_
          refine x_bipush (v := 90) rfl kb_90 ?_
          refine x_iloadn (x := v12) rfl rfl ?_
          refine z_imul rfl jk_90 rfl (by omega) (fun v13 ev13 => ?_)
          refine z_iadd rfl jk_20 rfl (by omega) (fun v14 ev14 => ?_)
          refine x_iret rfl rfl ?_
          show jX m_X12_numberOf 4 0 0 9 [(0, .ref 125), (1, .int v12)] [.int v14, .ref 126] _ 0 0 _
          refine x_iconst (v := 4) rfl ki_4 ?_
          refine z_iadd rfl rfl jk_4 (by omega) (fun v15 ev15 => ?_)
          refine z_iald0 (N := 50660) rfl J rfl rfl (by omega) (fun v16 qv16 => ?_)
          have ev16 := jfull v16
          refine x_iret rfl rfl ?_
          show jX m_X12_addSpan 5 0 0 89 [(0, .ref 125), (1, .int l1), (2, .int l2), (3, .int l3)] [.int v16, .int v11] _ 0 0 _
          refine z_isub0 rfl (fun v17 => ?_)
          have ev17 := jfull v17
          refine x_istore (lsx9 := [(4, .int v17), (0, .ref 125), (1, .int l1), (2, .int l2), (3, .int l3)]) rfl rfl rfl ?_
          refine x_aloadn (x := 125) rfl rfl ?_
          refine x_aloadn (x := 125) rfl rfl ?_
          refine z_getI (N := 92) 12 32 rfl f_12_412 rfl J rfl sg_125_32_33_1_0_1 (fun v18 qv18 ev18 => ?_)
          refine x_iload (x := v17) rfl rfl ?_
          refine x_aloadn (x := 125) rfl rfl ?_
          refine z_getI (N := 92) 12 27 rfl f_12_69 rfl J rfl sg_125_27_28_1_0_1 (fun v19 qv19 ev19 => ?_)
          refine z_isub0 rfl (fun v20 => ?_)
          have ev20 := jfull v20
          refine x_sipush (v := 366) rfl ks_366 ?_
          refine z_imul0 rfl (fun v21 => ?_)
          have ev21 := jfull v21
          refine x_inst (N := m_X12_more) (As := [.int v18, .int v21]) (st := [.ref 125]) (dx9 := 4) (mc := 0) (ms := 0) (host := "") rfl t_X12_more ⟨Or.inl q_12_431, s_X12_more⟩ rfl (by decide) rfl rfl ⟨by decide, by decide⟩ (jC.of rfl k_X12_more rfl ?_)
          show jX m_X12_more 4 0 0 0 [(0, .int v18), (1, .int v21)] [] _ 0 0 _
          refine x_iloadn (x := v18) rfl rfl ?_
          refine x_iloadn (x := v21) rfl rfl ?_
          refine x_icle (tgt := 9) rfl rfl (ti_le rfl rfl ⟨fun c22 => ?_, fun c22 => ?_⟩)
          ·
            refine x_iloadn (x := v21) rfl rfl ?_
            refine x_iret rfl rfl ?_
            show jX m_X12_addSpan 5 0 0 111 [(4, .int v17), (0, .ref 125), (1, .int l1), (2, .int l2), (3, .int l3)] [.int v21, .ref 125] _ 0 0 _
            refine z_putI (N := 92) (w := v21.toInt) 12 32 rfl f_12_412 rfl (jfin_no TX12 RX12 92 rfl rfl) hD J Sm rfl rfl rfl (pw_125_32 (by omega)) rfl (fun h w23 J Sm => ?_)
            refine x_aloadn (x := 125) rfl rfl ?_
            refine x_aloadn (x := 125) rfl rfl ?_
            refine z_getI (N := 92) 12 33 rfl f_12_415 rfl J rfl sg_125_33_34_1_0_1 (fun v24 qv24 ev24 => ?_)
            refine x_iload (x := v17) rfl rfl ?_
            refine x_aloadn (x := 125) rfl rfl ?_
            refine z_getM (N := 92) (v := v19) 12 27 rfl f_12_69 rfl J rfl (jmo w23 rfl qv19) ?_
            refine z_iadd0 rfl (fun v25 => ?_)
            have ev25 := jfull v25
            refine x_sipush (v := 366) rfl ks_366 ?_
            refine z_imul0 rfl (fun v26 => ?_)
            have ev26 := jfull v26
            refine x_sipush (v := 366) rfl ks_366 ?_
            refine z_iadd0 rfl (fun v27 => ?_)
            have ev27 := jfull v27
            refine x_iconst (v := 1) rfl ki_1 ?_
            refine z_isub0 rfl (fun v28 => ?_)
            have ev28 := jfull v28
            refine x_inst (N := m_X12_less) (As := [.int v24, .int v28]) (st := [.ref 125]) (dx9 := 4) (mc := 0) (ms := 0) (host := "") rfl t_X12_less ⟨Or.inl q_12_428, s_X12_less⟩ rfl (by decide) rfl rfl ⟨by decide, by decide⟩ (jC.of rfl k_X12_less rfl ?_)
            show jX m_X12_less 4 0 0 0 [(0, .int v24), (1, .int v28)] [] _ 0 0 _
            refine x_iloadn (x := v24) rfl rfl ?_
            refine x_iloadn (x := v28) rfl rfl ?_
            refine x_icge (tgt := 9) rfl rfl (ti_ge rfl rfl ⟨fun c29 => ?_, fun c29 => ?_⟩)
            ·
              refine x_iloadn (x := v28) rfl rfl ?_
              refine x_iret rfl rfl ?_
              show jX m_X12_addSpan 5 0 0 139 [(4, .int v17), (0, .ref 125), (1, .int l1), (2, .int l2), (3, .int l3)] [.int v28, .ref 125] _ 0 0 _
              refine z_putI (N := 92) (w := v28.toInt) 12 33 rfl f_12_415 rfl (jfin_no TX12 RX12 92 rfl rfl) hD J Sm rfl rfl rfl (pw_125_33 (by omega)) rfl (fun h w30 J Sm => ?_)
              exact jX.sub (jsb_c rfl (jsb_c rfl (jsb_c rfl jsb_n))) (ct_X12_addSpan_r125_142 hD hQ  l2 l3 h (jr_of rfl (by omega)) (jr_of rfl (by omega)) J Sm)
            ·
              refine x_iloadn (x := v24) rfl rfl ?_
              refine x_goto (tgt := 10) rfl rfl ?_
              refine x_iret rfl rfl ?_
              show jX m_X12_addSpan 5 0 0 139 [(4, .int v17), (0, .ref 125), (1, .int l1), (2, .int l2), (3, .int l3)] [.int v24, .ref 125] _ 0 0 _
              refine z_putI (N := 92) (w := v24.toInt) 12 33 rfl f_12_415 rfl (jfin_no TX12 RX12 92 rfl rfl) hD J Sm rfl rfl rfl (pw_125_33 (by omega)) rfl (fun h w31 J Sm => ?_)
              exact jX.sub (jsb_c rfl (jsb_c rfl (jsb_c rfl jsb_n))) (ct_X12_addSpan_r125_142 hD hQ  l2 l3 h (jr_of rfl (by omega)) (jr_of rfl (by omega)) J Sm)
          ·
            refine x_iloadn (x := v18) rfl rfl ?_
            refine x_goto (tgt := 10) rfl rfl ?_
            refine x_iret rfl rfl ?_
            show jX m_X12_addSpan 5 0 0 111 [(4, .int v17), (0, .ref 125), (1, .int l1), (2, .int l2), (3, .int l3)] [.int v18, .ref 125] _ 0 0 _
            refine z_putI (N := 92) (w := v18.toInt) 12 32 rfl f_12_412 rfl (jfin_no TX12 RX12 92 rfl rfl) hD J Sm rfl rfl rfl (pw_125_32 (by omega)) rfl (fun h w32 J Sm => ?_)
            refine x_aloadn (x := 125) rfl rfl ?_
            refine x_aloadn (x := 125) rfl rfl ?_
            refine z_getI (N := 92) 12 33 rfl f_12_415 rfl J rfl sg_125_33_34_1_0_1 (fun v33 qv33 ev33 => ?_)
            refine x_iload (x := v17) rfl rfl ?_
            refine x_aloadn (x := 125) rfl rfl ?_
            refine z_getM (N := 92) (v := v19) 12 27 rfl f_12_69 rfl J rfl (jmo w32 rfl qv19) ?_
            refine z_iadd0 rfl (fun v34 => ?_)
            have ev34 := jfull v34
            refine x_sipush (v := 366) rfl ks_366 ?_
            refine z_imul0 rfl (fun v35 => ?_)
            have ev35 := jfull v35
            refine x_sipush (v := 366) rfl ks_366 ?_
            refine z_iadd0 rfl (fun v36 => ?_)
            have ev36 := jfull v36
            refine x_iconst (v := 1) rfl ki_1 ?_
            refine z_isub0 rfl (fun v37 => ?_)
            have ev37 := jfull v37
            refine x_inst (N := m_X12_less) (As := [.int v33, .int v37]) (st := [.ref 125]) (dx9 := 4) (mc := 0) (ms := 0) (host := "") rfl t_X12_less ⟨Or.inl q_12_428, s_X12_less⟩ rfl (by decide) rfl rfl ⟨by decide, by decide⟩ (jC.of rfl k_X12_less rfl ?_)
            show jX m_X12_less 4 0 0 0 [(0, .int v33), (1, .int v37)] [] _ 0 0 _
            refine x_iloadn (x := v33) rfl rfl ?_
            refine x_iloadn (x := v37) rfl rfl ?_
            refine x_icge (tgt := 9) rfl rfl (ti_ge rfl rfl ⟨fun c38 => ?_, fun c38 => ?_⟩)
            ·
              refine x_iloadn (x := v37) rfl rfl ?_
              refine x_iret rfl rfl ?_
              show jX m_X12_addSpan 5 0 0 139 [(4, .int v17), (0, .ref 125), (1, .int l1), (2, .int l2), (3, .int l3)] [.int v37, .ref 125] _ 0 0 _
              refine z_putI (N := 92) (w := v37.toInt) 12 33 rfl f_12_415 rfl (jfin_no TX12 RX12 92 rfl rfl) hD J Sm rfl rfl rfl (pw_125_33 (by omega)) rfl (fun h w39 J Sm => ?_)
              exact jX.sub (jsb_c rfl (jsb_c rfl (jsb_c rfl jsb_n))) (ct_X12_addSpan_r125_142 hD hQ  l2 l3 h (jr_of rfl (by omega)) (jr_of rfl (by omega)) J Sm)
            ·
              refine x_iloadn (x := v33) rfl rfl ?_
              refine x_goto (tgt := 10) rfl rfl ?_
              refine x_iret rfl rfl ?_
              show jX m_X12_addSpan 5 0 0 139 [(4, .int v17), (0, .ref 125), (1, .int l1), (2, .int l2), (3, .int l3)] [.int v33, .ref 125] _ 0 0 _
              refine z_putI (N := 92) (w := v33.toInt) 12 33 rfl f_12_415 rfl (jfin_no TX12 RX12 92 rfl rfl) hD J Sm rfl rfl rfl (pw_125_33 (by omega)) rfl (fun h w40 J Sm => ?_)
              exact jX.sub (jsb_c rfl (jsb_c rfl (jsb_c rfl jsb_n))) (ct_X12_addSpan_r125_142 hD hQ  l2 l3 h (jr_of rfl (by omega)) (jr_of rfl (by omega)) J Sm)
      ·
        refine x_iloadn (x := v5) rfl rfl ?_
        refine x_goto (tgt := 10) rfl rfl ?_
        refine x_iret rfl rfl ?_
        show jX m_X12_addSpan 5 0 0 66 [(0, .ref 125), (1, .int l1), (2, .int l2), (3, .int l3)] [.int v5, .ref 125] _ 0 0 _
        refine z_putI (N := 92) (w := v5.toInt) 12 35 rfl f_12_421 rfl (jfin_no TX12 RX12 92 rfl rfl) hD J Sm rfl rfl rfl (pw_125_35 (by omega)) rfl (fun h w41 J Sm => ?_)
        refine x_aloadn (x := 125) rfl rfl ?_
        refine x_iloadn (x := l1) rfl rfl ?_
        refine x_inv (N := m_X12_hasAge) (As := [.int l1]) (b := 125) (st := []) (dx9 := 4) (mc := 0) (ms := 0) (host := "") 12 rfl t_X12_hasAge ⟨Or.inl q_12_350, i_X12_hasAge.1, i_X12_hasAge.2⟩ ⟨by decide, rfl⟩ (congrArg Prod.fst (J.1.1 125 (12, 92) rfl)) rfl (by decide) rfl rfl ⟨by decide, by decide⟩ (sf_X12_hasAge_r125 (jr_of rfl (by omega)) hD J  (fun v43 h ev43 J S42 => ?_))
        have Sm := jSm_tr rfl Sm S42
        show jX m_X12_addSpan 5 0 0 74 [(0, .ref 125), (1, .int l1), (2, .int l2), (3, .int l3)] [.int v43] _ 0 0 _
        refine x_ifeq (tgt := 142) rfl rfl (ti_eq rfl jk_0 ⟨fun c44 => ?_, fun c44 => ?_⟩)
        ·
          exact jX.sub (jsb_c rfl (jsb_c rfl (jsb_c rfl jsb_n))) (ct_X12_addSpan_r125_142 hD hQ  l2 l3 h (jr_of rfl (by omega)) (jr_of rfl (by omega)) J Sm)
        ·
          refine x_iloadn (x := l3) rfl rfl ?_
          refine x_sipush (v := 366) rfl ks_366 ?_
          refine z_idiv rfl rfl jk_366 (by omega) (by omega) (fun v45 ev45 => ?_)
          refine x_aloadn (x := 125) rfl rfl ?_
          refine x_iloadn (x := l1) rfl rfl ?_
          refine x_iconst (v := 3) rfl ki_3 ?_
          refine z_idiv rfl rfl jk_3 (by omega) (by omega) (fun v46 ev46 => ?_)
          refine x_inv (N := m_X12_numberOf) (As := [.int v46]) (b := 125) (st := [.int v45]) (dx9 := 4) (mc := 0) (ms := 0) (host := "") 12 rfl t_X12_numberOf ⟨Or.inl q_12_296, i_X12_numberOf.1, i_X12_numberOf.2⟩ ⟨by decide, rfl⟩ (congrArg Prod.fst (J.1.1 125 (12, 92) rfl)) rfl (by decide) rfl rfl ⟨by decide, by decide⟩ (jC.of rfl k_X12_numberOf rfl ?_)
          show jX m_X12_numberOf 4 0 0 0 [(0, .ref 125), (1, .int v46)] [] _ 0 0 _
          refine x_aloadn (x := 125) rfl rfl ?_
          refine z_getR (N := 92) (b := 126) 12 2 rfl f_12_8 rfl J rfl 16002 ⟨rfl, rfl⟩ rfl ?_
          refine x_aloadn (x := 125) rfl rfl ?_
          refine x_iloadn (x := v46) rfl rfl ?_
          refine x_inv (N := m_X12_at) (As := [.int v46]) (b := 125) (st := [.ref 126]) (dx9 := 3) (mc := 0) (ms := 0) (host := "") 12 rfl t_X12_at ⟨Or.inl q_12_254, i_X12_at.1, i_X12_at.2⟩ ⟨by decide, rfl⟩ (congrArg Prod.fst (J.1.1 125 (12, 92) rfl)) rfl (by decide) rfl rfl ⟨by decide, by decide⟩ (jC.of rfl k_X12_at rfl ?_)
          show jX m_X12_at 3 0 0 0 [(0, .ref 125), (1, .int v46)] [] _ 0 0 _
          refine x_bipush (v := 20) rfl kb_20 ?_
          refine x_bipush (v := 90) rfl kb_90 ?_
          refine x_iloadn (x := v46) rfl rfl ?_
          refine z_imul rfl jk_90 rfl (by omega) (fun v47 ev47 => ?_)
          refine z_iadd rfl jk_20 rfl (by omega) (fun v48 ev48 => ?_)
          refine x_iret rfl rfl ?_
          show jX m_X12_numberOf 4 0 0 9 [(0, .ref 125), (1, .int v46)] [.int v48, .ref 126] _ 0 0 _
          refine x_iconst (v := 4) rfl ki_4 ?_
          refine z_iadd rfl rfl jk_4 (by omega) (fun v49 ev49 => ?_)
          refine z_iald0 (N := 50660) rfl J rfl rfl (by omega) (fun v50 qv50 => ?_)
          have ev50 := jfull v50
          refine x_iret rfl rfl ?_
          show jX m_X12_addSpan 5 0 0 89 [(0, .ref 125), (1, .int l1), (2, .int l2), (3, .int l3)] [.int v50, .int v45] _ 0 0 _
          refine z_isub0 rfl (fun v51 => ?_)
          have ev51 := jfull v51
          refine x_istore (lsx9 := [(4, .int v51), (0, .ref 125), (1, .int l1), (2, .int l2), (3, .int l3)]) rfl rfl rfl ?_
          refine x_aloadn (x := 125) rfl rfl ?_
          refine x_aloadn (x := 125) rfl rfl ?_
          refine z_getI (N := 92) 12 32 rfl f_12_412 rfl J rfl sg_125_32_33_1_0_1 (fun v52 qv52 ev52 => ?_)
          refine x_iload (x := v51) rfl rfl ?_
          refine x_aloadn (x := 125) rfl rfl ?_
          refine z_getI (N := 92) 12 27 rfl f_12_69 rfl J rfl sg_125_27_28_1_0_1 (fun v53 qv53 ev53 => ?_)
          refine z_isub0 rfl (fun v54 => ?_)
          have ev54 := jfull v54
          refine x_sipush (v := 366) rfl ks_366 ?_
          refine z_imul0 rfl (fun v55 => ?_)
          have ev55 := jfull v55
          refine x_inst (N := m_X12_more) (As := [.int v52, .int v55]) (st := [.ref 125]) (dx9 := 4) (mc := 0) (ms := 0) (host := "") rfl t_X12_more ⟨Or.inl q_12_431, s_X12_more⟩ rfl (by decide) rfl rfl ⟨by decide, by decide⟩ (jC.of rfl k_X12_more rfl ?_)
          show jX m_X12_more 4 0 0 0 [(0, .int v52), (1, .int v55)] [] _ 0 0 _
          refine x_iloadn (x := v52) rfl rfl ?_
          refine x_iloadn (x := v55) rfl rfl ?_
          refine x_icle (tgt := 9) rfl rfl (ti_le rfl rfl ⟨fun c56 => ?_, fun c56 => ?_⟩)
          ·
            refine x_iloadn (x := v55) rfl rfl ?_
            refine x_iret rfl rfl ?_
            show jX m_X12_addSpan 5 0 0 111 [(4, .int v51), (0, .ref 125), (1, .int l1), (2, .int l2), (3, .int l3)] [.int v55, .ref 125] _ 0 0 _
            refine z_putI (N := 92) (w := v55.toInt) 12 32 rfl f_12_412 rfl (jfin_no TX12 RX12 92 rfl rfl) hD J Sm rfl rfl rfl (pw_125_32 (by omega)) rfl (fun h w57 J Sm => ?_)
            refine x_aloadn (x := 125) rfl rfl ?_
            refine x_aloadn (x := 125) rfl rfl ?_
            refine z_getI (N := 92) 12 33 rfl f_12_415 rfl J rfl sg_125_33_34_1_0_1 (fun v58 qv58 ev58 => ?_)
            refine x_iload (x := v51) rfl rfl ?_
            refine x_aloadn (x := 125) rfl rfl ?_
            refine z_getM (N := 92) (v := v53) 12 27 rfl f_12_69 rfl J rfl (jmo w57 rfl qv53) ?_
            refine z_iadd0 rfl (fun v59 => ?_)
            have ev59 := jfull v59
            refine x_sipush (v := 366) rfl ks_366 ?_
            refine z_imul0 rfl (fun v60 => ?_)
            have ev60 := jfull v60
            refine x_sipush (v := 366) rfl ks_366 ?_
            refine z_iadd0 rfl (fun v61 => ?_)
            have ev61 := jfull v61
            refine x_iconst (v := 1) rfl ki_1 ?_
            refine z_isub0 rfl (fun v62 => ?_)
            have ev62 := jfull v62
            refine x_inst (N := m_X12_less) (As := [.int v58, .int v62]) (st := [.ref 125]) (dx9 := 4) (mc := 0) (ms := 0) (host := "") rfl t_X12_less ⟨Or.inl q_12_428, s_X12_less⟩ rfl (by decide) rfl rfl ⟨by decide, by decide⟩ (jC.of rfl k_X12_less rfl ?_)
            show jX m_X12_less 4 0 0 0 [(0, .int v58), (1, .int v62)] [] _ 0 0 _
            refine x_iloadn (x := v58) rfl rfl ?_
            refine x_iloadn (x := v62) rfl rfl ?_
            refine x_icge (tgt := 9) rfl rfl (ti_ge rfl rfl ⟨fun c63 => ?_, fun c63 => ?_⟩)
            ·
              refine x_iloadn (x := v62) rfl rfl ?_
              refine x_iret rfl rfl ?_
              show jX m_X12_addSpan 5 0 0 139 [(4, .int v51), (0, .ref 125), (1, .int l1), (2, .int l2), (3, .int l3)] [.int v62, .ref 125] _ 0 0 _
              refine z_putI (N := 92) (w := v62.toInt) 12 33 rfl f_12_415 rfl (jfin_no TX12 RX12 92 rfl rfl) hD J Sm rfl rfl rfl (pw_125_33 (by omega)) rfl (fun h w64 J Sm => ?_)
              exact jX.sub (jsb_c rfl (jsb_c rfl (jsb_c rfl jsb_n))) (ct_X12_addSpan_r125_142 hD hQ  l2 l3 h (jr_of rfl (by omega)) (jr_of rfl (by omega)) J Sm)
            ·
              refine x_iloadn (x := v58) rfl rfl ?_
              refine x_goto (tgt := 10) rfl rfl ?_
              refine x_iret rfl rfl ?_
              show jX m_X12_addSpan 5 0 0 139 [(4, .int v51), (0, .ref 125), (1, .int l1), (2, .int l2), (3, .int l3)] [.int v58, .ref 125] _ 0 0 _
              refine z_putI (N := 92) (w := v58.toInt) 12 33 rfl f_12_415 rfl (jfin_no TX12 RX12 92 rfl rfl) hD J Sm rfl rfl rfl (pw_125_33 (by omega)) rfl (fun h w65 J Sm => ?_)
              exact jX.sub (jsb_c rfl (jsb_c rfl (jsb_c rfl jsb_n))) (ct_X12_addSpan_r125_142 hD hQ  l2 l3 h (jr_of rfl (by omega)) (jr_of rfl (by omega)) J Sm)
          ·
            refine x_iloadn (x := v52) rfl rfl ?_
            refine x_goto (tgt := 10) rfl rfl ?_
            refine x_iret rfl rfl ?_
            show jX m_X12_addSpan 5 0 0 111 [(4, .int v51), (0, .ref 125), (1, .int l1), (2, .int l2), (3, .int l3)] [.int v52, .ref 125] _ 0 0 _
            refine z_putI (N := 92) (w := v52.toInt) 12 32 rfl f_12_412 rfl (jfin_no TX12 RX12 92 rfl rfl) hD J Sm rfl rfl rfl (pw_125_32 (by omega)) rfl (fun h w66 J Sm => ?_)
            refine x_aloadn (x := 125) rfl rfl ?_
            refine x_aloadn (x := 125) rfl rfl ?_
            refine z_getI (N := 92) 12 33 rfl f_12_415 rfl J rfl sg_125_33_34_1_0_1 (fun v67 qv67 ev67 => ?_)
            refine x_iload (x := v51) rfl rfl ?_
            refine x_aloadn (x := 125) rfl rfl ?_
            refine z_getM (N := 92) (v := v53) 12 27 rfl f_12_69 rfl J rfl (jmo w66 rfl qv53) ?_
            refine z_iadd0 rfl (fun v68 => ?_)
            have ev68 := jfull v68
            refine x_sipush (v := 366) rfl ks_366 ?_
            refine z_imul0 rfl (fun v69 => ?_)
            have ev69 := jfull v69
            refine x_sipush (v := 366) rfl ks_366 ?_
            refine z_iadd0 rfl (fun v70 => ?_)
            have ev70 := jfull v70
            refine x_iconst (v := 1) rfl ki_1 ?_
            refine z_isub0 rfl (fun v71 => ?_)
            have ev71 := jfull v71
            refine x_inst (N := m_X12_less) (As := [.int v67, .int v71]) (st := [.ref 125]) (dx9 := 4) (mc := 0) (ms := 0) (host := "") rfl t_X12_less ⟨Or.inl q_12_428, s_X12_less⟩ rfl (by decide) rfl rfl ⟨by decide, by decide⟩ (jC.of rfl k_X12_less rfl ?_)
            show jX m_X12_less 4 0 0 0 [(0, .int v67), (1, .int v71)] [] _ 0 0 _
            refine x_iloadn (x := v67) rfl rfl ?_
            refine x_iloadn (x := v71) rfl rfl ?_
            refine x_icge (tgt := 9) rfl rfl (ti_ge rfl rfl ⟨fun c72 => ?_, fun c72 => ?_⟩)
            ·
              refine x_iloadn (x := v71) rfl rfl ?_
              refine x_iret rfl rfl ?_
              show jX m_X12_addSpan 5 0 0 139 [(4, .int v51), (0, .ref 125), (1, .int l1), (2, .int l2), (3, .int l3)] [.int v71, .ref 125] _ 0 0 _
              refine z_putI (N := 92) (w := v71.toInt) 12 33 rfl f_12_415 rfl (jfin_no TX12 RX12 92 rfl rfl) hD J Sm rfl rfl rfl (pw_125_33 (by omega)) rfl (fun h w73 J Sm => ?_)
              exact jX.sub (jsb_c rfl (jsb_c rfl (jsb_c rfl jsb_n))) (ct_X12_addSpan_r125_142 hD hQ  l2 l3 h (jr_of rfl (by omega)) (jr_of rfl (by omega)) J Sm)
            ·
              refine x_iloadn (x := v67) rfl rfl ?_
              refine x_goto (tgt := 10) rfl rfl ?_
              refine x_iret rfl rfl ?_
              show jX m_X12_addSpan 5 0 0 139 [(4, .int v51), (0, .ref 125), (1, .int l1), (2, .int l2), (3, .int l3)] [.int v67, .ref 125] _ 0 0 _
              refine z_putI (N := 92) (w := v67.toInt) 12 33 rfl f_12_415 rfl (jfin_no TX12 RX12 92 rfl rfl) hD J Sm rfl rfl rfl (pw_125_33 (by omega)) rfl (fun h w74 J Sm => ?_)
              exact jX.sub (jsb_c rfl (jsb_c rfl (jsb_c rfl jsb_n))) (ct_X12_addSpan_r125_142 hD hQ  l2 l3 h (jr_of rfl (by omega)) (jr_of rfl (by omega)) J Sm)
    ·
      refine x_iloadn (x := v2) rfl rfl ?_
      refine x_goto (tgt := 10) rfl rfl ?_
      refine x_iret rfl rfl ?_
      show jX m_X12_addSpan 5 0 0 54 [(0, .ref 125), (1, .int l1), (2, .int l2), (3, .int l3)] [.int v2, .ref 125] _ 0 0 _
      refine z_putI (N := 92) (w := v2.toInt) 12 34 rfl f_12_418 rfl (jfin_no TX12 RX12 92 rfl rfl) hD J Sm rfl rfl rfl (pw_125_34 (by omega)) rfl (fun h w75 J Sm => ?_)
      refine x_aloadn (x := 125) rfl rfl ?_
      refine x_aloadn (x := 125) rfl rfl ?_
      refine z_getI (N := 92) 12 35 rfl f_12_421 rfl J rfl sg_125_35_36_1_0_1 (fun v76 qv76 ev76 => ?_)
      refine x_iloadn (x := l3) rfl rfl ?_
      refine x_inst (N := m_X12_less) (As := [.int v76, .int l3]) (st := [.ref 125]) (dx9 := 4) (mc := 0) (ms := 0) (host := "") rfl t_X12_less ⟨Or.inl q_12_428, s_X12_less⟩ rfl (by decide) rfl rfl ⟨by decide, by decide⟩ (jC.of rfl k_X12_less rfl ?_)
      show jX m_X12_less 4 0 0 0 [(0, .int v76), (1, .int l3)] [] _ 0 0 _
      refine x_iloadn (x := v76) rfl rfl ?_
      refine x_iloadn (x := l3) rfl rfl ?_
      refine x_icge (tgt := 9) rfl rfl (ti_ge rfl rfl ⟨fun c77 => ?_, fun c77 => ?_⟩)
      ·
        refine x_iloadn (x := l3) rfl rfl ?_
        refine x_iret rfl rfl ?_
        show jX m_X12_addSpan 5 0 0 66 [(0, .ref 125), (1, .int l1), (2, .int l2), (3, .int l3)] [.int l3, .ref 125] _ 0 0 _
        refine z_putI (N := 92) (w := l3.toInt) 12 35 rfl f_12_421 rfl (jfin_no TX12 RX12 92 rfl rfl) hD J Sm rfl rfl rfl (pw_125_35 (by omega)) rfl (fun h w78 J Sm => ?_)
        refine x_aloadn (x := 125) rfl rfl ?_
        refine x_iloadn (x := l1) rfl rfl ?_
        refine x_inv (N := m_X12_hasAge) (As := [.int l1]) (b := 125) (st := []) (dx9 := 4) (mc := 0) (ms := 0) (host := "") 12 rfl t_X12_hasAge ⟨Or.inl q_12_350, i_X12_hasAge.1, i_X12_hasAge.2⟩ ⟨by decide, rfl⟩ (congrArg Prod.fst (J.1.1 125 (12, 92) rfl)) rfl (by decide) rfl rfl ⟨by decide, by decide⟩ (sf_X12_hasAge_r125 (jr_of rfl (by omega)) hD J  (fun v80 h ev80 J S79 => ?_))
        have Sm := jSm_tr rfl Sm S79
        show jX m_X12_addSpan 5 0 0 74 [(0, .ref 125), (1, .int l1), (2, .int l2), (3, .int l3)] [.int v80] _ 0 0 _
        refine x_ifeq (tgt := 142) rfl rfl (ti_eq rfl jk_0 ⟨fun c81 => ?_, fun c81 => ?_⟩)
        ·
          exact jX.sub (jsb_c rfl (jsb_c rfl (jsb_c rfl jsb_n))) (ct_X12_addSpan_r125_142 hD hQ  l2 l3 h (jr_of rfl (by omega)) (jr_of rfl (by omega)) J Sm)
        ·
          refine x_iloadn (x := l3) rfl rfl ?_
          refine x_sipush (v := 366) rfl ks_366 ?_
          refine z_idiv rfl rfl jk_366 (by omega) (by omega) (fun v82 ev82 => ?_)
          refine x_aloadn (x := 125) rfl rfl ?_
          refine x_iloadn (x := l1) rfl rfl ?_
          refine x_iconst (v := 3) rfl ki_3 ?_
          refine z_idiv rfl rfl jk_3 (by omega) (by omega) (fun v83 ev83 => ?_)
          refine x_inv (N := m_X12_numberOf) (As := [.int v83]) (b := 125) (st := [.int v82]) (dx9 := 4) (mc := 0) (ms := 0) (host := "") 12 rfl t_X12_numberOf ⟨Or.inl q_12_296, i_X12_numberOf.1, i_X12_numberOf.2⟩ ⟨by decide, rfl⟩ (congrArg Prod.fst (J.1.1 125 (12, 92) rfl)) rfl (by decide) rfl rfl ⟨by decide, by decide⟩ (jC.of rfl k_X12_numberOf rfl ?_)
          show jX m_X12_numberOf 4 0 0 0 [(0, .ref 125), (1, .int v83)] [] _ 0 0 _
          refine x_aloadn (x := 125) rfl rfl ?_
          refine z_getR (N := 92) (b := 126) 12 2 rfl f_12_8 rfl J rfl 16002 ⟨rfl, rfl⟩ rfl ?_
          refine x_aloadn (x := 125) rfl rfl ?_
          refine x_iloadn (x := v83) rfl rfl ?_
          refine x_inv (N := m_X12_at) (As := [.int v83]) (b := 125) (st := [.ref 126]) (dx9 := 3) (mc := 0) (ms := 0) (host := "") 12 rfl t_X12_at ⟨Or.inl q_12_254, i_X12_at.1, i_X12_at.2⟩ ⟨by decide, rfl⟩ (congrArg Prod.fst (J.1.1 125 (12, 92) rfl)) rfl (by decide) rfl rfl ⟨by decide, by decide⟩ (jC.of rfl k_X12_at rfl ?_)
          show jX m_X12_at 3 0 0 0 [(0, .ref 125), (1, .int v83)] [] _ 0 0 _
          refine x_bipush (v := 20) rfl kb_20 ?_
          refine x_bipush (v := 90) rfl kb_90 ?_
          refine x_iloadn (x := v83) rfl rfl ?_
          refine z_imul rfl jk_90 rfl (by omega) (fun v84 ev84 => ?_)
          refine z_iadd rfl jk_20 rfl (by omega) (fun v85 ev85 => ?_)
          refine x_iret rfl rfl ?_
          show jX m_X12_numberOf 4 0 0 9 [(0, .ref 125), (1, .int v83)] [.int v85, .ref 126] _ 0 0 _
          refine x_iconst (v := 4) rfl ki_4 ?_
          refine z_iadd rfl rfl jk_4 (by omega) (fun v86 ev86 => ?_)
          refine z_iald0 (N := 50660) rfl J rfl rfl (by omega) (fun v87 qv87 => ?_)
          have ev87 := jfull v87
          refine x_iret rfl rfl ?_
          show jX m_X12_addSpan 5 0 0 89 [(0, .ref 125), (1, .int l1), (2, .int l2), (3, .int l3)] [.int v87, .int v82] _ 0 0 _
          refine z_isub0 rfl (fun v88 => ?_)
          have ev88 := jfull v88
          refine x_istore (lsx9 := [(4, .int v88), (0, .ref 125), (1, .int l1), (2, .int l2), (3, .int l3)]) rfl rfl rfl ?_
          refine x_aloadn (x := 125) rfl rfl ?_
          refine x_aloadn (x := 125) rfl rfl ?_
          refine z_getI (N := 92) 12 32 rfl f_12_412 rfl J rfl sg_125_32_33_1_0_1 (fun v89 qv89 ev89 => ?_)
          refine x_iload (x := v88) rfl rfl ?_
          refine x_aloadn (x := 125) rfl rfl ?_
          refine z_getI (N := 92) 12 27 rfl f_12_69 rfl J rfl sg_125_27_28_1_0_1 (fun v90 qv90 ev90 => ?_)
          refine z_isub0 rfl (fun v91 => ?_)
          have ev91 := jfull v91
          refine x_sipush (v := 366) rfl ks_366 ?_
          refine z_imul0 rfl (fun v92 => ?_)
          have ev92 := jfull v92
          refine x_inst (N := m_X12_more) (As := [.int v89, .int v92]) (st := [.ref 125]) (dx9 := 4) (mc := 0) (ms := 0) (host := "") rfl t_X12_more ⟨Or.inl q_12_431, s_X12_more⟩ rfl (by decide) rfl rfl ⟨by decide, by decide⟩ (jC.of rfl k_X12_more rfl ?_)
          show jX m_X12_more 4 0 0 0 [(0, .int v89), (1, .int v92)] [] _ 0 0 _
          refine x_iloadn (x := v89) rfl rfl ?_
          refine x_iloadn (x := v92) rfl rfl ?_
          refine x_icle (tgt := 9) rfl rfl (ti_le rfl rfl ⟨fun c93 => ?_, fun c93 => ?_⟩)
          ·
            refine x_iloadn (x := v92) rfl rfl ?_
            refine x_iret rfl rfl ?_
            show jX m_X12_addSpan 5 0 0 111 [(4, .int v88), (0, .ref 125), (1, .int l1), (2, .int l2), (3, .int l3)] [.int v92, .ref 125] _ 0 0 _
            refine z_putI (N := 92) (w := v92.toInt) 12 32 rfl f_12_412 rfl (jfin_no TX12 RX12 92 rfl rfl) hD J Sm rfl rfl rfl (pw_125_32 (by omega)) rfl (fun h w94 J Sm => ?_)
            refine x_aloadn (x := 125) rfl rfl ?_
            refine x_aloadn (x := 125) rfl rfl ?_
            refine z_getI (N := 92) 12 33 rfl f_12_415 rfl J rfl sg_125_33_34_1_0_1 (fun v95 qv95 ev95 => ?_)
            refine x_iload (x := v88) rfl rfl ?_
            refine x_aloadn (x := 125) rfl rfl ?_
            refine z_getM (N := 92) (v := v90) 12 27 rfl f_12_69 rfl J rfl (jmo w94 rfl qv90) ?_
            refine z_iadd0 rfl (fun v96 => ?_)
            have ev96 := jfull v96
            refine x_sipush (v := 366) rfl ks_366 ?_
            refine z_imul0 rfl (fun v97 => ?_)
            have ev97 := jfull v97
            refine x_sipush (v := 366) rfl ks_366 ?_
            refine z_iadd0 rfl (fun v98 => ?_)
            have ev98 := jfull v98
            refine x_iconst (v := 1) rfl ki_1 ?_
            refine z_isub0 rfl (fun v99 => ?_)
            have ev99 := jfull v99
            refine x_inst (N := m_X12_less) (As := [.int v95, .int v99]) (st := [.ref 125]) (dx9 := 4) (mc := 0) (ms := 0) (host := "") rfl t_X12_less ⟨Or.inl q_12_428, s_X12_less⟩ rfl (by decide) rfl rfl ⟨by decide, by decide⟩ (jC.of rfl k_X12_less rfl ?_)
            show jX m_X12_less 4 0 0 0 [(0, .int v95), (1, .int v99)] [] _ 0 0 _
            refine x_iloadn (x := v95) rfl rfl ?_
            refine x_iloadn (x := v99) rfl rfl ?_
            refine x_icge (tgt := 9) rfl rfl (ti_ge rfl rfl ⟨fun c100 => ?_, fun c100 => ?_⟩)
            ·
              refine x_iloadn (x := v99) rfl rfl ?_
              refine x_iret rfl rfl ?_
              show jX m_X12_addSpan 5 0 0 139 [(4, .int v88), (0, .ref 125), (1, .int l1), (2, .int l2), (3, .int l3)] [.int v99, .ref 125] _ 0 0 _
              refine z_putI (N := 92) (w := v99.toInt) 12 33 rfl f_12_415 rfl (jfin_no TX12 RX12 92 rfl rfl) hD J Sm rfl rfl rfl (pw_125_33 (by omega)) rfl (fun h w101 J Sm => ?_)
              exact jX.sub (jsb_c rfl (jsb_c rfl (jsb_c rfl jsb_n))) (ct_X12_addSpan_r125_142 hD hQ  l2 l3 h (jr_of rfl (by omega)) (jr_of rfl (by omega)) J Sm)
            ·
              refine x_iloadn (x := v95) rfl rfl ?_
              refine x_goto (tgt := 10) rfl rfl ?_
              refine x_iret rfl rfl ?_
              show jX m_X12_addSpan 5 0 0 139 [(4, .int v88), (0, .ref 125), (1, .int l1), (2, .int l2), (3, .int l3)] [.int v95, .ref 125] _ 0 0 _
              refine z_putI (N := 92) (w := v95.toInt) 12 33 rfl f_12_415 rfl (jfin_no TX12 RX12 92 rfl rfl) hD J Sm rfl rfl rfl (pw_125_33 (by omega)) rfl (fun h w102 J Sm => ?_)
              exact jX.sub (jsb_c rfl (jsb_c rfl (jsb_c rfl jsb_n))) (ct_X12_addSpan_r125_142 hD hQ  l2 l3 h (jr_of rfl (by omega)) (jr_of rfl (by omega)) J Sm)
          ·
            refine x_iloadn (x := v89) rfl rfl ?_
            refine x_goto (tgt := 10) rfl rfl ?_
            refine x_iret rfl rfl ?_
            show jX m_X12_addSpan 5 0 0 111 [(4, .int v88), (0, .ref 125), (1, .int l1), (2, .int l2), (3, .int l3)] [.int v89, .ref 125] _ 0 0 _
            refine z_putI (N := 92) (w := v89.toInt) 12 32 rfl f_12_412 rfl (jfin_no TX12 RX12 92 rfl rfl) hD J Sm rfl rfl rfl (pw_125_32 (by omega)) rfl (fun h w103 J Sm => ?_)
            refine x_aloadn (x := 125) rfl rfl ?_
            refine x_aloadn (x := 125) rfl rfl ?_
            refine z_getI (N := 92) 12 33 rfl f_12_415 rfl J rfl sg_125_33_34_1_0_1 (fun v104 qv104 ev104 => ?_)
            refine x_iload (x := v88) rfl rfl ?_
            refine x_aloadn (x := 125) rfl rfl ?_
            refine z_getM (N := 92) (v := v90) 12 27 rfl f_12_69 rfl J rfl (jmo w103 rfl qv90) ?_
            refine z_iadd0 rfl (fun v105 => ?_)
            have ev105 := jfull v105
            refine x_sipush (v := 366) rfl ks_366 ?_
            refine z_imul0 rfl (fun v106 => ?_)
            have ev106 := jfull v106
            refine x_sipush (v := 366) rfl ks_366 ?_
            refine z_iadd0 rfl (fun v107 => ?_)
            have ev107 := jfull v107
            refine x_iconst (v := 1) rfl ki_1 ?_
            refine z_isub0 rfl (fun v108 => ?_)
            have ev108 := jfull v108
            refine x_inst (N := m_X12_less) (As := [.int v104, .int v108]) (st := [.ref 125]) (dx9 := 4) (mc := 0) (ms := 0) (host := "") rfl t_X12_less ⟨Or.inl q_12_428, s_X12_less⟩ rfl (by decide) rfl rfl ⟨by decide, by decide⟩ (jC.of rfl k_X12_less rfl ?_)
            show jX m_X12_less 4 0 0 0 [(0, .int v104), (1, .int v108)] [] _ 0 0 _
            refine x_iloadn (x := v104) rfl rfl ?_
            refine x_iloadn (x := v108) rfl rfl ?_
            refine x_icge (tgt := 9) rfl rfl (ti_ge rfl rfl ⟨fun c109 => ?_, fun c109 => ?_⟩)
            ·
              refine x_iloadn (x := v108) rfl rfl ?_
              refine x_iret rfl rfl ?_
              show jX m_X12_addSpan 5 0 0 139 [(4, .int v88), (0, .ref 125), (1, .int l1), (2, .int l2), (3, .int l3)] [.int v108, .ref 125] _ 0 0 _
              refine z_putI (N := 92) (w := v108.toInt) 12 33 rfl f_12_415 rfl (jfin_no TX12 RX12 92 rfl rfl) hD J Sm rfl rfl rfl (pw_125_33 (by omega)) rfl (fun h w110 J Sm => ?_)
              exact jX.sub (jsb_c rfl (jsb_c rfl (jsb_c rfl jsb_n))) (ct_X12_addSpan_r125_142 hD hQ  l2 l3 h (jr_of rfl (by omega)) (jr_of rfl (by omega)) J Sm)
            ·
              refine x_iloadn (x := v104) rfl rfl ?_
              refine x_goto (tgt := 10) rfl rfl ?_
              refine x_iret rfl rfl ?_
              show jX m_X12_addSpan 5 0 0 139 [(4, .int v88), (0, .ref 125), (1, .int l1), (2, .int l2), (3, .int l3)] [.int v104, .ref 125] _ 0 0 _
              refine z_putI (N := 92) (w := v104.toInt) 12 33 rfl f_12_415 rfl (jfin_no TX12 RX12 92 rfl rfl) hD J Sm rfl rfl rfl (pw_125_33 (by omega)) rfl (fun h w111 J Sm => ?_)
              exact jX.sub (jsb_c rfl (jsb_c rfl (jsb_c rfl jsb_n))) (ct_X12_addSpan_r125_142 hD hQ  l2 l3 h (jr_of rfl (by omega)) (jr_of rfl (by omega)) J Sm)
      ·
        refine x_iloadn (x := v76) rfl rfl ?_
        refine x_goto (tgt := 10) rfl rfl ?_
        refine x_iret rfl rfl ?_
        show jX m_X12_addSpan 5 0 0 66 [(0, .ref 125), (1, .int l1), (2, .int l2), (3, .int l3)] [.int v76, .ref 125] _ 0 0 _
        refine z_putI (N := 92) (w := v76.toInt) 12 35 rfl f_12_421 rfl (jfin_no TX12 RX12 92 rfl rfl) hD J Sm rfl rfl rfl (pw_125_35 (by omega)) rfl (fun h w112 J Sm => ?_)
        refine x_aloadn (x := 125) rfl rfl ?_
        refine x_iloadn (x := l1) rfl rfl ?_
        refine x_inv (N := m_X12_hasAge) (As := [.int l1]) (b := 125) (st := []) (dx9 := 4) (mc := 0) (ms := 0) (host := "") 12 rfl t_X12_hasAge ⟨Or.inl q_12_350, i_X12_hasAge.1, i_X12_hasAge.2⟩ ⟨by decide, rfl⟩ (congrArg Prod.fst (J.1.1 125 (12, 92) rfl)) rfl (by decide) rfl rfl ⟨by decide, by decide⟩ (sf_X12_hasAge_r125 (jr_of rfl (by omega)) hD J  (fun v114 h ev114 J S113 => ?_))
        have Sm := jSm_tr rfl Sm S113
        show jX m_X12_addSpan 5 0 0 74 [(0, .ref 125), (1, .int l1), (2, .int l2), (3, .int l3)] [.int v114] _ 0 0 _
        refine x_ifeq (tgt := 142) rfl rfl (ti_eq rfl jk_0 ⟨fun c115 => ?_, fun c115 => ?_⟩)
        ·
          exact jX.sub (jsb_c rfl (jsb_c rfl (jsb_c rfl jsb_n))) (ct_X12_addSpan_r125_142 hD hQ  l2 l3 h (jr_of rfl (by omega)) (jr_of rfl (by omega)) J Sm)
        ·
          refine x_iloadn (x := l3) rfl rfl ?_
          refine x_sipush (v := 366) rfl ks_366 ?_
          refine z_idiv rfl rfl jk_366 (by omega) (by omega) (fun v116 ev116 => ?_)
          refine x_aloadn (x := 125) rfl rfl ?_
          refine x_iloadn (x := l1) rfl rfl ?_
          refine x_iconst (v := 3) rfl ki_3 ?_
          refine z_idiv rfl rfl jk_3 (by omega) (by omega) (fun v117 ev117 => ?_)
          refine x_inv (N := m_X12_numberOf) (As := [.int v117]) (b := 125) (st := [.int v116]) (dx9 := 4) (mc := 0) (ms := 0) (host := "") 12 rfl t_X12_numberOf ⟨Or.inl q_12_296, i_X12_numberOf.1, i_X12_numberOf.2⟩ ⟨by decide, rfl⟩ (congrArg Prod.fst (J.1.1 125 (12, 92) rfl)) rfl (by decide) rfl rfl ⟨by decide, by decide⟩ (jC.of rfl k_X12_numberOf rfl ?_)
          show jX m_X12_numberOf 4 0 0 0 [(0, .ref 125), (1, .int v117)] [] _ 0 0 _
          refine x_aloadn (x := 125) rfl rfl ?_
          refine z_getR (N := 92) (b := 126) 12 2 rfl f_12_8 rfl J rfl 16002 ⟨rfl, rfl⟩ rfl ?_
          refine x_aloadn (x := 125) rfl rfl ?_
          refine x_iloadn (x := v117) rfl rfl ?_
          refine x_inv (N := m_X12_at) (As := [.int v117]) (b := 125) (st := [.ref 126]) (dx9 := 3) (mc := 0) (ms := 0) (host := "") 12 rfl t_X12_at ⟨Or.inl q_12_254, i_X12_at.1, i_X12_at.2⟩ ⟨by decide, rfl⟩ (congrArg Prod.fst (J.1.1 125 (12, 92) rfl)) rfl (by decide) rfl rfl ⟨by decide, by decide⟩ (jC.of rfl k_X12_at rfl ?_)
          show jX m_X12_at 3 0 0 0 [(0, .ref 125), (1, .int v117)] [] _ 0 0 _
          refine x_bipush (v := 20) rfl kb_20 ?_
          refine x_bipush (v := 90) rfl kb_90 ?_
          refine x_iloadn (x := v117) rfl rfl ?_
          refine z_imul rfl jk_90 rfl (by omega) (fun v118 ev118 => ?_)
          refine z_iadd rfl jk_20 rfl (by omega) (fun v119 ev119 => ?_)
          refine x_iret rfl rfl ?_
          show jX m_X12_numberOf 4 0 0 9 [(0, .ref 125), (1, .int v117)] [.int v119, .ref 126] _ 0 0 _
          refine x_iconst (v := 4) rfl ki_4 ?_
          refine z_iadd rfl rfl jk_4 (by omega) (fun v120 ev120 => ?_)
          refine z_iald0 (N := 50660) rfl J rfl rfl (by omega) (fun v121 qv121 => ?_)
          have ev121 := jfull v121
          refine x_iret rfl rfl ?_
          show jX m_X12_addSpan 5 0 0 89 [(0, .ref 125), (1, .int l1), (2, .int l2), (3, .int l3)] [.int v121, .int v116] _ 0 0 _
          refine z_isub0 rfl (fun v122 => ?_)
          have ev122 := jfull v122
          refine x_istore (lsx9 := [(4, .int v122), (0, .ref 125), (1, .int l1), (2, .int l2), (3, .int l3)]) rfl rfl rfl ?_
          refine x_aloadn (x := 125) rfl rfl ?_
          refine x_aloadn (x := 125) rfl rfl ?_
          refine z_getI (N := 92) 12 32 rfl f_12_412 rfl J rfl sg_125_32_33_1_0_1 (fun v123 qv123 ev123 => ?_)
          refine x_iload (x := v122) rfl rfl ?_
          refine x_aloadn (x := 125) rfl rfl ?_
          refine z_getI (N := 92) 12 27 rfl f_12_69 rfl J rfl sg_125_27_28_1_0_1 (fun v124 qv124 ev124 => ?_)
          refine z_isub0 rfl (fun v125 => ?_)
          have ev125 := jfull v125
          refine x_sipush (v := 366) rfl ks_366 ?_
          refine z_imul0 rfl (fun v126 => ?_)
          have ev126 := jfull v126
          refine x_inst (N := m_X12_more) (As := [.int v123, .int v126]) (st := [.ref 125]) (dx9 := 4) (mc := 0) (ms := 0) (host := "") rfl t_X12_more ⟨Or.inl q_12_431, s_X12_more⟩ rfl (by decide) rfl rfl ⟨by decide, by decide⟩ (jC.of rfl k_X12_more rfl ?_)
          show jX m_X12_more 4 0 0 0 [(0, .int v123), (1, .int v126)] [] _ 0 0 _
          refine x_iloadn (x := v123) rfl rfl ?_
          refine x_iloadn (x := v126) rfl rfl ?_
          refine x_icle (tgt := 9) rfl rfl (ti_le rfl rfl ⟨fun c127 => ?_, fun c127 => ?_⟩)
          ·
            refine x_iloadn (x := v126) rfl rfl ?_
            refine x_iret rfl rfl ?_
            show jX m_X12_addSpan 5 0 0 111 [(4, .int v122), (0, .ref 125), (1, .int l1), (2, .int l2), (3, .int l3)] [.int v126, .ref 125] _ 0 0 _
            refine z_putI (N := 92) (w := v126.toInt) 12 32 rfl f_12_412 rfl (jfin_no TX12 RX12 92 rfl rfl) hD J Sm rfl rfl rfl (pw_125_32 (by omega)) rfl (fun h w128 J Sm => ?_)
            refine x_aloadn (x := 125) rfl rfl ?_
            refine x_aloadn (x := 125) rfl rfl ?_
            refine z_getI (N := 92) 12 33 rfl f_12_415 rfl J rfl sg_125_33_34_1_0_1 (fun v129 qv129 ev129 => ?_)
            refine x_iload (x := v122) rfl rfl ?_
            refine x_aloadn (x := 125) rfl rfl ?_
            refine z_getM (N := 92) (v := v124) 12 27 rfl f_12_69 rfl J rfl (jmo w128 rfl qv124) ?_
            refine z_iadd0 rfl (fun v130 => ?_)
            have ev130 := jfull v130
            refine x_sipush (v := 366) rfl ks_366 ?_
            refine z_imul0 rfl (fun v131 => ?_)
            have ev131 := jfull v131
            refine x_sipush (v := 366) rfl ks_366 ?_
            refine z_iadd0 rfl (fun v132 => ?_)
            have ev132 := jfull v132
            refine x_iconst (v := 1) rfl ki_1 ?_
            refine z_isub0 rfl (fun v133 => ?_)
            have ev133 := jfull v133
            refine x_inst (N := m_X12_less) (As := [.int v129, .int v133]) (st := [.ref 125]) (dx9 := 4) (mc := 0) (ms := 0) (host := "") rfl t_X12_less ⟨Or.inl q_12_428, s_X12_less⟩ rfl (by decide) rfl rfl ⟨by decide, by decide⟩ (jC.of rfl k_X12_less rfl ?_)
            show jX m_X12_less 4 0 0 0 [(0, .int v129), (1, .int v133)] [] _ 0 0 _
            refine x_iloadn (x := v129) rfl rfl ?_
            refine x_iloadn (x := v133) rfl rfl ?_
            refine x_icge (tgt := 9) rfl rfl (ti_ge rfl rfl ⟨fun c134 => ?_, fun c134 => ?_⟩)
            ·
              refine x_iloadn (x := v133) rfl rfl ?_
              refine x_iret rfl rfl ?_
              show jX m_X12_addSpan 5 0 0 139 [(4, .int v122), (0, .ref 125), (1, .int l1), (2, .int l2), (3, .int l3)] [.int v133, .ref 125] _ 0 0 _
              refine z_putI (N := 92) (w := v133.toInt) 12 33 rfl f_12_415 rfl (jfin_no TX12 RX12 92 rfl rfl) hD J Sm rfl rfl rfl (pw_125_33 (by omega)) rfl (fun h w135 J Sm => ?_)
              exact jX.sub (jsb_c rfl (jsb_c rfl (jsb_c rfl jsb_n))) (ct_X12_addSpan_r125_142 hD hQ  l2 l3 h (jr_of rfl (by omega)) (jr_of rfl (by omega)) J Sm)
            ·
              refine x_iloadn (x := v129) rfl rfl ?_
              refine x_goto (tgt := 10) rfl rfl ?_
              refine x_iret rfl rfl ?_
              show jX m_X12_addSpan 5 0 0 139 [(4, .int v122), (0, .ref 125), (1, .int l1), (2, .int l2), (3, .int l3)] [.int v129, .ref 125] _ 0 0 _
              refine z_putI (N := 92) (w := v129.toInt) 12 33 rfl f_12_415 rfl (jfin_no TX12 RX12 92 rfl rfl) hD J Sm rfl rfl rfl (pw_125_33 (by omega)) rfl (fun h w136 J Sm => ?_)
              exact jX.sub (jsb_c rfl (jsb_c rfl (jsb_c rfl jsb_n))) (ct_X12_addSpan_r125_142 hD hQ  l2 l3 h (jr_of rfl (by omega)) (jr_of rfl (by omega)) J Sm)
          ·
            refine x_iloadn (x := v123) rfl rfl ?_
            refine x_goto (tgt := 10) rfl rfl ?_
            refine x_iret rfl rfl ?_
            show jX m_X12_addSpan 5 0 0 111 [(4, .int v122), (0, .ref 125), (1, .int l1), (2, .int l2), (3, .int l3)] [.int v123, .ref 125] _ 0 0 _
            refine z_putI (N := 92) (w := v123.toInt) 12 32 rfl f_12_412 rfl (jfin_no TX12 RX12 92 rfl rfl) hD J Sm rfl rfl rfl (pw_125_32 (by omega)) rfl (fun h w137 J Sm => ?_)
            refine x_aloadn (x := 125) rfl rfl ?_
            refine x_aloadn (x := 125) rfl rfl ?_
            refine z_getI (N := 92) 12 33 rfl f_12_415 rfl J rfl sg_125_33_34_1_0_1 (fun v138 qv138 ev138 => ?_)
            refine x_iload (x := v122) rfl rfl ?_
            refine x_aloadn (x := 125) rfl rfl ?_
            refine z_getM (N := 92) (v := v124) 12 27 rfl f_12_69 rfl J rfl (jmo w137 rfl qv124) ?_
            refine z_iadd0 rfl (fun v139 => ?_)
            have ev139 := jfull v139
            refine x_sipush (v := 366) rfl ks_366 ?_
            refine z_imul0 rfl (fun v140 => ?_)
            have ev140 := jfull v140
            refine x_sipush (v := 366) rfl ks_366 ?_
            refine z_iadd0 rfl (fun v141 => ?_)
            have ev141 := jfull v141
            refine x_iconst (v := 1) rfl ki_1 ?_
            refine z_isub0 rfl (fun v142 => ?_)
            have ev142 := jfull v142
            refine x_inst (N := m_X12_less) (As := [.int v138, .int v142]) (st := [.ref 125]) (dx9 := 4) (mc := 0) (ms := 0) (host := "") rfl t_X12_less ⟨Or.inl q_12_428, s_X12_less⟩ rfl (by decide) rfl rfl ⟨by decide, by decide⟩ (jC.of rfl k_X12_less rfl ?_)
            show jX m_X12_less 4 0 0 0 [(0, .int v138), (1, .int v142)] [] _ 0 0 _
            refine x_iloadn (x := v138) rfl rfl ?_
            refine x_iloadn (x := v142) rfl rfl ?_
            refine x_icge (tgt := 9) rfl rfl (ti_ge rfl rfl ⟨fun c143 => ?_, fun c143 => ?_⟩)
            ·
              refine x_iloadn (x := v142) rfl rfl ?_
              refine x_iret rfl rfl ?_
              show jX m_X12_addSpan 5 0 0 139 [(4, .int v122), (0, .ref 125), (1, .int l1), (2, .int l2), (3, .int l3)] [.int v142, .ref 125] _ 0 0 _
              refine z_putI (N := 92) (w := v142.toInt) 12 33 rfl f_12_415 rfl (jfin_no TX12 RX12 92 rfl rfl) hD J Sm rfl rfl rfl (pw_125_33 (by omega)) rfl (fun h w144 J Sm => ?_)
              exact jX.sub (jsb_c rfl (jsb_c rfl (jsb_c rfl jsb_n))) (ct_X12_addSpan_r125_142 hD hQ  l2 l3 h (jr_of rfl (by omega)) (jr_of rfl (by omega)) J Sm)
            ·
              refine x_iloadn (x := v138) rfl rfl ?_
              refine x_goto (tgt := 10) rfl rfl ?_
              refine x_iret rfl rfl ?_
              show jX m_X12_addSpan 5 0 0 139 [(4, .int v122), (0, .ref 125), (1, .int l1), (2, .int l2), (3, .int l3)] [.int v138, .ref 125] _ 0 0 _
              refine z_putI (N := 92) (w := v138.toInt) 12 33 rfl f_12_415 rfl (jfin_no TX12 RX12 92 rfl rfl) hD J Sm rfl rfl rfl (pw_125_33 (by omega)) rfl (fun h w145 J Sm => ?_)
              exact jX.sub (jsb_c rfl (jsb_c rfl (jsb_c rfl jsb_n))) (ct_X12_addSpan_r125_142 hD hQ  l2 l3 h (jr_of rfl (by omega)) (jr_of rfl (by omega)) J Sm)
set_option maxRecDepth 100000 in
set_option maxHeartbeats 4000000 in
theorem sf_X12_addSpan_r125 {Dy : jH → Prop} {h : jH} {Q : Option Value → jH → Prop} {a1 : Int32} (y1 : 0 ≤ a1.toInt ∧ a1.toInt ≤ 599) (hD : jDk Dy) (J : jJ jSgM Dy h) (hQ : ∀ hx9, jJ jSgM Dy hx9 → jSm fp_X12_addSpan_r125 h hx9 → Q none hx9) : jC m_X12_addSpan 5 0 0 [.ref 125, .int a1] h Q := by
  refine jC.of rfl k_X12_addSpan rfl ?_
  have Sm := jSm_rf fp_X12_addSpan_r125 h
  show jX m_X12_addSpan 5 0 0 0 [(0, .ref 125), (1, .int a1)] [] _ 0 0 _
  refine x_aloadn (x := 125) rfl rfl ?_
  refine x_iloadn (x := a1) rfl rfl ?_
  refine x_inv (N := m_X12_partOf) (As := [.int a1]) (b := 125) (st := []) (dx9 := 3) (mc := 0) (ms := 0) (host := "") 12 rfl t_X12_partOf ⟨Or.inl q_12_338, i_X12_partOf.1, i_X12_partOf.2⟩ ⟨by decide, rfl⟩ (congrArg Prod.fst (J.1.1 125 (12, 92) rfl)) rfl (by decide) rfl rfl ⟨by decide, by decide⟩ (sf_X12_partOf_r125 (jr_of rfl (by omega)) hD J  (fun v2 h ev2 J S1 => ?_))
  have Sm := jSm_tr rfl Sm S1
  show jX m_X12_addSpan 5 0 0 5 [(0, .ref 125), (1, .int a1)] [.int v2] _ 0 0 _
  refine x_istoren (lsx9 := [(2, .int v2), (0, .ref 125), (1, .int a1)]) rfl rfl rfl ?_
  refine x_aloadn (x := 125) rfl rfl ?_
  refine x_iloadn (x := a1) rfl rfl ?_
  refine x_inv (N := m_X12_dayAt) (As := [.int a1]) (b := 125) (st := []) (dx9 := 3) (mc := 0) (ms := 0) (host := "") 12 rfl t_X12_dayAt ⟨Or.inl q_12_347, i_X12_dayAt.1, i_X12_dayAt.2⟩ ⟨by decide, rfl⟩ (congrArg Prod.fst (J.1.1 125 (12, 92) rfl)) rfl (by decide) rfl rfl ⟨by decide, by decide⟩ (sf_X12_dayAt_r125 (jr_of rfl (by omega)) hD J  (fun v4 h ev4 J S3 => ?_))
  have Sm := jSm_tr rfl Sm S3
  show jX m_X12_addSpan 5 0 0 11 [(2, .int v2), (0, .ref 125), (1, .int a1)] [.int v4] _ 0 0 _
  refine x_istoren (lsx9 := [(3, .int v4), (2, .int v2), (0, .ref 125), (1, .int a1)]) rfl rfl rfl ?_
  refine x_iloadn (x := v2) rfl rfl ?_
  refine x_ifne (tgt := 40) rfl rfl (ti_ne rfl jk_0 ⟨fun c5 => ?_, fun c5 => ?_⟩)
  ·
    exact jX.sub (jsb_c rfl (jsb_c rfl (jsb_c rfl (jsb_c rfl jsb_n)))) (ct_X12_addSpan_r125_40 hD hQ  a1 v2 v4 h (jr_of rfl (by omega)) (jr_of rfl (by omega)) (jr_of rfl (by omega)) J Sm)
  ·
    refine x_aloadn (x := 125) rfl rfl ?_
    refine x_aloadn (x := 125) rfl rfl ?_
    refine z_getI (N := 92) 12 32 rfl f_12_412 rfl J rfl sg_125_32_33_1_0_1 (fun v6 qv6 ev6 => ?_)
    refine x_iloadn (x := v4) rfl rfl ?_
    refine x_inst (N := m_X12_more) (As := [.int v6, .int v4]) (st := [.ref 125]) (dx9 := 4) (mc := 0) (ms := 0) (host := "") rfl t_X12_more ⟨Or.inl q_12_431, s_X12_more⟩ rfl (by decide) rfl rfl ⟨by decide, by decide⟩ (jC.of rfl k_X12_more rfl ?_)
    show jX m_X12_more 4 0 0 0 [(0, .int v6), (1, .int v4)] [] _ 0 0 _
    refine x_iloadn (x := v6) rfl rfl ?_
    refine x_iloadn (x := v4) rfl rfl ?_
    refine x_icle (tgt := 9) rfl rfl (ti_le rfl rfl ⟨fun c7 => ?_, fun c7 => ?_⟩)
    ·
      refine x_iloadn (x := v4) rfl rfl ?_
      refine x_iret rfl rfl ?_
      show jX m_X12_addSpan 5 0 0 25 [(3, .int v4), (2, .int v2), (0, .ref 125), (1, .int a1)] [.int v4, .ref 125] _ 0 0 _
      refine z_putI (N := 92) (w := v4.toInt) 12 32 rfl f_12_412 rfl (jfin_no TX12 RX12 92 rfl rfl) hD J Sm rfl rfl rfl (pw_125_32 (by omega)) rfl (fun h w8 J Sm => ?_)
      refine x_aloadn (x := 125) rfl rfl ?_
      refine x_aloadn (x := 125) rfl rfl ?_
      refine z_getI (N := 92) 12 33 rfl f_12_415 rfl J rfl sg_125_33_34_1_0_1 (fun v9 qv9 ev9 => ?_)
      refine x_iloadn (x := v4) rfl rfl ?_
      refine x_inst (N := m_X12_less) (As := [.int v9, .int v4]) (st := [.ref 125]) (dx9 := 4) (mc := 0) (ms := 0) (host := "") rfl t_X12_less ⟨Or.inl q_12_428, s_X12_less⟩ rfl (by decide) rfl rfl ⟨by decide, by decide⟩ (jC.of rfl k_X12_less rfl ?_)
      show jX m_X12_less 4 0 0 0 [(0, .int v9), (1, .int v4)] [] _ 0 0 _
      refine x_iloadn (x := v9) rfl rfl ?_
      refine x_iloadn (x := v4) rfl rfl ?_
      refine x_icge (tgt := 9) rfl rfl (ti_ge rfl rfl ⟨fun c10 => ?_, fun c10 => ?_⟩)
      ·
        refine x_iloadn (x := v4) rfl rfl ?_
        refine x_iret rfl rfl ?_
        show jX m_X12_addSpan 5 0 0 37 [(3, .int v4), (2, .int v2), (0, .ref 125), (1, .int a1)] [.int v4, .ref 125] _ 0 0 _
        refine z_putI (N := 92) (w := v4.toInt) 12 33 rfl f_12_415 rfl (jfin_no TX12 RX12 92 rfl rfl) hD J Sm rfl rfl rfl (pw_125_33 (by omega)) rfl (fun h w11 J Sm => ?_)
        exact jX.sub (jsb_c rfl (jsb_c rfl (jsb_c rfl (jsb_c rfl jsb_n)))) (ct_X12_addSpan_r125_40 hD hQ  a1 v2 v4 h (jr_of rfl (by omega)) (jr_of rfl (by omega)) (jr_of rfl (by omega)) J Sm)
      ·
        refine x_iloadn (x := v9) rfl rfl ?_
        refine x_goto (tgt := 10) rfl rfl ?_
        refine x_iret rfl rfl ?_
        show jX m_X12_addSpan 5 0 0 37 [(3, .int v4), (2, .int v2), (0, .ref 125), (1, .int a1)] [.int v9, .ref 125] _ 0 0 _
        refine z_putI (N := 92) (w := v9.toInt) 12 33 rfl f_12_415 rfl (jfin_no TX12 RX12 92 rfl rfl) hD J Sm rfl rfl rfl (pw_125_33 (by omega)) rfl (fun h w12 J Sm => ?_)
        exact jX.sub (jsb_c rfl (jsb_c rfl (jsb_c rfl (jsb_c rfl jsb_n)))) (ct_X12_addSpan_r125_40 hD hQ  a1 v2 v4 h (jr_of rfl (by omega)) (jr_of rfl (by omega)) (jr_of rfl (by omega)) J Sm)
    ·
      refine x_iloadn (x := v6) rfl rfl ?_
      refine x_goto (tgt := 10) rfl rfl ?_
      refine x_iret rfl rfl ?_
      show jX m_X12_addSpan 5 0 0 25 [(3, .int v4), (2, .int v2), (0, .ref 125), (1, .int a1)] [.int v6, .ref 125] _ 0 0 _
      refine z_putI (N := 92) (w := v6.toInt) 12 32 rfl f_12_412 rfl (jfin_no TX12 RX12 92 rfl rfl) hD J Sm rfl rfl rfl (pw_125_32 (by omega)) rfl (fun h w13 J Sm => ?_)
      refine x_aloadn (x := 125) rfl rfl ?_
      refine x_aloadn (x := 125) rfl rfl ?_
      refine z_getI (N := 92) 12 33 rfl f_12_415 rfl J rfl sg_125_33_34_1_0_1 (fun v14 qv14 ev14 => ?_)
      refine x_iloadn (x := v4) rfl rfl ?_
      refine x_inst (N := m_X12_less) (As := [.int v14, .int v4]) (st := [.ref 125]) (dx9 := 4) (mc := 0) (ms := 0) (host := "") rfl t_X12_less ⟨Or.inl q_12_428, s_X12_less⟩ rfl (by decide) rfl rfl ⟨by decide, by decide⟩ (jC.of rfl k_X12_less rfl ?_)
      show jX m_X12_less 4 0 0 0 [(0, .int v14), (1, .int v4)] [] _ 0 0 _
      refine x_iloadn (x := v14) rfl rfl ?_
      refine x_iloadn (x := v4) rfl rfl ?_
      refine x_icge (tgt := 9) rfl rfl (ti_ge rfl rfl ⟨fun c15 => ?_, fun c15 => ?_⟩)
      ·
        refine x_iloadn (x := v4) rfl rfl ?_
        refine x_iret rfl rfl ?_
        show jX m_X12_addSpan 5 0 0 37 [(3, .int v4), (2, .int v2), (0, .ref 125), (1, .int a1)] [.int v4, .ref 125] _ 0 0 _
        refine z_putI (N := 92) (w := v4.toInt) 12 33 rfl f_12_415 rfl (jfin_no TX12 RX12 92 rfl rfl) hD J Sm rfl rfl rfl (pw_125_33 (by omega)) rfl (fun h w16 J Sm => ?_)
        exact jX.sub (jsb_c rfl (jsb_c rfl (jsb_c rfl (jsb_c rfl jsb_n)))) (ct_X12_addSpan_r125_40 hD hQ  a1 v2 v4 h (jr_of rfl (by omega)) (jr_of rfl (by omega)) (jr_of rfl (by omega)) J Sm)
      ·
        refine x_iloadn (x := v14) rfl rfl ?_
        refine x_goto (tgt := 10) rfl rfl ?_
        refine x_iret rfl rfl ?_
        show jX m_X12_addSpan 5 0 0 37 [(3, .int v4), (2, .int v2), (0, .ref 125), (1, .int a1)] [.int v14, .ref 125] _ 0 0 _
        refine z_putI (N := 92) (w := v14.toInt) 12 33 rfl f_12_415 rfl (jfin_no TX12 RX12 92 rfl rfl) hD J Sm rfl rfl rfl (pw_125_33 (by omega)) rfl (fun h w17 J Sm => ?_)
        exact jX.sub (jsb_c rfl (jsb_c rfl (jsb_c rfl (jsb_c rfl jsb_n)))) (ct_X12_addSpan_r125_40 hD hQ  a1 v2 v4 h (jr_of rfl (by omega)) (jr_of rfl (by omega)) (jr_of rfl (by omega)) J Sm)
def fp_X12_findSpan_r125 : jFp := [(125, 32, 33), (125, 33, 34), (125, 34, 35), (125, 35, 36)]
set_option maxRecDepth 100000 in
set_option maxHeartbeats 4000000 in
theorem ct_X12_findSpan_r125_53 {Dy : jH → Prop} {h0 : jH} {Q : Option Value → jH → Prop} {R26 : Int} (hD : jDk Dy) (hQ : ∀ hx9, jJ jSgM Dy hx9 → jSm fp_X12_findSpan_r125 h0 hx9 → Q none hx9) (k26 : ∀ (l1 : Int32) (l2 : Int32) (h : jH), 600 - l2.toInt < R26 → (-1) ≤ l1.toInt ∧ l1.toInt ≤ 599 → 0 ≤ l2.toInt ∧ l2.toInt ≤ 600 → jJ jSgM Dy h → jSm fp_X12_findSpan_r125 h0 h → jX m_X12_findSpan 6 0 0 26 [(0, .ref 125), (1, .int l1), (2, .int l2)] [] h 0 0 Q) : ∀ (l1 : Int32) (l2 : Int32) (h : jH), (-1) ≤ l1.toInt ∧ l1.toInt ≤ 599 → 0 ≤ l2.toInt ∧ l2.toInt ≤ 599 → 600 - l2.toInt ≤ R26 → jJ jSgM Dy h → jSm fp_X12_findSpan_r125 h0 h → jX m_X12_findSpan 6 0 0 53 [(0, .ref 125), (1, .int l1), (2, .int l2)] [] h 0 0 Q := by
  intro l1 l2 h y0 y1  m26 J Sm
  refine z_iinc (x := l2) (lsx9 := fun v1 => [(2, .int v1), (0, .ref 125), (1, .int l1)]) rfl rfl rfl jko_1 (by omega) rfl (fun _ => rfl) (fun v1 ev1 => ?_)
  refine x_goto (tgt := 26) rfl rfl ?_
  exact jX.sub (jsb_c rfl (jsb_c rfl (jsb_c rfl jsb_n))) (k26 l1 v1 h (by omega) (jr_of rfl (by omega)) (jr_of rfl (by omega)) J Sm)
set_option maxRecDepth 100000 in
set_option maxHeartbeats 4000000 in
theorem ct_X12_findSpan_r125_26 {Dy : jH → Prop} {h0 : jH} {Q : Option Value → jH → Prop} (hD : jDk Dy) (hQ : ∀ hx9, jJ jSgM Dy hx9 → jSm fp_X12_findSpan_r125 h0 hx9 → Q none hx9) : ∀ r : Nat, ∀ (l1 : Int32) (l2 : Int32) (h : jH), 600 - l2.toInt < (r : Int) → (-1) ≤ l1.toInt ∧ l1.toInt ≤ 599 → 0 ≤ l2.toInt ∧ l2.toInt ≤ 600 → jJ jSgM Dy h → jSm fp_X12_findSpan_r125 h0 h → jX m_X12_findSpan 6 0 0 26 [(0, .ref 125), (1, .int l1), (2, .int l2)] [] h 0 0 Q := by
  intro r
  induction r with
  | zero =>
    intro l1 l2 h hm y0 y1   J Sm
    exfalso
    omega
  | succ r ih =>
    intro l1 l2 h hm y0 y1   J Sm
    refine x_iloadn (x := l2) rfl rfl ?_
    refine x_iconst (v := 3) rfl ki_3 ?_
    refine x_aloadn (x := 125) rfl rfl ?_
    refine z_getR (N := 92) (b := 126) 12 2 rfl f_12_8 rfl J rfl 16002 ⟨rfl, rfl⟩ rfl ?_
    refine x_iconst (v := 0) rfl ki_0 ?_
    refine z_iald (N := 50660) rfl J rfl sg_126_0_1_1_0_1 jk_0 (by omega) (fun v1 qv1 ev1 => ?_)
    refine z_imul rfl jk_3 rfl (by omega) (fun v2 ev2 => ?_)
    refine x_icge (tgt := 59) rfl rfl (ti_ge rfl rfl ⟨fun c3 => ?_, fun c3 => ?_⟩)
    ·
      refine x_aloadn (x := 125) rfl rfl ?_
      refine x_aloadn (x := 125) rfl rfl ?_
      refine z_getI (N := 92) 12 35 rfl f_12_421 rfl J rfl sg_125_35_36_1_0_1 (fun v4 qv4 ev4 => ?_)
      refine x_aloadn (x := 125) rfl rfl ?_
      refine z_getI (N := 92) 12 33 rfl f_12_415 rfl J rfl sg_125_33_34_1_0_1 (fun v5 qv5 ev5 => ?_)
      refine x_ldcw (v := 40260) rfl z_12_427 ?_
      refine z_iadd rfl rfl jk_40260 (by omega) (fun v6 ev6 => ?_)
      refine x_inst (N := m_X12_less) (As := [.int v4, .int v6]) (st := [.ref 125]) (dx9 := 5) (mc := 0) (ms := 0) (host := "") rfl t_X12_less ⟨Or.inl q_12_428, s_X12_less⟩ rfl (by decide) rfl rfl ⟨by decide, by decide⟩ (jC.of rfl k_X12_less rfl ?_)
      show jX m_X12_less 5 0 0 0 [(0, .int v4), (1, .int v6)] [] _ 0 0 _
      refine x_iloadn (x := v4) rfl rfl ?_
      refine x_iloadn (x := v6) rfl rfl ?_
      refine x_icge (tgt := 9) rfl rfl (ti_ge rfl rfl ⟨fun c7 => ?_, fun c7 => ?_⟩)
      ·
        refine x_iloadn (x := v6) rfl rfl ?_
        refine x_iret rfl rfl ?_
        show jX m_X12_findSpan 6 0 0 75 [(0, .ref 125), (1, .int l1), (2, .int l2)] [.int v6, .ref 125] _ 0 0 _
        refine z_putI (N := 92) (w := v6.toInt) 12 35 rfl f_12_421 rfl (jfin_no TX12 RX12 92 rfl rfl) hD J Sm rfl rfl rfl (pw_125_35 (by omega)) rfl (fun h w8 J Sm => ?_)
        refine x_aloadn (x := 125) rfl rfl ?_
        refine x_aloadn (x := 125) rfl rfl ?_
        refine z_getI (N := 92) 12 32 rfl f_12_412 rfl J rfl sg_125_32_33_1_0_1 (fun v9 qv9 ev9 => ?_)
        refine x_aloadn (x := 125) rfl rfl ?_
        refine z_getI (N := 92) 12 34 rfl f_12_418 rfl J rfl sg_125_34_35_1_0_1 (fun v10 qv10 ev10 => ?_)
        refine x_ldcw (v := 40260) rfl z_12_427 ?_
        refine z_isub rfl rfl jk_40260 (by omega) (fun v11 ev11 => ?_)
        refine x_inst (N := m_X12_more) (As := [.int v9, .int v11]) (st := [.ref 125]) (dx9 := 5) (mc := 0) (ms := 0) (host := "") rfl t_X12_more ⟨Or.inl q_12_431, s_X12_more⟩ rfl (by decide) rfl rfl ⟨by decide, by decide⟩ (jC.of rfl k_X12_more rfl ?_)
        show jX m_X12_more 5 0 0 0 [(0, .int v9), (1, .int v11)] [] _ 0 0 _
        refine x_iloadn (x := v9) rfl rfl ?_
        refine x_iloadn (x := v11) rfl rfl ?_
        refine x_icle (tgt := 9) rfl rfl (ti_le rfl rfl ⟨fun c12 => ?_, fun c12 => ?_⟩)
        ·
          refine x_iloadn (x := v11) rfl rfl ?_
          refine x_iret rfl rfl ?_
          show jX m_X12_findSpan 6 0 0 94 [(0, .ref 125), (1, .int l1), (2, .int l2)] [.int v11, .ref 125] _ 0 0 _
          refine z_putI (N := 92) (w := v11.toInt) 12 32 rfl f_12_412 rfl (jfin_no TX12 RX12 92 rfl rfl) hD J Sm rfl rfl rfl (pw_125_32 (by omega)) rfl (fun h w13 J Sm => ?_)
          refine x_aloadn (x := 125) rfl rfl ?_
          refine x_aloadn (x := 125) rfl rfl ?_
          refine z_getM (N := 92) (v := v11) 12 32 rfl f_12_412 rfl J rfl (jmw w13) ?_
          refine x_inst (N := m_X12_within) (As := [.int v11]) (st := [.ref 125]) (dx9 := 5) (mc := 0) (ms := 0) (host := "") rfl t_X12_within ⟨Or.inl q_12_434, s_X12_within⟩ rfl (by decide) rfl rfl ⟨by decide, by decide⟩ (jC.of rfl k_X12_within rfl ?_)
          show jX m_X12_within 5 0 0 0 [(0, .int v11)] [] _ 0 0 _
          refine x_iloadn (x := v11) rfl rfl ?_
          refine x_ifge (tgt := 8) rfl rfl (ti_ge rfl jk_0 (br_t (by omega) ?_))
          refine x_iloadn (x := v11) rfl rfl ?_
          refine x_ldcw (v := 146399) rfl z_12_392 ?_
          refine x_icle (tgt := 21) rfl rfl (ti_le rfl jk_146399 (br_t (by omega) ?_))
          refine x_iloadn (x := v11) rfl rfl ?_
          refine x_iret rfl rfl ?_
          show jX m_X12_findSpan 6 0 0 105 [(0, .ref 125), (1, .int l1), (2, .int l2)] [.int v11, .ref 125] _ 0 0 _
          refine z_putI (N := 92) (w := v11.toInt) 12 32 rfl f_12_412 rfl (jfin_no TX12 RX12 92 rfl rfl) hD J Sm rfl rfl rfl (pw_125_32 (by omega)) rfl (fun h w14 J Sm => ?_)
          refine x_aloadn (x := 125) rfl rfl ?_
          refine x_aloadn (x := 125) rfl rfl ?_
          refine z_getM (N := 92) (v := v5) 12 33 rfl f_12_415 rfl J rfl (jmo w14 rfl (jmo w13 rfl (jmo w8 rfl qv5))) ?_
          refine x_inst (N := m_X12_within) (As := [.int v5]) (st := [.ref 125]) (dx9 := 5) (mc := 0) (ms := 0) (host := "") rfl t_X12_within ⟨Or.inl q_12_434, s_X12_within⟩ rfl (by decide) rfl rfl ⟨by decide, by decide⟩ (jC.of rfl k_X12_within rfl ?_)
          show jX m_X12_within 5 0 0 0 [(0, .int v5)] [] _ 0 0 _
          refine x_iloadn (x := v5) rfl rfl ?_
          refine x_ifge (tgt := 8) rfl rfl (ti_ge rfl jk_0 ⟨fun c15 => ?_, fun c15 => ?_⟩)
          ·
            refine x_iloadn (x := v5) rfl rfl ?_
            refine x_ldcw (v := 146399) rfl z_12_392 ?_
            refine x_icle (tgt := 21) rfl rfl (ti_le rfl jk_146399 (br_t (by omega) ?_))
            refine x_iloadn (x := v5) rfl rfl ?_
            refine x_iret rfl rfl ?_
            show jX m_X12_findSpan 6 0 0 116 [(0, .ref 125), (1, .int l1), (2, .int l2)] [.int v5, .ref 125] _ 0 0 _
            refine z_putI (N := 92) (w := v5.toInt) 12 33 rfl f_12_415 rfl (jfin_no TX12 RX12 92 rfl rfl) hD J Sm rfl rfl rfl (pw_125_33 (by omega)) rfl (fun h w16 J Sm => ?_)
            refine x_aloadn (x := 125) rfl rfl ?_
            refine x_aloadn (x := 125) rfl rfl ?_
            refine z_getM (N := 92) (v := v10) 12 34 rfl f_12_418 rfl J rfl (jmo w16 rfl (jmo w14 rfl (jmo w13 rfl qv10))) ?_
            refine x_inst (N := m_X12_within) (As := [.int v10]) (st := [.ref 125]) (dx9 := 5) (mc := 0) (ms := 0) (host := "") rfl t_X12_within ⟨Or.inl q_12_434, s_X12_within⟩ rfl (by decide) rfl rfl ⟨by decide, by decide⟩ (jC.of rfl k_X12_within rfl ?_)
            show jX m_X12_within 5 0 0 0 [(0, .int v10)] [] _ 0 0 _
            refine x_iloadn (x := v10) rfl rfl ?_
            refine x_ifge (tgt := 8) rfl rfl (ti_ge rfl jk_0 (br_t (by omega) ?_))
            refine x_iloadn (x := v10) rfl rfl ?_
            refine x_ldcw (v := 146399) rfl z_12_392 ?_
            refine x_icle (tgt := 21) rfl rfl (ti_le rfl jk_146399 (br_t (by omega) ?_))
            refine x_iloadn (x := v10) rfl rfl ?_
            refine x_iret rfl rfl ?_
            show jX m_X12_findSpan 6 0 0 127 [(0, .ref 125), (1, .int l1), (2, .int l2)] [.int v10, .ref 125] _ 0 0 _
            refine z_putI (N := 92) (w := v10.toInt) 12 34 rfl f_12_418 rfl (jfin_no TX12 RX12 92 rfl rfl) hD J Sm rfl rfl rfl (pw_125_34 (by omega)) rfl (fun h w17 J Sm => ?_)
            refine x_aloadn (x := 125) rfl rfl ?_
            refine x_aloadn (x := 125) rfl rfl ?_
            refine z_getM (N := 92) (v := v6) 12 35 rfl f_12_421 rfl J rfl (jmo w17 rfl (jmo w16 rfl (jmo w14 rfl (jmo w13 rfl (jmw w8))))) ?_
            refine x_inst (N := m_X12_within) (As := [.int v6]) (st := [.ref 125]) (dx9 := 5) (mc := 0) (ms := 0) (host := "") rfl t_X12_within ⟨Or.inl q_12_434, s_X12_within⟩ rfl (by decide) rfl rfl ⟨by decide, by decide⟩ (jC.of rfl k_X12_within rfl ?_)
            show jX m_X12_within 5 0 0 0 [(0, .int v6)] [] _ 0 0 _
            refine x_iloadn (x := v6) rfl rfl ?_
            refine x_ifge (tgt := 8) rfl rfl (ti_ge rfl jk_0 (br_t (by omega) ?_))
            refine x_iloadn (x := v6) rfl rfl ?_
            refine x_ldcw (v := 146399) rfl z_12_392 ?_
            refine x_icle (tgt := 21) rfl rfl (ti_le rfl jk_146399 (br_t (by omega) ?_))
            refine x_iloadn (x := v6) rfl rfl ?_
            refine x_iret rfl rfl ?_
            show jX m_X12_findSpan 6 0 0 138 [(0, .ref 125), (1, .int l1), (2, .int l2)] [.int v6, .ref 125] _ 0 0 _
            refine z_putI (N := 92) (w := v6.toInt) 12 35 rfl f_12_421 rfl (jfin_no TX12 RX12 92 rfl rfl) hD J Sm rfl rfl rfl (pw_125_35 (by omega)) rfl (fun h w18 J Sm => ?_)
            refine x_vret rfl rfl ?_
            exact hQ _ J Sm
          ·
            refine x_iconst (v := 0) rfl ki_0 ?_
            refine x_goto (tgt := 22) rfl rfl ?_
            refine x_iret rfl rfl ?_
            show jX m_X12_findSpan 6 0 0 116 [(0, .ref 125), (1, .int l1), (2, .int l2)] [.int 0, .ref 125] _ 0 0 _
            refine z_putI (N := 92) (w := 0) 12 33 rfl f_12_415 rfl (jfin_no TX12 RX12 92 rfl rfl) hD J Sm rfl rfl jk_0 (pw_125_33 (by omega)) rfl (fun h w19 J Sm => ?_)
            refine x_aloadn (x := 125) rfl rfl ?_
            refine x_aloadn (x := 125) rfl rfl ?_
            refine z_getM (N := 92) (v := v10) 12 34 rfl f_12_418 rfl J rfl (jmo w19 rfl (jmo w14 rfl (jmo w13 rfl qv10))) ?_
            refine x_inst (N := m_X12_within) (As := [.int v10]) (st := [.ref 125]) (dx9 := 5) (mc := 0) (ms := 0) (host := "") rfl t_X12_within ⟨Or.inl q_12_434, s_X12_within⟩ rfl (by decide) rfl rfl ⟨by decide, by decide⟩ (jC.of rfl k_X12_within rfl ?_)
            show jX m_X12_within 5 0 0 0 [(0, .int v10)] [] _ 0 0 _
            refine x_iloadn (x := v10) rfl rfl ?_
            refine x_ifge (tgt := 8) rfl rfl (ti_ge rfl jk_0 (br_t (by omega) ?_))
            refine x_iloadn (x := v10) rfl rfl ?_
            refine x_ldcw (v := 146399) rfl z_12_392 ?_
            refine x_icle (tgt := 21) rfl rfl (ti_le rfl jk_146399 (br_t (by omega) ?_))
            refine x_iloadn (x := v10) rfl rfl ?_
            refine x_iret rfl rfl ?_
            show jX m_X12_findSpan 6 0 0 127 [(0, .ref 125), (1, .int l1), (2, .int l2)] [.int v10, .ref 125] _ 0 0 _
            refine z_putI (N := 92) (w := v10.toInt) 12 34 rfl f_12_418 rfl (jfin_no TX12 RX12 92 rfl rfl) hD J Sm rfl rfl rfl (pw_125_34 (by omega)) rfl (fun h w20 J Sm => ?_)
            refine x_aloadn (x := 125) rfl rfl ?_
            refine x_aloadn (x := 125) rfl rfl ?_
            refine z_getM (N := 92) (v := v6) 12 35 rfl f_12_421 rfl J rfl (jmo w20 rfl (jmo w19 rfl (jmo w14 rfl (jmo w13 rfl (jmw w8))))) ?_
            refine x_inst (N := m_X12_within) (As := [.int v6]) (st := [.ref 125]) (dx9 := 5) (mc := 0) (ms := 0) (host := "") rfl t_X12_within ⟨Or.inl q_12_434, s_X12_within⟩ rfl (by decide) rfl rfl ⟨by decide, by decide⟩ (jC.of rfl k_X12_within rfl ?_)
            show jX m_X12_within 5 0 0 0 [(0, .int v6)] [] _ 0 0 _
            refine x_iloadn (x := v6) rfl rfl ?_
            refine x_ifge (tgt := 8) rfl rfl (ti_ge rfl jk_0 ⟨fun c21 => ?_, fun c21 => ?_⟩)
            ·
              refine x_iloadn (x := v6) rfl rfl ?_
              refine x_ldcw (v := 146399) rfl z_12_392 ?_
              refine x_icle (tgt := 21) rfl rfl (ti_le rfl jk_146399 (br_t (by omega) ?_))
              refine x_iloadn (x := v6) rfl rfl ?_
              refine x_iret rfl rfl ?_
              show jX m_X12_findSpan 6 0 0 138 [(0, .ref 125), (1, .int l1), (2, .int l2)] [.int v6, .ref 125] _ 0 0 _
              refine z_putI (N := 92) (w := v6.toInt) 12 35 rfl f_12_421 rfl (jfin_no TX12 RX12 92 rfl rfl) hD J Sm rfl rfl rfl (pw_125_35 (by omega)) rfl (fun h w22 J Sm => ?_)
              refine x_vret rfl rfl ?_
              exact hQ _ J Sm
            ·
              refine x_iconst (v := 0) rfl ki_0 ?_
              refine x_goto (tgt := 22) rfl rfl ?_
              refine x_iret rfl rfl ?_
              show jX m_X12_findSpan 6 0 0 138 [(0, .ref 125), (1, .int l1), (2, .int l2)] [.int 0, .ref 125] _ 0 0 _
              refine z_putI (N := 92) (w := 0) 12 35 rfl f_12_421 rfl (jfin_no TX12 RX12 92 rfl rfl) hD J Sm rfl rfl jk_0 (pw_125_35 (by omega)) rfl (fun h w23 J Sm => ?_)
              refine x_vret rfl rfl ?_
              exact hQ _ J Sm
        ·
          refine x_iloadn (x := v9) rfl rfl ?_
          refine x_goto (tgt := 10) rfl rfl ?_
          refine x_iret rfl rfl ?_
          show jX m_X12_findSpan 6 0 0 94 [(0, .ref 125), (1, .int l1), (2, .int l2)] [.int v9, .ref 125] _ 0 0 _
          refine z_putI (N := 92) (w := v9.toInt) 12 32 rfl f_12_412 rfl (jfin_no TX12 RX12 92 rfl rfl) hD J Sm rfl rfl rfl (pw_125_32 (by omega)) rfl (fun h w24 J Sm => ?_)
          refine x_aloadn (x := 125) rfl rfl ?_
          refine x_aloadn (x := 125) rfl rfl ?_
          refine z_getM (N := 92) (v := v9) 12 32 rfl f_12_412 rfl J rfl (jmw w24) ?_
          refine x_inst (N := m_X12_within) (As := [.int v9]) (st := [.ref 125]) (dx9 := 5) (mc := 0) (ms := 0) (host := "") rfl t_X12_within ⟨Or.inl q_12_434, s_X12_within⟩ rfl (by decide) rfl rfl ⟨by decide, by decide⟩ (jC.of rfl k_X12_within rfl ?_)
          show jX m_X12_within 5 0 0 0 [(0, .int v9)] [] _ 0 0 _
          refine x_iloadn (x := v9) rfl rfl ?_
          refine x_ifge (tgt := 8) rfl rfl (ti_ge rfl jk_0 (br_t (by omega) ?_))
          refine x_iloadn (x := v9) rfl rfl ?_
          refine x_ldcw (v := 146399) rfl z_12_392 ?_
          refine x_icle (tgt := 21) rfl rfl (ti_le rfl jk_146399 ⟨fun c25 => ?_, fun c25 => ?_⟩)
          ·
            refine x_iloadn (x := v9) rfl rfl ?_
            refine x_iret rfl rfl ?_
            show jX m_X12_findSpan 6 0 0 105 [(0, .ref 125), (1, .int l1), (2, .int l2)] [.int v9, .ref 125] _ 0 0 _
            refine z_putI (N := 92) (w := v9.toInt) 12 32 rfl f_12_412 rfl (jfin_no TX12 RX12 92 rfl rfl) hD J Sm rfl rfl rfl (pw_125_32 (by omega)) rfl (fun h w26 J Sm => ?_)
            refine x_aloadn (x := 125) rfl rfl ?_
            refine x_aloadn (x := 125) rfl rfl ?_
            refine z_getM (N := 92) (v := v5) 12 33 rfl f_12_415 rfl J rfl (jmo w26 rfl (jmo w24 rfl (jmo w8 rfl qv5))) ?_
            refine x_inst (N := m_X12_within) (As := [.int v5]) (st := [.ref 125]) (dx9 := 5) (mc := 0) (ms := 0) (host := "") rfl t_X12_within ⟨Or.inl q_12_434, s_X12_within⟩ rfl (by decide) rfl rfl ⟨by decide, by decide⟩ (jC.of rfl k_X12_within rfl ?_)
            show jX m_X12_within 5 0 0 0 [(0, .int v5)] [] _ 0 0 _
            refine x_iloadn (x := v5) rfl rfl ?_
            refine x_ifge (tgt := 8) rfl rfl (ti_ge rfl jk_0 ⟨fun c27 => ?_, fun c27 => ?_⟩)
            ·
              refine x_iloadn (x := v5) rfl rfl ?_
              refine x_ldcw (v := 146399) rfl z_12_392 ?_
              refine x_icle (tgt := 21) rfl rfl (ti_le rfl jk_146399 (br_t (by omega) ?_))
              refine x_iloadn (x := v5) rfl rfl ?_
              refine x_iret rfl rfl ?_
              show jX m_X12_findSpan 6 0 0 116 [(0, .ref 125), (1, .int l1), (2, .int l2)] [.int v5, .ref 125] _ 0 0 _
              refine z_putI (N := 92) (w := v5.toInt) 12 33 rfl f_12_415 rfl (jfin_no TX12 RX12 92 rfl rfl) hD J Sm rfl rfl rfl (pw_125_33 (by omega)) rfl (fun h w28 J Sm => ?_)
              refine x_aloadn (x := 125) rfl rfl ?_
              refine x_aloadn (x := 125) rfl rfl ?_
              refine z_getM (N := 92) (v := v10) 12 34 rfl f_12_418 rfl J rfl (jmo w28 rfl (jmo w26 rfl (jmo w24 rfl qv10))) ?_
              refine x_inst (N := m_X12_within) (As := [.int v10]) (st := [.ref 125]) (dx9 := 5) (mc := 0) (ms := 0) (host := "") rfl t_X12_within ⟨Or.inl q_12_434, s_X12_within⟩ rfl (by decide) rfl rfl ⟨by decide, by decide⟩ (jC.of rfl k_X12_within rfl ?_)
              show jX m_X12_within 5 0 0 0 [(0, .int v10)] [] _ 0 0 _
              refine x_iloadn (x := v10) rfl rfl ?_
              refine x_ifge (tgt := 8) rfl rfl (ti_ge rfl jk_0 (br_t (by omega) ?_))
              refine x_iloadn (x := v10) rfl rfl ?_
              refine x_ldcw (v := 146399) rfl z_12_392 ?_
              refine x_icle (tgt := 21) rfl rfl (ti_le rfl jk_146399 (br_t (by omega) ?_))
              refine x_iloadn (x := v10) rfl rfl ?_
              refine x_iret rfl rfl ?_
              show jX m_X12_findSpan 6 0 0 127 [(0, .ref 125), (1, .int l1), (2, .int l2)] [.int v10, .ref 125] _ 0 0 _
              refine z_putI (N := 92) (w := v10.toInt) 12 34 rfl f_12_418 rfl (jfin_no TX12 RX12 92 rfl rfl) hD J Sm rfl rfl rfl (pw_125_34 (by omega)) rfl (fun h w29 J Sm => ?_)
              refine x_aloadn (x := 125) rfl rfl ?_
              refine x_aloadn (x := 125) rfl rfl ?_
              refine z_getM (N := 92) (v := v6) 12 35 rfl f_12_421 rfl J rfl (jmo w29 rfl (jmo w28 rfl (jmo w26 rfl (jmo w24 rfl (jmw w8))))) ?_
              refine x_inst (N := m_X12_within) (As := [.int v6]) (st := [.ref 125]) (dx9 := 5) (mc := 0) (ms := 0) (host := "") rfl t_X12_within ⟨Or.inl q_12_434, s_X12_within⟩ rfl (by decide) rfl rfl ⟨by decide, by decide⟩ (jC.of rfl k_X12_within rfl ?_)
              show jX m_X12_within 5 0 0 0 [(0, .int v6)] [] _ 0 0 _
              refine x_iloadn (x := v6) rfl rfl ?_
              refine x_ifge (tgt := 8) rfl rfl (ti_ge rfl jk_0 (br_t (by omega) ?_))
              refine x_iloadn (x := v6) rfl rfl ?_
              refine x_ldcw (v := 146399) rfl z_12_392 ?_
              refine x_icle (tgt := 21) rfl rfl (ti_le rfl jk_146399 (br_t (by omega) ?_))
              refine x_iloadn (x := v6) rfl rfl ?_
              refine x_iret rfl rfl ?_
              show jX m_X12_findSpan 6 0 0 138 [(0, .ref 125), (1, .int l1), (2, .int l2)] [.int v6, .ref 125] _ 0 0 _
              refine z_putI (N := 92) (w := v6.toInt) 12 35 rfl f_12_421 rfl (jfin_no TX12 RX12 92 rfl rfl) hD J Sm rfl rfl rfl (pw_125_35 (by omega)) rfl (fun h w30 J Sm => ?_)
              refine x_vret rfl rfl ?_
              exact hQ _ J Sm
            ·
              refine x_iconst (v := 0) rfl ki_0 ?_
              refine x_goto (tgt := 22) rfl rfl ?_
              refine x_iret rfl rfl ?_
              show jX m_X12_findSpan 6 0 0 116 [(0, .ref 125), (1, .int l1), (2, .int l2)] [.int 0, .ref 125] _ 0 0 _
              refine z_putI (N := 92) (w := 0) 12 33 rfl f_12_415 rfl (jfin_no TX12 RX12 92 rfl rfl) hD J Sm rfl rfl jk_0 (pw_125_33 (by omega)) rfl (fun h w31 J Sm => ?_)
              refine x_aloadn (x := 125) rfl rfl ?_
              refine x_aloadn (x := 125) rfl rfl ?_
              refine z_getM (N := 92) (v := v10) 12 34 rfl f_12_418 rfl J rfl (jmo w31 rfl (jmo w26 rfl (jmo w24 rfl qv10))) ?_
              refine x_inst (N := m_X12_within) (As := [.int v10]) (st := [.ref 125]) (dx9 := 5) (mc := 0) (ms := 0) (host := "") rfl t_X12_within ⟨Or.inl q_12_434, s_X12_within⟩ rfl (by decide) rfl rfl ⟨by decide, by decide⟩ (jC.of rfl k_X12_within rfl ?_)
              show jX m_X12_within 5 0 0 0 [(0, .int v10)] [] _ 0 0 _
              refine x_iloadn (x := v10) rfl rfl ?_
              refine x_ifge (tgt := 8) rfl rfl (ti_ge rfl jk_0 (br_t (by omega) ?_))
              refine x_iloadn (x := v10) rfl rfl ?_
              refine x_ldcw (v := 146399) rfl z_12_392 ?_
              refine x_icle (tgt := 21) rfl rfl (ti_le rfl jk_146399 (br_t (by omega) ?_))
              refine x_iloadn (x := v10) rfl rfl ?_
              refine x_iret rfl rfl ?_
              show jX m_X12_findSpan 6 0 0 127 [(0, .ref 125), (1, .int l1), (2, .int l2)] [.int v10, .ref 125] _ 0 0 _
              refine z_putI (N := 92) (w := v10.toInt) 12 34 rfl f_12_418 rfl (jfin_no TX12 RX12 92 rfl rfl) hD J Sm rfl rfl rfl (pw_125_34 (by omega)) rfl (fun h w32 J Sm => ?_)
              refine x_aloadn (x := 125) rfl rfl ?_
              refine x_aloadn (x := 125) rfl rfl ?_
              refine z_getM (N := 92) (v := v6) 12 35 rfl f_12_421 rfl J rfl (jmo w32 rfl (jmo w31 rfl (jmo w26 rfl (jmo w24 rfl (jmw w8))))) ?_
              refine x_inst (N := m_X12_within) (As := [.int v6]) (st := [.ref 125]) (dx9 := 5) (mc := 0) (ms := 0) (host := "") rfl t_X12_within ⟨Or.inl q_12_434, s_X12_within⟩ rfl (by decide) rfl rfl ⟨by decide, by decide⟩ (jC.of rfl k_X12_within rfl ?_)
              show jX m_X12_within 5 0 0 0 [(0, .int v6)] [] _ 0 0 _
              refine x_iloadn (x := v6) rfl rfl ?_
              refine x_ifge (tgt := 8) rfl rfl (ti_ge rfl jk_0 ⟨fun c33 => ?_, fun c33 => ?_⟩)
              ·
                refine x_iloadn (x := v6) rfl rfl ?_
                refine x_ldcw (v := 146399) rfl z_12_392 ?_
                refine x_icle (tgt := 21) rfl rfl (ti_le rfl jk_146399 (br_t (by omega) ?_))
                refine x_iloadn (x := v6) rfl rfl ?_
                refine x_iret rfl rfl ?_
                show jX m_X12_findSpan 6 0 0 138 [(0, .ref 125), (1, .int l1), (2, .int l2)] [.int v6, .ref 125] _ 0 0 _
                refine z_putI (N := 92) (w := v6.toInt) 12 35 rfl f_12_421 rfl (jfin_no TX12 RX12 92 rfl rfl) hD J Sm rfl rfl rfl (pw_125_35 (by omega)) rfl (fun h w34 J Sm => ?_)
                refine x_vret rfl rfl ?_
                exact hQ _ J Sm
              ·
                refine x_iconst (v := 0) rfl ki_0 ?_
                refine x_goto (tgt := 22) rfl rfl ?_
                refine x_iret rfl rfl ?_
                show jX m_X12_findSpan 6 0 0 138 [(0, .ref 125), (1, .int l1), (2, .int l2)] [.int 0, .ref 125] _ 0 0 _
                refine z_putI (N := 92) (w := 0) 12 35 rfl f_12_421 rfl (jfin_no TX12 RX12 92 rfl rfl) hD J Sm rfl rfl jk_0 (pw_125_35 (by omega)) rfl (fun h w35 J Sm => ?_)
                refine x_vret rfl rfl ?_
                exact hQ _ J Sm
          ·
            refine x_ldcw (v := 146399) rfl z_12_392 ?_
            refine x_goto (tgt := 22) rfl rfl ?_
            refine x_iret rfl rfl ?_
            show jX m_X12_findSpan 6 0 0 105 [(0, .ref 125), (1, .int l1), (2, .int l2)] [.int 146399, .ref 125] _ 0 0 _
            refine z_putI (N := 92) (w := 146399) 12 32 rfl f_12_412 rfl (jfin_no TX12 RX12 92 rfl rfl) hD J Sm rfl rfl jk_146399 (pw_125_32 (by omega)) rfl (fun h w36 J Sm => ?_)
            refine x_aloadn (x := 125) rfl rfl ?_
            refine x_aloadn (x := 125) rfl rfl ?_
            refine z_getM (N := 92) (v := v5) 12 33 rfl f_12_415 rfl J rfl (jmo w36 rfl (jmo w24 rfl (jmo w8 rfl qv5))) ?_
            refine x_inst (N := m_X12_within) (As := [.int v5]) (st := [.ref 125]) (dx9 := 5) (mc := 0) (ms := 0) (host := "") rfl t_X12_within ⟨Or.inl q_12_434, s_X12_within⟩ rfl (by decide) rfl rfl ⟨by decide, by decide⟩ (jC.of rfl k_X12_within rfl ?_)
            show jX m_X12_within 5 0 0 0 [(0, .int v5)] [] _ 0 0 _
            refine x_iloadn (x := v5) rfl rfl ?_
            refine x_ifge (tgt := 8) rfl rfl (ti_ge rfl jk_0 ⟨fun c37 => ?_, fun c37 => ?_⟩)
            ·
              refine x_iloadn (x := v5) rfl rfl ?_
              refine x_ldcw (v := 146399) rfl z_12_392 ?_
              refine x_icle (tgt := 21) rfl rfl (ti_le rfl jk_146399 (br_t (by omega) ?_))
              refine x_iloadn (x := v5) rfl rfl ?_
              refine x_iret rfl rfl ?_
              show jX m_X12_findSpan 6 0 0 116 [(0, .ref 125), (1, .int l1), (2, .int l2)] [.int v5, .ref 125] _ 0 0 _
              refine z_putI (N := 92) (w := v5.toInt) 12 33 rfl f_12_415 rfl (jfin_no TX12 RX12 92 rfl rfl) hD J Sm rfl rfl rfl (pw_125_33 (by omega)) rfl (fun h w38 J Sm => ?_)
              refine x_aloadn (x := 125) rfl rfl ?_
              refine x_aloadn (x := 125) rfl rfl ?_
              refine z_getM (N := 92) (v := v10) 12 34 rfl f_12_418 rfl J rfl (jmo w38 rfl (jmo w36 rfl (jmo w24 rfl qv10))) ?_
              refine x_inst (N := m_X12_within) (As := [.int v10]) (st := [.ref 125]) (dx9 := 5) (mc := 0) (ms := 0) (host := "") rfl t_X12_within ⟨Or.inl q_12_434, s_X12_within⟩ rfl (by decide) rfl rfl ⟨by decide, by decide⟩ (jC.of rfl k_X12_within rfl ?_)
              show jX m_X12_within 5 0 0 0 [(0, .int v10)] [] _ 0 0 _
              refine x_iloadn (x := v10) rfl rfl ?_
              refine x_ifge (tgt := 8) rfl rfl (ti_ge rfl jk_0 (br_t (by omega) ?_))
              refine x_iloadn (x := v10) rfl rfl ?_
              refine x_ldcw (v := 146399) rfl z_12_392 ?_
              refine x_icle (tgt := 21) rfl rfl (ti_le rfl jk_146399 (br_t (by omega) ?_))
              refine x_iloadn (x := v10) rfl rfl ?_
              refine x_iret rfl rfl ?_
              show jX m_X12_findSpan 6 0 0 127 [(0, .ref 125), (1, .int l1), (2, .int l2)] [.int v10, .ref 125] _ 0 0 _
              refine z_putI (N := 92) (w := v10.toInt) 12 34 rfl f_12_418 rfl (jfin_no TX12 RX12 92 rfl rfl) hD J Sm rfl rfl rfl (pw_125_34 (by omega)) rfl (fun h w39 J Sm => ?_)
              refine x_aloadn (x := 125) rfl rfl ?_
              refine x_aloadn (x := 125) rfl rfl ?_
              refine z_getM (N := 92) (v := v6) 12 35 rfl f_12_421 rfl J rfl (jmo w39 rfl (jmo w38 rfl (jmo w36 rfl (jmo w24 rfl (jmw w8))))) ?_
              refine x_inst (N := m_X12_within) (As := [.int v6]) (st := [.ref 125]) (dx9 := 5) (mc := 0) (ms := 0) (host := "") rfl t_X12_within ⟨Or.inl q_12_434, s_X12_within⟩ rfl (by decide) rfl rfl ⟨by decide, by decide⟩ (jC.of rfl k_X12_within rfl ?_)
              show jX m_X12_within 5 0 0 0 [(0, .int v6)] [] _ 0 0 _
              refine x_iloadn (x := v6) rfl rfl ?_
              refine x_ifge (tgt := 8) rfl rfl (ti_ge rfl jk_0 (br_t (by omega) ?_))
              refine x_iloadn (x := v6) rfl rfl ?_
              refine x_ldcw (v := 146399) rfl z_12_392 ?_
              refine x_icle (tgt := 21) rfl rfl (ti_le rfl jk_146399 (br_t (by omega) ?_))
              refine x_iloadn (x := v6) rfl rfl ?_
              refine x_iret rfl rfl ?_
              show jX m_X12_findSpan 6 0 0 138 [(0, .ref 125), (1, .int l1), (2, .int l2)] [.int v6, .ref 125] _ 0 0 _
              refine z_putI (N := 92) (w := v6.toInt) 12 35 rfl f_12_421 rfl (jfin_no TX12 RX12 92 rfl rfl) hD J Sm rfl rfl rfl (pw_125_35 (by omega)) rfl (fun h w40 J Sm => ?_)
              refine x_vret rfl rfl ?_
              exact hQ _ J Sm
            ·
              refine x_iconst (v := 0) rfl ki_0 ?_
              refine x_goto (tgt := 22) rfl rfl ?_
              refine x_iret rfl rfl ?_
              show jX m_X12_findSpan 6 0 0 116 [(0, .ref 125), (1, .int l1), (2, .int l2)] [.int 0, .ref 125] _ 0 0 _
              refine z_putI (N := 92) (w := 0) 12 33 rfl f_12_415 rfl (jfin_no TX12 RX12 92 rfl rfl) hD J Sm rfl rfl jk_0 (pw_125_33 (by omega)) rfl (fun h w41 J Sm => ?_)
              refine x_aloadn (x := 125) rfl rfl ?_
              refine x_aloadn (x := 125) rfl rfl ?_
              refine z_getM (N := 92) (v := v10) 12 34 rfl f_12_418 rfl J rfl (jmo w41 rfl (jmo w36 rfl (jmo w24 rfl qv10))) ?_
              refine x_inst (N := m_X12_within) (As := [.int v10]) (st := [.ref 125]) (dx9 := 5) (mc := 0) (ms := 0) (host := "") rfl t_X12_within ⟨Or.inl q_12_434, s_X12_within⟩ rfl (by decide) rfl rfl ⟨by decide, by decide⟩ (jC.of rfl k_X12_within rfl ?_)
              show jX m_X12_within 5 0 0 0 [(0, .int v10)] [] _ 0 0 _
              refine x_iloadn (x := v10) rfl rfl ?_
              refine x_ifge (tgt := 8) rfl rfl (ti_ge rfl jk_0 (br_t (by omega) ?_))
              refine x_iloadn (x := v10) rfl rfl ?_
              refine x_ldcw (v := 146399) rfl z_12_392 ?_
              refine x_icle (tgt := 21) rfl rfl (ti_le rfl jk_146399 (br_t (by omega) ?_))
              refine x_iloadn (x := v10) rfl rfl ?_
              refine x_iret rfl rfl ?_
              show jX m_X12_findSpan 6 0 0 127 [(0, .ref 125), (1, .int l1), (2, .int l2)] [.int v10, .ref 125] _ 0 0 _
              refine z_putI (N := 92) (w := v10.toInt) 12 34 rfl f_12_418 rfl (jfin_no TX12 RX12 92 rfl rfl) hD J Sm rfl rfl rfl (pw_125_34 (by omega)) rfl (fun h w42 J Sm => ?_)
              refine x_aloadn (x := 125) rfl rfl ?_
              refine x_aloadn (x := 125) rfl rfl ?_
              refine z_getM (N := 92) (v := v6) 12 35 rfl f_12_421 rfl J rfl (jmo w42 rfl (jmo w41 rfl (jmo w36 rfl (jmo w24 rfl (jmw w8))))) ?_
              refine x_inst (N := m_X12_within) (As := [.int v6]) (st := [.ref 125]) (dx9 := 5) (mc := 0) (ms := 0) (host := "") rfl t_X12_within ⟨Or.inl q_12_434, s_X12_within⟩ rfl (by decide) rfl rfl ⟨by decide, by decide⟩ (jC.of rfl k_X12_within rfl ?_)
              show jX m_X12_within 5 0 0 0 [(0, .int v6)] [] _ 0 0 _
              refine x_iloadn (x := v6) rfl rfl ?_
              refine x_ifge (tgt := 8) rfl rfl (ti_ge rfl jk_0 ⟨fun c43 => ?_, fun c43 => ?_⟩)
              ·
                refine x_iloadn (x := v6) rfl rfl ?_
                refine x_ldcw (v := 146399) rfl z_12_392 ?_
                refine x_icle (tgt := 21) rfl rfl (ti_le rfl jk_146399 (br_t (by omega) ?_))
                refine x_iloadn (x := v6) rfl rfl ?_
                refine x_iret rfl rfl ?_
                show jX m_X12_findSpan 6 0 0 138 [(0, .ref 125), (1, .int l1), (2, .int l2)] [.int v6, .ref 125] _ 0 0 _
                refine z_putI (N := 92) (w := v6.toInt) 12 35 rfl f_12_421 rfl (jfin_no TX12 RX12 92 rfl rfl) hD J Sm rfl rfl rfl (pw_125_35 (by omega)) rfl (fun h w44 J Sm => ?_)
                refine x_vret rfl rfl ?_
                exact hQ _ J Sm
              ·
                refine x_iconst (v := 0) rfl ki_0 ?_
                refine x_goto (tgt := 22) rfl rfl ?_
                refine x_iret rfl rfl ?_
                show jX m_X12_findSpan 6 0 0 138 [(0, .ref 125), (1, .int l1), (2, .int l2)] [.int 0, .ref 125] _ 0 0 _
                refine z_putI (N := 92) (w := 0) 12 35 rfl f_12_421 rfl (jfin_no TX12 RX12 92 rfl rfl) hD J Sm rfl rfl jk_0 (pw_125_35 (by omega)) rfl (fun h w45 J Sm => ?_)
                refine x_vret rfl rfl ?_
                exact hQ _ J Sm
      ·
        refine x_iloadn (x := v4) rfl rfl ?_
        refine x_goto (tgt := 10) rfl rfl ?_
        refine x_iret rfl rfl ?_
        show jX m_X12_findSpan 6 0 0 75 [(0, .ref 125), (1, .int l1), (2, .int l2)] [.int v4, .ref 125] _ 0 0 _
        refine z_putI (N := 92) (w := v4.toInt) 12 35 rfl f_12_421 rfl (jfin_no TX12 RX12 92 rfl rfl) hD J Sm rfl rfl rfl (pw_125_35 (by omega)) rfl (fun h w46 J Sm => ?_)
        refine x_aloadn (x := 125) rfl rfl ?_
        refine x_aloadn (x := 125) rfl rfl ?_
        refine z_getI (N := 92) 12 32 rfl f_12_412 rfl J rfl sg_125_32_33_1_0_1 (fun v47 qv47 ev47 => ?_)
        refine x_aloadn (x := 125) rfl rfl ?_
        refine z_getI (N := 92) 12 34 rfl f_12_418 rfl J rfl sg_125_34_35_1_0_1 (fun v48 qv48 ev48 => ?_)
        refine x_ldcw (v := 40260) rfl z_12_427 ?_
        refine z_isub rfl rfl jk_40260 (by omega) (fun v49 ev49 => ?_)
        refine x_inst (N := m_X12_more) (As := [.int v47, .int v49]) (st := [.ref 125]) (dx9 := 5) (mc := 0) (ms := 0) (host := "") rfl t_X12_more ⟨Or.inl q_12_431, s_X12_more⟩ rfl (by decide) rfl rfl ⟨by decide, by decide⟩ (jC.of rfl k_X12_more rfl ?_)
        show jX m_X12_more 5 0 0 0 [(0, .int v47), (1, .int v49)] [] _ 0 0 _
        refine x_iloadn (x := v47) rfl rfl ?_
        refine x_iloadn (x := v49) rfl rfl ?_
        refine x_icle (tgt := 9) rfl rfl (ti_le rfl rfl ⟨fun c50 => ?_, fun c50 => ?_⟩)
        ·
          refine x_iloadn (x := v49) rfl rfl ?_
          refine x_iret rfl rfl ?_
          show jX m_X12_findSpan 6 0 0 94 [(0, .ref 125), (1, .int l1), (2, .int l2)] [.int v49, .ref 125] _ 0 0 _
          refine z_putI (N := 92) (w := v49.toInt) 12 32 rfl f_12_412 rfl (jfin_no TX12 RX12 92 rfl rfl) hD J Sm rfl rfl rfl (pw_125_32 (by omega)) rfl (fun h w51 J Sm => ?_)
          refine x_aloadn (x := 125) rfl rfl ?_
          refine x_aloadn (x := 125) rfl rfl ?_
          refine z_getM (N := 92) (v := v49) 12 32 rfl f_12_412 rfl J rfl (jmw w51) ?_
          refine x_inst (N := m_X12_within) (As := [.int v49]) (st := [.ref 125]) (dx9 := 5) (mc := 0) (ms := 0) (host := "") rfl t_X12_within ⟨Or.inl q_12_434, s_X12_within⟩ rfl (by decide) rfl rfl ⟨by decide, by decide⟩ (jC.of rfl k_X12_within rfl ?_)
          show jX m_X12_within 5 0 0 0 [(0, .int v49)] [] _ 0 0 _
          refine x_iloadn (x := v49) rfl rfl ?_
          refine x_ifge (tgt := 8) rfl rfl (ti_ge rfl jk_0 (br_t (by omega) ?_))
          refine x_iloadn (x := v49) rfl rfl ?_
          refine x_ldcw (v := 146399) rfl z_12_392 ?_
          refine x_icle (tgt := 21) rfl rfl (ti_le rfl jk_146399 (br_t (by omega) ?_))
          refine x_iloadn (x := v49) rfl rfl ?_
          refine x_iret rfl rfl ?_
          show jX m_X12_findSpan 6 0 0 105 [(0, .ref 125), (1, .int l1), (2, .int l2)] [.int v49, .ref 125] _ 0 0 _
          refine z_putI (N := 92) (w := v49.toInt) 12 32 rfl f_12_412 rfl (jfin_no TX12 RX12 92 rfl rfl) hD J Sm rfl rfl rfl (pw_125_32 (by omega)) rfl (fun h w52 J Sm => ?_)
          refine x_aloadn (x := 125) rfl rfl ?_
          refine x_aloadn (x := 125) rfl rfl ?_
          refine z_getM (N := 92) (v := v5) 12 33 rfl f_12_415 rfl J rfl (jmo w52 rfl (jmo w51 rfl (jmo w46 rfl qv5))) ?_
          refine x_inst (N := m_X12_within) (As := [.int v5]) (st := [.ref 125]) (dx9 := 5) (mc := 0) (ms := 0) (host := "") rfl t_X12_within ⟨Or.inl q_12_434, s_X12_within⟩ rfl (by decide) rfl rfl ⟨by decide, by decide⟩ (jC.of rfl k_X12_within rfl ?_)
          show jX m_X12_within 5 0 0 0 [(0, .int v5)] [] _ 0 0 _
          refine x_iloadn (x := v5) rfl rfl ?_
          refine x_ifge (tgt := 8) rfl rfl (ti_ge rfl jk_0 ⟨fun c53 => ?_, fun c53 => ?_⟩)
          ·
            refine x_iloadn (x := v5) rfl rfl ?_
            refine x_ldcw (v := 146399) rfl z_12_392 ?_
            refine x_icle (tgt := 21) rfl rfl (ti_le rfl jk_146399 (br_t (by omega) ?_))
            refine x_iloadn (x := v5) rfl rfl ?_
            refine x_iret rfl rfl ?_
            show jX m_X12_findSpan 6 0 0 116 [(0, .ref 125), (1, .int l1), (2, .int l2)] [.int v5, .ref 125] _ 0 0 _
            refine z_putI (N := 92) (w := v5.toInt) 12 33 rfl f_12_415 rfl (jfin_no TX12 RX12 92 rfl rfl) hD J Sm rfl rfl rfl (pw_125_33 (by omega)) rfl (fun h w54 J Sm => ?_)
            refine x_aloadn (x := 125) rfl rfl ?_
            refine x_aloadn (x := 125) rfl rfl ?_
            refine z_getM (N := 92) (v := v48) 12 34 rfl f_12_418 rfl J rfl (jmo w54 rfl (jmo w52 rfl (jmo w51 rfl qv48))) ?_
            refine x_inst (N := m_X12_within) (As := [.int v48]) (st := [.ref 125]) (dx9 := 5) (mc := 0) (ms := 0) (host := "") rfl t_X12_within ⟨Or.inl q_12_434, s_X12_within⟩ rfl (by decide) rfl rfl ⟨by decide, by decide⟩ (jC.of rfl k_X12_within rfl ?_)
            show jX m_X12_within 5 0 0 0 [(0, .int v48)] [] _ 0 0 _
            refine x_iloadn (x := v48) rfl rfl ?_
            refine x_ifge (tgt := 8) rfl rfl (ti_ge rfl jk_0 (br_t (by omega) ?_))
            refine x_iloadn (x := v48) rfl rfl ?_
            refine x_ldcw (v := 146399) rfl z_12_392 ?_
            refine x_icle (tgt := 21) rfl rfl (ti_le rfl jk_146399 (br_t (by omega) ?_))
            refine x_iloadn (x := v48) rfl rfl ?_
            refine x_iret rfl rfl ?_
            show jX m_X12_findSpan 6 0 0 127 [(0, .ref 125), (1, .int l1), (2, .int l2)] [.int v48, .ref 125] _ 0 0 _
            refine z_putI (N := 92) (w := v48.toInt) 12 34 rfl f_12_418 rfl (jfin_no TX12 RX12 92 rfl rfl) hD J Sm rfl rfl rfl (pw_125_34 (by omega)) rfl (fun h w55 J Sm => ?_)
            refine x_aloadn (x := 125) rfl rfl ?_
            refine x_aloadn (x := 125) rfl rfl ?_
            refine z_getM (N := 92) (v := v4) 12 35 rfl f_12_421 rfl J rfl (jmo w55 rfl (jmo w54 rfl (jmo w52 rfl (jmo w51 rfl (jmw w46))))) ?_
            refine x_inst (N := m_X12_within) (As := [.int v4]) (st := [.ref 125]) (dx9 := 5) (mc := 0) (ms := 0) (host := "") rfl t_X12_within ⟨Or.inl q_12_434, s_X12_within⟩ rfl (by decide) rfl rfl ⟨by decide, by decide⟩ (jC.of rfl k_X12_within rfl ?_)
            show jX m_X12_within 5 0 0 0 [(0, .int v4)] [] _ 0 0 _
            refine x_iloadn (x := v4) rfl rfl ?_
            refine x_ifge (tgt := 8) rfl rfl (ti_ge rfl jk_0 ⟨fun c56 => ?_, fun c56 => ?_⟩)
            ·
              refine x_iloadn (x := v4) rfl rfl ?_
              refine x_ldcw (v := 146399) rfl z_12_392 ?_
              refine x_icle (tgt := 21) rfl rfl (ti_le rfl jk_146399 (br_t (by omega) ?_))
              refine x_iloadn (x := v4) rfl rfl ?_
              refine x_iret rfl rfl ?_
              show jX m_X12_findSpan 6 0 0 138 [(0, .ref 125), (1, .int l1), (2, .int l2)] [.int v4, .ref 125] _ 0 0 _
              refine z_putI (N := 92) (w := v4.toInt) 12 35 rfl f_12_421 rfl (jfin_no TX12 RX12 92 rfl rfl) hD J Sm rfl rfl rfl (pw_125_35 (by omega)) rfl (fun h w57 J Sm => ?_)
              refine x_vret rfl rfl ?_
              exact hQ _ J Sm
            ·
              refine x_iconst (v := 0) rfl ki_0 ?_
              refine x_goto (tgt := 22) rfl rfl ?_
              refine x_iret rfl rfl ?_
              show jX m_X12_findSpan 6 0 0 138 [(0, .ref 125), (1, .int l1), (2, .int l2)] [.int 0, .ref 125] _ 0 0 _
              refine z_putI (N := 92) (w := 0) 12 35 rfl f_12_421 rfl (jfin_no TX12 RX12 92 rfl rfl) hD J Sm rfl rfl jk_0 (pw_125_35 (by omega)) rfl (fun h w58 J Sm => ?_)
              refine x_vret rfl rfl ?_
              exact hQ _ J Sm
          ·
            refine x_iconst (v := 0) rfl ki_0 ?_
            refine x_goto (tgt := 22) rfl rfl ?_
            refine x_iret rfl rfl ?_
            show jX m_X12_findSpan 6 0 0 116 [(0, .ref 125), (1, .int l1), (2, .int l2)] [.int 0, .ref 125] _ 0 0 _
            refine z_putI (N := 92) (w := 0) 12 33 rfl f_12_415 rfl (jfin_no TX12 RX12 92 rfl rfl) hD J Sm rfl rfl jk_0 (pw_125_33 (by omega)) rfl (fun h w59 J Sm => ?_)
            refine x_aloadn (x := 125) rfl rfl ?_
            refine x_aloadn (x := 125) rfl rfl ?_
            refine z_getM (N := 92) (v := v48) 12 34 rfl f_12_418 rfl J rfl (jmo w59 rfl (jmo w52 rfl (jmo w51 rfl qv48))) ?_
            refine x_inst (N := m_X12_within) (As := [.int v48]) (st := [.ref 125]) (dx9 := 5) (mc := 0) (ms := 0) (host := "") rfl t_X12_within ⟨Or.inl q_12_434, s_X12_within⟩ rfl (by decide) rfl rfl ⟨by decide, by decide⟩ (jC.of rfl k_X12_within rfl ?_)
            show jX m_X12_within 5 0 0 0 [(0, .int v48)] [] _ 0 0 _
            refine x_iloadn (x := v48) rfl rfl ?_
            refine x_ifge (tgt := 8) rfl rfl (ti_ge rfl jk_0 (br_t (by omega) ?_))
            refine x_iloadn (x := v48) rfl rfl ?_
            refine x_ldcw (v := 146399) rfl z_12_392 ?_
            refine x_icle (tgt := 21) rfl rfl (ti_le rfl jk_146399 (br_t (by omega) ?_))
            refine x_iloadn (x := v48) rfl rfl ?_
            refine x_iret rfl rfl ?_
            show jX m_X12_findSpan 6 0 0 127 [(0, .ref 125), (1, .int l1), (2, .int l2)] [.int v48, .ref 125] _ 0 0 _
            refine z_putI (N := 92) (w := v48.toInt) 12 34 rfl f_12_418 rfl (jfin_no TX12 RX12 92 rfl rfl) hD J Sm rfl rfl rfl (pw_125_34 (by omega)) rfl (fun h w60 J Sm => ?_)
            refine x_aloadn (x := 125) rfl rfl ?_
            refine x_aloadn (x := 125) rfl rfl ?_
            refine z_getM (N := 92) (v := v4) 12 35 rfl f_12_421 rfl J rfl (jmo w60 rfl (jmo w59 rfl (jmo w52 rfl (jmo w51 rfl (jmw w46))))) ?_
            refine x_inst (N := m_X12_within) (As := [.int v4]) (st := [.ref 125]) (dx9 := 5) (mc := 0) (ms := 0) (host := "") rfl t_X12_within ⟨Or.inl q_12_434, s_X12_within⟩ rfl (by decide) rfl rfl ⟨by decide, by decide⟩ (jC.of rfl k_X12_within rfl ?_)
            show jX m_X12_within 5 0 0 0 [(0, .int v4)] [] _ 0 0 _
            refine x_iloadn (x := v4) rfl rfl ?_
            refine x_ifge (tgt := 8) rfl rfl (ti_ge rfl jk_0 ⟨fun c61 => ?_, fun c61 => ?_⟩)
            ·
              refine x_iloadn (x := v4) rfl rfl ?_
              refine x_ldcw (v := 146399) rfl z_12_392 ?_
              refine x_icle (tgt := 21) rfl rfl (ti_le rfl jk_146399 (br_t (by omega) ?_))
              refine x_iloadn (x := v4) rfl rfl ?_
              refine x_iret rfl rfl ?_
              show jX m_X12_findSpan 6 0 0 138 [(0, .ref 125), (1, .int l1), (2, .int l2)] [.int v4, .ref 125] _ 0 0 _
              refine z_putI (N := 92) (w := v4.toInt) 12 35 rfl f_12_421 rfl (jfin_no TX12 RX12 92 rfl rfl) hD J Sm rfl rfl rfl (pw_125_35 (by omega)) rfl (fun h w62 J Sm => ?_)
              refine x_vret rfl rfl ?_
              exact hQ _ J Sm
            ·
              refine x_iconst (v := 0) rfl ki_0 ?_
              refine x_goto (tgt := 22) rfl rfl ?_
              refine x_iret rfl rfl ?_
              show jX m_X12_findSpan 6 0 0 138 [(0, .ref 125), (1, .int l1), (2, .int l2)] [.int 0, .ref 125] _ 0 0 _
              refine z_putI (N := 92) (w := 0) 12 35 rfl f_12_421 rfl (jfin_no TX12 RX12 92 rfl rfl) hD J Sm rfl rfl jk_0 (pw_125_35 (by omega)) rfl (fun h w63 J Sm => ?_)
              refine x_vret rfl rfl ?_
              exact hQ _ J Sm
        ·
          refine x_iloadn (x := v47) rfl rfl ?_
          refine x_goto (tgt := 10) rfl rfl ?_
          refine x_iret rfl rfl ?_
          show jX m_X12_findSpan 6 0 0 94 [(0, .ref 125), (1, .int l1), (2, .int l2)] [.int v47, .ref 125] _ 0 0 _
          refine z_putI (N := 92) (w := v47.toInt) 12 32 rfl f_12_412 rfl (jfin_no TX12 RX12 92 rfl rfl) hD J Sm rfl rfl rfl (pw_125_32 (by omega)) rfl (fun h w64 J Sm => ?_)
          refine x_aloadn (x := 125) rfl rfl ?_
          refine x_aloadn (x := 125) rfl rfl ?_
          refine z_getM (N := 92) (v := v47) 12 32 rfl f_12_412 rfl J rfl (jmw w64) ?_
          refine x_inst (N := m_X12_within) (As := [.int v47]) (st := [.ref 125]) (dx9 := 5) (mc := 0) (ms := 0) (host := "") rfl t_X12_within ⟨Or.inl q_12_434, s_X12_within⟩ rfl (by decide) rfl rfl ⟨by decide, by decide⟩ (jC.of rfl k_X12_within rfl ?_)
          show jX m_X12_within 5 0 0 0 [(0, .int v47)] [] _ 0 0 _
          refine x_iloadn (x := v47) rfl rfl ?_
          refine x_ifge (tgt := 8) rfl rfl (ti_ge rfl jk_0 (br_t (by omega) ?_))
          refine x_iloadn (x := v47) rfl rfl ?_
          refine x_ldcw (v := 146399) rfl z_12_392 ?_
          refine x_icle (tgt := 21) rfl rfl (ti_le rfl jk_146399 ⟨fun c65 => ?_, fun c65 => ?_⟩)
          ·
            refine x_iloadn (x := v47) rfl rfl ?_
            refine x_iret rfl rfl ?_
            show jX m_X12_findSpan 6 0 0 105 [(0, .ref 125), (1, .int l1), (2, .int l2)] [.int v47, .ref 125] _ 0 0 _
            refine z_putI (N := 92) (w := v47.toInt) 12 32 rfl f_12_412 rfl (jfin_no TX12 RX12 92 rfl rfl) hD J Sm rfl rfl rfl (pw_125_32 (by omega)) rfl (fun h w66 J Sm => ?_)
            refine x_aloadn (x := 125) rfl rfl ?_
            refine x_aloadn (x := 125) rfl rfl ?_
            refine z_getM (N := 92) (v := v5) 12 33 rfl f_12_415 rfl J rfl (jmo w66 rfl (jmo w64 rfl (jmo w46 rfl qv5))) ?_
            refine x_inst (N := m_X12_within) (As := [.int v5]) (st := [.ref 125]) (dx9 := 5) (mc := 0) (ms := 0) (host := "") rfl t_X12_within ⟨Or.inl q_12_434, s_X12_within⟩ rfl (by decide) rfl rfl ⟨by decide, by decide⟩ (jC.of rfl k_X12_within rfl ?_)
            show jX m_X12_within 5 0 0 0 [(0, .int v5)] [] _ 0 0 _
            refine x_iloadn (x := v5) rfl rfl ?_
            refine x_ifge (tgt := 8) rfl rfl (ti_ge rfl jk_0 ⟨fun c67 => ?_, fun c67 => ?_⟩)
            ·
              refine x_iloadn (x := v5) rfl rfl ?_
              refine x_ldcw (v := 146399) rfl z_12_392 ?_
              refine x_icle (tgt := 21) rfl rfl (ti_le rfl jk_146399 (br_t (by omega) ?_))
              refine x_iloadn (x := v5) rfl rfl ?_
              refine x_iret rfl rfl ?_
              show jX m_X12_findSpan 6 0 0 116 [(0, .ref 125), (1, .int l1), (2, .int l2)] [.int v5, .ref 125] _ 0 0 _
              refine z_putI (N := 92) (w := v5.toInt) 12 33 rfl f_12_415 rfl (jfin_no TX12 RX12 92 rfl rfl) hD J Sm rfl rfl rfl (pw_125_33 (by omega)) rfl (fun h w68 J Sm => ?_)
              refine x_aloadn (x := 125) rfl rfl ?_
              refine x_aloadn (x := 125) rfl rfl ?_
              refine z_getM (N := 92) (v := v48) 12 34 rfl f_12_418 rfl J rfl (jmo w68 rfl (jmo w66 rfl (jmo w64 rfl qv48))) ?_
              refine x_inst (N := m_X12_within) (As := [.int v48]) (st := [.ref 125]) (dx9 := 5) (mc := 0) (ms := 0) (host := "") rfl t_X12_within ⟨Or.inl q_12_434, s_X12_within⟩ rfl (by decide) rfl rfl ⟨by decide, by decide⟩ (jC.of rfl k_X12_within rfl ?_)
              show jX m_X12_within 5 0 0 0 [(0, .int v48)] [] _ 0 0 _
              refine x_iloadn (x := v48) rfl rfl ?_
              refine x_ifge (tgt := 8) rfl rfl (ti_ge rfl jk_0 (br_t (by omega) ?_))
              refine x_iloadn (x := v48) rfl rfl ?_
              refine x_ldcw (v := 146399) rfl z_12_392 ?_
              refine x_icle (tgt := 21) rfl rfl (ti_le rfl jk_146399 (br_t (by omega) ?_))
              refine x_iloadn (x := v48) rfl rfl ?_
              refine x_iret rfl rfl ?_
              show jX m_X12_findSpan 6 0 0 127 [(0, .ref 125), (1, .int l1), (2, .int l2)] [.int v48, .ref 125] _ 0 0 _
              refine z_putI (N := 92) (w := v48.toInt) 12 34 rfl f_12_418 rfl (jfin_no TX12 RX12 92 rfl rfl) hD J Sm rfl rfl rfl (pw_125_34 (by omega)) rfl (fun h w69 J Sm => ?_)
              refine x_aloadn (x := 125) rfl rfl ?_
              refine x_aloadn (x := 125) rfl rfl ?_
              refine z_getM (N := 92) (v := v4) 12 35 rfl f_12_421 rfl J rfl (jmo w69 rfl (jmo w68 rfl (jmo w66 rfl (jmo w64 rfl (jmw w46))))) ?_
              refine x_inst (N := m_X12_within) (As := [.int v4]) (st := [.ref 125]) (dx9 := 5) (mc := 0) (ms := 0) (host := "") rfl t_X12_within ⟨Or.inl q_12_434, s_X12_within⟩ rfl (by decide) rfl rfl ⟨by decide, by decide⟩ (jC.of rfl k_X12_within rfl ?_)
              show jX m_X12_within 5 0 0 0 [(0, .int v4)] [] _ 0 0 _
              refine x_iloadn (x := v4) rfl rfl ?_
              refine x_ifge (tgt := 8) rfl rfl (ti_ge rfl jk_0 ⟨fun c70 => ?_, fun c70 => ?_⟩)
              ·
                refine x_iloadn (x := v4) rfl rfl ?_
                refine x_ldcw (v := 146399) rfl z_12_392 ?_
                refine x_icle (tgt := 21) rfl rfl (ti_le rfl jk_146399 (br_t (by omega) ?_))
                refine x_iloadn (x := v4) rfl rfl ?_
                refine x_iret rfl rfl ?_
                show jX m_X12_findSpan 6 0 0 138 [(0, .ref 125), (1, .int l1), (2, .int l2)] [.int v4, .ref 125] _ 0 0 _
                refine z_putI (N := 92) (w := v4.toInt) 12 35 rfl f_12_421 rfl (jfin_no TX12 RX12 92 rfl rfl) hD J Sm rfl rfl rfl (pw_125_35 (by omega)) rfl (fun h w71 J Sm => ?_)
                refine x_vret rfl rfl ?_
                exact hQ _ J Sm
              ·
                refine x_iconst (v := 0) rfl ki_0 ?_
                refine x_goto (tgt := 22) rfl rfl ?_
                refine x_iret rfl rfl ?_
                show jX m_X12_findSpan 6 0 0 138 [(0, .ref 125), (1, .int l1), (2, .int l2)] [.int 0, .ref 125] _ 0 0 _
                refine z_putI (N := 92) (w := 0) 12 35 rfl f_12_421 rfl (jfin_no TX12 RX12 92 rfl rfl) hD J Sm rfl rfl jk_0 (pw_125_35 (by omega)) rfl (fun h w72 J Sm => ?_)
                refine x_vret rfl rfl ?_
                exact hQ _ J Sm
            ·
              refine x_iconst (v := 0) rfl ki_0 ?_
              refine x_goto (tgt := 22) rfl rfl ?_
              refine x_iret rfl rfl ?_
              show jX m_X12_findSpan 6 0 0 116 [(0, .ref 125), (1, .int l1), (2, .int l2)] [.int 0, .ref 125] _ 0 0 _
              refine z_putI (N := 92) (w := 0) 12 33 rfl f_12_415 rfl (jfin_no TX12 RX12 92 rfl rfl) hD J Sm rfl rfl jk_0 (pw_125_33 (by omega)) rfl (fun h w73 J Sm => ?_)
              refine x_aloadn (x := 125) rfl rfl ?_
              refine x_aloadn (x := 125) rfl rfl ?_
              refine z_getM (N := 92) (v := v48) 12 34 rfl f_12_418 rfl J rfl (jmo w73 rfl (jmo w66 rfl (jmo w64 rfl qv48))) ?_
              refine x_inst (N := m_X12_within) (As := [.int v48]) (st := [.ref 125]) (dx9 := 5) (mc := 0) (ms := 0) (host := "") rfl t_X12_within ⟨Or.inl q_12_434, s_X12_within⟩ rfl (by decide) rfl rfl ⟨by decide, by decide⟩ (jC.of rfl k_X12_within rfl ?_)
              show jX m_X12_within 5 0 0 0 [(0, .int v48)] [] _ 0 0 _
              refine x_iloadn (x := v48) rfl rfl ?_
              refine x_ifge (tgt := 8) rfl rfl (ti_ge rfl jk_0 (br_t (by omega) ?_))
              refine x_iloadn (x := v48) rfl rfl ?_
              refine x_ldcw (v := 146399) rfl z_12_392 ?_
              refine x_icle (tgt := 21) rfl rfl (ti_le rfl jk_146399 (br_t (by omega) ?_))
              refine x_iloadn (x := v48) rfl rfl ?_
              refine x_iret rfl rfl ?_
              show jX m_X12_findSpan 6 0 0 127 [(0, .ref 125), (1, .int l1), (2, .int l2)] [.int v48, .ref 125] _ 0 0 _
              refine z_putI (N := 92) (w := v48.toInt) 12 34 rfl f_12_418 rfl (jfin_no TX12 RX12 92 rfl rfl) hD J Sm rfl rfl rfl (pw_125_34 (by omega)) rfl (fun h w74 J Sm => ?_)
              refine x_aloadn (x := 125) rfl rfl ?_
              refine x_aloadn (x := 125) rfl rfl ?_
              refine z_getM (N := 92) (v := v4) 12 35 rfl f_12_421 rfl J rfl (jmo w74 rfl (jmo w73 rfl (jmo w66 rfl (jmo w64 rfl (jmw w46))))) ?_
              refine x_inst (N := m_X12_within) (As := [.int v4]) (st := [.ref 125]) (dx9 := 5) (mc := 0) (ms := 0) (host := "") rfl t_X12_within ⟨Or.inl q_12_434, s_X12_within⟩ rfl (by decide) rfl rfl ⟨by decide, by decide⟩ (jC.of rfl k_X12_within rfl ?_)
              show jX m_X12_within 5 0 0 0 [(0, .int v4)] [] _ 0 0 _
              refine x_iloadn (x := v4) rfl rfl ?_
              refine x_ifge (tgt := 8) rfl rfl (ti_ge rfl jk_0 ⟨fun c75 => ?_, fun c75 => ?_⟩)
              ·
                refine x_iloadn (x := v4) rfl rfl ?_
                refine x_ldcw (v := 146399) rfl z_12_392 ?_
                refine x_icle (tgt := 21) rfl rfl (ti_le rfl jk_146399 (br_t (by omega) ?_))
                refine x_iloadn (x := v4) rfl rfl ?_
                refine x_iret rfl rfl ?_
                show jX m_X12_findSpan 6 0 0 138 [(0, .ref 125), (1, .int l1), (2, .int l2)] [.int v4, .ref 125] _ 0 0 _
                refine z_putI (N := 92) (w := v4.toInt) 12 35 rfl f_12_421 rfl (jfin_no TX12 RX12 92 rfl rfl) hD J Sm rfl rfl rfl (pw_125_35 (by omega)) rfl (fun h w76 J Sm => ?_)
                refine x_vret rfl rfl ?_
                exact hQ _ J Sm
              ·
                refine x_iconst (v := 0) rfl ki_0 ?_
                refine x_goto (tgt := 22) rfl rfl ?_
                refine x_iret rfl rfl ?_
                show jX m_X12_findSpan 6 0 0 138 [(0, .ref 125), (1, .int l1), (2, .int l2)] [.int 0, .ref 125] _ 0 0 _
                refine z_putI (N := 92) (w := 0) 12 35 rfl f_12_421 rfl (jfin_no TX12 RX12 92 rfl rfl) hD J Sm rfl rfl jk_0 (pw_125_35 (by omega)) rfl (fun h w77 J Sm => ?_)
                refine x_vret rfl rfl ?_
                exact hQ _ J Sm
          ·
            refine x_ldcw (v := 146399) rfl z_12_392 ?_
            refine x_goto (tgt := 22) rfl rfl ?_
            refine x_iret rfl rfl ?_
            show jX m_X12_findSpan 6 0 0 105 [(0, .ref 125), (1, .int l1), (2, .int l2)] [.int 146399, .ref 125] _ 0 0 _
            refine z_putI (N := 92) (w := 146399) 12 32 rfl f_12_412 rfl (jfin_no TX12 RX12 92 rfl rfl) hD J Sm rfl rfl jk_146399 (pw_125_32 (by omega)) rfl (fun h w78 J Sm => ?_)
            refine x_aloadn (x := 125) rfl rfl ?_
            refine x_aloadn (x := 125) rfl rfl ?_
            refine z_getM (N := 92) (v := v5) 12 33 rfl f_12_415 rfl J rfl (jmo w78 rfl (jmo w64 rfl (jmo w46 rfl qv5))) ?_
            refine x_inst (N := m_X12_within) (As := [.int v5]) (st := [.ref 125]) (dx9 := 5) (mc := 0) (ms := 0) (host := "") rfl t_X12_within ⟨Or.inl q_12_434, s_X12_within⟩ rfl (by decide) rfl rfl ⟨by decide, by decide⟩ (jC.of rfl k_X12_within rfl ?_)
            show jX m_X12_within 5 0 0 0 [(0, .int v5)] [] _ 0 0 _
            refine x_iloadn (x := v5) rfl rfl ?_
            refine x_ifge (tgt := 8) rfl rfl (ti_ge rfl jk_0 ⟨fun c79 => ?_, fun c79 => ?_⟩)
            ·
              refine x_iloadn (x := v5) rfl rfl ?_
              refine x_ldcw (v := 146399) rfl z_12_392 ?_
              refine x_icle (tgt := 21) rfl rfl (ti_le rfl jk_146399 (br_t (by omega) ?_))
              refine x_iloadn (x := v5) rfl rfl ?_
              refine x_iret rfl rfl ?_
              show jX m_X12_findSpan 6 0 0 116 [(0, .ref 125), (1, .int l1), (2, .int l2)] [.int v5, .ref 125] _ 0 0 _
              refine z_putI (N := 92) (w := v5.toInt) 12 33 rfl f_12_415 rfl (jfin_no TX12 RX12 92 rfl rfl) hD J Sm rfl rfl rfl (pw_125_33 (by omega)) rfl (fun h w80 J Sm => ?_)
              refine x_aloadn (x := 125) rfl rfl ?_
              refine x_aloadn (x := 125) rfl rfl ?_
              refine z_getM (N := 92) (v := v48) 12 34 rfl f_12_418 rfl J rfl (jmo w80 rfl (jmo w78 rfl (jmo w64 rfl qv48))) ?_
              refine x_inst (N := m_X12_within) (As := [.int v48]) (st := [.ref 125]) (dx9 := 5) (mc := 0) (ms := 0) (host := "") rfl t_X12_within ⟨Or.inl q_12_434, s_X12_within⟩ rfl (by decide) rfl rfl ⟨by decide, by decide⟩ (jC.of rfl k_X12_within rfl ?_)
              show jX m_X12_within 5 0 0 0 [(0, .int v48)] [] _ 0 0 _
              refine x_iloadn (x := v48) rfl rfl ?_
              refine x_ifge (tgt := 8) rfl rfl (ti_ge rfl jk_0 (br_t (by omega) ?_))
              refine x_iloadn (x := v48) rfl rfl ?_
              refine x_ldcw (v := 146399) rfl z_12_392 ?_
              refine x_icle (tgt := 21) rfl rfl (ti_le rfl jk_146399 (br_t (by omega) ?_))
              refine x_iloadn (x := v48) rfl rfl ?_
              refine x_iret rfl rfl ?_
              show jX m_X12_findSpan 6 0 0 127 [(0, .ref 125), (1, .int l1), (2, .int l2)] [.int v48, .ref 125] _ 0 0 _
              refine z_putI (N := 92) (w := v48.toInt) 12 34 rfl f_12_418 rfl (jfin_no TX12 RX12 92 rfl rfl) hD J Sm rfl rfl rfl (pw_125_34 (by omega)) rfl (fun h w81 J Sm => ?_)
              refine x_aloadn (x := 125) rfl rfl ?_
              refine x_aloadn (x := 125) rfl rfl ?_
              refine z_getM (N := 92) (v := v4) 12 35 rfl f_12_421 rfl J rfl (jmo w81 rfl (jmo w80 rfl (jmo w78 rfl (jmo w64 rfl (jmw w46))))) ?_
              refine x_inst (N := m_X12_within) (As := [.int v4]) (st := [.ref 125]) (dx9 := 5) (mc := 0) (ms := 0) (host := "") rfl t_X12_within ⟨Or.inl q_12_434, s_X12_within⟩ rfl (by decide) rfl rfl ⟨by decide, by decide⟩ (jC.of rfl k_X12_within rfl ?_)
              show jX m_X12_within 5 0 0 0 [(0, .int v4)] [] _ 0 0 _
              refine x_iloadn (x := v4) rfl rfl ?_
              refine x_ifge (tgt := 8) rfl rfl (ti_ge rfl jk_0 ⟨fun c82 => ?_, fun c82 => ?_⟩)
              ·
                refine x_iloadn (x := v4) rfl rfl ?_
                refine x_ldcw (v := 146399) rfl z_12_392 ?_
                refine x_icle (tgt := 21) rfl rfl (ti_le rfl jk_146399 (br_t (by omega) ?_))
                refine x_iloadn (x := v4) rfl rfl ?_
                refine x_iret rfl rfl ?_
                show jX m_X12_findSpan 6 0 0 138 [(0, .ref 125), (1, .int l1), (2, .int l2)] [.int v4, .ref 125] _ 0 0 _
                refine z_putI (N := 92) (w := v4.toInt) 12 35 rfl f_12_421 rfl (jfin_no TX12 RX12 92 rfl rfl) hD J Sm rfl rfl rfl (pw_125_35 (by omega)) rfl (fun h w83 J Sm => ?_)
                refine x_vret rfl rfl ?_
                exact hQ _ J Sm
              ·
                refine x_iconst (v := 0) rfl ki_0 ?_
                refine x_goto (tgt := 22) rfl rfl ?_
                refine x_iret rfl rfl ?_
                show jX m_X12_findSpan 6 0 0 138 [(0, .ref 125), (1, .int l1), (2, .int l2)] [.int 0, .ref 125] _ 0 0 _
                refine z_putI (N := 92) (w := 0) 12 35 rfl f_12_421 rfl (jfin_no TX12 RX12 92 rfl rfl) hD J Sm rfl rfl jk_0 (pw_125_35 (by omega)) rfl (fun h w84 J Sm => ?_)
                refine x_vret rfl rfl ?_
                exact hQ _ J Sm
            ·
              refine x_iconst (v := 0) rfl ki_0 ?_
              refine x_goto (tgt := 22) rfl rfl ?_
              refine x_iret rfl rfl ?_
              show jX m_X12_findSpan 6 0 0 116 [(0, .ref 125), (1, .int l1), (2, .int l2)] [.int 0, .ref 125] _ 0 0 _
              refine z_putI (N := 92) (w := 0) 12 33 rfl f_12_415 rfl (jfin_no TX12 RX12 92 rfl rfl) hD J Sm rfl rfl jk_0 (pw_125_33 (by omega)) rfl (fun h w85 J Sm => ?_)
              refine x_aloadn (x := 125) rfl rfl ?_
              refine x_aloadn (x := 125) rfl rfl ?_
              refine z_getM (N := 92) (v := v48) 12 34 rfl f_12_418 rfl J rfl (jmo w85 rfl (jmo w78 rfl (jmo w64 rfl qv48))) ?_
              refine x_inst (N := m_X12_within) (As := [.int v48]) (st := [.ref 125]) (dx9 := 5) (mc := 0) (ms := 0) (host := "") rfl t_X12_within ⟨Or.inl q_12_434, s_X12_within⟩ rfl (by decide) rfl rfl ⟨by decide, by decide⟩ (jC.of rfl k_X12_within rfl ?_)
              show jX m_X12_within 5 0 0 0 [(0, .int v48)] [] _ 0 0 _
              refine x_iloadn (x := v48) rfl rfl ?_
              refine x_ifge (tgt := 8) rfl rfl (ti_ge rfl jk_0 (br_t (by omega) ?_))
              refine x_iloadn (x := v48) rfl rfl ?_
              refine x_ldcw (v := 146399) rfl z_12_392 ?_
              refine x_icle (tgt := 21) rfl rfl (ti_le rfl jk_146399 (br_t (by omega) ?_))
              refine x_iloadn (x := v48) rfl rfl ?_
              refine x_iret rfl rfl ?_
              show jX m_X12_findSpan 6 0 0 127 [(0, .ref 125), (1, .int l1), (2, .int l2)] [.int v48, .ref 125] _ 0 0 _
              refine z_putI (N := 92) (w := v48.toInt) 12 34 rfl f_12_418 rfl (jfin_no TX12 RX12 92 rfl rfl) hD J Sm rfl rfl rfl (pw_125_34 (by omega)) rfl (fun h w86 J Sm => ?_)
              refine x_aloadn (x := 125) rfl rfl ?_
              refine x_aloadn (x := 125) rfl rfl ?_
              refine z_getM (N := 92) (v := v4) 12 35 rfl f_12_421 rfl J rfl (jmo w86 rfl (jmo w85 rfl (jmo w78 rfl (jmo w64 rfl (jmw w46))))) ?_
              refine x_inst (N := m_X12_within) (As := [.int v4]) (st := [.ref 125]) (dx9 := 5) (mc := 0) (ms := 0) (host := "") rfl t_X12_within ⟨Or.inl q_12_434, s_X12_within⟩ rfl (by decide) rfl rfl ⟨by decide, by decide⟩ (jC.of rfl k_X12_within rfl ?_)
              show jX m_X12_within 5 0 0 0 [(0, .int v4)] [] _ 0 0 _
              refine x_iloadn (x := v4) rfl rfl ?_
              refine x_ifge (tgt := 8) rfl rfl (ti_ge rfl jk_0 ⟨fun c87 => ?_, fun c87 => ?_⟩)
              ·
                refine x_iloadn (x := v4) rfl rfl ?_
                refine x_ldcw (v := 146399) rfl z_12_392 ?_
                refine x_icle (tgt := 21) rfl rfl (ti_le rfl jk_146399 (br_t (by omega) ?_))
                refine x_iloadn (x := v4) rfl rfl ?_
                refine x_iret rfl rfl ?_
                show jX m_X12_findSpan 6 0 0 138 [(0, .ref 125), (1, .int l1), (2, .int l2)] [.int v4, .ref 125] _ 0 0 _
                refine z_putI (N := 92) (w := v4.toInt) 12 35 rfl f_12_421 rfl (jfin_no TX12 RX12 92 rfl rfl) hD J Sm rfl rfl rfl (pw_125_35 (by omega)) rfl (fun h w88 J Sm => ?_)
                refine x_vret rfl rfl ?_
                exact hQ _ J Sm
              ·
                refine x_iconst (v := 0) rfl ki_0 ?_
                refine x_goto (tgt := 22) rfl rfl ?_
                refine x_iret rfl rfl ?_
                show jX m_X12_findSpan 6 0 0 138 [(0, .ref 125), (1, .int l1), (2, .int l2)] [.int 0, .ref 125] _ 0 0 _
                refine z_putI (N := 92) (w := 0) 12 35 rfl f_12_421 rfl (jfin_no TX12 RX12 92 rfl rfl) hD J Sm rfl rfl jk_0 (pw_125_35 (by omega)) rfl (fun h w89 J Sm => ?_)
                refine x_vret rfl rfl ?_
                exact hQ _ J Sm
    ·
      refine x_aloadn (x := 125) rfl rfl ?_
      refine z_getR (N := 92) (b := 139) 12 29 rfl f_12_72 rfl J rfl 16029 ⟨rfl, rfl⟩ rfl ?_
      refine x_iloadn (x := l2) rfl rfl ?_
      refine z_iald (N := 600) rfl J rfl sg_139_0_600_1_0_1 rfl (by omega) (fun v90 qv90 ev90 => ?_)
      refine x_iloadn (x := l1) rfl rfl ?_
      refine x_icne (tgt := 53) rfl rfl (ti_ne rfl rfl ⟨fun c91 => ?_, fun c91 => ?_⟩)
      ·
        exact jX.sub (jsb_c rfl (jsb_c rfl (jsb_c rfl jsb_n))) (ct_X12_findSpan_r125_53 hD hQ ih l1 l2 h (jr_of rfl (by omega)) (jr_of rfl (by omega)) (by omega) J Sm)
      ·
        refine x_aloadn (x := 125) rfl rfl ?_
        refine x_iloadn (x := l2) rfl rfl ?_
        refine x_inv (N := m_X12_addSpan) (As := [.int l2]) (b := 125) (st := []) (dx9 := 5) (mc := 0) (ms := 0) (host := "") 12 rfl t_X12_addSpan ⟨Or.inl q_12_424, i_X12_addSpan.1, i_X12_addSpan.2⟩ ⟨by decide, rfl⟩ (congrArg Prod.fst (J.1.1 125 (12, 92) rfl)) rfl (by decide) rfl rfl ⟨by decide, by decide⟩ (sf_X12_addSpan_r125 (jr_of rfl (by omega)) hD J  (fun h J S92 => ?_))
        have Sm := jSm_tr rfl Sm S92
        show jX m_X12_findSpan 6 0 0 53 [(0, .ref 125), (1, .int l1), (2, .int l2)] [] _ 0 0 _
        exact jX.sub (jsb_c rfl (jsb_c rfl (jsb_c rfl jsb_n))) (ct_X12_findSpan_r125_53 hD hQ ih l1 l2 h (jr_of rfl (by omega)) (jr_of rfl (by omega)) (by omega) J Sm)
set_option maxRecDepth 100000 in
set_option maxHeartbeats 4000000 in
theorem sf_X12_findSpan_r125 {Dy : jH → Prop} {h : jH} {Q : Option Value → jH → Prop} {a1 : Int32} (y1 : (-1) ≤ a1.toInt ∧ a1.toInt ≤ 599) (hD : jDk Dy) (J : jJ jSgM Dy h) (hQ : ∀ hx9, jJ jSgM Dy hx9 → jSm fp_X12_findSpan_r125 h hx9 → Q none hx9) : jC m_X12_findSpan 6 0 0 [.ref 125, .int a1] h Q := by
  refine jC.of rfl k_X12_findSpan rfl ?_
  have Sm := jSm_rf fp_X12_findSpan_r125 h
  show jX m_X12_findSpan 6 0 0 0 [(0, .ref 125), (1, .int a1)] [] _ 0 0 _
  refine x_aloadn (x := 125) rfl rfl ?_
  refine x_iconst (v := 0) rfl ki_0 ?_
  refine z_putI (N := 92) (w := 0) 12 32 rfl f_12_412 rfl (jfin_no TX12 RX12 92 rfl rfl) hD J Sm rfl rfl jk_0 (pw_125_32 (by omega)) rfl (fun h w1 J Sm => ?_)
  refine x_aloadn (x := 125) rfl rfl ?_
  refine x_ldcw (v := 146399) rfl z_12_392 ?_
  refine z_putI (N := 92) (w := 146399) 12 33 rfl f_12_415 rfl (jfin_no TX12 RX12 92 rfl rfl) hD J Sm rfl rfl jk_146399 (pw_125_33 (by omega)) rfl (fun h w2 J Sm => ?_)
  refine x_aloadn (x := 125) rfl rfl ?_
  refine x_iconst (v := 0) rfl ki_0 ?_
  refine z_putI (N := 92) (w := 0) 12 34 rfl f_12_418 rfl (jfin_no TX12 RX12 92 rfl rfl) hD J Sm rfl rfl jk_0 (pw_125_34 (by omega)) rfl (fun h w3 J Sm => ?_)
  refine x_aloadn (x := 125) rfl rfl ?_
  refine x_ldcw (v := 146399) rfl z_12_392 ?_
  refine z_putI (N := 92) (w := 146399) 12 35 rfl f_12_421 rfl (jfin_no TX12 RX12 92 rfl rfl) hD J Sm rfl rfl jk_146399 (pw_125_35 (by omega)) rfl (fun h w4 J Sm => ?_)
  refine x_iconst (v := 0) rfl ki_0 ?_
  refine x_istoren (lsx9 := [(2, .int 0), (0, .ref 125), (1, .int a1)]) rfl rfl rfl ?_
  exact jX.sub (jsb_c rfl (jsb_c rfl (jsb_c rfl jsb_n))) (ct_X12_findSpan_r125_26 hD hQ  601 a1 0 h (by have := jk_0; omega) (jr_of rfl (by omega)) (jr_of jk_0 (by omega)) J Sm)
def fp_X12_isCertified_r125 : jFp := []
set_option maxRecDepth 100000 in
set_option maxHeartbeats 4000000 in
theorem ct_X12_isCertified_r125_300105 {Dy : jH → Prop} {h0 : jH} {Q : Option Value → jH → Prop} {R6 : Int} (hD : jDk Dy) (hQ : ∀ (v : Int32) hx9, 0 ≤ v.toInt ∧ v.toInt ≤ 1 → jJ jSgM Dy hx9 → jSm fp_X12_isCertified_r125 h0 hx9 → Q (some (.int v)) hx9) (k6 : ∀ (l1 : Int32) (l2 : Int32) (l3 : Int32) (l4 : Int32) (l5 : Int32) (h : jH), 100 - l5.toInt < R6 → (-1) ≤ l1.toInt ∧ l1.toInt ≤ 599 → 0 ≤ l2.toInt ∧ l2.toInt ≤ 146399 → (-1) ≤ l3.toInt ∧ l3.toInt ≤ 11 → 0 ≤ l4.toInt ∧ l4.toInt ≤ 1 → 0 ≤ l5.toInt ∧ l5.toInt ≤ 100 → jJ jSgM Dy h → jSm fp_X12_isCertified_r125 h0 h → jX m_X12_isCertified 2 0 0 6 [(0, .ref 125), (1, .int l1), (2, .int l2), (3, .int l3), (4, .int l4), (5, .int l5)] [] h 0 0 Q) : ∀ (l1 : Int32) (l2 : Int32) (l3 : Int32) (l5 : Int32) (h : jH), (-1) ≤ l1.toInt ∧ l1.toInt ≤ 599 → 0 ≤ l2.toInt ∧ l2.toInt ≤ 146399 → (-1) ≤ l3.toInt ∧ l3.toInt ≤ 11 → 0 ≤ l5.toInt ∧ l5.toInt ≤ 99 → 100 - l5.toInt ≤ R6 → jJ jSgM Dy h → jSm fp_X12_isCertified_r125 h0 h → jX m_X12_isCertified 2 0 0 105 [(0, .ref 125), (1, .int l1), (2, .int l2), (3, .int l3), (5, .int l5)] [.int 1] h 0 0 Q := by
  intro l1 l2 l3 l5 h y0 y1 y2 y3  m6 J Sm
  refine x_istore (lsx9 := [(4, .int 1), (0, .ref 125), (1, .int l1), (2, .int l2), (3, .int l3), (5, .int l5)]) rfl rfl rfl ?_
  refine z_iinc (x := l5) (lsx9 := fun v1 => [(5, .int v1), (4, .int 1), (0, .ref 125), (1, .int l1), (2, .int l2), (3, .int l3)]) rfl rfl rfl jko_1 (by omega) rfl (fun _ => rfl) (fun v1 ev1 => ?_)
  refine x_goto (tgt := 6) rfl rfl ?_
  exact jX.sub (jsb_c rfl (jsb_c rfl (jsb_c rfl (jsb_c rfl (jsb_c rfl (jsb_c rfl jsb_n)))))) (k6 l1 l2 l3 1 v1 h (by omega) (jr_of rfl (by omega)) (jr_of rfl (by omega)) (jr_of rfl (by omega)) (jr_of jk_1 (by omega)) (jr_of rfl (by omega)) J Sm)
set_option maxRecDepth 100000 in
set_option maxHeartbeats 4000000 in
theorem ct_X12_isCertified_r125_200105 {Dy : jH → Prop} {h0 : jH} {Q : Option Value → jH → Prop} {R6 : Int} (hD : jDk Dy) (hQ : ∀ (v : Int32) hx9, 0 ≤ v.toInt ∧ v.toInt ≤ 1 → jJ jSgM Dy hx9 → jSm fp_X12_isCertified_r125 h0 hx9 → Q (some (.int v)) hx9) (k6 : ∀ (l1 : Int32) (l2 : Int32) (l3 : Int32) (l4 : Int32) (l5 : Int32) (h : jH), 100 - l5.toInt < R6 → (-1) ≤ l1.toInt ∧ l1.toInt ≤ 599 → 0 ≤ l2.toInt ∧ l2.toInt ≤ 146399 → (-1) ≤ l3.toInt ∧ l3.toInt ≤ 11 → 0 ≤ l4.toInt ∧ l4.toInt ≤ 1 → 0 ≤ l5.toInt ∧ l5.toInt ≤ 100 → jJ jSgM Dy h → jSm fp_X12_isCertified_r125 h0 h → jX m_X12_isCertified 2 0 0 6 [(0, .ref 125), (1, .int l1), (2, .int l2), (3, .int l3), (4, .int l4), (5, .int l5)] [] h 0 0 Q) : ∀ (l1 : Int32) (l2 : Int32) (l3 : Int32) (l5 : Int32) (h : jH), (-1) ≤ l1.toInt ∧ l1.toInt ≤ 599 → 0 ≤ l2.toInt ∧ l2.toInt ≤ 146399 → (-1) ≤ l3.toInt ∧ l3.toInt ≤ 11 → 0 ≤ l5.toInt ∧ l5.toInt ≤ 99 → 100 - l5.toInt ≤ R6 → jJ jSgM Dy h → jSm fp_X12_isCertified_r125 h0 h → jX m_X12_isCertified 2 0 0 105 [(0, .ref 125), (1, .int l1), (2, .int l2), (3, .int l3), (5, .int l5)] [.int 0] h 0 0 Q := by
  intro l1 l2 l3 l5 h y0 y1 y2 y3  m6 J Sm
  refine x_istore (lsx9 := [(4, .int 0), (0, .ref 125), (1, .int l1), (2, .int l2), (3, .int l3), (5, .int l5)]) rfl rfl rfl ?_
  refine z_iinc (x := l5) (lsx9 := fun v1 => [(5, .int v1), (4, .int 0), (0, .ref 125), (1, .int l1), (2, .int l2), (3, .int l3)]) rfl rfl rfl jko_1 (by omega) rfl (fun _ => rfl) (fun v1 ev1 => ?_)
  refine x_goto (tgt := 6) rfl rfl ?_
  exact jX.sub (jsb_c rfl (jsb_c rfl (jsb_c rfl (jsb_c rfl (jsb_c rfl (jsb_c rfl jsb_n)))))) (k6 l1 l2 l3 0 v1 h (by omega) (jr_of rfl (by omega)) (jr_of rfl (by omega)) (jr_of rfl (by omega)) (jr_of jk_0 (by omega)) (jr_of rfl (by omega)) J Sm)
set_option maxRecDepth 100000 in
set_option maxHeartbeats 4000000 in
theorem ct_X12_isCertified_r125_100 {Dy : jH → Prop} {h0 : jH} {Q : Option Value → jH → Prop} {R6 : Int} (hD : jDk Dy) (hQ : ∀ (v : Int32) hx9, 0 ≤ v.toInt ∧ v.toInt ≤ 1 → jJ jSgM Dy hx9 → jSm fp_X12_isCertified_r125 h0 hx9 → Q (some (.int v)) hx9) (k6 : ∀ (l1 : Int32) (l2 : Int32) (l3 : Int32) (l4 : Int32) (l5 : Int32) (h : jH), 100 - l5.toInt < R6 → (-1) ≤ l1.toInt ∧ l1.toInt ≤ 599 → 0 ≤ l2.toInt ∧ l2.toInt ≤ 146399 → (-1) ≤ l3.toInt ∧ l3.toInt ≤ 11 → 0 ≤ l4.toInt ∧ l4.toInt ≤ 1 → 0 ≤ l5.toInt ∧ l5.toInt ≤ 100 → jJ jSgM Dy h → jSm fp_X12_isCertified_r125 h0 h → jX m_X12_isCertified 2 0 0 6 [(0, .ref 125), (1, .int l1), (2, .int l2), (3, .int l3), (4, .int l4), (5, .int l5)] [] h 0 0 Q) : ∀ (l1 : Int32) (l2 : Int32) (l3 : Int32) (l5 : Int32) (h : jH), (-1) ≤ l1.toInt ∧ l1.toInt ≤ 599 → 0 ≤ l2.toInt ∧ l2.toInt ≤ 146399 → (-1) ≤ l3.toInt ∧ l3.toInt ≤ 11 → 0 ≤ l5.toInt ∧ l5.toInt ≤ 99 → 100 - l5.toInt ≤ R6 → jJ jSgM Dy h → jSm fp_X12_isCertified_r125 h0 h → jX m_X12_isCertified 2 0 0 100 [(0, .ref 125), (1, .int l1), (2, .int l2), (3, .int l3), (5, .int l5)] [] h 0 0 Q := by
  intro l1 l2 l3 l5 h y0 y1 y2 y3  m6 J Sm
  refine x_iconst (v := 1) rfl ki_1 ?_
  refine x_goto (tgt := 105) rfl rfl ?_
  exact jX.sub (jsb_c rfl (jsb_c rfl (jsb_c rfl (jsb_c rfl (jsb_c rfl jsb_n))))) (ct_X12_isCertified_r125_300105 hD hQ k6 l1 l2 l3 l5 h (jr_of rfl (by omega)) (jr_of rfl (by omega)) (jr_of rfl (by omega)) (jr_of rfl (by omega)) (by omega) J Sm)
set_option maxRecDepth 100000 in
set_option maxHeartbeats 4000000 in
theorem ct_X12_isCertified_r125_104 {Dy : jH → Prop} {h0 : jH} {Q : Option Value → jH → Prop} {R6 : Int} (hD : jDk Dy) (hQ : ∀ (v : Int32) hx9, 0 ≤ v.toInt ∧ v.toInt ≤ 1 → jJ jSgM Dy hx9 → jSm fp_X12_isCertified_r125 h0 hx9 → Q (some (.int v)) hx9) (k6 : ∀ (l1 : Int32) (l2 : Int32) (l3 : Int32) (l4 : Int32) (l5 : Int32) (h : jH), 100 - l5.toInt < R6 → (-1) ≤ l1.toInt ∧ l1.toInt ≤ 599 → 0 ≤ l2.toInt ∧ l2.toInt ≤ 146399 → (-1) ≤ l3.toInt ∧ l3.toInt ≤ 11 → 0 ≤ l4.toInt ∧ l4.toInt ≤ 1 → 0 ≤ l5.toInt ∧ l5.toInt ≤ 100 → jJ jSgM Dy h → jSm fp_X12_isCertified_r125 h0 h → jX m_X12_isCertified 2 0 0 6 [(0, .ref 125), (1, .int l1), (2, .int l2), (3, .int l3), (4, .int l4), (5, .int l5)] [] h 0 0 Q) : ∀ (l1 : Int32) (l2 : Int32) (l3 : Int32) (l5 : Int32) (h : jH), (-1) ≤ l1.toInt ∧ l1.toInt ≤ 599 → 0 ≤ l2.toInt ∧ l2.toInt ≤ 146399 → (-1) ≤ l3.toInt ∧ l3.toInt ≤ 11 → 0 ≤ l5.toInt ∧ l5.toInt ≤ 99 → 100 - l5.toInt ≤ R6 → jJ jSgM Dy h → jSm fp_X12_isCertified_r125 h0 h → jX m_X12_isCertified 2 0 0 104 [(0, .ref 125), (1, .int l1), (2, .int l2), (3, .int l3), (5, .int l5)] [] h 0 0 Q := by
  intro l1 l2 l3 l5 h y0 y1 y2 y3  m6 J Sm
  refine x_iconst (v := 0) rfl ki_0 ?_
  exact jX.sub (jsb_c rfl (jsb_c rfl (jsb_c rfl (jsb_c rfl (jsb_c rfl jsb_n))))) (ct_X12_isCertified_r125_200105 hD hQ k6 l1 l2 l3 l5 h (jr_of rfl (by omega)) (jr_of rfl (by omega)) (jr_of rfl (by omega)) (jr_of rfl (by omega)) (by omega) J Sm)
set_option maxRecDepth 100000 in
set_option maxHeartbeats 4000000 in
theorem ct_X12_isCertified_r125_6 {Dy : jH → Prop} {h0 : jH} {Q : Option Value → jH → Prop} (hD : jDk Dy) (hQ : ∀ (v : Int32) hx9, 0 ≤ v.toInt ∧ v.toInt ≤ 1 → jJ jSgM Dy hx9 → jSm fp_X12_isCertified_r125 h0 hx9 → Q (some (.int v)) hx9) : ∀ r : Nat, ∀ (l1 : Int32) (l2 : Int32) (l3 : Int32) (l4 : Int32) (l5 : Int32) (h : jH), 100 - l5.toInt < (r : Int) → (-1) ≤ l1.toInt ∧ l1.toInt ≤ 599 → 0 ≤ l2.toInt ∧ l2.toInt ≤ 146399 → (-1) ≤ l3.toInt ∧ l3.toInt ≤ 11 → 0 ≤ l4.toInt ∧ l4.toInt ≤ 1 → 0 ≤ l5.toInt ∧ l5.toInt ≤ 100 → jJ jSgM Dy h → jSm fp_X12_isCertified_r125 h0 h → jX m_X12_isCertified 2 0 0 6 [(0, .ref 125), (1, .int l1), (2, .int l2), (3, .int l3), (4, .int l4), (5, .int l5)] [] h 0 0 Q := by
  intro r
  induction r with
  | zero =>
    intro l1 l2 l3 l4 l5 h hm y0 y1 y2 y3 y4   J Sm
    exfalso
    omega
  | succ r ih =>
    intro l1 l2 l3 l4 l5 h hm y0 y1 y2 y3 y4   J Sm
    refine x_iload (x := l5) rfl rfl ?_
    refine x_aloadn (x := 125) rfl rfl ?_
    refine z_getR (N := 92) (b := 126) 12 2 rfl f_12_8 rfl J rfl 16002 ⟨rfl, rfl⟩ rfl ?_
    refine x_iconst (v := 5) rfl ki_5 ?_
    refine z_iald (N := 50660) rfl J rfl sg_126_5_6_1_0_1 jk_5 (by omega) (fun v1 qv1 ev1 => ?_)
    refine x_icge (tgt := 113) rfl rfl (ti_ge rfl rfl ⟨fun c2 => ?_, fun c2 => ?_⟩)
    ·
      refine x_iload (x := l4) rfl rfl ?_
      refine x_zret rfl rfl (jz01 (by omega)) ?_
      exact hQ _ _ (jr_of rfl (by omega)) J Sm
    ·
      refine x_iload (x := l4) rfl rfl ?_
      refine x_ifne (tgt := 100) rfl rfl (ti_ne rfl jk_0 ⟨fun c3 => ?_, fun c3 => ?_⟩)
      ·
        exact jX.sub (jsb_c rfl (jsb_c rfl (jsb_c rfl (jsb_c rfl (jsb_c rfl jsb_n))))) (ct_X12_isCertified_r125_100 hD hQ ih l1 l2 l3 l5 h (jr_of rfl (by omega)) (jr_of rfl (by omega)) (jr_of rfl (by omega)) (jr_of rfl (by omega)) (by omega) J Sm)
      ·
        refine x_aloadn (x := 125) rfl rfl ?_
        refine x_iload (x := l5) rfl rfl ?_
        refine x_iloadn (x := l1) rfl rfl ?_
        refine x_iconst (v := 4) rfl ki_4 ?_
        refine x_inv (N := m_X12_isFact) (As := [.int l5, .int l1, .int 4]) (b := 125) (st := []) (dx9 := 1) (mc := 0) (ms := 0) (host := "") 12 rfl t_X12_isFact ⟨Or.inl q_12_697, i_X12_isFact.1, i_X12_isFact.2⟩ ⟨by decide, rfl⟩ (congrArg Prod.fst (J.1.1 125 (12, 92) rfl)) rfl (by decide) rfl rfl ⟨by decide, by decide⟩ (jC.of rfl k_X12_isFact rfl ?_)
        show jX m_X12_isFact 1 0 0 0 [(0, .ref 125), (1, .int l5), (2, .int l1), (3, .int 4)] [] _ 0 0 _
        refine x_ldcw (v := 46540) rfl z_12_700 ?_
        refine x_bipush (v := 6) rfl kb_6 ?_
        refine x_iloadn (x := l5) rfl rfl ?_
        refine z_imul rfl jk_6 rfl (by omega) (fun v4 ev4 => ?_)
        refine z_iadd rfl jk_46540 rfl (by omega) (fun v5 ev5 => ?_)
        refine x_istore (lsx9 := [(4, .int v5), (0, .ref 125), (1, .int l5), (2, .int l1), (3, .int 4)]) rfl rfl rfl ?_
        refine x_aloadn (x := 125) rfl rfl ?_
        refine z_getR (N := 92) (b := 126) 12 2 rfl f_12_8 rfl J rfl 16002 ⟨rfl, rfl⟩ rfl ?_
        refine x_iload (x := v5) rfl rfl ?_
        refine x_iconst (v := 5) rfl ki_5 ?_
        refine z_iadd rfl rfl jk_5 (by omega) (fun v6 ev6 => ?_)
        refine z_iald (N := 50660) rfl J rfl sg_126_46540_47140_6_5_6 rfl (by omega) (fun v7 qv7 ev7 => ?_)
        refine x_aloadn (x := 125) rfl rfl ?_
        refine z_getI (N := 92) 12 28 rfl f_12_377 rfl J rfl sg_125_28_29_1_0_1 (fun v8 qv8 ev8 => ?_)
        refine x_icgt (tgt := 59) rfl rfl (ti_gt rfl rfl ⟨fun c9 => ?_, fun c9 => ?_⟩)
        ·
          refine x_iconst (v := 0) rfl ki_0 ?_
          refine x_zret rfl rfl (by decide) ?_
          show jX m_X12_isCertified 2 0 0 30 [(0, .ref 125), (1, .int l1), (2, .int l2), (3, .int l3), (4, .int l4), (5, .int l5)] [.int 0] _ 0 0 _
          refine x_ifeq (tgt := 104) rfl rfl (ti_eq jk_0 jk_0 (br_t (by omega) ?_))
          exact jX.sub (jsb_c rfl (jsb_c rfl (jsb_c rfl (jsb_c rfl (jsb_c rfl jsb_n))))) (ct_X12_isCertified_r125_104 hD hQ ih l1 l2 l3 l5 h (jr_of rfl (by omega)) (jr_of rfl (by omega)) (jr_of rfl (by omega)) (jr_of rfl (by omega)) (by omega) J Sm)
        ·
          refine x_aloadn (x := 125) rfl rfl ?_
          refine z_getR (N := 92) (b := 126) 12 2 rfl f_12_8 rfl J rfl 16002 ⟨rfl, rfl⟩ rfl ?_
          refine x_iload (x := v5) rfl rfl ?_
          refine x_iconst (v := 1) rfl ki_1 ?_
          refine z_iadd rfl rfl jk_1 (by omega) (fun v10 ev10 => ?_)
          refine z_iald (N := 50660) rfl J rfl sg_126_46540_47140_6_1_2 rfl (by omega) (fun v11 qv11 ev11 => ?_)
          refine x_iloadn (x := 4) rfl rfl ?_
          refine x_icne (tgt := 59) rfl rfl (ti_ne rfl jk_4 ⟨fun c12 => ?_, fun c12 => ?_⟩)
          ·
            refine x_iconst (v := 0) rfl ki_0 ?_
            refine x_zret rfl rfl (by decide) ?_
            show jX m_X12_isCertified 2 0 0 30 [(0, .ref 125), (1, .int l1), (2, .int l2), (3, .int l3), (4, .int l4), (5, .int l5)] [.int 0] _ 0 0 _
            refine x_ifeq (tgt := 104) rfl rfl (ti_eq jk_0 jk_0 (br_t (by omega) ?_))
            exact jX.sub (jsb_c rfl (jsb_c rfl (jsb_c rfl (jsb_c rfl (jsb_c rfl jsb_n))))) (ct_X12_isCertified_r125_104 hD hQ ih l1 l2 l3 l5 h (jr_of rfl (by omega)) (jr_of rfl (by omega)) (jr_of rfl (by omega)) (jr_of rfl (by omega)) (by omega) J Sm)
          ·
            refine x_aloadn (x := 125) rfl rfl ?_
            refine z_getR (N := 92) (b := 139) 12 29 rfl f_12_72 rfl J rfl 16029 ⟨rfl, rfl⟩ rfl ?_
            refine x_aloadn (x := 125) rfl rfl ?_
            refine z_getR (N := 92) (b := 126) 12 2 rfl f_12_8 rfl J rfl 16002 ⟨rfl, rfl⟩ rfl ?_
            refine x_iload (x := v5) rfl rfl ?_
            refine z_iald (N := 50660) rfl J rfl sg_126_46540_47140_6_0_1 rfl (by omega) (fun v13 qv13 ev13 => ?_)
            refine z_iald (N := 600) rfl J rfl sg_139_0_600_1_0_1 rfl (by omega) (fun v14 qv14 ev14 => ?_)
            refine x_iloadn (x := l1) rfl rfl ?_
            refine x_icne (tgt := 59) rfl rfl (ti_ne rfl rfl ⟨fun c15 => ?_, fun c15 => ?_⟩)
            ·
              refine x_iconst (v := 0) rfl ki_0 ?_
              refine x_zret rfl rfl (by decide) ?_
              show jX m_X12_isCertified 2 0 0 30 [(0, .ref 125), (1, .int l1), (2, .int l2), (3, .int l3), (4, .int l4), (5, .int l5)] [.int 0] _ 0 0 _
              refine x_ifeq (tgt := 104) rfl rfl (ti_eq jk_0 jk_0 (br_t (by omega) ?_))
              exact jX.sub (jsb_c rfl (jsb_c rfl (jsb_c rfl (jsb_c rfl (jsb_c rfl jsb_n))))) (ct_X12_isCertified_r125_104 hD hQ ih l1 l2 l3 l5 h (jr_of rfl (by omega)) (jr_of rfl (by omega)) (jr_of rfl (by omega)) (jr_of rfl (by omega)) (by omega) J Sm)
            ·
              refine x_iconst (v := 1) rfl ki_1 ?_
              refine x_goto (tgt := 60) rfl rfl ?_
              refine x_zret rfl rfl (by decide) ?_
              show jX m_X12_isCertified 2 0 0 30 [(0, .ref 125), (1, .int l1), (2, .int l2), (3, .int l3), (4, .int l4), (5, .int l5)] [.int 1] _ 0 0 _
              refine x_ifeq (tgt := 104) rfl rfl (ti_eq jk_1 jk_0 (br_f (by omega) ?_))
              refine x_iloadn (x := l2) rfl rfl ?_
              refine z_i2l rfl rfl (fun v16 ev16 => ?_)
              refine x_aloadn (x := 125) rfl rfl ?_
              refine z_getR (N := 92) (b := 126) 12 2 rfl f_12_8 rfl J rfl 16002 ⟨rfl, rfl⟩ rfl ?_
              refine x_ldcw (v := 46540) rfl z_12_700 ?_
              refine x_bipush (v := 6) rfl kb_6 ?_
              refine x_iload (x := l5) rfl rfl ?_
              refine z_imul rfl jk_6 rfl (by omega) (fun v17 ev17 => ?_)
              refine z_iadd rfl jk_46540 rfl (by omega) (fun v18 ev18 => ?_)
              refine x_iconst (v := 3) rfl ki_3 ?_
              refine z_iadd rfl rfl jk_3 (by omega) (fun v19 ev19 => ?_)
              refine z_iald (N := 50660) rfl J rfl sg_126_46540_47140_6_3_4 rfl (by omega) (fun v20 qv20 ev20 => ?_)
              refine z_i2l rfl rfl (fun v21 ev21 => ?_)
              refine x_aloadn (x := 125) rfl rfl ?_
              refine z_getR (N := 92) (b := 126) 12 2 rfl f_12_8 rfl J rfl 16002 ⟨rfl, rfl⟩ rfl ?_
              refine x_ldcw (v := 46540) rfl z_12_700 ?_
              refine x_bipush (v := 6) rfl kb_6 ?_
              refine x_iload (x := l5) rfl rfl ?_
              refine z_imul rfl jk_6 rfl (by omega) (fun v22 ev22 => ?_)
              refine z_iadd rfl jk_46540 rfl (by omega) (fun v23 ev23 => ?_)
              refine x_iconst (v := 4) rfl ki_4 ?_
              refine z_iadd rfl rfl jk_4 (by omega) (fun v24 ev24 => ?_)
              refine z_iald (N := 50660) rfl J rfl sg_126_46540_47140_6_4_5 rfl (by omega) (fun v25 qv25 ev25 => ?_)
              refine z_i2l rfl rfl (fun v26 ev26 => ?_)
              refine x_inst (N := m_X12_in) (As := [.long v16, .long v21, .long v26]) (st := []) (dx9 := 1) (mc := 0) (ms := 0) (host := "") rfl t_X12_in ⟨Or.inl q_12_188, s_X12_in⟩ rfl (by decide) rfl rfl ⟨by decide, by decide⟩ (zc_X12_in rfl rfl rfl (fun v27 ev27 => ?_))
              show jX m_X12_isCertified 2 0 0 72 [(0, .ref 125), (1, .int l1), (2, .int l2), (3, .int l3), (4, .int l4), (5, .int l5)] [.int v27] _ 0 0 _
              refine x_ifeq (tgt := 104) rfl rfl (ti_eq rfl jk_0 ⟨fun c28 => ?_, fun c28 => ?_⟩)
              ·
                exact jX.sub (jsb_c rfl (jsb_c rfl (jsb_c rfl (jsb_c rfl (jsb_c rfl jsb_n))))) (ct_X12_isCertified_r125_104 hD hQ ih l1 l2 l3 l5 h (jr_of rfl (by omega)) (jr_of rfl (by omega)) (jr_of rfl (by omega)) (jr_of rfl (by omega)) (by omega) J Sm)
              ·
                refine x_iloadn (x := l3) rfl rfl ?_
                refine x_iconst (v := (-1)) rfl ki_m1 ?_
                refine x_iceq (tgt := 100) rfl rfl (ti_eq rfl jk_m1 ⟨fun c29 => ?_, fun c29 => ?_⟩)
                ·
                  exact jX.sub (jsb_c rfl (jsb_c rfl (jsb_c rfl (jsb_c rfl (jsb_c rfl jsb_n))))) (ct_X12_isCertified_r125_100 hD hQ ih l1 l2 l3 l5 h (jr_of rfl (by omega)) (jr_of rfl (by omega)) (jr_of rfl (by omega)) (jr_of rfl (by omega)) (by omega) J Sm)
                ·
                  refine x_aloadn (x := 125) rfl rfl ?_
                  refine z_getR (N := 92) (b := 126) 12 2 rfl f_12_8 rfl J rfl 16002 ⟨rfl, rfl⟩ rfl ?_
                  refine x_ldcw (v := 46540) rfl z_12_700 ?_
                  refine x_bipush (v := 6) rfl kb_6 ?_
                  refine x_iload (x := l5) rfl rfl ?_
                  refine z_imul rfl jk_6 rfl (by omega) (fun v30 ev30 => ?_)
                  refine z_iadd rfl jk_46540 rfl (by omega) (fun v31 ev31 => ?_)
                  refine x_iconst (v := 2) rfl ki_2 ?_
                  refine z_iadd rfl rfl jk_2 (by omega) (fun v32 ev32 => ?_)
                  refine z_iald (N := 50660) rfl J rfl sg_126_46540_47140_6_2_3 rfl (by omega) (fun v33 qv33 ev33 => ?_)
                  refine x_iloadn (x := l3) rfl rfl ?_
                  refine x_icne (tgt := 104) rfl rfl (ti_ne rfl rfl ⟨fun c34 => ?_, fun c34 => ?_⟩)
                  ·
                    exact jX.sub (jsb_c rfl (jsb_c rfl (jsb_c rfl (jsb_c rfl (jsb_c rfl jsb_n))))) (ct_X12_isCertified_r125_104 hD hQ ih l1 l2 l3 l5 h (jr_of rfl (by omega)) (jr_of rfl (by omega)) (jr_of rfl (by omega)) (jr_of rfl (by omega)) (by omega) J Sm)
                  ·
                    exact jX.sub (jsb_c rfl (jsb_c rfl (jsb_c rfl (jsb_c rfl (jsb_c rfl jsb_n))))) (ct_X12_isCertified_r125_100 hD hQ ih l1 l2 l3 l5 h (jr_of rfl (by omega)) (jr_of rfl (by omega)) (jr_of rfl (by omega)) (jr_of rfl (by omega)) (by omega) J Sm)
set_option maxRecDepth 100000 in
set_option maxHeartbeats 4000000 in
theorem sf_X12_isCertified_r125 {Dy : jH → Prop} {h : jH} {Q : Option Value → jH → Prop} {a1 : Int32} {a2 : Int32} {a3 : Int32} (y1 : (-1) ≤ a1.toInt ∧ a1.toInt ≤ 599) (y2 : 0 ≤ a2.toInt ∧ a2.toInt ≤ 146399) (y3 : (-1) ≤ a3.toInt ∧ a3.toInt ≤ 11) (hD : jDk Dy) (J : jJ jSgM Dy h) (hQ : ∀ (v : Int32) hx9, 0 ≤ v.toInt ∧ v.toInt ≤ 1 → jJ jSgM Dy hx9 → jSm fp_X12_isCertified_r125 h hx9 → Q (some (.int v)) hx9) : jC m_X12_isCertified 2 0 0 [.ref 125, .int a1, .int a2, .int a3] h Q := by
  refine jC.of rfl k_X12_isCertified rfl ?_
  have Sm := jSm_rf fp_X12_isCertified_r125 h
  show jX m_X12_isCertified 2 0 0 0 [(0, .ref 125), (1, .int a1), (2, .int a2), (3, .int a3)] [] _ 0 0 _
  refine x_iconst (v := 0) rfl ki_0 ?_
  refine x_istore (lsx9 := [(4, .int 0), (0, .ref 125), (1, .int a1), (2, .int a2), (3, .int a3)]) rfl rfl rfl ?_
  refine x_iconst (v := 0) rfl ki_0 ?_
  refine x_istore (lsx9 := [(5, .int 0), (4, .int 0), (0, .ref 125), (1, .int a1), (2, .int a2), (3, .int a3)]) rfl rfl rfl ?_
  exact jX.sub (jsb_c rfl (jsb_c rfl (jsb_c rfl (jsb_c rfl (jsb_c rfl (jsb_c rfl jsb_n)))))) (ct_X12_isCertified_r125_6 hD hQ  101 a1 a2 a3 0 0 h (by have := jk_0; omega) (jr_of rfl (by omega)) (jr_of rfl (by omega)) (jr_of rfl (by omega)) (jr_of jk_0 (by omega)) (jr_of jk_0 (by omega)) J Sm)
def fp_X12_reliefOf_r125 : jFp := []
set_option maxRecDepth 100000 in
set_option maxHeartbeats 4000000 in
theorem ct_X12_reliefOf_r125_69 {Dy : jH → Prop} {h0 : jH} {Q : Option Value → jH → Prop} {R6 : Int} (hD : jDk Dy) (hQ : ∀ (v : Int32) hx9, jJ jSgM Dy hx9 → jSm fp_X12_reliefOf_r125 h0 hx9 → Q (some (.int v)) hx9) (k6 : ∀ (l1 : Int32) (l2 : Int32) (l3 : Int32) (l4 : Int32) (l5 : Int32) (h : jH), 200 - l5.toInt < R6 → (-1) ≤ l1.toInt ∧ l1.toInt ≤ 599 → (-365) ≤ l2.toInt ∧ l2.toInt ≤ 146399 → 0 ≤ l3.toInt ∧ l3.toInt ≤ 146399 → 0 ≤ l5.toInt ∧ l5.toInt ≤ 200 → jJ jSgM Dy h → jSm fp_X12_reliefOf_r125 h0 h → jX m_X12_reliefOf 3 0 0 6 [(0, .ref 125), (1, .int l1), (2, .int l2), (3, .int l3), (4, .int l4), (5, .int l5)] [] h 0 0 Q) : ∀ (l1 : Int32) (l2 : Int32) (l3 : Int32) (l5 : Int32) (s0 : Int32) (s1 : Int32) (h : jH), (-1) ≤ l1.toInt ∧ l1.toInt ≤ 599 → (-365) ≤ l2.toInt ∧ l2.toInt ≤ 146399 → 0 ≤ l3.toInt ∧ l3.toInt ≤ 146399 → 0 ≤ l5.toInt ∧ l5.toInt ≤ 199 → 200 - l5.toInt ≤ R6 → jJ jSgM Dy h → jSm fp_X12_reliefOf_r125 h0 h → jX m_X12_reliefOf 3 0 0 69 [(0, .ref 125), (1, .int l1), (2, .int l2), (3, .int l3), (5, .int l5)] [.int s0, .int s1] h 0 0 Q := by
  intro l1 l2 l3 l5 s0 s1 h y0 y1 y2 y3  m6 J Sm
  have es0 := jfull s0
  have es1 := jfull s1
  refine z_iadd0 rfl (fun v1 => ?_)
  have ev1 := jfull v1
  refine x_istore (lsx9 := [(4, .int v1), (0, .ref 125), (1, .int l1), (2, .int l2), (3, .int l3), (5, .int l5)]) rfl rfl rfl ?_
  refine z_iinc (x := l5) (lsx9 := fun v2 => [(5, .int v2), (4, .int v1), (0, .ref 125), (1, .int l1), (2, .int l2), (3, .int l3)]) rfl rfl rfl jko_1 (by omega) rfl (fun _ => rfl) (fun v2 ev2 => ?_)
  refine x_goto (tgt := 6) rfl rfl ?_
  exact jX.sub (jsb_c rfl (jsb_c rfl (jsb_c rfl (jsb_c rfl (jsb_c rfl (jsb_c rfl jsb_n)))))) (k6 l1 l2 l3 v1 v2 h (by omega) (jr_of rfl (by omega)) (jr_of rfl (by omega)) (jr_of rfl (by omega)) (jr_of rfl (by omega)) J Sm)
set_option maxRecDepth 100000 in
set_option maxHeartbeats 4000000 in
theorem ct_X12_reliefOf_r125_200069 {Dy : jH → Prop} {h0 : jH} {Q : Option Value → jH → Prop} {R6 : Int} (hD : jDk Dy) (hQ : ∀ (v : Int32) hx9, jJ jSgM Dy hx9 → jSm fp_X12_reliefOf_r125 h0 hx9 → Q (some (.int v)) hx9) (k6 : ∀ (l1 : Int32) (l2 : Int32) (l3 : Int32) (l4 : Int32) (l5 : Int32) (h : jH), 200 - l5.toInt < R6 → (-1) ≤ l1.toInt ∧ l1.toInt ≤ 599 → (-365) ≤ l2.toInt ∧ l2.toInt ≤ 146399 → 0 ≤ l3.toInt ∧ l3.toInt ≤ 146399 → 0 ≤ l5.toInt ∧ l5.toInt ≤ 200 → jJ jSgM Dy h → jSm fp_X12_reliefOf_r125 h0 h → jX m_X12_reliefOf 3 0 0 6 [(0, .ref 125), (1, .int l1), (2, .int l2), (3, .int l3), (4, .int l4), (5, .int l5)] [] h 0 0 Q) : ∀ (l1 : Int32) (l2 : Int32) (l3 : Int32) (l5 : Int32) (s1 : Int32) (h : jH), (-1) ≤ l1.toInt ∧ l1.toInt ≤ 599 → (-365) ≤ l2.toInt ∧ l2.toInt ≤ 146399 → 0 ≤ l3.toInt ∧ l3.toInt ≤ 146399 → 0 ≤ l5.toInt ∧ l5.toInt ≤ 199 → 200 - l5.toInt ≤ R6 → jJ jSgM Dy h → jSm fp_X12_reliefOf_r125 h0 h → jX m_X12_reliefOf 3 0 0 69 [(0, .ref 125), (1, .int l1), (2, .int l2), (3, .int l3), (5, .int l5)] [.int 0, .int s1] h 0 0 Q := by
  intro l1 l2 l3 l5 s1 h y0 y1 y2 y3  m6 J Sm
  have es1 := jfull s1
  refine z_iadd rfl rfl jk_0 (by omega) (fun v1 ev1 => ?_)
  refine x_istore (lsx9 := [(4, .int v1), (0, .ref 125), (1, .int l1), (2, .int l2), (3, .int l3), (5, .int l5)]) rfl rfl rfl ?_
  refine z_iinc (x := l5) (lsx9 := fun v2 => [(5, .int v2), (4, .int v1), (0, .ref 125), (1, .int l1), (2, .int l2), (3, .int l3)]) rfl rfl rfl jko_1 (by omega) rfl (fun _ => rfl) (fun v2 ev2 => ?_)
  refine x_goto (tgt := 6) rfl rfl ?_
  exact jX.sub (jsb_c rfl (jsb_c rfl (jsb_c rfl (jsb_c rfl (jsb_c rfl (jsb_c rfl jsb_n)))))) (k6 l1 l2 l3 v1 v2 h (by omega) (jr_of rfl (by omega)) (jr_of rfl (by omega)) (jr_of rfl (by omega)) (jr_of rfl (by omega)) J Sm)
set_option maxRecDepth 100000 in
set_option maxHeartbeats 4000000 in
theorem ct_X12_reliefOf_r125_68 {Dy : jH → Prop} {h0 : jH} {Q : Option Value → jH → Prop} {R6 : Int} (hD : jDk Dy) (hQ : ∀ (v : Int32) hx9, jJ jSgM Dy hx9 → jSm fp_X12_reliefOf_r125 h0 hx9 → Q (some (.int v)) hx9) (k6 : ∀ (l1 : Int32) (l2 : Int32) (l3 : Int32) (l4 : Int32) (l5 : Int32) (h : jH), 200 - l5.toInt < R6 → (-1) ≤ l1.toInt ∧ l1.toInt ≤ 599 → (-365) ≤ l2.toInt ∧ l2.toInt ≤ 146399 → 0 ≤ l3.toInt ∧ l3.toInt ≤ 146399 → 0 ≤ l5.toInt ∧ l5.toInt ≤ 200 → jJ jSgM Dy h → jSm fp_X12_reliefOf_r125 h0 h → jX m_X12_reliefOf 3 0 0 6 [(0, .ref 125), (1, .int l1), (2, .int l2), (3, .int l3), (4, .int l4), (5, .int l5)] [] h 0 0 Q) : ∀ (l1 : Int32) (l2 : Int32) (l3 : Int32) (l5 : Int32) (s0 : Int32) (h : jH), (-1) ≤ l1.toInt ∧ l1.toInt ≤ 599 → (-365) ≤ l2.toInt ∧ l2.toInt ≤ 146399 → 0 ≤ l3.toInt ∧ l3.toInt ≤ 146399 → 0 ≤ l5.toInt ∧ l5.toInt ≤ 199 → 200 - l5.toInt ≤ R6 → jJ jSgM Dy h → jSm fp_X12_reliefOf_r125 h0 h → jX m_X12_reliefOf 3 0 0 68 [(0, .ref 125), (1, .int l1), (2, .int l2), (3, .int l3), (5, .int l5)] [.int s0] h 0 0 Q := by
  intro l1 l2 l3 l5 s0 h y0 y1 y2 y3  m6 J Sm
  have es0 := jfull s0
  refine x_iconst (v := 0) rfl ki_0 ?_
  exact jX.sub (jsb_c rfl (jsb_c rfl (jsb_c rfl (jsb_c rfl (jsb_c rfl jsb_n))))) (ct_X12_reliefOf_r125_200069 hD hQ k6 l1 l2 l3 l5 s0 h (jr_of rfl (by omega)) (jr_of rfl (by omega)) (jr_of rfl (by omega)) (jr_of rfl (by omega)) (by omega) J Sm)
set_option maxRecDepth 100000 in
set_option maxHeartbeats 4000000 in
theorem ct_X12_reliefOf_r125_6 {Dy : jH → Prop} {h0 : jH} {Q : Option Value → jH → Prop} (hD : jDk Dy) (hQ : ∀ (v : Int32) hx9, jJ jSgM Dy hx9 → jSm fp_X12_reliefOf_r125 h0 hx9 → Q (some (.int v)) hx9) : ∀ r : Nat, ∀ (l1 : Int32) (l2 : Int32) (l3 : Int32) (l4 : Int32) (l5 : Int32) (h : jH), 200 - l5.toInt < (r : Int) → (-1) ≤ l1.toInt ∧ l1.toInt ≤ 599 → (-365) ≤ l2.toInt ∧ l2.toInt ≤ 146399 → 0 ≤ l3.toInt ∧ l3.toInt ≤ 146399 → 0 ≤ l5.toInt ∧ l5.toInt ≤ 200 → jJ jSgM Dy h → jSm fp_X12_reliefOf_r125 h0 h → jX m_X12_reliefOf 3 0 0 6 [(0, .ref 125), (1, .int l1), (2, .int l2), (3, .int l3), (4, .int l4), (5, .int l5)] [] h 0 0 Q := by
  intro r
  induction r with
  | zero =>
    intro l1 l2 l3 l4 l5 h hm y0 y1 y2 y3   J Sm
    exfalso
    have el4 := jfull l4
    omega
  | succ r ih =>
    intro l1 l2 l3 l4 l5 h hm y0 y1 y2 y3   J Sm
    have el4 := jfull l4
    refine x_iload (x := l5) rfl rfl ?_
    refine x_aloadn (x := 125) rfl rfl ?_
    refine z_getR (N := 92) (b := 126) 12 2 rfl f_12_8 rfl J rfl 16002 ⟨rfl, rfl⟩ rfl ?_
    refine x_iconst (v := 0) rfl ki_0 ?_
    refine z_iald (N := 50660) rfl J rfl sg_126_0_1_1_0_1 jk_0 (by omega) (fun v1 qv1 ev1 => ?_)
    refine x_icge (tgt := 78) rfl rfl (ti_ge rfl rfl ⟨fun c2 => ?_, fun c2 => ?_⟩)
    ·
      refine x_iload (x := l4) rfl rfl ?_
      refine x_iret rfl rfl ?_
      exact hQ _ _ J Sm
    ·
      refine x_iload (x := l4) rfl rfl ?_
      refine x_aloadn (x := 125) rfl rfl ?_
      refine x_iload (x := l5) rfl rfl ?_
      refine x_inv (N := m_X12_bookOf) (As := [.int l5]) (b := 125) (st := [.int l4]) (dx9 := 2) (mc := 0) (ms := 0) (host := "") 12 rfl t_X12_bookOf ⟨Or.inl q_12_299, i_X12_bookOf.1, i_X12_bookOf.2⟩ ⟨by decide, rfl⟩ (congrArg Prod.fst (J.1.1 125 (12, 92) rfl)) rfl (by decide) rfl rfl ⟨by decide, by decide⟩ (jC.of rfl k_X12_bookOf rfl ?_)
      show jX m_X12_bookOf 2 0 0 0 [(0, .ref 125), (1, .int l5)] [] _ 0 0 _
      refine x_aloadn (x := 125) rfl rfl ?_
      refine z_getR (N := 92) (b := 126) 12 2 rfl f_12_8 rfl J rfl 16002 ⟨rfl, rfl⟩ rfl ?_
      refine x_aloadn (x := 125) rfl rfl ?_
      refine x_iloadn (x := l5) rfl rfl ?_
      refine x_inv (N := m_X12_at) (As := [.int l5]) (b := 125) (st := [.ref 126]) (dx9 := 1) (mc := 0) (ms := 0) (host := "") 12 rfl t_X12_at ⟨Or.inl q_12_254, i_X12_at.1, i_X12_at.2⟩ ⟨by decide, rfl⟩ (congrArg Prod.fst (J.1.1 125 (12, 92) rfl)) rfl (by decide) rfl rfl ⟨by decide, by decide⟩ (jC.of rfl k_X12_at rfl ?_)
      show jX m_X12_at 1 0 0 0 [(0, .ref 125), (1, .int l5)] [] _ 0 0 _
      refine x_bipush (v := 20) rfl kb_20 ?_
      refine x_bipush (v := 90) rfl kb_90 ?_
      refine x_iloadn (x := l5) rfl rfl ?_
      refine z_imul rfl jk_90 rfl (by omega) (fun v3 ev3 => ?_)
      refine z_iadd rfl jk_20 rfl (by omega) (fun v4 ev4 => ?_)
      refine x_iret rfl rfl ?_
      show jX m_X12_bookOf 2 0 0 9 [(0, .ref 125), (1, .int l5)] [.int v4, .ref 126] _ 0 0 _
      refine z_iald (N := 50660) rfl J rfl sg_126_20_18020_90_0_1 rfl (by omega) (fun v5 qv5 ev5 => ?_)
      refine x_iret rfl rfl ?_
      show jX m_X12_reliefOf 3 0 0 25 [(0, .ref 125), (1, .int l1), (2, .int l2), (3, .int l3), (4, .int l4), (5, .int l5)] [.int v5, .int l4] _ 0 0 _
      refine x_iconst (v := 4) rfl ki_4 ?_
      refine x_icne (tgt := 68) rfl rfl (ti_ne rfl jk_4 ⟨fun c6 => ?_, fun c6 => ?_⟩)
      ·
        exact jX.sub (jsb_c rfl (jsb_c rfl (jsb_c rfl (jsb_c rfl (jsb_c rfl jsb_n))))) (ct_X12_reliefOf_r125_68 hD hQ ih l1 l2 l3 l5 l4 h (jr_of rfl (by omega)) (jr_of rfl (by omega)) (jr_of rfl (by omega)) (jr_of rfl (by omega)) (by omega) J Sm)
      ·
        refine x_aloadn (x := 125) rfl rfl ?_
        refine z_getR (N := 92) (b := 139) 12 29 rfl f_12_72 rfl J rfl 16029 ⟨rfl, rfl⟩ rfl ?_
        refine x_iconst (v := 3) rfl ki_3 ?_
        refine x_iload (x := l5) rfl rfl ?_
        refine z_imul rfl jk_3 rfl (by omega) (fun v7 ev7 => ?_)
        refine z_iald (N := 600) rfl J rfl sg_139_0_600_1_0_1 rfl (by omega) (fun v8 qv8 ev8 => ?_)
        refine x_iloadn (x := l1) rfl rfl ?_
        refine x_icne (tgt := 68) rfl rfl (ti_ne rfl rfl ⟨fun c9 => ?_, fun c9 => ?_⟩)
        ·
          exact jX.sub (jsb_c rfl (jsb_c rfl (jsb_c rfl (jsb_c rfl (jsb_c rfl jsb_n))))) (ct_X12_reliefOf_r125_68 hD hQ ih l1 l2 l3 l5 l4 h (jr_of rfl (by omega)) (jr_of rfl (by omega)) (jr_of rfl (by omega)) (jr_of rfl (by omega)) (by omega) J Sm)
        ·
          refine x_aloadn (x := 125) rfl rfl ?_
          refine x_iload (x := l5) rfl rfl ?_
          refine x_inv (N := m_X12_dayOf) (As := [.int l5]) (b := 125) (st := [.int l4]) (dx9 := 2) (mc := 0) (ms := 0) (host := "") 12 rfl t_X12_dayOf ⟨Or.inl q_12_335, i_X12_dayOf.1, i_X12_dayOf.2⟩ ⟨by decide, rfl⟩ (congrArg Prod.fst (J.1.1 125 (12, 92) rfl)) rfl (by decide) rfl rfl ⟨by decide, by decide⟩ (jC.of rfl k_X12_dayOf rfl ?_)
          show jX m_X12_dayOf 2 0 0 0 [(0, .ref 125), (1, .int l5)] [] _ 0 0 _
          refine x_aloadn (x := 125) rfl rfl ?_
          refine z_getR (N := 92) (b := 126) 12 2 rfl f_12_8 rfl J rfl 16002 ⟨rfl, rfl⟩ rfl ?_
          refine x_aloadn (x := 125) rfl rfl ?_
          refine x_iloadn (x := l5) rfl rfl ?_
          refine x_inv (N := m_X12_at) (As := [.int l5]) (b := 125) (st := [.ref 126]) (dx9 := 1) (mc := 0) (ms := 0) (host := "") 12 rfl t_X12_at ⟨Or.inl q_12_254, i_X12_at.1, i_X12_at.2⟩ ⟨by decide, rfl⟩ (congrArg Prod.fst (J.1.1 125 (12, 92) rfl)) rfl (by decide) rfl rfl ⟨by decide, by decide⟩ (jC.of rfl k_X12_at rfl ?_)
          show jX m_X12_at 1 0 0 0 [(0, .ref 125), (1, .int l5)] [] _ 0 0 _
          refine x_bipush (v := 20) rfl kb_20 ?_
          refine x_bipush (v := 90) rfl kb_90 ?_
          refine x_iloadn (x := l5) rfl rfl ?_
          refine z_imul rfl jk_90 rfl (by omega) (fun v10 ev10 => ?_)
          refine z_iadd rfl jk_20 rfl (by omega) (fun v11 ev11 => ?_)
          refine x_iret rfl rfl ?_
          show jX m_X12_dayOf 2 0 0 9 [(0, .ref 125), (1, .int l5)] [.int v11, .ref 126] _ 0 0 _
          refine x_iconst (v := 2) rfl ki_2 ?_
          refine z_iadd rfl rfl jk_2 (by omega) (fun v12 ev12 => ?_)
          refine z_iald (N := 50660) rfl J rfl sg_126_20_18020_90_2_3 rfl (by omega) (fun v13 qv13 ev13 => ?_)
          refine x_iret rfl rfl ?_
          show jX m_X12_reliefOf 3 0 0 48 [(0, .ref 125), (1, .int l1), (2, .int l2), (3, .int l3), (4, .int l4), (5, .int l5)] [.int v13, .int l4] _ 0 0 _
          refine z_i2l rfl rfl (fun v14 ev14 => ?_)
          refine x_iloadn (x := l2) rfl rfl ?_
          refine z_i2l rfl rfl (fun v15 ev15 => ?_)
          refine x_iloadn (x := l3) rfl rfl ?_
          refine z_i2l rfl rfl (fun v16 ev16 => ?_)
          refine x_inst (N := m_X12_in) (As := [.long v14, .long v15, .long v16]) (st := [.int l4]) (dx9 := 1) (mc := 0) (ms := 0) (host := "") rfl t_X12_in ⟨Or.inl q_12_188, s_X12_in⟩ rfl (by decide) rfl rfl ⟨by decide, by decide⟩ (zc_X12_in rfl rfl rfl (fun v17 ev17 => ?_))
          show jX m_X12_reliefOf 3 0 0 56 [(0, .ref 125), (1, .int l1), (2, .int l2), (3, .int l3), (4, .int l4), (5, .int l5)] [.int v17, .int l4] _ 0 0 _
          refine x_ifeq (tgt := 68) rfl rfl (ti_eq rfl jk_0 ⟨fun c18 => ?_, fun c18 => ?_⟩)
          ·
            exact jX.sub (jsb_c rfl (jsb_c rfl (jsb_c rfl (jsb_c rfl (jsb_c rfl jsb_n))))) (ct_X12_reliefOf_r125_68 hD hQ ih l1 l2 l3 l5 l4 h (jr_of rfl (by omega)) (jr_of rfl (by omega)) (jr_of rfl (by omega)) (jr_of rfl (by omega)) (by omega) J Sm)
          ·
            refine x_aloadn (x := 125) rfl rfl ?_
            refine x_iload (x := l5) rfl rfl ?_
            refine x_inv (N := m_X12_numberOf) (As := [.int l5]) (b := 125) (st := [.int l4]) (dx9 := 2) (mc := 0) (ms := 0) (host := "") 12 rfl t_X12_numberOf ⟨Or.inl q_12_296, i_X12_numberOf.1, i_X12_numberOf.2⟩ ⟨by decide, rfl⟩ (congrArg Prod.fst (J.1.1 125 (12, 92) rfl)) rfl (by decide) rfl rfl ⟨by decide, by decide⟩ (jC.of rfl k_X12_numberOf rfl ?_)
            show jX m_X12_numberOf 2 0 0 0 [(0, .ref 125), (1, .int l5)] [] _ 0 0 _
            refine x_aloadn (x := 125) rfl rfl ?_
            refine z_getR (N := 92) (b := 126) 12 2 rfl f_12_8 rfl J rfl 16002 ⟨rfl, rfl⟩ rfl ?_
            refine x_aloadn (x := 125) rfl rfl ?_
            refine x_iloadn (x := l5) rfl rfl ?_
            refine x_inv (N := m_X12_at) (As := [.int l5]) (b := 125) (st := [.ref 126]) (dx9 := 1) (mc := 0) (ms := 0) (host := "") 12 rfl t_X12_at ⟨Or.inl q_12_254, i_X12_at.1, i_X12_at.2⟩ ⟨by decide, rfl⟩ (congrArg Prod.fst (J.1.1 125 (12, 92) rfl)) rfl (by decide) rfl rfl ⟨by decide, by decide⟩ (jC.of rfl k_X12_at rfl ?_)
            show jX m_X12_at 1 0 0 0 [(0, .ref 125), (1, .int l5)] [] _ 0 0 _
            refine x_bipush (v := 20) rfl kb_20 ?_
            refine x_bipush (v := 90) rfl kb_90 ?_
            refine x_iloadn (x := l5) rfl rfl ?_
            refine z_imul rfl jk_90 rfl (by omega) (fun v19 ev19 => ?_)
            refine z_iadd rfl jk_20 rfl (by omega) (fun v20 ev20 => ?_)
            refine x_iret rfl rfl ?_
            show jX m_X12_numberOf 2 0 0 9 [(0, .ref 125), (1, .int l5)] [.int v20, .ref 126] _ 0 0 _
            refine x_iconst (v := 4) rfl ki_4 ?_
            refine z_iadd rfl rfl jk_4 (by omega) (fun v21 ev21 => ?_)
            refine z_iald0 (N := 50660) rfl J rfl rfl (by omega) (fun v22 qv22 => ?_)
            have ev22 := jfull v22
            refine x_iret rfl rfl ?_
            show jX m_X12_reliefOf 3 0 0 65 [(0, .ref 125), (1, .int l1), (2, .int l2), (3, .int l3), (4, .int l4), (5, .int l5)] [.int v22, .int l4] _ 0 0 _
            refine x_goto (tgt := 69) rfl rfl ?_
            exact jX.sub (jsb_c rfl (jsb_c rfl (jsb_c rfl (jsb_c rfl (jsb_c rfl jsb_n))))) (ct_X12_reliefOf_r125_69 hD hQ ih l1 l2 l3 l5 v22 l4 h (jr_of rfl (by omega)) (jr_of rfl (by omega)) (jr_of rfl (by omega)) (jr_of rfl (by omega)) (by omega) J Sm)
set_option maxRecDepth 100000 in
set_option maxHeartbeats 4000000 in
theorem sf_X12_reliefOf_r125 {Dy : jH → Prop} {h : jH} {Q : Option Value → jH → Prop} {a1 : Int32} {a2 : Int32} {a3 : Int32} (y1 : (-1) ≤ a1.toInt ∧ a1.toInt ≤ 599) (y2 : (-365) ≤ a2.toInt ∧ a2.toInt ≤ 146399) (y3 : 0 ≤ a3.toInt ∧ a3.toInt ≤ 146399) (hD : jDk Dy) (J : jJ jSgM Dy h) (hQ : ∀ (v : Int32) hx9, jJ jSgM Dy hx9 → jSm fp_X12_reliefOf_r125 h hx9 → Q (some (.int v)) hx9) : jC m_X12_reliefOf 3 0 0 [.ref 125, .int a1, .int a2, .int a3] h Q := by
  refine jC.of rfl k_X12_reliefOf rfl ?_
  have Sm := jSm_rf fp_X12_reliefOf_r125 h
  show jX m_X12_reliefOf 3 0 0 0 [(0, .ref 125), (1, .int a1), (2, .int a2), (3, .int a3)] [] _ 0 0 _
  refine x_iconst (v := 0) rfl ki_0 ?_
  refine x_istore (lsx9 := [(4, .int 0), (0, .ref 125), (1, .int a1), (2, .int a2), (3, .int a3)]) rfl rfl rfl ?_
  refine x_iconst (v := 0) rfl ki_0 ?_
  refine x_istore (lsx9 := [(5, .int 0), (4, .int 0), (0, .ref 125), (1, .int a1), (2, .int a2), (3, .int a3)]) rfl rfl rfl ?_
  exact jX.sub (jsb_c rfl (jsb_c rfl (jsb_c rfl (jsb_c rfl (jsb_c rfl (jsb_c rfl jsb_n)))))) (ct_X12_reliefOf_r125_6 hD hQ  201 a1 a2 a3 0 0 h (by have := jk_0; omega) (jr_of rfl (by omega)) (jr_of rfl (by omega)) (jr_of rfl (by omega)) (jr_of jk_0 (by omega)) J Sm)
def fp_X12_latest_r125_c47260 : jFp := []
set_option maxRecDepth 100000 in
set_option maxHeartbeats 4000000 in
theorem ct_X12_latest_r125_c47260_101 {Dy : jH → Prop} {h0 : jH} {Q : Option Value → jH → Prop} {R10 : Int} (hD : jDk Dy) (hQ : ∀ (v : Int32) hx9, (-2) ≤ v.toInt ∧ v.toInt ≤ 10000 → jJ jSgM Dy hx9 → jSm fp_X12_latest_r125_c47260 h0 hx9 → Q (some (.int v)) hx9) (k10 : ∀ (l2 : Int32) (l3 : Int32) (l4 : Int32) (l5 : Int32) (l6 : Int32) (l7 : Int32) (h : jH), 100 - l7.toInt < R10 → 0 ≤ l2.toInt ∧ l2.toInt ≤ 100 → 0 ≤ l3.toInt ∧ l3.toInt ≤ 39 → 0 ≤ l4.toInt ∧ l4.toInt ≤ 146399 → (-2) ≤ l5.toInt ∧ l5.toInt ≤ 10000 → (-1) ≤ l6.toInt ∧ l6.toInt ≤ 146399 → 0 ≤ l7.toInt ∧ l7.toInt ≤ 100 → jJ jSgM Dy h → jSm fp_X12_latest_r125_c47260 h0 h → jX m_X12_latest 1 0 0 10 [(0, .ref 125), (1, .int 47260), (2, .int l2), (3, .int l3), (4, .int l4), (5, .int l5), (6, .int l6), (7, .int l7)] [] h 0 0 Q) : ∀ (l2 : Int32) (l3 : Int32) (l4 : Int32) (l5 : Int32) (l6 : Int32) (l7 : Int32) (h : jH), 1 ≤ l2.toInt ∧ l2.toInt ≤ 100 → 0 ≤ l3.toInt ∧ l3.toInt ≤ 39 → 0 ≤ l4.toInt ∧ l4.toInt ≤ 146399 → (-2) ≤ l5.toInt ∧ l5.toInt ≤ 10000 → (-1) ≤ l6.toInt ∧ l6.toInt ≤ 146399 → 0 ≤ l7.toInt ∧ l7.toInt ≤ 99 → 100 - l7.toInt ≤ R10 → jJ jSgM Dy h → jSm fp_X12_latest_r125_c47260 h0 h → jX m_X12_latest 1 0 0 101 [(0, .ref 125), (1, .int 47260), (2, .int l2), (3, .int l3), (4, .int l4), (5, .int l5), (6, .int l6), (7, .int l7)] [] h 0 0 Q := by
  intro l2 l3 l4 l5 l6 l7 h y0 y1 y2 y3 y4 y5  m10 J Sm
  refine z_iinc (x := l7) (lsx9 := fun v1 => [(7, .int v1), (0, .ref 125), (1, .int 47260), (2, .int l2), (3, .int l3), (4, .int l4), (5, .int l5), (6, .int l6)]) rfl rfl rfl jko_1 (by omega) rfl (fun _ => rfl) (fun v1 ev1 => ?_)
  refine x_goto (tgt := 10) rfl rfl ?_
  exact jX.sub (jsb_c rfl (jsb_c rfl (jsb_c rfl (jsb_c rfl (jsb_c rfl (jsb_c rfl (jsb_c rfl (jsb_c rfl jsb_n)))))))) (k10 l2 l3 l4 l5 l6 v1 h (by omega) (jr_of rfl (by omega)) (jr_of rfl (by omega)) (jr_of rfl (by omega)) (jr_of rfl (by omega)) (jr_of rfl (by omega)) (jr_of rfl (by omega)) J Sm)
set_option maxRecDepth 100000 in
set_option maxHeartbeats 4000000 in
theorem ct_X12_latest_r125_c47260_10 {Dy : jH → Prop} {h0 : jH} {Q : Option Value → jH → Prop} (hD : jDk Dy) (hQ : ∀ (v : Int32) hx9, (-2) ≤ v.toInt ∧ v.toInt ≤ 10000 → jJ jSgM Dy hx9 → jSm fp_X12_latest_r125_c47260 h0 hx9 → Q (some (.int v)) hx9) : ∀ r : Nat, ∀ (l2 : Int32) (l3 : Int32) (l4 : Int32) (l5 : Int32) (l6 : Int32) (l7 : Int32) (h : jH), 100 - l7.toInt < (r : Int) → 0 ≤ l2.toInt ∧ l2.toInt ≤ 100 → 0 ≤ l3.toInt ∧ l3.toInt ≤ 39 → 0 ≤ l4.toInt ∧ l4.toInt ≤ 146399 → (-2) ≤ l5.toInt ∧ l5.toInt ≤ 10000 → (-1) ≤ l6.toInt ∧ l6.toInt ≤ 146399 → 0 ≤ l7.toInt ∧ l7.toInt ≤ 100 → jJ jSgM Dy h → jSm fp_X12_latest_r125_c47260 h0 h → jX m_X12_latest 1 0 0 10 [(0, .ref 125), (1, .int 47260), (2, .int l2), (3, .int l3), (4, .int l4), (5, .int l5), (6, .int l6), (7, .int l7)] [] h 0 0 Q := by
  intro r
  induction r with
  | zero =>
    intro l2 l3 l4 l5 l6 l7 h hm y0 y1 y2 y3 y4 y5   J Sm
    exfalso
    omega
  | succ r ih =>
    intro l2 l3 l4 l5 l6 l7 h hm y0 y1 y2 y3 y4 y5   J Sm
    refine x_iload (x := l7) rfl rfl ?_
    refine x_iloadn (x := l2) rfl rfl ?_
    refine x_icge (tgt := 107) rfl rfl (ti_ge rfl rfl ⟨fun c1 => ?_, fun c1 => ?_⟩)
    ·
      refine x_iload (x := l5) rfl rfl ?_
      refine x_iret rfl rfl ?_
      exact hQ _ _ (jr_of rfl (by omega)) J Sm
    ·
      refine x_iloadn (x := 47260) rfl rfl ?_
      refine x_iconst (v := 4) rfl ki_4 ?_
      refine x_iload (x := l7) rfl rfl ?_
      refine z_imul rfl jk_4 rfl (by omega) (fun v2 ev2 => ?_)
      refine z_iadd rfl jk_47260 rfl (by omega) (fun v3 ev3 => ?_)
      refine x_istore (lsx9 := [(8, .int v3), (0, .ref 125), (1, .int 47260), (2, .int l2), (3, .int l3), (4, .int l4), (5, .int l5), (6, .int l6), (7, .int l7)]) rfl rfl rfl ?_
      refine x_aloadn (x := 125) rfl rfl ?_
      refine z_getR (N := 92) (b := 126) 12 2 rfl f_12_8 rfl J rfl 16002 ⟨rfl, rfl⟩ rfl ?_
      refine x_iload (x := v3) rfl rfl ?_
      refine z_iald (N := 50660) rfl J rfl sg_126_47260_47660_4_0_1 rfl (by omega) (fun v4 qv4 ev4 => ?_)
      refine x_iloadn (x := l3) rfl rfl ?_
      refine x_icne (tgt := 101) rfl rfl (ti_ne rfl rfl ⟨fun c5 => ?_, fun c5 => ?_⟩)
      ·
        exact jX.sub (jsb_c rfl (jsb_c rfl (jsb_c rfl (jsb_c rfl (jsb_c rfl (jsb_c rfl (jsb_c rfl (jsb_c rfl jsb_n)))))))) (ct_X12_latest_r125_c47260_101 hD hQ ih l2 l3 l4 l5 l6 l7 h (jr_of rfl (by omega)) (jr_of rfl (by omega)) (jr_of rfl (by omega)) (jr_of rfl (by omega)) (jr_of rfl (by omega)) (jr_of rfl (by omega)) (by omega) J Sm)
      ·
        refine x_aloadn (x := 125) rfl rfl ?_
        refine z_getR (N := 92) (b := 126) 12 2 rfl f_12_8 rfl J rfl 16002 ⟨rfl, rfl⟩ rfl ?_
        refine x_iload (x := v3) rfl rfl ?_
        refine x_iconst (v := 3) rfl ki_3 ?_
        refine z_iadd rfl rfl jk_3 (by omega) (fun v6 ev6 => ?_)
        refine z_iald (N := 50660) rfl J rfl sg_126_47260_47660_4_3_4 rfl (by omega) (fun v7 qv7 ev7 => ?_)
        refine x_aloadn (x := 125) rfl rfl ?_
        refine z_getI (N := 92) 12 28 rfl f_12_377 rfl J rfl sg_125_28_29_1_0_1 (fun v8 qv8 ev8 => ?_)
        refine x_icgt (tgt := 101) rfl rfl (ti_gt rfl rfl ⟨fun c9 => ?_, fun c9 => ?_⟩)
        ·
          exact jX.sub (jsb_c rfl (jsb_c rfl (jsb_c rfl (jsb_c rfl (jsb_c rfl (jsb_c rfl (jsb_c rfl (jsb_c rfl jsb_n)))))))) (ct_X12_latest_r125_c47260_101 hD hQ ih l2 l3 l4 l5 l6 l7 h (jr_of rfl (by omega)) (jr_of rfl (by omega)) (jr_of rfl (by omega)) (jr_of rfl (by omega)) (jr_of rfl (by omega)) (jr_of rfl (by omega)) (by omega) J Sm)
        ·
          refine x_aloadn (x := 125) rfl rfl ?_
          refine z_getR (N := 92) (b := 126) 12 2 rfl f_12_8 rfl J rfl 16002 ⟨rfl, rfl⟩ rfl ?_
          refine x_iload (x := v3) rfl rfl ?_
          refine x_iconst (v := 2) rfl ki_2 ?_
          refine z_iadd rfl rfl jk_2 (by omega) (fun v10 ev10 => ?_)
          refine z_iald (N := 50660) rfl J rfl sg_126_47260_47660_4_2_3 rfl (by omega) (fun v11 qv11 ev11 => ?_)
          refine x_iload (x := l4) rfl rfl ?_
          refine x_icgt (tgt := 101) rfl rfl (ti_gt rfl rfl ⟨fun c12 => ?_, fun c12 => ?_⟩)
          ·
            exact jX.sub (jsb_c rfl (jsb_c rfl (jsb_c rfl (jsb_c rfl (jsb_c rfl (jsb_c rfl (jsb_c rfl (jsb_c rfl jsb_n)))))))) (ct_X12_latest_r125_c47260_101 hD hQ ih l2 l3 l4 l5 l6 l7 h (jr_of rfl (by omega)) (jr_of rfl (by omega)) (jr_of rfl (by omega)) (jr_of rfl (by omega)) (jr_of rfl (by omega)) (jr_of rfl (by omega)) (by omega) J Sm)
          ·
            refine x_aloadn (x := 125) rfl rfl ?_
            refine z_getR (N := 92) (b := 126) 12 2 rfl f_12_8 rfl J rfl 16002 ⟨rfl, rfl⟩ rfl ?_
            refine x_iload (x := v3) rfl rfl ?_
            refine x_iconst (v := 2) rfl ki_2 ?_
            refine z_iadd rfl rfl jk_2 (by omega) (fun v13 ev13 => ?_)
            refine z_iald (N := 50660) rfl J rfl sg_126_47260_47660_4_2_3 rfl (by omega) (fun v14 qv14 ev14 => ?_)
            refine x_iload (x := l6) rfl rfl ?_
            refine x_iclt (tgt := 101) rfl rfl (ti_lt rfl rfl ⟨fun c15 => ?_, fun c15 => ?_⟩)
            ·
              exact jX.sub (jsb_c rfl (jsb_c rfl (jsb_c rfl (jsb_c rfl (jsb_c rfl (jsb_c rfl (jsb_c rfl (jsb_c rfl jsb_n)))))))) (ct_X12_latest_r125_c47260_101 hD hQ ih l2 l3 l4 l5 l6 l7 h (jr_of rfl (by omega)) (jr_of rfl (by omega)) (jr_of rfl (by omega)) (jr_of rfl (by omega)) (jr_of rfl (by omega)) (jr_of rfl (by omega)) (by omega) J Sm)
            ·
              refine x_aloadn (x := 125) rfl rfl ?_
              refine z_getR (N := 92) (b := 126) 12 2 rfl f_12_8 rfl J rfl 16002 ⟨rfl, rfl⟩ rfl ?_
              refine x_iload (x := v3) rfl rfl ?_
              refine x_iconst (v := 2) rfl ki_2 ?_
              refine z_iadd rfl rfl jk_2 (by omega) (fun v16 ev16 => ?_)
              refine z_iald (N := 50660) rfl J rfl sg_126_47260_47660_4_2_3 rfl (by omega) (fun v17 qv17 ev17 => ?_)
              refine x_istore (lsx9 := [(6, .int v17), (8, .int v3), (0, .ref 125), (1, .int 47260), (2, .int l2), (3, .int l3), (4, .int l4), (5, .int l5), (7, .int l7)]) rfl rfl rfl ?_
              refine x_aloadn (x := 125) rfl rfl ?_
              refine z_getR (N := 92) (b := 126) 12 2 rfl f_12_8 rfl J rfl 16002 ⟨rfl, rfl⟩ rfl ?_
              refine x_iload (x := v3) rfl rfl ?_
              refine x_iconst (v := 1) rfl ki_1 ?_
              refine z_iadd rfl rfl jk_1 (by omega) (fun v18 ev18 => ?_)
              refine z_iald (N := 50660) rfl J rfl sg_126_47260_47660_4_1_2 rfl (by omega) (fun v19 qv19 ev19 => ?_)
              refine x_istore (lsx9 := [(5, .int v19), (6, .int v17), (8, .int v3), (0, .ref 125), (1, .int 47260), (2, .int l2), (3, .int l3), (4, .int l4), (7, .int l7)]) rfl rfl rfl ?_
              exact jX.sub (jsb_c rfl (jsb_c rfl (jsb_c rfl (jsb_c rfl (jsb_c rfl (jsb_c rfl (jsb_c rfl (jsb_c rfl jsb_n)))))))) (ct_X12_latest_r125_c47260_101 hD hQ ih l2 l3 l4 v19 v17 l7 h (jr_of rfl (by omega)) (jr_of rfl (by omega)) (jr_of rfl (by omega)) (jr_of rfl (by omega)) (jr_of rfl (by omega)) (jr_of rfl (by omega)) (by omega) J Sm)
set_option maxRecDepth 100000 in
set_option maxHeartbeats 4000000 in
theorem sf_X12_latest_r125_c47260 {Dy : jH → Prop} {h : jH} {Q : Option Value → jH → Prop} {a2 : Int32} {a3 : Int32} {a4 : Int32} (y2 : 0 ≤ a2.toInt ∧ a2.toInt ≤ 100) (y3 : 0 ≤ a3.toInt ∧ a3.toInt ≤ 39) (y4 : 0 ≤ a4.toInt ∧ a4.toInt ≤ 146399) (hD : jDk Dy) (J : jJ jSgM Dy h) (hQ : ∀ (v : Int32) hx9, (-2) ≤ v.toInt ∧ v.toInt ≤ 10000 → jJ jSgM Dy hx9 → jSm fp_X12_latest_r125_c47260 h hx9 → Q (some (.int v)) hx9) : jC m_X12_latest 1 0 0 [.ref 125, .int 47260, .int a2, .int a3, .int a4] h Q := by
  refine jC.of rfl k_X12_latest rfl ?_
  have Sm := jSm_rf fp_X12_latest_r125_c47260 h
  show jX m_X12_latest 1 0 0 0 [(0, .ref 125), (1, .int 47260), (2, .int a2), (3, .int a3), (4, .int a4)] [] _ 0 0 _
  refine x_bipush (v := (-2)) rfl kb_m2 ?_
  refine x_istore (lsx9 := [(5, .int (-2)), (0, .ref 125), (1, .int 47260), (2, .int a2), (3, .int a3), (4, .int a4)]) rfl rfl rfl ?_
  refine x_iconst (v := (-1)) rfl ki_m1 ?_
  refine x_istore (lsx9 := [(6, .int (-1)), (5, .int (-2)), (0, .ref 125), (1, .int 47260), (2, .int a2), (3, .int a3), (4, .int a4)]) rfl rfl rfl ?_
  refine x_iconst (v := 0) rfl ki_0 ?_
  refine x_istore (lsx9 := [(7, .int 0), (6, .int (-1)), (5, .int (-2)), (0, .ref 125), (1, .int 47260), (2, .int a2), (3, .int a3), (4, .int a4)]) rfl rfl rfl ?_
  exact jX.sub (jsb_c rfl (jsb_c rfl (jsb_c rfl (jsb_c rfl (jsb_c rfl (jsb_c rfl (jsb_c rfl (jsb_c rfl jsb_n)))))))) (ct_X12_latest_r125_c47260_10 hD hQ  101 a2 a3 a4 (-2) (-1) 0 h (by have := jk_0; omega) (jr_of rfl (by omega)) (jr_of rfl (by omega)) (jr_of rfl (by omega)) (jr_of jk_m2 (by omega)) (jr_of jk_m1 (by omega)) (jr_of jk_0 (by omega)) J Sm)
def fp_X12_latest_r125_c47900 : jFp := []
set_option maxRecDepth 100000 in
set_option maxHeartbeats 4000000 in
theorem ct_X12_latest_r125_c47900_101 {Dy : jH → Prop} {h0 : jH} {Q : Option Value → jH → Prop} {R10 : Int} (hD : jDk Dy) (hQ : ∀ (v : Int32) hx9, (-2) ≤ v.toInt ∧ v.toInt ≤ 599 → jJ jSgM Dy hx9 → jSm fp_X12_latest_r125_c47900 h0 hx9 → Q (some (.int v)) hx9) (k10 : ∀ (l2 : Int32) (l3 : Int32) (l4 : Int32) (l5 : Int32) (l6 : Int32) (l7 : Int32) (h : jH), 100 - l7.toInt < R10 → 0 ≤ l2.toInt ∧ l2.toInt ≤ 100 → 0 ≤ l3.toInt ∧ l3.toInt ≤ 39 → 0 ≤ l4.toInt ∧ l4.toInt ≤ 146399 → (-2) ≤ l5.toInt ∧ l5.toInt ≤ 599 → (-1) ≤ l6.toInt ∧ l6.toInt ≤ 146399 → 0 ≤ l7.toInt ∧ l7.toInt ≤ 100 → jJ jSgM Dy h → jSm fp_X12_latest_r125_c47900 h0 h → jX m_X12_latest 1 0 0 10 [(0, .ref 125), (1, .int 47900), (2, .int l2), (3, .int l3), (4, .int l4), (5, .int l5), (6, .int l6), (7, .int l7)] [] h 0 0 Q) : ∀ (l2 : Int32) (l3 : Int32) (l4 : Int32) (l5 : Int32) (l6 : Int32) (l7 : Int32) (h : jH), 1 ≤ l2.toInt ∧ l2.toInt ≤ 100 → 0 ≤ l3.toInt ∧ l3.toInt ≤ 39 → 0 ≤ l4.toInt ∧ l4.toInt ≤ 146399 → (-2) ≤ l5.toInt ∧ l5.toInt ≤ 599 → (-1) ≤ l6.toInt ∧ l6.toInt ≤ 146399 → 0 ≤ l7.toInt ∧ l7.toInt ≤ 99 → 100 - l7.toInt ≤ R10 → jJ jSgM Dy h → jSm fp_X12_latest_r125_c47900 h0 h → jX m_X12_latest 1 0 0 101 [(0, .ref 125), (1, .int 47900), (2, .int l2), (3, .int l3), (4, .int l4), (5, .int l5), (6, .int l6), (7, .int l7)] [] h 0 0 Q := by
  intro l2 l3 l4 l5 l6 l7 h y0 y1 y2 y3 y4 y5  m10 J Sm
  refine z_iinc (x := l7) (lsx9 := fun v1 => [(7, .int v1), (0, .ref 125), (1, .int 47900), (2, .int l2), (3, .int l3), (4, .int l4), (5, .int l5), (6, .int l6)]) rfl rfl rfl jko_1 (by omega) rfl (fun _ => rfl) (fun v1 ev1 => ?_)
  refine x_goto (tgt := 10) rfl rfl ?_
  exact jX.sub (jsb_c rfl (jsb_c rfl (jsb_c rfl (jsb_c rfl (jsb_c rfl (jsb_c rfl (jsb_c rfl (jsb_c rfl jsb_n)))))))) (k10 l2 l3 l4 l5 l6 v1 h (by omega) (jr_of rfl (by omega)) (jr_of rfl (by omega)) (jr_of rfl (by omega)) (jr_of rfl (by omega)) (jr_of rfl (by omega)) (jr_of rfl (by omega)) J Sm)
set_option maxRecDepth 100000 in
set_option maxHeartbeats 4000000 in
theorem ct_X12_latest_r125_c47900_10 {Dy : jH → Prop} {h0 : jH} {Q : Option Value → jH → Prop} (hD : jDk Dy) (hQ : ∀ (v : Int32) hx9, (-2) ≤ v.toInt ∧ v.toInt ≤ 599 → jJ jSgM Dy hx9 → jSm fp_X12_latest_r125_c47900 h0 hx9 → Q (some (.int v)) hx9) : ∀ r : Nat, ∀ (l2 : Int32) (l3 : Int32) (l4 : Int32) (l5 : Int32) (l6 : Int32) (l7 : Int32) (h : jH), 100 - l7.toInt < (r : Int) → 0 ≤ l2.toInt ∧ l2.toInt ≤ 100 → 0 ≤ l3.toInt ∧ l3.toInt ≤ 39 → 0 ≤ l4.toInt ∧ l4.toInt ≤ 146399 → (-2) ≤ l5.toInt ∧ l5.toInt ≤ 599 → (-1) ≤ l6.toInt ∧ l6.toInt ≤ 146399 → 0 ≤ l7.toInt ∧ l7.toInt ≤ 100 → jJ jSgM Dy h → jSm fp_X12_latest_r125_c47900 h0 h → jX m_X12_latest 1 0 0 10 [(0, .ref 125), (1, .int 47900), (2, .int l2), (3, .int l3), (4, .int l4), (5, .int l5), (6, .int l6), (7, .int l7)] [] h 0 0 Q := by
  intro r
  induction r with
  | zero =>
    intro l2 l3 l4 l5 l6 l7 h hm y0 y1 y2 y3 y4 y5   J Sm
    exfalso
    omega
  | succ r ih =>
    intro l2 l3 l4 l5 l6 l7 h hm y0 y1 y2 y3 y4 y5   J Sm
    refine x_iload (x := l7) rfl rfl ?_
    refine x_iloadn (x := l2) rfl rfl ?_
    refine x_icge (tgt := 107) rfl rfl (ti_ge rfl rfl ⟨fun c1 => ?_, fun c1 => ?_⟩)
    ·
      refine x_iload (x := l5) rfl rfl ?_
      refine x_iret rfl rfl ?_
      exact hQ _ _ (jr_of rfl (by omega)) J Sm
    ·
      refine x_iloadn (x := 47900) rfl rfl ?_
      refine x_iconst (v := 4) rfl ki_4 ?_
      refine x_iload (x := l7) rfl rfl ?_
      refine z_imul rfl jk_4 rfl (by omega) (fun v2 ev2 => ?_)
      refine z_iadd rfl jk_47900 rfl (by omega) (fun v3 ev3 => ?_)
      refine x_istore (lsx9 := [(8, .int v3), (0, .ref 125), (1, .int 47900), (2, .int l2), (3, .int l3), (4, .int l4), (5, .int l5), (6, .int l6), (7, .int l7)]) rfl rfl rfl ?_
      refine x_aloadn (x := 125) rfl rfl ?_
      refine z_getR (N := 92) (b := 126) 12 2 rfl f_12_8 rfl J rfl 16002 ⟨rfl, rfl⟩ rfl ?_
      refine x_iload (x := v3) rfl rfl ?_
      refine z_iald (N := 50660) rfl J rfl sg_126_47900_48300_4_0_1 rfl (by omega) (fun v4 qv4 ev4 => ?_)
      refine x_iloadn (x := l3) rfl rfl ?_
      refine x_icne (tgt := 101) rfl rfl (ti_ne rfl rfl ⟨fun c5 => ?_, fun c5 => ?_⟩)
      ·
        exact jX.sub (jsb_c rfl (jsb_c rfl (jsb_c rfl (jsb_c rfl (jsb_c rfl (jsb_c rfl (jsb_c rfl (jsb_c rfl jsb_n)))))))) (ct_X12_latest_r125_c47900_101 hD hQ ih l2 l3 l4 l5 l6 l7 h (jr_of rfl (by omega)) (jr_of rfl (by omega)) (jr_of rfl (by omega)) (jr_of rfl (by omega)) (jr_of rfl (by omega)) (jr_of rfl (by omega)) (by omega) J Sm)
      ·
        refine x_aloadn (x := 125) rfl rfl ?_
        refine z_getR (N := 92) (b := 126) 12 2 rfl f_12_8 rfl J rfl 16002 ⟨rfl, rfl⟩ rfl ?_
        refine x_iload (x := v3) rfl rfl ?_
        refine x_iconst (v := 3) rfl ki_3 ?_
        refine z_iadd rfl rfl jk_3 (by omega) (fun v6 ev6 => ?_)
        refine z_iald (N := 50660) rfl J rfl sg_126_47900_48300_4_3_4 rfl (by omega) (fun v7 qv7 ev7 => ?_)
        refine x_aloadn (x := 125) rfl rfl ?_
        refine z_getI (N := 92) 12 28 rfl f_12_377 rfl J rfl sg_125_28_29_1_0_1 (fun v8 qv8 ev8 => ?_)
        refine x_icgt (tgt := 101) rfl rfl (ti_gt rfl rfl ⟨fun c9 => ?_, fun c9 => ?_⟩)
        ·
          exact jX.sub (jsb_c rfl (jsb_c rfl (jsb_c rfl (jsb_c rfl (jsb_c rfl (jsb_c rfl (jsb_c rfl (jsb_c rfl jsb_n)))))))) (ct_X12_latest_r125_c47900_101 hD hQ ih l2 l3 l4 l5 l6 l7 h (jr_of rfl (by omega)) (jr_of rfl (by omega)) (jr_of rfl (by omega)) (jr_of rfl (by omega)) (jr_of rfl (by omega)) (jr_of rfl (by omega)) (by omega) J Sm)
        ·
          refine x_aloadn (x := 125) rfl rfl ?_
          refine z_getR (N := 92) (b := 126) 12 2 rfl f_12_8 rfl J rfl 16002 ⟨rfl, rfl⟩ rfl ?_
          refine x_iload (x := v3) rfl rfl ?_
          refine x_iconst (v := 2) rfl ki_2 ?_
          refine z_iadd rfl rfl jk_2 (by omega) (fun v10 ev10 => ?_)
          refine z_iald (N := 50660) rfl J rfl sg_126_47900_48300_4_2_3 rfl (by omega) (fun v11 qv11 ev11 => ?_)
          refine x_iload (x := l4) rfl rfl ?_
          refine x_icgt (tgt := 101) rfl rfl (ti_gt rfl rfl ⟨fun c12 => ?_, fun c12 => ?_⟩)
          ·
            exact jX.sub (jsb_c rfl (jsb_c rfl (jsb_c rfl (jsb_c rfl (jsb_c rfl (jsb_c rfl (jsb_c rfl (jsb_c rfl jsb_n)))))))) (ct_X12_latest_r125_c47900_101 hD hQ ih l2 l3 l4 l5 l6 l7 h (jr_of rfl (by omega)) (jr_of rfl (by omega)) (jr_of rfl (by omega)) (jr_of rfl (by omega)) (jr_of rfl (by omega)) (jr_of rfl (by omega)) (by omega) J Sm)
          ·
            refine x_aloadn (x := 125) rfl rfl ?_
            refine z_getR (N := 92) (b := 126) 12 2 rfl f_12_8 rfl J rfl 16002 ⟨rfl, rfl⟩ rfl ?_
            refine x_iload (x := v3) rfl rfl ?_
            refine x_iconst (v := 2) rfl ki_2 ?_
            refine z_iadd rfl rfl jk_2 (by omega) (fun v13 ev13 => ?_)
            refine z_iald (N := 50660) rfl J rfl sg_126_47900_48300_4_2_3 rfl (by omega) (fun v14 qv14 ev14 => ?_)
            refine x_iload (x := l6) rfl rfl ?_
            refine x_iclt (tgt := 101) rfl rfl (ti_lt rfl rfl ⟨fun c15 => ?_, fun c15 => ?_⟩)
            ·
              exact jX.sub (jsb_c rfl (jsb_c rfl (jsb_c rfl (jsb_c rfl (jsb_c rfl (jsb_c rfl (jsb_c rfl (jsb_c rfl jsb_n)))))))) (ct_X12_latest_r125_c47900_101 hD hQ ih l2 l3 l4 l5 l6 l7 h (jr_of rfl (by omega)) (jr_of rfl (by omega)) (jr_of rfl (by omega)) (jr_of rfl (by omega)) (jr_of rfl (by omega)) (jr_of rfl (by omega)) (by omega) J Sm)
            ·
              refine x_aloadn (x := 125) rfl rfl ?_
              refine z_getR (N := 92) (b := 126) 12 2 rfl f_12_8 rfl J rfl 16002 ⟨rfl, rfl⟩ rfl ?_
              refine x_iload (x := v3) rfl rfl ?_
              refine x_iconst (v := 2) rfl ki_2 ?_
              refine z_iadd rfl rfl jk_2 (by omega) (fun v16 ev16 => ?_)
              refine z_iald (N := 50660) rfl J rfl sg_126_47900_48300_4_2_3 rfl (by omega) (fun v17 qv17 ev17 => ?_)
              refine x_istore (lsx9 := [(6, .int v17), (8, .int v3), (0, .ref 125), (1, .int 47900), (2, .int l2), (3, .int l3), (4, .int l4), (5, .int l5), (7, .int l7)]) rfl rfl rfl ?_
              refine x_aloadn (x := 125) rfl rfl ?_
              refine z_getR (N := 92) (b := 126) 12 2 rfl f_12_8 rfl J rfl 16002 ⟨rfl, rfl⟩ rfl ?_
              refine x_iload (x := v3) rfl rfl ?_
              refine x_iconst (v := 1) rfl ki_1 ?_
              refine z_iadd rfl rfl jk_1 (by omega) (fun v18 ev18 => ?_)
              refine z_iald (N := 50660) rfl J rfl sg_126_47900_48300_4_1_2 rfl (by omega) (fun v19 qv19 ev19 => ?_)
              refine x_istore (lsx9 := [(5, .int v19), (6, .int v17), (8, .int v3), (0, .ref 125), (1, .int 47900), (2, .int l2), (3, .int l3), (4, .int l4), (7, .int l7)]) rfl rfl rfl ?_
              exact jX.sub (jsb_c rfl (jsb_c rfl (jsb_c rfl (jsb_c rfl (jsb_c rfl (jsb_c rfl (jsb_c rfl (jsb_c rfl jsb_n)))))))) (ct_X12_latest_r125_c47900_101 hD hQ ih l2 l3 l4 v19 v17 l7 h (jr_of rfl (by omega)) (jr_of rfl (by omega)) (jr_of rfl (by omega)) (jr_of rfl (by omega)) (jr_of rfl (by omega)) (jr_of rfl (by omega)) (by omega) J Sm)
set_option maxRecDepth 100000 in
set_option maxHeartbeats 4000000 in
theorem sf_X12_latest_r125_c47900 {Dy : jH → Prop} {h : jH} {Q : Option Value → jH → Prop} {a2 : Int32} {a3 : Int32} {a4 : Int32} (y2 : 0 ≤ a2.toInt ∧ a2.toInt ≤ 100) (y3 : 0 ≤ a3.toInt ∧ a3.toInt ≤ 39) (y4 : 0 ≤ a4.toInt ∧ a4.toInt ≤ 146399) (hD : jDk Dy) (J : jJ jSgM Dy h) (hQ : ∀ (v : Int32) hx9, (-2) ≤ v.toInt ∧ v.toInt ≤ 599 → jJ jSgM Dy hx9 → jSm fp_X12_latest_r125_c47900 h hx9 → Q (some (.int v)) hx9) : jC m_X12_latest 1 0 0 [.ref 125, .int 47900, .int a2, .int a3, .int a4] h Q := by
  refine jC.of rfl k_X12_latest rfl ?_
  have Sm := jSm_rf fp_X12_latest_r125_c47900 h
  show jX m_X12_latest 1 0 0 0 [(0, .ref 125), (1, .int 47900), (2, .int a2), (3, .int a3), (4, .int a4)] [] _ 0 0 _
  refine x_bipush (v := (-2)) rfl kb_m2 ?_
  refine x_istore (lsx9 := [(5, .int (-2)), (0, .ref 125), (1, .int 47900), (2, .int a2), (3, .int a3), (4, .int a4)]) rfl rfl rfl ?_
  refine x_iconst (v := (-1)) rfl ki_m1 ?_
  refine x_istore (lsx9 := [(6, .int (-1)), (5, .int (-2)), (0, .ref 125), (1, .int 47900), (2, .int a2), (3, .int a3), (4, .int a4)]) rfl rfl rfl ?_
  refine x_iconst (v := 0) rfl ki_0 ?_
  refine x_istore (lsx9 := [(7, .int 0), (6, .int (-1)), (5, .int (-2)), (0, .ref 125), (1, .int 47900), (2, .int a2), (3, .int a3), (4, .int a4)]) rfl rfl rfl ?_
  exact jX.sub (jsb_c rfl (jsb_c rfl (jsb_c rfl (jsb_c rfl (jsb_c rfl (jsb_c rfl (jsb_c rfl (jsb_c rfl jsb_n)))))))) (ct_X12_latest_r125_c47900_10 hD hQ  101 a2 a3 a4 (-2) (-1) 0 h (by have := jk_0; omega) (jr_of rfl (by omega)) (jr_of rfl (by omega)) (jr_of rfl (by omega)) (jr_of jk_m2 (by omega)) (jr_of jk_m1 (by omega)) (jr_of jk_0 (by omega)) J Sm)
def fp_X12_splitOf_r125 : jFp := []
set_option maxRecDepth 100000 in
set_option maxHeartbeats 4000000 in
theorem ct_X12_splitOf_r125_44 {Dy : jH → Prop} {h0 : jH} {Q : Option Value → jH → Prop} {R4 : Int} (hD : jDk Dy) (hQ : ∀ (v : Int32) hx9, (-1) ≤ v.toInt ∧ v.toInt ≤ 47894 → (v.toInt = -1 ∨ (47660 ≤ v.toInt ∧ v.toInt ≤ 47894 ∧ v.toInt % 6 = 2)) → jJ jSgM Dy hx9 → jSm fp_X12_splitOf_r125 h0 hx9 → Q (some (.int v)) hx9) (k4 : ∀ (l1 : Int32) (l2 : Int32) (l3 : Int32) (h : jH), 40 - l3.toInt < R4 → 0 ≤ l1.toInt ∧ l1.toInt ≤ 39 → (-1) ≤ l2.toInt ∧ l2.toInt ≤ 47894 → l2.toInt % 3 = 2 → 0 ≤ l3.toInt ∧ l3.toInt ≤ 40 → (l2.toInt = -1 ∨ (47660 ≤ l2.toInt ∧ l2.toInt ≤ 47894 ∧ l2.toInt % 6 = 2)) → jJ jSgM Dy h → jSm fp_X12_splitOf_r125 h0 h → jX m_X12_splitOf 1 0 0 4 [(0, .ref 125), (1, .int l1), (2, .int l2), (3, .int l3)] [] h 0 0 Q) : ∀ (l1 : Int32) (l3 : Int32) (s0 : Int32) (h : jH), 0 ≤ l1.toInt ∧ l1.toInt ≤ 39 → 0 ≤ l3.toInt ∧ l3.toInt ≤ 39 → (-1) ≤ s0.toInt ∧ s0.toInt ≤ 47894 → s0.toInt % 3 = 2 → (s0.toInt = -1 ∨ (47660 ≤ s0.toInt ∧ s0.toInt ≤ 47894 ∧ s0.toInt % 6 = 2)) → 40 - l3.toInt ≤ R4 → jJ jSgM Dy h → jSm fp_X12_splitOf_r125 h0 h → jX m_X12_splitOf 1 0 0 44 [(0, .ref 125), (1, .int l1), (3, .int l3)] [.int s0] h 0 0 Q := by
  intro l1 l3 s0 h y0 y1 y2 y3 y4  m4 J Sm
  refine x_istoren (lsx9 := [(2, .int s0), (0, .ref 125), (1, .int l1), (3, .int l3)]) rfl rfl rfl ?_
  refine z_iinc (x := l3) (lsx9 := fun v1 => [(3, .int v1), (2, .int s0), (0, .ref 125), (1, .int l1)]) rfl rfl rfl jko_1 (by omega) rfl (fun _ => rfl) (fun v1 ev1 => ?_)
  refine x_goto (tgt := 4) rfl rfl ?_
  exact jX.sub (jsb_c rfl (jsb_c rfl (jsb_c rfl (jsb_c rfl jsb_n)))) (k4 l1 s0 v1 h (by omega) (jr_of rfl (by omega)) (jr_of rfl (by omega)) (jr_mod rfl (by omega)) (jr_of rfl (by omega)) (by omega) J Sm)
set_option maxRecDepth 100000 in
set_option maxHeartbeats 4000000 in
theorem ct_X12_splitOf_r125_4 {Dy : jH → Prop} {h0 : jH} {Q : Option Value → jH → Prop} (hD : jDk Dy) (hQ : ∀ (v : Int32) hx9, (-1) ≤ v.toInt ∧ v.toInt ≤ 47894 → (v.toInt = -1 ∨ (47660 ≤ v.toInt ∧ v.toInt ≤ 47894 ∧ v.toInt % 6 = 2)) → jJ jSgM Dy hx9 → jSm fp_X12_splitOf_r125 h0 hx9 → Q (some (.int v)) hx9) : ∀ r : Nat, ∀ (l1 : Int32) (l2 : Int32) (l3 : Int32) (h : jH), 40 - l3.toInt < (r : Int) → 0 ≤ l1.toInt ∧ l1.toInt ≤ 39 → (-1) ≤ l2.toInt ∧ l2.toInt ≤ 47894 → l2.toInt % 3 = 2 → 0 ≤ l3.toInt ∧ l3.toInt ≤ 40 → (l2.toInt = -1 ∨ (47660 ≤ l2.toInt ∧ l2.toInt ≤ 47894 ∧ l2.toInt % 6 = 2)) → jJ jSgM Dy h → jSm fp_X12_splitOf_r125 h0 h → jX m_X12_splitOf 1 0 0 4 [(0, .ref 125), (1, .int l1), (2, .int l2), (3, .int l3)] [] h 0 0 Q := by
  intro r
  induction r with
  | zero =>
    intro l1 l2 l3 h hm y0 y1 y2 y3 y4   J Sm
    exfalso
    omega
  | succ r ih =>
    intro l1 l2 l3 h hm y0 y1 y2 y3 y4   J Sm
    refine x_iloadn (x := l3) rfl rfl ?_
    refine x_aloadn (x := 125) rfl rfl ?_
    refine z_getR (N := 92) (b := 126) 12 2 rfl f_12_8 rfl J rfl 16002 ⟨rfl, rfl⟩ rfl ?_
    refine x_bipush (v := 9) rfl kb_9 ?_
    refine z_iald (N := 50660) rfl J rfl sg_126_9_10_1_0_1 jk_9 (by omega) (fun v1 qv1 ev1 => ?_)
    refine x_icge (tgt := 51) rfl rfl (ti_ge rfl rfl ⟨fun c2 => ?_, fun c2 => ?_⟩)
    ·
      refine x_iloadn (x := l2) rfl rfl ?_
      refine x_iret rfl rfl ?_
      exact hQ _ _ (jr_of rfl (by omega)) (by omega) J Sm
    ·
      refine x_aloadn (x := 125) rfl rfl ?_
      refine z_getR (N := 92) (b := 126) 12 2 rfl f_12_8 rfl J rfl 16002 ⟨rfl, rfl⟩ rfl ?_
      refine x_ldcw (v := 47660) rfl z_12_799 ?_
      refine x_bipush (v := 6) rfl kb_6 ?_
      refine x_iloadn (x := l3) rfl rfl ?_
      refine z_imul rfl jk_6 rfl (by omega) (fun v3 ev3 => ?_)
      refine z_iadd rfl jk_47660 rfl (by omega) (fun v4 ev4 => ?_)
      refine z_iald (N := 50660) rfl J rfl sg_126_47660_47900_6_0_1 rfl (by omega) (fun v5 qv5 ev5 => ?_)
      refine x_iloadn (x := l1) rfl rfl ?_
      refine x_icne (tgt := 43) rfl rfl (ti_ne rfl rfl ⟨fun c6 => ?_, fun c6 => ?_⟩)
      ·
        refine x_iloadn (x := l2) rfl rfl ?_
        exact jX.sub (jsb_c rfl (jsb_c rfl (jsb_c rfl jsb_n))) (ct_X12_splitOf_r125_44 hD hQ ih l1 l3 l2 h (jr_of rfl (by omega)) (jr_of rfl (by omega)) (jr_of rfl (by omega)) (jr_mod rfl (by omega)) (by omega) (by omega) J Sm)
      ·
        refine x_ldcw (v := 47660) rfl z_12_799 ?_
        refine x_bipush (v := 6) rfl kb_6 ?_
        refine x_iloadn (x := l3) rfl rfl ?_
        refine z_imul rfl jk_6 rfl (by omega) (fun v7 ev7 => ?_)
        refine z_iadd rfl jk_47660 rfl (by omega) (fun v8 ev8 => ?_)
        refine x_goto (tgt := 44) rfl rfl ?_
        exact jX.sub (jsb_c rfl (jsb_c rfl (jsb_c rfl jsb_n))) (ct_X12_splitOf_r125_44 hD hQ ih l1 l3 v8 h (jr_of rfl (by omega)) (jr_of rfl (by omega)) (jr_of rfl (by omega)) (jr_mod rfl (by omega)) (by omega) (by omega) J Sm)
set_option maxRecDepth 100000 in
set_option maxHeartbeats 4000000 in
theorem sf_X12_splitOf_r125 {Dy : jH → Prop} {h : jH} {Q : Option Value → jH → Prop} {a1 : Int32} (y1 : 0 ≤ a1.toInt ∧ a1.toInt ≤ 39) (hD : jDk Dy) (J : jJ jSgM Dy h) (hQ : ∀ (v : Int32) hx9, (-1) ≤ v.toInt ∧ v.toInt ≤ 47894 → (v.toInt = -1 ∨ (47660 ≤ v.toInt ∧ v.toInt ≤ 47894 ∧ v.toInt % 6 = 2)) → jJ jSgM Dy hx9 → jSm fp_X12_splitOf_r125 h hx9 → Q (some (.int v)) hx9) : jC m_X12_splitOf 1 0 0 [.ref 125, .int a1] h Q := by
  refine jC.of rfl k_X12_splitOf rfl ?_
  have Sm := jSm_rf fp_X12_splitOf_r125 h
  show jX m_X12_splitOf 1 0 0 0 [(0, .ref 125), (1, .int a1)] [] _ 0 0 _
  refine x_iconst (v := (-1)) rfl ki_m1 ?_
  refine x_istoren (lsx9 := [(2, .int (-1)), (0, .ref 125), (1, .int a1)]) rfl rfl rfl ?_
  refine x_iconst (v := 0) rfl ki_0 ?_
  refine x_istoren (lsx9 := [(3, .int 0), (2, .int (-1)), (0, .ref 125), (1, .int a1)]) rfl rfl rfl ?_
  exact jX.sub (jsb_c rfl (jsb_c rfl (jsb_c rfl (jsb_c rfl jsb_n)))) (ct_X12_splitOf_r125_4 hD hQ  41 a1 (-1) 0 h (by have := jk_0; omega) (jr_of rfl (by omega)) (jr_of jk_m1 (by omega)) (jr_mod jk_m1 (by omega)) (jr_of jk_0 (by omega)) (by have := jk_m1; omega) J Sm)
def fp_X12_findHouses_r125_c0 : jFp := [(162, 0, 40), (163, 0, 40), (164, 0, 40)]
set_option maxRecDepth 100000 in
set_option maxHeartbeats 4000000 in
theorem ct_X12_findHouses_r125_c0_316 {Dy : jH → Prop} {h0 : jH} {Q : Option Value → jH → Prop} {R75 : Int} (hD : jDk Dy) (hQ : ∀ hx9, jJ jSgM Dy hx9 → jSm fp_X12_findHouses_r125_c0 h0 hx9 → Q none hx9) (k75 : ∀ (l1 : Int32) (l3 : Int32) (l4 : Int32) (h : jH), 40 - l4.toInt < R75 → 0 ≤ l1.toInt ∧ l1.toInt ≤ 146399 → 0 ≤ l3.toInt ∧ l3.toInt ≤ 40 → 0 ≤ l4.toInt ∧ l4.toInt ≤ 40 → jJ jSgM Dy h → jSm fp_X12_findHouses_r125_c0 h0 h → jX m_X12_findHouses 2 0 0 75 [(0, .ref 125), (1, .int l1), (2, .int 0), (3, .int l3), (4, .int l4)] [] h 0 0 Q) : ∀ (l1 : Int32) (l3 : Int32) (l4 : Int32) (s0 : Int32) (s1 : Int32) (h : jH), 0 ≤ l1.toInt ∧ l1.toInt ≤ 146399 → 1 ≤ l3.toInt ∧ l3.toInt ≤ 40 → 0 ≤ l4.toInt ∧ l4.toInt ≤ 39 → (-1) ≤ s0.toInt ∧ s0.toInt ≤ 599 → 0 ≤ s1.toInt ∧ s1.toInt ≤ 39 → 40 - l4.toInt ≤ R75 → jJ jSgM Dy h → jSm fp_X12_findHouses_r125_c0 h0 h → jX m_X12_findHouses 2 0 0 316 [(0, .ref 125), (1, .int l1), (2, .int 0), (3, .int l3), (4, .int l4)] [.int s0, .int s1, .ref 163] h 0 0 Q := by
  intro l1 l3 l4 s0 s1 h y0 y1 y2 y3 y4  m75 J Sm
  refine z_iast (N := 80) (l := 0) (u := 40) (w := s0.toInt) rfl hD J Sm rfl rfl rfl (by omega) rfl (wr_163_0 (by omega) (fun q1 q2 q3 q4 => by omega)) rfl (fun h w1 J Sm => ?_)
  refine z_iinc (x := l4) (lsx9 := fun v2 => [(4, .int v2), (0, .ref 125), (1, .int l1), (2, .int 0), (3, .int l3)]) rfl rfl rfl jko_1 (by omega) rfl (fun _ => rfl) (fun v2 ev2 => ?_)
  refine x_goto (tgt := 75) rfl rfl ?_
  exact jX.sub (jsb_c rfl (jsb_c rfl (jsb_c rfl (jsb_c rfl (jsb_c rfl jsb_n))))) (k75 l1 l3 v2 h (by omega) (jr_of rfl (by omega)) (jr_of rfl (by omega)) (jr_of rfl (by omega)) J Sm)
set_option maxRecDepth 100000 in
set_option maxHeartbeats 4000000 in
theorem ct_X12_findHouses_r125_c0_100316 {Dy : jH → Prop} {h0 : jH} {Q : Option Value → jH → Prop} {R75 : Int} (hD : jDk Dy) (hQ : ∀ hx9, jJ jSgM Dy hx9 → jSm fp_X12_findHouses_r125_c0 h0 hx9 → Q none hx9) (k75 : ∀ (l1 : Int32) (l3 : Int32) (l4 : Int32) (h : jH), 40 - l4.toInt < R75 → 0 ≤ l1.toInt ∧ l1.toInt ≤ 146399 → 0 ≤ l3.toInt ∧ l3.toInt ≤ 40 → 0 ≤ l4.toInt ∧ l4.toInt ≤ 40 → jJ jSgM Dy h → jSm fp_X12_findHouses_r125_c0 h0 h → jX m_X12_findHouses 2 0 0 75 [(0, .ref 125), (1, .int l1), (2, .int 0), (3, .int l3), (4, .int l4)] [] h 0 0 Q) : ∀ (l1 : Int32) (l3 : Int32) (l4 : Int32) (s1 : Int32) (h : jH), 0 ≤ l1.toInt ∧ l1.toInt ≤ 146399 → 1 ≤ l3.toInt ∧ l3.toInt ≤ 40 → 0 ≤ l4.toInt ∧ l4.toInt ≤ 39 → 0 ≤ s1.toInt ∧ s1.toInt ≤ 39 → 40 - l4.toInt ≤ R75 → jJ jSgM Dy h → jSm fp_X12_findHouses_r125_c0 h0 h → jX m_X12_findHouses 2 0 0 316 [(0, .ref 125), (1, .int l1), (2, .int 0), (3, .int l3), (4, .int l4)] [.int (-1), .int s1, .ref 163] h 0 0 Q := by
  intro l1 l3 l4 s1 h y0 y1 y2 y3  m75 J Sm
  refine z_iast (N := 80) (l := 0) (u := 40) (w := (-1)) rfl hD J Sm rfl rfl rfl (by omega) jk_m1 (wr_163_0 (by omega) (fun q1 q2 q3 q4 => by omega)) rfl (fun h w1 J Sm => ?_)
  refine z_iinc (x := l4) (lsx9 := fun v2 => [(4, .int v2), (0, .ref 125), (1, .int l1), (2, .int 0), (3, .int l3)]) rfl rfl rfl jko_1 (by omega) rfl (fun _ => rfl) (fun v2 ev2 => ?_)
  refine x_goto (tgt := 75) rfl rfl ?_
  exact jX.sub (jsb_c rfl (jsb_c rfl (jsb_c rfl (jsb_c rfl (jsb_c rfl jsb_n))))) (k75 l1 l3 v2 h (by omega) (jr_of rfl (by omega)) (jr_of rfl (by omega)) (jr_of rfl (by omega)) J Sm)
set_option maxRecDepth 100000 in
set_option maxHeartbeats 4000000 in
theorem ct_X12_findHouses_r125_c0_293 {Dy : jH → Prop} {h0 : jH} {Q : Option Value → jH → Prop} {R75 : Int} (hD : jDk Dy) (hQ : ∀ hx9, jJ jSgM Dy hx9 → jSm fp_X12_findHouses_r125_c0 h0 hx9 → Q none hx9) (k75 : ∀ (l1 : Int32) (l3 : Int32) (l4 : Int32) (h : jH), 40 - l4.toInt < R75 → 0 ≤ l1.toInt ∧ l1.toInt ≤ 146399 → 0 ≤ l3.toInt ∧ l3.toInt ≤ 40 → 0 ≤ l4.toInt ∧ l4.toInt ≤ 40 → jJ jSgM Dy h → jSm fp_X12_findHouses_r125_c0 h0 h → jX m_X12_findHouses 2 0 0 75 [(0, .ref 125), (1, .int l1), (2, .int 0), (3, .int l3), (4, .int l4)] [] h 0 0 Q) : ∀ (l1 : Int32) (l3 : Int32) (l4 : Int32) (s0 : Int32) (h : jH), 0 ≤ l1.toInt ∧ l1.toInt ≤ 146399 → 1 ≤ l3.toInt ∧ l3.toInt ≤ 40 → 0 ≤ l4.toInt ∧ l4.toInt ≤ 39 → 0 ≤ s0.toInt ∧ s0.toInt ≤ 39 → 40 - l4.toInt ≤ R75 → jJ jSgM Dy h → jSm fp_X12_findHouses_r125_c0 h0 h → jX m_X12_findHouses 2 0 0 293 [(0, .ref 125), (1, .int l1), (2, .int 0), (3, .int l3), (4, .int l4)] [.int s0, .ref 163] h 0 0 Q := by
  intro l1 l3 l4 s0 h y0 y1 y2 y3  m75 J Sm
  refine x_iconst (v := (-1)) rfl ki_m1 ?_
  refine x_goto (tgt := 316) rfl rfl ?_
  exact jX.sub (jsb_c rfl (jsb_c rfl (jsb_c rfl (jsb_c rfl (jsb_c rfl jsb_n))))) (ct_X12_findHouses_r125_c0_100316 hD hQ k75 l1 l3 l4 s0 h (jr_of rfl (by omega)) (jr_of rfl (by omega)) (jr_of rfl (by omega)) (jr_of rfl (by omega)) (by omega) J Sm)
set_option maxRecDepth 100000 in
set_option maxHeartbeats 4000000 in
theorem ct_X12_findHouses_r125_c0_208 {Dy : jH → Prop} {h0 : jH} {Q : Option Value → jH → Prop} {R75 : Int} {R93 : Int} (hD : jDk Dy) (hQ : ∀ hx9, jJ jSgM Dy hx9 → jSm fp_X12_findHouses_r125_c0 h0 hx9 → Q none hx9) (k75 : ∀ (l1 : Int32) (l3 : Int32) (l4 : Int32) (h : jH), 40 - l4.toInt < R75 → 0 ≤ l1.toInt ∧ l1.toInt ≤ 146399 → 0 ≤ l3.toInt ∧ l3.toInt ≤ 40 → 0 ≤ l4.toInt ∧ l4.toInt ≤ 40 → jJ jSgM Dy h → jSm fp_X12_findHouses_r125_c0 h0 h → jX m_X12_findHouses 2 0 0 75 [(0, .ref 125), (1, .int l1), (2, .int 0), (3, .int l3), (4, .int l4)] [] h 0 0 Q) (k93 : ∀ (l1 : Int32) (l3 : Int32) (l4 : Int32) (l5 : Int32) (l6 : Int32) (h : jH), 40 - l6.toInt < R93 → 0 ≤ l1.toInt ∧ l1.toInt ≤ 146399 → 1 ≤ l3.toInt ∧ l3.toInt ≤ 40 → 0 ≤ l4.toInt ∧ l4.toInt ≤ 39 → 0 ≤ l6.toInt ∧ l6.toInt ≤ 40 → 40 - l4.toInt ≤ R75 → jJ jSgM Dy h → jSm fp_X12_findHouses_r125_c0 h0 h → jX m_X12_findHouses 2 0 0 93 [(0, .ref 125), (1, .int l1), (2, .int 0), (3, .int l3), (4, .int l4), (5, .int l5), (6, .int l6)] [] h 0 0 Q) : ∀ (l1 : Int32) (l3 : Int32) (l4 : Int32) (l5 : Int32) (l6 : Int32) (h : jH), 0 ≤ l1.toInt ∧ l1.toInt ≤ 146399 → 1 ≤ l3.toInt ∧ l3.toInt ≤ 40 → 0 ≤ l4.toInt ∧ l4.toInt ≤ 39 → 0 ≤ l6.toInt ∧ l6.toInt ≤ 39 → 40 - l4.toInt ≤ R75 → 40 - l6.toInt ≤ R93 → jJ jSgM Dy h → jSm fp_X12_findHouses_r125_c0 h0 h → jX m_X12_findHouses 2 0 0 208 [(0, .ref 125), (1, .int l1), (2, .int 0), (3, .int l3), (4, .int l4), (5, .int l5), (6, .int l6)] [] h 0 0 Q := by
  intro l1 l3 l4 l5 l6 h y0 y1 y2 y3  m75 m93 J Sm
  have el5 := jfull l5
  refine z_iinc (x := l6) (lsx9 := fun v1 => [(6, .int v1), (0, .ref 125), (1, .int l1), (2, .int 0), (3, .int l3), (4, .int l4), (5, .int l5)]) rfl rfl rfl jko_1 (by omega) rfl (fun _ => rfl) (fun v1 ev1 => ?_)
  refine x_goto (tgt := 93) rfl rfl ?_
  exact jX.sub (jsb_c rfl (jsb_c rfl (jsb_c rfl (jsb_c rfl (jsb_c rfl (jsb_c rfl (jsb_c rfl jsb_n))))))) (k93 l1 l3 l4 l5 v1 h (by omega) (jr_of rfl (by omega)) (jr_of rfl (by omega)) (jr_of rfl (by omega)) (jr_of rfl (by omega)) (by omega) J Sm)
set_option maxRecDepth 100000 in
set_option maxHeartbeats 4000000 in
theorem ct_X12_findHouses_r125_c0_93 {Dy : jH → Prop} {h0 : jH} {Q : Option Value → jH → Prop} {R75 : Int} (hD : jDk Dy) (hQ : ∀ hx9, jJ jSgM Dy hx9 → jSm fp_X12_findHouses_r125_c0 h0 hx9 → Q none hx9) (k75 : ∀ (l1 : Int32) (l3 : Int32) (l4 : Int32) (h : jH), 40 - l4.toInt < R75 → 0 ≤ l1.toInt ∧ l1.toInt ≤ 146399 → 0 ≤ l3.toInt ∧ l3.toInt ≤ 40 → 0 ≤ l4.toInt ∧ l4.toInt ≤ 40 → jJ jSgM Dy h → jSm fp_X12_findHouses_r125_c0 h0 h → jX m_X12_findHouses 2 0 0 75 [(0, .ref 125), (1, .int l1), (2, .int 0), (3, .int l3), (4, .int l4)] [] h 0 0 Q) : ∀ r : Nat, ∀ (l1 : Int32) (l3 : Int32) (l4 : Int32) (l5 : Int32) (l6 : Int32) (h : jH), 40 - l6.toInt < (r : Int) → 0 ≤ l1.toInt ∧ l1.toInt ≤ 146399 → 1 ≤ l3.toInt ∧ l3.toInt ≤ 40 → 0 ≤ l4.toInt ∧ l4.toInt ≤ 39 → 0 ≤ l6.toInt ∧ l6.toInt ≤ 40 → 40 - l4.toInt ≤ R75 → jJ jSgM Dy h → jSm fp_X12_findHouses_r125_c0 h0 h → jX m_X12_findHouses 2 0 0 93 [(0, .ref 125), (1, .int l1), (2, .int 0), (3, .int l3), (4, .int l4), (5, .int l5), (6, .int l6)] [] h 0 0 Q := by
  intro r
  induction r with
  | zero =>
    intro l1 l3 l4 l5 l6 h hm y0 y1 y2 y3  m75 J Sm
    exfalso
    have el5 := jfull l5
    omega
  | succ r ih =>
    intro l1 l3 l4 l5 l6 h hm y0 y1 y2 y3  m75 J Sm
    have el5 := jfull l5
    refine x_iload (x := l6) rfl rfl ?_
    refine x_aloadn (x := 125) rfl rfl ?_
    refine z_getR (N := 92) (b := 126) 12 2 rfl f_12_8 rfl J rfl 16002 ⟨rfl, rfl⟩ rfl ?_
    refine x_bipush (v := 9) rfl kb_9 ?_
    refine z_iald (N := 50660) rfl J rfl sg_126_9_10_1_0_1 jk_9 (by omega) (fun v1 qv1 ev1 => ?_)
    refine x_icge (tgt := 214) rfl rfl (ti_ge rfl rfl ⟨fun c2 => ?_, fun c2 => ?_⟩)
    ·
      refine x_aloadn (x := 125) rfl rfl ?_
      refine z_getR (N := 92) (b := 162) 12 77 rfl f_12_144 rfl J rfl 16077 ⟨rfl, rfl⟩ rfl ?_
      refine x_bipush (v := 40) rfl kb_40 ?_
      refine x_iloadn (x := 0) rfl rfl ?_
      refine y_imul (v := 0) rfl (by decide) ?_
      refine x_iload (x := l4) rfl rfl ?_
      refine z_iadd rfl jk_0 rfl (by omega) (fun v3 ev3 => ?_)
      refine x_iload (x := l5) rfl rfl ?_
      refine z_iast (N := 80) (l := 0) (u := 40) (w := l5.toInt) rfl hD J Sm rfl rfl rfl (by omega) rfl (wr_162_0 (by omega)) rfl (fun h w4 J Sm => ?_)
      refine x_aloadn (x := 125) rfl rfl ?_
      refine x_ldcw (v := 47900) rfl z_12_808 ?_
      refine x_aloadn (x := 125) rfl rfl ?_
      refine z_getR (N := 92) (b := 126) 12 2 rfl f_12_8 rfl J rfl 16002 ⟨rfl, rfl⟩ rfl ?_
      refine x_bipush (v := 10) rfl kb_10 ?_
      refine z_iald (N := 50660) rfl J rfl sg_126_10_11_1_0_1 jk_10 (by omega) (fun v5 qv5 ev5 => ?_)
      refine x_iload (x := l4) rfl rfl ?_
      refine x_iloadn (x := l1) rfl rfl ?_
      refine x_inv (N := m_X12_latest) (As := [.int 47900, .int v5, .int l4, .int l1]) (b := 125) (st := []) (dx9 := 1) (mc := 0) (ms := 0) (host := "") 12 rfl t_X12_latest ⟨Or.inl q_12_801, i_X12_latest.1, i_X12_latest.2⟩ ⟨by decide, rfl⟩ (congrArg Prod.fst (J.1.1 125 (12, 92) rfl)) rfl (by decide) rfl rfl ⟨by decide, by decide⟩ (sf_X12_latest_r125_c47900 (jr_of rfl (by omega)) (jr_of rfl (by omega)) (jr_of rfl (by omega)) hD J  (fun v7 h ev7 J S6 => ?_))
      have Sm := jSm_tr rfl Sm S6
      show jX m_X12_findHouses 2 0 0 245 [(0, .ref 125), (1, .int l1), (2, .int 0), (3, .int l3), (4, .int l4), (5, .int l5), (6, .int l6)] [.int v7] _ 0 0 _
      refine x_istore (lsx9 := [(6, .int v7), (0, .ref 125), (1, .int l1), (2, .int 0), (3, .int l3), (4, .int l4), (5, .int l5)]) rfl rfl rfl ?_
      refine x_aloadn (x := 125) rfl rfl ?_
      refine x_iload (x := l4) rfl rfl ?_
      refine x_inv (N := m_X12_splitOf) (As := [.int l4]) (b := 125) (st := []) (dx9 := 1) (mc := 0) (ms := 0) (host := "") 12 rfl t_X12_splitOf ⟨Or.inl q_12_805, i_X12_splitOf.1, i_X12_splitOf.2⟩ ⟨by decide, rfl⟩ (congrArg Prod.fst (J.1.1 125 (12, 92) rfl)) rfl (by decide) rfl rfl ⟨by decide, by decide⟩ (sf_X12_splitOf_r125 (jr_of rfl (by omega)) hD J  (fun v9 h ev9 xv9 J S8 => ?_))
      have Sm := jSm_tr rfl Sm S8
      show jX m_X12_findHouses 2 0 0 253 [(6, .int v7), (0, .ref 125), (1, .int l1), (2, .int 0), (3, .int l3), (4, .int l4), (5, .int l5)] [.int v9] _ 0 0 _
      refine x_istore (lsx9 := [(7, .int v9), (6, .int v7), (0, .ref 125), (1, .int l1), (2, .int 0), (3, .int l3), (4, .int l4), (5, .int l5)]) rfl rfl rfl ?_
      refine x_aloadn (x := 125) rfl rfl ?_
      refine z_getR (N := 92) (b := 163) 12 78 rfl f_12_147 rfl J rfl 16078 ⟨rfl, rfl⟩ rfl ?_
      refine x_bipush (v := 40) rfl kb_40 ?_
      refine x_iloadn (x := 0) rfl rfl ?_
      refine y_imul (v := 0) rfl (by decide) ?_
      refine x_iload (x := l4) rfl rfl ?_
      refine z_iadd rfl jk_0 rfl (by omega) (fun v10 ev10 => ?_)
      refine x_iload (x := v7) rfl rfl ?_
      refine x_iflt (tgt := 281) rfl rfl (ti_lt rfl jk_0 ⟨fun c11 => ?_, fun c11 => ?_⟩)
      ·
        refine x_iload (x := v7) rfl rfl ?_
        refine x_iconst (v := (-1)) rfl ki_m1 ?_
        refine x_iceq (tgt := 293) rfl rfl (ti_eq rfl jk_m1 ⟨fun c12 => ?_, fun c12 => ?_⟩)
        ·
          exact jX.sub (jsb_c rfl (jsb_c rfl (jsb_c rfl (jsb_c rfl (jsb_c rfl jsb_n))))) (ct_X12_findHouses_r125_c0_293 hD hQ k75 l1 l3 l4 v10 h (jr_of rfl (by omega)) (jr_of rfl (by omega)) (jr_of rfl (by omega)) (jr_of rfl (by omega)) (by omega) J Sm)
        ·
          refine x_iload (x := v9) rfl rfl ?_
          refine x_iconst (v := (-1)) rfl ki_m1 ?_
          refine x_icne (tgt := 297) rfl rfl (ti_ne rfl jk_m1 ⟨fun c13 => ?_, fun c13 => ?_⟩)
          ·
            refine x_aloadn (x := 125) rfl rfl ?_
            refine z_getR (N := 92) (b := 163) 12 78 rfl f_12_147 rfl J rfl 16078 ⟨rfl, rfl⟩ rfl ?_
            refine x_bipush (v := 40) rfl kb_40 ?_
            refine x_iloadn (x := 0) rfl rfl ?_
            refine y_imul (v := 0) rfl (by decide) ?_
            refine x_aloadn (x := 125) rfl rfl ?_
            refine z_getR (N := 92) (b := 126) 12 2 rfl f_12_8 rfl J rfl 16002 ⟨rfl, rfl⟩ rfl ?_
            refine x_iload (x := v9) rfl rfl ?_
            refine x_iconst (v := 1) rfl ki_1 ?_
            refine z_iadd rfl rfl jk_1 (by omega) (fun v14 ev14 => ?_)
            refine z_iald (N := 50660) rfl J rfl sg_126_47660_47900_6_1_2 rfl (by omega) (fun v15 qv15 ev15 => ?_)
            refine z_iadd rfl jk_0 rfl (by omega) (fun v16 ev16 => ?_)
            refine z_iald (N := 80) rfl J rfl sg_163_0_80_1_0_1 rfl (by omega) (fun v17 qv17 ev17 => ?_)
            exact jX.sub (jsb_c rfl (jsb_c rfl (jsb_c rfl (jsb_c rfl (jsb_c rfl jsb_n))))) (ct_X12_findHouses_r125_c0_316 hD hQ k75 l1 l3 l4 v17 v10 h (jr_of rfl (by omega)) (jr_of rfl (by omega)) (jr_of rfl (by omega)) (jr_of rfl (by omega)) (jr_of rfl (by omega)) (by omega) J Sm)
          ·
            exact jX.sub (jsb_c rfl (jsb_c rfl (jsb_c rfl (jsb_c rfl (jsb_c rfl jsb_n))))) (ct_X12_findHouses_r125_c0_293 hD hQ k75 l1 l3 l4 v10 h (jr_of rfl (by omega)) (jr_of rfl (by omega)) (jr_of rfl (by omega)) (jr_of rfl (by omega)) (by omega) J Sm)
      ·
        refine x_aloadn (x := 125) rfl rfl ?_
        refine z_getR (N := 92) (b := 139) 12 29 rfl f_12_72 rfl J rfl 16029 ⟨rfl, rfl⟩ rfl ?_
        refine x_iload (x := v7) rfl rfl ?_
        refine z_iald (N := 600) rfl J rfl sg_139_0_600_1_0_1 rfl (by omega) (fun v18 qv18 ev18 => ?_)
        refine x_goto (tgt := 316) rfl rfl ?_
        exact jX.sub (jsb_c rfl (jsb_c rfl (jsb_c rfl (jsb_c rfl (jsb_c rfl jsb_n))))) (ct_X12_findHouses_r125_c0_316 hD hQ k75 l1 l3 l4 v18 v10 h (jr_of rfl (by omega)) (jr_of rfl (by omega)) (jr_of rfl (by omega)) (jr_of rfl (by omega)) (jr_of rfl (by omega)) (by omega) J Sm)
    ·
      refine x_ldcw (v := 47660) rfl z_12_799 ?_
      refine x_bipush (v := 6) rfl kb_6 ?_
      refine x_iload (x := l6) rfl rfl ?_
      refine z_imul rfl jk_6 rfl (by omega) (fun v19 ev19 => ?_)
      refine z_iadd rfl jk_47660 rfl (by omega) (fun v20 ev20 => ?_)
      refine x_istore (lsx9 := [(7, .int v20), (0, .ref 125), (1, .int l1), (2, .int 0), (3, .int l3), (4, .int l4), (5, .int l5), (6, .int l6)]) rfl rfl rfl ?_
      refine x_aloadn (x := 125) rfl rfl ?_
      refine z_getR (N := 92) (b := 126) 12 2 rfl f_12_8 rfl J rfl 16002 ⟨rfl, rfl⟩ rfl ?_
      refine x_iload (x := v20) rfl rfl ?_
      refine x_iconst (v := 1) rfl ki_1 ?_
      refine z_iadd rfl rfl jk_1 (by omega) (fun v21 ev21 => ?_)
      refine z_iald (N := 50660) rfl J rfl sg_126_47660_47900_6_1_2 rfl (by omega) (fun v22 qv22 ev22 => ?_)
      refine x_iload (x := l4) rfl rfl ?_
      refine x_icne (tgt := 208) rfl rfl (ti_ne rfl rfl ⟨fun c23 => ?_, fun c23 => ?_⟩)
      ·
        exact jX.sub (jsb_c rfl (jsb_c rfl (jsb_c rfl (jsb_c rfl (jsb_c rfl (jsb_c rfl (jsb_c rfl jsb_n))))))) (ct_X12_findHouses_r125_c0_208 hD hQ k75 ih l1 l3 l4 l5 l6 h (jr_of rfl (by omega)) (jr_of rfl (by omega)) (jr_of rfl (by omega)) (jr_of rfl (by omega)) (by omega) (by omega) J Sm)
      ·
        refine x_aloadn (x := 125) rfl rfl ?_
        refine z_getR (N := 92) (b := 126) 12 2 rfl f_12_8 rfl J rfl 16002 ⟨rfl, rfl⟩ rfl ?_
        refine x_iload (x := v20) rfl rfl ?_
        refine x_iconst (v := 4) rfl ki_4 ?_
        refine z_iadd rfl rfl jk_4 (by omega) (fun v24 ev24 => ?_)
        refine z_iald (N := 50660) rfl J rfl sg_126_47660_47900_6_4_5 rfl (by omega) (fun v25 qv25 ev25 => ?_)
        refine x_iloadn (x := l1) rfl rfl ?_
        refine x_icgt (tgt := 208) rfl rfl (ti_gt rfl rfl ⟨fun c26 => ?_, fun c26 => ?_⟩)
        ·
          exact jX.sub (jsb_c rfl (jsb_c rfl (jsb_c rfl (jsb_c rfl (jsb_c rfl (jsb_c rfl (jsb_c rfl jsb_n))))))) (ct_X12_findHouses_r125_c0_208 hD hQ k75 ih l1 l3 l4 l5 l6 h (jr_of rfl (by omega)) (jr_of rfl (by omega)) (jr_of rfl (by omega)) (jr_of rfl (by omega)) (by omega) (by omega) J Sm)
        ·
          refine x_aloadn (x := 125) rfl rfl ?_
          refine z_getR (N := 92) (b := 126) 12 2 rfl f_12_8 rfl J rfl 16002 ⟨rfl, rfl⟩ rfl ?_
          refine x_iload (x := v20) rfl rfl ?_
          refine x_iconst (v := 5) rfl ki_5 ?_
          refine z_iadd rfl rfl jk_5 (by omega) (fun v27 ev27 => ?_)
          refine z_iald (N := 50660) rfl J rfl sg_126_47660_47900_6_5_6 rfl (by omega) (fun v28 qv28 ev28 => ?_)
          refine x_aloadn (x := 125) rfl rfl ?_
          refine z_getI (N := 92) 12 28 rfl f_12_377 rfl J rfl sg_125_28_29_1_0_1 (fun v29 qv29 ev29 => ?_)
          refine x_icgt (tgt := 208) rfl rfl (ti_gt rfl rfl ⟨fun c30 => ?_, fun c30 => ?_⟩)
          ·
            exact jX.sub (jsb_c rfl (jsb_c rfl (jsb_c rfl (jsb_c rfl (jsb_c rfl (jsb_c rfl (jsb_c rfl jsb_n))))))) (ct_X12_findHouses_r125_c0_208 hD hQ k75 ih l1 l3 l4 l5 l6 h (jr_of rfl (by omega)) (jr_of rfl (by omega)) (jr_of rfl (by omega)) (jr_of rfl (by omega)) (by omega) (by omega) J Sm)
          ·
            refine x_iload (x := l5) rfl rfl ?_
            refine z_i2l rfl rfl (fun v31 ev31 => ?_)
            refine x_aloadn (x := 125) rfl rfl ?_
            refine z_getR (N := 92) (b := 126) 12 2 rfl f_12_8 rfl J rfl 16002 ⟨rfl, rfl⟩ rfl ?_
            refine x_iload (x := v20) rfl rfl ?_
            refine x_iconst (v := 2) rfl ki_2 ?_
            refine z_iadd rfl rfl jk_2 (by omega) (fun v32 ev32 => ?_)
            refine z_iald (N := 50660) rfl J rfl sg_126_47660_47900_6_2_3 rfl (by omega) (fun v33 qv33 ev33 => ?_)
            refine z_i2l rfl rfl (fun v34 ev34 => ?_)
            refine z_lmul0 rfl (fun v35 => ?_)
            have ev35 := jfullL v35
            refine x_aloadn (x := 125) rfl rfl ?_
            refine z_getR (N := 92) (b := 126) 12 2 rfl f_12_8 rfl J rfl 16002 ⟨rfl, rfl⟩ rfl ?_
            refine x_iload (x := v20) rfl rfl ?_
            refine x_iconst (v := 3) rfl ki_3 ?_
            refine z_iadd rfl rfl jk_3 (by omega) (fun v36 ev36 => ?_)
            refine z_iald (N := 50660) rfl J rfl sg_126_47660_47900_6_3_4 rfl (by omega) (fun v37 qv37 ev37 => ?_)
            have sv37 := jspt_at (p := l6.toInt) hD J (by omega) (by omega) qv1 qv37
            refine z_i2l rfl rfl (fun v38 ev38 => ?_)
            refine z_ldiv0 rfl rfl (by omega) (fun v39 => ?_)
            have ev39 := jfullL v39
            refine z_l2i0 rfl (fun v40 => ?_)
            refine x_istore (lsx9 := [(8, .int v40), (7, .int v20), (0, .ref 125), (1, .int l1), (2, .int 0), (3, .int l3), (4, .int l4), (5, .int l5), (6, .int l6)]) rfl rfl rfl ?_
            refine x_aloadn (x := 125) rfl rfl ?_
            refine z_getR (N := 92) (b := 164) 12 79 rfl f_12_150 rfl J rfl 16079 ⟨rfl, rfl⟩ rfl ?_
            refine x_aloadn (x := 125) rfl rfl ?_
            refine z_getR (N := 92) (b := 126) 12 2 rfl f_12_8 rfl J rfl 16002 ⟨rfl, rfl⟩ rfl ?_
            refine x_iload (x := v20) rfl rfl ?_
            refine z_iald (N := 50660) rfl J rfl sg_126_47660_47900_6_0_1 rfl (by omega) (fun v41 qv41 ev41 => ?_)
            refine x_iload (x := v40) rfl rfl ?_
            refine z_iast (N := 40) (l := 0) (u := 40) (w := v40.toInt) rfl hD J Sm rfl rfl rfl (by omega) rfl (wr_164) rfl (fun h w42 J Sm => ?_)
            refine x_iload (x := l5) rfl rfl ?_
            refine x_iload (x := v40) rfl rfl ?_
            refine z_isub0 rfl (fun v43 => ?_)
            have ev43 := jfull v43
            refine x_istore (lsx9 := [(5, .int v43), (8, .int v40), (7, .int v20), (0, .ref 125), (1, .int l1), (2, .int 0), (3, .int l3), (4, .int l4), (6, .int l6)]) rfl rfl rfl ?_
            exact jX.sub (jsb_c rfl (jsb_c rfl (jsb_c rfl (jsb_c rfl (jsb_c rfl (jsb_c rfl (jsb_c rfl jsb_n))))))) (ct_X12_findHouses_r125_c0_208 hD hQ k75 ih l1 l3 l4 v43 l6 h (jr_of rfl (by omega)) (jr_of rfl (by omega)) (jr_of rfl (by omega)) (jr_of rfl (by omega)) (by omega) (by omega) J Sm)
set_option maxRecDepth 100000 in
set_option maxHeartbeats 4000000 in
theorem ct_X12_findHouses_r125_c0_75 {Dy : jH → Prop} {h0 : jH} {Q : Option Value → jH → Prop} (hD : jDk Dy) (hQ : ∀ hx9, jJ jSgM Dy hx9 → jSm fp_X12_findHouses_r125_c0 h0 hx9 → Q none hx9) : ∀ r : Nat, ∀ (l1 : Int32) (l3 : Int32) (l4 : Int32) (h : jH), 40 - l4.toInt < (r : Int) → 0 ≤ l1.toInt ∧ l1.toInt ≤ 146399 → 0 ≤ l3.toInt ∧ l3.toInt ≤ 40 → 0 ≤ l4.toInt ∧ l4.toInt ≤ 40 → jJ jSgM Dy h → jSm fp_X12_findHouses_r125_c0 h0 h → jX m_X12_findHouses 2 0 0 75 [(0, .ref 125), (1, .int l1), (2, .int 0), (3, .int l3), (4, .int l4)] [] h 0 0 Q := by
  intro r
  induction r with
  | zero =>
    intro l1 l3 l4 h hm y0 y1 y2   J Sm
    exfalso
    omega
  | succ r ih =>
    intro l1 l3 l4 h hm y0 y1 y2   J Sm
    refine x_iload (x := l4) rfl rfl ?_
    refine x_iloadn (x := l3) rfl rfl ?_
    refine x_icge (tgt := 323) rfl rfl (ti_ge rfl rfl ⟨fun c1 => ?_, fun c1 => ?_⟩)
    ·
      refine x_vret rfl rfl ?_
      exact hQ _ J Sm
    ·
      refine x_aloadn (x := 125) rfl rfl ?_
      refine z_getR (N := 92) (b := 164) 12 79 rfl f_12_150 rfl J rfl 16079 ⟨rfl, rfl⟩ rfl ?_
      refine x_iload (x := l4) rfl rfl ?_
      refine z_iald0 (N := 40) rfl J rfl rfl (by omega) (fun v2 qv2 => ?_)
      have ev2 := jfull v2
      refine x_istore (lsx9 := [(5, .int v2), (0, .ref 125), (1, .int l1), (2, .int 0), (3, .int l3), (4, .int l4)]) rfl rfl rfl ?_
      refine x_iconst (v := 0) rfl ki_0 ?_
      refine x_istore (lsx9 := [(6, .int 0), (5, .int v2), (0, .ref 125), (1, .int l1), (2, .int 0), (3, .int l3), (4, .int l4)]) rfl rfl rfl ?_
      exact jX.sub (jsb_c rfl (jsb_c rfl (jsb_c rfl (jsb_c rfl (jsb_c rfl (jsb_c rfl (jsb_c rfl jsb_n))))))) (ct_X12_findHouses_r125_c0_93 hD hQ ih 41 l1 l3 l4 v2 0 h (by have := jk_0; omega) (jr_of rfl (by omega)) (jr_of rfl (by omega)) (jr_of rfl (by omega)) (jr_of jk_0 (by omega)) (by omega) J Sm)
set_option maxRecDepth 100000 in
set_option maxHeartbeats 4000000 in
theorem ct_X12_findHouses_r125_c0_65 {Dy : jH → Prop} {h0 : jH} {Q : Option Value → jH → Prop} {R11 : Int} (hD : jDk Dy) (hQ : ∀ hx9, jJ jSgM Dy hx9 → jSm fp_X12_findHouses_r125_c0 h0 hx9 → Q none hx9) (k11 : ∀ (l1 : Int32) (l3 : Int32) (l4 : Int32) (h : jH), 40 - l4.toInt < R11 → 0 ≤ l1.toInt ∧ l1.toInt ≤ 146399 → 0 ≤ l3.toInt ∧ l3.toInt ≤ 40 → 0 ≤ l4.toInt ∧ l4.toInt ≤ 40 → jJ jSgM Dy h → jSm fp_X12_findHouses_r125_c0 h0 h → jX m_X12_findHouses 2 0 0 11 [(0, .ref 125), (1, .int l1), (2, .int 0), (3, .int l3), (4, .int l4)] [] h 0 0 Q) : ∀ (l1 : Int32) (l3 : Int32) (l4 : Int32) (s0 : Int32) (s1 : Int32) (h : jH), 0 ≤ l1.toInt ∧ l1.toInt ≤ 146399 → 1 ≤ l3.toInt ∧ l3.toInt ≤ 40 → 0 ≤ l4.toInt ∧ l4.toInt ≤ 39 → (-1) ≤ s0.toInt ∧ s0.toInt ≤ 10000 → 0 ≤ s1.toInt ∧ s1.toInt ≤ 39 → 40 - l4.toInt ≤ R11 → jJ jSgM Dy h → jSm fp_X12_findHouses_r125_c0 h0 h → jX m_X12_findHouses 2 0 0 65 [(0, .ref 125), (1, .int l1), (2, .int 0), (3, .int l3), (4, .int l4)] [.int s0, .int s1, .ref 164] h 0 0 Q := by
  intro l1 l3 l4 s0 s1 h y0 y1 y2 y3 y4  m11 J Sm
  refine z_iast (N := 40) (l := 0) (u := 40) (w := s0.toInt) rfl hD J Sm rfl rfl rfl (by omega) rfl (wr_164) rfl (fun h w1 J Sm => ?_)
  refine z_iinc (x := l4) (lsx9 := fun v2 => [(4, .int v2), (0, .ref 125), (1, .int l1), (2, .int 0), (3, .int l3)]) rfl rfl rfl jko_1 (by omega) rfl (fun _ => rfl) (fun v2 ev2 => ?_)
  refine x_goto (tgt := 11) rfl rfl ?_
  exact jX.sub (jsb_c rfl (jsb_c rfl (jsb_c rfl (jsb_c rfl (jsb_c rfl jsb_n))))) (k11 l1 l3 v2 h (by omega) (jr_of rfl (by omega)) (jr_of rfl (by omega)) (jr_of rfl (by omega)) J Sm)
set_option maxRecDepth 100000 in
set_option maxHeartbeats 4000000 in
theorem ct_X12_findHouses_r125_c0_200065 {Dy : jH → Prop} {h0 : jH} {Q : Option Value → jH → Prop} {R11 : Int} (hD : jDk Dy) (hQ : ∀ hx9, jJ jSgM Dy hx9 → jSm fp_X12_findHouses_r125_c0 h0 hx9 → Q none hx9) (k11 : ∀ (l1 : Int32) (l3 : Int32) (l4 : Int32) (h : jH), 40 - l4.toInt < R11 → 0 ≤ l1.toInt ∧ l1.toInt ≤ 146399 → 0 ≤ l3.toInt ∧ l3.toInt ≤ 40 → 0 ≤ l4.toInt ∧ l4.toInt ≤ 40 → jJ jSgM Dy h → jSm fp_X12_findHouses_r125_c0 h0 h → jX m_X12_findHouses 2 0 0 11 [(0, .ref 125), (1, .int l1), (2, .int 0), (3, .int l3), (4, .int l4)] [] h 0 0 Q) : ∀ (l1 : Int32) (l3 : Int32) (l4 : Int32) (s1 : Int32) (h : jH), 0 ≤ l1.toInt ∧ l1.toInt ≤ 146399 → 1 ≤ l3.toInt ∧ l3.toInt ≤ 40 → 0 ≤ l4.toInt ∧ l4.toInt ≤ 39 → 0 ≤ s1.toInt ∧ s1.toInt ≤ 39 → 40 - l4.toInt ≤ R11 → jJ jSgM Dy h → jSm fp_X12_findHouses_r125_c0 h0 h → jX m_X12_findHouses 2 0 0 65 [(0, .ref 125), (1, .int l1), (2, .int 0), (3, .int l3), (4, .int l4)] [.int 0, .int s1, .ref 164] h 0 0 Q := by
  intro l1 l3 l4 s1 h y0 y1 y2 y3  m11 J Sm
  refine z_iast (N := 40) (l := 0) (u := 40) (w := 0) rfl hD J Sm rfl rfl rfl (by omega) jk_0 (wr_164) rfl (fun h w1 J Sm => ?_)
  refine z_iinc (x := l4) (lsx9 := fun v2 => [(4, .int v2), (0, .ref 125), (1, .int l1), (2, .int 0), (3, .int l3)]) rfl rfl rfl jko_1 (by omega) rfl (fun _ => rfl) (fun v2 ev2 => ?_)
  refine x_goto (tgt := 11) rfl rfl ?_
  exact jX.sub (jsb_c rfl (jsb_c rfl (jsb_c rfl (jsb_c rfl (jsb_c rfl jsb_n))))) (k11 l1 l3 v2 h (by omega) (jr_of rfl (by omega)) (jr_of rfl (by omega)) (jr_of rfl (by omega)) J Sm)
set_option maxRecDepth 100000 in
set_option maxHeartbeats 4000000 in
theorem ct_X12_findHouses_r125_c0_59 {Dy : jH → Prop} {h0 : jH} {Q : Option Value → jH → Prop} {R11 : Int} (hD : jDk Dy) (hQ : ∀ hx9, jJ jSgM Dy hx9 → jSm fp_X12_findHouses_r125_c0 h0 hx9 → Q none hx9) (k11 : ∀ (l1 : Int32) (l3 : Int32) (l4 : Int32) (h : jH), 40 - l4.toInt < R11 → 0 ≤ l1.toInt ∧ l1.toInt ≤ 146399 → 0 ≤ l3.toInt ∧ l3.toInt ≤ 40 → 0 ≤ l4.toInt ∧ l4.toInt ≤ 40 → jJ jSgM Dy h → jSm fp_X12_findHouses_r125_c0 h0 h → jX m_X12_findHouses 2 0 0 11 [(0, .ref 125), (1, .int l1), (2, .int 0), (3, .int l3), (4, .int l4)] [] h 0 0 Q) : ∀ (l1 : Int32) (l3 : Int32) (l4 : Int32) (s0 : Int32) (h : jH), 0 ≤ l1.toInt ∧ l1.toInt ≤ 146399 → 1 ≤ l3.toInt ∧ l3.toInt ≤ 40 → 0 ≤ l4.toInt ∧ l4.toInt ≤ 39 → 0 ≤ s0.toInt ∧ s0.toInt ≤ 39 → 40 - l4.toInt ≤ R11 → jJ jSgM Dy h → jSm fp_X12_findHouses_r125_c0 h0 h → jX m_X12_findHouses 2 0 0 59 [(0, .ref 125), (1, .int l1), (2, .int 0), (3, .int l3), (4, .int l4)] [.int s0, .ref 164] h 0 0 Q := by
  intro l1 l3 l4 s0 h y0 y1 y2 y3  m11 J Sm
  refine x_iconst (v := 0) rfl ki_0 ?_
  refine x_goto (tgt := 65) rfl rfl ?_
  exact jX.sub (jsb_c rfl (jsb_c rfl (jsb_c rfl (jsb_c rfl (jsb_c rfl jsb_n))))) (ct_X12_findHouses_r125_c0_200065 hD hQ k11 l1 l3 l4 s0 h (jr_of rfl (by omega)) (jr_of rfl (by omega)) (jr_of rfl (by omega)) (jr_of rfl (by omega)) (by omega) J Sm)
set_option maxRecDepth 100000 in
set_option maxHeartbeats 4000000 in
theorem ct_X12_findHouses_r125_c0_11 {Dy : jH → Prop} {h0 : jH} {Q : Option Value → jH → Prop} (hD : jDk Dy) (hQ : ∀ hx9, jJ jSgM Dy hx9 → jSm fp_X12_findHouses_r125_c0 h0 hx9 → Q none hx9) : ∀ r : Nat, ∀ (l1 : Int32) (l3 : Int32) (l4 : Int32) (h : jH), 40 - l4.toInt < (r : Int) → 0 ≤ l1.toInt ∧ l1.toInt ≤ 146399 → 0 ≤ l3.toInt ∧ l3.toInt ≤ 40 → 0 ≤ l4.toInt ∧ l4.toInt ≤ 40 → jJ jSgM Dy h → jSm fp_X12_findHouses_r125_c0 h0 h → jX m_X12_findHouses 2 0 0 11 [(0, .ref 125), (1, .int l1), (2, .int 0), (3, .int l3), (4, .int l4)] [] h 0 0 Q := by
  intro r
  induction r with
  | zero =>
    intro l1 l3 l4 h hm y0 y1 y2   J Sm
    exfalso
    omega
  | succ r ih =>
    intro l1 l3 l4 h hm y0 y1 y2   J Sm
    refine x_iload (x := l4) rfl rfl ?_
    refine x_iloadn (x := l3) rfl rfl ?_
    refine x_icge (tgt := 72) rfl rfl (ti_ge rfl rfl ⟨fun c1 => ?_, fun c1 => ?_⟩)
    ·
      refine x_iconst (v := 0) rfl ki_0 ?_
      refine x_istore (lsx9 := [(4, .int 0), (0, .ref 125), (1, .int l1), (2, .int 0), (3, .int l3)]) rfl rfl rfl ?_
      exact jX.sub (jsb_c rfl (jsb_c rfl (jsb_c rfl (jsb_c rfl (jsb_c rfl jsb_n))))) (ct_X12_findHouses_r125_c0_75 hD hQ  41 l1 l3 0 h (by have := jk_0; omega) (jr_of rfl (by omega)) (jr_of rfl (by omega)) (jr_of jk_0 (by omega)) J Sm)
    ·
      refine x_aloadn (x := 125) rfl rfl ?_
      refine x_ldcw (v := 47260) rfl z_12_800 ?_
      refine x_aloadn (x := 125) rfl rfl ?_
      refine z_getR (N := 92) (b := 126) 12 2 rfl f_12_8 rfl J rfl 16002 ⟨rfl, rfl⟩ rfl ?_
      refine x_bipush (v := 8) rfl kb_8 ?_
      refine z_iald (N := 50660) rfl J rfl sg_126_8_9_1_0_1 jk_8 (by omega) (fun v2 qv2 ev2 => ?_)
      refine x_iload (x := l4) rfl rfl ?_
      refine x_iloadn (x := l1) rfl rfl ?_
      refine x_inv (N := m_X12_latest) (As := [.int 47260, .int v2, .int l4, .int l1]) (b := 125) (st := []) (dx9 := 1) (mc := 0) (ms := 0) (host := "") 12 rfl t_X12_latest ⟨Or.inl q_12_801, i_X12_latest.1, i_X12_latest.2⟩ ⟨by decide, rfl⟩ (congrArg Prod.fst (J.1.1 125 (12, 92) rfl)) rfl (by decide) rfl rfl ⟨by decide, by decide⟩ (sf_X12_latest_r125_c47260 (jr_of rfl (by omega)) (jr_of rfl (by omega)) (jr_of rfl (by omega)) hD J  (fun v4 h ev4 J S3 => ?_))
      have Sm := jSm_tr rfl Sm S3
      show jX m_X12_findHouses 2 0 0 34 [(0, .ref 125), (1, .int l1), (2, .int 0), (3, .int l3), (4, .int l4)] [.int v4] _ 0 0 _
      refine x_istore (lsx9 := [(5, .int v4), (0, .ref 125), (1, .int l1), (2, .int 0), (3, .int l3), (4, .int l4)]) rfl rfl rfl ?_
      refine x_aloadn (x := 125) rfl rfl ?_
      refine z_getR (N := 92) (b := 164) 12 79 rfl f_12_150 rfl J rfl 16079 ⟨rfl, rfl⟩ rfl ?_
      refine x_iload (x := l4) rfl rfl ?_
      refine x_aloadn (x := 125) rfl rfl ?_
      refine x_iload (x := l4) rfl rfl ?_
      refine x_inv (N := m_X12_splitOf) (As := [.int l4]) (b := 125) (st := [.int l4, .ref 164]) (dx9 := 1) (mc := 0) (ms := 0) (host := "") 12 rfl t_X12_splitOf ⟨Or.inl q_12_805, i_X12_splitOf.1, i_X12_splitOf.2⟩ ⟨by decide, rfl⟩ (congrArg Prod.fst (J.1.1 125 (12, 92) rfl)) rfl (by decide) rfl rfl ⟨by decide, by decide⟩ (sf_X12_splitOf_r125 (jr_of rfl (by omega)) hD J  (fun v6 h ev6 xv6 J S5 => ?_))
      have Sm := jSm_tr rfl Sm S5
      show jX m_X12_findHouses 2 0 0 48 [(5, .int v4), (0, .ref 125), (1, .int l1), (2, .int 0), (3, .int l3), (4, .int l4)] [.int v6, .int l4, .ref 164] _ 0 0 _
      refine x_iconst (v := (-1)) rfl ki_m1 ?_
      refine x_icne (tgt := 59) rfl rfl (ti_ne rfl jk_m1 ⟨fun c7 => ?_, fun c7 => ?_⟩)
      ·
        exact jX.sub (jsb_c rfl (jsb_c rfl (jsb_c rfl (jsb_c rfl (jsb_c rfl jsb_n))))) (ct_X12_findHouses_r125_c0_59 hD hQ ih l1 l3 l4 l4 h (jr_of rfl (by omega)) (jr_of rfl (by omega)) (jr_of rfl (by omega)) (jr_of rfl (by omega)) (by omega) J Sm)
      ·
        refine x_iload (x := v4) rfl rfl ?_
        refine x_bipush (v := (-2)) rfl kb_m2 ?_
        refine x_icne (tgt := 63) rfl rfl (ti_ne rfl jk_m2 ⟨fun c8 => ?_, fun c8 => ?_⟩)
        ·
          refine x_iload (x := v4) rfl rfl ?_
          exact jX.sub (jsb_c rfl (jsb_c rfl (jsb_c rfl (jsb_c rfl (jsb_c rfl jsb_n))))) (ct_X12_findHouses_r125_c0_65 hD hQ ih l1 l3 l4 v4 l4 h (jr_of rfl (by omega)) (jr_of rfl (by omega)) (jr_of rfl (by omega)) (jr_of rfl (by omega)) (jr_of rfl (by omega)) (by omega) J Sm)
        ·
          exact jX.sub (jsb_c rfl (jsb_c rfl (jsb_c rfl (jsb_c rfl (jsb_c rfl jsb_n))))) (ct_X12_findHouses_r125_c0_59 hD hQ ih l1 l3 l4 l4 h (jr_of rfl (by omega)) (jr_of rfl (by omega)) (jr_of rfl (by omega)) (jr_of rfl (by omega)) (by omega) J Sm)
set_option maxRecDepth 100000 in
set_option maxHeartbeats 4000000 in
theorem sf_X12_findHouses_r125_c0 {Dy : jH → Prop} {h : jH} {Q : Option Value → jH → Prop} {a1 : Int32} (y1 : 0 ≤ a1.toInt ∧ a1.toInt ≤ 146399) (hD : jDk Dy) (J : jJ jSgM Dy h) (hQ : ∀ hx9, jJ jSgM Dy hx9 → jSm fp_X12_findHouses_r125_c0 h hx9 → Q none hx9) : jC m_X12_findHouses 2 0 0 [.ref 125, .int a1, .int 0] h Q := by
  refine jC.of rfl k_X12_findHouses rfl ?_
  have Sm := jSm_rf fp_X12_findHouses_r125_c0 h
  show jX m_X12_findHouses 2 0 0 0 [(0, .ref 125), (1, .int a1), (2, .int 0)] [] _ 0 0 _
  refine x_aloadn (x := 125) rfl rfl ?_
  refine z_getR (N := 92) (b := 126) 12 2 rfl f_12_8 rfl J rfl 16002 ⟨rfl, rfl⟩ rfl ?_
  refine x_bipush (v := 7) rfl kb_7 ?_
  refine z_iald (N := 50660) rfl J rfl sg_126_7_8_1_0_1 jk_7 (by omega) (fun v1 qv1 ev1 => ?_)
  refine x_istoren (lsx9 := [(3, .int v1), (0, .ref 125), (1, .int a1), (2, .int 0)]) rfl rfl rfl ?_
  refine x_iconst (v := 0) rfl ki_0 ?_
  refine x_istore (lsx9 := [(4, .int 0), (3, .int v1), (0, .ref 125), (1, .int a1), (2, .int 0)]) rfl rfl rfl ?_
  exact jX.sub (jsb_c rfl (jsb_c rfl (jsb_c rfl (jsb_c rfl (jsb_c rfl jsb_n))))) (ct_X12_findHouses_r125_c0_11 hD hQ  41 a1 v1 0 h (by have := jk_0; omega) (jr_of rfl (by omega)) (jr_of rfl (by omega)) (jr_of jk_0 (by omega)) J Sm)
def fp_X12_valueHeld_r125 : jFp := [(162, 0, 40), (163, 0, 40), (164, 0, 40)]
set_option maxRecDepth 100000 in
set_option maxHeartbeats 4000000 in
theorem ct_X12_valueHeld_r125_200046 {Dy : jH → Prop} {h0 : jH} {Q : Option Value → jH → Prop} {R11 : Int} (hD : jDk Dy) (hQ : ∀ (v : Int32) hx9, jJ jSgM Dy hx9 → jSm fp_X12_valueHeld_r125 h0 hx9 → Q (some (.int v)) hx9) (k11 : ∀ (l1 : Int32) (l3 : Int32) (l4 : Int32) (h : jH), 40 - l4.toInt < R11 → (-1) ≤ l1.toInt ∧ l1.toInt ≤ 599 → 0 ≤ l4.toInt ∧ l4.toInt ≤ 40 → jJ jSgM Dy h → jSm fp_X12_valueHeld_r125 h0 h → jX m_X12_valueHeld 3 0 0 11 [(0, .ref 125), (1, .int l1), (3, .int l3), (4, .int l4)] [] h 0 0 Q) : ∀ (l1 : Int32) (l4 : Int32) (s1 : Int32) (h : jH), (-1) ≤ l1.toInt ∧ l1.toInt ≤ 599 → 0 ≤ l4.toInt ∧ l4.toInt ≤ 39 → 40 - l4.toInt ≤ R11 → jJ jSgM Dy h → jSm fp_X12_valueHeld_r125 h0 h → jX m_X12_valueHeld 3 0 0 46 [(0, .ref 125), (1, .int l1), (4, .int l4)] [.int 0, .int s1] h 0 0 Q := by
  intro l1 l4 s1 h y0 y1  m11 J Sm
  have es1 := jfull s1
  refine z_iadd rfl rfl jk_0 (by omega) (fun v1 ev1 => ?_)
  refine x_istoren (lsx9 := [(3, .int v1), (0, .ref 125), (1, .int l1), (4, .int l4)]) rfl rfl rfl ?_
  refine z_iinc (x := l4) (lsx9 := fun v2 => [(4, .int v2), (3, .int v1), (0, .ref 125), (1, .int l1)]) rfl rfl rfl jko_1 (by omega) rfl (fun _ => rfl) (fun v2 ev2 => ?_)
  refine x_goto (tgt := 11) rfl rfl ?_
  exact jX.sub (jsb_c rfl (jsb_c rfl (jsb_c rfl (jsb_c rfl jsb_n)))) (k11 l1 v1 v2 h (by omega) (jr_of rfl (by omega)) (jr_of rfl (by omega)) J Sm)
set_option maxRecDepth 100000 in
set_option maxHeartbeats 4000000 in
theorem ct_X12_valueHeld_r125_46 {Dy : jH → Prop} {h0 : jH} {Q : Option Value → jH → Prop} {R11 : Int} (hD : jDk Dy) (hQ : ∀ (v : Int32) hx9, jJ jSgM Dy hx9 → jSm fp_X12_valueHeld_r125 h0 hx9 → Q (some (.int v)) hx9) (k11 : ∀ (l1 : Int32) (l3 : Int32) (l4 : Int32) (h : jH), 40 - l4.toInt < R11 → (-1) ≤ l1.toInt ∧ l1.toInt ≤ 599 → 0 ≤ l4.toInt ∧ l4.toInt ≤ 40 → jJ jSgM Dy h → jSm fp_X12_valueHeld_r125 h0 h → jX m_X12_valueHeld 3 0 0 11 [(0, .ref 125), (1, .int l1), (3, .int l3), (4, .int l4)] [] h 0 0 Q) : ∀ (l1 : Int32) (l4 : Int32) (s0 : Int32) (s1 : Int32) (h : jH), (-1) ≤ l1.toInt ∧ l1.toInt ≤ 599 → 0 ≤ l4.toInt ∧ l4.toInt ≤ 39 → 40 - l4.toInt ≤ R11 → jJ jSgM Dy h → jSm fp_X12_valueHeld_r125 h0 h → jX m_X12_valueHeld 3 0 0 46 [(0, .ref 125), (1, .int l1), (4, .int l4)] [.int s0, .int s1] h 0 0 Q := by
  intro l1 l4 s0 s1 h y0 y1  m11 J Sm
  have es0 := jfull s0
  have es1 := jfull s1
  refine z_iadd0 rfl (fun v1 => ?_)
  have ev1 := jfull v1
  refine x_istoren (lsx9 := [(3, .int v1), (0, .ref 125), (1, .int l1), (4, .int l4)]) rfl rfl rfl ?_
  refine z_iinc (x := l4) (lsx9 := fun v2 => [(4, .int v2), (3, .int v1), (0, .ref 125), (1, .int l1)]) rfl rfl rfl jko_1 (by omega) rfl (fun _ => rfl) (fun v2 ev2 => ?_)
  refine x_goto (tgt := 11) rfl rfl ?_
  exact jX.sub (jsb_c rfl (jsb_c rfl (jsb_c rfl (jsb_c rfl jsb_n)))) (k11 l1 v1 v2 h (by omega) (jr_of rfl (by omega)) (jr_of rfl (by omega)) J Sm)
set_option maxRecDepth 100000 in
set_option maxHeartbeats 4000000 in
theorem ct_X12_valueHeld_r125_11 {Dy : jH → Prop} {h0 : jH} {Q : Option Value → jH → Prop} (hD : jDk Dy) (hQ : ∀ (v : Int32) hx9, jJ jSgM Dy hx9 → jSm fp_X12_valueHeld_r125 h0 hx9 → Q (some (.int v)) hx9) : ∀ r : Nat, ∀ (l1 : Int32) (l3 : Int32) (l4 : Int32) (h : jH), 40 - l4.toInt < (r : Int) → (-1) ≤ l1.toInt ∧ l1.toInt ≤ 599 → 0 ≤ l4.toInt ∧ l4.toInt ≤ 40 → jJ jSgM Dy h → jSm fp_X12_valueHeld_r125 h0 h → jX m_X12_valueHeld 3 0 0 11 [(0, .ref 125), (1, .int l1), (3, .int l3), (4, .int l4)] [] h 0 0 Q := by
  intro r
  induction r with
  | zero =>
    intro l1 l3 l4 h hm y0 y1   J Sm
    exfalso
    have el3 := jfull l3
    omega
  | succ r ih =>
    intro l1 l3 l4 h hm y0 y1   J Sm
    have el3 := jfull l3
    refine x_iload (x := l4) rfl rfl ?_
    refine x_aloadn (x := 125) rfl rfl ?_
    refine z_getR (N := 92) (b := 126) 12 2 rfl f_12_8 rfl J rfl 16002 ⟨rfl, rfl⟩ rfl ?_
    refine x_bipush (v := 7) rfl kb_7 ?_
    refine z_iald (N := 50660) rfl J rfl sg_126_7_8_1_0_1 jk_7 (by omega) (fun v1 qv1 ev1 => ?_)
    refine x_icge (tgt := 54) rfl rfl (ti_ge rfl rfl ⟨fun c2 => ?_, fun c2 => ?_⟩)
    ·
      refine x_iloadn (x := l3) rfl rfl ?_
      refine x_iret rfl rfl ?_
      exact hQ _ _ J Sm
    ·
      refine x_iloadn (x := l3) rfl rfl ?_
      refine x_aloadn (x := 125) rfl rfl ?_
      refine z_getR (N := 92) (b := 163) 12 78 rfl f_12_147 rfl J rfl 16078 ⟨rfl, rfl⟩ rfl ?_
      refine x_iload (x := l4) rfl rfl ?_
      refine z_iald (N := 80) rfl J rfl sg_163_0_80_1_0_1 rfl (by omega) (fun v3 qv3 ev3 => ?_)
      refine x_iloadn (x := l1) rfl rfl ?_
      refine x_icne (tgt := 45) rfl rfl (ti_ne rfl rfl ⟨fun c4 => ?_, fun c4 => ?_⟩)
      ·
        refine x_iconst (v := 0) rfl ki_0 ?_
        exact jX.sub (jsb_c rfl (jsb_c rfl (jsb_c rfl jsb_n))) (ct_X12_valueHeld_r125_200046 hD hQ ih l1 l4 l3 h (jr_of rfl (by omega)) (jr_of rfl (by omega)) (by omega) J Sm)
      ·
        refine x_aloadn (x := 125) rfl rfl ?_
        refine z_getR (N := 92) (b := 162) 12 77 rfl f_12_144 rfl J rfl 16077 ⟨rfl, rfl⟩ rfl ?_
        refine x_iload (x := l4) rfl rfl ?_
        refine z_iald0 (N := 80) rfl J rfl rfl (by omega) (fun v5 qv5 => ?_)
        have ev5 := jfull v5
        refine x_goto (tgt := 46) rfl rfl ?_
        exact jX.sub (jsb_c rfl (jsb_c rfl (jsb_c rfl jsb_n))) (ct_X12_valueHeld_r125_46 hD hQ ih l1 l4 v5 l3 h (jr_of rfl (by omega)) (jr_of rfl (by omega)) (by omega) J Sm)
set_option maxRecDepth 100000 in
set_option maxHeartbeats 4000000 in
theorem sf_X12_valueHeld_r125 {Dy : jH → Prop} {h : jH} {Q : Option Value → jH → Prop} {a1 : Int32} {a2 : Int32} (y1 : (-1) ≤ a1.toInt ∧ a1.toInt ≤ 599) (y2 : 0 ≤ a2.toInt ∧ a2.toInt ≤ 146399) (hD : jDk Dy) (J : jJ jSgM Dy h) (hQ : ∀ (v : Int32) hx9, jJ jSgM Dy hx9 → jSm fp_X12_valueHeld_r125 h hx9 → Q (some (.int v)) hx9) : jC m_X12_valueHeld 3 0 0 [.ref 125, .int a1, .int a2] h Q := by
  refine jC.of rfl k_X12_valueHeld rfl ?_
  have Sm := jSm_rf fp_X12_valueHeld_r125 h
  show jX m_X12_valueHeld 3 0 0 0 [(0, .ref 125), (1, .int a1), (2, .int a2)] [] _ 0 0 _
  refine x_aloadn (x := 125) rfl rfl ?_
  refine x_iloadn (x := a2) rfl rfl ?_
  refine x_iconst (v := 0) rfl ki_0 ?_
  refine x_inv (N := m_X12_findHouses) (As := [.int a2, .int 0]) (b := 125) (st := []) (dx9 := 2) (mc := 0) (ms := 0) (host := "") 12 rfl t_X12_findHouses ⟨Or.inl q_12_694, i_X12_findHouses.1, i_X12_findHouses.2⟩ ⟨by decide, rfl⟩ (congrArg Prod.fst (J.1.1 125 (12, 92) rfl)) rfl (by decide) rfl rfl ⟨by decide, by decide⟩ (sf_X12_findHouses_r125_c0 (jr_of rfl (by omega)) hD J  (fun h J S1 => ?_))
  have Sm := jSm_tr rfl Sm S1
  show jX m_X12_valueHeld 3 0 0 6 [(0, .ref 125), (1, .int a1), (2, .int a2)] [] _ 0 0 _
  refine x_iconst (v := 0) rfl ki_0 ?_
  refine x_istoren (lsx9 := [(3, .int 0), (0, .ref 125), (1, .int a1), (2, .int a2)]) rfl rfl rfl ?_
  refine x_iconst (v := 0) rfl ki_0 ?_
  refine x_istore (lsx9 := [(4, .int 0), (3, .int 0), (0, .ref 125), (1, .int a1), (2, .int a2)]) rfl rfl rfl ?_
  exact jX.sub (jsb_c rfl (jsb_c rfl (jsb_c rfl (jsb_c rfl jsb_n)))) (ct_X12_valueHeld_r125_11 hD hQ  41 a1 0 0 h (by have := jk_0; omega) (jr_of rfl (by omega)) (jr_of jk_0 (by omega)) J Sm)
def fp_X12_yearsOf_r125 : jFp := []
set_option maxRecDepth 100000 in
set_option maxHeartbeats 4000000 in
theorem ct_X12_yearsOf_r125_97 {Dy : jH → Prop} {h0 : jH} {Q : Option Value → jH → Prop} (hD : jDk Dy) (hQ : ∀ (v : Int32) hx9, jJ jSgM Dy hx9 → jSm fp_X12_yearsOf_r125 h0 hx9 → Q (some (.int v)) hx9) : ∀ (s0 : Int32) (h : jH), jJ jSgM Dy h → jSm fp_X12_yearsOf_r125 h0 h → jX m_X12_yearsOf 4 0 0 97 [] [.int s0] h 0 0 Q := by
  intro s0 h    J Sm
  have es0 := jfull s0
  refine x_iret rfl rfl ?_
  exact hQ _ _ J Sm
set_option maxRecDepth 100000 in
set_option maxHeartbeats 4000000 in
theorem ct_X12_yearsOf_r125_200097 {Dy : jH → Prop} {h0 : jH} {Q : Option Value → jH → Prop} (hD : jDk Dy) (hQ : ∀ (v : Int32) hx9, jJ jSgM Dy hx9 → jSm fp_X12_yearsOf_r125 h0 hx9 → Q (some (.int v)) hx9) : ∀ (h : jH), jJ jSgM Dy h → jSm fp_X12_yearsOf_r125 h0 h → jX m_X12_yearsOf 4 0 0 97 [] [.int 0] h 0 0 Q := by
  intro  h    J Sm
  refine x_iret rfl rfl ?_
  exact hQ _ _ J Sm
set_option maxRecDepth 100000 in
set_option maxHeartbeats 4000000 in
theorem ct_X12_yearsOf_r125_75 {Dy : jH → Prop} {h0 : jH} {Q : Option Value → jH → Prop} {R5 : Int} (hD : jDk Dy) (hQ : ∀ (v : Int32) hx9, jJ jSgM Dy hx9 → jSm fp_X12_yearsOf_r125 h0 hx9 → Q (some (.int v)) hx9) (k5 : ∀ (l1 : Int32) (l2 : Int32) (l3 : Int32) (l4 : Int32) (h : jH), 600 - l4.toInt < R5 → (-1) ≤ l1.toInt ∧ l1.toInt ≤ 599 → 0 ≤ l2.toInt ∧ l2.toInt ≤ 146399 → (-1) ≤ l3.toInt ∧ l3.toInt ≤ 146399 → 0 ≤ l4.toInt ∧ l4.toInt ≤ 600 → jJ jSgM Dy h → jSm fp_X12_yearsOf_r125 h0 h → jX m_X12_yearsOf 4 0 0 5 [(0, .ref 125), (1, .int l1), (2, .int l2), (3, .int l3), (4, .int l4)] [] h 0 0 Q) : ∀ (l1 : Int32) (l2 : Int32) (l4 : Int32) (s0 : Int32) (h : jH), (-1) ≤ l1.toInt ∧ l1.toInt ≤ 599 → 0 ≤ l2.toInt ∧ l2.toInt ≤ 146399 → 0 ≤ l4.toInt ∧ l4.toInt ≤ 599 → (-1) ≤ s0.toInt ∧ s0.toInt ≤ 146399 → 600 - l4.toInt ≤ R5 → jJ jSgM Dy h → jSm fp_X12_yearsOf_r125 h0 h → jX m_X12_yearsOf 4 0 0 75 [(0, .ref 125), (1, .int l1), (2, .int l2), (4, .int l4)] [.int s0] h 0 0 Q := by
  intro l1 l2 l4 s0 h y0 y1 y2 y3  m5 J Sm
  refine x_istoren (lsx9 := [(3, .int s0), (0, .ref 125), (1, .int l1), (2, .int l2), (4, .int l4)]) rfl rfl rfl ?_
  refine z_iinc (x := l4) (lsx9 := fun v1 => [(4, .int v1), (3, .int s0), (0, .ref 125), (1, .int l1), (2, .int l2)]) rfl rfl rfl jko_1 (by omega) rfl (fun _ => rfl) (fun v1 ev1 => ?_)
  refine x_goto (tgt := 5) rfl rfl ?_
  exact jX.sub (jsb_c rfl (jsb_c rfl (jsb_c rfl (jsb_c rfl (jsb_c rfl jsb_n))))) (k5 l1 l2 s0 v1 h (by omega) (jr_of rfl (by omega)) (jr_of rfl (by omega)) (jr_of rfl (by omega)) (jr_of rfl (by omega)) J Sm)
set_option maxRecDepth 100000 in
set_option maxHeartbeats 4000000 in
theorem ct_X12_yearsOf_r125_74 {Dy : jH → Prop} {h0 : jH} {Q : Option Value → jH → Prop} {R5 : Int} (hD : jDk Dy) (hQ : ∀ (v : Int32) hx9, jJ jSgM Dy hx9 → jSm fp_X12_yearsOf_r125 h0 hx9 → Q (some (.int v)) hx9) (k5 : ∀ (l1 : Int32) (l2 : Int32) (l3 : Int32) (l4 : Int32) (h : jH), 600 - l4.toInt < R5 → (-1) ≤ l1.toInt ∧ l1.toInt ≤ 599 → 0 ≤ l2.toInt ∧ l2.toInt ≤ 146399 → (-1) ≤ l3.toInt ∧ l3.toInt ≤ 146399 → 0 ≤ l4.toInt ∧ l4.toInt ≤ 600 → jJ jSgM Dy h → jSm fp_X12_yearsOf_r125 h0 h → jX m_X12_yearsOf 4 0 0 5 [(0, .ref 125), (1, .int l1), (2, .int l2), (3, .int l3), (4, .int l4)] [] h 0 0 Q) : ∀ (l1 : Int32) (l2 : Int32) (l3 : Int32) (l4 : Int32) (h : jH), (-1) ≤ l1.toInt ∧ l1.toInt ≤ 599 → 0 ≤ l2.toInt ∧ l2.toInt ≤ 146399 → (-1) ≤ l3.toInt ∧ l3.toInt ≤ 146399 → 0 ≤ l4.toInt ∧ l4.toInt ≤ 599 → 600 - l4.toInt ≤ R5 → jJ jSgM Dy h → jSm fp_X12_yearsOf_r125 h0 h → jX m_X12_yearsOf 4 0 0 74 [(0, .ref 125), (1, .int l1), (2, .int l2), (3, .int l3), (4, .int l4)] [] h 0 0 Q := by
  intro l1 l2 l3 l4 h y0 y1 y2 y3  m5 J Sm
  refine x_iloadn (x := l3) rfl rfl ?_
  exact jX.sub (jsb_c rfl (jsb_c rfl (jsb_c rfl (jsb_c rfl jsb_n)))) (ct_X12_yearsOf_r125_75 hD hQ k5 l1 l2 l4 l3 h (jr_of rfl (by omega)) (jr_of rfl (by omega)) (jr_of rfl (by omega)) (jr_of rfl (by omega)) (by omega) J Sm)
set_option maxRecDepth 100000 in
set_option maxHeartbeats 4000000 in
theorem ct_X12_yearsOf_r125_65 {Dy : jH → Prop} {h0 : jH} {Q : Option Value → jH → Prop} {R5 : Int} (hD : jDk Dy) (hQ : ∀ (v : Int32) hx9, jJ jSgM Dy hx9 → jSm fp_X12_yearsOf_r125 h0 hx9 → Q (some (.int v)) hx9) (k5 : ∀ (l1 : Int32) (l2 : Int32) (l3 : Int32) (l4 : Int32) (h : jH), 600 - l4.toInt < R5 → (-1) ≤ l1.toInt ∧ l1.toInt ≤ 599 → 0 ≤ l2.toInt ∧ l2.toInt ≤ 146399 → (-1) ≤ l3.toInt ∧ l3.toInt ≤ 146399 → 0 ≤ l4.toInt ∧ l4.toInt ≤ 600 → jJ jSgM Dy h → jSm fp_X12_yearsOf_r125 h0 h → jX m_X12_yearsOf 4 0 0 5 [(0, .ref 125), (1, .int l1), (2, .int l2), (3, .int l3), (4, .int l4)] [] h 0 0 Q) : ∀ (l1 : Int32) (l2 : Int32) (l4 : Int32) (h : jH), (-1) ≤ l1.toInt ∧ l1.toInt ≤ 599 → 0 ≤ l2.toInt ∧ l2.toInt ≤ 146399 → 0 ≤ l4.toInt ∧ l4.toInt ≤ 599 → 600 - l4.toInt ≤ R5 → jJ jSgM Dy h → jSm fp_X12_yearsOf_r125 h0 h → jX m_X12_yearsOf 4 0 0 65 [(0, .ref 125), (1, .int l1), (2, .int l2), (4, .int l4)] [] h 0 0 Q := by
  intro l1 l2 l4 h y0 y1 y2  m5 J Sm
  refine x_aloadn (x := 125) rfl rfl ?_
  refine x_iload (x := l4) rfl rfl ?_
  refine x_inv (N := m_X12_dayAt) (As := [.int l4]) (b := 125) (st := []) (dx9 := 3) (mc := 0) (ms := 0) (host := "") 12 rfl t_X12_dayAt ⟨Or.inl q_12_347, i_X12_dayAt.1, i_X12_dayAt.2⟩ ⟨by decide, rfl⟩ (congrArg Prod.fst (J.1.1 125 (12, 92) rfl)) rfl (by decide) rfl rfl ⟨by decide, by decide⟩ (sf_X12_dayAt_r125 (jr_of rfl (by omega)) hD J  (fun v2 h ev2 J S1 => ?_))
  have Sm := jSm_tr rfl Sm S1
  show jX m_X12_yearsOf 4 0 0 71 [(0, .ref 125), (1, .int l1), (2, .int l2), (4, .int l4)] [.int v2] _ 0 0 _
  refine x_goto (tgt := 75) rfl rfl ?_
  exact jX.sub (jsb_c rfl (jsb_c rfl (jsb_c rfl (jsb_c rfl jsb_n)))) (ct_X12_yearsOf_r125_75 hD hQ k5 l1 l2 l4 v2 h (jr_of rfl (by omega)) (jr_of rfl (by omega)) (jr_of rfl (by omega)) (jr_of rfl (by omega)) (by omega) J Sm)
set_option maxRecDepth 100000 in
set_option maxHeartbeats 4000000 in
theorem ct_X12_yearsOf_r125_300044 {Dy : jH → Prop} {h0 : jH} {Q : Option Value → jH → Prop} {R5 : Int} (hD : jDk Dy) (hQ : ∀ (v : Int32) hx9, jJ jSgM Dy hx9 → jSm fp_X12_yearsOf_r125 h0 hx9 → Q (some (.int v)) hx9) (k5 : ∀ (l1 : Int32) (l2 : Int32) (l3 : Int32) (l4 : Int32) (h : jH), 600 - l4.toInt < R5 → (-1) ≤ l1.toInt ∧ l1.toInt ≤ 599 → 0 ≤ l2.toInt ∧ l2.toInt ≤ 146399 → (-1) ≤ l3.toInt ∧ l3.toInt ≤ 146399 → 0 ≤ l4.toInt ∧ l4.toInt ≤ 600 → jJ jSgM Dy h → jSm fp_X12_yearsOf_r125 h0 h → jX m_X12_yearsOf 4 0 0 5 [(0, .ref 125), (1, .int l1), (2, .int l2), (3, .int l3), (4, .int l4)] [] h 0 0 Q) : ∀ (l1 : Int32) (l2 : Int32) (l3 : Int32) (l4 : Int32) (h : jH), (-1) ≤ l1.toInt ∧ l1.toInt ≤ 599 → 0 ≤ l2.toInt ∧ l2.toInt ≤ 146399 → (-1) ≤ l3.toInt ∧ l3.toInt ≤ 146399 → 0 ≤ l4.toInt ∧ l4.toInt ≤ 599 → 600 - l4.toInt ≤ R5 → jJ jSgM Dy h → jSm fp_X12_yearsOf_r125 h0 h → jX m_X12_yearsOf 4 0 0 44 [(0, .ref 125), (1, .int l1), (2, .int l2), (3, .int l3), (4, .int l4)] [.int 1] h 0 0 Q := by
  intro l1 l2 l3 l4 h y0 y1 y2 y3  m5 J Sm
  refine x_istore (lsx9 := [(5, .int 1), (0, .ref 125), (1, .int l1), (2, .int l2), (3, .int l3), (4, .int l4)]) rfl rfl rfl ?_
  refine x_iload (x := 1) rfl rfl ?_
  refine x_ifeq (tgt := 74) rfl rfl (ti_eq jk_1 jk_0 (br_f (by omega) ?_))
  refine x_iloadn (x := l3) rfl rfl ?_
  refine x_iflt (tgt := 65) rfl rfl (ti_lt rfl jk_0 ⟨fun c1 => ?_, fun c1 => ?_⟩)
  ·
    exact jX.sub (jsb_c rfl (jsb_c rfl (jsb_c rfl (jsb_c rfl jsb_n)))) (ct_X12_yearsOf_r125_65 hD hQ k5 l1 l2 l4 h (jr_of rfl (by omega)) (jr_of rfl (by omega)) (jr_of rfl (by omega)) (by omega) J Sm)
  ·
    refine x_aloadn (x := 125) rfl rfl ?_
    refine x_iload (x := l4) rfl rfl ?_
    refine x_inv (N := m_X12_dayAt) (As := [.int l4]) (b := 125) (st := []) (dx9 := 3) (mc := 0) (ms := 0) (host := "") 12 rfl t_X12_dayAt ⟨Or.inl q_12_347, i_X12_dayAt.1, i_X12_dayAt.2⟩ ⟨by decide, rfl⟩ (congrArg Prod.fst (J.1.1 125 (12, 92) rfl)) rfl (by decide) rfl rfl ⟨by decide, by decide⟩ (sf_X12_dayAt_r125 (jr_of rfl (by omega)) hD J  (fun v3 h ev3 J S2 => ?_))
    have Sm := jSm_tr rfl Sm S2
    show jX m_X12_yearsOf 4 0 0 61 [(5, .int 1), (0, .ref 125), (1, .int l1), (2, .int l2), (3, .int l3), (4, .int l4)] [.int v3] _ 0 0 _
    refine x_iloadn (x := l3) rfl rfl ?_
    refine x_icge (tgt := 74) rfl rfl (ti_ge rfl rfl ⟨fun c4 => ?_, fun c4 => ?_⟩)
    ·
      exact jX.sub (jsb_c rfl (jsb_c rfl (jsb_c rfl (jsb_c rfl (jsb_c rfl jsb_n))))) (ct_X12_yearsOf_r125_74 hD hQ k5 l1 l2 l3 l4 h (jr_of rfl (by omega)) (jr_of rfl (by omega)) (jr_of rfl (by omega)) (jr_of rfl (by omega)) (by omega) J Sm)
    ·
      exact jX.sub (jsb_c rfl (jsb_c rfl (jsb_c rfl (jsb_c rfl jsb_n)))) (ct_X12_yearsOf_r125_65 hD hQ k5 l1 l2 l4 h (jr_of rfl (by omega)) (jr_of rfl (by omega)) (jr_of rfl (by omega)) (by omega) J Sm)
set_option maxRecDepth 100000 in
set_option maxHeartbeats 4000000 in
theorem ct_X12_yearsOf_r125_200044 {Dy : jH → Prop} {h0 : jH} {Q : Option Value → jH → Prop} {R5 : Int} (hD : jDk Dy) (hQ : ∀ (v : Int32) hx9, jJ jSgM Dy hx9 → jSm fp_X12_yearsOf_r125 h0 hx9 → Q (some (.int v)) hx9) (k5 : ∀ (l1 : Int32) (l2 : Int32) (l3 : Int32) (l4 : Int32) (h : jH), 600 - l4.toInt < R5 → (-1) ≤ l1.toInt ∧ l1.toInt ≤ 599 → 0 ≤ l2.toInt ∧ l2.toInt ≤ 146399 → (-1) ≤ l3.toInt ∧ l3.toInt ≤ 146399 → 0 ≤ l4.toInt ∧ l4.toInt ≤ 600 → jJ jSgM Dy h → jSm fp_X12_yearsOf_r125 h0 h → jX m_X12_yearsOf 4 0 0 5 [(0, .ref 125), (1, .int l1), (2, .int l2), (3, .int l3), (4, .int l4)] [] h 0 0 Q) : ∀ (l1 : Int32) (l2 : Int32) (l3 : Int32) (l4 : Int32) (h : jH), (-1) ≤ l1.toInt ∧ l1.toInt ≤ 599 → 0 ≤ l2.toInt ∧ l2.toInt ≤ 146399 → (-1) ≤ l3.toInt ∧ l3.toInt ≤ 146399 → 0 ≤ l4.toInt ∧ l4.toInt ≤ 599 → 600 - l4.toInt ≤ R5 → jJ jSgM Dy h → jSm fp_X12_yearsOf_r125 h0 h → jX m_X12_yearsOf 4 0 0 44 [(0, .ref 125), (1, .int l1), (2, .int l2), (3, .int l3), (4, .int l4)] [.int 0] h 0 0 Q := by
  intro l1 l2 l3 l4 h y0 y1 y2 y3  m5 J Sm
  refine x_istore (lsx9 := [(5, .int 0), (0, .ref 125), (1, .int l1), (2, .int l2), (3, .int l3), (4, .int l4)]) rfl rfl rfl ?_
  refine x_iload (x := 0) rfl rfl ?_
  refine x_ifeq (tgt := 74) rfl rfl (ti_eq jk_0 jk_0 (br_t (by omega) ?_))
  exact jX.sub (jsb_c rfl (jsb_c rfl (jsb_c rfl (jsb_c rfl (jsb_c rfl jsb_n))))) (ct_X12_yearsOf_r125_74 hD hQ k5 l1 l2 l3 l4 h (jr_of rfl (by omega)) (jr_of rfl (by omega)) (jr_of rfl (by omega)) (jr_of rfl (by omega)) (by omega) J Sm)
set_option maxRecDepth 100000 in
set_option maxHeartbeats 4000000 in
theorem ct_X12_yearsOf_r125_43 {Dy : jH → Prop} {h0 : jH} {Q : Option Value → jH → Prop} {R5 : Int} (hD : jDk Dy) (hQ : ∀ (v : Int32) hx9, jJ jSgM Dy hx9 → jSm fp_X12_yearsOf_r125 h0 hx9 → Q (some (.int v)) hx9) (k5 : ∀ (l1 : Int32) (l2 : Int32) (l3 : Int32) (l4 : Int32) (h : jH), 600 - l4.toInt < R5 → (-1) ≤ l1.toInt ∧ l1.toInt ≤ 599 → 0 ≤ l2.toInt ∧ l2.toInt ≤ 146399 → (-1) ≤ l3.toInt ∧ l3.toInt ≤ 146399 → 0 ≤ l4.toInt ∧ l4.toInt ≤ 600 → jJ jSgM Dy h → jSm fp_X12_yearsOf_r125 h0 h → jX m_X12_yearsOf 4 0 0 5 [(0, .ref 125), (1, .int l1), (2, .int l2), (3, .int l3), (4, .int l4)] [] h 0 0 Q) : ∀ (l1 : Int32) (l2 : Int32) (l3 : Int32) (l4 : Int32) (h : jH), (-1) ≤ l1.toInt ∧ l1.toInt ≤ 599 → 0 ≤ l2.toInt ∧ l2.toInt ≤ 146399 → (-1) ≤ l3.toInt ∧ l3.toInt ≤ 146399 → 0 ≤ l4.toInt ∧ l4.toInt ≤ 599 → 600 - l4.toInt ≤ R5 → jJ jSgM Dy h → jSm fp_X12_yearsOf_r125 h0 h → jX m_X12_yearsOf 4 0 0 43 [(0, .ref 125), (1, .int l1), (2, .int l2), (3, .int l3), (4, .int l4)] [] h 0 0 Q := by
  intro l1 l2 l3 l4 h y0 y1 y2 y3  m5 J Sm
  refine x_iconst (v := 0) rfl ki_0 ?_
  exact jX.sub (jsb_c rfl (jsb_c rfl (jsb_c rfl (jsb_c rfl (jsb_c rfl jsb_n))))) (ct_X12_yearsOf_r125_200044 hD hQ k5 l1 l2 l3 l4 h (jr_of rfl (by omega)) (jr_of rfl (by omega)) (jr_of rfl (by omega)) (jr_of rfl (by omega)) (by omega) J Sm)
set_option maxRecDepth 100000 in
set_option maxHeartbeats 4000000 in
theorem ct_X12_yearsOf_r125_5 {Dy : jH → Prop} {h0 : jH} {Q : Option Value → jH → Prop} (hD : jDk Dy) (hQ : ∀ (v : Int32) hx9, jJ jSgM Dy hx9 → jSm fp_X12_yearsOf_r125 h0 hx9 → Q (some (.int v)) hx9) : ∀ r : Nat, ∀ (l1 : Int32) (l2 : Int32) (l3 : Int32) (l4 : Int32) (h : jH), 600 - l4.toInt < (r : Int) → (-1) ≤ l1.toInt ∧ l1.toInt ≤ 599 → 0 ≤ l2.toInt ∧ l2.toInt ≤ 146399 → (-1) ≤ l3.toInt ∧ l3.toInt ≤ 146399 → 0 ≤ l4.toInt ∧ l4.toInt ≤ 600 → jJ jSgM Dy h → jSm fp_X12_yearsOf_r125 h0 h → jX m_X12_yearsOf 4 0 0 5 [(0, .ref 125), (1, .int l1), (2, .int l2), (3, .int l3), (4, .int l4)] [] h 0 0 Q := by
  intro r
  induction r with
  | zero =>
    intro l1 l2 l3 l4 h hm y0 y1 y2 y3   J Sm
    exfalso
    omega
  | succ r ih =>
    intro l1 l2 l3 l4 h hm y0 y1 y2 y3   J Sm
    refine x_iload (x := l4) rfl rfl ?_
    refine x_iconst (v := 3) rfl ki_3 ?_
    refine x_aloadn (x := 125) rfl rfl ?_
    refine z_getR (N := 92) (b := 126) 12 2 rfl f_12_8 rfl J rfl 16002 ⟨rfl, rfl⟩ rfl ?_
    refine x_iconst (v := 0) rfl ki_0 ?_
    refine z_iald (N := 50660) rfl J rfl sg_126_0_1_1_0_1 jk_0 (by omega) (fun v1 qv1 ev1 => ?_)
    refine z_imul rfl jk_3 rfl (by omega) (fun v2 ev2 => ?_)
    refine x_icge (tgt := 82) rfl rfl (ti_ge rfl rfl ⟨fun c3 => ?_, fun c3 => ?_⟩)
    ·
      refine x_iloadn (x := l3) rfl rfl ?_
      refine x_ifge (tgt := 90) rfl rfl (ti_ge rfl jk_0 ⟨fun c4 => ?_, fun c4 => ?_⟩)
      ·
        refine x_iloadn (x := l2) rfl rfl ?_
        refine x_iloadn (x := l3) rfl rfl ?_
        refine z_isub rfl rfl rfl (by omega) (fun v5 ev5 => ?_)
        refine x_sipush (v := 366) rfl ks_366 ?_
        refine z_idiv0 rfl jk_366 (by omega) (fun v6 => ?_)
        have ev6 := jfull v6
        exact jX.sub jsb_n (ct_X12_yearsOf_r125_97 hD hQ  v6 h J Sm)
      ·
        refine x_iconst (v := 0) rfl ki_0 ?_
        refine x_goto (tgt := 97) rfl rfl ?_
        exact jX.sub jsb_n (ct_X12_yearsOf_r125_200097 hD hQ  h J Sm)
    ·
      refine x_aloadn (x := 125) rfl rfl ?_
      refine z_getR (N := 92) (b := 139) 12 29 rfl f_12_72 rfl J rfl 16029 ⟨rfl, rfl⟩ rfl ?_
      refine x_iload (x := l4) rfl rfl ?_
      refine z_iald (N := 600) rfl J rfl sg_139_0_600_1_0_1 rfl (by omega) (fun v7 qv7 ev7 => ?_)
      refine x_iloadn (x := l1) rfl rfl ?_
      refine x_icne (tgt := 43) rfl rfl (ti_ne rfl rfl ⟨fun c8 => ?_, fun c8 => ?_⟩)
      ·
        exact jX.sub (jsb_c rfl (jsb_c rfl (jsb_c rfl (jsb_c rfl (jsb_c rfl jsb_n))))) (ct_X12_yearsOf_r125_43 hD hQ ih l1 l2 l3 l4 h (jr_of rfl (by omega)) (jr_of rfl (by omega)) (jr_of rfl (by omega)) (jr_of rfl (by omega)) (by omega) J Sm)
      ·
        refine x_aloadn (x := 125) rfl rfl ?_
        refine x_iload (x := l4) rfl rfl ?_
        refine x_inv (N := m_X12_dayAt) (As := [.int l4]) (b := 125) (st := []) (dx9 := 3) (mc := 0) (ms := 0) (host := "") 12 rfl t_X12_dayAt ⟨Or.inl q_12_347, i_X12_dayAt.1, i_X12_dayAt.2⟩ ⟨by decide, rfl⟩ (congrArg Prod.fst (J.1.1 125 (12, 92) rfl)) rfl (by decide) rfl rfl ⟨by decide, by decide⟩ (sf_X12_dayAt_r125 (jr_of rfl (by omega)) hD J  (fun v10 h ev10 J S9 => ?_))
        have Sm := jSm_tr rfl Sm S9
        show jX m_X12_yearsOf 4 0 0 35 [(0, .ref 125), (1, .int l1), (2, .int l2), (3, .int l3), (4, .int l4)] [.int v10] _ 0 0 _
        refine x_iloadn (x := l2) rfl rfl ?_
        refine x_icgt (tgt := 43) rfl rfl (ti_gt rfl rfl ⟨fun c11 => ?_, fun c11 => ?_⟩)
        ·
          exact jX.sub (jsb_c rfl (jsb_c rfl (jsb_c rfl (jsb_c rfl (jsb_c rfl jsb_n))))) (ct_X12_yearsOf_r125_43 hD hQ ih l1 l2 l3 l4 h (jr_of rfl (by omega)) (jr_of rfl (by omega)) (jr_of rfl (by omega)) (jr_of rfl (by omega)) (by omega) J Sm)
        ·
          refine x_iconst (v := 1) rfl ki_1 ?_
          refine x_goto (tgt := 44) rfl rfl ?_
          exact jX.sub (jsb_c rfl (jsb_c rfl (jsb_c rfl (jsb_c rfl (jsb_c rfl jsb_n))))) (ct_X12_yearsOf_r125_300044 hD hQ ih l1 l2 l3 l4 h (jr_of rfl (by omega)) (jr_of rfl (by omega)) (jr_of rfl (by omega)) (jr_of rfl (by omega)) (by omega) J Sm)
set_option maxRecDepth 100000 in
set_option maxHeartbeats 4000000 in
theorem sf_X12_yearsOf_r125 {Dy : jH → Prop} {h : jH} {Q : Option Value → jH → Prop} {a1 : Int32} {a2 : Int32} (y1 : (-1) ≤ a1.toInt ∧ a1.toInt ≤ 599) (y2 : 0 ≤ a2.toInt ∧ a2.toInt ≤ 146399) (hD : jDk Dy) (J : jJ jSgM Dy h) (hQ : ∀ (v : Int32) hx9, jJ jSgM Dy hx9 → jSm fp_X12_yearsOf_r125 h hx9 → Q (some (.int v)) hx9) : jC m_X12_yearsOf 4 0 0 [.ref 125, .int a1, .int a2] h Q := by
  refine jC.of rfl k_X12_yearsOf rfl ?_
  have Sm := jSm_rf fp_X12_yearsOf_r125 h
  show jX m_X12_yearsOf 4 0 0 0 [(0, .ref 125), (1, .int a1), (2, .int a2)] [] _ 0 0 _
  refine x_iconst (v := (-1)) rfl ki_m1 ?_
  refine x_istoren (lsx9 := [(3, .int (-1)), (0, .ref 125), (1, .int a1), (2, .int a2)]) rfl rfl rfl ?_
  refine x_iconst (v := 0) rfl ki_0 ?_
  refine x_istore (lsx9 := [(4, .int 0), (3, .int (-1)), (0, .ref 125), (1, .int a1), (2, .int a2)]) rfl rfl rfl ?_
  exact jX.sub (jsb_c rfl (jsb_c rfl (jsb_c rfl (jsb_c rfl (jsb_c rfl jsb_n))))) (ct_X12_yearsOf_r125_5 hD hQ  601 a1 a2 (-1) 0 h (by have := jk_0; omega) (jr_of rfl (by omega)) (jr_of rfl (by omega)) (jr_of jk_m1 (by omega)) (jr_of jk_0 (by omega)) J Sm)
