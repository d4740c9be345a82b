def fp_X8_at_r55_c3 : jFp := []
set_option maxRecDepth 100000 in
set_option maxHeartbeats 4000000 in
theorem ct_X8_at_r55_c3_24 {Dy : jH → Prop} {h0 : jH} {Q : Option Value → jH → Prop} (hD : jDk Dy) (hQ : ∀ (v : Int32) h', 0 ≤ v.toInt ∧ v.toInt ≤ 39 → jJ jSgX Dy h' → jSm fp_X8_at_r55_c3 h0 h' → Q (some (.int v)) h') : ∀ (h : jH), jJ jSgX Dy h → jSm fp_X8_at_r55_c3 h0 h → jX m_X8_at 1 0 0 24 [] [] h 0 0 Q := by
  intro  h    J Sm
  refine x_iconst (v := 0) rfl ki_0 ?_
  refine x_iret rfl rfl ?_
  exact hQ _ _ (jr_of jk_0 (by omega)) J Sm
set_option maxRecDepth 100000 in
set_option maxHeartbeats 4000000 in
theorem sf_X8_at_r55_c3 {Dy : jH → Prop} {h : jH} {Q : Option Value → jH → Prop} {a1 : Int32} (y1 : 0 ≤ a1.toInt ∧ a1.toInt ≤ 99) (hD : jDk Dy) (J : jJ jSgX Dy h) (hQ : ∀ (v : Int32) h', 0 ≤ v.toInt ∧ v.toInt ≤ 39 → jJ jSgX Dy h' → jSm fp_X8_at_r55_c3 h h' → Q (some (.int v)) h') : jC m_X8_at 1 0 0 [.ref 55, .int a1, .int 3] h Q := by
  refine jC.of rfl k_X8_at rfl ?_
  have Sm := jSm_rf fp_X8_at_r55_c3 h
  show jX m_X8_at 1 0 0 0 [(0, .ref 55), (1, .int a1), (2, .int 3)] [] _ 0 0 _
  refine x_iloadn (x := a1) rfl rfl ?_
  refine x_iflt (tgt := 24) rfl rfl (ti_lt rfl jk_0 (br_f (by omega) ?_))
  refine x_iloadn (x := a1) rfl rfl ?_
  refine x_aloadn (x := 55) rfl rfl ?_
  refine z_getI (N := 4) 8 3 rfl f_8_7 rfl J rfl sg_55_3_4_1_0_1 (fun v1 qv1 ev1 => ?_)
  refine x_icge (tgt := 24) rfl rfl (ti_ge rfl rfl ⟨fun c2 => ?_, fun c2 => ?_⟩)
  ·
    exact jX.sub jsb_n (ct_X8_at_r55_c3_24 hD hQ  h J Sm)
  ·
    refine x_iloadn (x := 3) rfl rfl ?_
    refine x_iflt (tgt := 24) rfl rfl (ti_lt jk_3 jk_0 (br_f (by omega) ?_))
    refine x_iloadn (x := 3) rfl rfl ?_
    refine x_aloadn (x := 55) rfl rfl ?_
    refine z_getC (N := 4) (v := 5) 8 0 rfl f_8_19 rfl J rfl sg_55_0_1_1_0_1 jk_5 ?_
    refine x_iclt (tgt := 26) rfl rfl (ti_lt jk_3 jk_5 (br_t (by omega) ?_))
    refine x_aloadn (x := 55) rfl rfl ?_
    refine z_getR (N := 4) (b := 56) 8 2 rfl f_8_25 rfl J rfl 7042 ⟨rfl, rfl⟩ rfl ?_
    refine x_iloadn (x := a1) rfl rfl ?_
    refine x_aloadn (x := 55) rfl rfl ?_
    refine z_getC (N := 4) (v := 5) 8 0 rfl f_8_19 rfl J rfl sg_55_0_1_1_0_1 jk_5 ?_
    refine z_imul rfl rfl jk_5 (by omega) (fun v3 ev3 => ?_)
    refine x_iloadn (x := 3) rfl rfl ?_
    refine z_iadd rfl rfl jk_3 (by omega) (fun v4 ev4 => ?_)
    refine z_iald (N := 500) rfl J rfl sg_56_0_500_5_3_4 rfl (by omega) (fun v5 qv5 ev5 => ?_)
    refine x_iret rfl rfl ?_
    exact hQ _ _ (jr_of rfl (by omega)) J Sm
def fp_X8_at_r55_c4 : jFp := []
set_option maxRecDepth 100000 in
set_option maxHeartbeats 4000000 in
theorem ct_X8_at_r55_c4_24 {Dy : jH → Prop} {h0 : jH} {Q : Option Value → jH → Prop} (hD : jDk Dy) (hQ : ∀ (v : Int32) h', 0 ≤ v.toInt ∧ v.toInt ≤ 1000000 → jJ jSgX Dy h' → jSm fp_X8_at_r55_c4 h0 h' → Q (some (.int v)) h') : ∀ (h : jH), jJ jSgX Dy h → jSm fp_X8_at_r55_c4 h0 h → jX m_X8_at 1 0 0 24 [] [] h 0 0 Q := by
  intro  h    J Sm
  refine x_iconst (v := 0) rfl ki_0 ?_
  refine x_iret rfl rfl ?_
  exact hQ _ _ (jr_of jk_0 (by omega)) J Sm
set_option maxRecDepth 100000 in
set_option maxHeartbeats 4000000 in
theorem sf_X8_at_r55_c4 {Dy : jH → Prop} {h : jH} {Q : Option Value → jH → Prop} {a1 : Int32} (y1 : 0 ≤ a1.toInt ∧ a1.toInt ≤ 99) (hD : jDk Dy) (J : jJ jSgX Dy h) (hQ : ∀ (v : Int32) h', 0 ≤ v.toInt ∧ v.toInt ≤ 1000000 → jJ jSgX Dy h' → jSm fp_X8_at_r55_c4 h h' → Q (some (.int v)) h') : jC m_X8_at 1 0 0 [.ref 55, .int a1, .int 4] h Q := by
  refine jC.of rfl k_X8_at rfl ?_
  have Sm := jSm_rf fp_X8_at_r55_c4 h
  show jX m_X8_at 1 0 0 0 [(0, .ref 55), (1, .int a1), (2, .int 4)] [] _ 0 0 _
  refine x_iloadn (x := a1) rfl rfl ?_
  refine x_iflt (tgt := 24) rfl rfl (ti_lt rfl jk_0 (br_f (by omega) ?_))
  refine x_iloadn (x := a1) rfl rfl ?_
  refine x_aloadn (x := 55) rfl rfl ?_
  refine z_getI (N := 4) 8 3 rfl f_8_7 rfl J rfl sg_55_3_4_1_0_1 (fun v1 qv1 ev1 => ?_)
  refine x_icge (tgt := 24) rfl rfl (ti_ge rfl rfl ⟨fun c2 => ?_, fun c2 => ?_⟩)
  ·
    exact jX.sub jsb_n (ct_X8_at_r55_c4_24 hD hQ  h J Sm)
  ·
    refine x_iloadn (x := 4) rfl rfl ?_
    refine x_iflt (tgt := 24) rfl rfl (ti_lt jk_4 jk_0 (br_f (by omega) ?_))
    refine x_iloadn (x := 4) rfl rfl ?_
    refine x_aloadn (x := 55) rfl rfl ?_
    refine z_getC (N := 4) (v := 5) 8 0 rfl f_8_19 rfl J rfl sg_55_0_1_1_0_1 jk_5 ?_
    refine x_iclt (tgt := 26) rfl rfl (ti_lt jk_4 jk_5 (br_t (by omega) ?_))
    refine x_aloadn (x := 55) rfl rfl ?_
    refine z_getR (N := 4) (b := 56) 8 2 rfl f_8_25 rfl J rfl 7042 ⟨rfl, rfl⟩ rfl ?_
    refine x_iloadn (x := a1) rfl rfl ?_
    refine x_aloadn (x := 55) rfl rfl ?_
    refine z_getC (N := 4) (v := 5) 8 0 rfl f_8_19 rfl J rfl sg_55_0_1_1_0_1 jk_5 ?_
    refine z_imul rfl rfl jk_5 (by omega) (fun v3 ev3 => ?_)
    refine x_iloadn (x := 4) rfl rfl ?_
    refine z_iadd rfl rfl jk_4 (by omega) (fun v4 ev4 => ?_)
    refine z_iald (N := 500) rfl J rfl sg_56_0_500_5_4_5 rfl (by omega) (fun v5 qv5 ev5 => ?_)
    refine x_iret rfl rfl ?_
    exact hQ _ _ (jr_of rfl (by omega)) J Sm
def fp_X8_isKnown_r53 : jFp := []
set_option maxRecDepth 100000 in
set_option maxHeartbeats 4000000 in
theorem ct_X8_isKnown_r53_200032 {Dy : jH → Prop} {h0 : jH} {Q : Option Value → jH → Prop} (hD : jDk Dy) (hQ : ∀ (v : Int32) h', 0 ≤ v.toInt ∧ v.toInt ≤ 1 → jJ jSgX Dy h' → jSm fp_X8_isKnown_r53 h0 h' → Q (some (.int v)) h') : ∀ (h : jH), jJ jSgX Dy h → jSm fp_X8_isKnown_r53 h0 h → jX m_X8_isKnown 1 0 0 32 [] [.int 0] h 0 0 Q := by
  intro  h    J Sm
  refine x_zret rfl rfl (by decide) ?_
  exact hQ _ _ (jr_of jk_0 (by omega)) J Sm
set_option maxRecDepth 100000 in
set_option maxHeartbeats 4000000 in
theorem ct_X8_isKnown_r53_300032 {Dy : jH → Prop} {h0 : jH} {Q : Option Value → jH → Prop} (hD : jDk Dy) (hQ : ∀ (v : Int32) h', 0 ≤ v.toInt ∧ v.toInt ≤ 1 → jJ jSgX Dy h' → jSm fp_X8_isKnown_r53 h0 h' → Q (some (.int v)) h') : ∀ (h : jH), jJ jSgX Dy h → jSm fp_X8_isKnown_r53 h0 h → jX m_X8_isKnown 1 0 0 32 [] [.int 1] h 0 0 Q := by
  intro  h    J Sm
  refine x_zret rfl rfl (by decide) ?_
  exact hQ _ _ (jr_of jk_1 (by omega)) J Sm
set_option maxRecDepth 100000 in
set_option maxHeartbeats 4000000 in
theorem ct_X8_isKnown_r53_31 {Dy : jH → Prop} {h0 : jH} {Q : Option Value → jH → Prop} (hD : jDk Dy) (hQ : ∀ (v : Int32) h', 0 ≤ v.toInt ∧ v.toInt ≤ 1 → jJ jSgX Dy h' → jSm fp_X8_isKnown_r53 h0 h' → Q (some (.int v)) h') : ∀ (h : jH), jJ jSgX Dy h → jSm fp_X8_isKnown_r53 h0 h → jX m_X8_isKnown 1 0 0 31 [] [] h 0 0 Q := by
  intro  h    J Sm
  refine x_iconst (v := 0) rfl ki_0 ?_
  exact jX.sub jsb_n (ct_X8_isKnown_r53_200032 hD hQ  h J Sm)
set_option maxRecDepth 100000 in
set_option maxHeartbeats 4000000 in
theorem sf_X8_isKnown_r53 {Dy : jH → Prop} {h : jH} {Q : Option Value → jH → Prop} {a1 : Int32} {a2 : Int32} (y2 : 0 ≤ a2.toInt ∧ a2.toInt ≤ 146399) (hD : jDk Dy) (J : jJ jSgX Dy h) (hQ : ∀ (v : Int32) h', 0 ≤ v.toInt ∧ v.toInt ≤ 1 → jJ jSgX Dy h' → jSm fp_X8_isKnown_r53 h h' → Q (some (.int v)) h') : jC m_X8_isKnown 1 0 0 [.ref 53, .int a1, .int a2] h Q := by
  refine jC.of rfl k_X8_isKnown rfl ?_
  have Sm := jSm_rf fp_X8_isKnown_r53 h
  have ea1 := jfull a1
  show jX m_X8_isKnown 1 0 0 0 [(0, .ref 53), (1, .int a1), (2, .int a2)] [] _ 0 0 _
  refine x_iloadn (x := a1) rfl rfl ?_
  refine x_iflt (tgt := 31) rfl rfl (ti_lt rfl jk_0 ⟨fun c1 => ?_, fun c1 => ?_⟩)
  ·
    exact jX.sub jsb_n (ct_X8_isKnown_r53_31 hD hQ  h J Sm)
  ·
    refine x_iloadn (x := a1) rfl rfl ?_
    refine x_aloadn (x := 53) rfl rfl ?_
    refine z_getI (N := 4) 8 3 rfl f_8_7 rfl J rfl sg_53_3_4_1_0_1 (fun v2 qv2 ev2 => ?_)
    refine x_icge (tgt := 31) rfl rfl (ti_ge rfl rfl ⟨fun c3 => ?_, fun c3 => ?_⟩)
    ·
      exact jX.sub jsb_n (ct_X8_isKnown_r53_31 hD hQ  h J Sm)
    ·
      refine x_aloadn (x := 53) rfl rfl ?_
      refine z_getR (N := 4) (b := 54) 8 2 rfl f_8_25 rfl J rfl 6786 ⟨rfl, rfl⟩ rfl ?_
      refine x_iloadn (x := a1) rfl rfl ?_
      refine x_aloadn (x := 53) rfl rfl ?_
      refine z_getC (N := 4) (v := 4) 8 0 rfl f_8_19 rfl J rfl sg_53_0_1_1_0_1 jk_4 ?_
      refine z_imul rfl rfl jk_4 (by omega) (fun v4 ev4 => ?_)
      refine z_iald (N := 160) rfl J rfl sg_54_0_160_4_0_1 rfl (by omega) (fun v5 qv5 ev5 => ?_)
      refine x_iloadn (x := a2) rfl rfl ?_
      refine x_icgt (tgt := 31) rfl rfl (ti_gt rfl rfl ⟨fun c6 => ?_, fun c6 => ?_⟩)
      ·
        exact jX.sub jsb_n (ct_X8_isKnown_r53_31 hD hQ  h J Sm)
      ·
        refine x_iconst (v := 1) rfl ki_1 ?_
        refine x_goto (tgt := 32) rfl rfl ?_
        exact jX.sub jsb_n (ct_X8_isKnown_r53_300032 hD hQ  h J Sm)
def fp_X8_isKnown_r55 : jFp := []
set_option maxRecDepth 100000 in
set_option maxHeartbeats 4000000 in
theorem ct_X8_isKnown_r55_300032 {Dy : jH → Prop} {h0 : jH} {Q : Option Value → jH → Prop} (hD : jDk Dy) (hQ : ∀ (v : Int32) h', 0 ≤ v.toInt ∧ v.toInt ≤ 1 → jJ jSgX Dy h' → jSm fp_X8_isKnown_r55 h0 h' → Q (some (.int v)) h') : ∀ (h : jH), jJ jSgX Dy h → jSm fp_X8_isKnown_r55 h0 h → jX m_X8_isKnown 1 0 0 32 [] [.int 1] h 0 0 Q := by
  intro  h    J Sm
  refine x_zret rfl rfl (by decide) ?_
  exact hQ _ _ (jr_of jk_1 (by omega)) J Sm
set_option maxRecDepth 100000 in
set_option maxHeartbeats 4000000 in
theorem ct_X8_isKnown_r55_200032 {Dy : jH → Prop} {h0 : jH} {Q : Option Value → jH → Prop} (hD : jDk Dy) (hQ : ∀ (v : Int32) h', 0 ≤ v.toInt ∧ v.toInt ≤ 1 → jJ jSgX Dy h' → jSm fp_X8_isKnown_r55 h0 h' → Q (some (.int v)) h') : ∀ (h : jH), jJ jSgX Dy h → jSm fp_X8_isKnown_r55 h0 h → jX m_X8_isKnown 1 0 0 32 [] [.int 0] h 0 0 Q := by
  intro  h    J Sm
  refine x_zret rfl rfl (by decide) ?_
  exact hQ _ _ (jr_of jk_0 (by omega)) J Sm
set_option maxRecDepth 100000 in
set_option maxHeartbeats 4000000 in
theorem ct_X8_isKnown_r55_31 {Dy : jH → Prop} {h0 : jH} {Q : Option Value → jH → Prop} (hD : jDk Dy) (hQ : ∀ (v : Int32) h', 0 ≤ v.toInt ∧ v.toInt ≤ 1 → jJ jSgX Dy h' → jSm fp_X8_isKnown_r55 h0 h' → Q (some (.int v)) h') : ∀ (h : jH), jJ jSgX Dy h → jSm fp_X8_isKnown_r55 h0 h → jX m_X8_isKnown 1 0 0 31 [] [] h 0 0 Q := by
  intro  h    J Sm
  refine x_iconst (v := 0) rfl ki_0 ?_
  exact jX.sub jsb_n (ct_X8_isKnown_r55_200032 hD hQ  h J Sm)
set_option maxRecDepth 100000 in
set_option maxHeartbeats 4000000 in
theorem sf_X8_isKnown_r55 {Dy : jH → Prop} {h : jH} {Q : Option Value → jH → Prop} {a1 : Int32} {a2 : Int32} (y1 : 0 ≤ a1.toInt ∧ a1.toInt ≤ 99) (y2 : 0 ≤ a2.toInt ∧ a2.toInt ≤ 146399) (hD : jDk Dy) (J : jJ jSgX Dy h) (hQ : ∀ (v : Int32) h', 0 ≤ v.toInt ∧ v.toInt ≤ 1 → jJ jSgX Dy h' → jSm fp_X8_isKnown_r55 h h' → Q (some (.int v)) h') : jC m_X8_isKnown 1 0 0 [.ref 55, .int a1, .int a2] h Q := by
  refine jC.of rfl k_X8_isKnown rfl ?_
  have Sm := jSm_rf fp_X8_isKnown_r55 h
  show jX m_X8_isKnown 1 0 0 0 [(0, .ref 55), (1, .int a1), (2, .int a2)] [] _ 0 0 _
  refine x_iloadn (x := a1) rfl rfl ?_
  refine x_iflt (tgt := 31) rfl rfl (ti_lt rfl jk_0 (br_f (by omega) ?_))
  refine x_iloadn (x := a1) rfl rfl ?_
  refine x_aloadn (x := 55) rfl rfl ?_
  refine z_getI (N := 4) 8 3 rfl f_8_7 rfl J rfl sg_55_3_4_1_0_1 (fun v1 qv1 ev1 => ?_)
  refine x_icge (tgt := 31) rfl rfl (ti_ge rfl rfl ⟨fun c2 => ?_, fun c2 => ?_⟩)
  ·
    exact jX.sub jsb_n (ct_X8_isKnown_r55_31 hD hQ  h J Sm)
  ·
    refine x_aloadn (x := 55) rfl rfl ?_
    refine z_getR (N := 4) (b := 56) 8 2 rfl f_8_25 rfl J rfl 7042 ⟨rfl, rfl⟩ rfl ?_
    refine x_iloadn (x := a1) rfl rfl ?_
    refine x_aloadn (x := 55) rfl rfl ?_
    refine z_getC (N := 4) (v := 5) 8 0 rfl f_8_19 rfl J rfl sg_55_0_1_1_0_1 jk_5 ?_
    refine z_imul rfl rfl jk_5 (by omega) (fun v3 ev3 => ?_)
    refine z_iald (N := 500) rfl J rfl sg_56_0_500_5_0_1 rfl (by omega) (fun v4 qv4 ev4 => ?_)
    refine x_iloadn (x := a2) rfl rfl ?_
    refine x_icgt (tgt := 31) rfl rfl (ti_gt rfl rfl ⟨fun c5 => ?_, fun c5 => ?_⟩)
    ·
      exact jX.sub jsb_n (ct_X8_isKnown_r55_31 hD hQ  h J Sm)
    ·
      refine x_iconst (v := 1) rfl ki_1 ?_
      refine x_goto (tgt := 32) rfl rfl ?_
      exact jX.sub jsb_n (ct_X8_isKnown_r55_300032 hD hQ  h J Sm)
def fp_X11_arrear_r31 : jFp := [(78, 13, 14), (82, 0, 600), (83, 0, 600), (84, 0, 200), (86, 0, 3), (98, 10, 11), (98, 11, 12), (98, 13, 14), (98, 14, 15), (98, 15, 16), (101, 0, 3), (102, 0, 40), (103, 0, 40), (104, 0, 40), (105, 0, 3), (108, 0, 40), (109, 0, 40), (110, 0, 40), (111, 0, 3)]
set_option maxRecDepth 100000 in
set_option maxHeartbeats 4000000 in
theorem ct_X11_arrear_r31_39 {Dy : jH → Prop} {h0 : jH} {Q : Option Value → jH → Prop} (hD : jDk Dy) (hQ : ∀ (v : Int32) h', jJ jSgX Dy h' → jSm fp_X11_arrear_r31 h0 h' → Q (some (.int v)) h') : ∀ (h : jH), jJ jSgX Dy h → jSm fp_X11_arrear_r31 h0 h → jX m_X11_arrear 7 0 0 39 [] [] h 0 0 Q := by
  intro  h    J Sm
  refine x_ldcw (v := (-2000000000)) rfl z_11_455 ?_
  refine x_iret rfl rfl ?_
  exact hQ _ _ J Sm
set_option maxRecDepth 100000 in
set_option maxHeartbeats 4000000 in
theorem ct_X11_arrear_r31_177 {Dy : jH → Prop} {h0 : jH} {Q : Option Value → jH → Prop} {R76 : Int} (hD : jDk Dy) (hQ : ∀ (v : Int32) h', jJ jSgX Dy h' → jSm fp_X11_arrear_r31 h0 h' → Q (some (.int v)) h') (k76 : ∀ (l1 : Int32) (l2 : Int32) (l3 : Int32) (l4 : Int32) (l5 : Int32) (l6 : Int32) (h : jH), 100 - l6.toInt < R76 → 0 ≤ l2.toInt ∧ l2.toInt ≤ 39 → 0 ≤ l3.toInt ∧ l3.toInt ≤ 146399 → 0 ≤ l4.toInt ∧ l4.toInt ≤ 146399 → 0 ≤ l6.toInt ∧ l6.toInt ≤ 100 → jJ jSgX Dy h → jSm fp_X11_arrear_r31 h0 h → jX m_X11_arrear 7 0 0 76 [(0, .ref 31), (1, .int l1), (2, .int l2), (3, .int l3), (4, .int l4), (5, .int l5), (6, .int l6)] [] h 0 0 Q) : ∀ (l1 : Int32) (l2 : Int32) (l3 : Int32) (l4 : Int32) (l5 : Int32) (l6 : Int32) (h : jH), 0 ≤ l2.toInt ∧ l2.toInt ≤ 39 → 0 ≤ l3.toInt ∧ l3.toInt ≤ 146399 → 0 ≤ l4.toInt ∧ l4.toInt ≤ 146399 → 0 ≤ l6.toInt ∧ l6.toInt ≤ 99 → 100 - l6.toInt ≤ R76 → jJ jSgX Dy h → jSm fp_X11_arrear_r31 h0 h → jX m_X11_arrear 7 0 0 177 [(0, .ref 31), (1, .int l1), (2, .int l2), (3, .int l3), (4, .int l4), (5, .int l5), (6, .int l6)] [] h 0 0 Q := by
  intro l1 l2 l3 l4 l5 l6 h y0 y1 y2 y3  m76 J Sm
  have el1 := jfull l1
  have el5 := jfull l5
  refine z_iinc (x := l6) (ls' := fun v1 => [(6, .int v1), (0, .ref 31), (1, .int l1), (2, .int l2), (3, .int l3), (4, .int l4), (5, .int l5)]) rfl rfl rfl jko_1 (by omega) rfl (fun _ => rfl) (fun v1 ev1 => ?_)
  refine x_goto (tgt := 76) rfl rfl ?_
  exact jX.sub (jsb_c rfl (jsb_c rfl (jsb_c rfl (jsb_c rfl (jsb_c rfl (jsb_c rfl (jsb_c rfl jsb_n))))))) (k76 l1 l2 l3 l4 l5 v1 h (by omega) (jr_of rfl (by omega)) (jr_of rfl (by omega)) (jr_of rfl (by omega)) (jr_of rfl (by omega)) J Sm)
set_option maxRecDepth 100000 in
set_option maxHeartbeats 4000000 in
theorem ct_X11_arrear_r31_76 {Dy : jH → Prop} {h0 : jH} {Q : Option Value → jH → Prop} (hD : jDk Dy) (hQ : ∀ (v : Int32) h', jJ jSgX Dy h' → jSm fp_X11_arrear_r31 h0 h' → Q (some (.int v)) h') : ∀ r : Nat, ∀ (l1 : Int32) (l2 : Int32) (l3 : Int32) (l4 : Int32) (l5 : Int32) (l6 : Int32) (h : jH), 100 - l6.toInt < (r : Int) → 0 ≤ l2.toInt ∧ l2.toInt ≤ 39 → 0 ≤ l3.toInt ∧ l3.toInt ≤ 146399 → 0 ≤ l4.toInt ∧ l4.toInt ≤ 146399 → 0 ≤ l6.toInt ∧ l6.toInt ≤ 100 → jJ jSgX Dy h → jSm fp_X11_arrear_r31 h0 h → jX m_X11_arrear 7 0 0 76 [(0, .ref 31), (1, .int l1), (2, .int l2), (3, .int l3), (4, .int l4), (5, .int l5), (6, .int l6)] [] h 0 0 Q := by
  intro r
  induction r with
  | zero =>
    intro l1 l2 l3 l4 l5 l6 h hm y0 y1 y2 y3   J Sm
    exfalso
    omega
  | succ r ih =>
    intro l1 l2 l3 l4 l5 l6 h hm y0 y1 y2 y3   J Sm
    have el1 := jfull l1
    have el5 := jfull l5
    refine x_iload (x := l6) rfl rfl ?_
    refine x_aloadn (x := 31) rfl rfl ?_
    refine z_getR (N := 13) (b := 32) 11 0 rfl f_11_10 rfl J rfl 3968 ⟨rfl, rfl⟩ rfl ?_
    refine z_getR (N := 20) (b := 55) 1 11 rfl f_11_452 rfl J rfl 4107 ⟨rfl, rfl⟩ rfl ?_
    refine z_getI (N := 4) 8 3 rfl f_11_142 rfl J rfl sg_55_3_4_1_0_1 (fun v1 qv1 ev1 => ?_)
    refine x_icge (tgt := 183) rfl rfl (ti_ge rfl rfl ⟨fun c2 => ?_, fun c2 => ?_⟩)
    ·
      refine x_iload (x := l5) rfl rfl ?_
      refine x_iret rfl rfl ?_
      exact hQ _ _ J Sm
    ·
      refine x_aloadn (x := 31) rfl rfl ?_
      refine z_getR (N := 13) (b := 32) 11 0 rfl f_11_10 rfl J rfl 3968 ⟨rfl, rfl⟩ rfl ?_
      refine z_getR (N := 20) (b := 55) 1 11 rfl f_11_452 rfl J rfl 4107 ⟨rfl, rfl⟩ rfl ?_
      refine x_iload (x := l6) rfl rfl ?_
      refine x_iload (x := l4) rfl rfl ?_
      refine x_inv (N := m_X8_isKnown) (As := [.int l6, .int l4]) (b := 55) (st := []) (d' := 1) (mc := 0) (ms := 0) (host := "") 8 rfl t_X8_isKnown ⟨Or.inl q_11_440, i_X8_isKnown.1, i_X8_isKnown.2⟩ ⟨by decide, rfl⟩ (congrArg Prod.fst (J.1.1 55 (8, 4) rfl)) rfl (by decide) rfl rfl ⟨by decide, by decide⟩ (sf_X8_isKnown_r55 (jr_of rfl (by omega)) (jr_of rfl (by omega)) hD J  (fun v4 h ev4 J S3 => ?_))
      have Sm := jSm_tr rfl Sm S3
      show jX m_X11_arrear 7 0 0 105 [(0, .ref 31), (1, .int l1), (2, .int l2), (3, .int l3), (4, .int l4), (5, .int l5), (6, .int l6)] [.int v4] _ 0 0 _
      refine x_ifeq (tgt := 177) rfl rfl (ti_eq rfl jk_0 ⟨fun c5 => ?_, fun c5 => ?_⟩)
      ·
        exact jX.sub (jsb_c rfl (jsb_c rfl (jsb_c rfl (jsb_c rfl (jsb_c rfl (jsb_c rfl (jsb_c rfl jsb_n))))))) (ct_X11_arrear_r31_177 hD hQ ih l1 l2 l3 l4 l5 l6 h (jr_of rfl (by omega)) (jr_of rfl (by omega)) (jr_of rfl (by omega)) (jr_of rfl (by omega)) (by omega) J Sm)
      ·
        refine x_aloadn (x := 31) rfl rfl ?_
        refine z_getR (N := 13) (b := 32) 11 0 rfl f_11_10 rfl J rfl 3968 ⟨rfl, rfl⟩ rfl ?_
        refine z_getR (N := 20) (b := 55) 1 11 rfl f_11_452 rfl J rfl 4107 ⟨rfl, rfl⟩ rfl ?_
        refine x_iload (x := l6) rfl rfl ?_
        refine x_iconst (v := 1) rfl ki_1 ?_
        refine x_inv (N := m_X8_at) (As := [.int l6, .int 1]) (b := 55) (st := []) (d' := 1) (mc := 0) (ms := 0) (host := "") 8 rfl t_X8_at ⟨Or.inl q_11_171, i_X8_at.1, i_X8_at.2⟩ ⟨by decide, rfl⟩ (congrArg Prod.fst (J.1.1 55 (8, 4) rfl)) rfl (by decide) rfl rfl ⟨by decide, by decide⟩ (sf_X8_at_r55_c1 (jr_of rfl (by omega)) hD J  (fun v7 h ev7 J S6 => ?_))
        have Sm := jSm_tr rfl Sm S6
        show jX m_X11_arrear 7 0 0 121 [(0, .ref 31), (1, .int l1), (2, .int l2), (3, .int l3), (4, .int l4), (5, .int l5), (6, .int l6)] [.int v7] _ 0 0 _
        refine x_iloadn (x := l3) rfl rfl ?_
        refine x_icgt (tgt := 177) rfl rfl (ti_gt rfl rfl ⟨fun c8 => ?_, fun c8 => ?_⟩)
        ·
          exact jX.sub (jsb_c rfl (jsb_c rfl (jsb_c rfl (jsb_c rfl (jsb_c rfl (jsb_c rfl (jsb_c rfl jsb_n))))))) (ct_X11_arrear_r31_177 hD hQ ih l1 l2 l3 l4 l5 l6 h (jr_of rfl (by omega)) (jr_of rfl (by omega)) (jr_of rfl (by omega)) (jr_of rfl (by omega)) (by omega) J Sm)
        ·
          refine x_aloadn (x := 31) rfl rfl ?_
          refine z_getR (N := 13) (b := 32) 11 0 rfl f_11_10 rfl J rfl 3968 ⟨rfl, rfl⟩ rfl ?_
          refine z_getR (N := 20) (b := 55) 1 11 rfl f_11_452 rfl J rfl 4107 ⟨rfl, rfl⟩ rfl ?_
          refine x_iload (x := l6) rfl rfl ?_
          refine x_iconst (v := 2) rfl ki_2 ?_
          refine x_inv (N := m_X8_at) (As := [.int l6, .int 2]) (b := 55) (st := []) (d' := 1) (mc := 0) (ms := 0) (host := "") 8 rfl t_X8_at ⟨Or.inl q_11_171, i_X8_at.1, i_X8_at.2⟩ ⟨by decide, rfl⟩ (congrArg Prod.fst (J.1.1 55 (8, 4) rfl)) rfl (by decide) rfl rfl ⟨by decide, by decide⟩ (sf_X8_at_r55_c2 (jr_of rfl (by omega)) hD J  (fun v10 h ev10 J S9 => ?_))
          have Sm := jSm_tr rfl Sm S9
          show jX m_X11_arrear 7 0 0 138 [(0, .ref 31), (1, .int l1), (2, .int l2), (3, .int l3), (4, .int l4), (5, .int l5), (6, .int l6)] [.int v10] _ 0 0 _
          refine x_iloadn (x := l2) rfl rfl ?_
          refine x_icne (tgt := 177) rfl rfl (ti_ne rfl rfl ⟨fun c11 => ?_, fun c11 => ?_⟩)
          ·
            exact jX.sub (jsb_c rfl (jsb_c rfl (jsb_c rfl (jsb_c rfl (jsb_c rfl (jsb_c rfl (jsb_c rfl jsb_n))))))) (ct_X11_arrear_r31_177 hD hQ ih l1 l2 l3 l4 l5 l6 h (jr_of rfl (by omega)) (jr_of rfl (by omega)) (jr_of rfl (by omega)) (jr_of rfl (by omega)) (by omega) J Sm)
          ·
            refine x_aloadn (x := 31) rfl rfl ?_
            refine z_getR (N := 13) (b := 32) 11 0 rfl f_11_10 rfl J rfl 3968 ⟨rfl, rfl⟩ rfl ?_
            refine z_getR (N := 20) (b := 55) 1 11 rfl f_11_452 rfl J rfl 4107 ⟨rfl, rfl⟩ rfl ?_
            refine x_iload (x := l6) rfl rfl ?_
            refine x_iconst (v := 3) rfl ki_3 ?_
            refine x_inv (N := m_X8_at) (As := [.int l6, .int 3]) (b := 55) (st := []) (d' := 1) (mc := 0) (ms := 0) (host := "") 8 rfl t_X8_at ⟨Or.inl q_11_171, i_X8_at.1, i_X8_at.2⟩ ⟨by decide, rfl⟩ (congrArg Prod.fst (J.1.1 55 (8, 4) rfl)) rfl (by decide) rfl rfl ⟨by decide, by decide⟩ (sf_X8_at_r55_c3 (jr_of rfl (by omega)) hD J  (fun v13 h ev13 J S12 => ?_))
            have Sm := jSm_tr rfl Sm S12
            show jX m_X11_arrear 7 0 0 155 [(0, .ref 31), (1, .int l1), (2, .int l2), (3, .int l3), (4, .int l4), (5, .int l5), (6, .int l6)] [.int v13] _ 0 0 _
            refine x_iloadn (x := l1) rfl rfl ?_
            refine x_icne (tgt := 177) rfl rfl (ti_ne rfl rfl ⟨fun c14 => ?_, fun c14 => ?_⟩)
            ·
              exact jX.sub (jsb_c rfl (jsb_c rfl (jsb_c rfl (jsb_c rfl (jsb_c rfl (jsb_c rfl (jsb_c rfl jsb_n))))))) (ct_X11_arrear_r31_177 hD hQ ih l1 l2 l3 l4 l5 l6 h (jr_of rfl (by omega)) (jr_of rfl (by omega)) (jr_of rfl (by omega)) (jr_of rfl (by omega)) (by omega) J Sm)
            ·
              refine x_iload (x := l5) rfl rfl ?_
              refine x_aloadn (x := 31) rfl rfl ?_
              refine z_getR (N := 13) (b := 32) 11 0 rfl f_11_10 rfl J rfl 3968 ⟨rfl, rfl⟩ rfl ?_
              refine z_getR (N := 20) (b := 55) 1 11 rfl f_11_452 rfl J rfl 4107 ⟨rfl, rfl⟩ rfl ?_
              refine x_iload (x := l6) rfl rfl ?_
              refine x_iconst (v := 4) rfl ki_4 ?_
              refine x_inv (N := m_X8_at) (As := [.int l6, .int 4]) (b := 55) (st := [.int l5]) (d' := 1) (mc := 0) (ms := 0) (host := "") 8 rfl t_X8_at ⟨Or.inl q_11_171, i_X8_at.1, i_X8_at.2⟩ ⟨by decide, rfl⟩ (congrArg Prod.fst (J.1.1 55 (8, 4) rfl)) rfl (by decide) rfl rfl ⟨by decide, by decide⟩ (sf_X8_at_r55_c4 (jr_of rfl (by omega)) hD J  (fun v16 h ev16 J S15 => ?_))
              have Sm := jSm_tr rfl Sm S15
              show jX m_X11_arrear 7 0 0 174 [(0, .ref 31), (1, .int l1), (2, .int l2), (3, .int l3), (4, .int l4), (5, .int l5), (6, .int l6)] [.int v16, .int l5] _ 0 0 _
              refine z_isub0 rfl (fun v17 => ?_)
              have ev17 := jfull v17
              refine x_istore (ls' := [(5, .int v17), (0, .ref 31), (1, .int l1), (2, .int l2), (3, .int l3), (4, .int l4), (6, .int l6)]) rfl rfl rfl ?_
              exact jX.sub (jsb_c rfl (jsb_c rfl (jsb_c rfl (jsb_c rfl (jsb_c rfl (jsb_c rfl (jsb_c rfl jsb_n))))))) (ct_X11_arrear_r31_177 hD hQ ih l1 l2 l3 l4 v17 l6 h (jr_of rfl (by omega)) (jr_of rfl (by omega)) (jr_of rfl (by omega)) (jr_of rfl (by omega)) (by omega) J Sm)
set_option maxRecDepth 100000 in
set_option maxHeartbeats 4000000 in
theorem sf_X11_arrear_r31 {Dy : jH → Prop} {h : jH} {Q : Option Value → jH → Prop} {a1 : Int32} {a2 : Int32} {a3 : Int32} {a4 : Int32} (hD : jDk Dy) (J : jJ jSgX Dy h) (hQ : ∀ (v : Int32) h', jJ jSgX Dy h' → jSm fp_X11_arrear_r31 h h' → Q (some (.int v)) h') : jC m_X11_arrear 7 0 0 [.ref 31, .int a1, .int a2, .int a3, .int a4] h Q := by
  refine jC.of rfl k_X11_arrear rfl ?_
  have Sm := jSm_rf fp_X11_arrear_r31 h
  have ea1 := jfull a1
  have ea2 := jfull a2
  have ea3 := jfull a3
  have ea4 := jfull a4
  show jX m_X11_arrear 7 0 0 0 [(0, .ref 31), (1, .int a1), (2, .int a2), (3, .int a3), (4, .int a4)] [] _ 0 0 _
  refine x_iloadn (x := a3) rfl rfl ?_
  refine x_inst (N := m_X11_isDay) (As := [.int a3]) (st := []) (d' := 1) (mc := 0) (ms := 0) (host := "") rfl t_X11_isDay ⟨Or.inl q_11_115, s_X11_isDay⟩ rfl (by decide) rfl rfl ⟨by decide, by decide⟩ (zc_X11_isDay rfl (fun v1 ev1 => ?_))
  show jX m_X11_arrear 7 0 0 4 [(0, .ref 31), (1, .int a1), (2, .int a2), (3, .int a3), (4, .int a4)] [.int v1] _ 0 0 _
  refine x_ifeq (tgt := 39) rfl rfl (ti_eq rfl jk_0 ⟨fun c2 => ?_, fun c2 => ?_⟩)
  ·
    exact jX.sub jsb_n (ct_X11_arrear_r31_39 hD hQ  h J Sm)
  ·
    refine x_iload (x := a4) rfl rfl ?_
    refine x_inst (N := m_X11_isDay) (As := [.int a4]) (st := []) (d' := 1) (mc := 0) (ms := 0) (host := "") rfl t_X11_isDay ⟨Or.inl q_11_115, s_X11_isDay⟩ rfl (by decide) rfl rfl ⟨by decide, by decide⟩ (zc_X11_isDay rfl (fun v3 ev3 => ?_))
    show jX m_X11_arrear 7 0 0 12 [(0, .ref 31), (1, .int a1), (2, .int a2), (3, .int a3), (4, .int a4)] [.int v3] _ 0 0 _
    refine x_ifeq (tgt := 39) rfl rfl (ti_eq rfl jk_0 ⟨fun c4 => ?_, fun c4 => ?_⟩)
    ·
      exact jX.sub jsb_n (ct_X11_arrear_r31_39 hD hQ  h J Sm)
    ·
      refine x_aloadn (x := 31) rfl rfl ?_
      refine z_getR (N := 13) (b := 32) 11 0 rfl f_11_10 rfl J rfl 3968 ⟨rfl, rfl⟩ rfl ?_
      refine z_getR (N := 20) (b := 53) 1 10 rfl f_11_437 rfl J rfl 4106 ⟨rfl, rfl⟩ rfl ?_
      refine x_iloadn (x := a1) rfl rfl ?_
      refine x_iload (x := a4) rfl rfl ?_
      refine x_inv (N := m_X8_isKnown) (As := [.int a1, .int a4]) (b := 53) (st := []) (d' := 1) (mc := 0) (ms := 0) (host := "") 8 rfl t_X8_isKnown ⟨Or.inl q_11_440, i_X8_isKnown.1, i_X8_isKnown.2⟩ ⟨by decide, rfl⟩ (congrArg Prod.fst (J.1.1 53 (8, 4) rfl)) rfl (by decide) rfl rfl ⟨by decide, by decide⟩ (sf_X8_isKnown_r53 (jr_of rfl (by omega)) hD J  (fun v6 h ev6 J S5 => ?_))
      have Sm := jSm_tr rfl Sm S5
      show jX m_X11_arrear 7 0 0 28 [(0, .ref 31), (1, .int a1), (2, .int a2), (3, .int a3), (4, .int a4)] [.int v6] _ 0 0 _
      refine x_ifeq (tgt := 39) rfl rfl (ti_eq rfl jk_0 ⟨fun c7 => ?_, fun c7 => ?_⟩)
      ·
        exact jX.sub jsb_n (ct_X11_arrear_r31_39 hD hQ  h J Sm)
      ·
        refine x_aloadn (x := 31) rfl rfl ?_
        refine x_iloadn (x := a2) rfl rfl ?_
        refine x_inv (N := m_X11_isHolding) (As := [.int a2]) (b := 31) (st := []) (d' := 6) (mc := 0) (ms := 0) (host := "") 11 rfl t_X11_isHolding ⟨Or.inl q_11_415, i_X11_isHolding.1, i_X11_isHolding.2⟩ ⟨by decide, rfl⟩ (congrArg Prod.fst (J.1.1 31 (11, 13) rfl)) rfl (by decide) rfl rfl ⟨by decide, by decide⟩ (jC.of rfl k_X11_isHolding rfl ?_)
        show jX m_X11_isHolding 6 0 0 0 [(0, .ref 31), (1, .int a2)] [] _ 0 0 _
        refine x_iloadn (x := a2) rfl rfl ?_
        refine x_iflt (tgt := 28) rfl rfl (ti_lt rfl jk_0 ⟨fun c8 => ?_, fun c8 => ?_⟩)
        ·
          refine x_iconst (v := 0) rfl ki_0 ?_
          refine x_zret rfl rfl (by decide) ?_
          show jX m_X11_arrear 7 0 0 36 [(0, .ref 31), (1, .int a1), (2, .int a2), (3, .int a3), (4, .int a4)] [.int 0] _ 0 0 _
          refine x_ifne (tgt := 43) rfl rfl (ti_ne jk_0 jk_0 (bn_f (by omega) ?_))
          exact jX.sub jsb_n (ct_X11_arrear_r31_39 hD hQ  h J Sm)
        ·
          refine x_iloadn (x := a2) rfl rfl ?_
          refine x_aloadn (x := 31) rfl rfl ?_
          refine z_getR (N := 13) (b := 32) 11 0 rfl f_11_10 rfl J rfl 3968 ⟨rfl, rfl⟩ rfl ?_
          refine z_getR (N := 20) (b := 49) 1 8 rfl f_11_408 rfl J rfl 4104 ⟨rfl, rfl⟩ rfl ?_
          refine z_getI (N := 4) 8 3 rfl f_11_142 rfl J rfl sg_49_3_4_1_0_1 (fun v9 qv9 ev9 => ?_)
          refine x_icge (tgt := 28) rfl rfl (ti_ge rfl rfl ⟨fun c10 => ?_, fun c10 => ?_⟩)
          ·
            refine x_iconst (v := 0) rfl ki_0 ?_
            refine x_zret rfl rfl (by decide) ?_
            show jX m_X11_arrear 7 0 0 36 [(0, .ref 31), (1, .int a1), (2, .int a2), (3, .int a3), (4, .int a4)] [.int 0] _ 0 0 _
            refine x_ifne (tgt := 43) rfl rfl (ti_ne jk_0 jk_0 (bn_f (by omega) ?_))
            exact jX.sub jsb_n (ct_X11_arrear_r31_39 hD hQ  h J Sm)
          ·
            refine x_iloadn (x := a2) rfl rfl ?_
            refine x_bipush (v := 40) rfl kb_40 ?_
            refine x_icge (tgt := 28) rfl rfl (ti_ge rfl jk_40 (br_f (by omega) ?_))
            refine x_iconst (v := 1) rfl ki_1 ?_
            refine x_goto (tgt := 29) rfl rfl ?_
            refine x_zret rfl rfl (by decide) ?_
            show jX m_X11_arrear 7 0 0 36 [(0, .ref 31), (1, .int a1), (2, .int a2), (3, .int a3), (4, .int a4)] [.int 1] _ 0 0 _
            refine x_ifne (tgt := 43) rfl rfl (ti_ne jk_1 jk_0 (bn_t (by omega) ?_))
            refine x_aloadn (x := 31) rfl rfl ?_
            refine z_getR (N := 13) (b := 78) 11 4 rfl f_11_41 rfl J rfl 3972 ⟨rfl, rfl⟩ rfl ?_
            refine x_iload (x := a4) rfl rfl ?_
            refine x_inv (N := m_X7_asKnown) (As := [.int a4]) (b := 78) (st := []) (d' := 6) (mc := 0) (ms := 0) (host := "") 7 rfl t_X7_asKnown ⟨Or.inl q_11_240, i_X7_asKnown.1, i_X7_asKnown.2⟩ ⟨by decide, rfl⟩ (congrArg Prod.fst (J.1.1 78 (7, 16) rfl)) rfl (by decide) rfl rfl ⟨by decide, by decide⟩ (sf_X7_asKnown_r78 (jr_of rfl (by omega)) hD J  (fun h J S11 => ?_))
            have Sm := jSm_tr rfl Sm S11
            show jX m_X11_arrear 7 0 0 52 [(0, .ref 31), (1, .int a1), (2, .int a2), (3, .int a3), (4, .int a4)] [] _ 0 0 _
            refine x_aloadn (x := 31) rfl rfl ?_
            refine z_getR (N := 13) (b := 107) 11 8 rfl f_11_75 rfl J rfl 3976 ⟨rfl, rfl⟩ rfl ?_
            refine x_iloadn (x := a1) rfl rfl ?_
            refine x_iload (x := a4) rfl rfl ?_
            refine x_inv (N := m_X4_partOut) (As := [.int a1, .int a4]) (b := 107) (st := []) (d' := 5) (mc := 0) (ms := 0) (host := "") 4 rfl t_X4_partOut ⟨Or.inl q_11_443, i_X4_partOut.1, i_X4_partOut.2⟩ ⟨by decide, rfl⟩ (congrArg Prod.fst (J.1.1 107 (4, 18) rfl)) rfl (by decide) rfl rfl ⟨by decide, by decide⟩ (sf_X4_partOut_r107 (jr_of rfl (by omega)) hD J  (fun h J S12 => ?_))
            have Sm := jSm_tr rfl Sm S12
            show jX m_X11_arrear 7 0 0 62 [(0, .ref 31), (1, .int a1), (2, .int a2), (3, .int a3), (4, .int a4)] [] _ 0 0 _
            refine x_aloadn (x := 31) rfl rfl ?_
            refine z_getR (N := 13) (b := 107) 11 8 rfl f_11_75 rfl J rfl 3976 ⟨rfl, rfl⟩ rfl ?_
            refine z_getR (N := 18) (b := 108) 4 3 rfl f_11_449 rfl J rfl 13699 ⟨rfl, rfl⟩ rfl ?_
            refine x_iloadn (x := a2) rfl rfl ?_
            refine z_iald0 (N := 40) rfl J rfl rfl (by omega) (fun v13 qv13 => ?_)
            have ev13 := jfull v13
            refine x_istore (ls' := [(5, .int v13), (0, .ref 31), (1, .int a1), (2, .int a2), (3, .int a3), (4, .int a4)]) rfl rfl rfl ?_
            refine x_iconst (v := 0) rfl ki_0 ?_
            refine x_istore (ls' := [(6, .int 0), (5, .int v13), (0, .ref 31), (1, .int a1), (2, .int a2), (3, .int a3), (4, .int a4)]) rfl rfl rfl ?_
            exact jX.sub (jsb_c rfl (jsb_c rfl (jsb_c rfl (jsb_c rfl (jsb_c rfl (jsb_c rfl (jsb_c rfl jsb_n))))))) (ct_X11_arrear_r31_76 hD hQ  101 a1 a2 a3 a4 v13 0 h (by have := jk_0; omega) (jr_of rfl (by omega)) (jr_of rfl (by omega)) (jr_of rfl (by omega)) (jr_of jk_0 (by omega)) J Sm)
def fp_X8_at_r63_c0 : jFp := []
set_option maxRecDepth 100000 in
set_option maxHeartbeats 4000000 in
theorem ct_X8_at_r63_c0_24 {Dy : jH → Prop} {h0 : jH} {Q : Option Value → jH → Prop} (hD : jDk Dy) (hQ : ∀ (v : Int32) h', 0 ≤ v.toInt ∧ v.toInt ≤ 3 → jJ jSgX Dy h' → jSm fp_X8_at_r63_c0 h0 h' → Q (some (.int v)) h') : ∀ (h : jH), jJ jSgX Dy h → jSm fp_X8_at_r63_c0 h0 h → jX m_X8_at 1 0 0 24 [] [] h 0 0 Q := by
  intro  h    J Sm
  refine x_iconst (v := 0) rfl ki_0 ?_
  refine x_iret rfl rfl ?_
  exact hQ _ _ (jr_of jk_0 (by omega)) J Sm
set_option maxRecDepth 100000 in
set_option maxHeartbeats 4000000 in
theorem sf_X8_at_r63_c0 {Dy : jH → Prop} {h : jH} {Q : Option Value → jH → Prop} {a1 : Int32} (y1 : 0 ≤ a1.toInt ∧ a1.toInt ≤ 369) (hD : jDk Dy) (J : jJ jSgX Dy h) (hQ : ∀ (v : Int32) h', 0 ≤ v.toInt ∧ v.toInt ≤ 3 → jJ jSgX Dy h' → jSm fp_X8_at_r63_c0 h h' → Q (some (.int v)) h') : jC m_X8_at 1 0 0 [.ref 63, .int a1, .int 0] h Q := by
  refine jC.of rfl k_X8_at rfl ?_
  have Sm := jSm_rf fp_X8_at_r63_c0 h
  show jX m_X8_at 1 0 0 0 [(0, .ref 63), (1, .int a1), (2, .int 0)] [] _ 0 0 _
  refine x_iloadn (x := a1) rfl rfl ?_
  refine x_iflt (tgt := 24) rfl rfl (ti_lt rfl jk_0 (br_f (by omega) ?_))
  refine x_iloadn (x := a1) rfl rfl ?_
  refine x_aloadn (x := 63) rfl rfl ?_
  refine z_getI (N := 4) 8 3 rfl f_8_7 rfl J rfl sg_63_3_4_1_0_1 (fun v1 qv1 ev1 => ?_)
  refine x_icge (tgt := 24) rfl rfl (ti_ge rfl rfl ⟨fun c2 => ?_, fun c2 => ?_⟩)
  ·
    exact jX.sub jsb_n (ct_X8_at_r63_c0_24 hD hQ  h J Sm)
  ·
    refine x_iloadn (x := 0) rfl rfl ?_
    refine x_iflt (tgt := 24) rfl rfl (ti_lt jk_0 jk_0 (br_f (by omega) ?_))
    refine x_iloadn (x := 0) rfl rfl ?_
    refine x_aloadn (x := 63) rfl rfl ?_
    refine z_getC (N := 4) (v := 2) 8 0 rfl f_8_19 rfl J rfl sg_63_0_1_1_0_1 jk_2 ?_
    refine x_iclt (tgt := 26) rfl rfl (ti_lt jk_0 jk_2 (br_t (by omega) ?_))
    refine x_aloadn (x := 63) rfl rfl ?_
    refine z_getR (N := 4) (b := 64) 8 2 rfl f_8_25 rfl J rfl 8066 ⟨rfl, rfl⟩ rfl ?_
    refine x_iloadn (x := a1) rfl rfl ?_
    refine x_aloadn (x := 63) rfl rfl ?_
    refine z_getC (N := 4) (v := 2) 8 0 rfl f_8_19 rfl J rfl sg_63_0_1_1_0_1 jk_2 ?_
    refine z_imul rfl rfl jk_2 (by omega) (fun v3 ev3 => ?_)
    refine x_iloadn (x := 0) rfl rfl ?_
    refine z_iadd rfl rfl jk_0 (by omega) (fun v4 ev4 => ?_)
    refine z_iald (N := 740) rfl J rfl sg_64_0_740_2_0_1 rfl (by omega) (fun v5 qv5 ev5 => ?_)
    refine x_iret rfl rfl ?_
    exact hQ _ _ (jr_of rfl (by omega)) J Sm
def fp_X8_at_r63_c1 : jFp := []
set_option maxRecDepth 100000 in
set_option maxHeartbeats 4000000 in
theorem ct_X8_at_r63_c1_24 {Dy : jH → Prop} {h0 : jH} {Q : Option Value → jH → Prop} (hD : jDk Dy) (hQ : ∀ (v : Int32) h', 0 ≤ v.toInt ∧ v.toInt ≤ 200 → jJ jSgX Dy h' → jSm fp_X8_at_r63_c1 h0 h' → Q (some (.int v)) h') : ∀ (h : jH), jJ jSgX Dy h → jSm fp_X8_at_r63_c1 h0 h → jX m_X8_at 1 0 0 24 [] [] h 0 0 Q := by
  intro  h    J Sm
  refine x_iconst (v := 0) rfl ki_0 ?_
  refine x_iret rfl rfl ?_
  exact hQ _ _ (jr_of jk_0 (by omega)) J Sm
set_option maxRecDepth 100000 in
set_option maxHeartbeats 4000000 in
theorem sf_X8_at_r63_c1 {Dy : jH → Prop} {h : jH} {Q : Option Value → jH → Prop} {a1 : Int32} (y1 : 0 ≤ a1.toInt ∧ a1.toInt ≤ 369) (hD : jDk Dy) (J : jJ jSgX Dy h) (hQ : ∀ (v : Int32) h', 0 ≤ v.toInt ∧ v.toInt ≤ 200 → jJ jSgX Dy h' → jSm fp_X8_at_r63_c1 h h' → Q (some (.int v)) h') : jC m_X8_at 1 0 0 [.ref 63, .int a1, .int 1] h Q := by
  refine jC.of rfl k_X8_at rfl ?_
  have Sm := jSm_rf fp_X8_at_r63_c1 h
  show jX m_X8_at 1 0 0 0 [(0, .ref 63), (1, .int a1), (2, .int 1)] [] _ 0 0 _
  refine x_iloadn (x := a1) rfl rfl ?_
  refine x_iflt (tgt := 24) rfl rfl (ti_lt rfl jk_0 (br_f (by omega) ?_))
  refine x_iloadn (x := a1) rfl rfl ?_
  refine x_aloadn (x := 63) rfl rfl ?_
  refine z_getI (N := 4) 8 3 rfl f_8_7 rfl J rfl sg_63_3_4_1_0_1 (fun v1 qv1 ev1 => ?_)
  refine x_icge (tgt := 24) rfl rfl (ti_ge rfl rfl ⟨fun c2 => ?_, fun c2 => ?_⟩)
  ·
    exact jX.sub jsb_n (ct_X8_at_r63_c1_24 hD hQ  h J Sm)
  ·
    refine x_iloadn (x := 1) rfl rfl ?_
    refine x_iflt (tgt := 24) rfl rfl (ti_lt jk_1 jk_0 (br_f (by omega) ?_))
    refine x_iloadn (x := 1) rfl rfl ?_
    refine x_aloadn (x := 63) rfl rfl ?_
    refine z_getC (N := 4) (v := 2) 8 0 rfl f_8_19 rfl J rfl sg_63_0_1_1_0_1 jk_2 ?_
    refine x_iclt (tgt := 26) rfl rfl (ti_lt jk_1 jk_2 (br_t (by omega) ?_))
    refine x_aloadn (x := 63) rfl rfl ?_
    refine z_getR (N := 4) (b := 64) 8 2 rfl f_8_25 rfl J rfl 8066 ⟨rfl, rfl⟩ rfl ?_
    refine x_iloadn (x := a1) rfl rfl ?_
    refine x_aloadn (x := 63) rfl rfl ?_
    refine z_getC (N := 4) (v := 2) 8 0 rfl f_8_19 rfl J rfl sg_63_0_1_1_0_1 jk_2 ?_
    refine z_imul rfl rfl jk_2 (by omega) (fun v3 ev3 => ?_)
    refine x_iloadn (x := 1) rfl rfl ?_
    refine z_iadd rfl rfl jk_1 (by omega) (fun v4 ev4 => ?_)
    refine z_iald (N := 740) rfl J rfl sg_64_0_740_2_1_2 rfl (by omega) (fun v5 qv5 ev5 => ?_)
    refine x_iret rfl rfl ?_
    exact hQ _ _ (jr_of rfl (by omega)) J Sm
def fp_X11_as_r31 : jFp := []
set_option maxRecDepth 100000 in
set_option maxHeartbeats 4000000 in
theorem ct_X11_as_r31_10 {Dy : jH → Prop} {h0 : jH} {Q : Option Value → jH → Prop} (hD : jDk Dy) (hQ : ∀ (v : Int32) h', (-3) ≤ v.toInt ∧ v.toInt ≤ 200 → jJ jSgX Dy h' → jSm fp_X11_as_r31 h0 h' → Q (some (.int v)) h') : ∀ (h : jH), jJ jSgX Dy h → jSm fp_X11_as_r31 h0 h → jX m_X11_as 2 0 0 10 [] [] h 0 0 Q := by
  intro  h    J Sm
  refine x_iconst (v := (-1)) rfl ki_m1 ?_
  refine x_iret rfl rfl ?_
  exact hQ _ _ (jr_of jk_m1 (by omega)) J Sm
set_option maxRecDepth 100000 in
set_option maxHeartbeats 4000000 in
theorem ct_X11_as_r31_30 {Dy : jH → Prop} {h0 : jH} {Q : Option Value → jH → Prop} (hD : jDk Dy) (hQ : ∀ (v : Int32) h', (-3) ≤ v.toInt ∧ v.toInt ≤ 200 → jJ jSgX Dy h' → jSm fp_X11_as_r31 h0 h' → Q (some (.int v)) h') : ∀ (h : jH), jJ jSgX Dy h → jSm fp_X11_as_r31 h0 h → jX m_X11_as 2 0 0 30 [] [] h 0 0 Q := by
  intro  h    J Sm
  refine x_bipush (v := (-2)) rfl kb_m2 ?_
  refine x_iret rfl rfl ?_
  exact hQ _ _ (jr_of jk_m2 (by omega)) J Sm
set_option maxRecDepth 100000 in
set_option maxHeartbeats 4000000 in
theorem ct_X11_as_r31_127 {Dy : jH → Prop} {h0 : jH} {Q : Option Value → jH → Prop} (hD : jDk Dy) (hQ : ∀ (v : Int32) h', (-3) ≤ v.toInt ∧ v.toInt ≤ 200 → jJ jSgX Dy h' → jSm fp_X11_as_r31 h0 h' → Q (some (.int v)) h') : ∀ (s0 : Int32) (h : jH), (-3) ≤ s0.toInt ∧ s0.toInt ≤ 200 → jJ jSgX Dy h → jSm fp_X11_as_r31 h0 h → jX m_X11_as 2 0 0 127 [] [.int s0] h 0 0 Q := by
  intro s0 h y0   J Sm
  refine x_iret rfl rfl ?_
  exact hQ _ _ (jr_of rfl (by omega)) J Sm
set_option maxRecDepth 100000 in
set_option maxHeartbeats 4000000 in
theorem ct_X11_as_r31_120 {Dy : jH → Prop} {h0 : jH} {Q : Option Value → jH → Prop} (hD : jDk Dy) (hQ : ∀ (v : Int32) h', (-3) ≤ v.toInt ∧ v.toInt ≤ 200 → jJ jSgX Dy h' → jSm fp_X11_as_r31 h0 h' → Q (some (.int v)) h') : ∀ (l4 : Int32) (h : jH), 0 ≤ l4.toInt ∧ l4.toInt ≤ 200 → jJ jSgX Dy h → jSm fp_X11_as_r31 h0 h → jX m_X11_as 2 0 0 120 [(4, .int l4)] [] h 0 0 Q := by
  intro l4 h y0   J Sm
  refine x_iload (x := l4) rfl rfl ?_
  refine x_goto (tgt := 127) rfl rfl ?_
  exact jX.sub jsb_n (ct_X11_as_r31_127 hD hQ  l4 h (jr_of rfl (by omega)) J Sm)
set_option maxRecDepth 100000 in
set_option maxHeartbeats 4000000 in
theorem ct_X11_as_r31_125 {Dy : jH → Prop} {h0 : jH} {Q : Option Value → jH → Prop} (hD : jDk Dy) (hQ : ∀ (v : Int32) h', (-3) ≤ v.toInt ∧ v.toInt ≤ 200 → jJ jSgX Dy h' → jSm fp_X11_as_r31 h0 h' → Q (some (.int v)) h') : ∀ (h : jH), jJ jSgX Dy h → jSm fp_X11_as_r31 h0 h → jX m_X11_as 2 0 0 125 [] [] h 0 0 Q := by
  intro  h    J Sm
  refine x_bipush (v := (-3)) rfl kb_m3 ?_
  exact jX.sub jsb_n (ct_X11_as_r31_127 hD hQ  (-3) h (jr_of jk_m3 (by omega)) J Sm)
set_option maxRecDepth 100000 in
set_option maxHeartbeats 4000000 in
theorem ct_X11_as_r31_80 {Dy : jH → Prop} {h0 : jH} {Q : Option Value → jH → Prop} (hD : jDk Dy) (hQ : ∀ (v : Int32) h', (-3) ≤ v.toInt ∧ v.toInt ≤ 200 → jJ jSgX Dy h' → jSm fp_X11_as_r31 h0 h' → Q (some (.int v)) h') : ∀ (s0 : Int32) (h : jH), (-3) ≤ s0.toInt ∧ s0.toInt ≤ 200 → jJ jSgX Dy h → jSm fp_X11_as_r31 h0 h → jX m_X11_as 2 0 0 80 [] [.int s0] h 0 0 Q := by
  intro s0 h y0   J Sm
  refine x_iret rfl rfl ?_
  exact hQ _ _ (jr_of rfl (by omega)) J Sm
set_option maxRecDepth 100000 in
set_option maxHeartbeats 4000000 in
theorem sf_X11_as_r31 {Dy : jH → Prop} {h : jH} {Q : Option Value → jH → Prop} {a1 : Int32} {a2 : Int32} (hD : jDk Dy) (J : jJ jSgX Dy h) (hQ : ∀ (v : Int32) h', (-3) ≤ v.toInt ∧ v.toInt ≤ 200 → jJ jSgX Dy h' → jSm fp_X11_as_r31 h h' → Q (some (.int v)) h') : jC m_X11_as 2 0 0 [.ref 31, .int a1, .int a2] h Q := by
  refine jC.of rfl k_X11_as rfl ?_
  have Sm := jSm_rf fp_X11_as_r31 h
  have ea1 := jfull a1
  have ea2 := jfull a2
  show jX m_X11_as 2 0 0 0 [(0, .ref 31), (1, .int a1), (2, .int a2)] [] _ 0 0 _
  refine x_iloadn (x := a2) rfl rfl ?_
  refine x_iflt (tgt := 10) rfl rfl (ti_lt rfl jk_0 ⟨fun c1 => ?_, fun c1 => ?_⟩)
  ·
    exact jX.sub jsb_n (ct_X11_as_r31_10 hD hQ  h J Sm)
  ·
    refine x_iloadn (x := a2) rfl rfl ?_
    refine x_bipush (v := 9) rfl kb_9 ?_
    refine x_icle (tgt := 12) rfl rfl (ti_le rfl jk_9 ⟨fun c2 => ?_, fun c2 => ?_⟩)
    ·
      refine x_iloadn (x := a1) rfl rfl ?_
      refine x_iflt (tgt := 30) rfl rfl (ti_lt rfl jk_0 ⟨fun c3 => ?_, fun c3 => ?_⟩)
      ·
        exact jX.sub jsb_n (ct_X11_as_r31_30 hD hQ  h J Sm)
      ·
        refine x_iloadn (x := a1) rfl rfl ?_
        refine x_aloadn (x := 31) rfl rfl ?_
        refine z_getR (N := 13) (b := 32) 11 0 rfl f_11_10 rfl J rfl 3968 ⟨rfl, rfl⟩ rfl ?_
        refine z_getR (N := 20) (b := 63) 1 15 rfl f_11_159 rfl J rfl 4111 ⟨rfl, rfl⟩ rfl ?_
        refine z_getI (N := 4) 8 3 rfl f_11_142 rfl J rfl sg_63_3_4_1_0_1 (fun v4 qv4 ev4 => ?_)
        refine x_iclt (tgt := 33) rfl rfl (ti_lt rfl rfl ⟨fun c5 => ?_, fun c5 => ?_⟩)
        ·
          refine x_aloadn (x := 31) rfl rfl ?_
          refine z_getR (N := 13) (b := 32) 11 0 rfl f_11_10 rfl J rfl 3968 ⟨rfl, rfl⟩ rfl ?_
          refine z_getR (N := 20) (b := 63) 1 15 rfl f_11_159 rfl J rfl 4111 ⟨rfl, rfl⟩ rfl ?_
          refine x_iloadn (x := a1) rfl rfl ?_
          refine x_iconst (v := 0) rfl ki_0 ?_
          refine x_inv (N := m_X8_at) (As := [.int a1, .int 0]) (b := 63) (st := []) (d' := 1) (mc := 0) (ms := 0) (host := "") 8 rfl t_X8_at ⟨Or.inl q_11_171, i_X8_at.1, i_X8_at.2⟩ ⟨by decide, rfl⟩ (congrArg Prod.fst (J.1.1 63 (8, 4) rfl)) rfl (by decide) rfl rfl ⟨by decide, by decide⟩ (sf_X8_at_r63_c0 (jr_of rfl (by omega)) hD J  (fun v7 h ev7 J S6 => ?_))
          have Sm := jSm_tr rfl Sm S6
          show jX m_X11_as 2 0 0 45 [(0, .ref 31), (1, .int a1), (2, .int a2)] [.int v7] _ 0 0 _
          refine x_istoren (ls' := [(3, .int v7), (0, .ref 31), (1, .int a1), (2, .int a2)]) rfl rfl rfl ?_
          refine x_aloadn (x := 31) rfl rfl ?_
          refine z_getR (N := 13) (b := 32) 11 0 rfl f_11_10 rfl J rfl 3968 ⟨rfl, rfl⟩ rfl ?_
          refine z_getR (N := 20) (b := 63) 1 15 rfl f_11_159 rfl J rfl 4111 ⟨rfl, rfl⟩ rfl ?_
          refine x_iloadn (x := a1) rfl rfl ?_
          refine x_iconst (v := 1) rfl ki_1 ?_
          refine x_inv (N := m_X8_at) (As := [.int a1, .int 1]) (b := 63) (st := []) (d' := 1) (mc := 0) (ms := 0) (host := "") 8 rfl t_X8_at ⟨Or.inl q_11_171, i_X8_at.1, i_X8_at.2⟩ ⟨by decide, rfl⟩ (congrArg Prod.fst (J.1.1 63 (8, 4) rfl)) rfl (by decide) rfl rfl ⟨by decide, by decide⟩ (sf_X8_at_r63_c1 (jr_of rfl (by omega)) hD J  (fun v9 h ev9 J S8 => ?_))
          have Sm := jSm_tr rfl Sm S8
          show jX m_X11_as 2 0 0 58 [(3, .int v7), (0, .ref 31), (1, .int a1), (2, .int a2)] [.int v9] _ 0 0 _
          refine x_istore (ls' := [(4, .int v9), (3, .int v7), (0, .ref 31), (1, .int a1), (2, .int a2)]) rfl rfl rfl ?_
          refine x_iloadn (x := a2) rfl rfl ?_
          refine x_iconst (v := 5) rfl ki_5 ?_
          refine x_icle (tgt := 81) rfl rfl (ti_le rfl jk_5 ⟨fun c10 => ?_, fun c10 => ?_⟩)
          ·
            refine x_iloadn (x := v7) rfl rfl ?_
            refine x_ifeq (tgt := 88) rfl rfl (ti_eq rfl jk_0 ⟨fun c11 => ?_, fun c11 => ?_⟩)
            ·
              refine x_aloadn (x := 31) rfl rfl ?_
              refine z_getR (N := 13) (b := 32) 11 0 rfl f_11_10 rfl J rfl 3968 ⟨rfl, rfl⟩ rfl ?_
              refine z_getR (N := 20) (b := 33) 1 0 rfl f_11_126 rfl J rfl 4096 ⟨rfl, rfl⟩ rfl ?_
              refine x_iload (x := v9) rfl rfl ?_
              refine x_iconst (v := 2) rfl ki_2 ?_
              refine x_inv (N := m_X8_at) (As := [.int v9, .int 2]) (b := 33) (st := []) (d' := 1) (mc := 0) (ms := 0) (host := "") 8 rfl t_X8_at ⟨Or.inl q_11_171, i_X8_at.1, i_X8_at.2⟩ ⟨by decide, rfl⟩ (congrArg Prod.fst (J.1.1 33 (8, 4) rfl)) rfl (by decide) rfl rfl ⟨by decide, by decide⟩ (sf_X8_at_r33_c2  hD J  (fun v13 h ev13 J S12 => ?_))
              have Sm := jSm_tr rfl Sm S12
              show jX m_X11_as 2 0 0 101 [(4, .int v9), (3, .int v7), (0, .ref 31), (1, .int a1), (2, .int a2)] [.int v13] _ 0 0 _
              refine x_istore (ls' := [(5, .int v13), (4, .int v9), (3, .int v7), (0, .ref 31), (1, .int a1), (2, .int a2)]) rfl rfl rfl ?_
              refine x_iload (x := v13) rfl rfl ?_
              refine x_iloadn (x := a2) rfl rfl ?_
              refine x_iceq (tgt := 120) rfl rfl (ti_eq rfl rfl ⟨fun c14 => ?_, fun c14 => ?_⟩)
              ·
                exact jX.sub (jsb_c rfl jsb_n) (ct_X11_as_r31_120 hD hQ  v9 h (jr_of rfl (by omega)) J Sm)
              ·
                refine x_iloadn (x := a2) rfl rfl ?_
                refine x_iconst (v := 3) rfl ki_3 ?_
                refine x_icne (tgt := 125) rfl rfl (ti_ne rfl jk_3 ⟨fun c15 => ?_, fun c15 => ?_⟩)
                ·
                  exact jX.sub jsb_n (ct_X11_as_r31_125 hD hQ  h J Sm)
                ·
                  refine x_iload (x := v13) rfl rfl ?_
                  refine x_iconst (v := 4) rfl ki_4 ?_
                  refine x_icne (tgt := 125) rfl rfl (ti_ne rfl jk_4 ⟨fun c16 => ?_, fun c16 => ?_⟩)
                  ·
                    exact jX.sub jsb_n (ct_X11_as_r31_125 hD hQ  h J Sm)
                  ·
                    exact jX.sub (jsb_c rfl jsb_n) (ct_X11_as_r31_120 hD hQ  v9 h (jr_of rfl (by omega)) J Sm)
            ·
              refine x_bipush (v := (-3)) rfl kb_m3 ?_
              refine x_iret rfl rfl ?_
              exact hQ _ _ (jr_of jk_m3 (by omega)) J Sm
          ·
            refine x_iloadn (x := v7) rfl rfl ?_
            refine x_iloadn (x := a2) rfl rfl ?_
            refine x_bipush (v := 6) rfl kb_6 ?_
            refine z_isub rfl rfl jk_6 (by omega) (fun v17 ev17 => ?_)
            refine x_icne (tgt := 78) rfl rfl (ti_ne rfl rfl ⟨fun c18 => ?_, fun c18 => ?_⟩)
            ·
              refine x_bipush (v := (-3)) rfl kb_m3 ?_
              exact jX.sub jsb_n (ct_X11_as_r31_80 hD hQ  (-3) h (jr_of jk_m3 (by omega)) J Sm)
            ·
              refine x_iload (x := v9) rfl rfl ?_
              refine x_goto (tgt := 80) rfl rfl ?_
              exact jX.sub jsb_n (ct_X11_as_r31_80 hD hQ  v9 h (jr_of rfl (by omega)) J Sm)
        ·
          exact jX.sub jsb_n (ct_X11_as_r31_30 hD hQ  h J Sm)
    ·
      exact jX.sub jsb_n (ct_X11_as_r31_10 hD hQ  h J Sm)
def fp_X11_badge_r31 : jFp := [(78, 13, 14), (82, 0, 600), (83, 0, 600), (84, 0, 200), (85, 0, 4), (86, 0, 3), (98, 10, 11), (98, 11, 12), (98, 13, 14), (98, 14, 15), (98, 15, 16), (101, 0, 3), (102, 0, 40), (103, 0, 40), (104, 0, 40), (105, 0, 3)]
set_option maxRecDepth 100000 in
set_option maxHeartbeats 4000000 in
theorem ct_X11_badge_r31_200069 {Dy : jH → Prop} {h0 : jH} {Q : Option Value → jH → Prop} (hD : jDk Dy) (hQ : ∀ (v : Int32) h', (-1) ≤ v.toInt ∧ v.toInt ≤ 0 → jJ jSgX Dy h' → jSm fp_X11_badge_r31 h0 h' → Q (some (.int v)) h') : ∀ (h : jH), jJ jSgX Dy h → jSm fp_X11_badge_r31 h0 h → jX m_X11_badge 8 0 0 69 [] [.int 0] h 0 0 Q := by
  intro  h    J Sm
  refine x_iret rfl rfl ?_
  exact hQ _ _ (jr_of jk_0 (by omega)) J Sm
set_option maxRecDepth 100000 in
set_option maxHeartbeats 4000000 in
theorem ct_X11_badge_r31_68 {Dy : jH → Prop} {h0 : jH} {Q : Option Value → jH → Prop} (hD : jDk Dy) (hQ : ∀ (v : Int32) h', (-1) ≤ v.toInt ∧ v.toInt ≤ 0 → jJ jSgX Dy h' → jSm fp_X11_badge_r31 h0 h' → Q (some (.int v)) h') : ∀ (h : jH), jJ jSgX Dy h → jSm fp_X11_badge_r31 h0 h → jX m_X11_badge 8 0 0 68 [] [] h 0 0 Q := by
  intro  h    J Sm
  refine x_iconst (v := 0) rfl ki_0 ?_
  exact jX.sub jsb_n (ct_X11_badge_r31_200069 hD hQ  h J Sm)
set_option maxRecDepth 100000 in
set_option maxHeartbeats 4000000 in
theorem sf_X11_badge_r31 {Dy : jH → Prop} {h : jH} {Q : Option Value → jH → Prop} {a1 : Int32} {a2 : Int32} {a3 : Int32} (hD : jDk Dy) (J : jJ jSgX Dy h) (hQ : ∀ (v : Int32) h', (-1) ≤ v.toInt ∧ v.toInt ≤ 0 → jJ jSgX Dy h' → jSm fp_X11_badge_r31 h h' → Q (some (.int v)) h') : jC m_X11_badge 8 0 0 [.ref 31, .int a1, .int a2, .int a3] h Q := by
  refine jC.of rfl k_X11_badge rfl ?_
  have Sm := jSm_rf fp_X11_badge_r31 h
  have ea1 := jfull a1
  have ea2 := jfull a2
  have ea3 := jfull a3
  show jX m_X11_badge 8 0 0 0 [(0, .ref 31), (1, .int a1), (2, .int a2), (3, .int a3)] [] _ 0 0 _
  refine x_iloadn (x := a2) rfl rfl ?_
  refine x_inst (N := m_X11_isDay) (As := [.int a2]) (st := []) (d' := 1) (mc := 0) (ms := 0) (host := "") rfl t_X11_isDay ⟨Or.inl q_11_115, s_X11_isDay⟩ rfl (by decide) rfl rfl ⟨by decide, by decide⟩ (zc_X11_isDay rfl (fun v1 ev1 => ?_))
  show jX m_X11_badge 8 0 0 4 [(0, .ref 31), (1, .int a1), (2, .int a2), (3, .int a3)] [.int v1] _ 0 0 _
  refine x_ifne (tgt := 9) rfl rfl (ti_ne rfl jk_0 ⟨fun c2 => ?_, fun c2 => ?_⟩)
  ·
    refine x_aloadn (x := 31) rfl rfl ?_
    refine x_iloadn (x := a1) rfl rfl ?_
    refine x_iloadn (x := a3) rfl rfl ?_
    refine x_inv (N := m_X11_soulOn) (As := [.int a1, .int a3]) (b := 31) (st := []) (d' := 7) (mc := 0) (ms := 0) (host := "") 11 rfl t_X11_soulOn ⟨Or.inl q_11_234, i_X11_soulOn.1, i_X11_soulOn.2⟩ ⟨by decide, rfl⟩ (congrArg Prod.fst (J.1.1 31 (11, 13) rfl)) rfl (by decide) rfl rfl ⟨by decide, by decide⟩ (jC.of rfl k_X11_soulOn rfl ?_)
    show jX m_X11_soulOn 7 0 0 0 [(0, .ref 31), (1, .int a1), (2, .int a3)] [] _ 0 0 _
    refine x_iloadn (x := a3) rfl rfl ?_
    refine x_inst (N := m_X11_isDay) (As := [.int a3]) (st := []) (d' := 1) (mc := 0) (ms := 0) (host := "") rfl t_X11_isDay ⟨Or.inl q_11_115, s_X11_isDay⟩ rfl (by decide) rfl rfl ⟨by decide, by decide⟩ (zc_X11_isDay rfl (fun v3 ev3 => ?_))
    show jX m_X11_soulOn 7 0 0 4 [(0, .ref 31), (1, .int a1), (2, .int a3)] [.int v3] _ 0 0 _
    refine x_ifeq (tgt := 18) rfl rfl (ti_eq rfl jk_0 ⟨fun c4 => ?_, fun c4 => ?_⟩)
    ·
      refine x_iconst (v := (-1)) rfl ki_m1 ?_
      refine x_iret rfl rfl ?_
      show jX m_X11_badge 8 0 0 15 [(0, .ref 31), (1, .int a1), (2, .int a2), (3, .int a3)] [.int (-1)] _ 0 0 _
      refine x_istore (ls' := [(4, .int (-1)), (0, .ref 31), (1, .int a1), (2, .int a2), (3, .int a3)]) rfl rfl rfl ?_
      refine x_iload (x := (-1)) rfl rfl ?_
      refine x_iconst (v := (-1)) rfl ki_m1 ?_
      refine x_icne (tgt := 25) rfl rfl (ti_ne jk_m1 jk_m1 (bn_f (by omega) ?_))
      refine x_iconst (v := (-1)) rfl ki_m1 ?_
      refine x_iret rfl rfl ?_
      exact hQ _ _ (jr_of jk_m1 (by omega)) J Sm
    ·
      refine x_aloadn (x := 31) rfl rfl ?_
      refine z_getR (N := 13) (b := 78) 11 4 rfl f_11_41 rfl J rfl 3972 ⟨rfl, rfl⟩ rfl ?_
      refine x_iloadn (x := a1) rfl rfl ?_
      refine x_inv (N := m_X7_isMention) (As := [.int a1]) (b := 78) (st := []) (d' := 6) (mc := 0) (ms := 0) (host := "") 7 rfl t_X7_isMention ⟨Or.inl q_11_187, i_X7_isMention.1, i_X7_isMention.2⟩ ⟨by decide, rfl⟩ (congrArg Prod.fst (J.1.1 78 (7, 16) rfl)) rfl (by decide) rfl rfl ⟨by decide, by decide⟩ (jC.of rfl k_X7_isMention rfl ?_)
      show jX m_X7_isMention 6 0 0 0 [(0, .ref 78), (1, .int a1)] [] _ 0 0 _
      refine x_iloadn (x := a1) rfl rfl ?_
      refine x_iflt (tgt := 41) rfl rfl (ti_lt rfl jk_0 ⟨fun c5 => ?_, fun c5 => ?_⟩)
      ·
        refine x_iconst (v := 0) rfl ki_0 ?_
        refine x_zret rfl rfl (by decide) ?_
        show jX m_X11_soulOn 7 0 0 15 [(0, .ref 31), (1, .int a1), (2, .int a3)] [.int 0] _ 0 0 _
        refine x_ifne (tgt := 20) rfl rfl (ti_ne jk_0 jk_0 (bn_f (by omega) ?_))
        refine x_iconst (v := (-1)) rfl ki_m1 ?_
        refine x_iret rfl rfl ?_
        show jX m_X11_badge 8 0 0 15 [(0, .ref 31), (1, .int a1), (2, .int a2), (3, .int a3)] [.int (-1)] _ 0 0 _
        refine x_istore (ls' := [(4, .int (-1)), (0, .ref 31), (1, .int a1), (2, .int a2), (3, .int a3)]) rfl rfl rfl ?_
        refine x_iload (x := (-1)) rfl rfl ?_
        refine x_iconst (v := (-1)) rfl ki_m1 ?_
        refine x_icne (tgt := 25) rfl rfl (ti_ne jk_m1 jk_m1 (bn_f (by omega) ?_))
        refine x_iconst (v := (-1)) rfl ki_m1 ?_
        refine x_iret rfl rfl ?_
        exact hQ _ _ (jr_of jk_m1 (by omega)) J Sm
      ·
        refine x_iloadn (x := a1) rfl rfl ?_
        refine x_sipush (v := 600) rfl ks_600 ?_
        refine x_icge (tgt := 41) rfl rfl (ti_ge rfl jk_600 ⟨fun c6 => ?_, fun c6 => ?_⟩)
        ·
          refine x_iconst (v := 0) rfl ki_0 ?_
          refine x_zret rfl rfl (by decide) ?_
          show jX m_X11_soulOn 7 0 0 15 [(0, .ref 31), (1, .int a1), (2, .int a3)] [.int 0] _ 0 0 _
          refine x_ifne (tgt := 20) rfl rfl (ti_ne jk_0 jk_0 (bn_f (by omega) ?_))
          refine x_iconst (v := (-1)) rfl ki_m1 ?_
          refine x_iret rfl rfl ?_
          show jX m_X11_badge 8 0 0 15 [(0, .ref 31), (1, .int a1), (2, .int a2), (3, .int a3)] [.int (-1)] _ 0 0 _
          refine x_istore (ls' := [(4, .int (-1)), (0, .ref 31), (1, .int a1), (2, .int a2), (3, .int a3)]) rfl rfl rfl ?_
          refine x_iload (x := (-1)) rfl rfl ?_
          refine x_iconst (v := (-1)) rfl ki_m1 ?_
          refine x_icne (tgt := 25) rfl rfl (ti_ne jk_m1 jk_m1 (bn_f (by omega) ?_))
          refine x_iconst (v := (-1)) rfl ki_m1 ?_
          refine x_iret rfl rfl ?_
          exact hQ _ _ (jr_of jk_m1 (by omega)) J Sm
        ·
          refine x_iloadn (x := a1) rfl rfl ?_
          refine x_iconst (v := 3) rfl ki_3 ?_
          refine z_idiv rfl rfl jk_3 (by omega) (by omega) (fun v7 ev7 => ?_)
          refine x_aloadn (x := 78) rfl rfl ?_
          refine z_getR (N := 16) (b := 32) 7 0 rfl f_7_55 rfl J rfl 9984 ⟨rfl, rfl⟩ rfl ?_
          refine z_getR (N := 20) (b := 33) 1 0 rfl f_7_63 rfl J rfl 4096 ⟨rfl, rfl⟩ rfl ?_
          refine z_getI (N := 4) 8 3 rfl f_7_85 rfl J rfl sg_33_3_4_1_0_1 (fun v8 qv8 ev8 => ?_)
          refine x_icge (tgt := 41) rfl rfl (ti_ge rfl rfl ⟨fun c9 => ?_, fun c9 => ?_⟩)
          ·
            refine x_iconst (v := 0) rfl ki_0 ?_
            refine x_zret rfl rfl (by decide) ?_
            show jX m_X11_soulOn 7 0 0 15 [(0, .ref 31), (1, .int a1), (2, .int a3)] [.int 0] _ 0 0 _
            refine x_ifne (tgt := 20) rfl rfl (ti_ne jk_0 jk_0 (bn_f (by omega) ?_))
            refine x_iconst (v := (-1)) rfl ki_m1 ?_
            refine x_iret rfl rfl ?_
            show jX m_X11_badge 8 0 0 15 [(0, .ref 31), (1, .int a1), (2, .int a2), (3, .int a3)] [.int (-1)] _ 0 0 _
            refine x_istore (ls' := [(4, .int (-1)), (0, .ref 31), (1, .int a1), (2, .int a2), (3, .int a3)]) rfl rfl rfl ?_
            refine x_iload (x := (-1)) rfl rfl ?_
            refine x_iconst (v := (-1)) rfl ki_m1 ?_
            refine x_icne (tgt := 25) rfl rfl (ti_ne jk_m1 jk_m1 (bn_f (by omega) ?_))
            refine x_iconst (v := (-1)) rfl ki_m1 ?_
            refine x_iret rfl rfl ?_
            exact hQ _ _ (jr_of jk_m1 (by omega)) J Sm
          ·
            refine x_aloadn (x := 78) rfl rfl ?_
            refine z_getR (N := 16) (b := 79) 7 7 rfl f_7_27 rfl J rfl 9991 ⟨rfl, rfl⟩ rfl ?_
            refine x_iloadn (x := a1) rfl rfl ?_
            refine z_iald (N := 600) rfl J rfl sg_79_0_600_1_0_1 rfl (by omega) (fun v10 qv10 ev10 => ?_)
            refine x_iconst (v := (-1)) rfl ki_m1 ?_
            refine x_iceq (tgt := 41) rfl rfl (ti_eq rfl jk_m1 ⟨fun c11 => ?_, fun c11 => ?_⟩)
            ·
              refine x_iconst (v := 0) rfl ki_0 ?_
              refine x_zret rfl rfl (by decide) ?_
              show jX m_X11_soulOn 7 0 0 15 [(0, .ref 31), (1, .int a1), (2, .int a3)] [.int 0] _ 0 0 _
              refine x_ifne (tgt := 20) rfl rfl (ti_ne jk_0 jk_0 (bn_f (by omega) ?_))
              refine x_iconst (v := (-1)) rfl ki_m1 ?_
              refine x_iret rfl rfl ?_
              show jX m_X11_badge 8 0 0 15 [(0, .ref 31), (1, .int a1), (2, .int a2), (3, .int a3)] [.int (-1)] _ 0 0 _
              refine x_istore (ls' := [(4, .int (-1)), (0, .ref 31), (1, .int a1), (2, .int a2), (3, .int a3)]) rfl rfl rfl ?_
              refine x_iload (x := (-1)) rfl rfl ?_
              refine x_iconst (v := (-1)) rfl ki_m1 ?_
              refine x_icne (tgt := 25) rfl rfl (ti_ne jk_m1 jk_m1 (bn_f (by omega) ?_))
              refine x_iconst (v := (-1)) rfl ki_m1 ?_
              refine x_iret rfl rfl ?_
              exact hQ _ _ (jr_of jk_m1 (by omega)) J Sm
            ·
              refine x_iconst (v := 1) rfl ki_1 ?_
              refine x_goto (tgt := 42) rfl rfl ?_
              refine x_zret rfl rfl (by decide) ?_
              show jX m_X11_soulOn 7 0 0 15 [(0, .ref 31), (1, .int a1), (2, .int a3)] [.int 1] _ 0 0 _
              refine x_ifne (tgt := 20) rfl rfl (ti_ne jk_1 jk_0 (bn_t (by omega) ?_))
              refine x_aloadn (x := 31) rfl rfl ?_
              refine z_getR (N := 13) (b := 78) 11 4 rfl f_11_41 rfl J rfl 3972 ⟨rfl, rfl⟩ rfl ?_
              refine x_iloadn (x := a3) rfl rfl ?_
              refine x_inv (N := m_X7_asKnown) (As := [.int a3]) (b := 78) (st := []) (d' := 6) (mc := 0) (ms := 0) (host := "") 7 rfl t_X7_asKnown ⟨Or.inl q_11_240, i_X7_asKnown.1, i_X7_asKnown.2⟩ ⟨by decide, rfl⟩ (congrArg Prod.fst (J.1.1 78 (7, 16) rfl)) rfl (by decide) rfl rfl ⟨by decide, by decide⟩ (sf_X7_asKnown_r78 (jr_of rfl (by omega)) hD J  (fun h J S12 => ?_))
              have Sm := jSm_tr rfl Sm S12
              show jX m_X11_soulOn 7 0 0 28 [(0, .ref 31), (1, .int a1), (2, .int a3)] [] _ 0 0 _
              refine x_aloadn (x := 31) rfl rfl ?_
              refine z_getR (N := 13) (b := 78) 11 4 rfl f_11_41 rfl J rfl 3972 ⟨rfl, rfl⟩ rfl ?_
              refine z_getR (N := 16) (b := 82) 7 10 rfl f_11_537 rfl J rfl 9994 ⟨rfl, rfl⟩ rfl ?_
              refine x_iloadn (x := a1) rfl rfl ?_
              refine z_iald (N := 600) rfl J rfl sg_82_0_600_1_0_1 rfl (by omega) (fun v13 qv13 ev13 => ?_)
              refine x_iret rfl rfl ?_
              show jX m_X11_badge 8 0 0 15 [(0, .ref 31), (1, .int a1), (2, .int a2), (3, .int a3)] [.int v13] _ 0 0 _
              refine x_istore (ls' := [(4, .int v13), (0, .ref 31), (1, .int a1), (2, .int a2), (3, .int a3)]) rfl rfl rfl ?_
              refine x_iload (x := v13) rfl rfl ?_
              refine x_iconst (v := (-1)) rfl ki_m1 ?_
              refine x_icne (tgt := 25) rfl rfl (ti_ne rfl jk_m1 ⟨fun c14 => ?_, fun c14 => ?_⟩)
              ·
                refine x_aloadn (x := 31) rfl rfl ?_
                refine z_getR (N := 13) (b := 98) 11 7 rfl f_11_66 rfl J rfl 3975 ⟨rfl, rfl⟩ rfl ?_
                refine x_iloadn (x := a2) rfl rfl ?_
                refine x_iloadn (x := a3) rfl rfl ?_
                refine x_inv (N := m_X0_turnTo) (As := [.int a2, .int a3]) (b := 98) (st := []) (d' := 7) (mc := 0) (ms := 0) (host := "") 0 rfl t_X0_turnTo ⟨Or.inl q_11_345, i_X0_turnTo.1, i_X0_turnTo.2⟩ ⟨by decide, rfl⟩ (congrArg Prod.fst (J.1.1 98 (0, 16) rfl)) rfl (by decide) rfl rfl ⟨by decide, by decide⟩ (jC.of rfl k_X0_turnTo rfl ?_)
                show jX m_X0_turnTo 7 0 0 0 [(0, .ref 98), (1, .int a2), (2, .int a3)] [] _ 0 0 _
                refine x_aloadn (x := 98) rfl rfl ?_
                refine x_iloadn (x := a2) rfl rfl ?_
                refine x_iloadn (x := a3) rfl rfl ?_
                refine x_inv (N := m_X0_readLaws) (As := [.int a2, .int a3]) (b := 98) (st := []) (d' := 2) (mc := 0) (ms := 0) (host := "") 0 rfl t_X0_readLaws ⟨Or.inl q_0_65, i_X0_readLaws.1, i_X0_readLaws.2⟩ ⟨by decide, rfl⟩ (congrArg Prod.fst (J.1.1 98 (0, 16) rfl)) rfl (by decide) rfl rfl ⟨by decide, by decide⟩ (sf_X0_readLaws_r98 (jr_of rfl (by omega)) (jr_of rfl (by omega)) hD J  (fun h J S15 => ?_))
                have Sm := jSm_tr rfl Sm S15
                show jX m_X0_turnTo 7 0 0 6 [(0, .ref 98), (1, .int a2), (2, .int a3)] [] _ 0 0 _
                refine x_aloadn (x := 98) rfl rfl ?_
                refine x_iloadn (x := a2) rfl rfl ?_
                refine x_iloadn (x := a3) rfl rfl ?_
                refine x_inv (N := m_X0_readHouses) (As := [.int a2, .int a3]) (b := 98) (st := []) (d' := 3) (mc := 0) (ms := 0) (host := "") 0 rfl t_X0_readHouses ⟨Or.inl q_0_69, i_X0_readHouses.1, i_X0_readHouses.2⟩ ⟨by decide, rfl⟩ (congrArg Prod.fst (J.1.1 98 (0, 16) rfl)) rfl (by decide) rfl rfl ⟨by decide, by decide⟩ (sf_X0_readHouses_r98 (jr_of rfl (by omega)) (jr_of rfl (by omega)) hD J  (fun h J S16 => ?_))
                have Sm := jSm_tr rfl Sm S16
                show jX m_X0_turnTo 7 0 0 12 [(0, .ref 98), (1, .int a2), (2, .int a3)] [] _ 0 0 _
                refine x_vret rfl rfl ?_
                show jX m_X11_badge 8 0 0 34 [(4, .int v13), (0, .ref 31), (1, .int a1), (2, .int a2), (3, .int a3)] [] _ 0 0 _
                refine x_aloadn (x := 31) rfl rfl ?_
                refine z_getR (N := 13) (b := 98) 11 7 rfl f_11_66 rfl J rfl 3975 ⟨rfl, rfl⟩ rfl ?_
                refine x_bipush (v := 7) rfl kb_7 ?_
                refine x_iload (x := v13) rfl rfl ?_
                refine x_inv (N := m_X0_quantity) (As := [.int 7, .int v13]) (b := 98) (st := []) (d' := 3) (mc := 0) (ms := 0) (host := "") 0 rfl t_X0_quantity ⟨Or.inl q_11_374, i_X0_quantity.1, i_X0_quantity.2⟩ ⟨by decide, rfl⟩ (congrArg Prod.fst (J.1.1 98 (0, 16) rfl)) rfl (by decide) rfl rfl ⟨by decide, by decide⟩ (sf_X0_quantity_r98 (jr_of jk_7 (by omega)) (jr_of rfl (by omega)) hD J  (fun v18 h J S17 => ?_))
                have ev18 := jfullL v18
                have Sm := jSm_tr rfl Sm S17
                show jX m_X11_badge 8 0 0 45 [(4, .int v13), (0, .ref 31), (1, .int a1), (2, .int a2), (3, .int a3)] [.long v18] _ 0 0 _
                refine x_lconst (v := 1) rfl kl_1 ?_
                refine z_lcmp rfl rfl jkl_1 (fun v19 ev19 => ?_)
                refine x_ifne (tgt := 68) rfl rfl (ti_ne rfl jk_0 ⟨fun c20 => ?_, fun c20 => ?_⟩)
                ·
                  exact jX.sub jsb_n (ct_X11_badge_r31_68 hD hQ  h J Sm)
                ·
                  refine x_aloadn (x := 31) rfl rfl ?_
                  refine z_getR (N := 13) (b := 98) 11 7 rfl f_11_66 rfl J rfl 3975 ⟨rfl, rfl⟩ rfl ?_
                  refine x_iconst (v := 4) rfl ki_4 ?_
                  refine x_iconst (v := 0) rfl ki_0 ?_
                  refine x_iload (x := v13) rfl rfl ?_
                  refine x_inv (N := m_X0_weigh) (As := [.int 4, .int 0, .int v13]) (b := 98) (st := []) (d' := 1) (mc := 0) (ms := 0) (host := "") 0 rfl t_X0_weigh ⟨Or.inl q_11_359, i_X0_weigh.1, i_X0_weigh.2⟩ ⟨by decide, rfl⟩ (congrArg Prod.fst (J.1.1 98 (0, 16) rfl)) rfl (by decide) rfl rfl ⟨by decide, by decide⟩ (sf_X0_weigh_r98 (jr_of jk_4 (by omega)) (jr_of jk_0 (by omega)) (jr_of rfl (by omega)) hD J  (fun v22 h ev22 J S21 => ?_))
                  have Sm := jSm_tr rfl Sm S21
                  show jX m_X11_badge 8 0 0 61 [(4, .int v13), (0, .ref 31), (1, .int a1), (2, .int a2), (3, .int a3)] [.int v22] _ 0 0 _
                  refine x_ifeq (tgt := 68) rfl rfl (ti_eq rfl jk_0 (br_t (by omega) ?_))
                  exact jX.sub jsb_n (ct_X11_badge_r31_68 hD hQ  h J Sm)
              ·
                refine x_iconst (v := (-1)) rfl ki_m1 ?_
                refine x_iret rfl rfl ?_
                exact hQ _ _ (jr_of jk_m1 (by omega)) J Sm
  ·
    refine x_iconst (v := (-1)) rfl ki_m1 ?_
    refine x_iret rfl rfl ?_
    exact hQ _ _ (jr_of jk_m1 (by omega)) J Sm
def fp_X8_at_r59_c1 : jFp := []
set_option maxRecDepth 100000 in
set_option maxHeartbeats 4000000 in
theorem ct_X8_at_r59_c1_24 {Dy : jH → Prop} {h0 : jH} {Q : Option Value → jH → Prop} (hD : jDk Dy) (hQ : ∀ (v : Int32) h', 0 ≤ v.toInt ∧ v.toInt ≤ 399 → jJ jSgX Dy h' → jSm fp_X8_at_r59_c1 h0 h' → Q (some (.int v)) h') : ∀ (h : jH), jJ jSgX Dy h → jSm fp_X8_at_r59_c1 h0 h → jX m_X8_at 1 0 0 24 [] [] h 0 0 Q := by
  intro  h    J Sm
  refine x_iconst (v := 0) rfl ki_0 ?_
  refine x_iret rfl rfl ?_
  exact hQ _ _ (jr_of jk_0 (by omega)) J Sm
set_option maxRecDepth 100000 in
set_option maxHeartbeats 4000000 in
theorem sf_X8_at_r59_c1 {Dy : jH → Prop} {h : jH} {Q : Option Value → jH → Prop} {a1 : Int32} (y1 : 0 ≤ a1.toInt ∧ a1.toInt ≤ 39) (hD : jDk Dy) (J : jJ jSgX Dy h) (hQ : ∀ (v : Int32) h', 0 ≤ v.toInt ∧ v.toInt ≤ 399 → jJ jSgX Dy h' → jSm fp_X8_at_r59_c1 h h' → Q (some (.int v)) h') : jC m_X8_at 1 0 0 [.ref 59, .int a1, .int 1] h Q := by
  refine jC.of rfl k_X8_at rfl ?_
  have Sm := jSm_rf fp_X8_at_r59_c1 h
  show jX m_X8_at 1 0 0 0 [(0, .ref 59), (1, .int a1), (2, .int 1)] [] _ 0 0 _
  refine x_iloadn (x := a1) rfl rfl ?_
  refine x_iflt (tgt := 24) rfl rfl (ti_lt rfl jk_0 (br_f (by omega) ?_))
  refine x_iloadn (x := a1) rfl rfl ?_
  refine x_aloadn (x := 59) rfl rfl ?_
  refine z_getI (N := 4) 8 3 rfl f_8_7 rfl J rfl sg_59_3_4_1_0_1 (fun v1 qv1 ev1 => ?_)
  refine x_icge (tgt := 24) rfl rfl (ti_ge rfl rfl ⟨fun c2 => ?_, fun c2 => ?_⟩)
  ·
    exact jX.sub jsb_n (ct_X8_at_r59_c1_24 hD hQ  h J Sm)
  ·
    refine x_iloadn (x := 1) rfl rfl ?_
    refine x_iflt (tgt := 24) rfl rfl (ti_lt jk_1 jk_0 (br_f (by omega) ?_))
    refine x_iloadn (x := 1) rfl rfl ?_
    refine x_aloadn (x := 59) rfl rfl ?_
    refine z_getC (N := 4) (v := 4) 8 0 rfl f_8_19 rfl J rfl sg_59_0_1_1_0_1 jk_4 ?_
    refine x_iclt (tgt := 26) rfl rfl (ti_lt jk_1 jk_4 (br_t (by omega) ?_))
    refine x_aloadn (x := 59) rfl rfl ?_
    refine z_getR (N := 4) (b := 60) 8 2 rfl f_8_25 rfl J rfl 7554 ⟨rfl, rfl⟩ rfl ?_
    refine x_iloadn (x := a1) rfl rfl ?_
    refine x_aloadn (x := 59) rfl rfl ?_
    refine z_getC (N := 4) (v := 4) 8 0 rfl f_8_19 rfl J rfl sg_59_0_1_1_0_1 jk_4 ?_
    refine z_imul rfl rfl jk_4 (by omega) (fun v3 ev3 => ?_)
    refine x_iloadn (x := 1) rfl rfl ?_
    refine z_iadd rfl rfl jk_1 (by omega) (fun v4 ev4 => ?_)
    refine z_iald (N := 160) rfl J rfl sg_60_0_160_4_1_2 rfl (by omega) (fun v5 qv5 ev5 => ?_)
    refine x_iret rfl rfl ?_
    exact hQ _ _ (jr_of rfl (by omega)) J Sm
def fp_X8_at_r59_c2 : jFp := []
set_option maxRecDepth 100000 in
set_option maxHeartbeats 4000000 in
theorem ct_X8_at_r59_c2_24 {Dy : jH → Prop} {h0 : jH} {Q : Option Value → jH → Prop} (hD : jDk Dy) (hQ : ∀ (v : Int32) h', 0 ≤ v.toInt ∧ v.toInt ≤ 3 → jJ jSgX Dy h' → jSm fp_X8_at_r59_c2 h0 h' → Q (some (.int v)) h') : ∀ (h : jH), jJ jSgX Dy h → jSm fp_X8_at_r59_c2 h0 h → jX m_X8_at 1 0 0 24 [] [] h 0 0 Q := by
  intro  h    J Sm
  refine x_iconst (v := 0) rfl ki_0 ?_
  refine x_iret rfl rfl ?_
  exact hQ _ _ (jr_of jk_0 (by omega)) J Sm
set_option maxRecDepth 100000 in
set_option maxHeartbeats 4000000 in
theorem sf_X8_at_r59_c2 {Dy : jH → Prop} {h : jH} {Q : Option Value → jH → Prop} {a1 : Int32} (y1 : 0 ≤ a1.toInt ∧ a1.toInt ≤ 39) (hD : jDk Dy) (J : jJ jSgX Dy h) (hQ : ∀ (v : Int32) h', 0 ≤ v.toInt ∧ v.toInt ≤ 3 → jJ jSgX Dy h' → jSm fp_X8_at_r59_c2 h h' → Q (some (.int v)) h') : jC m_X8_at 1 0 0 [.ref 59, .int a1, .int 2] h Q := by
  refine jC.of rfl k_X8_at rfl ?_
  have Sm := jSm_rf fp_X8_at_r59_c2 h
  show jX m_X8_at 1 0 0 0 [(0, .ref 59), (1, .int a1), (2, .int 2)] [] _ 0 0 _
  refine x_iloadn (x := a1) rfl rfl ?_
  refine x_iflt (tgt := 24) rfl rfl (ti_lt rfl jk_0 (br_f (by omega) ?_))
  refine x_iloadn (x := a1) rfl rfl ?_
  refine x_aloadn (x := 59) rfl rfl ?_
  refine z_getI (N := 4) 8 3 rfl f_8_7 rfl J rfl sg_59_3_4_1_0_1 (fun v1 qv1 ev1 => ?_)
  refine x_icge (tgt := 24) rfl rfl (ti_ge rfl rfl ⟨fun c2 => ?_, fun c2 => ?_⟩)
  ·
    exact jX.sub jsb_n (ct_X8_at_r59_c2_24 hD hQ  h J Sm)
  ·
    refine x_iloadn (x := 2) rfl rfl ?_
    refine x_iflt (tgt := 24) rfl rfl (ti_lt jk_2 jk_0 (br_f (by omega) ?_))
    refine x_iloadn (x := 2) rfl rfl ?_
    refine x_aloadn (x := 59) rfl rfl ?_
    refine z_getC (N := 4) (v := 4) 8 0 rfl f_8_19 rfl J rfl sg_59_0_1_1_0_1 jk_4 ?_
    refine x_iclt (tgt := 26) rfl rfl (ti_lt jk_2 jk_4 (br_t (by omega) ?_))
    refine x_aloadn (x := 59) rfl rfl ?_
    refine z_getR (N := 4) (b := 60) 8 2 rfl f_8_25 rfl J rfl 7554 ⟨rfl, rfl⟩ rfl ?_
    refine x_iloadn (x := a1) rfl rfl ?_
    refine x_aloadn (x := 59) rfl rfl ?_
    refine z_getC (N := 4) (v := 4) 8 0 rfl f_8_19 rfl J rfl sg_59_0_1_1_0_1 jk_4 ?_
    refine z_imul rfl rfl jk_4 (by omega) (fun v3 ev3 => ?_)
    refine x_iloadn (x := 2) rfl rfl ?_
    refine z_iadd rfl rfl jk_2 (by omega) (fun v4 ev4 => ?_)
    refine z_iald (N := 160) rfl J rfl sg_60_0_160_4_2_3 rfl (by omega) (fun v5 qv5 ev5 => ?_)
    refine x_iret rfl rfl ?_
    exact hQ _ _ (jr_of rfl (by omega)) J Sm
def fp_X11_closing_r31 : jFp := []
set_option maxRecDepth 100000 in
set_option maxHeartbeats 4000000 in
theorem ct_X11_closing_r31_50 {Dy : jH → Prop} {h0 : jH} {Q : Option Value → jH → Prop} {R2 : Int} (hD : jDk Dy) (hQ : ∀ (v : Int32) h', (-1) ≤ v.toInt ∧ v.toInt ≤ 39 → jJ jSgX Dy h' → jSm fp_X11_closing_r31 h0 h' → Q (some (.int v)) h') (k2 : ∀ (l1 : Int32) (l2 : Int32) (l3 : Int32) (h : jH), 40 - l3.toInt < R2 → 0 ≤ l1.toInt ∧ l1.toInt ≤ 3 → 0 ≤ l3.toInt ∧ l3.toInt ≤ 40 → jJ jSgX Dy h → jSm fp_X11_closing_r31 h0 h → jX m_X11_closing 2 0 0 2 [(0, .ref 31), (1, .int l1), (2, .int l2), (3, .int l3)] [] h 0 0 Q) : ∀ (l1 : Int32) (l2 : Int32) (l3 : Int32) (h : jH), 0 ≤ l1.toInt ∧ l1.toInt ≤ 3 → 0 ≤ l3.toInt ∧ l3.toInt ≤ 39 → 40 - l3.toInt ≤ R2 → jJ jSgX Dy h → jSm fp_X11_closing_r31 h0 h → jX m_X11_closing 2 0 0 50 [(0, .ref 31), (1, .int l1), (2, .int l2), (3, .int l3)] [] h 0 0 Q := by
  intro l1 l2 l3 h y0 y1  m2 J Sm
  have el2 := jfull l2
  refine z_iinc (x := l3) (ls' := fun v1 => [(3, .int v1), (0, .ref 31), (1, .int l1), (2, .int l2)]) rfl rfl rfl jko_1 (by omega) rfl (fun _ => rfl) (fun v1 ev1 => ?_)
  refine x_goto (tgt := 2) rfl rfl ?_
  exact jX.sub (jsb_c rfl (jsb_c rfl (jsb_c rfl (jsb_c rfl jsb_n)))) (k2 l1 l2 v1 h (by omega) (jr_of rfl (by omega)) (jr_of rfl (by omega)) J Sm)
set_option maxRecDepth 100000 in
set_option maxHeartbeats 4000000 in
theorem ct_X11_closing_r31_2 {Dy : jH → Prop} {h0 : jH} {Q : Option Value → jH → Prop} (hD : jDk Dy) (hQ : ∀ (v : Int32) h', (-1) ≤ v.toInt ∧ v.toInt ≤ 39 → jJ jSgX Dy h' → jSm fp_X11_closing_r31 h0 h' → Q (some (.int v)) h') : ∀ r : Nat, ∀ (l1 : Int32) (l2 : Int32) (l3 : Int32) (h : jH), 40 - l3.toInt < (r : Int) → 0 ≤ l1.toInt ∧ l1.toInt ≤ 3 → 0 ≤ l3.toInt ∧ l3.toInt ≤ 40 → jJ jSgX Dy h → jSm fp_X11_closing_r31 h0 h → jX m_X11_closing 2 0 0 2 [(0, .ref 31), (1, .int l1), (2, .int l2), (3, .int l3)] [] h 0 0 Q := by
  intro r
  induction r with
  | zero =>
    intro l1 l2 l3 h hm y0 y1   J Sm
    exfalso
    omega
  | succ r ih =>
    intro l1 l2 l3 h hm y0 y1   J Sm
    have el2 := jfull l2
    refine x_iloadn (x := l3) rfl rfl ?_
    refine x_aloadn (x := 31) rfl rfl ?_
    refine z_getR (N := 13) (b := 32) 11 0 rfl f_11_10 rfl J rfl 3968 ⟨rfl, rfl⟩ rfl ?_
    refine z_getR (N := 20) (b := 59) 1 13 rfl f_11_482 rfl J rfl 4109 ⟨rfl, rfl⟩ rfl ?_
    refine z_getI (N := 4) 8 3 rfl f_11_142 rfl J rfl sg_59_3_4_1_0_1 (fun v1 qv1 ev1 => ?_)
    refine x_icge (tgt := 56) rfl rfl (ti_ge rfl rfl ⟨fun c2 => ?_, fun c2 => ?_⟩)
    ·
      refine x_iconst (v := (-1)) rfl ki_m1 ?_
      refine x_iret rfl rfl ?_
      exact hQ _ _ (jr_of jk_m1 (by omega)) J Sm
    ·
      refine x_aloadn (x := 31) rfl rfl ?_
      refine z_getR (N := 13) (b := 32) 11 0 rfl f_11_10 rfl J rfl 3968 ⟨rfl, rfl⟩ rfl ?_
      refine z_getR (N := 20) (b := 59) 1 13 rfl f_11_482 rfl J rfl 4109 ⟨rfl, rfl⟩ rfl ?_
      refine x_iloadn (x := l3) rfl rfl ?_
      refine x_iconst (v := 2) rfl ki_2 ?_
      refine x_inv (N := m_X8_at) (As := [.int l3, .int 2]) (b := 59) (st := []) (d' := 1) (mc := 0) (ms := 0) (host := "") 8 rfl t_X8_at ⟨Or.inl q_11_171, i_X8_at.1, i_X8_at.2⟩ ⟨by decide, rfl⟩ (congrArg Prod.fst (J.1.1 59 (8, 4) rfl)) rfl (by decide) rfl rfl ⟨by decide, by decide⟩ (sf_X8_at_r59_c2 (jr_of rfl (by omega)) hD J  (fun v4 h ev4 J S3 => ?_))
      have Sm := jSm_tr rfl Sm S3
      show jX m_X11_closing 2 0 0 28 [(0, .ref 31), (1, .int l1), (2, .int l2), (3, .int l3)] [.int v4] _ 0 0 _
      refine x_iloadn (x := l1) rfl rfl ?_
      refine x_icne (tgt := 50) rfl rfl (ti_ne rfl rfl ⟨fun c5 => ?_, fun c5 => ?_⟩)
      ·
        exact jX.sub (jsb_c rfl (jsb_c rfl (jsb_c rfl (jsb_c rfl jsb_n)))) (ct_X11_closing_r31_50 hD hQ ih l1 l2 l3 h (jr_of rfl (by omega)) (jr_of rfl (by omega)) (by omega) J Sm)
      ·
        refine x_aloadn (x := 31) rfl rfl ?_
        refine z_getR (N := 13) (b := 32) 11 0 rfl f_11_10 rfl J rfl 3968 ⟨rfl, rfl⟩ rfl ?_
        refine z_getR (N := 20) (b := 59) 1 13 rfl f_11_482 rfl J rfl 4109 ⟨rfl, rfl⟩ rfl ?_
        refine x_iloadn (x := l3) rfl rfl ?_
        refine x_iconst (v := 1) rfl ki_1 ?_
        refine x_inv (N := m_X8_at) (As := [.int l3, .int 1]) (b := 59) (st := []) (d' := 1) (mc := 0) (ms := 0) (host := "") 8 rfl t_X8_at ⟨Or.inl q_11_171, i_X8_at.1, i_X8_at.2⟩ ⟨by decide, rfl⟩ (congrArg Prod.fst (J.1.1 59 (8, 4) rfl)) rfl (by decide) rfl rfl ⟨by decide, by decide⟩ (sf_X8_at_r59_c1 (jr_of rfl (by omega)) hD J  (fun v7 h ev7 J S6 => ?_))
        have Sm := jSm_tr rfl Sm S6
        show jX m_X11_closing 2 0 0 44 [(0, .ref 31), (1, .int l1), (2, .int l2), (3, .int l3)] [.int v7] _ 0 0 _
        refine x_iloadn (x := l2) rfl rfl ?_
        refine x_icne (tgt := 50) rfl rfl (ti_ne rfl rfl ⟨fun c8 => ?_, fun c8 => ?_⟩)
        ·
          exact jX.sub (jsb_c rfl (jsb_c rfl (jsb_c rfl (jsb_c rfl jsb_n)))) (ct_X11_closing_r31_50 hD hQ ih l1 l2 l3 h (jr_of rfl (by omega)) (jr_of rfl (by omega)) (by omega) J Sm)
        ·
          refine x_iloadn (x := l3) rfl rfl ?_
          refine x_iret rfl rfl ?_
          exact hQ _ _ (jr_of rfl (by omega)) J Sm
set_option maxRecDepth 100000 in
set_option maxHeartbeats 4000000 in
theorem sf_X11_closing_r31 {Dy : jH → Prop} {h : jH} {Q : Option Value → jH → Prop} {a1 : Int32} {a2 : Int32} (y1 : 0 ≤ a1.toInt ∧ a1.toInt ≤ 3) (hD : jDk Dy) (J : jJ jSgX Dy h) (hQ : ∀ (v : Int32) h', (-1) ≤ v.toInt ∧ v.toInt ≤ 39 → jJ jSgX Dy h' → jSm fp_X11_closing_r31 h h' → Q (some (.int v)) h') : jC m_X11_closing 2 0 0 [.ref 31, .int a1, .int a2] h Q := by
  refine jC.of rfl k_X11_closing rfl ?_
  have Sm := jSm_rf fp_X11_closing_r31 h
  have ea2 := jfull a2
  show jX m_X11_closing 2 0 0 0 [(0, .ref 31), (1, .int a1), (2, .int a2)] [] _ 0 0 _
  refine x_iconst (v := 0) rfl ki_0 ?_
  refine x_istoren (ls' := [(3, .int 0), (0, .ref 31), (1, .int a1), (2, .int a2)]) rfl rfl rfl ?_
  exact jX.sub (jsb_c rfl (jsb_c rfl (jsb_c rfl (jsb_c rfl jsb_n)))) (ct_X11_closing_r31_2 hD hQ  41 a1 a2 0 h (by have := jk_0; omega) (jr_of rfl (by omega)) (jr_of jk_0 (by omega)) J Sm)
def fp_X8_at_r57_c0 : jFp := []
set_option maxRecDepth 100000 in
set_option maxHeartbeats 4000000 in
theorem ct_X8_at_r57_c0_24 {Dy : jH → Prop} {h0 : jH} {Q : Option Value → jH → Prop} (hD : jDk Dy) (hQ : ∀ (v : Int32) h', 0 ≤ v.toInt ∧ v.toInt ≤ 146399 → jJ jSgX Dy h' → jSm fp_X8_at_r57_c0 h0 h' → Q (some (.int v)) h') : ∀ (h : jH), jJ jSgX Dy h → jSm fp_X8_at_r57_c0 h0 h → jX m_X8_at 1 0 0 24 [] [] h 0 0 Q := by
  intro  h    J Sm
  refine x_iconst (v := 0) rfl ki_0 ?_
  refine x_iret rfl rfl ?_
  exact hQ _ _ (jr_of jk_0 (by omega)) J Sm
set_option maxRecDepth 100000 in
set_option maxHeartbeats 4000000 in
theorem sf_X8_at_r57_c0 {Dy : jH → Prop} {h : jH} {Q : Option Value → jH → Prop} {a1 : Int32} (y1 : 0 ≤ a1.toInt ∧ a1.toInt ≤ 99) (hD : jDk Dy) (J : jJ jSgX Dy h) (hQ : ∀ (v : Int32) h', 0 ≤ v.toInt ∧ v.toInt ≤ 146399 → jJ jSgX Dy h' → jSm fp_X8_at_r57_c0 h h' → Q (some (.int v)) h') : jC m_X8_at 1 0 0 [.ref 57, .int a1, .int 0] h Q := by
  refine jC.of rfl k_X8_at rfl ?_
  have Sm := jSm_rf fp_X8_at_r57_c0 h
  show jX m_X8_at 1 0 0 0 [(0, .ref 57), (1, .int a1), (2, .int 0)] [] _ 0 0 _
  refine x_iloadn (x := a1) rfl rfl ?_
  refine x_iflt (tgt := 24) rfl rfl (ti_lt rfl jk_0 (br_f (by omega) ?_))
  refine x_iloadn (x := a1) rfl rfl ?_
  refine x_aloadn (x := 57) rfl rfl ?_
  refine z_getI (N := 4) 8 3 rfl f_8_7 rfl J rfl sg_57_3_4_1_0_1 (fun v1 qv1 ev1 => ?_)
  refine x_icge (tgt := 24) rfl rfl (ti_ge rfl rfl ⟨fun c2 => ?_, fun c2 => ?_⟩)
  ·
    exact jX.sub jsb_n (ct_X8_at_r57_c0_24 hD hQ  h J Sm)
  ·
    refine x_iloadn (x := 0) rfl rfl ?_
    refine x_iflt (tgt := 24) rfl rfl (ti_lt jk_0 jk_0 (br_f (by omega) ?_))
    refine x_iloadn (x := 0) rfl rfl ?_
    refine x_aloadn (x := 57) rfl rfl ?_
    refine z_getC (N := 4) (v := 4) 8 0 rfl f_8_19 rfl J rfl sg_57_0_1_1_0_1 jk_4 ?_
    refine x_iclt (tgt := 26) rfl rfl (ti_lt jk_0 jk_4 (br_t (by omega) ?_))
    refine x_aloadn (x := 57) rfl rfl ?_
    refine z_getR (N := 4) (b := 58) 8 2 rfl f_8_25 rfl J rfl 7298 ⟨rfl, rfl⟩ rfl ?_
    refine x_iloadn (x := a1) rfl rfl ?_
    refine x_aloadn (x := 57) rfl rfl ?_
    refine z_getC (N := 4) (v := 4) 8 0 rfl f_8_19 rfl J rfl sg_57_0_1_1_0_1 jk_4 ?_
    refine z_imul rfl rfl jk_4 (by omega) (fun v3 ev3 => ?_)
    refine x_iloadn (x := 0) rfl rfl ?_
    refine z_iadd rfl rfl jk_0 (by omega) (fun v4 ev4 => ?_)
    refine z_iald (N := 400) rfl J rfl sg_58_0_400_4_0_1 rfl (by omega) (fun v5 qv5 ev5 => ?_)
    refine x_iret rfl rfl ?_
    exact hQ _ _ (jr_of rfl (by omega)) J Sm
def fp_X8_at_r57_c1 : jFp := []
set_option maxRecDepth 100000 in
set_option maxHeartbeats 4000000 in
theorem ct_X8_at_r57_c1_24 {Dy : jH → Prop} {h0 : jH} {Q : Option Value → jH → Prop} (hD : jDk Dy) (hQ : ∀ (v : Int32) h', 0 ≤ v.toInt ∧ v.toInt ≤ 399 → jJ jSgX Dy h' → jSm fp_X8_at_r57_c1 h0 h' → Q (some (.int v)) h') : ∀ (h : jH), jJ jSgX Dy h → jSm fp_X8_at_r57_c1 h0 h → jX m_X8_at 1 0 0 24 [] [] h 0 0 Q := by
  intro  h    J Sm
  refine x_iconst (v := 0) rfl ki_0 ?_
  refine x_iret rfl rfl ?_
  exact hQ _ _ (jr_of jk_0 (by omega)) J Sm
set_option maxRecDepth 100000 in
set_option maxHeartbeats 4000000 in
theorem sf_X8_at_r57_c1 {Dy : jH → Prop} {h : jH} {Q : Option Value → jH → Prop} {a1 : Int32} (y1 : 0 ≤ a1.toInt ∧ a1.toInt ≤ 99) (hD : jDk Dy) (J : jJ jSgX Dy h) (hQ : ∀ (v : Int32) h', 0 ≤ v.toInt ∧ v.toInt ≤ 399 → jJ jSgX Dy h' → jSm fp_X8_at_r57_c1 h h' → Q (some (.int v)) h') : jC m_X8_at 1 0 0 [.ref 57, .int a1, .int 1] h Q := by
  refine jC.of rfl k_X8_at rfl ?_
  have Sm := jSm_rf fp_X8_at_r57_c1 h
  show jX m_X8_at 1 0 0 0 [(0, .ref 57), (1, .int a1), (2, .int 1)] [] _ 0 0 _
  refine x_iloadn (x := a1) rfl rfl ?_
  refine x_iflt (tgt := 24) rfl rfl (ti_lt rfl jk_0 (br_f (by omega) ?_))
  refine x_iloadn (x := a1) rfl rfl ?_
  refine x_aloadn (x := 57) rfl rfl ?_
  refine z_getI (N := 4) 8 3 rfl f_8_7 rfl J rfl sg_57_3_4_1_0_1 (fun v1 qv1 ev1 => ?_)
  refine x_icge (tgt := 24) rfl rfl (ti_ge rfl rfl ⟨fun c2 => ?_, fun c2 => ?_⟩)
  ·
    exact jX.sub jsb_n (ct_X8_at_r57_c1_24 hD hQ  h J Sm)
  ·
    refine x_iloadn (x := 1) rfl rfl ?_
    refine x_iflt (tgt := 24) rfl rfl (ti_lt jk_1 jk_0 (br_f (by omega) ?_))
    refine x_iloadn (x := 1) rfl rfl ?_
    refine x_aloadn (x := 57) rfl rfl ?_
    refine z_getC (N := 4) (v := 4) 8 0 rfl f_8_19 rfl J rfl sg_57_0_1_1_0_1 jk_4 ?_
    refine x_iclt (tgt := 26) rfl rfl (ti_lt jk_1 jk_4 (br_t (by omega) ?_))
    refine x_aloadn (x := 57) rfl rfl ?_
    refine z_getR (N := 4) (b := 58) 8 2 rfl f_8_25 rfl J rfl 7298 ⟨rfl, rfl⟩ rfl ?_
    refine x_iloadn (x := a1) rfl rfl ?_
    refine x_aloadn (x := 57) rfl rfl ?_
    refine z_getC (N := 4) (v := 4) 8 0 rfl f_8_19 rfl J rfl sg_57_0_1_1_0_1 jk_4 ?_
    refine z_imul rfl rfl jk_4 (by omega) (fun v3 ev3 => ?_)
    refine x_iloadn (x := 1) rfl rfl ?_
    refine z_iadd rfl rfl jk_1 (by omega) (fun v4 ev4 => ?_)
    refine z_iald (N := 400) rfl J rfl sg_58_0_400_4_1_2 rfl (by omega) (fun v5 qv5 ev5 => ?_)
    refine x_iret rfl rfl ?_
    exact hQ _ _ (jr_of rfl (by omega)) J Sm
def fp_X8_at_r57_c2 : jFp := []
set_option maxRecDepth 100000 in
set_option maxHeartbeats 4000000 in
theorem ct_X8_at_r57_c2_24 {Dy : jH → Prop} {h0 : jH} {Q : Option Value → jH → Prop} (hD : jDk Dy) (hQ : ∀ (v : Int32) h', 0 ≤ v.toInt ∧ v.toInt ≤ 3 → jJ jSgX Dy h' → jSm fp_X8_at_r57_c2 h0 h' → Q (some (.int v)) h') : ∀ (h : jH), jJ jSgX Dy h → jSm fp_X8_at_r57_c2 h0 h → jX m_X8_at 1 0 0 24 [] [] h 0 0 Q := by
  intro  h    J Sm
  refine x_iconst (v := 0) rfl ki_0 ?_
  refine x_iret rfl rfl ?_
  exact hQ _ _ (jr_of jk_0 (by omega)) J Sm
set_option maxRecDepth 100000 in
set_option maxHeartbeats 4000000 in
theorem sf_X8_at_r57_c2 {Dy : jH → Prop} {h : jH} {Q : Option Value → jH → Prop} {a1 : Int32} (y1 : 0 ≤ a1.toInt ∧ a1.toInt ≤ 99) (hD : jDk Dy) (J : jJ jSgX Dy h) (hQ : ∀ (v : Int32) h', 0 ≤ v.toInt ∧ v.toInt ≤ 3 → jJ jSgX Dy h' → jSm fp_X8_at_r57_c2 h h' → Q (some (.int v)) h') : jC m_X8_at 1 0 0 [.ref 57, .int a1, .int 2] h Q := by
  refine jC.of rfl k_X8_at rfl ?_
  have Sm := jSm_rf fp_X8_at_r57_c2 h
  show jX m_X8_at 1 0 0 0 [(0, .ref 57), (1, .int a1), (2, .int 2)] [] _ 0 0 _
  refine x_iloadn (x := a1) rfl rfl ?_
  refine x_iflt (tgt := 24) rfl rfl (ti_lt rfl jk_0 (br_f (by omega) ?_))
  refine x_iloadn (x := a1) rfl rfl ?_
  refine x_aloadn (x := 57) rfl rfl ?_
  refine z_getI (N := 4) 8 3 rfl f_8_7 rfl J rfl sg_57_3_4_1_0_1 (fun v1 qv1 ev1 => ?_)
  refine x_icge (tgt := 24) rfl rfl (ti_ge rfl rfl ⟨fun c2 => ?_, fun c2 => ?_⟩)
  ·
    exact jX.sub jsb_n (ct_X8_at_r57_c2_24 hD hQ  h J Sm)
  ·
    refine x_iloadn (x := 2) rfl rfl ?_
    refine x_iflt (tgt := 24) rfl rfl (ti_lt jk_2 jk_0 (br_f (by omega) ?_))
    refine x_iloadn (x := 2) rfl rfl ?_
    refine x_aloadn (x := 57) rfl rfl ?_
    refine z_getC (N := 4) (v := 4) 8 0 rfl f_8_19 rfl J rfl sg_57_0_1_1_0_1 jk_4 ?_
    refine x_iclt (tgt := 26) rfl rfl (ti_lt jk_2 jk_4 (br_t (by omega) ?_))
    refine x_aloadn (x := 57) rfl rfl ?_
    refine z_getR (N := 4) (b := 58) 8 2 rfl f_8_25 rfl J rfl 7298 ⟨rfl, rfl⟩ rfl ?_
    refine x_iloadn (x := a1) rfl rfl ?_
    refine x_aloadn (x := 57) rfl rfl ?_
    refine z_getC (N := 4) (v := 4) 8 0 rfl f_8_19 rfl J rfl sg_57_0_1_1_0_1 jk_4 ?_
    refine z_imul rfl rfl jk_4 (by omega) (fun v3 ev3 => ?_)
    refine x_iloadn (x := 2) rfl rfl ?_
    refine z_iadd rfl rfl jk_2 (by omega) (fun v4 ev4 => ?_)
    refine z_iald (N := 400) rfl J rfl sg_58_0_400_4_2_3 rfl (by omega) (fun v5 qv5 ev5 => ?_)
    refine x_iret rfl rfl ?_
    exact hQ _ _ (jr_of rfl (by omega)) J Sm
def fp_X8_at_r59_c0 : jFp := []
set_option maxRecDepth 100000 in
set_option maxHeartbeats 4000000 in
theorem ct_X8_at_r59_c0_24 {Dy : jH → Prop} {h0 : jH} {Q : Option Value → jH → Prop} (hD : jDk Dy) (hQ : ∀ (v : Int32) h', 0 ≤ v.toInt ∧ v.toInt ≤ 146399 → jJ jSgX Dy h' → jSm fp_X8_at_r59_c0 h0 h' → Q (some (.int v)) h') : ∀ (h : jH), jJ jSgX Dy h → jSm fp_X8_at_r59_c0 h0 h → jX m_X8_at 1 0 0 24 [] [] h 0 0 Q := by
  intro  h    J Sm
  refine x_iconst (v := 0) rfl ki_0 ?_
  refine x_iret rfl rfl ?_
  exact hQ _ _ (jr_of jk_0 (by omega)) J Sm
set_option maxRecDepth 100000 in
set_option maxHeartbeats 4000000 in
theorem sf_X8_at_r59_c0 {Dy : jH → Prop} {h : jH} {Q : Option Value → jH → Prop} {a1 : Int32} (y1 : 0 ≤ a1.toInt ∧ a1.toInt ≤ 39) (hD : jDk Dy) (J : jJ jSgX Dy h) (hQ : ∀ (v : Int32) h', 0 ≤ v.toInt ∧ v.toInt ≤ 146399 → jJ jSgX Dy h' → jSm fp_X8_at_r59_c0 h h' → Q (some (.int v)) h') : jC m_X8_at 1 0 0 [.ref 59, .int a1, .int 0] h Q := by
  refine jC.of rfl k_X8_at rfl ?_
  have Sm := jSm_rf fp_X8_at_r59_c0 h
  show jX m_X8_at 1 0 0 0 [(0, .ref 59), (1, .int a1), (2, .int 0)] [] _ 0 0 _
  refine x_iloadn (x := a1) rfl rfl ?_
  refine x_iflt (tgt := 24) rfl rfl (ti_lt rfl jk_0 (br_f (by omega) ?_))
  refine x_iloadn (x := a1) rfl rfl ?_
  refine x_aloadn (x := 59) rfl rfl ?_
  refine z_getI (N := 4) 8 3 rfl f_8_7 rfl J rfl sg_59_3_4_1_0_1 (fun v1 qv1 ev1 => ?_)
  refine x_icge (tgt := 24) rfl rfl (ti_ge rfl rfl ⟨fun c2 => ?_, fun c2 => ?_⟩)
  ·
    exact jX.sub jsb_n (ct_X8_at_r59_c0_24 hD hQ  h J Sm)
  ·
    refine x_iloadn (x := 0) rfl rfl ?_
    refine x_iflt (tgt := 24) rfl rfl (ti_lt jk_0 jk_0 (br_f (by omega) ?_))
    refine x_iloadn (x := 0) rfl rfl ?_
    refine x_aloadn (x := 59) rfl rfl ?_
    refine z_getC (N := 4) (v := 4) 8 0 rfl f_8_19 rfl J rfl sg_59_0_1_1_0_1 jk_4 ?_
    refine x_iclt (tgt := 26) rfl rfl (ti_lt jk_0 jk_4 (br_t (by omega) ?_))
    refine x_aloadn (x := 59) rfl rfl ?_
    refine z_getR (N := 4) (b := 60) 8 2 rfl f_8_25 rfl J rfl 7554 ⟨rfl, rfl⟩ rfl ?_
    refine x_iloadn (x := a1) rfl rfl ?_
    refine x_aloadn (x := 59) rfl rfl ?_
    refine z_getC (N := 4) (v := 4) 8 0 rfl f_8_19 rfl J rfl sg_59_0_1_1_0_1 jk_4 ?_
    refine z_imul rfl rfl jk_4 (by omega) (fun v3 ev3 => ?_)
    refine x_iloadn (x := 0) rfl rfl ?_
    refine z_iadd rfl rfl jk_0 (by omega) (fun v4 ev4 => ?_)
    refine z_iald (N := 160) rfl J rfl sg_60_0_160_4_0_1 rfl (by omega) (fun v5 qv5 ev5 => ?_)
    refine x_iret rfl rfl ?_
    exact hQ _ _ (jr_of rfl (by omega)) J Sm
def fp_X11_ownYear_r31 : jFp := []
set_option maxRecDepth 100000 in
set_option maxHeartbeats 4000000 in
theorem ct_X11_ownYear_r31_90 {Dy : jH → Prop} {h0 : jH} {Q : Option Value → jH → Prop} (hD : jDk Dy) (hQ : ∀ (v : Int32) h', jJ jSgX Dy h' → jSm fp_X11_ownYear_r31 h0 h' → Q (some (.int v)) h') : ∀ (l4 : Int32) (h : jH), jJ jSgX Dy h → jSm fp_X11_ownYear_r31 h0 h → jX m_X11_ownYear 3 0 0 90 [(4, .int l4)] [] h 0 0 Q := by
  intro l4 h    J Sm
  have el4 := jfull l4
  refine x_iload (x := l4) rfl rfl ?_
  refine x_iret rfl rfl ?_
  exact hQ _ _ J Sm
set_option maxRecDepth 100000 in
set_option maxHeartbeats 4000000 in
theorem ct_X11_ownYear_r31_43 {Dy : jH → Prop} {h0 : jH} {Q : Option Value → jH → Prop} (hD : jDk Dy) (hQ : ∀ (v : Int32) h', jJ jSgX Dy h' → jSm fp_X11_ownYear_r31 h0 h' → Q (some (.int v)) h') : ∀ r : Nat, ∀ (l2 : Int32) (l3 : Int32) (l4 : Int32) (l5 : Int32) (h : jH), 41 - l5.toInt < (r : Int) → 0 ≤ l2.toInt ∧ l2.toInt ≤ 3 → 0 ≤ l3.toInt ∧ l3.toInt ≤ 146399 → 0 ≤ l5.toInt ∧ l5.toInt ≤ 41 → jJ jSgX Dy h → jSm fp_X11_ownYear_r31 h0 h → jX m_X11_ownYear 3 0 0 43 [(0, .ref 31), (2, .int l2), (3, .int l3), (4, .int l4), (5, .int l5)] [] h 0 0 Q := by
  intro r
  induction r with
  | zero =>
    intro l2 l3 l4 l5 h hm y0 y1 y2   J Sm
    exfalso
    omega
  | succ r ih =>
    intro l2 l3 l4 l5 h hm y0 y1 y2   J Sm
    have el4 := jfull l4
    refine x_iload (x := l5) rfl rfl ?_
    refine x_aloadn (x := 31) rfl rfl ?_
    refine z_getR (N := 13) (b := 32) 11 0 rfl f_11_10 rfl J rfl 3968 ⟨rfl, rfl⟩ rfl ?_
    refine z_getR (N := 20) (b := 59) 1 13 rfl f_11_482 rfl J rfl 4109 ⟨rfl, rfl⟩ rfl ?_
    refine z_getI (N := 4) 8 3 rfl f_11_142 rfl J rfl sg_59_3_4_1_0_1 (fun v1 qv1 ev1 => ?_)
    refine x_icgt (tgt := 102) rfl rfl (ti_gt rfl rfl ⟨fun c2 => ?_, fun c2 => ?_⟩)
    ·
      refine x_iload (x := l4) rfl rfl ?_
      refine x_iret rfl rfl ?_
      exact hQ _ _ J Sm
    ·
      refine x_aloadn (x := 31) rfl rfl ?_
      refine x_iloadn (x := l2) rfl rfl ?_
      refine x_iload (x := l4) rfl rfl ?_
      refine x_inv (N := m_X11_closing) (As := [.int l2, .int l4]) (b := 31) (st := []) (d' := 2) (mc := 0) (ms := 0) (host := "") 11 rfl t_X11_closing ⟨Or.inl q_11_567, i_X11_closing.1, i_X11_closing.2⟩ ⟨by decide, rfl⟩ (congrArg Prod.fst (J.1.1 31 (11, 13) rfl)) rfl (by decide) rfl rfl ⟨by decide, by decide⟩ (sf_X11_closing_r31 (jr_of rfl (by omega)) hD J  (fun v4 h ev4 J S3 => ?_))
      have Sm := jSm_tr rfl Sm S3
      show jX m_X11_ownYear 3 0 0 65 [(0, .ref 31), (2, .int l2), (3, .int l3), (4, .int l4), (5, .int l5)] [.int v4] _ 0 0 _
      refine x_istore (ls' := [(6, .int v4), (0, .ref 31), (2, .int l2), (3, .int l3), (4, .int l4), (5, .int l5)]) rfl rfl rfl ?_
      refine x_iload (x := v4) rfl rfl ?_
      refine x_iconst (v := (-1)) rfl ki_m1 ?_
      refine x_iceq (tgt := 90) rfl rfl (ti_eq rfl jk_m1 ⟨fun c5 => ?_, fun c5 => ?_⟩)
      ·
        exact jX.sub (jsb_c rfl jsb_n) (ct_X11_ownYear_r31_90 hD hQ  l4 h J Sm)
      ·
        refine x_aloadn (x := 31) rfl rfl ?_
        refine z_getR (N := 13) (b := 32) 11 0 rfl f_11_10 rfl J rfl 3968 ⟨rfl, rfl⟩ rfl ?_
        refine z_getR (N := 20) (b := 59) 1 13 rfl f_11_482 rfl J rfl 4109 ⟨rfl, rfl⟩ rfl ?_
        refine x_iload (x := v4) rfl rfl ?_
        refine x_iconst (v := 0) rfl ki_0 ?_
        refine x_inv (N := m_X8_at) (As := [.int v4, .int 0]) (b := 59) (st := []) (d' := 1) (mc := 0) (ms := 0) (host := "") 8 rfl t_X8_at ⟨Or.inl q_11_171, i_X8_at.1, i_X8_at.2⟩ ⟨by decide, rfl⟩ (congrArg Prod.fst (J.1.1 59 (8, 4) rfl)) rfl (by decide) rfl rfl ⟨by decide, by decide⟩ (sf_X8_at_r59_c0 (jr_of rfl (by omega)) hD J  (fun v7 h ev7 J S6 => ?_))
        have Sm := jSm_tr rfl Sm S6
        show jX m_X11_ownYear 3 0 0 86 [(6, .int v4), (0, .ref 31), (2, .int l2), (3, .int l3), (4, .int l4), (5, .int l5)] [.int v7] _ 0 0 _
        refine x_iloadn (x := l3) rfl rfl ?_
        refine x_iclt (tgt := 93) rfl rfl (ti_lt rfl rfl ⟨fun c8 => ?_, fun c8 => ?_⟩)
        ·
          refine z_iinc0 (x := l4) (ls' := fun v9 => [(4, .int v9), (6, .int v4), (0, .ref 31), (2, .int l2), (3, .int l3), (5, .int l5)]) rfl rfl rfl (fun _ => rfl) (fun v9 => ?_)
          have ev9 := jfull v9
          refine z_iinc (x := l5) (ls' := fun v10 => [(5, .int v10), (4, .int v9), (6, .int v4), (0, .ref 31), (2, .int l2), (3, .int l3)]) rfl rfl rfl jko_1 (by omega) rfl (fun _ => rfl) (fun v10 ev10 => ?_)
          refine x_goto (tgt := 43) rfl rfl ?_
          exact jX.sub (jsb_c rfl (jsb_c rfl (jsb_c rfl (jsb_c rfl (jsb_c rfl jsb_n))))) (ih l2 l3 v9 v10 h (by omega) (jr_of rfl (by omega)) (jr_of rfl (by omega)) (jr_of rfl (by omega)) J Sm)
        ·
          exact jX.sub (jsb_c rfl jsb_n) (ct_X11_ownYear_r31_90 hD hQ  l4 h J Sm)
set_option maxRecDepth 100000 in
set_option maxHeartbeats 4000000 in
theorem sf_X11_ownYear_r31 {Dy : jH → Prop} {h : jH} {Q : Option Value → jH → Prop} {a1 : Int32} (y1 : 0 ≤ a1.toInt ∧ a1.toInt ≤ 99) (hD : jDk Dy) (J : jJ jSgX Dy h) (hQ : ∀ (v : Int32) h', jJ jSgX Dy h' → jSm fp_X11_ownYear_r31 h h' → Q (some (.int v)) h') : jC m_X11_ownYear 3 0 0 [.ref 31, .int a1] h Q := by
  refine jC.of rfl k_X11_ownYear rfl ?_
  have Sm := jSm_rf fp_X11_ownYear_r31 h
  show jX m_X11_ownYear 3 0 0 0 [(0, .ref 31), (1, .int a1)] [] _ 0 0 _
  refine x_aloadn (x := 31) rfl rfl ?_
  refine z_getR (N := 13) (b := 32) 11 0 rfl f_11_10 rfl J rfl 3968 ⟨rfl, rfl⟩ rfl ?_
  refine z_getR (N := 20) (b := 57) 1 12 rfl f_11_473 rfl J rfl 4108 ⟨rfl, rfl⟩ rfl ?_
  refine x_iloadn (x := a1) rfl rfl ?_
  refine x_iconst (v := 2) rfl ki_2 ?_
  refine x_inv (N := m_X8_at) (As := [.int a1, .int 2]) (b := 57) (st := []) (d' := 1) (mc := 0) (ms := 0) (host := "") 8 rfl t_X8_at ⟨Or.inl q_11_171, i_X8_at.1, i_X8_at.2⟩ ⟨by decide, rfl⟩ (congrArg Prod.fst (J.1.1 57 (8, 4) rfl)) rfl (by decide) rfl rfl ⟨by decide, by decide⟩ (sf_X8_at_r57_c2 (jr_of rfl (by omega)) hD J  (fun v2 h ev2 J S1 => ?_))
  have Sm := jSm_tr rfl Sm S1
  show jX m_X11_ownYear 3 0 0 12 [(0, .ref 31), (1, .int a1)] [.int v2] _ 0 0 _
  refine x_istoren (ls' := [(2, .int v2), (0, .ref 31), (1, .int a1)]) rfl rfl rfl ?_
  refine x_aloadn (x := 31) rfl rfl ?_
  refine z_getR (N := 13) (b := 32) 11 0 rfl f_11_10 rfl J rfl 3968 ⟨rfl, rfl⟩ rfl ?_
  refine z_getR (N := 20) (b := 57) 1 12 rfl f_11_473 rfl J rfl 4108 ⟨rfl, rfl⟩ rfl ?_
  refine x_iloadn (x := a1) rfl rfl ?_
  refine x_iconst (v := 0) rfl ki_0 ?_
  refine x_inv (N := m_X8_at) (As := [.int a1, .int 0]) (b := 57) (st := []) (d' := 1) (mc := 0) (ms := 0) (host := "") 8 rfl t_X8_at ⟨Or.inl q_11_171, i_X8_at.1, i_X8_at.2⟩ ⟨by decide, rfl⟩ (congrArg Prod.fst (J.1.1 57 (8, 4) rfl)) rfl (by decide) rfl rfl ⟨by decide, by decide⟩ (sf_X8_at_r57_c0 (jr_of rfl (by omega)) hD J  (fun v4 h ev4 J S3 => ?_))
  have Sm := jSm_tr rfl Sm S3
  show jX m_X11_ownYear 3 0 0 25 [(2, .int v2), (0, .ref 31), (1, .int a1)] [.int v4] _ 0 0 _
  refine x_istoren (ls' := [(3, .int v4), (2, .int v2), (0, .ref 31), (1, .int a1)]) rfl rfl rfl ?_
  refine x_aloadn (x := 31) rfl rfl ?_
  refine z_getR (N := 13) (b := 32) 11 0 rfl f_11_10 rfl J rfl 3968 ⟨rfl, rfl⟩ rfl ?_
  refine z_getR (N := 20) (b := 57) 1 12 rfl f_11_473 rfl J rfl 4108 ⟨rfl, rfl⟩ rfl ?_
  refine x_iloadn (x := a1) rfl rfl ?_
  refine x_iconst (v := 1) rfl ki_1 ?_
  refine x_inv (N := m_X8_at) (As := [.int a1, .int 1]) (b := 57) (st := []) (d' := 1) (mc := 0) (ms := 0) (host := "") 8 rfl t_X8_at ⟨Or.inl q_11_171, i_X8_at.1, i_X8_at.2⟩ ⟨by decide, rfl⟩ (congrArg Prod.fst (J.1.1 57 (8, 4) rfl)) rfl (by decide) rfl rfl ⟨by decide, by decide⟩ (sf_X8_at_r57_c1 (jr_of rfl (by omega)) hD J  (fun v6 h ev6 J S5 => ?_))
  have Sm := jSm_tr rfl Sm S5
  show jX m_X11_ownYear 3 0 0 38 [(3, .int v4), (2, .int v2), (0, .ref 31), (1, .int a1)] [.int v6] _ 0 0 _
  refine x_istore (ls' := [(4, .int v6), (3, .int v4), (2, .int v2), (0, .ref 31), (1, .int a1)]) rfl rfl rfl ?_
  refine x_iconst (v := 0) rfl ki_0 ?_
  refine x_istore (ls' := [(5, .int 0), (4, .int v6), (3, .int v4), (2, .int v2), (0, .ref 31), (1, .int a1)]) rfl rfl rfl ?_
  exact jX.sub (jsb_c rfl (jsb_c rfl (jsb_c rfl (jsb_c rfl (jsb_c rfl jsb_n))))) (ct_X11_ownYear_r31_43 hD hQ  42 v2 v4 v6 0 h (by have := jk_0; omega) (jr_of rfl (by omega)) (jr_of rfl (by omega)) (jr_of jk_0 (by omega)) J Sm)
def fp_X8_at_r57_c3 : jFp := []
set_option maxRecDepth 100000 in
set_option maxHeartbeats 4000000 in
theorem ct_X8_at_r57_c3_24 {Dy : jH → Prop} {h0 : jH} {Q : Option Value → jH → Prop} (hD : jDk Dy) (hQ : ∀ (v : Int32) h', (-1000000) ≤ v.toInt ∧ v.toInt ≤ 1000000 → jJ jSgX Dy h' → jSm fp_X8_at_r57_c3 h0 h' → Q (some (.int v)) h') : ∀ (h : jH), jJ jSgX Dy h → jSm fp_X8_at_r57_c3 h0 h → jX m_X8_at 1 0 0 24 [] [] h 0 0 Q := by
  intro  h    J Sm
  refine x_iconst (v := 0) rfl ki_0 ?_
  refine x_iret rfl rfl ?_
  exact hQ _ _ (jr_of jk_0 (by omega)) J Sm
set_option maxRecDepth 100000 in
set_option maxHeartbeats 4000000 in
theorem sf_X8_at_r57_c3 {Dy : jH → Prop} {h : jH} {Q : Option Value → jH → Prop} {a1 : Int32} (y1 : 0 ≤ a1.toInt ∧ a1.toInt ≤ 99) (hD : jDk Dy) (J : jJ jSgX Dy h) (hQ : ∀ (v : Int32) h', (-1000000) ≤ v.toInt ∧ v.toInt ≤ 1000000 → jJ jSgX Dy h' → jSm fp_X8_at_r57_c3 h h' → Q (some (.int v)) h') : jC m_X8_at 1 0 0 [.ref 57, .int a1, .int 3] h Q := by
  refine jC.of rfl k_X8_at rfl ?_
  have Sm := jSm_rf fp_X8_at_r57_c3 h
  show jX m_X8_at 1 0 0 0 [(0, .ref 57), (1, .int a1), (2, .int 3)] [] _ 0 0 _
  refine x_iloadn (x := a1) rfl rfl ?_
  refine x_iflt (tgt := 24) rfl rfl (ti_lt rfl jk_0 (br_f (by omega) ?_))
  refine x_iloadn (x := a1) rfl rfl ?_
  refine x_aloadn (x := 57) rfl rfl ?_
  refine z_getI (N := 4) 8 3 rfl f_8_7 rfl J rfl sg_57_3_4_1_0_1 (fun v1 qv1 ev1 => ?_)
  refine x_icge (tgt := 24) rfl rfl (ti_ge rfl rfl ⟨fun c2 => ?_, fun c2 => ?_⟩)
  ·
    exact jX.sub jsb_n (ct_X8_at_r57_c3_24 hD hQ  h J Sm)
  ·
    refine x_iloadn (x := 3) rfl rfl ?_
    refine x_iflt (tgt := 24) rfl rfl (ti_lt jk_3 jk_0 (br_f (by omega) ?_))
    refine x_iloadn (x := 3) rfl rfl ?_
    refine x_aloadn (x := 57) rfl rfl ?_
    refine z_getC (N := 4) (v := 4) 8 0 rfl f_8_19 rfl J rfl sg_57_0_1_1_0_1 jk_4 ?_
    refine x_iclt (tgt := 26) rfl rfl (ti_lt jk_3 jk_4 (br_t (by omega) ?_))
    refine x_aloadn (x := 57) rfl rfl ?_
    refine z_getR (N := 4) (b := 58) 8 2 rfl f_8_25 rfl J rfl 7298 ⟨rfl, rfl⟩ rfl ?_
    refine x_iloadn (x := a1) rfl rfl ?_
    refine x_aloadn (x := 57) rfl rfl ?_
    refine z_getC (N := 4) (v := 4) 8 0 rfl f_8_19 rfl J rfl sg_57_0_1_1_0_1 jk_4 ?_
    refine z_imul rfl rfl jk_4 (by omega) (fun v3 ev3 => ?_)
    refine x_iloadn (x := 3) rfl rfl ?_
    refine z_iadd rfl rfl jk_3 (by omega) (fun v4 ev4 => ?_)
    refine z_iald (N := 400) rfl J rfl sg_58_0_400_4_3_4 rfl (by omega) (fun v5 qv5 ev5 => ?_)
    refine x_iret rfl rfl ?_
    exact hQ _ _ (jr_of rfl (by omega)) J Sm
def fp_X8_at_r59_c3 : jFp := []
set_option maxRecDepth 100000 in
set_option maxHeartbeats 4000000 in
theorem ct_X8_at_r59_c3_24 {Dy : jH → Prop} {h0 : jH} {Q : Option Value → jH → Prop} (hD : jDk Dy) (hQ : ∀ (v : Int32) h', jJ jSgX Dy h' → jSm fp_X8_at_r59_c3 h0 h' → Q (some (.int v)) h') : ∀ (h : jH), jJ jSgX Dy h → jSm fp_X8_at_r59_c3 h0 h → jX m_X8_at 1 0 0 24 [] [] h 0 0 Q := by
  intro  h    J Sm
  refine x_iconst (v := 0) rfl ki_0 ?_
  refine x_iret rfl rfl ?_
  exact hQ _ _ J Sm
set_option maxRecDepth 100000 in
set_option maxHeartbeats 4000000 in
theorem sf_X8_at_r59_c3 {Dy : jH → Prop} {h : jH} {Q : Option Value → jH → Prop} {a1 : Int32} (y1 : 0 ≤ a1.toInt ∧ a1.toInt ≤ 39) (hD : jDk Dy) (J : jJ jSgX Dy h) (hQ : ∀ (v : Int32) h', jJ jSgX Dy h' → jSm fp_X8_at_r59_c3 h h' → Q (some (.int v)) h') : jC m_X8_at 1 0 0 [.ref 59, .int a1, .int 3] h Q := by
  refine jC.of rfl k_X8_at rfl ?_
  have Sm := jSm_rf fp_X8_at_r59_c3 h
  show jX m_X8_at 1 0 0 0 [(0, .ref 59), (1, .int a1), (2, .int 3)] [] _ 0 0 _
  refine x_iloadn (x := a1) rfl rfl ?_
  refine x_iflt (tgt := 24) rfl rfl (ti_lt rfl jk_0 (br_f (by omega) ?_))
  refine x_iloadn (x := a1) rfl rfl ?_
  refine x_aloadn (x := 59) rfl rfl ?_
  refine z_getI (N := 4) 8 3 rfl f_8_7 rfl J rfl sg_59_3_4_1_0_1 (fun v1 qv1 ev1 => ?_)
  refine x_icge (tgt := 24) rfl rfl (ti_ge rfl rfl ⟨fun c2 => ?_, fun c2 => ?_⟩)
  ·
    exact jX.sub jsb_n (ct_X8_at_r59_c3_24 hD hQ  h J Sm)
  ·
    refine x_iloadn (x := 3) rfl rfl ?_
    refine x_iflt (tgt := 24) rfl rfl (ti_lt jk_3 jk_0 (br_f (by omega) ?_))
    refine x_iloadn (x := 3) rfl rfl ?_
    refine x_aloadn (x := 59) rfl rfl ?_
    refine z_getC (N := 4) (v := 4) 8 0 rfl f_8_19 rfl J rfl sg_59_0_1_1_0_1 jk_4 ?_
    refine x_iclt (tgt := 26) rfl rfl (ti_lt jk_3 jk_4 (br_t (by omega) ?_))
    refine x_aloadn (x := 59) rfl rfl ?_
    refine z_getR (N := 4) (b := 60) 8 2 rfl f_8_25 rfl J rfl 7554 ⟨rfl, rfl⟩ rfl ?_
    refine x_iloadn (x := a1) rfl rfl ?_
    refine x_aloadn (x := 59) rfl rfl ?_
    refine z_getC (N := 4) (v := 4) 8 0 rfl f_8_19 rfl J rfl sg_59_0_1_1_0_1 jk_4 ?_
    refine z_imul rfl rfl jk_4 (by omega) (fun v3 ev3 => ?_)
    refine x_iloadn (x := 3) rfl rfl ?_
    refine z_iadd rfl rfl jk_3 (by omega) (fun v4 ev4 => ?_)
    refine z_iald0 (N := 160) rfl J rfl rfl (by omega) (fun v5 qv5 => ?_)
    have ev5 := jfull v5
    refine x_iret rfl rfl ?_
    exact hQ _ _ J Sm
def fp_X8_isKnown_r57 : jFp := []
set_option maxRecDepth 100000 in
set_option maxHeartbeats 4000000 in
theorem ct_X8_isKnown_r57_300032 {Dy : jH → Prop} {h0 : jH} {Q : Option Value → jH → Prop} (hD : jDk Dy) (hQ : ∀ (v : Int32) h', 0 ≤ v.toInt ∧ v.toInt ≤ 1 → jJ jSgX Dy h' → jSm fp_X8_isKnown_r57 h0 h' → Q (some (.int v)) h') : ∀ (h : jH), jJ jSgX Dy h → jSm fp_X8_isKnown_r57 h0 h → jX m_X8_isKnown 1 0 0 32 [] [.int 1] h 0 0 Q := by
  intro  h    J Sm
  refine x_zret rfl rfl (by decide) ?_
  exact hQ _ _ (jr_of jk_1 (by omega)) J Sm
set_option maxRecDepth 100000 in
set_option maxHeartbeats 4000000 in
theorem ct_X8_isKnown_r57_200032 {Dy : jH → Prop} {h0 : jH} {Q : Option Value → jH → Prop} (hD : jDk Dy) (hQ : ∀ (v : Int32) h', 0 ≤ v.toInt ∧ v.toInt ≤ 1 → jJ jSgX Dy h' → jSm fp_X8_isKnown_r57 h0 h' → Q (some (.int v)) h') : ∀ (h : jH), jJ jSgX Dy h → jSm fp_X8_isKnown_r57 h0 h → jX m_X8_isKnown 1 0 0 32 [] [.int 0] h 0 0 Q := by
  intro  h    J Sm
  refine x_zret rfl rfl (by decide) ?_
  exact hQ _ _ (jr_of jk_0 (by omega)) J Sm
set_option maxRecDepth 100000 in
set_option maxHeartbeats 4000000 in
theorem ct_X8_isKnown_r57_31 {Dy : jH → Prop} {h0 : jH} {Q : Option Value → jH → Prop} (hD : jDk Dy) (hQ : ∀ (v : Int32) h', 0 ≤ v.toInt ∧ v.toInt ≤ 1 → jJ jSgX Dy h' → jSm fp_X8_isKnown_r57 h0 h' → Q (some (.int v)) h') : ∀ (h : jH), jJ jSgX Dy h → jSm fp_X8_isKnown_r57 h0 h → jX m_X8_isKnown 1 0 0 31 [] [] h 0 0 Q := by
  intro  h    J Sm
  refine x_iconst (v := 0) rfl ki_0 ?_
  exact jX.sub jsb_n (ct_X8_isKnown_r57_200032 hD hQ  h J Sm)
set_option maxRecDepth 100000 in
set_option maxHeartbeats 4000000 in
theorem sf_X8_isKnown_r57 {Dy : jH → Prop} {h : jH} {Q : Option Value → jH → Prop} {a1 : Int32} {a2 : Int32} (y1 : 0 ≤ a1.toInt ∧ a1.toInt ≤ 99) (y2 : 0 ≤ a2.toInt ∧ a2.toInt ≤ 146399) (hD : jDk Dy) (J : jJ jSgX Dy h) (hQ : ∀ (v : Int32) h', 0 ≤ v.toInt ∧ v.toInt ≤ 1 → jJ jSgX Dy h' → jSm fp_X8_isKnown_r57 h h' → Q (some (.int v)) h') : jC m_X8_isKnown 1 0 0 [.ref 57, .int a1, .int a2] h Q := by
  refine jC.of rfl k_X8_isKnown rfl ?_
  have Sm := jSm_rf fp_X8_isKnown_r57 h
  show jX m_X8_isKnown 1 0 0 0 [(0, .ref 57), (1, .int a1), (2, .int a2)] [] _ 0 0 _
  refine x_iloadn (x := a1) rfl rfl ?_
  refine x_iflt (tgt := 31) rfl rfl (ti_lt rfl jk_0 (br_f (by omega) ?_))
  refine x_iloadn (x := a1) rfl rfl ?_
  refine x_aloadn (x := 57) rfl rfl ?_
  refine z_getI (N := 4) 8 3 rfl f_8_7 rfl J rfl sg_57_3_4_1_0_1 (fun v1 qv1 ev1 => ?_)
  refine x_icge (tgt := 31) rfl rfl (ti_ge rfl rfl ⟨fun c2 => ?_, fun c2 => ?_⟩)
  ·
    exact jX.sub jsb_n (ct_X8_isKnown_r57_31 hD hQ  h J Sm)
  ·
    refine x_aloadn (x := 57) rfl rfl ?_
    refine z_getR (N := 4) (b := 58) 8 2 rfl f_8_25 rfl J rfl 7298 ⟨rfl, rfl⟩ rfl ?_
    refine x_iloadn (x := a1) rfl rfl ?_
    refine x_aloadn (x := 57) rfl rfl ?_
    refine z_getC (N := 4) (v := 4) 8 0 rfl f_8_19 rfl J rfl sg_57_0_1_1_0_1 jk_4 ?_
    refine z_imul rfl rfl jk_4 (by omega) (fun v3 ev3 => ?_)
    refine z_iald (N := 400) rfl J rfl sg_58_0_400_4_0_1 rfl (by omega) (fun v4 qv4 ev4 => ?_)
    refine x_iloadn (x := a2) rfl rfl ?_
    refine x_icgt (tgt := 31) rfl rfl (ti_gt rfl rfl ⟨fun c5 => ?_, fun c5 => ?_⟩)
    ·
      exact jX.sub jsb_n (ct_X8_isKnown_r57_31 hD hQ  h J Sm)
    ·
      refine x_iconst (v := 1) rfl ki_1 ?_
      refine x_goto (tgt := 32) rfl rfl ?_
      exact jX.sub jsb_n (ct_X8_isKnown_r57_300032 hD hQ  h J Sm)
def fp_X11_balanceOf_r31 : jFp := []
set_option maxRecDepth 100000 in
set_option maxHeartbeats 4000000 in
theorem ct_X11_balanceOf_r31_130 {Dy : jH → Prop} {h0 : jH} {Q : Option Value → jH → Prop} {R54 : Int} (hD : jDk Dy) (hQ : ∀ (v : Int32) h', jJ jSgX Dy h' → jSm fp_X11_balanceOf_r31 h0 h' → Q (some (.int v)) h') (k54 : ∀ (l1 : Int32) (l2 : Int32) (l3 : Int32) (l4 : Int32) (l6 : Int32) (h : jH), 100 - l6.toInt < R54 → 0 ≤ l1.toInt ∧ l1.toInt ≤ 3 → 0 ≤ l2.toInt ∧ l2.toInt ≤ 399 → 0 ≤ l3.toInt ∧ l3.toInt ≤ 146399 → 0 ≤ l6.toInt ∧ l6.toInt ≤ 100 → jJ jSgX Dy h → jSm fp_X11_balanceOf_r31 h0 h → jX m_X11_balanceOf 4 0 0 54 [(0, .ref 31), (1, .int l1), (2, .int l2), (3, .int l3), (4, .int l4), (6, .int l6)] [] h 0 0 Q) : ∀ (l1 : Int32) (l2 : Int32) (l3 : Int32) (l4 : Int32) (l6 : Int32) (h : jH), 0 ≤ l1.toInt ∧ l1.toInt ≤ 3 → 0 ≤ l2.toInt ∧ l2.toInt ≤ 399 → 0 ≤ l3.toInt ∧ l3.toInt ≤ 146399 → 0 ≤ l6.toInt ∧ l6.toInt ≤ 99 → 100 - l6.toInt ≤ R54 → jJ jSgX Dy h → jSm fp_X11_balanceOf_r31 h0 h → jX m_X11_balanceOf 4 0 0 130 [(0, .ref 31), (1, .int l1), (2, .int l2), (3, .int l3), (4, .int l4), (6, .int l6)] [] h 0 0 Q := by
  intro l1 l2 l3 l4 l6 h y0 y1 y2 y3  m54 J Sm
  have el4 := jfull l4
  refine z_iinc (x := l6) (ls' := fun v1 => [(6, .int v1), (0, .ref 31), (1, .int l1), (2, .int l2), (3, .int l3), (4, .int l4)]) rfl rfl rfl jko_1 (by omega) rfl (fun _ => rfl) (fun v1 ev1 => ?_)
  refine x_goto (tgt := 54) rfl rfl ?_
  exact jX.sub (jsb_c rfl (jsb_c rfl (jsb_c rfl (jsb_c rfl (jsb_c rfl (jsb_c rfl jsb_n)))))) (k54 l1 l2 l3 l4 v1 h (by omega) (jr_of rfl (by omega)) (jr_of rfl (by omega)) (jr_of rfl (by omega)) (jr_of rfl (by omega)) J Sm)
set_option maxRecDepth 100000 in
set_option maxHeartbeats 4000000 in
theorem ct_X11_balanceOf_r31_54 {Dy : jH → Prop} {h0 : jH} {Q : Option Value → jH → Prop} (hD : jDk Dy) (hQ : ∀ (v : Int32) h', jJ jSgX Dy h' → jSm fp_X11_balanceOf_r31 h0 h' → Q (some (.int v)) h') : ∀ r : Nat, ∀ (l1 : Int32) (l2 : Int32) (l3 : Int32) (l4 : Int32) (l6 : Int32) (h : jH), 100 - l6.toInt < (r : Int) → 0 ≤ l1.toInt ∧ l1.toInt ≤ 3 → 0 ≤ l2.toInt ∧ l2.toInt ≤ 399 → 0 ≤ l3.toInt ∧ l3.toInt ≤ 146399 → 0 ≤ l6.toInt ∧ l6.toInt ≤ 100 → jJ jSgX Dy h → jSm fp_X11_balanceOf_r31 h0 h → jX m_X11_balanceOf 4 0 0 54 [(0, .ref 31), (1, .int l1), (2, .int l2), (3, .int l3), (4, .int l4), (6, .int l6)] [] h 0 0 Q := by
  intro r
  induction r with
  | zero =>
    intro l1 l2 l3 l4 l6 h hm y0 y1 y2 y3   J Sm
    exfalso
    omega
  | succ r ih =>
    intro l1 l2 l3 l4 l6 h hm y0 y1 y2 y3   J Sm
    have el4 := jfull l4
    refine x_iload (x := l6) rfl rfl ?_
    refine x_aloadn (x := 31) rfl rfl ?_
    refine z_getR (N := 13) (b := 32) 11 0 rfl f_11_10 rfl J rfl 3968 ⟨rfl, rfl⟩ rfl ?_
    refine z_getR (N := 20) (b := 57) 1 12 rfl f_11_473 rfl J rfl 4108 ⟨rfl, rfl⟩ rfl ?_
    refine z_getI (N := 4) 8 3 rfl f_11_142 rfl J rfl sg_57_3_4_1_0_1 (fun v1 qv1 ev1 => ?_)
    refine x_icge (tgt := 136) rfl rfl (ti_ge rfl rfl ⟨fun c2 => ?_, fun c2 => ?_⟩)
    ·
      refine x_iload (x := l4) rfl rfl ?_
      refine x_iret rfl rfl ?_
      exact hQ _ _ J Sm
    ·
      refine x_aloadn (x := 31) rfl rfl ?_
      refine z_getR (N := 13) (b := 32) 11 0 rfl f_11_10 rfl J rfl 3968 ⟨rfl, rfl⟩ rfl ?_
      refine z_getR (N := 20) (b := 57) 1 12 rfl f_11_473 rfl J rfl 4108 ⟨rfl, rfl⟩ rfl ?_
      refine x_iload (x := l6) rfl rfl ?_
      refine x_iconst (v := 2) rfl ki_2 ?_
      refine x_inv (N := m_X8_at) (As := [.int l6, .int 2]) (b := 57) (st := []) (d' := 1) (mc := 0) (ms := 0) (host := "") 8 rfl t_X8_at ⟨Or.inl q_11_171, i_X8_at.1, i_X8_at.2⟩ ⟨by decide, rfl⟩ (congrArg Prod.fst (J.1.1 57 (8, 4) rfl)) rfl (by decide) rfl rfl ⟨by decide, by decide⟩ (sf_X8_at_r57_c2 (jr_of rfl (by omega)) hD J  (fun v4 h ev4 J S3 => ?_))
      have Sm := jSm_tr rfl Sm S3
      show jX m_X11_balanceOf 4 0 0 82 [(0, .ref 31), (1, .int l1), (2, .int l2), (3, .int l3), (4, .int l4), (6, .int l6)] [.int v4] _ 0 0 _
      refine x_iloadn (x := l1) rfl rfl ?_
      refine x_icne (tgt := 130) rfl rfl (ti_ne rfl rfl ⟨fun c5 => ?_, fun c5 => ?_⟩)
      ·
        exact jX.sub (jsb_c rfl (jsb_c rfl (jsb_c rfl (jsb_c rfl (jsb_c rfl (jsb_c rfl jsb_n)))))) (ct_X11_balanceOf_r31_130 hD hQ ih l1 l2 l3 l4 l6 h (jr_of rfl (by omega)) (jr_of rfl (by omega)) (jr_of rfl (by omega)) (jr_of rfl (by omega)) (by omega) J Sm)
      ·
        refine x_aloadn (x := 31) rfl rfl ?_
        refine z_getR (N := 13) (b := 32) 11 0 rfl f_11_10 rfl J rfl 3968 ⟨rfl, rfl⟩ rfl ?_
        refine z_getR (N := 20) (b := 57) 1 12 rfl f_11_473 rfl J rfl 4108 ⟨rfl, rfl⟩ rfl ?_
        refine x_iload (x := l6) rfl rfl ?_
        refine x_iloadn (x := l3) rfl rfl ?_
        refine x_inv (N := m_X8_isKnown) (As := [.int l6, .int l3]) (b := 57) (st := []) (d' := 1) (mc := 0) (ms := 0) (host := "") 8 rfl t_X8_isKnown ⟨Or.inl q_11_440, i_X8_isKnown.1, i_X8_isKnown.2⟩ ⟨by decide, rfl⟩ (congrArg Prod.fst (J.1.1 57 (8, 4) rfl)) rfl (by decide) rfl rfl ⟨by decide, by decide⟩ (sf_X8_isKnown_r57 (jr_of rfl (by omega)) (jr_of rfl (by omega)) hD J  (fun v7 h ev7 J S6 => ?_))
        have Sm := jSm_tr rfl Sm S6
        show jX m_X11_balanceOf 4 0 0 99 [(0, .ref 31), (1, .int l1), (2, .int l2), (3, .int l3), (4, .int l4), (6, .int l6)] [.int v7] _ 0 0 _
        refine x_ifeq (tgt := 130) rfl rfl (ti_eq rfl jk_0 ⟨fun c8 => ?_, fun c8 => ?_⟩)
        ·
          exact jX.sub (jsb_c rfl (jsb_c rfl (jsb_c rfl (jsb_c rfl (jsb_c rfl (jsb_c rfl jsb_n)))))) (ct_X11_balanceOf_r31_130 hD hQ ih l1 l2 l3 l4 l6 h (jr_of rfl (by omega)) (jr_of rfl (by omega)) (jr_of rfl (by omega)) (jr_of rfl (by omega)) (by omega) J Sm)
        ·
          refine x_aloadn (x := 31) rfl rfl ?_
          refine x_iload (x := l6) rfl rfl ?_
          refine x_inv (N := m_X11_ownYear) (As := [.int l6]) (b := 31) (st := []) (d' := 3) (mc := 0) (ms := 0) (host := "") 11 rfl t_X11_ownYear ⟨Or.inl q_11_570, i_X11_ownYear.1, i_X11_ownYear.2⟩ ⟨by decide, rfl⟩ (congrArg Prod.fst (J.1.1 31 (11, 13) rfl)) rfl (by decide) rfl rfl ⟨by decide, by decide⟩ (sf_X11_ownYear_r31 (jr_of rfl (by omega)) hD J  (fun v10 h J S9 => ?_))
          have ev10 := jfull v10
          have Sm := jSm_tr rfl Sm S9
          show jX m_X11_balanceOf 4 0 0 108 [(0, .ref 31), (1, .int l1), (2, .int l2), (3, .int l3), (4, .int l4), (6, .int l6)] [.int v10] _ 0 0 _
          refine x_iloadn (x := l2) rfl rfl ?_
          refine x_icne (tgt := 130) rfl rfl (ti_ne rfl rfl ⟨fun c11 => ?_, fun c11 => ?_⟩)
          ·
            exact jX.sub (jsb_c rfl (jsb_c rfl (jsb_c rfl (jsb_c rfl (jsb_c rfl (jsb_c rfl jsb_n)))))) (ct_X11_balanceOf_r31_130 hD hQ ih l1 l2 l3 l4 l6 h (jr_of rfl (by omega)) (jr_of rfl (by omega)) (jr_of rfl (by omega)) (jr_of rfl (by omega)) (by omega) J Sm)
          ·
            refine x_iload (x := l4) rfl rfl ?_
            refine x_aloadn (x := 31) rfl rfl ?_
            refine z_getR (N := 13) (b := 32) 11 0 rfl f_11_10 rfl J rfl 3968 ⟨rfl, rfl⟩ rfl ?_
            refine z_getR (N := 20) (b := 57) 1 12 rfl f_11_473 rfl J rfl 4108 ⟨rfl, rfl⟩ rfl ?_
            refine x_iload (x := l6) rfl rfl ?_
            refine x_iconst (v := 3) rfl ki_3 ?_
            refine x_inv (N := m_X8_at) (As := [.int l6, .int 3]) (b := 57) (st := [.int l4]) (d' := 1) (mc := 0) (ms := 0) (host := "") 8 rfl t_X8_at ⟨Or.inl q_11_171, i_X8_at.1, i_X8_at.2⟩ ⟨by decide, rfl⟩ (congrArg Prod.fst (J.1.1 57 (8, 4) rfl)) rfl (by decide) rfl rfl ⟨by decide, by decide⟩ (sf_X8_at_r57_c3 (jr_of rfl (by omega)) hD J  (fun v13 h ev13 J S12 => ?_))
            have Sm := jSm_tr rfl Sm S12
            show jX m_X11_balanceOf 4 0 0 127 [(0, .ref 31), (1, .int l1), (2, .int l2), (3, .int l3), (4, .int l4), (6, .int l6)] [.int v13, .int l4] _ 0 0 _
            refine z_iadd0 rfl (fun v14 => ?_)
            have ev14 := jfull v14
            refine x_istore (ls' := [(4, .int v14), (0, .ref 31), (1, .int l1), (2, .int l2), (3, .int l3), (6, .int l6)]) rfl rfl rfl ?_
            exact jX.sub (jsb_c rfl (jsb_c rfl (jsb_c rfl (jsb_c rfl (jsb_c rfl (jsb_c rfl jsb_n)))))) (ct_X11_balanceOf_r31_130 hD hQ ih l1 l2 l3 v14 l6 h (jr_of rfl (by omega)) (jr_of rfl (by omega)) (jr_of rfl (by omega)) (jr_of rfl (by omega)) (by omega) J Sm)
set_option maxRecDepth 100000 in
set_option maxHeartbeats 4000000 in
theorem ct_X11_balanceOf_r31_51 {Dy : jH → Prop} {h0 : jH} {Q : Option Value → jH → Prop} (hD : jDk Dy) (hQ : ∀ (v : Int32) h', jJ jSgX Dy h' → jSm fp_X11_balanceOf_r31 h0 h' → Q (some (.int v)) h') : ∀ (l1 : Int32) (l2 : Int32) (l3 : Int32) (l4 : Int32) (h : jH), 0 ≤ l1.toInt ∧ l1.toInt ≤ 3 → 0 ≤ l2.toInt ∧ l2.toInt ≤ 399 → 0 ≤ l3.toInt ∧ l3.toInt ≤ 146399 → jJ jSgX Dy h → jSm fp_X11_balanceOf_r31 h0 h → jX m_X11_balanceOf 4 0 0 51 [(0, .ref 31), (1, .int l1), (2, .int l2), (3, .int l3), (4, .int l4)] [] h 0 0 Q := by
  intro l1 l2 l3 l4 h y0 y1 y2   J Sm
  have el4 := jfull l4
  refine x_iconst (v := 0) rfl ki_0 ?_
  refine x_istore (ls' := [(6, .int 0), (0, .ref 31), (1, .int l1), (2, .int l2), (3, .int l3), (4, .int l4)]) rfl rfl rfl ?_
  exact jX.sub (jsb_c rfl (jsb_c rfl (jsb_c rfl (jsb_c rfl (jsb_c rfl (jsb_c rfl jsb_n)))))) (ct_X11_balanceOf_r31_54 hD hQ  101 l1 l2 l3 l4 0 h (by have := jk_0; omega) (jr_of rfl (by omega)) (jr_of rfl (by omega)) (jr_of rfl (by omega)) (jr_of jk_0 (by omega)) J Sm)
set_option maxRecDepth 100000 in
set_option maxHeartbeats 4000000 in
theorem sf_X11_balanceOf_r31 {Dy : jH → Prop} {h : jH} {Q : Option Value → jH → Prop} {a1 : Int32} {a2 : Int32} {a3 : Int32} (y1 : 0 ≤ a1.toInt ∧ a1.toInt ≤ 3) (y2 : 0 ≤ a2.toInt ∧ a2.toInt ≤ 399) (y3 : 0 ≤ a3.toInt ∧ a3.toInt ≤ 146399) (hD : jDk Dy) (J : jJ jSgX Dy h) (hQ : ∀ (v : Int32) h', jJ jSgX Dy h' → jSm fp_X11_balanceOf_r31 h h' → Q (some (.int v)) h') : jC m_X11_balanceOf 4 0 0 [.ref 31, .int a1, .int a2, .int a3] h Q := by
  refine jC.of rfl k_X11_balanceOf rfl ?_
  have Sm := jSm_rf fp_X11_balanceOf_r31 h
  show jX m_X11_balanceOf 4 0 0 0 [(0, .ref 31), (1, .int a1), (2, .int a2), (3, .int a3)] [] _ 0 0 _
  refine x_iconst (v := 0) rfl ki_0 ?_
  refine x_istore (ls' := [(4, .int 0), (0, .ref 31), (1, .int a1), (2, .int a2), (3, .int a3)]) rfl rfl rfl ?_
  refine x_aloadn (x := 31) rfl rfl ?_
  refine x_iloadn (x := a1) rfl rfl ?_
  refine x_iloadn (x := a2) rfl rfl ?_
  refine x_iconst (v := 1) rfl ki_1 ?_
  refine z_isub rfl rfl jk_1 (by omega) (fun v1 ev1 => ?_)
  refine x_inv (N := m_X11_closing) (As := [.int a1, .int v1]) (b := 31) (st := []) (d' := 2) (mc := 0) (ms := 0) (host := "") 11 rfl t_X11_closing ⟨Or.inl q_11_567, i_X11_closing.1, i_X11_closing.2⟩ ⟨by decide, rfl⟩ (congrArg Prod.fst (J.1.1 31 (11, 13) rfl)) rfl (by decide) rfl rfl ⟨by decide, by decide⟩ (sf_X11_closing_r31 (jr_of rfl (by omega)) hD J  (fun v3 h ev3 J S2 => ?_))
  have Sm := jSm_tr rfl Sm S2
  show jX m_X11_balanceOf 4 0 0 11 [(4, .int 0), (0, .ref 31), (1, .int a1), (2, .int a2), (3, .int a3)] [.int v3] _ 0 0 _
  refine x_istore (ls' := [(5, .int v3), (4, .int 0), (0, .ref 31), (1, .int a1), (2, .int a2), (3, .int a3)]) rfl rfl rfl ?_
  refine x_iload (x := v3) rfl rfl ?_
  refine x_iconst (v := (-1)) rfl ki_m1 ?_
  refine x_iceq (tgt := 51) rfl rfl (ti_eq rfl jk_m1 ⟨fun c4 => ?_, fun c4 => ?_⟩)
  ·
    exact jX.sub (jsb_c rfl (jsb_c rfl (jsb_c rfl (jsb_c rfl (jsb_c rfl jsb_n))))) (ct_X11_balanceOf_r31_51 hD hQ  a1 a2 a3 0 h (jr_of rfl (by omega)) (jr_of rfl (by omega)) (jr_of rfl (by omega)) J Sm)
  ·
    refine x_aloadn (x := 31) rfl rfl ?_
    refine z_getR (N := 13) (b := 32) 11 0 rfl f_11_10 rfl J rfl 3968 ⟨rfl, rfl⟩ rfl ?_
    refine z_getR (N := 20) (b := 59) 1 13 rfl f_11_482 rfl J rfl 4109 ⟨rfl, rfl⟩ rfl ?_
    refine x_iload (x := v3) rfl rfl ?_
    refine x_iconst (v := 0) rfl ki_0 ?_
    refine x_inv (N := m_X8_at) (As := [.int v3, .int 0]) (b := 59) (st := []) (d' := 1) (mc := 0) (ms := 0) (host := "") 8 rfl t_X8_at ⟨Or.inl q_11_171, i_X8_at.1, i_X8_at.2⟩ ⟨by decide, rfl⟩ (congrArg Prod.fst (J.1.1 59 (8, 4) rfl)) rfl (by decide) rfl rfl ⟨by decide, by decide⟩ (sf_X8_at_r59_c0 (jr_of rfl (by omega)) hD J  (fun v6 h ev6 J S5 => ?_))
    have Sm := jSm_tr rfl Sm S5
    show jX m_X11_balanceOf 4 0 0 32 [(5, .int v3), (4, .int 0), (0, .ref 31), (1, .int a1), (2, .int a2), (3, .int a3)] [.int v6] _ 0 0 _
    refine x_iloadn (x := a3) rfl rfl ?_
    refine x_icgt (tgt := 51) rfl rfl (ti_gt rfl rfl ⟨fun c7 => ?_, fun c7 => ?_⟩)
    ·
      exact jX.sub (jsb_c rfl (jsb_c rfl (jsb_c rfl (jsb_c rfl (jsb_c rfl jsb_n))))) (ct_X11_balanceOf_r31_51 hD hQ  a1 a2 a3 0 h (jr_of rfl (by omega)) (jr_of rfl (by omega)) (jr_of rfl (by omega)) J Sm)
    ·
      refine x_aloadn (x := 31) rfl rfl ?_
      refine z_getR (N := 13) (b := 32) 11 0 rfl f_11_10 rfl J rfl 3968 ⟨rfl, rfl⟩ rfl ?_
      refine z_getR (N := 20) (b := 59) 1 13 rfl f_11_482 rfl J rfl 4109 ⟨rfl, rfl⟩ rfl ?_
      refine x_iload (x := v3) rfl rfl ?_
      refine x_iconst (v := 3) rfl ki_3 ?_
      refine x_inv (N := m_X8_at) (As := [.int v3, .int 3]) (b := 59) (st := []) (d' := 1) (mc := 0) (ms := 0) (host := "") 8 rfl t_X8_at ⟨Or.inl q_11_171, i_X8_at.1, i_X8_at.2⟩ ⟨by decide, rfl⟩ (congrArg Prod.fst (J.1.1 59 (8, 4) rfl)) rfl (by decide) rfl rfl ⟨by decide, by decide⟩ (sf_X8_at_r59_c3 (jr_of rfl (by omega)) hD J  (fun v9 h J S8 => ?_))
      have ev9 := jfull v9
      have Sm := jSm_tr rfl Sm S8
      show jX m_X11_balanceOf 4 0 0 49 [(5, .int v3), (4, .int 0), (0, .ref 31), (1, .int a1), (2, .int a2), (3, .int a3)] [.int v9] _ 0 0 _
      refine x_istore (ls' := [(4, .int v9), (5, .int v3), (0, .ref 31), (1, .int a1), (2, .int a2), (3, .int a3)]) rfl rfl rfl ?_
      exact jX.sub (jsb_c rfl (jsb_c rfl (jsb_c rfl (jsb_c rfl (jsb_c rfl jsb_n))))) (ct_X11_balanceOf_r31_51 hD hQ  a1 a2 a3 v9 h (jr_of rfl (by omega)) (jr_of rfl (by omega)) (jr_of rfl (by omega)) J Sm)
def fp_X11_balance_r31 : jFp := []
set_option maxRecDepth 100000 in
set_option maxHeartbeats 4000000 in
theorem ct_X11_balance_r31_21 {Dy : jH → Prop} {h0 : jH} {Q : Option Value → jH → Prop} (hD : jDk Dy) (hQ : ∀ (v : Int32) h', jJ jSgX Dy h' → jSm fp_X11_balance_r31 h0 h' → Q (some (.int v)) h') : ∀ (h : jH), jJ jSgX Dy h → jSm fp_X11_balance_r31 h0 h → jX m_X11_balance 5 0 0 21 [] [] h 0 0 Q := by
  intro  h    J Sm
  refine x_ldcw (v := (-2000000000)) rfl z_11_455 ?_
  refine x_iret rfl rfl ?_
  exact hQ _ _ J Sm
set_option maxRecDepth 100000 in
set_option maxHeartbeats 4000000 in
theorem sf_X11_balance_r31 {Dy : jH → Prop} {h : jH} {Q : Option Value → jH → Prop} {a1 : Int32} {a2 : Int32} {a3 : Int32} (hD : jDk Dy) (J : jJ jSgX Dy h) (hQ : ∀ (v : Int32) h', jJ jSgX Dy h' → jSm fp_X11_balance_r31 h h' → Q (some (.int v)) h') : jC m_X11_balance 5 0 0 [.ref 31, .int a1, .int a2, .int a3] h Q := by
  refine jC.of rfl k_X11_balance rfl ?_
  have Sm := jSm_rf fp_X11_balance_r31 h
  have ea1 := jfull a1
  have ea2 := jfull a2
  have ea3 := jfull a3
  show jX m_X11_balance 5 0 0 0 [(0, .ref 31), (1, .int a1), (2, .int a2), (3, .int a3)] [] _ 0 0 _
  refine x_iloadn (x := a1) rfl rfl ?_
  refine x_inst (N := m_X11_isOffice) (As := [.int a1]) (st := []) (d' := 1) (mc := 0) (ms := 0) (host := "") rfl t_X11_isOffice ⟨Or.inl q_11_456, s_X11_isOffice⟩ rfl (by decide) rfl rfl ⟨by decide, by decide⟩ (zc_X11_isOffice rfl (fun v1 ev1 => ?_))
  show jX m_X11_balance 5 0 0 4 [(0, .ref 31), (1, .int a1), (2, .int a2), (3, .int a3)] [.int v1] _ 0 0 _
  refine x_ifeq (tgt := 21) rfl rfl (ti_eq rfl jk_0 ⟨fun c2 => ?_, fun c2 => ?_⟩)
  ·
    exact jX.sub jsb_n (ct_X11_balance_r31_21 hD hQ  h J Sm)
  ·
    refine x_iloadn (x := a2) rfl rfl ?_
    refine x_inst (N := m_X11_isYear) (As := [.int a2]) (st := []) (d' := 1) (mc := 0) (ms := 0) (host := "") rfl t_X11_isYear ⟨Or.inl q_11_433, s_X11_isYear⟩ rfl (by decide) rfl rfl ⟨by decide, by decide⟩ (zc_X11_isYear rfl (fun v3 ev3 => ?_))
    show jX m_X11_balance 5 0 0 11 [(0, .ref 31), (1, .int a1), (2, .int a2), (3, .int a3)] [.int v3] _ 0 0 _
    refine x_ifeq (tgt := 21) rfl rfl (ti_eq rfl jk_0 ⟨fun c4 => ?_, fun c4 => ?_⟩)
    ·
      exact jX.sub jsb_n (ct_X11_balance_r31_21 hD hQ  h J Sm)
    ·
      refine x_iloadn (x := a3) rfl rfl ?_
      refine x_inst (N := m_X11_isDay) (As := [.int a3]) (st := []) (d' := 1) (mc := 0) (ms := 0) (host := "") rfl t_X11_isDay ⟨Or.inl q_11_115, s_X11_isDay⟩ rfl (by decide) rfl rfl ⟨by decide, by decide⟩ (zc_X11_isDay rfl (fun v5 ev5 => ?_))
      show jX m_X11_balance 5 0 0 18 [(0, .ref 31), (1, .int a1), (2, .int a2), (3, .int a3)] [.int v5] _ 0 0 _
      refine x_ifne (tgt := 25) rfl rfl (ti_ne rfl jk_0 ⟨fun c6 => ?_, fun c6 => ?_⟩)
      ·
        refine x_aloadn (x := 31) rfl rfl ?_
        refine x_iloadn (x := a1) rfl rfl ?_
        refine x_iloadn (x := a2) rfl rfl ?_
        refine x_iloadn (x := a3) rfl rfl ?_
        refine x_inv (N := m_X11_balanceOf) (As := [.int a1, .int a2, .int a3]) (b := 31) (st := []) (d' := 4) (mc := 0) (ms := 0) (host := "") 11 rfl t_X11_balanceOf ⟨Or.inl q_11_479, i_X11_balanceOf.1, i_X11_balanceOf.2⟩ ⟨by decide, rfl⟩ (congrArg Prod.fst (J.1.1 31 (11, 13) rfl)) rfl (by decide) rfl rfl ⟨by decide, by decide⟩ (sf_X11_balanceOf_r31 (jr_of rfl (by omega)) (jr_of rfl (by omega)) (jr_of rfl (by omega)) hD J  (fun v8 h J S7 => ?_))
        have ev8 := jfull v8
        have Sm := jSm_tr rfl Sm S7
        show jX m_X11_balance 5 0 0 32 [(0, .ref 31), (1, .int a1), (2, .int a2), (3, .int a3)] [.int v8] _ 0 0 _
        refine x_iret rfl rfl ?_
        exact hQ _ _ J Sm
      ·
        exact jX.sub jsb_n (ct_X11_balance_r31_21 hD hQ  h J Sm)
def fp_X6_belongs_r120 : jFp := [(98, 10, 11), (98, 11, 12), (101, 0, 3), (102, 0, 40), (103, 0, 40), (104, 0, 40), (105, 0, 3), (120, 6, 7), (120, 7, 8)]
set_option maxRecDepth 100000 in
set_option maxHeartbeats 4000000 in
theorem ct_X6_belongs_r120_238 {Dy : jH → Prop} {h0 : jH} {Q : Option Value → jH → Prop} (hD : jDk Dy) (hQ : ∀ (v : Int32) h', (-1) ≤ v.toInt ∧ v.toInt ≤ (-1) → jJ jSgX Dy h' → jSm fp_X6_belongs_r120 h0 h' → Q (some (.int v)) h') : ∀ r : Nat, ∀ (l1 : Int32) (l2 : Int32) (l3 : Int32) (l4 : Int32) (l5 : Int32) (l6 : Int32) (l7 : Int32) (h : jH), 0 - l7.toInt < (r : Int) → 0 ≤ l1.toInt ∧ l1.toInt ≤ 599 → 0 ≤ l2.toInt ∧ l2.toInt ≤ 146399 → 0 ≤ l3.toInt ∧ l3.toInt ≤ 0 → 0 ≤ l4.toInt ∧ l4.toInt ≤ 0 → 0 ≤ l5.toInt ∧ l5.toInt ≤ 0 → 0 ≤ l6.toInt ∧ l6.toInt ≤ 0 → 0 ≤ l7.toInt ∧ l7.toInt ≤ 0 → jJ jSgX Dy h → jSm fp_X6_belongs_r120 h0 h → jX m_X6_belongs 5 0 0 238 [(0, .ref 120), (1, .int l1), (2, .int l2), (3, .int l3), (4, .int l4), (5, .int l5), (6, .int l6), (7, .int l7)] [] h 0 0 Q := by
  intro r
  induction r with
  | zero =>
    intro l1 l2 l3 l4 l5 l6 l7 h hm y0 y1 y2 y3 y4 y5 y6   J Sm
    exfalso
    omega
  | succ r ih =>
    intro l1 l2 l3 l4 l5 l6 l7 h hm y0 y1 y2 y3 y4 y5 y6   J Sm
    refine x_iload (x := l7) rfl rfl ?_
    refine x_iload (x := l5) rfl rfl ?_
    refine x_icge (tgt := 298) rfl rfl (ti_ge rfl rfl (br_t (by omega) ?_))
    refine x_aloadn (x := 120) rfl rfl ?_
    refine x_iconst (v := (-1)) rfl ki_m1 ?_
    refine z_putI (N := 8) (w := (-1)) 6 6 rfl f_6_22 rfl (jfin_no TX6 RX6 8 rfl rfl) hD J Sm rfl rfl jk_m1 (pw_120_6 (by omega)) rfl (fun h w1 J Sm => ?_)
    refine x_aloadn (x := 120) rfl rfl ?_
    refine x_iload (x := l6) rfl rfl ?_
    refine z_putI (N := 8) (w := l6.toInt) 6 7 rfl f_6_25 rfl (jfin_no TX6 RX6 8 rfl rfl) hD J Sm rfl rfl rfl (pw_120_7 (by omega)) rfl (fun h w2 J Sm => ?_)
    refine x_iconst (v := (-1)) rfl ki_m1 ?_
    refine x_iret rfl rfl ?_
    exact hQ _ _ (jr_of jk_m1 (by omega)) J Sm
set_option maxRecDepth 100000 in
set_option maxHeartbeats 4000000 in
theorem ct_X6_belongs_r120_63 {Dy : jH → Prop} {h0 : jH} {Q : Option Value → jH → Prop} {R54 : Int} (hD : jDk Dy) (hQ : ∀ (v : Int32) h', (-1) ≤ v.toInt ∧ v.toInt ≤ (-1) → jJ jSgX Dy h' → jSm fp_X6_belongs_r120 h0 h' → Q (some (.int v)) h') (k54 : ∀ (l1 : Int32) (l2 : Int32) (l3 : Int32) (l4 : Int32) (l5 : Int32) (l6 : Int32) (l7 : Int32) (h : jH), 2 - l7.toInt < R54 → 0 ≤ l1.toInt ∧ l1.toInt ≤ 599 → 0 ≤ l2.toInt ∧ l2.toInt ≤ 146399 → 0 ≤ l3.toInt ∧ l3.toInt ≤ 0 → 0 ≤ l4.toInt ∧ l4.toInt ≤ 0 → 0 ≤ l5.toInt ∧ l5.toInt ≤ 0 → 0 ≤ l6.toInt ∧ l6.toInt ≤ 0 → 0 ≤ l7.toInt ∧ l7.toInt ≤ 2 → jJ jSgX Dy h → jSm fp_X6_belongs_r120 h0 h → jX m_X6_belongs 5 0 0 54 [(0, .ref 120), (1, .int l1), (2, .int l2), (3, .int l3), (4, .int l4), (5, .int l5), (6, .int l6), (7, .int l7)] [] h 0 0 Q) : ∀ r : Nat, ∀ (l1 : Int32) (l2 : Int32) (l3 : Int32) (l4 : Int32) (l5 : Int32) (l6 : Int32) (l7 : Int32) (l8 : Int32) (h : jH), 0 - l5.toInt < (r : Int) → 0 ≤ l1.toInt ∧ l1.toInt ≤ 599 → 0 ≤ l2.toInt ∧ l2.toInt ≤ 146399 → 0 ≤ l3.toInt ∧ l3.toInt ≤ 0 → 0 ≤ l4.toInt ∧ l4.toInt ≤ 0 → 0 ≤ l5.toInt ∧ l5.toInt ≤ 0 → 0 ≤ l6.toInt ∧ l6.toInt ≤ 0 → 0 ≤ l7.toInt ∧ l7.toInt ≤ 1 → 0 ≤ l8.toInt ∧ l8.toInt ≤ 0 → 2 - l7.toInt ≤ R54 → jJ jSgX Dy h → jSm fp_X6_belongs_r120 h0 h → jX m_X6_belongs 5 0 0 63 [(0, .ref 120), (1, .int l1), (2, .int l2), (3, .int l3), (4, .int l4), (5, .int l5), (6, .int l6), (7, .int l7), (8, .int l8)] [] h 0 0 Q := by
  intro r
  induction r with
  | zero =>
    intro l1 l2 l3 l4 l5 l6 l7 l8 h hm y0 y1 y2 y3 y4 y5 y6 y7  m54 J Sm
    exfalso
    omega
  | succ r ih =>
    intro l1 l2 l3 l4 l5 l6 l7 l8 h hm y0 y1 y2 y3 y4 y5 y6 y7  m54 J Sm
    refine x_iload (x := l8) rfl rfl ?_
    refine x_aloadn (x := 120) rfl rfl ?_
    refine z_getR (N := 8) (b := 32) 6 0 rfl f_6_28 rfl J rfl 15360 ⟨rfl, rfl⟩ rfl ?_
    refine z_getI (N := 20) 1 18 rfl f_6_46 rfl J rfl sg_32_18_19_1_0_1 (fun v1 qv1 ev1 => ?_)
    refine x_icge (tgt := 229) rfl rfl (ti_ge rfl rfl (br_t (by omega) ?_))
    refine z_iinc (x := l7) (ls' := fun v2 => [(7, .int v2), (0, .ref 120), (1, .int l1), (2, .int l2), (3, .int l3), (4, .int l4), (5, .int l5), (6, .int l6), (8, .int l8)]) rfl rfl rfl jko_1 (by omega) rfl (fun _ => rfl) (fun v2 ev2 => ?_)
    refine x_goto (tgt := 54) rfl rfl ?_
    exact jX.sub (jsb_c rfl (jsb_c rfl (jsb_c rfl (jsb_c rfl (jsb_c rfl (jsb_c rfl (jsb_c rfl (jsb_c rfl jsb_n)))))))) (k54 l1 l2 l3 l4 l5 l6 v2 h (by omega) (jr_of rfl (by omega)) (jr_of rfl (by omega)) (jr_of rfl (by omega)) (jr_of rfl (by omega)) (jr_of rfl (by omega)) (jr_of rfl (by omega)) (jr_of rfl (by omega)) J Sm)
set_option maxRecDepth 100000 in
set_option maxHeartbeats 4000000 in
theorem ct_X6_belongs_r120_54 {Dy : jH → Prop} {h0 : jH} {Q : Option Value → jH → Prop} (hD : jDk Dy) (hQ : ∀ (v : Int32) h', (-1) ≤ v.toInt ∧ v.toInt ≤ (-1) → jJ jSgX Dy h' → jSm fp_X6_belongs_r120 h0 h' → Q (some (.int v)) h') : ∀ r : Nat, ∀ (l1 : Int32) (l2 : Int32) (l3 : Int32) (l4 : Int32) (l5 : Int32) (l6 : Int32) (l7 : Int32) (h : jH), 2 - l7.toInt < (r : Int) → 0 ≤ l1.toInt ∧ l1.toInt ≤ 599 → 0 ≤ l2.toInt ∧ l2.toInt ≤ 146399 → 0 ≤ l3.toInt ∧ l3.toInt ≤ 0 → 0 ≤ l4.toInt ∧ l4.toInt ≤ 0 → 0 ≤ l5.toInt ∧ l5.toInt ≤ 0 → 0 ≤ l6.toInt ∧ l6.toInt ≤ 0 → 0 ≤ l7.toInt ∧ l7.toInt ≤ 2 → jJ jSgX Dy h → jSm fp_X6_belongs_r120 h0 h → jX m_X6_belongs 5 0 0 54 [(0, .ref 120), (1, .int l1), (2, .int l2), (3, .int l3), (4, .int l4), (5, .int l5), (6, .int l6), (7, .int l7)] [] h 0 0 Q := by
  intro r
  induction r with
  | zero =>
    intro l1 l2 l3 l4 l5 l6 l7 h hm y0 y1 y2 y3 y4 y5 y6   J Sm
    exfalso
    omega
  | succ r ih =>
    intro l1 l2 l3 l4 l5 l6 l7 h hm y0 y1 y2 y3 y4 y5 y6   J Sm
    refine x_iload (x := l7) rfl rfl ?_
    refine x_iconst (v := 2) rfl ki_2 ?_
    refine x_icge (tgt := 235) rfl rfl (ti_ge rfl jk_2 ⟨fun c1 => ?_, fun c1 => ?_⟩)
    ·
      refine x_iconst (v := 0) rfl ki_0 ?_
      refine x_istore (ls' := [(7, .int 0), (0, .ref 120), (1, .int l1), (2, .int l2), (3, .int l3), (4, .int l4), (5, .int l5), (6, .int l6)]) rfl rfl rfl ?_
      exact jX.sub (jsb_c rfl (jsb_c rfl (jsb_c rfl (jsb_c rfl (jsb_c rfl (jsb_c rfl (jsb_c rfl (jsb_c rfl jsb_n)))))))) (ct_X6_belongs_r120_238 hD hQ  1 l1 l2 l3 l4 l5 l6 0 h (by have := jk_0; omega) (jr_of rfl (by omega)) (jr_of rfl (by omega)) (jr_of rfl (by omega)) (jr_of rfl (by omega)) (jr_of rfl (by omega)) (jr_of rfl (by omega)) (jr_of jk_0 (by omega)) J Sm)
    ·
      refine x_iconst (v := 0) rfl ki_0 ?_
      refine x_istore (ls' := [(8, .int 0), (0, .ref 120), (1, .int l1), (2, .int l2), (3, .int l3), (4, .int l4), (5, .int l5), (6, .int l6), (7, .int l7)]) rfl rfl rfl ?_
      exact jX.sub (jsb_c rfl (jsb_c rfl (jsb_c rfl (jsb_c rfl (jsb_c rfl (jsb_c rfl (jsb_c rfl (jsb_c rfl (jsb_c rfl jsb_n))))))))) (ct_X6_belongs_r120_63 hD hQ ih 1 l1 l2 l3 l4 l5 l6 l7 0 h (by omega) (jr_of rfl (by omega)) (jr_of rfl (by omega)) (jr_of rfl (by omega)) (jr_of rfl (by omega)) (jr_of rfl (by omega)) (jr_of rfl (by omega)) (jr_of rfl (by omega)) (jr_of jk_0 (by omega)) (by omega) J Sm)
set_option maxRecDepth 100000 in
set_option maxHeartbeats 4000000 in
theorem sf_X6_belongs_r120 {Dy : jH → Prop} {h : jH} {Q : Option Value → jH → Prop} {a1 : Int32} {a2 : Int32} {a3 : Int32} (y1 : 0 ≤ a1.toInt ∧ a1.toInt ≤ 599) (y2 : 0 ≤ a2.toInt ∧ a2.toInt ≤ 146399) (y3 : 0 ≤ a3.toInt ∧ a3.toInt ≤ 0) (hD : jDk Dy) (J : jJ jSgX Dy h) (hQ : ∀ (v : Int32) h', (-1) ≤ v.toInt ∧ v.toInt ≤ (-1) → jJ jSgX Dy h' → jSm fp_X6_belongs_r120 h h' → Q (some (.int v)) h') : jC m_X6_belongs 5 0 0 [.ref 120, .int a1, .int a2, .int a3] h Q := by
  refine jC.of rfl k_X6_belongs rfl ?_
  have Sm := jSm_rf fp_X6_belongs_r120 h
  show jX m_X6_belongs 5 0 0 0 [(0, .ref 120), (1, .int a1), (2, .int a2), (3, .int a3)] [] _ 0 0 _
  refine x_aloadn (x := 120) rfl rfl ?_
  refine x_iconst (v := (-1)) rfl ki_m1 ?_
  refine z_putI (N := 8) (w := (-1)) 6 6 rfl f_6_22 rfl (jfin_no TX6 RX6 8 rfl rfl) hD J Sm rfl rfl jk_m1 (pw_120_6 (by omega)) rfl (fun h w1 J Sm => ?_)
  refine x_aloadn (x := 120) rfl rfl ?_
  refine x_iconst (v := 0) rfl ki_0 ?_
  refine z_putI (N := 8) (w := 0) 6 7 rfl f_6_25 rfl (jfin_no TX6 RX6 8 rfl rfl) hD J Sm rfl rfl jk_0 (pw_120_7 (by omega)) rfl (fun h w2 J Sm => ?_)
  refine x_iloadn (x := a1) rfl rfl ?_
  refine x_iconst (v := (-1)) rfl ki_m1 ?_
  refine x_iceq (tgt := 25) rfl rfl (ti_eq rfl jk_m1 (br_f (by omega) ?_))
  refine x_iloadn (x := a3) rfl rfl ?_
  refine x_iflt (tgt := 25) rfl rfl (ti_lt rfl jk_0 (br_f (by omega) ?_))
  refine x_iloadn (x := a3) rfl rfl ?_
  refine x_bipush (v := 6) rfl kb_6 ?_
  refine x_icle (tgt := 27) rfl rfl (ti_le rfl jk_6 (br_t (by omega) ?_))
  refine x_aloadn (x := 120) rfl rfl ?_
  refine z_getR (N := 8) (b := 98) 6 2 rfl f_6_36 rfl J rfl 15362 ⟨rfl, rfl⟩ rfl ?_
  refine x_iloadn (x := a2) rfl rfl ?_
  refine x_aloadn (x := 120) rfl rfl ?_
  refine z_getI (N := 8) 6 5 rfl f_6_18 rfl J rfl sg_120_5_6_1_0_1 (fun v3 qv3 ev3 => ?_)
  refine x_inv (N := m_X0_turnTo) (As := [.int a2, .int v3]) (b := 98) (st := []) (d' := 4) (mc := 0) (ms := 0) (host := "") 0 rfl t_X0_turnTo ⟨Or.inl q_6_40, i_X0_turnTo.1, i_X0_turnTo.2⟩ ⟨by decide, rfl⟩ (congrArg Prod.fst (J.1.1 98 (0, 16) rfl)) rfl (by decide) rfl rfl ⟨by decide, by decide⟩ (jC.of rfl k_X0_turnTo rfl ?_)
  show jX m_X0_turnTo 4 0 0 0 [(0, .ref 98), (1, .int a2), (2, .int v3)] [] _ 0 0 _
  refine x_aloadn (x := 98) rfl rfl ?_
  refine x_iloadn (x := a2) rfl rfl ?_
  refine x_iloadn (x := v3) rfl rfl ?_
  refine x_inv (N := m_X0_readLaws) (As := [.int a2, .int v3]) (b := 98) (st := []) (d' := 2) (mc := 0) (ms := 0) (host := "") 0 rfl t_X0_readLaws ⟨Or.inl q_0_65, i_X0_readLaws.1, i_X0_readLaws.2⟩ ⟨by decide, rfl⟩ (congrArg Prod.fst (J.1.1 98 (0, 16) rfl)) rfl (by decide) rfl rfl ⟨by decide, by decide⟩ (sf_X0_readLaws_r98 (jr_of rfl (by omega)) (jr_of rfl (by omega)) hD J  (fun h J S4 => ?_))
  have Sm := jSm_tr rfl Sm S4
  show jX m_X0_turnTo 4 0 0 6 [(0, .ref 98), (1, .int a2), (2, .int v3)] [] _ 0 0 _
  refine x_aloadn (x := 98) rfl rfl ?_
  refine x_iloadn (x := a2) rfl rfl ?_
  refine x_iloadn (x := v3) rfl rfl ?_
  refine x_inv (N := m_X0_readHouses) (As := [.int a2, .int v3]) (b := 98) (st := []) (d' := 3) (mc := 0) (ms := 0) (host := "") 0 rfl t_X0_readHouses ⟨Or.inl q_0_69, i_X0_readHouses.1, i_X0_readHouses.2⟩ ⟨by decide, rfl⟩ (congrArg Prod.fst (J.1.1 98 (0, 16) rfl)) rfl (by decide) rfl rfl ⟨by decide, by decide⟩ (sf_X0_readHouses_r98 (jr_of rfl (by omega)) (jr_of rfl (by omega)) hD J  (fun h J S5 => ?_))
  have Sm := jSm_tr rfl Sm S5
  show jX m_X0_turnTo 4 0 0 12 [(0, .ref 98), (1, .int a2), (2, .int v3)] [] _ 0 0 _
  refine x_vret rfl rfl ?_
  show jX m_X6_belongs 5 0 0 39 [(0, .ref 120), (1, .int a1), (2, .int a2), (3, .int a3)] [] _ 0 0 _
  refine x_iloadn (x := a3) rfl rfl ?_
  refine x_bipush (v := 6) rfl kb_6 ?_
  refine z_imul rfl rfl jk_6 (by omega) (fun v6 ev6 => ?_)
  refine x_istore (ls' := [(4, .int v6), (0, .ref 120), (1, .int a1), (2, .int a2), (3, .int a3)]) rfl rfl rfl ?_
  refine x_iconst (v := 0) rfl ki_0 ?_
  refine x_istore (ls' := [(5, .int 0), (4, .int v6), (0, .ref 120), (1, .int a1), (2, .int a2), (3, .int a3)]) rfl rfl rfl ?_
  refine x_iconst (v := 0) rfl ki_0 ?_
  refine x_istore (ls' := [(6, .int 0), (5, .int 0), (4, .int v6), (0, .ref 120), (1, .int a1), (2, .int a2), (3, .int a3)]) rfl rfl rfl ?_
  refine x_iconst (v := 0) rfl ki_0 ?_
  refine x_istore (ls' := [(7, .int 0), (6, .int 0), (5, .int 0), (4, .int v6), (0, .ref 120), (1, .int a1), (2, .int a2), (3, .int a3)]) rfl rfl rfl ?_
  exact jX.sub (jsb_c rfl (jsb_c rfl (jsb_c rfl (jsb_c rfl (jsb_c rfl (jsb_c rfl (jsb_c rfl (jsb_c rfl jsb_n)))))))) (ct_X6_belongs_r120_54 hD hQ  3 a1 a2 a3 v6 0 0 0 h (by have := jk_0; omega) (jr_of rfl (by omega)) (jr_of rfl (by omega)) (jr_of rfl (by omega)) (jr_of rfl (by omega)) (jr_of jk_0 (by omega)) (jr_of jk_0 (by omega)) (jr_of jk_0 (by omega)) J Sm)
def fp_X11_belong_r31 : jFp := [(78, 13, 14), (82, 0, 600), (83, 0, 600), (84, 0, 200), (86, 0, 3), (98, 10, 11), (98, 11, 12), (101, 0, 3), (102, 0, 40), (103, 0, 40), (104, 0, 40), (105, 0, 3), (120, 5, 6), (120, 6, 7), (120, 7, 8)]
set_option maxRecDepth 100000 in
set_option maxHeartbeats 4000000 in
theorem ct_X11_belong_r31_18 {Dy : jH → Prop} {h0 : jH} {Q : Option Value → jH → Prop} (hD : jDk Dy) (hQ : ∀ (v : Int32) h', (-1) ≤ v.toInt ∧ v.toInt ≤ 0 → jJ jSgX Dy h' → jSm fp_X11_belong_r31 h0 h' → Q (some (.int v)) h') : ∀ (h : jH), jJ jSgX Dy h → jSm fp_X11_belong_r31 h0 h → jX m_X11_belong 8 0 0 18 [] [] h 0 0 Q := by
  intro  h    J Sm
  refine x_iconst (v := (-1)) rfl ki_m1 ?_
  refine x_iret rfl rfl ?_
  exact hQ _ _ (jr_of jk_m1 (by omega)) J Sm
set_option maxRecDepth 100000 in
set_option maxHeartbeats 4000000 in
theorem ct_X11_belong_r31_88 {Dy : jH → Prop} {h0 : jH} {Q : Option Value → jH → Prop} (hD : jDk Dy) (hQ : ∀ (v : Int32) h', (-1) ≤ v.toInt ∧ v.toInt ≤ 0 → jJ jSgX Dy h' → jSm fp_X11_belong_r31 h0 h' → Q (some (.int v)) h') : ∀ (s0 : Int32) (h : jH), (-1) ≤ s0.toInt ∧ s0.toInt ≤ 0 → jJ jSgX Dy h → jSm fp_X11_belong_r31 h0 h → jX m_X11_belong 8 0 0 88 [] [.int s0] h 0 0 Q := by
  intro s0 h y0   J Sm
  refine x_iret rfl rfl ?_
  exact hQ _ _ (jr_of rfl (by omega)) J Sm
set_option maxRecDepth 100000 in
set_option maxHeartbeats 4000000 in
theorem sf_X11_belong_r31 {Dy : jH → Prop} {h : jH} {Q : Option Value → jH → Prop} {a1 : Int32} {a2 : Int32} {a3 : Int32} {a4 : Int32} (hD : jDk Dy) (J : jJ jSgX Dy h) (hQ : ∀ (v : Int32) h', (-1) ≤ v.toInt ∧ v.toInt ≤ 0 → jJ jSgX Dy h' → jSm fp_X11_belong_r31 h h' → Q (some (.int v)) h') : jC m_X11_belong 8 0 0 [.ref 31, .int a1, .int a2, .int a3, .int a4] h Q := by
  refine jC.of rfl k_X11_belong rfl ?_
  have Sm := jSm_rf fp_X11_belong_r31 h
  have ea1 := jfull a1
  have ea2 := jfull a2
  have ea3 := jfull a3
  have ea4 := jfull a4
  show jX m_X11_belong 8 0 0 0 [(0, .ref 31), (1, .int a1), (2, .int a2), (3, .int a3), (4, .int a4)] [] _ 0 0 _
  refine x_iloadn (x := a2) rfl rfl ?_
  refine x_inst (N := m_X11_isDay) (As := [.int a2]) (st := []) (d' := 1) (mc := 0) (ms := 0) (host := "") rfl t_X11_isDay ⟨Or.inl q_11_115, s_X11_isDay⟩ rfl (by decide) rfl rfl ⟨by decide, by decide⟩ (zc_X11_isDay rfl (fun v1 ev1 => ?_))
  show jX m_X11_belong 8 0 0 4 [(0, .ref 31), (1, .int a1), (2, .int a2), (3, .int a3), (4, .int a4)] [.int v1] _ 0 0 _
  refine x_ifeq (tgt := 18) rfl rfl (ti_eq rfl jk_0 ⟨fun c2 => ?_, fun c2 => ?_⟩)
  ·
    exact jX.sub jsb_n (ct_X11_belong_r31_18 hD hQ  h J Sm)
  ·
    refine x_iload (x := a4) rfl rfl ?_
    refine x_iflt (tgt := 18) rfl rfl (ti_lt rfl jk_0 ⟨fun c3 => ?_, fun c3 => ?_⟩)
    ·
      exact jX.sub jsb_n (ct_X11_belong_r31_18 hD hQ  h J Sm)
    ·
      refine x_iload (x := a4) rfl rfl ?_
      refine x_iconst (v := 2) rfl ki_2 ?_
      refine x_icle (tgt := 20) rfl rfl (ti_le rfl jk_2 ⟨fun c4 => ?_, fun c4 => ?_⟩)
      ·
        refine x_aloadn (x := 31) rfl rfl ?_
        refine x_iloadn (x := a1) rfl rfl ?_
        refine x_iloadn (x := a3) rfl rfl ?_
        refine x_inv (N := m_X11_soulOn) (As := [.int a1, .int a3]) (b := 31) (st := []) (d' := 7) (mc := 0) (ms := 0) (host := "") 11 rfl t_X11_soulOn ⟨Or.inl q_11_234, i_X11_soulOn.1, i_X11_soulOn.2⟩ ⟨by decide, rfl⟩ (congrArg Prod.fst (J.1.1 31 (11, 13) rfl)) rfl (by decide) rfl rfl ⟨by decide, by decide⟩ (jC.of rfl k_X11_soulOn rfl ?_)
        show jX m_X11_soulOn 7 0 0 0 [(0, .ref 31), (1, .int a1), (2, .int a3)] [] _ 0 0 _
        refine x_iloadn (x := a3) rfl rfl ?_
        refine x_inst (N := m_X11_isDay) (As := [.int a3]) (st := []) (d' := 1) (mc := 0) (ms := 0) (host := "") rfl t_X11_isDay ⟨Or.inl q_11_115, s_X11_isDay⟩ rfl (by decide) rfl rfl ⟨by decide, by decide⟩ (zc_X11_isDay rfl (fun v5 ev5 => ?_))
        show jX m_X11_soulOn 7 0 0 4 [(0, .ref 31), (1, .int a1), (2, .int a3)] [.int v5] _ 0 0 _
        refine x_ifeq (tgt := 18) rfl rfl (ti_eq rfl jk_0 ⟨fun c6 => ?_, fun c6 => ?_⟩)
        ·
          refine x_iconst (v := (-1)) rfl ki_m1 ?_
          refine x_iret rfl rfl ?_
          show jX m_X11_belong 8 0 0 26 [(0, .ref 31), (1, .int a1), (2, .int a2), (3, .int a3), (4, .int a4)] [.int (-1)] _ 0 0 _
          refine x_istore (ls' := [(5, .int (-1)), (0, .ref 31), (1, .int a1), (2, .int a2), (3, .int a3), (4, .int a4)]) rfl rfl rfl ?_
          refine x_iload (x := (-1)) rfl rfl ?_
          refine x_iconst (v := (-1)) rfl ki_m1 ?_
          refine x_icne (tgt := 36) rfl rfl (ti_ne jk_m1 jk_m1 (bn_f (by omega) ?_))
          refine x_iconst (v := (-1)) rfl ki_m1 ?_
          refine x_iret rfl rfl ?_
          exact hQ _ _ (jr_of jk_m1 (by omega)) J Sm
        ·
          refine x_aloadn (x := 31) rfl rfl ?_
          refine z_getR (N := 13) (b := 78) 11 4 rfl f_11_41 rfl J rfl 3972 ⟨rfl, rfl⟩ rfl ?_
          refine x_iloadn (x := a1) rfl rfl ?_
          refine x_inv (N := m_X7_isMention) (As := [.int a1]) (b := 78) (st := []) (d' := 6) (mc := 0) (ms := 0) (host := "") 7 rfl t_X7_isMention ⟨Or.inl q_11_187, i_X7_isMention.1, i_X7_isMention.2⟩ ⟨by decide, rfl⟩ (congrArg Prod.fst (J.1.1 78 (7, 16) rfl)) rfl (by decide) rfl rfl ⟨by decide, by decide⟩ (jC.of rfl k_X7_isMention rfl ?_)
          show jX m_X7_isMention 6 0 0 0 [(0, .ref 78), (1, .int a1)] [] _ 0 0 _
          refine x_iloadn (x := a1) rfl rfl ?_
          refine x_iflt (tgt := 41) rfl rfl (ti_lt rfl jk_0 ⟨fun c7 => ?_, fun c7 => ?_⟩)
          ·
            refine x_iconst (v := 0) rfl ki_0 ?_
            refine x_zret rfl rfl (by decide) ?_
            show jX m_X11_soulOn 7 0 0 15 [(0, .ref 31), (1, .int a1), (2, .int a3)] [.int 0] _ 0 0 _
            refine x_ifne (tgt := 20) rfl rfl (ti_ne jk_0 jk_0 (bn_f (by omega) ?_))
            refine x_iconst (v := (-1)) rfl ki_m1 ?_
            refine x_iret rfl rfl ?_
            show jX m_X11_belong 8 0 0 26 [(0, .ref 31), (1, .int a1), (2, .int a2), (3, .int a3), (4, .int a4)] [.int (-1)] _ 0 0 _
            refine x_istore (ls' := [(5, .int (-1)), (0, .ref 31), (1, .int a1), (2, .int a2), (3, .int a3), (4, .int a4)]) rfl rfl rfl ?_
            refine x_iload (x := (-1)) rfl rfl ?_
            refine x_iconst (v := (-1)) rfl ki_m1 ?_
            refine x_icne (tgt := 36) rfl rfl (ti_ne jk_m1 jk_m1 (bn_f (by omega) ?_))
            refine x_iconst (v := (-1)) rfl ki_m1 ?_
            refine x_iret rfl rfl ?_
            exact hQ _ _ (jr_of jk_m1 (by omega)) J Sm
          ·
            refine x_iloadn (x := a1) rfl rfl ?_
            refine x_sipush (v := 600) rfl ks_600 ?_
            refine x_icge (tgt := 41) rfl rfl (ti_ge rfl jk_600 ⟨fun c8 => ?_, fun c8 => ?_⟩)
            ·
              refine x_iconst (v := 0) rfl ki_0 ?_
              refine x_zret rfl rfl (by decide) ?_
              show jX m_X11_soulOn 7 0 0 15 [(0, .ref 31), (1, .int a1), (2, .int a3)] [.int 0] _ 0 0 _
              refine x_ifne (tgt := 20) rfl rfl (ti_ne jk_0 jk_0 (bn_f (by omega) ?_))
              refine x_iconst (v := (-1)) rfl ki_m1 ?_
              refine x_iret rfl rfl ?_
              show jX m_X11_belong 8 0 0 26 [(0, .ref 31), (1, .int a1), (2, .int a2), (3, .int a3), (4, .int a4)] [.int (-1)] _ 0 0 _
              refine x_istore (ls' := [(5, .int (-1)), (0, .ref 31), (1, .int a1), (2, .int a2), (3, .int a3), (4, .int a4)]) rfl rfl rfl ?_
              refine x_iload (x := (-1)) rfl rfl ?_
              refine x_iconst (v := (-1)) rfl ki_m1 ?_
              refine x_icne (tgt := 36) rfl rfl (ti_ne jk_m1 jk_m1 (bn_f (by omega) ?_))
              refine x_iconst (v := (-1)) rfl ki_m1 ?_
              refine x_iret rfl rfl ?_
              exact hQ _ _ (jr_of jk_m1 (by omega)) J Sm
            ·
              refine x_iloadn (x := a1) rfl rfl ?_
              refine x_iconst (v := 3) rfl ki_3 ?_
              refine z_idiv rfl rfl jk_3 (by omega) (by omega) (fun v9 ev9 => ?_)
              refine x_aloadn (x := 78) rfl rfl ?_
              refine z_getR (N := 16) (b := 32) 7 0 rfl f_7_55 rfl J rfl 9984 ⟨rfl, rfl⟩ rfl ?_
              refine z_getR (N := 20) (b := 33) 1 0 rfl f_7_63 rfl J rfl 4096 ⟨rfl, rfl⟩ rfl ?_
              refine z_getI (N := 4) 8 3 rfl f_7_85 rfl J rfl sg_33_3_4_1_0_1 (fun v10 qv10 ev10 => ?_)
              refine x_icge (tgt := 41) rfl rfl (ti_ge rfl rfl ⟨fun c11 => ?_, fun c11 => ?_⟩)
              ·
                refine x_iconst (v := 0) rfl ki_0 ?_
                refine x_zret rfl rfl (by decide) ?_
                show jX m_X11_soulOn 7 0 0 15 [(0, .ref 31), (1, .int a1), (2, .int a3)] [.int 0] _ 0 0 _
                refine x_ifne (tgt := 20) rfl rfl (ti_ne jk_0 jk_0 (bn_f (by omega) ?_))
                refine x_iconst (v := (-1)) rfl ki_m1 ?_
                refine x_iret rfl rfl ?_
                show jX m_X11_belong 8 0 0 26 [(0, .ref 31), (1, .int a1), (2, .int a2), (3, .int a3), (4, .int a4)] [.int (-1)] _ 0 0 _
                refine x_istore (ls' := [(5, .int (-1)), (0, .ref 31), (1, .int a1), (2, .int a2), (3, .int a3), (4, .int a4)]) rfl rfl rfl ?_
                refine x_iload (x := (-1)) rfl rfl ?_
                refine x_iconst (v := (-1)) rfl ki_m1 ?_
                refine x_icne (tgt := 36) rfl rfl (ti_ne jk_m1 jk_m1 (bn_f (by omega) ?_))
                refine x_iconst (v := (-1)) rfl ki_m1 ?_
                refine x_iret rfl rfl ?_
                exact hQ _ _ (jr_of jk_m1 (by omega)) J Sm
              ·
                refine x_aloadn (x := 78) rfl rfl ?_
                refine z_getR (N := 16) (b := 79) 7 7 rfl f_7_27 rfl J rfl 9991 ⟨rfl, rfl⟩ rfl ?_
                refine x_iloadn (x := a1) rfl rfl ?_
                refine z_iald (N := 600) rfl J rfl sg_79_0_600_1_0_1 rfl (by omega) (fun v12 qv12 ev12 => ?_)
                refine x_iconst (v := (-1)) rfl ki_m1 ?_
                refine x_iceq (tgt := 41) rfl rfl (ti_eq rfl jk_m1 ⟨fun c13 => ?_, fun c13 => ?_⟩)
                ·
                  refine x_iconst (v := 0) rfl ki_0 ?_
                  refine x_zret rfl rfl (by decide) ?_
                  show jX m_X11_soulOn 7 0 0 15 [(0, .ref 31), (1, .int a1), (2, .int a3)] [.int 0] _ 0 0 _
                  refine x_ifne (tgt := 20) rfl rfl (ti_ne jk_0 jk_0 (bn_f (by omega) ?_))
                  refine x_iconst (v := (-1)) rfl ki_m1 ?_
                  refine x_iret rfl rfl ?_
                  show jX m_X11_belong 8 0 0 26 [(0, .ref 31), (1, .int a1), (2, .int a2), (3, .int a3), (4, .int a4)] [.int (-1)] _ 0 0 _
                  refine x_istore (ls' := [(5, .int (-1)), (0, .ref 31), (1, .int a1), (2, .int a2), (3, .int a3), (4, .int a4)]) rfl rfl rfl ?_
                  refine x_iload (x := (-1)) rfl rfl ?_
                  refine x_iconst (v := (-1)) rfl ki_m1 ?_
                  refine x_icne (tgt := 36) rfl rfl (ti_ne jk_m1 jk_m1 (bn_f (by omega) ?_))
                  refine x_iconst (v := (-1)) rfl ki_m1 ?_
                  refine x_iret rfl rfl ?_
                  exact hQ _ _ (jr_of jk_m1 (by omega)) J Sm
                ·
                  refine x_iconst (v := 1) rfl ki_1 ?_
                  refine x_goto (tgt := 42) rfl rfl ?_
                  refine x_zret rfl rfl (by decide) ?_
                  show jX m_X11_soulOn 7 0 0 15 [(0, .ref 31), (1, .int a1), (2, .int a3)] [.int 1] _ 0 0 _
                  refine x_ifne (tgt := 20) rfl rfl (ti_ne jk_1 jk_0 (bn_t (by omega) ?_))
                  refine x_aloadn (x := 31) rfl rfl ?_
                  refine z_getR (N := 13) (b := 78) 11 4 rfl f_11_41 rfl J rfl 3972 ⟨rfl, rfl⟩ rfl ?_
                  refine x_iloadn (x := a3) rfl rfl ?_
                  refine x_inv (N := m_X7_asKnown) (As := [.int a3]) (b := 78) (st := []) (d' := 6) (mc := 0) (ms := 0) (host := "") 7 rfl t_X7_asKnown ⟨Or.inl q_11_240, i_X7_asKnown.1, i_X7_asKnown.2⟩ ⟨by decide, rfl⟩ (congrArg Prod.fst (J.1.1 78 (7, 16) rfl)) rfl (by decide) rfl rfl ⟨by decide, by decide⟩ (sf_X7_asKnown_r78 (jr_of rfl (by omega)) hD J  (fun h J S14 => ?_))
                  have Sm := jSm_tr rfl Sm S14
                  show jX m_X11_soulOn 7 0 0 28 [(0, .ref 31), (1, .int a1), (2, .int a3)] [] _ 0 0 _
                  refine x_aloadn (x := 31) rfl rfl ?_
                  refine z_getR (N := 13) (b := 78) 11 4 rfl f_11_41 rfl J rfl 3972 ⟨rfl, rfl⟩ rfl ?_
                  refine z_getR (N := 16) (b := 82) 7 10 rfl f_11_537 rfl J rfl 9994 ⟨rfl, rfl⟩ rfl ?_
                  refine x_iloadn (x := a1) rfl rfl ?_
                  refine z_iald (N := 600) rfl J rfl sg_82_0_600_1_0_1 rfl (by omega) (fun v15 qv15 ev15 => ?_)
                  refine x_iret rfl rfl ?_
                  show jX m_X11_belong 8 0 0 26 [(0, .ref 31), (1, .int a1), (2, .int a2), (3, .int a3), (4, .int a4)] [.int v15] _ 0 0 _
                  refine x_istore (ls' := [(5, .int v15), (0, .ref 31), (1, .int a1), (2, .int a2), (3, .int a3), (4, .int a4)]) rfl rfl rfl ?_
                  refine x_iload (x := v15) rfl rfl ?_
                  refine x_iconst (v := (-1)) rfl ki_m1 ?_
                  refine x_icne (tgt := 36) rfl rfl (ti_ne rfl jk_m1 ⟨fun c16 => ?_, fun c16 => ?_⟩)
                  ·
                    refine x_aloadn (x := 31) rfl rfl ?_
                    refine z_getR (N := 13) (b := 120) 11 9 rfl f_11_82 rfl J rfl 3977 ⟨rfl, rfl⟩ rfl ?_
                    refine x_iloadn (x := a3) rfl rfl ?_
                    refine z_putI (N := 8) (w := a3.toInt) 6 5 rfl f_11_381 rfl (jfin_no TX6 RX6 8 rfl rfl) hD J Sm rfl rfl rfl (pw_120_5 (by omega)) rfl (fun h w17 J Sm => ?_)
                    refine x_aloadn (x := 31) rfl rfl ?_
                    refine z_getR (N := 13) (b := 120) 11 9 rfl f_11_82 rfl J rfl 3977 ⟨rfl, rfl⟩ rfl ?_
                    refine x_iload (x := v15) rfl rfl ?_
                    refine x_iloadn (x := a2) rfl rfl ?_
                    refine x_iconst (v := 0) rfl ki_0 ?_
                    refine x_inv (N := m_X6_belongs) (As := [.int v15, .int a2, .int 0]) (b := 120) (st := []) (d' := 5) (mc := 0) (ms := 0) (host := "ParishChest") 6 rfl t_X6_belongs ⟨Or.inr q_11_384, i_X6_belongs.1, i_X6_belongs.2⟩ ⟨by decide, rfl⟩ (congrArg Prod.fst (J.1.1 120 (6, 8) rfl)) rfl (by decide) rfl rfl ⟨by decide, by decide⟩ (sf_X6_belongs_r120 (jr_of rfl (by omega)) (jr_of rfl (by omega)) (jr_of jk_0 (by omega)) hD J  (fun v19 h ev19 J S18 => ?_))
                    have Sm := jSm_tr rfl Sm S18
                    show jX m_X11_belong 8 0 0 55 [(5, .int v15), (0, .ref 31), (1, .int a1), (2, .int a2), (3, .int a3), (4, .int a4)] [.int v19] _ 0 0 _
                    refine x_istore (ls' := [(6, .int v19), (5, .int v15), (0, .ref 31), (1, .int a1), (2, .int a2), (3, .int a3), (4, .int a4)]) rfl rfl rfl ?_
                    refine x_iload (x := a4) rfl rfl ?_
                    refine x_ifne (tgt := 65) rfl rfl (ti_ne rfl jk_0 ⟨fun c20 => ?_, fun c20 => ?_⟩)
                    ·
                      refine x_iload (x := a4) rfl rfl ?_
                      refine x_iconst (v := 1) rfl ki_1 ?_
                      refine x_icne (tgt := 81) rfl rfl (ti_ne rfl jk_1 ⟨fun c21 => ?_, fun c21 => ?_⟩)
                      ·
                        refine x_aloadn (x := 31) rfl rfl ?_
                        refine z_getR (N := 13) (b := 120) 11 9 rfl f_11_82 rfl J rfl 3977 ⟨rfl, rfl⟩ rfl ?_
                        refine z_getI (N := 8) 6 7 rfl f_11_390 rfl J rfl sg_120_7_8_1_0_1 (fun v22 qv22 ev22 => ?_)
                        exact jX.sub jsb_n (ct_X11_belong_r31_88 hD hQ  v22 h (jr_of rfl (by omega)) J Sm)
                      ·
                        refine x_aloadn (x := 31) rfl rfl ?_
                        refine z_getR (N := 13) (b := 120) 11 9 rfl f_11_82 rfl J rfl 3977 ⟨rfl, rfl⟩ rfl ?_
                        refine z_getI (N := 8) 6 6 rfl f_11_387 rfl J rfl sg_120_6_7_1_0_1 (fun v23 qv23 ev23 => ?_)
                        refine x_goto (tgt := 88) rfl rfl ?_
                        exact jX.sub jsb_n (ct_X11_belong_r31_88 hD hQ  v23 h (jr_of rfl (by omega)) J Sm)
                    ·
                      refine x_iload (x := v19) rfl rfl ?_
                      refine x_iret rfl rfl ?_
                      exact hQ _ _ (jr_of rfl (by omega)) J Sm
                  ·
                    refine x_iconst (v := (-1)) rfl ki_m1 ?_
                    refine x_iret rfl rfl ?_
                    exact hQ _ _ (jr_of jk_m1 (by omega)) J Sm
      ·
        exact jX.sub jsb_n (ct_X11_belong_r31_18 hD hQ  h J Sm)
def fp_X3_rivalsWithin_r87 : jFp := []
set_option maxRecDepth 100000 in
set_option maxHeartbeats 4000000 in
theorem ct_X3_rivalsWithin_r87_45 {Dy : jH → Prop} {h0 : jH} {Q : Option Value → jH → Prop} (hD : jDk Dy) (hQ : ∀ (v : Int32) h', jJ jSgX Dy h' → jSm fp_X3_rivalsWithin_r87 h0 h' → Q (some (.int v)) h') : ∀ (l2 : Int32) (h : jH), jJ jSgX Dy h → jSm fp_X3_rivalsWithin_r87 h0 h → jX m_X3_rivalsWithin 1 0 0 45 [(2, .int l2)] [] h 0 0 Q := by
  intro l2 h    J Sm
  have el2 := jfull l2
  refine x_iloadn (x := l2) rfl rfl ?_
  refine x_iret rfl rfl ?_
  exact hQ _ _ J Sm
set_option maxRecDepth 100000 in
set_option maxHeartbeats 4000000 in
theorem ct_X3_rivalsWithin_r87_13 {Dy : jH → Prop} {h0 : jH} {Q : Option Value → jH → Prop} (hD : jDk Dy) (hQ : ∀ (v : Int32) h', jJ jSgX Dy h' → jSm fp_X3_rivalsWithin_r87 h0 h' → Q (some (.int v)) h') : ∀ r : Nat, ∀ (l2 : Int32) (l3 : Int32) (g0 : Int32) (h : jH), 2147483647 - l3.toInt < (r : Int) → 0 ≤ l3.toInt ∧ l3.toInt ≤ 2147483647 → (-1) ≤ g0.toInt ∧ g0.toInt ≤ 2147483647 → jiv h 87 10 = g0 → jJ jSgX Dy h → jSm fp_X3_rivalsWithin_r87 h0 h → jX m_X3_rivalsWithin 1 0 0 13 [(0, .ref 87), (2, .int l2), (3, .int l3)] [] h 0 0 Q := by
  intro r
  induction r with
  | zero =>
    intro l2 l3 g0 h hm y0 y1 z0  J Sm
    exfalso
    omega
  | succ r ih =>
    intro l2 l3 g0 h hm y0 y1 z0  J Sm
    have el2 := jfull l2
    refine x_iloadn (x := l3) rfl rfl ?_
    refine x_aloadn (x := 87) rfl rfl ?_
    refine z_getM (N := 14) (v := g0) 3 10 rfl f_3_37 rfl J rfl z0 ?_
    refine x_icgt (tgt := 45) rfl rfl (ti_gt rfl rfl ⟨fun c1 => ?_, fun c1 => ?_⟩)
    ·
      exact jX.sub (jsb_c rfl jsb_n) (ct_X3_rivalsWithin_r87_45 hD hQ  l2 h J Sm)
    ·
      refine x_iloadn (x := l3) rfl rfl ?_
      refine x_aloadn (x := 87) rfl rfl ?_
      refine z_getR (N := 14) (b := 94) 3 9 rfl f_3_34 rfl J rfl 11145 ⟨rfl, rfl⟩ rfl ?_
      refine z_alen (N := 14401) (v := 14401) rfl J rfl rfl (by decide) ?_
      refine x_icge (tgt := 45) rfl rfl (ti_ge rfl jk_14401 ⟨fun c2 => ?_, fun c2 => ?_⟩)
      ·
        exact jX.sub (jsb_c rfl jsb_n) (ct_X3_rivalsWithin_r87_45 hD hQ  l2 h J Sm)
      ·
        refine x_iloadn (x := l2) rfl rfl ?_
        refine x_aloadn (x := 87) rfl rfl ?_
        refine z_getR (N := 14) (b := 94) 3 9 rfl f_3_34 rfl J rfl 11145 ⟨rfl, rfl⟩ rfl ?_
        refine x_iloadn (x := l3) rfl rfl ?_
        refine z_iald0 (N := 14401) rfl J rfl rfl (by omega) (fun v3 qv3 => ?_)
        have ev3 := jfull v3
        refine z_iadd0 rfl (fun v4 => ?_)
        have ev4 := jfull v4
        refine x_istoren (ls' := [(2, .int v4), (0, .ref 87), (3, .int l3)]) rfl rfl rfl ?_
        refine z_iinc (x := l3) (ls' := fun v5 => [(3, .int v5), (2, .int v4), (0, .ref 87)]) rfl rfl rfl jko_1 (by omega) rfl (fun _ => rfl) (fun v5 ev5 => ?_)
        refine x_goto (tgt := 13) rfl rfl ?_
        exact jX.sub (jsb_c rfl (jsb_c rfl (jsb_c rfl jsb_n))) (ih v4 v5 g0 h (by omega) (jr_of rfl (by omega)) (jr_of rfl (by omega)) z0 J Sm)
set_option maxRecDepth 100000 in
set_option maxHeartbeats 4000000 in
theorem sf_X3_rivalsWithin_r87 {Dy : jH → Prop} {h : jH} {Q : Option Value → jH → Prop} {a1 : Int32} (hD : jDk Dy) (J : jJ jSgX Dy h) (hQ : ∀ (v : Int32) h', jJ jSgX Dy h' → jSm fp_X3_rivalsWithin_r87 h h' → Q (some (.int v)) h') : jC m_X3_rivalsWithin 1 0 0 [.ref 87, .int a1] h Q := by
  refine jC.of rfl k_X3_rivalsWithin rfl ?_
  have Sm := jSm_rf fp_X3_rivalsWithin_r87 h
  have ea1 := jfull a1
  show jX m_X3_rivalsWithin 1 0 0 0 [(0, .ref 87), (1, .int a1)] [] _ 0 0 _
  refine x_iconst (v := 0) rfl ki_0 ?_
  refine x_istoren (ls' := [(2, .int 0), (0, .ref 87), (1, .int a1)]) rfl rfl rfl ?_
  refine x_iconst (v := 0) rfl ki_0 ?_
  refine x_aloadn (x := 87) rfl rfl ?_
  refine z_getI (N := 14) 3 10 rfl f_3_37 rfl J rfl sg_87_10_11_1_0_1 (fun v1 qv1 ev1 => ?_)
  refine x_iloadn (x := a1) rfl rfl ?_
  refine z_isub0 rfl (fun v2 => ?_)
  have ev2 := jfull v2
  refine z_mmax rfl q_3_88 (by decide) rfl jk_0 rfl (fun v3 ev3 => ?_)
  refine x_istoren (ls' := [(3, .int v3), (2, .int 0), (0, .ref 87), (1, .int a1)]) rfl rfl rfl ?_
  exact jX.sub (jsb_c rfl (jsb_c rfl (jsb_c rfl jsb_n))) (ct_X3_rivalsWithin_r87_13 hD hQ  2147483648 0 v3 v1 h (by omega) (jr_of rfl (by omega)) (jr_of rfl (by omega)) qv1 J Sm)
def fp_X3_place_r87_c9 : jFp := [(87, 10, 11), (87, 11, 12), (92, 0, 9), (94, 0, 14401)]
set_option maxRecDepth 100000 in
set_option maxHeartbeats 4000000 in
theorem ct_X3_place_r87_c9_18 {Dy : jH → Prop} {h0 : jH} {Q : Option Value → jH → Prop} (hD : jDk Dy) (hQ : ∀ h', jJ jSgX Dy h' → jSm fp_X3_place_r87_c9 h0 h' → Q none h') : ∀ (l2 : Int32) (l3 : Int32) (h : jH), 1 ≤ l2.toInt ∧ l2.toInt ≤ 9 → jJ jSgX Dy h → jSm fp_X3_place_r87_c9 h0 h → jX m_X3_place 3 0 0 18 [(0, .ref 87), (2, .int l2), (3, .int l3)] [] h 0 0 Q := by
  intro l2 l3 h y0   J Sm
  have el3 := jfull l3
  refine x_aloadn (x := 87) rfl rfl ?_
  refine x_iloadn (x := l2) rfl rfl ?_
  refine x_iloadn (x := l3) rfl rfl ?_
  refine x_inv (N := m_X3_note) (As := [.int l2, .int l3]) (b := 87) (st := []) (d' := 2) (mc := 0) (ms := 0) (host := "") 3 rfl t_X3_note ⟨Or.inl q_3_93, i_X3_note.1, i_X3_note.2⟩ ⟨by decide, rfl⟩ (congrArg Prod.fst (J.1.1 87 (3, 14) rfl)) rfl (by decide) rfl rfl ⟨by decide, by decide⟩ (jC.of rfl k_X3_note rfl ?_)
  show jX m_X3_note 2 0 0 0 [(0, .ref 87), (1, .int l2), (2, .int l3)] [] _ 0 0 _
  refine x_iloadn (x := l3) rfl rfl ?_
  refine x_iflt (tgt := 23) rfl rfl (ti_lt rfl jk_0 ⟨fun c1 => ?_, fun c1 => ?_⟩)
  ·
    refine x_iloadn (x := l3) rfl rfl ?_
    refine x_aloadn (x := 87) rfl rfl ?_
    refine z_getI (N := 14) 3 10 rfl f_3_37 rfl J rfl sg_87_10_11_1_0_1 (fun v2 qv2 ev2 => ?_)
    refine x_icgt (tgt := 47) rfl rfl (ti_gt rfl rfl (br_f (by omega) ?_))
    refine x_iloadn (x := l3) rfl rfl ?_
    refine x_aloadn (x := 87) rfl rfl ?_
    refine z_getM (N := 14) (v := v2) 3 10 rfl f_3_37 rfl J rfl qv2 ?_
    refine x_icne (tgt := 72) rfl rfl (ti_ne rfl rfl ⟨fun c3 => ?_, fun c3 => ?_⟩)
    ·
      refine x_vret rfl rfl ?_
      show jX m_X3_place 3 0 0 24 [(0, .ref 87), (2, .int l2), (3, .int l3)] [] _ 0 0 _
      refine x_vret rfl rfl ?_
      exact hQ _ J Sm
    ·
      refine x_iloadn (x := l2) rfl rfl ?_
      refine x_aloadn (x := 87) rfl rfl ?_
      refine z_getI (N := 14) 3 11 rfl f_3_40 rfl J rfl sg_87_11_12_1_0_1 (fun v4 qv4 ev4 => ?_)
      refine x_icge (tgt := 72) rfl rfl (ti_ge rfl rfl ⟨fun c5 => ?_, fun c5 => ?_⟩)
      ·
        refine x_vret rfl rfl ?_
        show jX m_X3_place 3 0 0 24 [(0, .ref 87), (2, .int l2), (3, .int l3)] [] _ 0 0 _
        refine x_vret rfl rfl ?_
        exact hQ _ J Sm
      ·
        refine x_aloadn (x := 87) rfl rfl ?_
        refine x_iloadn (x := l3) rfl rfl ?_
        refine z_putI (N := 14) (w := l3.toInt) 3 10 rfl f_3_37 rfl (jfin_no TX3 RX3 14 rfl rfl) hD J Sm rfl rfl rfl (pw_87_10 (by omega)) rfl (fun h w6 J Sm => ?_)
        refine x_aloadn (x := 87) rfl rfl ?_
        refine x_iloadn (x := l2) rfl rfl ?_
        refine z_putI (N := 14) (w := l2.toInt) 3 11 rfl f_3_40 rfl (jfin_no TX3 RX3 14 rfl rfl) hD J Sm rfl rfl rfl (pw_87_11 (by omega)) rfl (fun h w7 J Sm => ?_)
        refine x_aloadn (x := 87) rfl rfl ?_
        refine z_getR (N := 14) (b := 91) 3 6 rfl f_3_25 rfl J rfl 11142 ⟨rfl, rfl⟩ rfl ?_
        refine x_iconst (v := 0) rfl ki_0 ?_
        refine x_aloadn (x := 87) rfl rfl ?_
        refine z_getR (N := 14) (b := 92) 3 7 rfl f_3_28 rfl J rfl 11143 ⟨rfl, rfl⟩ rfl ?_
        refine x_iconst (v := 0) rfl ki_0 ?_
        refine x_bipush (v := 9) rfl kb_9 ?_
        refine z_cpi (N1 := 9) (N2 := 9) rfl ⟨q_3_100, jcp_w⟩ (by decide) rfl hD J Sm rfl rfl rfl rfl jk_0 jk_0 jk_9 (by omega) (cp_92 (fun k k1 k2 k3 => by have k4 := k3.1; have k5 := k3.2.1; have k6 := k3.2.2; simp only at k4 k5 k6; exact jcp_in J sg_91_0_9_1_0_1 rfl (by omega) (by decide))) rfl (fun h w8 J Sm => ?_)
        refine x_vret rfl rfl ?_
        show jX m_X3_place 3 0 0 24 [(0, .ref 87), (2, .int l2), (3, .int l3)] [] _ 0 0 _
        refine x_vret rfl rfl ?_
        exact hQ _ J Sm
  ·
    refine x_iloadn (x := l3) rfl rfl ?_
    refine x_aloadn (x := 87) rfl rfl ?_
    refine z_getR (N := 14) (b := 94) 3 9 rfl f_3_34 rfl J rfl 11145 ⟨rfl, rfl⟩ rfl ?_
    refine z_alen (N := 14401) (v := 14401) rfl J rfl rfl (by decide) ?_
    refine x_icge (tgt := 23) rfl rfl (ti_ge rfl jk_14401 ⟨fun c9 => ?_, fun c9 => ?_⟩)
    ·
      refine x_iloadn (x := l3) rfl rfl ?_
      refine x_aloadn (x := 87) rfl rfl ?_
      refine z_getI (N := 14) 3 10 rfl f_3_37 rfl J rfl sg_87_10_11_1_0_1 (fun v10 qv10 ev10 => ?_)
      refine x_icgt (tgt := 47) rfl rfl (ti_gt rfl rfl ⟨fun c11 => ?_, fun c11 => ?_⟩)
      ·
        refine x_aloadn (x := 87) rfl rfl ?_
        refine x_iloadn (x := l3) rfl rfl ?_
        refine z_putI (N := 14) (w := l3.toInt) 3 10 rfl f_3_37 rfl (jfin_no TX3 RX3 14 rfl rfl) hD J Sm rfl rfl rfl (pw_87_10 (by omega)) rfl (fun h w12 J Sm => ?_)
        refine x_aloadn (x := 87) rfl rfl ?_
        refine x_iloadn (x := l2) rfl rfl ?_
        refine z_putI (N := 14) (w := l2.toInt) 3 11 rfl f_3_40 rfl (jfin_no TX3 RX3 14 rfl rfl) hD J Sm rfl rfl rfl (pw_87_11 (by omega)) rfl (fun h w13 J Sm => ?_)
        refine x_aloadn (x := 87) rfl rfl ?_
        refine z_getR (N := 14) (b := 91) 3 6 rfl f_3_25 rfl J rfl 11142 ⟨rfl, rfl⟩ rfl ?_
        refine x_iconst (v := 0) rfl ki_0 ?_
        refine x_aloadn (x := 87) rfl rfl ?_
        refine z_getR (N := 14) (b := 92) 3 7 rfl f_3_28 rfl J rfl 11143 ⟨rfl, rfl⟩ rfl ?_
        refine x_iconst (v := 0) rfl ki_0 ?_
        refine x_bipush (v := 9) rfl kb_9 ?_
        refine z_cpi (N1 := 9) (N2 := 9) rfl ⟨q_3_100, jcp_w⟩ (by decide) rfl hD J Sm rfl rfl rfl rfl jk_0 jk_0 jk_9 (by omega) (cp_92 (fun k k1 k2 k3 => by have k4 := k3.1; have k5 := k3.2.1; have k6 := k3.2.2; simp only at k4 k5 k6; exact jcp_in J sg_91_0_9_1_0_1 rfl (by omega) (by decide))) rfl (fun h w14 J Sm => ?_)
        refine x_vret rfl rfl ?_
        show jX m_X3_place 3 0 0 24 [(0, .ref 87), (2, .int l2), (3, .int l3)] [] _ 0 0 _
        refine x_vret rfl rfl ?_
        exact hQ _ J Sm
      ·
        refine x_iloadn (x := l3) rfl rfl ?_
        refine x_aloadn (x := 87) rfl rfl ?_
        refine z_getM (N := 14) (v := v10) 3 10 rfl f_3_37 rfl J rfl qv10 ?_
        refine x_icne (tgt := 72) rfl rfl (ti_ne rfl rfl ⟨fun c15 => ?_, fun c15 => ?_⟩)
        ·
          refine x_vret rfl rfl ?_
          show jX m_X3_place 3 0 0 24 [(0, .ref 87), (2, .int l2), (3, .int l3)] [] _ 0 0 _
          refine x_vret rfl rfl ?_
          exact hQ _ J Sm
        ·
          refine x_iloadn (x := l2) rfl rfl ?_
          refine x_aloadn (x := 87) rfl rfl ?_
          refine z_getI (N := 14) 3 11 rfl f_3_40 rfl J rfl sg_87_11_12_1_0_1 (fun v16 qv16 ev16 => ?_)
          refine x_icge (tgt := 72) rfl rfl (ti_ge rfl rfl ⟨fun c17 => ?_, fun c17 => ?_⟩)
          ·
            refine x_vret rfl rfl ?_
            show jX m_X3_place 3 0 0 24 [(0, .ref 87), (2, .int l2), (3, .int l3)] [] _ 0 0 _
            refine x_vret rfl rfl ?_
            exact hQ _ J Sm
          ·
            refine x_aloadn (x := 87) rfl rfl ?_
            refine x_iloadn (x := l3) rfl rfl ?_
            refine z_putI (N := 14) (w := l3.toInt) 3 10 rfl f_3_37 rfl (jfin_no TX3 RX3 14 rfl rfl) hD J Sm rfl rfl rfl (pw_87_10 (by omega)) rfl (fun h w18 J Sm => ?_)
            refine x_aloadn (x := 87) rfl rfl ?_
            refine x_iloadn (x := l2) rfl rfl ?_
            refine z_putI (N := 14) (w := l2.toInt) 3 11 rfl f_3_40 rfl (jfin_no TX3 RX3 14 rfl rfl) hD J Sm rfl rfl rfl (pw_87_11 (by omega)) rfl (fun h w19 J Sm => ?_)
            refine x_aloadn (x := 87) rfl rfl ?_
            refine z_getR (N := 14) (b := 91) 3 6 rfl f_3_25 rfl J rfl 11142 ⟨rfl, rfl⟩ rfl ?_
            refine x_iconst (v := 0) rfl ki_0 ?_
            refine x_aloadn (x := 87) rfl rfl ?_
            refine z_getR (N := 14) (b := 92) 3 7 rfl f_3_28 rfl J rfl 11143 ⟨rfl, rfl⟩ rfl ?_
            refine x_iconst (v := 0) rfl ki_0 ?_
            refine x_bipush (v := 9) rfl kb_9 ?_
            refine z_cpi (N1 := 9) (N2 := 9) rfl ⟨q_3_100, jcp_w⟩ (by decide) rfl hD J Sm rfl rfl rfl rfl jk_0 jk_0 jk_9 (by omega) (cp_92 (fun k k1 k2 k3 => by have k4 := k3.1; have k5 := k3.2.1; have k6 := k3.2.2; simp only at k4 k5 k6; exact jcp_in J sg_91_0_9_1_0_1 rfl (by omega) (by decide))) rfl (fun h w20 J Sm => ?_)
            refine x_vret rfl rfl ?_
            show jX m_X3_place 3 0 0 24 [(0, .ref 87), (2, .int l2), (3, .int l3)] [] _ 0 0 _
            refine x_vret rfl rfl ?_
            exact hQ _ J Sm
    ·
      refine x_aloadn (x := 87) rfl rfl ?_
      refine z_getR (N := 14) (b := 94) 3 9 rfl f_3_34 rfl J rfl 11145 ⟨rfl, rfl⟩ rfl ?_
      refine x_iloadn (x := l3) rfl rfl ?_
      refine x_dup2 rfl rfl rfl ?_
      refine z_iald0 (N := 14401) rfl J rfl rfl (by omega) (fun v21 qv21 => ?_)
      have ev21 := jfull v21
      refine x_iconst (v := 1) rfl ki_1 ?_
      refine z_iadd0 rfl (fun v22 => ?_)
      have ev22 := jfull v22
      refine z_iast (N := 14401) (l := 0) (u := 14401) (w := v22.toInt) rfl hD J Sm rfl rfl rfl (by omega) rfl (wr_94) rfl (fun h w23 J Sm => ?_)
      refine x_iloadn (x := l3) rfl rfl ?_
      refine x_aloadn (x := 87) rfl rfl ?_
      refine z_getI (N := 14) 3 10 rfl f_3_37 rfl J rfl sg_87_10_11_1_0_1 (fun v24 qv24 ev24 => ?_)
      refine x_icgt (tgt := 47) rfl rfl (ti_gt rfl rfl ⟨fun c25 => ?_, fun c25 => ?_⟩)
      ·
        refine x_aloadn (x := 87) rfl rfl ?_
        refine x_iloadn (x := l3) rfl rfl ?_
        refine z_putI (N := 14) (w := l3.toInt) 3 10 rfl f_3_37 rfl (jfin_no TX3 RX3 14 rfl rfl) hD J Sm rfl rfl rfl (pw_87_10 (by omega)) rfl (fun h w26 J Sm => ?_)
        refine x_aloadn (x := 87) rfl rfl ?_
        refine x_iloadn (x := l2) rfl rfl ?_
        refine z_putI (N := 14) (w := l2.toInt) 3 11 rfl f_3_40 rfl (jfin_no TX3 RX3 14 rfl rfl) hD J Sm rfl rfl rfl (pw_87_11 (by omega)) rfl (fun h w27 J Sm => ?_)
        refine x_aloadn (x := 87) rfl rfl ?_
        refine z_getR (N := 14) (b := 91) 3 6 rfl f_3_25 rfl J rfl 11142 ⟨rfl, rfl⟩ rfl ?_
        refine x_iconst (v := 0) rfl ki_0 ?_
        refine x_aloadn (x := 87) rfl rfl ?_
        refine z_getR (N := 14) (b := 92) 3 7 rfl f_3_28 rfl J rfl 11143 ⟨rfl, rfl⟩ rfl ?_
        refine x_iconst (v := 0) rfl ki_0 ?_
        refine x_bipush (v := 9) rfl kb_9 ?_
        refine z_cpi (N1 := 9) (N2 := 9) rfl ⟨q_3_100, jcp_w⟩ (by decide) rfl hD J Sm rfl rfl rfl rfl jk_0 jk_0 jk_9 (by omega) (cp_92 (fun k k1 k2 k3 => by have k4 := k3.1; have k5 := k3.2.1; have k6 := k3.2.2; simp only at k4 k5 k6; exact jcp_in J sg_91_0_9_1_0_1 rfl (by omega) (by decide))) rfl (fun h w28 J Sm => ?_)
        refine x_vret rfl rfl ?_
        show jX m_X3_place 3 0 0 24 [(0, .ref 87), (2, .int l2), (3, .int l3)] [] _ 0 0 _
        refine x_vret rfl rfl ?_
        exact hQ _ J Sm
      ·
        refine x_iloadn (x := l3) rfl rfl ?_
        refine x_aloadn (x := 87) rfl rfl ?_
        refine z_getM (N := 14) (v := v24) 3 10 rfl f_3_37 rfl J rfl qv24 ?_
        refine x_icne (tgt := 72) rfl rfl (ti_ne rfl rfl ⟨fun c29 => ?_, fun c29 => ?_⟩)
        ·
          refine x_vret rfl rfl ?_
          show jX m_X3_place 3 0 0 24 [(0, .ref 87), (2, .int l2), (3, .int l3)] [] _ 0 0 _
          refine x_vret rfl rfl ?_
          exact hQ _ J Sm
        ·
          refine x_iloadn (x := l2) rfl rfl ?_
          refine x_aloadn (x := 87) rfl rfl ?_
          refine z_getI (N := 14) 3 11 rfl f_3_40 rfl J rfl sg_87_11_12_1_0_1 (fun v30 qv30 ev30 => ?_)
          refine x_icge (tgt := 72) rfl rfl (ti_ge rfl rfl ⟨fun c31 => ?_, fun c31 => ?_⟩)
          ·
            refine x_vret rfl rfl ?_
            show jX m_X3_place 3 0 0 24 [(0, .ref 87), (2, .int l2), (3, .int l3)] [] _ 0 0 _
            refine x_vret rfl rfl ?_
            exact hQ _ J Sm
          ·
            refine x_aloadn (x := 87) rfl rfl ?_
            refine x_iloadn (x := l3) rfl rfl ?_
            refine z_putI (N := 14) (w := l3.toInt) 3 10 rfl f_3_37 rfl (jfin_no TX3 RX3 14 rfl rfl) hD J Sm rfl rfl rfl (pw_87_10 (by omega)) rfl (fun h w32 J Sm => ?_)
            refine x_aloadn (x := 87) rfl rfl ?_
            refine x_iloadn (x := l2) rfl rfl ?_
            refine z_putI (N := 14) (w := l2.toInt) 3 11 rfl f_3_40 rfl (jfin_no TX3 RX3 14 rfl rfl) hD J Sm rfl rfl rfl (pw_87_11 (by omega)) rfl (fun h w33 J Sm => ?_)
            refine x_aloadn (x := 87) rfl rfl ?_
            refine z_getR (N := 14) (b := 91) 3 6 rfl f_3_25 rfl J rfl 11142 ⟨rfl, rfl⟩ rfl ?_
            refine x_iconst (v := 0) rfl ki_0 ?_
            refine x_aloadn (x := 87) rfl rfl ?_
            refine z_getR (N := 14) (b := 92) 3 7 rfl f_3_28 rfl J rfl 11143 ⟨rfl, rfl⟩ rfl ?_
            refine x_iconst (v := 0) rfl ki_0 ?_
            refine x_bipush (v := 9) rfl kb_9 ?_
            refine z_cpi (N1 := 9) (N2 := 9) rfl ⟨q_3_100, jcp_w⟩ (by decide) rfl hD J Sm rfl rfl rfl rfl jk_0 jk_0 jk_9 (by omega) (cp_92 (fun k k1 k2 k3 => by have k4 := k3.1; have k5 := k3.2.1; have k6 := k3.2.2; simp only at k4 k5 k6; exact jcp_in J sg_91_0_9_1_0_1 rfl (by omega) (by decide))) rfl (fun h w34 J Sm => ?_)
            refine x_vret rfl rfl ?_
            show jX m_X3_place 3 0 0 24 [(0, .ref 87), (2, .int l2), (3, .int l3)] [] _ 0 0 _
            refine x_vret rfl rfl ?_
            exact hQ _ J Sm
set_option maxRecDepth 100000 in
set_option maxHeartbeats 4000000 in
theorem sf_X3_place_r87_c9 {Dy : jH → Prop} {h : jH} {Q : Option Value → jH → Prop} {a2 : Int32} {a3 : Int32} (y2 : 1 ≤ a2.toInt ∧ a2.toInt ≤ 9) (hD : jDk Dy) (J : jJ jSgX Dy h) (hQ : ∀ h', jJ jSgX Dy h' → jSm fp_X3_place_r87_c9 h h' → Q none h') : jC m_X3_place 3 0 0 [.ref 87, .int 9, .int a2, .int a3] h Q := by
  refine jC.of rfl k_X3_place rfl ?_
  have Sm := jSm_rf fp_X3_place_r87_c9 h
  have ea3 := jfull a3
  show jX m_X3_place 3 0 0 0 [(0, .ref 87), (1, .int 9), (2, .int a2), (3, .int a3)] [] _ 0 0 _
  refine x_iloadn (x := 9) rfl rfl ?_
  refine x_iflt (tgt := 18) rfl rfl (ti_lt jk_9 jk_0 (br_f (by omega) ?_))
  refine x_iloadn (x := 9) rfl rfl ?_
  refine x_aloadn (x := 87) rfl rfl ?_
  refine z_getI (N := 14) 3 3 rfl f_3_15 rfl J rfl sg_87_3_4_1_0_1 (fun v1 qv1 ev1 => ?_)
  refine x_icge (tgt := 18) rfl rfl (ti_ge jk_9 rfl (br_t (by omega) ?_))
  exact jX.sub (jsb_c rfl (jsb_c rfl (jsb_c rfl jsb_n))) (ct_X3_place_r87_c9_18 hD hQ  a2 a3 h (jr_of rfl (by omega)) J Sm)
def fp_X3_readGains_r87 : jFp := [(93, 0, 90)]
set_option maxRecDepth 100000 in
set_option maxHeartbeats 4000000 in
theorem ct_X3_readGains_r87_108 {Dy : jH → Prop} {h0 : jH} {Q : Option Value → jH → Prop} {R40 : Int} (hD : jDk Dy) (hQ : ∀ h', jJ jSgX Dy h' → jSm fp_X3_readGains_r87 h0 h' → Q none h') (k40 : ∀ (l1 : Int32) (l3 : Int32) (l4 : Int32) (h : jH), 8 - l4.toInt < R40 → 0 ≤ l1.toInt ∧ l1.toInt ≤ 8 → 0 ≤ l3.toInt ∧ l3.toInt ≤ 80 → l3.toInt % 10 = 0 → 0 ≤ l4.toInt ∧ l4.toInt ≤ 8 → jJ jSgX Dy h → jSm fp_X3_readGains_r87 h0 h → jX m_X3_readGains 1 0 0 40 [(0, .ref 87), (1, .int l1), (3, .int l3), (4, .int l4)] [] h 0 0 Q) : ∀ (l1 : Int32) (l3 : Int32) (l4 : Int32) (s0 : Int32) (s1 : Int32) (h : jH), 1 ≤ l1.toInt ∧ l1.toInt ≤ 8 → 0 ≤ l3.toInt ∧ l3.toInt ≤ 80 → l3.toInt % 10 = 0 → 0 ≤ l4.toInt ∧ l4.toInt ≤ 7 → 0 ≤ s1.toInt ∧ s1.toInt ≤ 88 → 8 - l4.toInt ≤ R40 → jJ jSgX Dy h → jSm fp_X3_readGains_r87 h0 h → jX m_X3_readGains 1 0 0 108 [(0, .ref 87), (1, .int l1), (3, .int l3), (4, .int l4)] [.int s0, .int s1, .ref 93] h 0 0 Q := by
  intro l1 l3 l4 s0 s1 h y0 y1 y2 y3 y4  m40 J Sm
  have es0 := jfull s0
  refine z_iast (N := 90) (l := 0) (u := 90) (w := s0.toInt) rfl hD J Sm rfl rfl rfl (by omega) rfl (wr_93) rfl (fun h w1 J Sm => ?_)
  refine z_iinc (x := l4) (ls' := fun v2 => [(4, .int v2), (0, .ref 87), (1, .int l1), (3, .int l3)]) rfl rfl rfl jko_1 (by omega) rfl (fun _ => rfl) (fun v2 ev2 => ?_)
  refine x_goto (tgt := 40) rfl rfl ?_
  exact jX.sub (jsb_c rfl (jsb_c rfl (jsb_c rfl (jsb_c rfl jsb_n)))) (k40 l1 l3 v2 h (by omega) (jr_of rfl (by omega)) (jr_of rfl (by omega)) (jr_mod rfl (by omega)) (jr_of rfl (by omega)) J Sm)
set_option maxRecDepth 100000 in
set_option maxHeartbeats 4000000 in
theorem ct_X3_readGains_r87_100108 {Dy : jH → Prop} {h0 : jH} {Q : Option Value → jH → Prop} {R40 : Int} (hD : jDk Dy) (hQ : ∀ h', jJ jSgX Dy h' → jSm fp_X3_readGains_r87 h0 h' → Q none h') (k40 : ∀ (l1 : Int32) (l3 : Int32) (l4 : Int32) (h : jH), 8 - l4.toInt < R40 → 0 ≤ l1.toInt ∧ l1.toInt ≤ 8 → 0 ≤ l3.toInt ∧ l3.toInt ≤ 80 → l3.toInt % 10 = 0 → 0 ≤ l4.toInt ∧ l4.toInt ≤ 8 → jJ jSgX Dy h → jSm fp_X3_readGains_r87 h0 h → jX m_X3_readGains 1 0 0 40 [(0, .ref 87), (1, .int l1), (3, .int l3), (4, .int l4)] [] h 0 0 Q) : ∀ (l1 : Int32) (l3 : Int32) (l4 : Int32) (s1 : Int32) (h : jH), 1 ≤ l1.toInt ∧ l1.toInt ≤ 8 → 0 ≤ l3.toInt ∧ l3.toInt ≤ 80 → l3.toInt % 10 = 0 → 0 ≤ l4.toInt ∧ l4.toInt ≤ 7 → 0 ≤ s1.toInt ∧ s1.toInt ≤ 88 → 8 - l4.toInt ≤ R40 → jJ jSgX Dy h → jSm fp_X3_readGains_r87 h0 h → jX m_X3_readGains 1 0 0 108 [(0, .ref 87), (1, .int l1), (3, .int l3), (4, .int l4)] [.int (-1), .int s1, .ref 93] h 0 0 Q := by
  intro l1 l3 l4 s1 h y0 y1 y2 y3 y4  m40 J Sm
  refine z_iast (N := 90) (l := 0) (u := 90) (w := (-1)) rfl hD J Sm rfl rfl rfl (by omega) jk_m1 (wr_93) rfl (fun h w1 J Sm => ?_)
  refine z_iinc (x := l4) (ls' := fun v2 => [(4, .int v2), (0, .ref 87), (1, .int l1), (3, .int l3)]) rfl rfl rfl jko_1 (by omega) rfl (fun _ => rfl) (fun v2 ev2 => ?_)
  refine x_goto (tgt := 40) rfl rfl ?_
  exact jX.sub (jsb_c rfl (jsb_c rfl (jsb_c rfl (jsb_c rfl jsb_n)))) (k40 l1 l3 v2 h (by omega) (jr_of rfl (by omega)) (jr_of rfl (by omega)) (jr_mod rfl (by omega)) (jr_of rfl (by omega)) J Sm)
set_option maxRecDepth 100000 in
set_option maxHeartbeats 4000000 in
theorem ct_X3_readGains_r87_94 {Dy : jH → Prop} {h0 : jH} {Q : Option Value → jH → Prop} {R40 : Int} (hD : jDk Dy) (hQ : ∀ h', jJ jSgX Dy h' → jSm fp_X3_readGains_r87 h0 h' → Q none h') (k40 : ∀ (l1 : Int32) (l3 : Int32) (l4 : Int32) (h : jH), 8 - l4.toInt < R40 → 0 ≤ l1.toInt ∧ l1.toInt ≤ 8 → 0 ≤ l3.toInt ∧ l3.toInt ≤ 80 → l3.toInt % 10 = 0 → 0 ≤ l4.toInt ∧ l4.toInt ≤ 8 → jJ jSgX Dy h → jSm fp_X3_readGains_r87 h0 h → jX m_X3_readGains 1 0 0 40 [(0, .ref 87), (1, .int l1), (3, .int l3), (4, .int l4)] [] h 0 0 Q) : ∀ (l1 : Int32) (l3 : Int32) (l4 : Int32) (s0 : Int32) (h : jH), 1 ≤ l1.toInt ∧ l1.toInt ≤ 8 → 0 ≤ l3.toInt ∧ l3.toInt ≤ 80 → l3.toInt % 10 = 0 → 0 ≤ l4.toInt ∧ l4.toInt ≤ 7 → 0 ≤ s0.toInt ∧ s0.toInt ≤ 88 → 8 - l4.toInt ≤ R40 → jJ jSgX Dy h → jSm fp_X3_readGains_r87 h0 h → jX m_X3_readGains 1 0 0 94 [(0, .ref 87), (1, .int l1), (3, .int l3), (4, .int l4)] [.int s0, .ref 93] h 0 0 Q := by
  intro l1 l3 l4 s0 h y0 y1 y2 y3 y4  m40 J Sm
  refine x_iconst (v := (-1)) rfl ki_m1 ?_
  refine x_goto (tgt := 108) rfl rfl ?_
  exact jX.sub (jsb_c rfl (jsb_c rfl (jsb_c rfl (jsb_c rfl jsb_n)))) (ct_X3_readGains_r87_100108 hD hQ k40 l1 l3 l4 s0 h (jr_of rfl (by omega)) (jr_of rfl (by omega)) (jr_mod rfl (by omega)) (jr_of rfl (by omega)) (jr_of rfl (by omega)) (by omega) J Sm)
set_option maxRecDepth 100000 in
set_option maxHeartbeats 4000000 in
theorem ct_X3_readGains_r87_40 {Dy : jH → Prop} {h0 : jH} {Q : Option Value → jH → Prop} (hD : jDk Dy) (hQ : ∀ h', jJ jSgX Dy h' → jSm fp_X3_readGains_r87 h0 h' → Q none h') : ∀ r : Nat, ∀ (l1 : Int32) (l3 : Int32) (l4 : Int32) (h : jH), 8 - l4.toInt < (r : Int) → 0 ≤ l1.toInt ∧ l1.toInt ≤ 8 → 0 ≤ l3.toInt ∧ l3.toInt ≤ 80 → l3.toInt % 10 = 0 → 0 ≤ l4.toInt ∧ l4.toInt ≤ 8 → jJ jSgX Dy h → jSm fp_X3_readGains_r87 h0 h → jX m_X3_readGains 1 0 0 40 [(0, .ref 87), (1, .int l1), (3, .int l3), (4, .int l4)] [] h 0 0 Q := by
  intro r
  induction r with
  | zero =>
    intro l1 l3 l4 h hm y0 y1 y2 y3   J Sm
    exfalso
    omega
  | succ r ih =>
    intro l1 l3 l4 h hm y0 y1 y2 y3   J Sm
    refine x_iload (x := l4) rfl rfl ?_
    refine x_iloadn (x := l1) rfl rfl ?_
    refine x_icge (tgt := 115) rfl rfl (ti_ge rfl rfl ⟨fun c1 => ?_, fun c1 => ?_⟩)
    ·
      refine x_vret rfl rfl ?_
      exact hQ _ J Sm
    ·
      refine x_iloadn (x := l3) rfl rfl ?_
      refine x_aloadn (x := 87) rfl rfl ?_
      refine z_getR (N := 14) (b := 91) 3 6 rfl f_3_25 rfl J rfl 11142 ⟨rfl, rfl⟩ rfl ?_
      refine x_iload (x := l4) rfl rfl ?_
      refine z_iald (N := 9) rfl J rfl sg_91_0_9_1_0_1 rfl (by omega) (fun v2 qv2 ev2 => ?_)
      refine z_iadd rfl rfl rfl (by omega) (fun v3 ev3 => ?_)
      refine x_istore (ls' := [(5, .int v3), (0, .ref 87), (1, .int l1), (3, .int l3), (4, .int l4)]) rfl rfl rfl ?_
      refine x_aloadn (x := 87) rfl rfl ?_
      refine z_getR (N := 14) (b := 89) 3 4 rfl f_3_19 rfl J rfl 11140 ⟨rfl, rfl⟩ rfl ?_
      refine x_iloadn (x := l1) rfl rfl ?_
      refine x_bipush (v := 9) rfl kb_9 ?_
      refine z_imul rfl rfl jk_9 (by omega) (fun v4 ev4 => ?_)
      refine x_iload (x := l4) rfl rfl ?_
      refine z_iadd rfl rfl rfl (by omega) (fun v5 ev5 => ?_)
      refine z_iald (N := 81) rfl J rfl sg_89_0_81_1_0_1 rfl (by omega) (fun v6 qv6 ev6 => ?_)
      refine x_istore (ls' := [(6, .int v6), (5, .int v3), (0, .ref 87), (1, .int l1), (3, .int l3), (4, .int l4)]) rfl rfl rfl ?_
      refine x_aloadn (x := 87) rfl rfl ?_
      refine z_getR (N := 14) (b := 93) 3 8 rfl f_3_31 rfl J rfl 11144 ⟨rfl, rfl⟩ rfl ?_
      refine x_iload (x := v3) rfl rfl ?_
      refine x_iload (x := v6) rfl rfl ?_
      refine x_iconst (v := (-1)) rfl ki_m1 ?_
      refine x_iceq (tgt := 94) rfl rfl (ti_eq rfl jk_m1 ⟨fun c7 => ?_, fun c7 => ?_⟩)
      ·
        exact jX.sub (jsb_c rfl (jsb_c rfl (jsb_c rfl (jsb_c rfl jsb_n)))) (ct_X3_readGains_r87_94 hD hQ ih l1 l3 l4 v3 h (jr_of rfl (by omega)) (jr_of rfl (by omega)) (jr_mod rfl (by omega)) (jr_of rfl (by omega)) (jr_of rfl (by omega)) (by omega) J Sm)
      ·
        refine x_aloadn (x := 87) rfl rfl ?_
        refine z_getR (N := 14) (b := 93) 3 8 rfl f_3_31 rfl J rfl 11144 ⟨rfl, rfl⟩ rfl ?_
        refine x_iload (x := v3) rfl rfl ?_
        refine z_iald0 (N := 90) rfl J rfl rfl (by omega) (fun v8 qv8 => ?_)
        have ev8 := jfull v8
        refine x_iconst (v := (-1)) rfl ki_m1 ?_
        refine x_icne (tgt := 98) rfl rfl (ti_ne rfl jk_m1 ⟨fun c9 => ?_, fun c9 => ?_⟩)
        ·
          refine x_aloadn (x := 87) rfl rfl ?_
          refine z_getR (N := 14) (b := 93) 3 8 rfl f_3_31 rfl J rfl 11144 ⟨rfl, rfl⟩ rfl ?_
          refine x_iload (x := v3) rfl rfl ?_
          refine z_ialdM (N := 90) (v := v8) rfl J rfl rfl (by omega) qv8 ?_
          refine x_iload (x := v6) rfl rfl ?_
          refine z_iadd0 rfl (fun v10 => ?_)
          have ev10 := jfull v10
          exact jX.sub (jsb_c rfl (jsb_c rfl (jsb_c rfl (jsb_c rfl jsb_n)))) (ct_X3_readGains_r87_108 hD hQ ih l1 l3 l4 v10 v3 h (jr_of rfl (by omega)) (jr_of rfl (by omega)) (jr_mod rfl (by omega)) (jr_of rfl (by omega)) (jr_of rfl (by omega)) (by omega) J Sm)
        ·
          exact jX.sub (jsb_c rfl (jsb_c rfl (jsb_c rfl (jsb_c rfl jsb_n)))) (ct_X3_readGains_r87_94 hD hQ ih l1 l3 l4 v3 h (jr_of rfl (by omega)) (jr_of rfl (by omega)) (jr_mod rfl (by omega)) (jr_of rfl (by omega)) (jr_of rfl (by omega)) (by omega) J Sm)
set_option maxRecDepth 100000 in
set_option maxHeartbeats 4000000 in
theorem ct_X3_readGains_r87_37 {Dy : jH → Prop} {h0 : jH} {Q : Option Value → jH → Prop} (hD : jDk Dy) (hQ : ∀ h', jJ jSgX Dy h' → jSm fp_X3_readGains_r87 h0 h' → Q none h') : ∀ (l1 : Int32) (l3 : Int32) (h : jH), 0 ≤ l1.toInt ∧ l1.toInt ≤ 8 → 0 ≤ l3.toInt ∧ l3.toInt ≤ 80 → l3.toInt % 10 = 0 → jJ jSgX Dy h → jSm fp_X3_readGains_r87 h0 h → jX m_X3_readGains 1 0 0 37 [(0, .ref 87), (1, .int l1), (3, .int l3)] [] h 0 0 Q := by
  intro l1 l3 h y0 y1 y2   J Sm
  refine x_iconst (v := 0) rfl ki_0 ?_
  refine x_istore (ls' := [(4, .int 0), (0, .ref 87), (1, .int l1), (3, .int l3)]) rfl rfl rfl ?_
  exact jX.sub (jsb_c rfl (jsb_c rfl (jsb_c rfl (jsb_c rfl jsb_n)))) (ct_X3_readGains_r87_40 hD hQ  9 l1 l3 0 h (by have := jk_0; omega) (jr_of rfl (by omega)) (jr_of rfl (by omega)) (jr_mod rfl (by omega)) (jr_of jk_0 (by omega)) J Sm)
set_option maxRecDepth 100000 in
set_option maxHeartbeats 4000000 in
theorem ct_X3_readGains_r87_8 {Dy : jH → Prop} {h0 : jH} {Q : Option Value → jH → Prop} (hD : jDk Dy) (hQ : ∀ h', jJ jSgX Dy h' → jSm fp_X3_readGains_r87 h0 h' → Q none h') : ∀ r : Nat, ∀ (l1 : Int32) (l2 : Int32) (l3 : Int32) (l4 : Int32) (h : jH), 9 - l4.toInt < (r : Int) → 0 ≤ l1.toInt ∧ l1.toInt ≤ 8 → 0 ≤ l2.toInt ∧ l2.toInt ≤ 8 → 0 ≤ l3.toInt ∧ l3.toInt ≤ 80 → l3.toInt % 10 = 0 → 0 ≤ l4.toInt ∧ l4.toInt ≤ 9 → jJ jSgX Dy h → jSm fp_X3_readGains_r87 h0 h → jX m_X3_readGains 1 0 0 8 [(0, .ref 87), (1, .int l1), (2, .int l2), (3, .int l3), (4, .int l4)] [] h 0 0 Q := by
  intro r
  induction r with
  | zero =>
    intro l1 l2 l3 l4 h hm y0 y1 y2 y3 y4   J Sm
    exfalso
    omega
  | succ r ih =>
    intro l1 l2 l3 l4 h hm y0 y1 y2 y3 y4   J Sm
    refine x_iload (x := l4) rfl rfl ?_
    refine x_iloadn (x := l2) rfl rfl ?_
    refine x_icgt (tgt := 37) rfl rfl (ti_gt rfl rfl ⟨fun c1 => ?_, fun c1 => ?_⟩)
    ·
      exact jX.sub (jsb_c rfl (jsb_c rfl (jsb_c rfl jsb_n))) (ct_X3_readGains_r87_37 hD hQ  l1 l3 h (jr_of rfl (by omega)) (jr_of rfl (by omega)) (jr_mod rfl (by omega)) J Sm)
    ·
      refine x_iload (x := l4) rfl rfl ?_
      refine x_bipush (v := 10) rfl kb_10 ?_
      refine x_icge (tgt := 37) rfl rfl (ti_ge rfl jk_10 (br_f (by omega) ?_))
      refine x_aloadn (x := 87) rfl rfl ?_
      refine z_getR (N := 14) (b := 93) 3 8 rfl f_3_31 rfl J rfl 11144 ⟨rfl, rfl⟩ rfl ?_
      refine x_iloadn (x := l3) rfl rfl ?_
      refine x_iload (x := l4) rfl rfl ?_
      refine z_iadd rfl rfl rfl (by omega) (fun v2 ev2 => ?_)
      refine x_iconst (v := 0) rfl ki_0 ?_
      refine z_iast (N := 90) (l := 0) (u := 90) (w := 0) rfl hD J Sm rfl rfl rfl (by omega) jk_0 (wr_93) rfl (fun h w3 J Sm => ?_)
      refine z_iinc (x := l4) (ls' := fun v4 => [(4, .int v4), (0, .ref 87), (1, .int l1), (2, .int l2), (3, .int l3)]) rfl rfl rfl jko_1 (by omega) rfl (fun _ => rfl) (fun v4 ev4 => ?_)
      refine x_goto (tgt := 8) rfl rfl ?_
      exact jX.sub (jsb_c rfl (jsb_c rfl (jsb_c rfl (jsb_c rfl (jsb_c rfl jsb_n))))) (ih l1 l2 l3 v4 h (by omega) (jr_of rfl (by omega)) (jr_of rfl (by omega)) (jr_of rfl (by omega)) (jr_mod rfl (by omega)) (jr_of rfl (by omega)) J Sm)
set_option maxRecDepth 100000 in
set_option maxHeartbeats 4000000 in
theorem sf_X3_readGains_r87 {Dy : jH → Prop} {h : jH} {Q : Option Value → jH → Prop} {a1 : Int32} {a2 : Int32} (y1 : 0 ≤ a1.toInt ∧ a1.toInt ≤ 8) (y2 : 0 ≤ a2.toInt ∧ a2.toInt ≤ 8) (hD : jDk Dy) (J : jJ jSgX Dy h) (hQ : ∀ h', jJ jSgX Dy h' → jSm fp_X3_readGains_r87 h h' → Q none h') : jC m_X3_readGains 1 0 0 [.ref 87, .int a1, .int a2] h Q := by
  refine jC.of rfl k_X3_readGains rfl ?_
  have Sm := jSm_rf fp_X3_readGains_r87 h
  show jX m_X3_readGains 1 0 0 0 [(0, .ref 87), (1, .int a1), (2, .int a2)] [] _ 0 0 _
  refine x_iloadn (x := a1) rfl rfl ?_
  refine x_bipush (v := 10) rfl kb_10 ?_
  refine z_imul rfl rfl jk_10 (by omega) (fun v1 ev1 => ?_)
  refine x_istoren (ls' := [(3, .int v1), (0, .ref 87), (1, .int a1), (2, .int a2)]) rfl rfl rfl ?_
  refine x_iconst (v := 0) rfl ki_0 ?_
  refine x_istore (ls' := [(4, .int 0), (3, .int v1), (0, .ref 87), (1, .int a1), (2, .int a2)]) rfl rfl rfl ?_
  exact jX.sub (jsb_c rfl (jsb_c rfl (jsb_c rfl (jsb_c rfl (jsb_c rfl jsb_n))))) (ct_X3_readGains_r87_8 hD hQ  10 a1 a2 v1 0 h (by have := jk_0; omega) (jr_of rfl (by omega)) (jr_of rfl (by omega)) (jr_of rfl (by omega)) (jr_mod rfl (by omega)) (jr_of jk_0 (by omega)) J Sm)
def fp_X3_place_r87_c8 : jFp := [(87, 10, 11), (87, 11, 12), (91, 0, 9), (92, 0, 9), (93, 0, 90), (94, 0, 14401)]
set_option maxRecDepth 100000 in
set_option maxHeartbeats 4000000 in
theorem ct_X3_place_r87_c8_18 {Dy : jH → Prop} {h0 : jH} {Q : Option Value → jH → Prop} (hD : jDk Dy) (hQ : ∀ h', jJ jSgX Dy h' → jSm fp_X3_place_r87_c8 h0 h' → Q none h') : ∀ (l2 : Int32) (l3 : Int32) (h : jH), 1 ≤ l2.toInt ∧ l2.toInt ≤ 8 → jJ jSgX Dy h → jSm fp_X3_place_r87_c8 h0 h → jX m_X3_place 4 0 0 18 [(0, .ref 87), (2, .int l2), (3, .int l3)] [] h 0 0 Q := by
  intro l2 l3 h y0   J Sm
  have el3 := jfull l3
  refine x_aloadn (x := 87) rfl rfl ?_
  refine x_iloadn (x := l2) rfl rfl ?_
  refine x_iloadn (x := l3) rfl rfl ?_
  refine x_inv (N := m_X3_note) (As := [.int l2, .int l3]) (b := 87) (st := []) (d' := 3) (mc := 0) (ms := 0) (host := "") 3 rfl t_X3_note ⟨Or.inl q_3_93, i_X3_note.1, i_X3_note.2⟩ ⟨by decide, rfl⟩ (congrArg Prod.fst (J.1.1 87 (3, 14) rfl)) rfl (by decide) rfl rfl ⟨by decide, by decide⟩ (jC.of rfl k_X3_note rfl ?_)
  show jX m_X3_note 3 0 0 0 [(0, .ref 87), (1, .int l2), (2, .int l3)] [] _ 0 0 _
  refine x_iloadn (x := l3) rfl rfl ?_
  refine x_iflt (tgt := 23) rfl rfl (ti_lt rfl jk_0 ⟨fun c1 => ?_, fun c1 => ?_⟩)
  ·
    refine x_iloadn (x := l3) rfl rfl ?_
    refine x_aloadn (x := 87) rfl rfl ?_
    refine z_getI (N := 14) 3 10 rfl f_3_37 rfl J rfl sg_87_10_11_1_0_1 (fun v2 qv2 ev2 => ?_)
    refine x_icgt (tgt := 47) rfl rfl (ti_gt rfl rfl (br_f (by omega) ?_))
    refine x_iloadn (x := l3) rfl rfl ?_
    refine x_aloadn (x := 87) rfl rfl ?_
    refine z_getM (N := 14) (v := v2) 3 10 rfl f_3_37 rfl J rfl qv2 ?_
    refine x_icne (tgt := 72) rfl rfl (ti_ne rfl rfl ⟨fun c3 => ?_, fun c3 => ?_⟩)
    ·
      refine x_vret rfl rfl ?_
      show jX m_X3_place 4 0 0 24 [(0, .ref 87), (2, .int l2), (3, .int l3)] [] _ 0 0 _
      refine x_vret rfl rfl ?_
      exact hQ _ J Sm
    ·
      refine x_iloadn (x := l2) rfl rfl ?_
      refine x_aloadn (x := 87) rfl rfl ?_
      refine z_getI (N := 14) 3 11 rfl f_3_40 rfl J rfl sg_87_11_12_1_0_1 (fun v4 qv4 ev4 => ?_)
      refine x_icge (tgt := 72) rfl rfl (ti_ge rfl rfl ⟨fun c5 => ?_, fun c5 => ?_⟩)
      ·
        refine x_vret rfl rfl ?_
        show jX m_X3_place 4 0 0 24 [(0, .ref 87), (2, .int l2), (3, .int l3)] [] _ 0 0 _
        refine x_vret rfl rfl ?_
        exact hQ _ J Sm
      ·
        refine x_aloadn (x := 87) rfl rfl ?_
        refine x_iloadn (x := l3) rfl rfl ?_
        refine z_putI (N := 14) (w := l3.toInt) 3 10 rfl f_3_37 rfl (jfin_no TX3 RX3 14 rfl rfl) hD J Sm rfl rfl rfl (pw_87_10 (by omega)) rfl (fun h w6 J Sm => ?_)
        refine x_aloadn (x := 87) rfl rfl ?_
        refine x_iloadn (x := l2) rfl rfl ?_
        refine z_putI (N := 14) (w := l2.toInt) 3 11 rfl f_3_40 rfl (jfin_no TX3 RX3 14 rfl rfl) hD J Sm rfl rfl rfl (pw_87_11 (by omega)) rfl (fun h w7 J Sm => ?_)
        refine x_aloadn (x := 87) rfl rfl ?_
        refine z_getR (N := 14) (b := 91) 3 6 rfl f_3_25 rfl J rfl 11142 ⟨rfl, rfl⟩ rfl ?_
        refine x_iconst (v := 0) rfl ki_0 ?_
        refine x_aloadn (x := 87) rfl rfl ?_
        refine z_getR (N := 14) (b := 92) 3 7 rfl f_3_28 rfl J rfl 11143 ⟨rfl, rfl⟩ rfl ?_
        refine x_iconst (v := 0) rfl ki_0 ?_
        refine x_bipush (v := 9) rfl kb_9 ?_
        refine z_cpi (N1 := 9) (N2 := 9) rfl ⟨q_3_100, jcp_w⟩ (by decide) rfl hD J Sm rfl rfl rfl rfl jk_0 jk_0 jk_9 (by omega) (cp_92 (fun k k1 k2 k3 => by have k4 := k3.1; have k5 := k3.2.1; have k6 := k3.2.2; simp only at k4 k5 k6; exact jcp_in J sg_91_0_9_1_0_1 rfl (by omega) (by decide))) rfl (fun h w8 J Sm => ?_)
        refine x_vret rfl rfl ?_
        show jX m_X3_place 4 0 0 24 [(0, .ref 87), (2, .int l2), (3, .int l3)] [] _ 0 0 _
        refine x_vret rfl rfl ?_
        exact hQ _ J Sm
  ·
    refine x_iloadn (x := l3) rfl rfl ?_
    refine x_aloadn (x := 87) rfl rfl ?_
    refine z_getR (N := 14) (b := 94) 3 9 rfl f_3_34 rfl J rfl 11145 ⟨rfl, rfl⟩ rfl ?_
    refine z_alen (N := 14401) (v := 14401) rfl J rfl rfl (by decide) ?_
    refine x_icge (tgt := 23) rfl rfl (ti_ge rfl jk_14401 ⟨fun c9 => ?_, fun c9 => ?_⟩)
    ·
      refine x_iloadn (x := l3) rfl rfl ?_
      refine x_aloadn (x := 87) rfl rfl ?_
      refine z_getI (N := 14) 3 10 rfl f_3_37 rfl J rfl sg_87_10_11_1_0_1 (fun v10 qv10 ev10 => ?_)
      refine x_icgt (tgt := 47) rfl rfl (ti_gt rfl rfl ⟨fun c11 => ?_, fun c11 => ?_⟩)
      ·
        refine x_aloadn (x := 87) rfl rfl ?_
        refine x_iloadn (x := l3) rfl rfl ?_
        refine z_putI (N := 14) (w := l3.toInt) 3 10 rfl f_3_37 rfl (jfin_no TX3 RX3 14 rfl rfl) hD J Sm rfl rfl rfl (pw_87_10 (by omega)) rfl (fun h w12 J Sm => ?_)
        refine x_aloadn (x := 87) rfl rfl ?_
        refine x_iloadn (x := l2) rfl rfl ?_
        refine z_putI (N := 14) (w := l2.toInt) 3 11 rfl f_3_40 rfl (jfin_no TX3 RX3 14 rfl rfl) hD J Sm rfl rfl rfl (pw_87_11 (by omega)) rfl (fun h w13 J Sm => ?_)
        refine x_aloadn (x := 87) rfl rfl ?_
        refine z_getR (N := 14) (b := 91) 3 6 rfl f_3_25 rfl J rfl 11142 ⟨rfl, rfl⟩ rfl ?_
        refine x_iconst (v := 0) rfl ki_0 ?_
        refine x_aloadn (x := 87) rfl rfl ?_
        refine z_getR (N := 14) (b := 92) 3 7 rfl f_3_28 rfl J rfl 11143 ⟨rfl, rfl⟩ rfl ?_
        refine x_iconst (v := 0) rfl ki_0 ?_
        refine x_bipush (v := 9) rfl kb_9 ?_
        refine z_cpi (N1 := 9) (N2 := 9) rfl ⟨q_3_100, jcp_w⟩ (by decide) rfl hD J Sm rfl rfl rfl rfl jk_0 jk_0 jk_9 (by omega) (cp_92 (fun k k1 k2 k3 => by have k4 := k3.1; have k5 := k3.2.1; have k6 := k3.2.2; simp only at k4 k5 k6; exact jcp_in J sg_91_0_9_1_0_1 rfl (by omega) (by decide))) rfl (fun h w14 J Sm => ?_)
        refine x_vret rfl rfl ?_
        show jX m_X3_place 4 0 0 24 [(0, .ref 87), (2, .int l2), (3, .int l3)] [] _ 0 0 _
        refine x_vret rfl rfl ?_
        exact hQ _ J Sm
      ·
        refine x_iloadn (x := l3) rfl rfl ?_
        refine x_aloadn (x := 87) rfl rfl ?_
        refine z_getM (N := 14) (v := v10) 3 10 rfl f_3_37 rfl J rfl qv10 ?_
        refine x_icne (tgt := 72) rfl rfl (ti_ne rfl rfl ⟨fun c15 => ?_, fun c15 => ?_⟩)
        ·
          refine x_vret rfl rfl ?_
          show jX m_X3_place 4 0 0 24 [(0, .ref 87), (2, .int l2), (3, .int l3)] [] _ 0 0 _
          refine x_vret rfl rfl ?_
          exact hQ _ J Sm
        ·
          refine x_iloadn (x := l2) rfl rfl ?_
          refine x_aloadn (x := 87) rfl rfl ?_
          refine z_getI (N := 14) 3 11 rfl f_3_40 rfl J rfl sg_87_11_12_1_0_1 (fun v16 qv16 ev16 => ?_)
          refine x_icge (tgt := 72) rfl rfl (ti_ge rfl rfl ⟨fun c17 => ?_, fun c17 => ?_⟩)
          ·
            refine x_vret rfl rfl ?_
            show jX m_X3_place 4 0 0 24 [(0, .ref 87), (2, .int l2), (3, .int l3)] [] _ 0 0 _
            refine x_vret rfl rfl ?_
            exact hQ _ J Sm
          ·
            refine x_aloadn (x := 87) rfl rfl ?_
            refine x_iloadn (x := l3) rfl rfl ?_
            refine z_putI (N := 14) (w := l3.toInt) 3 10 rfl f_3_37 rfl (jfin_no TX3 RX3 14 rfl rfl) hD J Sm rfl rfl rfl (pw_87_10 (by omega)) rfl (fun h w18 J Sm => ?_)
            refine x_aloadn (x := 87) rfl rfl ?_
            refine x_iloadn (x := l2) rfl rfl ?_
            refine z_putI (N := 14) (w := l2.toInt) 3 11 rfl f_3_40 rfl (jfin_no TX3 RX3 14 rfl rfl) hD J Sm rfl rfl rfl (pw_87_11 (by omega)) rfl (fun h w19 J Sm => ?_)
            refine x_aloadn (x := 87) rfl rfl ?_
            refine z_getR (N := 14) (b := 91) 3 6 rfl f_3_25 rfl J rfl 11142 ⟨rfl, rfl⟩ rfl ?_
            refine x_iconst (v := 0) rfl ki_0 ?_
            refine x_aloadn (x := 87) rfl rfl ?_
            refine z_getR (N := 14) (b := 92) 3 7 rfl f_3_28 rfl J rfl 11143 ⟨rfl, rfl⟩ rfl ?_
            refine x_iconst (v := 0) rfl ki_0 ?_
            refine x_bipush (v := 9) rfl kb_9 ?_
            refine z_cpi (N1 := 9) (N2 := 9) rfl ⟨q_3_100, jcp_w⟩ (by decide) rfl hD J Sm rfl rfl rfl rfl jk_0 jk_0 jk_9 (by omega) (cp_92 (fun k k1 k2 k3 => by have k4 := k3.1; have k5 := k3.2.1; have k6 := k3.2.2; simp only at k4 k5 k6; exact jcp_in J sg_91_0_9_1_0_1 rfl (by omega) (by decide))) rfl (fun h w20 J Sm => ?_)
            refine x_vret rfl rfl ?_
            show jX m_X3_place 4 0 0 24 [(0, .ref 87), (2, .int l2), (3, .int l3)] [] _ 0 0 _
            refine x_vret rfl rfl ?_
            exact hQ _ J Sm
    ·
      refine x_aloadn (x := 87) rfl rfl ?_
      refine z_getR (N := 14) (b := 94) 3 9 rfl f_3_34 rfl J rfl 11145 ⟨rfl, rfl⟩ rfl ?_
      refine x_iloadn (x := l3) rfl rfl ?_
      refine x_dup2 rfl rfl rfl ?_
      refine z_iald0 (N := 14401) rfl J rfl rfl (by omega) (fun v21 qv21 => ?_)
      have ev21 := jfull v21
      refine x_iconst (v := 1) rfl ki_1 ?_
      refine z_iadd0 rfl (fun v22 => ?_)
      have ev22 := jfull v22
      refine z_iast (N := 14401) (l := 0) (u := 14401) (w := v22.toInt) rfl hD J Sm rfl rfl rfl (by omega) rfl (wr_94) rfl (fun h w23 J Sm => ?_)
      refine x_iloadn (x := l3) rfl rfl ?_
      refine x_aloadn (x := 87) rfl rfl ?_
      refine z_getI (N := 14) 3 10 rfl f_3_37 rfl J rfl sg_87_10_11_1_0_1 (fun v24 qv24 ev24 => ?_)
      refine x_icgt (tgt := 47) rfl rfl (ti_gt rfl rfl ⟨fun c25 => ?_, fun c25 => ?_⟩)
      ·
        refine x_aloadn (x := 87) rfl rfl ?_
        refine x_iloadn (x := l3) rfl rfl ?_
        refine z_putI (N := 14) (w := l3.toInt) 3 10 rfl f_3_37 rfl (jfin_no TX3 RX3 14 rfl rfl) hD J Sm rfl rfl rfl (pw_87_10 (by omega)) rfl (fun h w26 J Sm => ?_)
        refine x_aloadn (x := 87) rfl rfl ?_
        refine x_iloadn (x := l2) rfl rfl ?_
        refine z_putI (N := 14) (w := l2.toInt) 3 11 rfl f_3_40 rfl (jfin_no TX3 RX3 14 rfl rfl) hD J Sm rfl rfl rfl (pw_87_11 (by omega)) rfl (fun h w27 J Sm => ?_)
        refine x_aloadn (x := 87) rfl rfl ?_
        refine z_getR (N := 14) (b := 91) 3 6 rfl f_3_25 rfl J rfl 11142 ⟨rfl, rfl⟩ rfl ?_
        refine x_iconst (v := 0) rfl ki_0 ?_
        refine x_aloadn (x := 87) rfl rfl ?_
        refine z_getR (N := 14) (b := 92) 3 7 rfl f_3_28 rfl J rfl 11143 ⟨rfl, rfl⟩ rfl ?_
        refine x_iconst (v := 0) rfl ki_0 ?_
        refine x_bipush (v := 9) rfl kb_9 ?_
        refine z_cpi (N1 := 9) (N2 := 9) rfl ⟨q_3_100, jcp_w⟩ (by decide) rfl hD J Sm rfl rfl rfl rfl jk_0 jk_0 jk_9 (by omega) (cp_92 (fun k k1 k2 k3 => by have k4 := k3.1; have k5 := k3.2.1; have k6 := k3.2.2; simp only at k4 k5 k6; exact jcp_in J sg_91_0_9_1_0_1 rfl (by omega) (by decide))) rfl (fun h w28 J Sm => ?_)
        refine x_vret rfl rfl ?_
        show jX m_X3_place 4 0 0 24 [(0, .ref 87), (2, .int l2), (3, .int l3)] [] _ 0 0 _
        refine x_vret rfl rfl ?_
        exact hQ _ J Sm
      ·
        refine x_iloadn (x := l3) rfl rfl ?_
        refine x_aloadn (x := 87) rfl rfl ?_
        refine z_getM (N := 14) (v := v24) 3 10 rfl f_3_37 rfl J rfl qv24 ?_
        refine x_icne (tgt := 72) rfl rfl (ti_ne rfl rfl ⟨fun c29 => ?_, fun c29 => ?_⟩)
        ·
          refine x_vret rfl rfl ?_
          show jX m_X3_place 4 0 0 24 [(0, .ref 87), (2, .int l2), (3, .int l3)] [] _ 0 0 _
          refine x_vret rfl rfl ?_
          exact hQ _ J Sm
        ·
          refine x_iloadn (x := l2) rfl rfl ?_
          refine x_aloadn (x := 87) rfl rfl ?_
          refine z_getI (N := 14) 3 11 rfl f_3_40 rfl J rfl sg_87_11_12_1_0_1 (fun v30 qv30 ev30 => ?_)
          refine x_icge (tgt := 72) rfl rfl (ti_ge rfl rfl ⟨fun c31 => ?_, fun c31 => ?_⟩)
          ·
            refine x_vret rfl rfl ?_
            show jX m_X3_place 4 0 0 24 [(0, .ref 87), (2, .int l2), (3, .int l3)] [] _ 0 0 _
            refine x_vret rfl rfl ?_
            exact hQ _ J Sm
          ·
            refine x_aloadn (x := 87) rfl rfl ?_
            refine x_iloadn (x := l3) rfl rfl ?_
            refine z_putI (N := 14) (w := l3.toInt) 3 10 rfl f_3_37 rfl (jfin_no TX3 RX3 14 rfl rfl) hD J Sm rfl rfl rfl (pw_87_10 (by omega)) rfl (fun h w32 J Sm => ?_)
            refine x_aloadn (x := 87) rfl rfl ?_
            refine x_iloadn (x := l2) rfl rfl ?_
            refine z_putI (N := 14) (w := l2.toInt) 3 11 rfl f_3_40 rfl (jfin_no TX3 RX3 14 rfl rfl) hD J Sm rfl rfl rfl (pw_87_11 (by omega)) rfl (fun h w33 J Sm => ?_)
            refine x_aloadn (x := 87) rfl rfl ?_
            refine z_getR (N := 14) (b := 91) 3 6 rfl f_3_25 rfl J rfl 11142 ⟨rfl, rfl⟩ rfl ?_
            refine x_iconst (v := 0) rfl ki_0 ?_
            refine x_aloadn (x := 87) rfl rfl ?_
            refine z_getR (N := 14) (b := 92) 3 7 rfl f_3_28 rfl J rfl 11143 ⟨rfl, rfl⟩ rfl ?_
            refine x_iconst (v := 0) rfl ki_0 ?_
            refine x_bipush (v := 9) rfl kb_9 ?_
            refine z_cpi (N1 := 9) (N2 := 9) rfl ⟨q_3_100, jcp_w⟩ (by decide) rfl hD J Sm rfl rfl rfl rfl jk_0 jk_0 jk_9 (by omega) (cp_92 (fun k k1 k2 k3 => by have k4 := k3.1; have k5 := k3.2.1; have k6 := k3.2.2; simp only at k4 k5 k6; exact jcp_in J sg_91_0_9_1_0_1 rfl (by omega) (by decide))) rfl (fun h w34 J Sm => ?_)
            refine x_vret rfl rfl ?_
            show jX m_X3_place 4 0 0 24 [(0, .ref 87), (2, .int l2), (3, .int l3)] [] _ 0 0 _
            refine x_vret rfl rfl ?_
            exact hQ _ J Sm
set_option maxRecDepth 100000 in
set_option maxHeartbeats 4000000 in
theorem ct_X3_place_r87_c8_144 {Dy : jH → Prop} {h0 : jH} {Q : Option Value → jH → Prop} (hD : jDk Dy) (hQ : ∀ h', jJ jSgX Dy h' → jSm fp_X3_place_r87_c8 h0 h' → Q none h') : ∀ (h : jH), jJ jSgX Dy h → jSm fp_X3_place_r87_c8 h0 h → jX m_X3_place 4 0 0 144 [] [] h 0 0 Q := by
  intro  h    J Sm
  refine x_vret rfl rfl ?_
  exact hQ _ J Sm
set_option maxRecDepth 100000 in
set_option maxHeartbeats 4000000 in
theorem ct_X3_place_r87_c8_138 {Dy : jH → Prop} {h0 : jH} {Q : Option Value → jH → Prop} {R61 : Int} (hD : jDk Dy) (hQ : ∀ h', jJ jSgX Dy h' → jSm fp_X3_place_r87_c8 h0 h' → Q none h') (k61 : ∀ (l2 : Int32) (l3 : Int32) (l4 : Int32) (l5 : Int32) (h : jH), 9 - l5.toInt < R61 → 1 ≤ l2.toInt ∧ l2.toInt ≤ 8 → (-1) ≤ l4.toInt ∧ l4.toInt ≤ 8 → 0 ≤ l5.toInt ∧ l5.toInt ≤ 9 → jJ jSgX Dy h → jSm fp_X3_place_r87_c8 h0 h → jX m_X3_place 4 0 0 61 [(0, .ref 87), (1, .int 8), (2, .int l2), (3, .int l3), (4, .int l4), (5, .int l5)] [] h 0 0 Q) : ∀ (l2 : Int32) (l3 : Int32) (l4 : Int32) (l5 : Int32) (h : jH), 1 ≤ l2.toInt ∧ l2.toInt ≤ 8 → (-1) ≤ l4.toInt ∧ l4.toInt ≤ 8 → 0 ≤ l5.toInt ∧ l5.toInt ≤ 8 → 9 - l5.toInt ≤ R61 → jJ jSgX Dy h → jSm fp_X3_place_r87_c8 h0 h → jX m_X3_place 4 0 0 138 [(0, .ref 87), (1, .int 8), (2, .int l2), (3, .int l3), (4, .int l4), (5, .int l5)] [] h 0 0 Q := by
  intro l2 l3 l4 l5 h y0 y1 y2  m61 J Sm
  have el3 := jfull l3
  refine z_iinc (x := l5) (ls' := fun v1 => [(5, .int v1), (0, .ref 87), (1, .int 8), (2, .int l2), (3, .int l3), (4, .int l4)]) rfl rfl rfl jko_1 (by omega) rfl (fun _ => rfl) (fun v1 ev1 => ?_)
  refine x_goto (tgt := 61) rfl rfl ?_
  exact jX.sub (jsb_c rfl (jsb_c rfl (jsb_c rfl (jsb_c rfl (jsb_c rfl (jsb_c rfl jsb_n)))))) (k61 l2 l3 l4 v1 h (by omega) (jr_of rfl (by omega)) (jr_of rfl (by omega)) (jr_of rfl (by omega)) J Sm)
set_option maxRecDepth 100000 in
set_option maxHeartbeats 4000000 in
theorem ct_X3_place_r87_c8_131 {Dy : jH → Prop} {h0 : jH} {Q : Option Value → jH → Prop} {R61 : Int} (hD : jDk Dy) (hQ : ∀ h', jJ jSgX Dy h' → jSm fp_X3_place_r87_c8 h0 h' → Q none h') (k61 : ∀ (l2 : Int32) (l3 : Int32) (l4 : Int32) (l5 : Int32) (h : jH), 9 - l5.toInt < R61 → 1 ≤ l2.toInt ∧ l2.toInt ≤ 8 → (-1) ≤ l4.toInt ∧ l4.toInt ≤ 8 → 0 ≤ l5.toInt ∧ l5.toInt ≤ 9 → jJ jSgX Dy h → jSm fp_X3_place_r87_c8 h0 h → jX m_X3_place 4 0 0 61 [(0, .ref 87), (1, .int 8), (2, .int l2), (3, .int l3), (4, .int l4), (5, .int l5)] [] h 0 0 Q) : ∀ (l2 : Int32) (l3 : Int32) (l4 : Int32) (l5 : Int32) (l6 : Int32) (s0 : Int32) (h : jH), 1 ≤ l2.toInt ∧ l2.toInt ≤ 8 → (-1) ≤ l4.toInt ∧ l4.toInt ≤ 8 → 0 ≤ l5.toInt ∧ l5.toInt ≤ 8 → 0 ≤ l6.toInt ∧ l6.toInt ≤ 2147483647 → 1 ≤ s0.toInt ∧ s0.toInt ≤ 9 → 9 - l5.toInt ≤ R61 → jJ jSgX Dy h → jSm fp_X3_place_r87_c8 h0 h → jX m_X3_place 4 0 0 131 [(0, .ref 87), (1, .int 8), (2, .int l2), (3, .int l3), (4, .int l4), (5, .int l5), (6, .int l6)] [.int s0, .int 9, .ref 87] h 0 0 Q := by
  intro l2 l3 l4 l5 l6 s0 h y0 y1 y2 y3 y4  m61 J Sm
  have el3 := jfull l3
  refine x_iloadn (x := l3) rfl rfl ?_
  refine x_iload (x := l6) rfl rfl ?_
  refine z_iadd0 rfl (fun v1 => ?_)
  have ev1 := jfull v1
  refine x_inv (N := m_X3_place) (As := [.int 9, .int s0, .int v1]) (b := 87) (st := []) (d' := 3) (mc := 0) (ms := 0) (host := "") 3 rfl t_X3_place ⟨Or.inl q_3_80, i_X3_place.1, i_X3_place.2⟩ ⟨by decide, rfl⟩ (congrArg Prod.fst (J.1.1 87 (3, 14) rfl)) rfl (by decide) rfl rfl ⟨by decide, by decide⟩ (sf_X3_place_r87_c9 (jr_of rfl (by omega)) hD J  (fun h J S2 => ?_))
  have Sm := jSm_tr rfl Sm S2
  show jX m_X3_place 4 0 0 138 [(0, .ref 87), (1, .int 8), (2, .int l2), (3, .int l3), (4, .int l4), (5, .int l5), (6, .int l6)] [] _ 0 0 _
  exact jX.sub (jsb_c rfl (jsb_c rfl (jsb_c rfl (jsb_c rfl (jsb_c rfl (jsb_c rfl jsb_n)))))) (ct_X3_place_r87_c8_138 hD hQ k61 l2 l3 l4 l5 h (jr_of rfl (by omega)) (jr_of rfl (by omega)) (jr_of rfl (by omega)) (by omega) J Sm)
set_option maxRecDepth 100000 in
set_option maxHeartbeats 4000000 in
theorem ct_X3_place_r87_c8_106 {Dy : jH → Prop} {h0 : jH} {Q : Option Value → jH → Prop} {R61 : Int} (hD : jDk Dy) (hQ : ∀ h', jJ jSgX Dy h' → jSm fp_X3_place_r87_c8 h0 h' → Q none h') (k61 : ∀ (l2 : Int32) (l3 : Int32) (l4 : Int32) (l5 : Int32) (h : jH), 9 - l5.toInt < R61 → 1 ≤ l2.toInt ∧ l2.toInt ≤ 8 → (-1) ≤ l4.toInt ∧ l4.toInt ≤ 8 → 0 ≤ l5.toInt ∧ l5.toInt ≤ 9 → jJ jSgX Dy h → jSm fp_X3_place_r87_c8 h0 h → jX m_X3_place 4 0 0 61 [(0, .ref 87), (1, .int 8), (2, .int l2), (3, .int l3), (4, .int l4), (5, .int l5)] [] h 0 0 Q) : ∀ (l2 : Int32) (l3 : Int32) (l4 : Int32) (l5 : Int32) (l6 : Int32) (h : jH), 1 ≤ l2.toInt ∧ l2.toInt ≤ 8 → (-1) ≤ l4.toInt ∧ l4.toInt ≤ 8 → 0 ≤ l5.toInt ∧ l5.toInt ≤ 8 → 0 ≤ l6.toInt ∧ l6.toInt ≤ 2147483647 → 9 - l5.toInt ≤ R61 → jJ jSgX Dy h → jSm fp_X3_place_r87_c8 h0 h → jX m_X3_place 4 0 0 106 [(0, .ref 87), (1, .int 8), (2, .int l2), (3, .int l3), (4, .int l4), (5, .int l5), (6, .int l6)] [] h 0 0 Q := by
  intro l2 l3 l4 l5 l6 h y0 y1 y2 y3  m61 J Sm
  have el3 := jfull l3
  refine x_aloadn (x := 87) rfl rfl ?_
  refine z_getR (N := 14) (b := 91) 3 6 rfl f_3_25 rfl J rfl 11142 ⟨rfl, rfl⟩ rfl ?_
  refine x_iloadn (x := 8) rfl rfl ?_
  refine x_iload (x := l5) rfl rfl ?_
  refine z_iast (N := 9) (l := 0) (u := 9) (w := l5.toInt) rfl hD J Sm rfl rfl jk_8 (by omega) rfl (wr_91 (fun q1 q2 q3 q4 => by omega)) rfl (fun h w1 J Sm => ?_)
  refine x_aloadn (x := 87) rfl rfl ?_
  refine x_iloadn (x := 8) rfl rfl ?_
  refine x_iconst (v := 1) rfl ki_1 ?_
  refine y_iadd (v := 9) rfl (by decide) ?_
  refine x_iload (x := l5) rfl rfl ?_
  refine x_iloadn (x := l2) rfl rfl ?_
  refine x_icne (tgt := 130) rfl rfl (ti_ne rfl rfl ⟨fun c2 => ?_, fun c2 => ?_⟩)
  ·
    refine x_iloadn (x := l2) rfl rfl ?_
    exact jX.sub (jsb_c rfl (jsb_c rfl (jsb_c rfl (jsb_c rfl (jsb_c rfl (jsb_c rfl (jsb_c rfl jsb_n))))))) (ct_X3_place_r87_c8_131 hD hQ k61 l2 l3 l4 l5 l6 l2 h (jr_of rfl (by omega)) (jr_of rfl (by omega)) (jr_of rfl (by omega)) (jr_of rfl (by omega)) (jr_of rfl (by omega)) (by omega) J Sm)
  ·
    refine x_iloadn (x := l2) rfl rfl ?_
    refine x_iconst (v := 1) rfl ki_1 ?_
    refine z_iadd rfl rfl jk_1 (by omega) (fun v3 ev3 => ?_)
    refine x_goto (tgt := 131) rfl rfl ?_
    exact jX.sub (jsb_c rfl (jsb_c rfl (jsb_c rfl (jsb_c rfl (jsb_c rfl (jsb_c rfl (jsb_c rfl jsb_n))))))) (ct_X3_place_r87_c8_131 hD hQ k61 l2 l3 l4 l5 l6 v3 h (jr_of rfl (by omega)) (jr_of rfl (by omega)) (jr_of rfl (by omega)) (jr_of rfl (by omega)) (jr_of rfl (by omega)) (by omega) J Sm)
set_option maxRecDepth 100000 in
set_option maxHeartbeats 4000000 in
theorem ct_X3_place_r87_c8_61 {Dy : jH → Prop} {h0 : jH} {Q : Option Value → jH → Prop} (hD : jDk Dy) (hQ : ∀ h', jJ jSgX Dy h' → jSm fp_X3_place_r87_c8 h0 h' → Q none h') : ∀ r : Nat, ∀ (l2 : Int32) (l3 : Int32) (l4 : Int32) (l5 : Int32) (h : jH), 9 - l5.toInt < (r : Int) → 1 ≤ l2.toInt ∧ l2.toInt ≤ 8 → (-1) ≤ l4.toInt ∧ l4.toInt ≤ 8 → 0 ≤ l5.toInt ∧ l5.toInt ≤ 9 → jJ jSgX Dy h → jSm fp_X3_place_r87_c8 h0 h → jX m_X3_place 4 0 0 61 [(0, .ref 87), (1, .int 8), (2, .int l2), (3, .int l3), (4, .int l4), (5, .int l5)] [] h 0 0 Q := by
  intro r
  induction r with
  | zero =>
    intro l2 l3 l4 l5 h hm y0 y1 y2   J Sm
    exfalso
    omega
  | succ r ih =>
    intro l2 l3 l4 l5 h hm y0 y1 y2   J Sm
    have el3 := jfull l3
    refine x_iload (x := l5) rfl rfl ?_
    refine x_iloadn (x := l2) rfl rfl ?_
    refine x_icgt (tgt := 144) rfl rfl (ti_gt rfl rfl ⟨fun c1 => ?_, fun c1 => ?_⟩)
    ·
      exact jX.sub jsb_n (ct_X3_place_r87_c8_144 hD hQ  h J Sm)
    ·
      refine x_iload (x := l5) rfl rfl ?_
      refine x_bipush (v := 10) rfl kb_10 ?_
      refine x_icge (tgt := 144) rfl rfl (ti_ge rfl jk_10 (br_f (by omega) ?_))
      refine x_aloadn (x := 87) rfl rfl ?_
      refine z_getR (N := 14) (b := 93) 3 8 rfl f_3_31 rfl J rfl 11144 ⟨rfl, rfl⟩ rfl ?_
      refine x_iloadn (x := 8) rfl rfl ?_
      refine x_bipush (v := 10) rfl kb_10 ?_
      refine y_imul (v := 80) rfl (by decide) ?_
      refine x_iload (x := l5) rfl rfl ?_
      refine z_iadd rfl jk_80 rfl (by omega) (fun v2 ev2 => ?_)
      refine z_iald0 (N := 90) rfl J rfl rfl (by omega) (fun v3 qv3 => ?_)
      have ev3 := jfull v3
      refine x_istore (ls' := [(6, .int v3), (0, .ref 87), (1, .int 8), (2, .int l2), (3, .int l3), (4, .int l4), (5, .int l5)]) rfl rfl rfl ?_
      refine x_iload (x := v3) rfl rfl ?_
      refine x_iflt (tgt := 138) rfl rfl (ti_lt rfl jk_0 ⟨fun c4 => ?_, fun c4 => ?_⟩)
      ·
        exact jX.sub (jsb_c rfl (jsb_c rfl (jsb_c rfl (jsb_c rfl (jsb_c rfl (jsb_c rfl jsb_n)))))) (ct_X3_place_r87_c8_138 hD hQ ih l2 l3 l4 l5 h (jr_of rfl (by omega)) (jr_of rfl (by omega)) (jr_of rfl (by omega)) (by omega) J Sm)
      ·
        refine x_iload (x := l4) rfl rfl ?_
        refine x_iconst (v := (-1)) rfl ki_m1 ?_
        refine x_iceq (tgt := 106) rfl rfl (ti_eq rfl jk_m1 ⟨fun c5 => ?_, fun c5 => ?_⟩)
        ·
          exact jX.sub (jsb_c rfl (jsb_c rfl (jsb_c rfl (jsb_c rfl (jsb_c rfl (jsb_c rfl (jsb_c rfl jsb_n))))))) (ct_X3_place_r87_c8_106 hD hQ ih l2 l3 l4 l5 v3 h (jr_of rfl (by omega)) (jr_of rfl (by omega)) (jr_of rfl (by omega)) (jr_of rfl (by omega)) (by omega) J Sm)
        ·
          refine x_iload (x := l4) rfl rfl ?_
          refine x_iload (x := l5) rfl rfl ?_
          refine x_icne (tgt := 138) rfl rfl (ti_ne rfl rfl ⟨fun c6 => ?_, fun c6 => ?_⟩)
          ·
            exact jX.sub (jsb_c rfl (jsb_c rfl (jsb_c rfl (jsb_c rfl (jsb_c rfl (jsb_c rfl jsb_n)))))) (ct_X3_place_r87_c8_138 hD hQ ih l2 l3 l4 l5 h (jr_of rfl (by omega)) (jr_of rfl (by omega)) (jr_of rfl (by omega)) (by omega) J Sm)
          ·
            exact jX.sub (jsb_c rfl (jsb_c rfl (jsb_c rfl (jsb_c rfl (jsb_c rfl (jsb_c rfl (jsb_c rfl jsb_n))))))) (ct_X3_place_r87_c8_106 hD hQ ih l2 l3 l4 l5 v3 h (jr_of rfl (by omega)) (jr_of rfl (by omega)) (jr_of rfl (by omega)) (jr_of rfl (by omega)) (by omega) J Sm)
set_option maxRecDepth 100000 in
set_option maxHeartbeats 4000000 in
theorem ct_X3_place_r87_c8_56 {Dy : jH → Prop} {h0 : jH} {Q : Option Value → jH → Prop} (hD : jDk Dy) (hQ : ∀ h', jJ jSgX Dy h' → jSm fp_X3_place_r87_c8 h0 h' → Q none h') : ∀ (l2 : Int32) (l3 : Int32) (s0 : Int32) (h : jH), 1 ≤ l2.toInt ∧ l2.toInt ≤ 8 → 0 ≤ s0.toInt ∧ s0.toInt ≤ 8 → jJ jSgX Dy h → jSm fp_X3_place_r87_c8 h0 h → jX m_X3_place 4 0 0 56 [(0, .ref 87), (1, .int 8), (2, .int l2), (3, .int l3)] [.int s0] h 0 0 Q := by
  intro l2 l3 s0 h y0 y1   J Sm
  have el3 := jfull l3
  refine x_istore (ls' := [(4, .int s0), (0, .ref 87), (1, .int 8), (2, .int l2), (3, .int l3)]) rfl rfl rfl ?_
  refine x_iconst (v := 0) rfl ki_0 ?_
  refine x_istore (ls' := [(5, .int 0), (4, .int s0), (0, .ref 87), (1, .int 8), (2, .int l2), (3, .int l3)]) rfl rfl rfl ?_
  exact jX.sub (jsb_c rfl (jsb_c rfl (jsb_c rfl (jsb_c rfl (jsb_c rfl (jsb_c rfl jsb_n)))))) (ct_X3_place_r87_c8_61 hD hQ  10 l2 l3 s0 0 h (by have := jk_0; omega) (jr_of rfl (by omega)) (jr_of rfl (by omega)) (jr_of jk_0 (by omega)) J Sm)
set_option maxRecDepth 100000 in
set_option maxHeartbeats 4000000 in
theorem ct_X3_place_r87_c8_100056 {Dy : jH → Prop} {h0 : jH} {Q : Option Value → jH → Prop} (hD : jDk Dy) (hQ : ∀ h', jJ jSgX Dy h' → jSm fp_X3_place_r87_c8 h0 h' → Q none h') : ∀ (l2 : Int32) (l3 : Int32) (h : jH), 1 ≤ l2.toInt ∧ l2.toInt ≤ 8 → jJ jSgX Dy h → jSm fp_X3_place_r87_c8 h0 h → jX m_X3_place 4 0 0 56 [(0, .ref 87), (1, .int 8), (2, .int l2), (3, .int l3)] [.int (-1)] h 0 0 Q := by
  intro l2 l3 h y0   J Sm
  have el3 := jfull l3
  refine x_istore (ls' := [(4, .int (-1)), (0, .ref 87), (1, .int 8), (2, .int l2), (3, .int l3)]) rfl rfl rfl ?_
  refine x_iconst (v := 0) rfl ki_0 ?_
  refine x_istore (ls' := [(5, .int 0), (4, .int (-1)), (0, .ref 87), (1, .int 8), (2, .int l2), (3, .int l3)]) rfl rfl rfl ?_
  exact jX.sub (jsb_c rfl (jsb_c rfl (jsb_c rfl (jsb_c rfl (jsb_c rfl (jsb_c rfl jsb_n)))))) (ct_X3_place_r87_c8_61 hD hQ  10 l2 l3 (-1) 0 h (by have := jk_0; omega) (jr_of rfl (by omega)) (jr_of jk_m1 (by omega)) (jr_of jk_0 (by omega)) J Sm)
set_option maxRecDepth 100000 in
set_option maxHeartbeats 4000000 in
theorem sf_X3_place_r87_c8 {Dy : jH → Prop} {h : jH} {Q : Option Value → jH → Prop} {a2 : Int32} {a3 : Int32} (y2 : 1 ≤ a2.toInt ∧ a2.toInt ≤ 8) (hD : jDk Dy) (J : jJ jSgX Dy h) (hQ : ∀ h', jJ jSgX Dy h' → jSm fp_X3_place_r87_c8 h h' → Q none h') : jC m_X3_place 4 0 0 [.ref 87, .int 8, .int a2, .int a3] h Q := by
  refine jC.of rfl k_X3_place rfl ?_
  have Sm := jSm_rf fp_X3_place_r87_c8 h
  have ea3 := jfull a3
  show jX m_X3_place 4 0 0 0 [(0, .ref 87), (1, .int 8), (2, .int a2), (3, .int a3)] [] _ 0 0 _
  refine x_iloadn (x := 8) rfl rfl ?_
  refine x_iflt (tgt := 18) rfl rfl (ti_lt jk_8 jk_0 (br_f (by omega) ?_))
  refine x_iloadn (x := 8) rfl rfl ?_
  refine x_aloadn (x := 87) rfl rfl ?_
  refine z_getI (N := 14) 3 3 rfl f_3_15 rfl J rfl sg_87_3_4_1_0_1 (fun v1 qv1 ev1 => ?_)
  refine x_icge (tgt := 18) rfl rfl (ti_ge jk_8 rfl ⟨fun c2 => ?_, fun c2 => ?_⟩)
  ·
    exact jX.sub (jsb_c rfl (jsb_c rfl (jsb_c rfl jsb_n))) (ct_X3_place_r87_c8_18 hD hQ  a2 a3 h (jr_of rfl (by omega)) J Sm)
  ·
    refine x_iloadn (x := 8) rfl rfl ?_
    refine x_bipush (v := 9) rfl kb_9 ?_
    refine x_iclt (tgt := 25) rfl rfl (ti_lt jk_8 jk_9 (br_t (by omega) ?_))
    refine x_aloadn (x := 87) rfl rfl ?_
    refine x_iloadn (x := 8) rfl rfl ?_
    refine x_iloadn (x := a2) rfl rfl ?_
    refine x_inv (N := m_X3_readGains) (As := [.int 8, .int a2]) (b := 87) (st := []) (d' := 1) (mc := 0) (ms := 0) (host := "") 3 rfl t_X3_readGains ⟨Or.inl q_3_97, i_X3_readGains.1, i_X3_readGains.2⟩ ⟨by decide, rfl⟩ (congrArg Prod.fst (J.1.1 87 (3, 14) rfl)) rfl (by decide) rfl rfl ⟨by decide, by decide⟩ (sf_X3_readGains_r87 (jr_of jk_8 (by omega)) (jr_of rfl (by omega)) hD J  (fun h J S3 => ?_))
    have Sm := jSm_tr rfl Sm S3
    show jX m_X3_place 4 0 0 31 [(0, .ref 87), (1, .int 8), (2, .int a2), (3, .int a3)] [] _ 0 0 _
    refine x_aloadn (x := 87) rfl rfl ?_
    refine z_getR (N := 14) (b := 90) 3 5 rfl f_3_22 rfl J rfl 11141 ⟨rfl, rfl⟩ rfl ?_
    refine x_iloadn (x := 8) rfl rfl ?_
    refine z_iald (N := 9) rfl J rfl sg_90_0_9_1_0_1 jk_8 (by omega) (fun v4 qv4 ev4 => ?_)
    refine x_iconst (v := (-1)) rfl ki_m1 ?_
    refine x_icne (tgt := 45) rfl rfl (ti_ne rfl jk_m1 ⟨fun c5 => ?_, fun c5 => ?_⟩)
    ·
      refine x_aloadn (x := 87) rfl rfl ?_
      refine z_getR (N := 14) (b := 91) 3 6 rfl f_3_25 rfl J rfl 11142 ⟨rfl, rfl⟩ rfl ?_
      refine x_aloadn (x := 87) rfl rfl ?_
      refine z_getR (N := 14) (b := 90) 3 5 rfl f_3_22 rfl J rfl 11141 ⟨rfl, rfl⟩ rfl ?_
      refine x_iloadn (x := 8) rfl rfl ?_
      refine z_ialdM (N := 9) (v := v4) rfl J rfl jk_8 (by omega) qv4 ?_
      refine z_iald (N := 9) rfl J rfl sg_91_0_9_1_0_1 rfl (by omega) (fun v6 qv6 ev6 => ?_)
      exact jX.sub (jsb_c rfl (jsb_c rfl (jsb_c rfl (jsb_c rfl jsb_n)))) (ct_X3_place_r87_c8_56 hD hQ  a2 a3 v6 h (jr_of rfl (by omega)) (jr_of rfl (by omega)) J Sm)
    ·
      refine x_iconst (v := (-1)) rfl ki_m1 ?_
      refine x_goto (tgt := 56) rfl rfl ?_
      exact jX.sub (jsb_c rfl (jsb_c rfl (jsb_c rfl (jsb_c rfl jsb_n)))) (ct_X3_place_r87_c8_100056 hD hQ  a2 a3 h (jr_of rfl (by omega)) J Sm)
def fp_X3_place_r87_c7 : jFp := [(87, 10, 11), (87, 11, 12), (91, 0, 9), (92, 0, 9), (93, 0, 90), (94, 0, 14401)]
set_option maxRecDepth 100000 in
set_option maxHeartbeats 4000000 in
theorem ct_X3_place_r87_c7_18 {Dy : jH → Prop} {h0 : jH} {Q : Option Value → jH → Prop} (hD : jDk Dy) (hQ : ∀ h', jJ jSgX Dy h' → jSm fp_X3_place_r87_c7 h0 h' → Q none h') : ∀ (l2 : Int32) (l3 : Int32) (h : jH), 1 ≤ l2.toInt ∧ l2.toInt ≤ 7 → jJ jSgX Dy h → jSm fp_X3_place_r87_c7 h0 h → jX m_X3_place 5 0 0 18 [(0, .ref 87), (2, .int l2), (3, .int l3)] [] h 0 0 Q := by
  intro l2 l3 h y0   J Sm
  have el3 := jfull l3
  refine x_aloadn (x := 87) rfl rfl ?_
  refine x_iloadn (x := l2) rfl rfl ?_
  refine x_iloadn (x := l3) rfl rfl ?_
  refine x_inv (N := m_X3_note) (As := [.int l2, .int l3]) (b := 87) (st := []) (d' := 4) (mc := 0) (ms := 0) (host := "") 3 rfl t_X3_note ⟨Or.inl q_3_93, i_X3_note.1, i_X3_note.2⟩ ⟨by decide, rfl⟩ (congrArg Prod.fst (J.1.1 87 (3, 14) rfl)) rfl (by decide) rfl rfl ⟨by decide, by decide⟩ (jC.of rfl k_X3_note rfl ?_)
  show jX m_X3_note 4 0 0 0 [(0, .ref 87), (1, .int l2), (2, .int l3)] [] _ 0 0 _
  refine x_iloadn (x := l3) rfl rfl ?_
  refine x_iflt (tgt := 23) rfl rfl (ti_lt rfl jk_0 ⟨fun c1 => ?_, fun c1 => ?_⟩)
  ·
    refine x_iloadn (x := l3) rfl rfl ?_
    refine x_aloadn (x := 87) rfl rfl ?_
    refine z_getI (N := 14) 3 10 rfl f_3_37 rfl J rfl sg_87_10_11_1_0_1 (fun v2 qv2 ev2 => ?_)
    refine x_icgt (tgt := 47) rfl rfl (ti_gt rfl rfl (br_f (by omega) ?_))
    refine x_iloadn (x := l3) rfl rfl ?_
    refine x_aloadn (x := 87) rfl rfl ?_
    refine z_getM (N := 14) (v := v2) 3 10 rfl f_3_37 rfl J rfl qv2 ?_
    refine x_icne (tgt := 72) rfl rfl (ti_ne rfl rfl ⟨fun c3 => ?_, fun c3 => ?_⟩)
    ·
      refine x_vret rfl rfl ?_
      show jX m_X3_place 5 0 0 24 [(0, .ref 87), (2, .int l2), (3, .int l3)] [] _ 0 0 _
      refine x_vret rfl rfl ?_
      exact hQ _ J Sm
    ·
      refine x_iloadn (x := l2) rfl rfl ?_
      refine x_aloadn (x := 87) rfl rfl ?_
      refine z_getI (N := 14) 3 11 rfl f_3_40 rfl J rfl sg_87_11_12_1_0_1 (fun v4 qv4 ev4 => ?_)
      refine x_icge (tgt := 72) rfl rfl (ti_ge rfl rfl ⟨fun c5 => ?_, fun c5 => ?_⟩)
      ·
        refine x_vret rfl rfl ?_
        show jX m_X3_place 5 0 0 24 [(0, .ref 87), (2, .int l2), (3, .int l3)] [] _ 0 0 _
        refine x_vret rfl rfl ?_
        exact hQ _ J Sm
      ·
        refine x_aloadn (x := 87) rfl rfl ?_
        refine x_iloadn (x := l3) rfl rfl ?_
        refine z_putI (N := 14) (w := l3.toInt) 3 10 rfl f_3_37 rfl (jfin_no TX3 RX3 14 rfl rfl) hD J Sm rfl rfl rfl (pw_87_10 (by omega)) rfl (fun h w6 J Sm => ?_)
        refine x_aloadn (x := 87) rfl rfl ?_
        refine x_iloadn (x := l2) rfl rfl ?_
        refine z_putI (N := 14) (w := l2.toInt) 3 11 rfl f_3_40 rfl (jfin_no TX3 RX3 14 rfl rfl) hD J Sm rfl rfl rfl (pw_87_11 (by omega)) rfl (fun h w7 J Sm => ?_)
        refine x_aloadn (x := 87) rfl rfl ?_
        refine z_getR (N := 14) (b := 91) 3 6 rfl f_3_25 rfl J rfl 11142 ⟨rfl, rfl⟩ rfl ?_
        refine x_iconst (v := 0) rfl ki_0 ?_
        refine x_aloadn (x := 87) rfl rfl ?_
        refine z_getR (N := 14) (b := 92) 3 7 rfl f_3_28 rfl J rfl 11143 ⟨rfl, rfl⟩ rfl ?_
        refine x_iconst (v := 0) rfl ki_0 ?_
        refine x_bipush (v := 9) rfl kb_9 ?_
        refine z_cpi (N1 := 9) (N2 := 9) rfl ⟨q_3_100, jcp_w⟩ (by decide) rfl hD J Sm rfl rfl rfl rfl jk_0 jk_0 jk_9 (by omega) (cp_92 (fun k k1 k2 k3 => by have k4 := k3.1; have k5 := k3.2.1; have k6 := k3.2.2; simp only at k4 k5 k6; exact jcp_in J sg_91_0_9_1_0_1 rfl (by omega) (by decide))) rfl (fun h w8 J Sm => ?_)
        refine x_vret rfl rfl ?_
        show jX m_X3_place 5 0 0 24 [(0, .ref 87), (2, .int l2), (3, .int l3)] [] _ 0 0 _
        refine x_vret rfl rfl ?_
        exact hQ _ J Sm
  ·
    refine x_iloadn (x := l3) rfl rfl ?_
    refine x_aloadn (x := 87) rfl rfl ?_
    refine z_getR (N := 14) (b := 94) 3 9 rfl f_3_34 rfl J rfl 11145 ⟨rfl, rfl⟩ rfl ?_
    refine z_alen (N := 14401) (v := 14401) rfl J rfl rfl (by decide) ?_
    refine x_icge (tgt := 23) rfl rfl (ti_ge rfl jk_14401 ⟨fun c9 => ?_, fun c9 => ?_⟩)
    ·
      refine x_iloadn (x := l3) rfl rfl ?_
      refine x_aloadn (x := 87) rfl rfl ?_
      refine z_getI (N := 14) 3 10 rfl f_3_37 rfl J rfl sg_87_10_11_1_0_1 (fun v10 qv10 ev10 => ?_)
      refine x_icgt (tgt := 47) rfl rfl (ti_gt rfl rfl ⟨fun c11 => ?_, fun c11 => ?_⟩)
      ·
        refine x_aloadn (x := 87) rfl rfl ?_
        refine x_iloadn (x := l3) rfl rfl ?_
        refine z_putI (N := 14) (w := l3.toInt) 3 10 rfl f_3_37 rfl (jfin_no TX3 RX3 14 rfl rfl) hD J Sm rfl rfl rfl (pw_87_10 (by omega)) rfl (fun h w12 J Sm => ?_)
        refine x_aloadn (x := 87) rfl rfl ?_
        refine x_iloadn (x := l2) rfl rfl ?_
        refine z_putI (N := 14) (w := l2.toInt) 3 11 rfl f_3_40 rfl (jfin_no TX3 RX3 14 rfl rfl) hD J Sm rfl rfl rfl (pw_87_11 (by omega)) rfl (fun h w13 J Sm => ?_)
        refine x_aloadn (x := 87) rfl rfl ?_
        refine z_getR (N := 14) (b := 91) 3 6 rfl f_3_25 rfl J rfl 11142 ⟨rfl, rfl⟩ rfl ?_
        refine x_iconst (v := 0) rfl ki_0 ?_
        refine x_aloadn (x := 87) rfl rfl ?_
        refine z_getR (N := 14) (b := 92) 3 7 rfl f_3_28 rfl J rfl 11143 ⟨rfl, rfl⟩ rfl ?_
        refine x_iconst (v := 0) rfl ki_0 ?_
        refine x_bipush (v := 9) rfl kb_9 ?_
        refine z_cpi (N1 := 9) (N2 := 9) rfl ⟨q_3_100, jcp_w⟩ (by decide) rfl hD J Sm rfl rfl rfl rfl jk_0 jk_0 jk_9 (by omega) (cp_92 (fun k k1 k2 k3 => by have k4 := k3.1; have k5 := k3.2.1; have k6 := k3.2.2; simp only at k4 k5 k6; exact jcp_in J sg_91_0_9_1_0_1 rfl (by omega) (by decide))) rfl (fun h w14 J Sm => ?_)
        refine x_vret rfl rfl ?_
        show jX m_X3_place 5 0 0 24 [(0, .ref 87), (2, .int l2), (3, .int l3)] [] _ 0 0 _
        refine x_vret rfl rfl ?_
        exact hQ _ J Sm
      ·
        refine x_iloadn (x := l3) rfl rfl ?_
        refine x_aloadn (x := 87) rfl rfl ?_
        refine z_getM (N := 14) (v := v10) 3 10 rfl f_3_37 rfl J rfl qv10 ?_
        refine x_icne (tgt := 72) rfl rfl (ti_ne rfl rfl ⟨fun c15 => ?_, fun c15 => ?_⟩)
        ·
          refine x_vret rfl rfl ?_
          show jX m_X3_place 5 0 0 24 [(0, .ref 87), (2, .int l2), (3, .int l3)] [] _ 0 0 _
          refine x_vret rfl rfl ?_
          exact hQ _ J Sm
        ·
          refine x_iloadn (x := l2) rfl rfl ?_
          refine x_aloadn (x := 87) rfl rfl ?_
          refine z_getI (N := 14) 3 11 rfl f_3_40 rfl J rfl sg_87_11_12_1_0_1 (fun v16 qv16 ev16 => ?_)
          refine x_icge (tgt := 72) rfl rfl (ti_ge rfl rfl ⟨fun c17 => ?_, fun c17 => ?_⟩)
          ·
            refine x_vret rfl rfl ?_
            show jX m_X3_place 5 0 0 24 [(0, .ref 87), (2, .int l2), (3, .int l3)] [] _ 0 0 _
            refine x_vret rfl rfl ?_
            exact hQ _ J Sm
          ·
            refine x_aloadn (x := 87) rfl rfl ?_
            refine x_iloadn (x := l3) rfl rfl ?_
            refine z_putI (N := 14) (w := l3.toInt) 3 10 rfl f_3_37 rfl (jfin_no TX3 RX3 14 rfl rfl) hD J Sm rfl rfl rfl (pw_87_10 (by omega)) rfl (fun h w18 J Sm => ?_)
            refine x_aloadn (x := 87) rfl rfl ?_
            refine x_iloadn (x := l2) rfl rfl ?_
            refine z_putI (N := 14) (w := l2.toInt) 3 11 rfl f_3_40 rfl (jfin_no TX3 RX3 14 rfl rfl) hD J Sm rfl rfl rfl (pw_87_11 (by omega)) rfl (fun h w19 J Sm => ?_)
            refine x_aloadn (x := 87) rfl rfl ?_
            refine z_getR (N := 14) (b := 91) 3 6 rfl f_3_25 rfl J rfl 11142 ⟨rfl, rfl⟩ rfl ?_
            refine x_iconst (v := 0) rfl ki_0 ?_
            refine x_aloadn (x := 87) rfl rfl ?_
            refine z_getR (N := 14) (b := 92) 3 7 rfl f_3_28 rfl J rfl 11143 ⟨rfl, rfl⟩ rfl ?_
            refine x_iconst (v := 0) rfl ki_0 ?_
            refine x_bipush (v := 9) rfl kb_9 ?_
            refine z_cpi (N1 := 9) (N2 := 9) rfl ⟨q_3_100, jcp_w⟩ (by decide) rfl hD J Sm rfl rfl rfl rfl jk_0 jk_0 jk_9 (by omega) (cp_92 (fun k k1 k2 k3 => by have k4 := k3.1; have k5 := k3.2.1; have k6 := k3.2.2; simp only at k4 k5 k6; exact jcp_in J sg_91_0_9_1_0_1 rfl (by omega) (by decide))) rfl (fun h w20 J Sm => ?_)
            refine x_vret rfl rfl ?_
            show jX m_X3_place 5 0 0 24 [(0, .ref 87), (2, .int l2), (3, .int l3)] [] _ 0 0 _
            refine x_vret rfl rfl ?_
            exact hQ _ J Sm
    ·
      refine x_aloadn (x := 87) rfl rfl ?_
      refine z_getR (N := 14) (b := 94) 3 9 rfl f_3_34 rfl J rfl 11145 ⟨rfl, rfl⟩ rfl ?_
      refine x_iloadn (x := l3) rfl rfl ?_
      refine x_dup2 rfl rfl rfl ?_
      refine z_iald0 (N := 14401) rfl J rfl rfl (by omega) (fun v21 qv21 => ?_)
      have ev21 := jfull v21
      refine x_iconst (v := 1) rfl ki_1 ?_
      refine z_iadd0 rfl (fun v22 => ?_)
      have ev22 := jfull v22
      refine z_iast (N := 14401) (l := 0) (u := 14401) (w := v22.toInt) rfl hD J Sm rfl rfl rfl (by omega) rfl (wr_94) rfl (fun h w23 J Sm => ?_)
      refine x_iloadn (x := l3) rfl rfl ?_
      refine x_aloadn (x := 87) rfl rfl ?_
      refine z_getI (N := 14) 3 10 rfl f_3_37 rfl J rfl sg_87_10_11_1_0_1 (fun v24 qv24 ev24 => ?_)
      refine x_icgt (tgt := 47) rfl rfl (ti_gt rfl rfl ⟨fun c25 => ?_, fun c25 => ?_⟩)
      ·
        refine x_aloadn (x := 87) rfl rfl ?_
        refine x_iloadn (x := l3) rfl rfl ?_
        refine z_putI (N := 14) (w := l3.toInt) 3 10 rfl f_3_37 rfl (jfin_no TX3 RX3 14 rfl rfl) hD J Sm rfl rfl rfl (pw_87_10 (by omega)) rfl (fun h w26 J Sm => ?_)
        refine x_aloadn (x := 87) rfl rfl ?_
        refine x_iloadn (x := l2) rfl rfl ?_
        refine z_putI (N := 14) (w := l2.toInt) 3 11 rfl f_3_40 rfl (jfin_no TX3 RX3 14 rfl rfl) hD J Sm rfl rfl rfl (pw_87_11 (by omega)) rfl (fun h w27 J Sm => ?_)
        refine x_aloadn (x := 87) rfl rfl ?_
        refine z_getR (N := 14) (b := 91) 3 6 rfl f_3_25 rfl J rfl 11142 ⟨rfl, rfl⟩ rfl ?_
        refine x_iconst (v := 0) rfl ki_0 ?_
        refine x_aloadn (x := 87) rfl rfl ?_
        refine z_getR (N := 14) (b := 92) 3 7 rfl f_3_28 rfl J rfl 11143 ⟨rfl, rfl⟩ rfl ?_
        refine x_iconst (v := 0) rfl ki_0 ?_
        refine x_bipush (v := 9) rfl kb_9 ?_
        refine z_cpi (N1 := 9) (N2 := 9) rfl ⟨q_3_100, jcp_w⟩ (by decide) rfl hD J Sm rfl rfl rfl rfl jk_0 jk_0 jk_9 (by omega) (cp_92 (fun k k1 k2 k3 => by have k4 := k3.1; have k5 := k3.2.1; have k6 := k3.2.2; simp only at k4 k5 k6; exact jcp_in J sg_91_0_9_1_0_1 rfl (by omega) (by decide))) rfl (fun h w28 J Sm => ?_)
        refine x_vret rfl rfl ?_
        show jX m_X3_place 5 0 0 24 [(0, .ref 87), (2, .int l2), (3, .int l3)] [] _ 0 0 _
        refine x_vret rfl rfl ?_
        exact hQ _ J Sm
      ·
        refine x_iloadn (x := l3) rfl rfl ?_
        refine x_aloadn (x := 87) rfl rfl ?_
        refine z_getM (N := 14) (v := v24) 3 10 rfl f_3_37 rfl J rfl qv24 ?_
        refine x_icne (tgt := 72) rfl rfl (ti_ne rfl rfl ⟨fun c29 => ?_, fun c29 => ?_⟩)
        ·
          refine x_vret rfl rfl ?_
          show jX m_X3_place 5 0 0 24 [(0, .ref 87), (2, .int l2), (3, .int l3)] [] _ 0 0 _
          refine x_vret rfl rfl ?_
          exact hQ _ J Sm
        ·
          refine x_iloadn (x := l2) rfl rfl ?_
          refine x_aloadn (x := 87) rfl rfl ?_
          refine z_getI (N := 14) 3 11 rfl f_3_40 rfl J rfl sg_87_11_12_1_0_1 (fun v30 qv30 ev30 => ?_)
          refine x_icge (tgt := 72) rfl rfl (ti_ge rfl rfl ⟨fun c31 => ?_, fun c31 => ?_⟩)
          ·
            refine x_vret rfl rfl ?_
            show jX m_X3_place 5 0 0 24 [(0, .ref 87), (2, .int l2), (3, .int l3)] [] _ 0 0 _
            refine x_vret rfl rfl ?_
            exact hQ _ J Sm
          ·
            refine x_aloadn (x := 87) rfl rfl ?_
            refine x_iloadn (x := l3) rfl rfl ?_
            refine z_putI (N := 14) (w := l3.toInt) 3 10 rfl f_3_37 rfl (jfin_no TX3 RX3 14 rfl rfl) hD J Sm rfl rfl rfl (pw_87_10 (by omega)) rfl (fun h w32 J Sm => ?_)
            refine x_aloadn (x := 87) rfl rfl ?_
            refine x_iloadn (x := l2) rfl rfl ?_
            refine z_putI (N := 14) (w := l2.toInt) 3 11 rfl f_3_40 rfl (jfin_no TX3 RX3 14 rfl rfl) hD J Sm rfl rfl rfl (pw_87_11 (by omega)) rfl (fun h w33 J Sm => ?_)
            refine x_aloadn (x := 87) rfl rfl ?_
            refine z_getR (N := 14) (b := 91) 3 6 rfl f_3_25 rfl J rfl 11142 ⟨rfl, rfl⟩ rfl ?_
            refine x_iconst (v := 0) rfl ki_0 ?_
            refine x_aloadn (x := 87) rfl rfl ?_
            refine z_getR (N := 14) (b := 92) 3 7 rfl f_3_28 rfl J rfl 11143 ⟨rfl, rfl⟩ rfl ?_
            refine x_iconst (v := 0) rfl ki_0 ?_
            refine x_bipush (v := 9) rfl kb_9 ?_
            refine z_cpi (N1 := 9) (N2 := 9) rfl ⟨q_3_100, jcp_w⟩ (by decide) rfl hD J Sm rfl rfl rfl rfl jk_0 jk_0 jk_9 (by omega) (cp_92 (fun k k1 k2 k3 => by have k4 := k3.1; have k5 := k3.2.1; have k6 := k3.2.2; simp only at k4 k5 k6; exact jcp_in J sg_91_0_9_1_0_1 rfl (by omega) (by decide))) rfl (fun h w34 J Sm => ?_)
            refine x_vret rfl rfl ?_
            show jX m_X3_place 5 0 0 24 [(0, .ref 87), (2, .int l2), (3, .int l3)] [] _ 0 0 _
            refine x_vret rfl rfl ?_
            exact hQ _ J Sm
set_option maxRecDepth 100000 in
set_option maxHeartbeats 4000000 in
theorem ct_X3_place_r87_c7_144 {Dy : jH → Prop} {h0 : jH} {Q : Option Value → jH → Prop} (hD : jDk Dy) (hQ : ∀ h', jJ jSgX Dy h' → jSm fp_X3_place_r87_c7 h0 h' → Q none h') : ∀ (h : jH), jJ jSgX Dy h → jSm fp_X3_place_r87_c7 h0 h → jX m_X3_place 5 0 0 144 [] [] h 0 0 Q := by
  intro  h    J Sm
  refine x_vret rfl rfl ?_
  exact hQ _ J Sm
set_option maxRecDepth 100000 in
set_option maxHeartbeats 4000000 in
theorem ct_X3_place_r87_c7_138 {Dy : jH → Prop} {h0 : jH} {Q : Option Value → jH → Prop} {R61 : Int} (hD : jDk Dy) (hQ : ∀ h', jJ jSgX Dy h' → jSm fp_X3_place_r87_c7 h0 h' → Q none h') (k61 : ∀ (l2 : Int32) (l3 : Int32) (l4 : Int32) (l5 : Int32) (h : jH), 8 - l5.toInt < R61 → 1 ≤ l2.toInt ∧ l2.toInt ≤ 7 → (-1) ≤ l4.toInt ∧ l4.toInt ≤ 8 → 0 ≤ l5.toInt ∧ l5.toInt ≤ 8 → jJ jSgX Dy h → jSm fp_X3_place_r87_c7 h0 h → jX m_X3_place 5 0 0 61 [(0, .ref 87), (1, .int 7), (2, .int l2), (3, .int l3), (4, .int l4), (5, .int l5)] [] h 0 0 Q) : ∀ (l2 : Int32) (l3 : Int32) (l4 : Int32) (l5 : Int32) (h : jH), 1 ≤ l2.toInt ∧ l2.toInt ≤ 7 → (-1) ≤ l4.toInt ∧ l4.toInt ≤ 8 → 0 ≤ l5.toInt ∧ l5.toInt ≤ 7 → 8 - l5.toInt ≤ R61 → jJ jSgX Dy h → jSm fp_X3_place_r87_c7 h0 h → jX m_X3_place 5 0 0 138 [(0, .ref 87), (1, .int 7), (2, .int l2), (3, .int l3), (4, .int l4), (5, .int l5)] [] h 0 0 Q := by
  intro l2 l3 l4 l5 h y0 y1 y2  m61 J Sm
  have el3 := jfull l3
  refine z_iinc (x := l5) (ls' := fun v1 => [(5, .int v1), (0, .ref 87), (1, .int 7), (2, .int l2), (3, .int l3), (4, .int l4)]) rfl rfl rfl jko_1 (by omega) rfl (fun _ => rfl) (fun v1 ev1 => ?_)
  refine x_goto (tgt := 61) rfl rfl ?_
  exact jX.sub (jsb_c rfl (jsb_c rfl (jsb_c rfl (jsb_c rfl (jsb_c rfl (jsb_c rfl jsb_n)))))) (k61 l2 l3 l4 v1 h (by omega) (jr_of rfl (by omega)) (jr_of rfl (by omega)) (jr_of rfl (by omega)) J Sm)
set_option maxRecDepth 100000 in
set_option maxHeartbeats 4000000 in
theorem ct_X3_place_r87_c7_131 {Dy : jH → Prop} {h0 : jH} {Q : Option Value → jH → Prop} {R61 : Int} (hD : jDk Dy) (hQ : ∀ h', jJ jSgX Dy h' → jSm fp_X3_place_r87_c7 h0 h' → Q none h') (k61 : ∀ (l2 : Int32) (l3 : Int32) (l4 : Int32) (l5 : Int32) (h : jH), 8 - l5.toInt < R61 → 1 ≤ l2.toInt ∧ l2.toInt ≤ 7 → (-1) ≤ l4.toInt ∧ l4.toInt ≤ 8 → 0 ≤ l5.toInt ∧ l5.toInt ≤ 8 → jJ jSgX Dy h → jSm fp_X3_place_r87_c7 h0 h → jX m_X3_place 5 0 0 61 [(0, .ref 87), (1, .int 7), (2, .int l2), (3, .int l3), (4, .int l4), (5, .int l5)] [] h 0 0 Q) : ∀ (l2 : Int32) (l3 : Int32) (l4 : Int32) (l5 : Int32) (l6 : Int32) (s0 : Int32) (h : jH), 1 ≤ l2.toInt ∧ l2.toInt ≤ 7 → (-1) ≤ l4.toInt ∧ l4.toInt ≤ 7 → 0 ≤ l5.toInt ∧ l5.toInt ≤ 7 → 0 ≤ l6.toInt ∧ l6.toInt ≤ 2147483647 → 1 ≤ s0.toInt ∧ s0.toInt ≤ 8 → 8 - l5.toInt ≤ R61 → jJ jSgX Dy h → jSm fp_X3_place_r87_c7 h0 h → jX m_X3_place 5 0 0 131 [(0, .ref 87), (1, .int 7), (2, .int l2), (3, .int l3), (4, .int l4), (5, .int l5), (6, .int l6)] [.int s0, .int 8, .ref 87] h 0 0 Q := by
  intro l2 l3 l4 l5 l6 s0 h y0 y1 y2 y3 y4  m61 J Sm
  have el3 := jfull l3
  refine x_iloadn (x := l3) rfl rfl ?_
  refine x_iload (x := l6) rfl rfl ?_
  refine z_iadd0 rfl (fun v1 => ?_)
  have ev1 := jfull v1
  refine x_inv (N := m_X3_place) (As := [.int 8, .int s0, .int v1]) (b := 87) (st := []) (d' := 4) (mc := 0) (ms := 0) (host := "") 3 rfl t_X3_place ⟨Or.inl q_3_80, i_X3_place.1, i_X3_place.2⟩ ⟨by decide, rfl⟩ (congrArg Prod.fst (J.1.1 87 (3, 14) rfl)) rfl (by decide) rfl rfl ⟨by decide, by decide⟩ (sf_X3_place_r87_c8 (jr_of rfl (by omega)) hD J  (fun h J S2 => ?_))
  have Sm := jSm_tr rfl Sm S2
  show jX m_X3_place 5 0 0 138 [(0, .ref 87), (1, .int 7), (2, .int l2), (3, .int l3), (4, .int l4), (5, .int l5), (6, .int l6)] [] _ 0 0 _
  exact jX.sub (jsb_c rfl (jsb_c rfl (jsb_c rfl (jsb_c rfl (jsb_c rfl (jsb_c rfl jsb_n)))))) (ct_X3_place_r87_c7_138 hD hQ k61 l2 l3 l4 l5 h (jr_of rfl (by omega)) (jr_of rfl (by omega)) (jr_of rfl (by omega)) (by omega) J Sm)
set_option maxRecDepth 100000 in
set_option maxHeartbeats 4000000 in
theorem ct_X3_place_r87_c7_106 {Dy : jH → Prop} {h0 : jH} {Q : Option Value → jH → Prop} {R61 : Int} (hD : jDk Dy) (hQ : ∀ h', jJ jSgX Dy h' → jSm fp_X3_place_r87_c7 h0 h' → Q none h') (k61 : ∀ (l2 : Int32) (l3 : Int32) (l4 : Int32) (l5 : Int32) (h : jH), 8 - l5.toInt < R61 → 1 ≤ l2.toInt ∧ l2.toInt ≤ 7 → (-1) ≤ l4.toInt ∧ l4.toInt ≤ 8 → 0 ≤ l5.toInt ∧ l5.toInt ≤ 8 → jJ jSgX Dy h → jSm fp_X3_place_r87_c7 h0 h → jX m_X3_place 5 0 0 61 [(0, .ref 87), (1, .int 7), (2, .int l2), (3, .int l3), (4, .int l4), (5, .int l5)] [] h 0 0 Q) : ∀ (l2 : Int32) (l3 : Int32) (l4 : Int32) (l5 : Int32) (l6 : Int32) (h : jH), 1 ≤ l2.toInt ∧ l2.toInt ≤ 7 → (-1) ≤ l4.toInt ∧ l4.toInt ≤ 7 → 0 ≤ l5.toInt ∧ l5.toInt ≤ 7 → 0 ≤ l6.toInt ∧ l6.toInt ≤ 2147483647 → 8 - l5.toInt ≤ R61 → jJ jSgX Dy h → jSm fp_X3_place_r87_c7 h0 h → jX m_X3_place 5 0 0 106 [(0, .ref 87), (1, .int 7), (2, .int l2), (3, .int l3), (4, .int l4), (5, .int l5), (6, .int l6)] [] h 0 0 Q := by
  intro l2 l3 l4 l5 l6 h y0 y1 y2 y3  m61 J Sm
  have el3 := jfull l3
  refine x_aloadn (x := 87) rfl rfl ?_
  refine z_getR (N := 14) (b := 91) 3 6 rfl f_3_25 rfl J rfl 11142 ⟨rfl, rfl⟩ rfl ?_
  refine x_iloadn (x := 7) rfl rfl ?_
  refine x_iload (x := l5) rfl rfl ?_
  refine z_iast (N := 9) (l := 0) (u := 9) (w := l5.toInt) rfl hD J Sm rfl rfl jk_7 (by omega) rfl (wr_91 (fun q1 q2 q3 q4 => by omega)) rfl (fun h w1 J Sm => ?_)
  refine x_aloadn (x := 87) rfl rfl ?_
  refine x_iloadn (x := 7) rfl rfl ?_
  refine x_iconst (v := 1) rfl ki_1 ?_
  refine y_iadd (v := 8) rfl (by decide) ?_
  refine x_iload (x := l5) rfl rfl ?_
  refine x_iloadn (x := l2) rfl rfl ?_
  refine x_icne (tgt := 130) rfl rfl (ti_ne rfl rfl ⟨fun c2 => ?_, fun c2 => ?_⟩)
  ·
    refine x_iloadn (x := l2) rfl rfl ?_
    exact jX.sub (jsb_c rfl (jsb_c rfl (jsb_c rfl (jsb_c rfl (jsb_c rfl (jsb_c rfl (jsb_c rfl jsb_n))))))) (ct_X3_place_r87_c7_131 hD hQ k61 l2 l3 l4 l5 l6 l2 h (jr_of rfl (by omega)) (jr_of rfl (by omega)) (jr_of rfl (by omega)) (jr_of rfl (by omega)) (jr_of rfl (by omega)) (by omega) J Sm)
  ·
    refine x_iloadn (x := l2) rfl rfl ?_
    refine x_iconst (v := 1) rfl ki_1 ?_
    refine z_iadd rfl rfl jk_1 (by omega) (fun v3 ev3 => ?_)
    refine x_goto (tgt := 131) rfl rfl ?_
    exact jX.sub (jsb_c rfl (jsb_c rfl (jsb_c rfl (jsb_c rfl (jsb_c rfl (jsb_c rfl (jsb_c rfl jsb_n))))))) (ct_X3_place_r87_c7_131 hD hQ k61 l2 l3 l4 l5 l6 v3 h (jr_of rfl (by omega)) (jr_of rfl (by omega)) (jr_of rfl (by omega)) (jr_of rfl (by omega)) (jr_of rfl (by omega)) (by omega) J Sm)
set_option maxRecDepth 100000 in
set_option maxHeartbeats 4000000 in
theorem ct_X3_place_r87_c7_61 {Dy : jH → Prop} {h0 : jH} {Q : Option Value → jH → Prop} (hD : jDk Dy) (hQ : ∀ h', jJ jSgX Dy h' → jSm fp_X3_place_r87_c7 h0 h' → Q none h') : ∀ r : Nat, ∀ (l2 : Int32) (l3 : Int32) (l4 : Int32) (l5 : Int32) (h : jH), 8 - l5.toInt < (r : Int) → 1 ≤ l2.toInt ∧ l2.toInt ≤ 7 → (-1) ≤ l4.toInt ∧ l4.toInt ≤ 8 → 0 ≤ l5.toInt ∧ l5.toInt ≤ 8 → jJ jSgX Dy h → jSm fp_X3_place_r87_c7 h0 h → jX m_X3_place 5 0 0 61 [(0, .ref 87), (1, .int 7), (2, .int l2), (3, .int l3), (4, .int l4), (5, .int l5)] [] h 0 0 Q := by
  intro r
  induction r with
  | zero =>
    intro l2 l3 l4 l5 h hm y0 y1 y2   J Sm
    exfalso
    omega
  | succ r ih =>
    intro l2 l3 l4 l5 h hm y0 y1 y2   J Sm
    have el3 := jfull l3
    refine x_iload (x := l5) rfl rfl ?_
    refine x_iloadn (x := l2) rfl rfl ?_
    refine x_icgt (tgt := 144) rfl rfl (ti_gt rfl rfl ⟨fun c1 => ?_, fun c1 => ?_⟩)
    ·
      exact jX.sub jsb_n (ct_X3_place_r87_c7_144 hD hQ  h J Sm)
    ·
      refine x_iload (x := l5) rfl rfl ?_
      refine x_bipush (v := 10) rfl kb_10 ?_
      refine x_icge (tgt := 144) rfl rfl (ti_ge rfl jk_10 (br_f (by omega) ?_))
      refine x_aloadn (x := 87) rfl rfl ?_
      refine z_getR (N := 14) (b := 93) 3 8 rfl f_3_31 rfl J rfl 11144 ⟨rfl, rfl⟩ rfl ?_
      refine x_iloadn (x := 7) rfl rfl ?_
      refine x_bipush (v := 10) rfl kb_10 ?_
      refine y_imul (v := 70) rfl (by decide) ?_
      refine x_iload (x := l5) rfl rfl ?_
      refine z_iadd rfl jk_70 rfl (by omega) (fun v2 ev2 => ?_)
      refine z_iald0 (N := 90) rfl J rfl rfl (by omega) (fun v3 qv3 => ?_)
      have ev3 := jfull v3
      refine x_istore (ls' := [(6, .int v3), (0, .ref 87), (1, .int 7), (2, .int l2), (3, .int l3), (4, .int l4), (5, .int l5)]) rfl rfl rfl ?_
      refine x_iload (x := v3) rfl rfl ?_
      refine x_iflt (tgt := 138) rfl rfl (ti_lt rfl jk_0 ⟨fun c4 => ?_, fun c4 => ?_⟩)
      ·
        exact jX.sub (jsb_c rfl (jsb_c rfl (jsb_c rfl (jsb_c rfl (jsb_c rfl (jsb_c rfl jsb_n)))))) (ct_X3_place_r87_c7_138 hD hQ ih l2 l3 l4 l5 h (jr_of rfl (by omega)) (jr_of rfl (by omega)) (jr_of rfl (by omega)) (by omega) J Sm)
      ·
        refine x_iload (x := l4) rfl rfl ?_
        refine x_iconst (v := (-1)) rfl ki_m1 ?_
        refine x_iceq (tgt := 106) rfl rfl (ti_eq rfl jk_m1 ⟨fun c5 => ?_, fun c5 => ?_⟩)
        ·
          exact jX.sub (jsb_c rfl (jsb_c rfl (jsb_c rfl (jsb_c rfl (jsb_c rfl (jsb_c rfl (jsb_c rfl jsb_n))))))) (ct_X3_place_r87_c7_106 hD hQ ih l2 l3 l4 l5 v3 h (jr_of rfl (by omega)) (jr_of rfl (by omega)) (jr_of rfl (by omega)) (jr_of rfl (by omega)) (by omega) J Sm)
        ·
          refine x_iload (x := l4) rfl rfl ?_
          refine x_iload (x := l5) rfl rfl ?_
          refine x_icne (tgt := 138) rfl rfl (ti_ne rfl rfl ⟨fun c6 => ?_, fun c6 => ?_⟩)
          ·
            exact jX.sub (jsb_c rfl (jsb_c rfl (jsb_c rfl (jsb_c rfl (jsb_c rfl (jsb_c rfl jsb_n)))))) (ct_X3_place_r87_c7_138 hD hQ ih l2 l3 l4 l5 h (jr_of rfl (by omega)) (jr_of rfl (by omega)) (jr_of rfl (by omega)) (by omega) J Sm)
          ·
            exact jX.sub (jsb_c rfl (jsb_c rfl (jsb_c rfl (jsb_c rfl (jsb_c rfl (jsb_c rfl (jsb_c rfl jsb_n))))))) (ct_X3_place_r87_c7_106 hD hQ ih l2 l3 l4 l5 v3 h (jr_of rfl (by omega)) (jr_of rfl (by omega)) (jr_of rfl (by omega)) (jr_of rfl (by omega)) (by omega) J Sm)
set_option maxRecDepth 100000 in
set_option maxHeartbeats 4000000 in
theorem ct_X3_place_r87_c7_56 {Dy : jH → Prop} {h0 : jH} {Q : Option Value → jH → Prop} (hD : jDk Dy) (hQ : ∀ h', jJ jSgX Dy h' → jSm fp_X3_place_r87_c7 h0 h' → Q none h') : ∀ (l2 : Int32) (l3 : Int32) (s0 : Int32) (h : jH), 1 ≤ l2.toInt ∧ l2.toInt ≤ 7 → 0 ≤ s0.toInt ∧ s0.toInt ≤ 8 → jJ jSgX Dy h → jSm fp_X3_place_r87_c7 h0 h → jX m_X3_place 5 0 0 56 [(0, .ref 87), (1, .int 7), (2, .int l2), (3, .int l3)] [.int s0] h 0 0 Q := by
  intro l2 l3 s0 h y0 y1   J Sm
  have el3 := jfull l3
  refine x_istore (ls' := [(4, .int s0), (0, .ref 87), (1, .int 7), (2, .int l2), (3, .int l3)]) rfl rfl rfl ?_
  refine x_iconst (v := 0) rfl ki_0 ?_
  refine x_istore (ls' := [(5, .int 0), (4, .int s0), (0, .ref 87), (1, .int 7), (2, .int l2), (3, .int l3)]) rfl rfl rfl ?_
  exact jX.sub (jsb_c rfl (jsb_c rfl (jsb_c rfl (jsb_c rfl (jsb_c rfl (jsb_c rfl jsb_n)))))) (ct_X3_place_r87_c7_61 hD hQ  9 l2 l3 s0 0 h (by have := jk_0; omega) (jr_of rfl (by omega)) (jr_of rfl (by omega)) (jr_of jk_0 (by omega)) J Sm)
set_option maxRecDepth 100000 in
set_option maxHeartbeats 4000000 in
theorem ct_X3_place_r87_c7_100056 {Dy : jH → Prop} {h0 : jH} {Q : Option Value → jH → Prop} (hD : jDk Dy) (hQ : ∀ h', jJ jSgX Dy h' → jSm fp_X3_place_r87_c7 h0 h' → Q none h') : ∀ (l2 : Int32) (l3 : Int32) (h : jH), 1 ≤ l2.toInt ∧ l2.toInt ≤ 7 → jJ jSgX Dy h → jSm fp_X3_place_r87_c7 h0 h → jX m_X3_place 5 0 0 56 [(0, .ref 87), (1, .int 7), (2, .int l2), (3, .int l3)] [.int (-1)] h 0 0 Q := by
  intro l2 l3 h y0   J Sm
  have el3 := jfull l3
  refine x_istore (ls' := [(4, .int (-1)), (0, .ref 87), (1, .int 7), (2, .int l2), (3, .int l3)]) rfl rfl rfl ?_
  refine x_iconst (v := 0) rfl ki_0 ?_
  refine x_istore (ls' := [(5, .int 0), (4, .int (-1)), (0, .ref 87), (1, .int 7), (2, .int l2), (3, .int l3)]) rfl rfl rfl ?_
  exact jX.sub (jsb_c rfl (jsb_c rfl (jsb_c rfl (jsb_c rfl (jsb_c rfl (jsb_c rfl jsb_n)))))) (ct_X3_place_r87_c7_61 hD hQ  9 l2 l3 (-1) 0 h (by have := jk_0; omega) (jr_of rfl (by omega)) (jr_of jk_m1 (by omega)) (jr_of jk_0 (by omega)) J Sm)
set_option maxRecDepth 100000 in
set_option maxHeartbeats 4000000 in
theorem sf_X3_place_r87_c7 {Dy : jH → Prop} {h : jH} {Q : Option Value → jH → Prop} {a2 : Int32} {a3 : Int32} (y2 : 1 ≤ a2.toInt ∧ a2.toInt ≤ 7) (hD : jDk Dy) (J : jJ jSgX Dy h) (hQ : ∀ h', jJ jSgX Dy h' → jSm fp_X3_place_r87_c7 h h' → Q none h') : jC m_X3_place 5 0 0 [.ref 87, .int 7, .int a2, .int a3] h Q := by
  refine jC.of rfl k_X3_place rfl ?_
  have Sm := jSm_rf fp_X3_place_r87_c7 h
  have ea3 := jfull a3
  show jX m_X3_place 5 0 0 0 [(0, .ref 87), (1, .int 7), (2, .int a2), (3, .int a3)] [] _ 0 0 _
  refine x_iloadn (x := 7) rfl rfl ?_
  refine x_iflt (tgt := 18) rfl rfl (ti_lt jk_7 jk_0 (br_f (by omega) ?_))
  refine x_iloadn (x := 7) rfl rfl ?_
  refine x_aloadn (x := 87) rfl rfl ?_
  refine z_getI (N := 14) 3 3 rfl f_3_15 rfl J rfl sg_87_3_4_1_0_1 (fun v1 qv1 ev1 => ?_)
  refine x_icge (tgt := 18) rfl rfl (ti_ge jk_7 rfl ⟨fun c2 => ?_, fun c2 => ?_⟩)
  ·
    exact jX.sub (jsb_c rfl (jsb_c rfl (jsb_c rfl jsb_n))) (ct_X3_place_r87_c7_18 hD hQ  a2 a3 h (jr_of rfl (by omega)) J Sm)
  ·
    refine x_iloadn (x := 7) rfl rfl ?_
    refine x_bipush (v := 9) rfl kb_9 ?_
    refine x_iclt (tgt := 25) rfl rfl (ti_lt jk_7 jk_9 (br_t (by omega) ?_))
    refine x_aloadn (x := 87) rfl rfl ?_
    refine x_iloadn (x := 7) rfl rfl ?_
    refine x_iloadn (x := a2) rfl rfl ?_
    refine x_inv (N := m_X3_readGains) (As := [.int 7, .int a2]) (b := 87) (st := []) (d' := 1) (mc := 0) (ms := 0) (host := "") 3 rfl t_X3_readGains ⟨Or.inl q_3_97, i_X3_readGains.1, i_X3_readGains.2⟩ ⟨by decide, rfl⟩ (congrArg Prod.fst (J.1.1 87 (3, 14) rfl)) rfl (by decide) rfl rfl ⟨by decide, by decide⟩ (sf_X3_readGains_r87 (jr_of jk_7 (by omega)) (jr_of rfl (by omega)) hD J  (fun h J S3 => ?_))
    have Sm := jSm_tr rfl Sm S3
    show jX m_X3_place 5 0 0 31 [(0, .ref 87), (1, .int 7), (2, .int a2), (3, .int a3)] [] _ 0 0 _
    refine x_aloadn (x := 87) rfl rfl ?_
    refine z_getR (N := 14) (b := 90) 3 5 rfl f_3_22 rfl J rfl 11141 ⟨rfl, rfl⟩ rfl ?_
    refine x_iloadn (x := 7) rfl rfl ?_
    refine z_iald (N := 9) rfl J rfl sg_90_0_9_1_0_1 jk_7 (by omega) (fun v4 qv4 ev4 => ?_)
    refine x_iconst (v := (-1)) rfl ki_m1 ?_
    refine x_icne (tgt := 45) rfl rfl (ti_ne rfl jk_m1 ⟨fun c5 => ?_, fun c5 => ?_⟩)
    ·
      refine x_aloadn (x := 87) rfl rfl ?_
      refine z_getR (N := 14) (b := 91) 3 6 rfl f_3_25 rfl J rfl 11142 ⟨rfl, rfl⟩ rfl ?_
      refine x_aloadn (x := 87) rfl rfl ?_
      refine z_getR (N := 14) (b := 90) 3 5 rfl f_3_22 rfl J rfl 11141 ⟨rfl, rfl⟩ rfl ?_
      refine x_iloadn (x := 7) rfl rfl ?_
      refine z_ialdM (N := 9) (v := v4) rfl J rfl jk_7 (by omega) qv4 ?_
      refine z_iald (N := 9) rfl J rfl sg_91_0_9_1_0_1 rfl (by omega) (fun v6 qv6 ev6 => ?_)
      exact jX.sub (jsb_c rfl (jsb_c rfl (jsb_c rfl (jsb_c rfl jsb_n)))) (ct_X3_place_r87_c7_56 hD hQ  a2 a3 v6 h (jr_of rfl (by omega)) (jr_of rfl (by omega)) J Sm)
    ·
      refine x_iconst (v := (-1)) rfl ki_m1 ?_
      refine x_goto (tgt := 56) rfl rfl ?_
      exact jX.sub (jsb_c rfl (jsb_c rfl (jsb_c rfl (jsb_c rfl jsb_n)))) (ct_X3_place_r87_c7_100056 hD hQ  a2 a3 h (jr_of rfl (by omega)) J Sm)
def fp_X3_place_r87_c6 : jFp := [(87, 10, 11), (87, 11, 12), (91, 0, 9), (92, 0, 9), (93, 0, 90), (94, 0, 14401)]
set_option maxRecDepth 100000 in
set_option maxHeartbeats 4000000 in
theorem ct_X3_place_r87_c6_18 {Dy : jH → Prop} {h0 : jH} {Q : Option Value → jH → Prop} (hD : jDk Dy) (hQ : ∀ h', jJ jSgX Dy h' → jSm fp_X3_place_r87_c6 h0 h' → Q none h') : ∀ (l2 : Int32) (l3 : Int32) (h : jH), 1 ≤ l2.toInt ∧ l2.toInt ≤ 6 → jJ jSgX Dy h → jSm fp_X3_place_r87_c6 h0 h → jX m_X3_place 6 0 0 18 [(0, .ref 87), (2, .int l2), (3, .int l3)] [] h 0 0 Q := by
  intro l2 l3 h y0   J Sm
  have el3 := jfull l3
  refine x_aloadn (x := 87) rfl rfl ?_
  refine x_iloadn (x := l2) rfl rfl ?_
  refine x_iloadn (x := l3) rfl rfl ?_
  refine x_inv (N := m_X3_note) (As := [.int l2, .int l3]) (b := 87) (st := []) (d' := 5) (mc := 0) (ms := 0) (host := "") 3 rfl t_X3_note ⟨Or.inl q_3_93, i_X3_note.1, i_X3_note.2⟩ ⟨by decide, rfl⟩ (congrArg Prod.fst (J.1.1 87 (3, 14) rfl)) rfl (by decide) rfl rfl ⟨by decide, by decide⟩ (jC.of rfl k_X3_note rfl ?_)
  show jX m_X3_note 5 0 0 0 [(0, .ref 87), (1, .int l2), (2, .int l3)] [] _ 0 0 _
  refine x_iloadn (x := l3) rfl rfl ?_
  refine x_iflt (tgt := 23) rfl rfl (ti_lt rfl jk_0 ⟨fun c1 => ?_, fun c1 => ?_⟩)
  ·
    refine x_iloadn (x := l3) rfl rfl ?_
    refine x_aloadn (x := 87) rfl rfl ?_
    refine z_getI (N := 14) 3 10 rfl f_3_37 rfl J rfl sg_87_10_11_1_0_1 (fun v2 qv2 ev2 => ?_)
    refine x_icgt (tgt := 47) rfl rfl (ti_gt rfl rfl (br_f (by omega) ?_))
    refine x_iloadn (x := l3) rfl rfl ?_
    refine x_aloadn (x := 87) rfl rfl ?_
    refine z_getM (N := 14) (v := v2) 3 10 rfl f_3_37 rfl J rfl qv2 ?_
    refine x_icne (tgt := 72) rfl rfl (ti_ne rfl rfl ⟨fun c3 => ?_, fun c3 => ?_⟩)
    ·
      refine x_vret rfl rfl ?_
      show jX m_X3_place 6 0 0 24 [(0, .ref 87), (2, .int l2), (3, .int l3)] [] _ 0 0 _
      refine x_vret rfl rfl ?_
      exact hQ _ J Sm
    ·
      refine x_iloadn (x := l2) rfl rfl ?_
      refine x_aloadn (x := 87) rfl rfl ?_
      refine z_getI (N := 14) 3 11 rfl f_3_40 rfl J rfl sg_87_11_12_1_0_1 (fun v4 qv4 ev4 => ?_)
      refine x_icge (tgt := 72) rfl rfl (ti_ge rfl rfl ⟨fun c5 => ?_, fun c5 => ?_⟩)
      ·
        refine x_vret rfl rfl ?_
        show jX m_X3_place 6 0 0 24 [(0, .ref 87), (2, .int l2), (3, .int l3)] [] _ 0 0 _
        refine x_vret rfl rfl ?_
        exact hQ _ J Sm
      ·
        refine x_aloadn (x := 87) rfl rfl ?_
        refine x_iloadn (x := l3) rfl rfl ?_
        refine z_putI (N := 14) (w := l3.toInt) 3 10 rfl f_3_37 rfl (jfin_no TX3 RX3 14 rfl rfl) hD J Sm rfl rfl rfl (pw_87_10 (by omega)) rfl (fun h w6 J Sm => ?_)
        refine x_aloadn (x := 87) rfl rfl ?_
        refine x_iloadn (x := l2) rfl rfl ?_
        refine z_putI (N := 14) (w := l2.toInt) 3 11 rfl f_3_40 rfl (jfin_no TX3 RX3 14 rfl rfl) hD J Sm rfl rfl rfl (pw_87_11 (by omega)) rfl (fun h w7 J Sm => ?_)
        refine x_aloadn (x := 87) rfl rfl ?_
        refine z_getR (N := 14) (b := 91) 3 6 rfl f_3_25 rfl J rfl 11142 ⟨rfl, rfl⟩ rfl ?_
        refine x_iconst (v := 0) rfl ki_0 ?_
        refine x_aloadn (x := 87) rfl rfl ?_
        refine z_getR (N := 14) (b := 92) 3 7 rfl f_3_28 rfl J rfl 11143 ⟨rfl, rfl⟩ rfl ?_
        refine x_iconst (v := 0) rfl ki_0 ?_
        refine x_bipush (v := 9) rfl kb_9 ?_
        refine z_cpi (N1 := 9) (N2 := 9) rfl ⟨q_3_100, jcp_w⟩ (by decide) rfl hD J Sm rfl rfl rfl rfl jk_0 jk_0 jk_9 (by omega) (cp_92 (fun k k1 k2 k3 => by have k4 := k3.1; have k5 := k3.2.1; have k6 := k3.2.2; simp only at k4 k5 k6; exact jcp_in J sg_91_0_9_1_0_1 rfl (by omega) (by decide))) rfl (fun h w8 J Sm => ?_)
        refine x_vret rfl rfl ?_
        show jX m_X3_place 6 0 0 24 [(0, .ref 87), (2, .int l2), (3, .int l3)] [] _ 0 0 _
        refine x_vret rfl rfl ?_
        exact hQ _ J Sm
  ·
    refine x_iloadn (x := l3) rfl rfl ?_
    refine x_aloadn (x := 87) rfl rfl ?_
    refine z_getR (N := 14) (b := 94) 3 9 rfl f_3_34 rfl J rfl 11145 ⟨rfl, rfl⟩ rfl ?_
    refine z_alen (N := 14401) (v := 14401) rfl J rfl rfl (by decide) ?_
    refine x_icge (tgt := 23) rfl rfl (ti_ge rfl jk_14401 ⟨fun c9 => ?_, fun c9 => ?_⟩)
    ·
      refine x_iloadn (x := l3) rfl rfl ?_
      refine x_aloadn (x := 87) rfl rfl ?_
      refine z_getI (N := 14) 3 10 rfl f_3_37 rfl J rfl sg_87_10_11_1_0_1 (fun v10 qv10 ev10 => ?_)
      refine x_icgt (tgt := 47) rfl rfl (ti_gt rfl rfl ⟨fun c11 => ?_, fun c11 => ?_⟩)
      ·
        refine x_aloadn (x := 87) rfl rfl ?_
        refine x_iloadn (x := l3) rfl rfl ?_
        refine z_putI (N := 14) (w := l3.toInt) 3 10 rfl f_3_37 rfl (jfin_no TX3 RX3 14 rfl rfl) hD J Sm rfl rfl rfl (pw_87_10 (by omega)) rfl (fun h w12 J Sm => ?_)
        refine x_aloadn (x := 87) rfl rfl ?_
        refine x_iloadn (x := l2) rfl rfl ?_
        refine z_putI (N := 14) (w := l2.toInt) 3 11 rfl f_3_40 rfl (jfin_no TX3 RX3 14 rfl rfl) hD J Sm rfl rfl rfl (pw_87_11 (by omega)) rfl (fun h w13 J Sm => ?_)
        refine x_aloadn (x := 87) rfl rfl ?_
        refine z_getR (N := 14) (b := 91) 3 6 rfl f_3_25 rfl J rfl 11142 ⟨rfl, rfl⟩ rfl ?_
        refine x_iconst (v := 0) rfl ki_0 ?_
        refine x_aloadn (x := 87) rfl rfl ?_
        refine z_getR (N := 14) (b := 92) 3 7 rfl f_3_28 rfl J rfl 11143 ⟨rfl, rfl⟩ rfl ?_
        refine x_iconst (v := 0) rfl ki_0 ?_
        refine x_bipush (v := 9) rfl kb_9 ?_
        refine z_cpi (N1 := 9) (N2 := 9) rfl ⟨q_3_100, jcp_w⟩ (by decide) rfl hD J Sm rfl rfl rfl rfl jk_0 jk_0 jk_9 (by omega) (cp_92 (fun k k1 k2 k3 => by have k4 := k3.1; have k5 := k3.2.1; have k6 := k3.2.2; simp only at k4 k5 k6; exact jcp_in J sg_91_0_9_1_0_1 rfl (by omega) (by decide))) rfl (fun h w14 J Sm => ?_)
        refine x_vret rfl rfl ?_
        show jX m_X3_place 6 0 0 24 [(0, .ref 87), (2, .int l2), (3, .int l3)] [] _ 0 0 _
        refine x_vret rfl rfl ?_
        exact hQ _ J Sm
      ·
        refine x_iloadn (x := l3) rfl rfl ?_
        refine x_aloadn (x := 87) rfl rfl ?_
        refine z_getM (N := 14) (v := v10) 3 10 rfl f_3_37 rfl J rfl qv10 ?_
        refine x_icne (tgt := 72) rfl rfl (ti_ne rfl rfl ⟨fun c15 => ?_, fun c15 => ?_⟩)
        ·
          refine x_vret rfl rfl ?_
          show jX m_X3_place 6 0 0 24 [(0, .ref 87), (2, .int l2), (3, .int l3)] [] _ 0 0 _
          refine x_vret rfl rfl ?_
          exact hQ _ J Sm
        ·
          refine x_iloadn (x := l2) rfl rfl ?_
          refine x_aloadn (x := 87) rfl rfl ?_
          refine z_getI (N := 14) 3 11 rfl f_3_40 rfl J rfl sg_87_11_12_1_0_1 (fun v16 qv16 ev16 => ?_)
          refine x_icge (tgt := 72) rfl rfl (ti_ge rfl rfl ⟨fun c17 => ?_, fun c17 => ?_⟩)
          ·
            refine x_vret rfl rfl ?_
            show jX m_X3_place 6 0 0 24 [(0, .ref 87), (2, .int l2), (3, .int l3)] [] _ 0 0 _
            refine x_vret rfl rfl ?_
            exact hQ _ J Sm
          ·
            refine x_aloadn (x := 87) rfl rfl ?_
            refine x_iloadn (x := l3) rfl rfl ?_
            refine z_putI (N := 14) (w := l3.toInt) 3 10 rfl f_3_37 rfl (jfin_no TX3 RX3 14 rfl rfl) hD J Sm rfl rfl rfl (pw_87_10 (by omega)) rfl (fun h w18 J Sm => ?_)
            refine x_aloadn (x := 87) rfl rfl ?_
            refine x_iloadn (x := l2) rfl rfl ?_
            refine z_putI (N := 14) (w := l2.toInt) 3 11 rfl f_3_40 rfl (jfin_no TX3 RX3 14 rfl rfl) hD J Sm rfl rfl rfl (pw_87_11 (by omega)) rfl (fun h w19 J Sm => ?_)
            refine x_aloadn (x := 87) rfl rfl ?_
            refine z_getR (N := 14) (b := 91) 3 6 rfl f_3_25 rfl J rfl 11142 ⟨rfl, rfl⟩ rfl ?_
            refine x_iconst (v := 0) rfl ki_0 ?_
            refine x_aloadn (x := 87) rfl rfl ?_
            refine z_getR (N := 14) (b := 92) 3 7 rfl f_3_28 rfl J rfl 11143 ⟨rfl, rfl⟩ rfl ?_
            refine x_iconst (v := 0) rfl ki_0 ?_
            refine x_bipush (v := 9) rfl kb_9 ?_
            refine z_cpi (N1 := 9) (N2 := 9) rfl ⟨q_3_100, jcp_w⟩ (by decide) rfl hD J Sm rfl rfl rfl rfl jk_0 jk_0 jk_9 (by omega) (cp_92 (fun k k1 k2 k3 => by have k4 := k3.1; have k5 := k3.2.1; have k6 := k3.2.2; simp only at k4 k5 k6; exact jcp_in J sg_91_0_9_1_0_1 rfl (by omega) (by decide))) rfl (fun h w20 J Sm => ?_)
            refine x_vret rfl rfl ?_
            show jX m_X3_place 6 0 0 24 [(0, .ref 87), (2, .int l2), (3, .int l3)] [] _ 0 0 _
            refine x_vret rfl rfl ?_
            exact hQ _ J Sm
    ·
      refine x_aloadn (x := 87) rfl rfl ?_
      refine z_getR (N := 14) (b := 94) 3 9 rfl f_3_34 rfl J rfl 11145 ⟨rfl, rfl⟩ rfl ?_
      refine x_iloadn (x := l3) rfl rfl ?_
      refine x_dup2 rfl rfl rfl ?_
      refine z_iald0 (N := 14401) rfl J rfl rfl (by omega) (fun v21 qv21 => ?_)
      have ev21 := jfull v21
      refine x_iconst (v := 1) rfl ki_1 ?_
      refine z_iadd0 rfl (fun v22 => ?_)
      have ev22 := jfull v22
      refine z_iast (N := 14401) (l := 0) (u := 14401) (w := v22.toInt) rfl hD J Sm rfl rfl rfl (by omega) rfl (wr_94) rfl (fun h w23 J Sm => ?_)
      refine x_iloadn (x := l3) rfl rfl ?_
      refine x_aloadn (x := 87) rfl rfl ?_
      refine z_getI (N := 14) 3 10 rfl f_3_37 rfl J rfl sg_87_10_11_1_0_1 (fun v24 qv24 ev24 => ?_)
      refine x_icgt (tgt := 47) rfl rfl (ti_gt rfl rfl ⟨fun c25 => ?_, fun c25 => ?_⟩)
      ·
        refine x_aloadn (x := 87) rfl rfl ?_
        refine x_iloadn (x := l3) rfl rfl ?_
        refine z_putI (N := 14) (w := l3.toInt) 3 10 rfl f_3_37 rfl (jfin_no TX3 RX3 14 rfl rfl) hD J Sm rfl rfl rfl (pw_87_10 (by omega)) rfl (fun h w26 J Sm => ?_)
        refine x_aloadn (x := 87) rfl rfl ?_
        refine x_iloadn (x := l2) rfl rfl ?_
        refine z_putI (N := 14) (w := l2.toInt) 3 11 rfl f_3_40 rfl (jfin_no TX3 RX3 14 rfl rfl) hD J Sm rfl rfl rfl (pw_87_11 (by omega)) rfl (fun h w27 J Sm => ?_)
        refine x_aloadn (x := 87) rfl rfl ?_
        refine z_getR (N := 14) (b := 91) 3 6 rfl f_3_25 rfl J rfl 11142 ⟨rfl, rfl⟩ rfl ?_
        refine x_iconst (v := 0) rfl ki_0 ?_
        refine x_aloadn (x := 87) rfl rfl ?_
        refine z_getR (N := 14) (b := 92) 3 7 rfl f_3_28 rfl J rfl 11143 ⟨rfl, rfl⟩ rfl ?_
        refine x_iconst (v := 0) rfl ki_0 ?_
        refine x_bipush (v := 9) rfl kb_9 ?_
        refine z_cpi (N1 := 9) (N2 := 9) rfl ⟨q_3_100, jcp_w⟩ (by decide) rfl hD J Sm rfl rfl rfl rfl jk_0 jk_0 jk_9 (by omega) (cp_92 (fun k k1 k2 k3 => by have k4 := k3.1; have k5 := k3.2.1; have k6 := k3.2.2; simp only at k4 k5 k6; exact jcp_in J sg_91_0_9_1_0_1 rfl (by omega) (by decide))) rfl (fun h w28 J Sm => ?_)
        refine x_vret rfl rfl ?_
        show jX m_X3_place 6 0 0 24 [(0, .ref 87), (2, .int l2), (3, .int l3)] [] _ 0 0 _
        refine x_vret rfl rfl ?_
        exact hQ _ J Sm
      ·
        refine x_iloadn (x := l3) rfl rfl ?_
        refine x_aloadn (x := 87) rfl rfl ?_
        refine z_getM (N := 14) (v := v24) 3 10 rfl f_3_37 rfl J rfl qv24 ?_
        refine x_icne (tgt := 72) rfl rfl (ti_ne rfl rfl ⟨fun c29 => ?_, fun c29 => ?_⟩)
        ·
          refine x_vret rfl rfl ?_
          show jX m_X3_place 6 0 0 24 [(0, .ref 87), (2, .int l2), (3, .int l3)] [] _ 0 0 _
          refine x_vret rfl rfl ?_
          exact hQ _ J Sm
        ·
          refine x_iloadn (x := l2) rfl rfl ?_
          refine x_aloadn (x := 87) rfl rfl ?_
          refine z_getI (N := 14) 3 11 rfl f_3_40 rfl J rfl sg_87_11_12_1_0_1 (fun v30 qv30 ev30 => ?_)
          refine x_icge (tgt := 72) rfl rfl (ti_ge rfl rfl ⟨fun c31 => ?_, fun c31 => ?_⟩)
          ·
            refine x_vret rfl rfl ?_
            show jX m_X3_place 6 0 0 24 [(0, .ref 87), (2, .int l2), (3, .int l3)] [] _ 0 0 _
            refine x_vret rfl rfl ?_
            exact hQ _ J Sm
          ·
            refine x_aloadn (x := 87) rfl rfl ?_
            refine x_iloadn (x := l3) rfl rfl ?_
            refine z_putI (N := 14) (w := l3.toInt) 3 10 rfl f_3_37 rfl (jfin_no TX3 RX3 14 rfl rfl) hD J Sm rfl rfl rfl (pw_87_10 (by omega)) rfl (fun h w32 J Sm => ?_)
            refine x_aloadn (x := 87) rfl rfl ?_
            refine x_iloadn (x := l2) rfl rfl ?_
            refine z_putI (N := 14) (w := l2.toInt) 3 11 rfl f_3_40 rfl (jfin_no TX3 RX3 14 rfl rfl) hD J Sm rfl rfl rfl (pw_87_11 (by omega)) rfl (fun h w33 J Sm => ?_)
            refine x_aloadn (x := 87) rfl rfl ?_
            refine z_getR (N := 14) (b := 91) 3 6 rfl f_3_25 rfl J rfl 11142 ⟨rfl, rfl⟩ rfl ?_
            refine x_iconst (v := 0) rfl ki_0 ?_
            refine x_aloadn (x := 87) rfl rfl ?_
            refine z_getR (N := 14) (b := 92) 3 7 rfl f_3_28 rfl J rfl 11143 ⟨rfl, rfl⟩ rfl ?_
            refine x_iconst (v := 0) rfl ki_0 ?_
            refine x_bipush (v := 9) rfl kb_9 ?_
            refine z_cpi (N1 := 9) (N2 := 9) rfl ⟨q_3_100, jcp_w⟩ (by decide) rfl hD J Sm rfl rfl rfl rfl jk_0 jk_0 jk_9 (by omega) (cp_92 (fun k k1 k2 k3 => by have k4 := k3.1; have k5 := k3.2.1; have k6 := k3.2.2; simp only at k4 k5 k6; exact jcp_in J sg_91_0_9_1_0_1 rfl (by omega) (by decide))) rfl (fun h w34 J Sm => ?_)
            refine x_vret rfl rfl ?_
            show jX m_X3_place 6 0 0 24 [(0, .ref 87), (2, .int l2), (3, .int l3)] [] _ 0 0 _
            refine x_vret rfl rfl ?_
            exact hQ _ J Sm
set_option maxRecDepth 100000 in
set_option maxHeartbeats 4000000 in
theorem ct_X3_place_r87_c6_144 {Dy : jH → Prop} {h0 : jH} {Q : Option Value → jH → Prop} (hD : jDk Dy) (hQ : ∀ h', jJ jSgX Dy h' → jSm fp_X3_place_r87_c6 h0 h' → Q none h') : ∀ (h : jH), jJ jSgX Dy h → jSm fp_X3_place_r87_c6 h0 h → jX m_X3_place 6 0 0 144 [] [] h 0 0 Q := by
  intro  h    J Sm
  refine x_vret rfl rfl ?_
  exact hQ _ J Sm
set_option maxRecDepth 100000 in
set_option maxHeartbeats 4000000 in
theorem ct_X3_place_r87_c6_138 {Dy : jH → Prop} {h0 : jH} {Q : Option Value → jH → Prop} {R61 : Int} (hD : jDk Dy) (hQ : ∀ h', jJ jSgX Dy h' → jSm fp_X3_place_r87_c6 h0 h' → Q none h') (k61 : ∀ (l2 : Int32) (l3 : Int32) (l4 : Int32) (l5 : Int32) (h : jH), 7 - l5.toInt < R61 → 1 ≤ l2.toInt ∧ l2.toInt ≤ 6 → (-1) ≤ l4.toInt ∧ l4.toInt ≤ 8 → 0 ≤ l5.toInt ∧ l5.toInt ≤ 7 → jJ jSgX Dy h → jSm fp_X3_place_r87_c6 h0 h → jX m_X3_place 6 0 0 61 [(0, .ref 87), (1, .int 6), (2, .int l2), (3, .int l3), (4, .int l4), (5, .int l5)] [] h 0 0 Q) : ∀ (l2 : Int32) (l3 : Int32) (l4 : Int32) (l5 : Int32) (h : jH), 1 ≤ l2.toInt ∧ l2.toInt ≤ 6 → (-1) ≤ l4.toInt ∧ l4.toInt ≤ 8 → 0 ≤ l5.toInt ∧ l5.toInt ≤ 6 → 7 - l5.toInt ≤ R61 → jJ jSgX Dy h → jSm fp_X3_place_r87_c6 h0 h → jX m_X3_place 6 0 0 138 [(0, .ref 87), (1, .int 6), (2, .int l2), (3, .int l3), (4, .int l4), (5, .int l5)] [] h 0 0 Q := by
  intro l2 l3 l4 l5 h y0 y1 y2  m61 J Sm
  have el3 := jfull l3
  refine z_iinc (x := l5) (ls' := fun v1 => [(5, .int v1), (0, .ref 87), (1, .int 6), (2, .int l2), (3, .int l3), (4, .int l4)]) rfl rfl rfl jko_1 (by omega) rfl (fun _ => rfl) (fun v1 ev1 => ?_)
  refine x_goto (tgt := 61) rfl rfl ?_
  exact jX.sub (jsb_c rfl (jsb_c rfl (jsb_c rfl (jsb_c rfl (jsb_c rfl (jsb_c rfl jsb_n)))))) (k61 l2 l3 l4 v1 h (by omega) (jr_of rfl (by omega)) (jr_of rfl (by omega)) (jr_of rfl (by omega)) J Sm)
set_option maxRecDepth 100000 in
set_option maxHeartbeats 4000000 in
theorem ct_X3_place_r87_c6_131 {Dy : jH → Prop} {h0 : jH} {Q : Option Value → jH → Prop} {R61 : Int} (hD : jDk Dy) (hQ : ∀ h', jJ jSgX Dy h' → jSm fp_X3_place_r87_c6 h0 h' → Q none h') (k61 : ∀ (l2 : Int32) (l3 : Int32) (l4 : Int32) (l5 : Int32) (h : jH), 7 - l5.toInt < R61 → 1 ≤ l2.toInt ∧ l2.toInt ≤ 6 → (-1) ≤ l4.toInt ∧ l4.toInt ≤ 8 → 0 ≤ l5.toInt ∧ l5.toInt ≤ 7 → jJ jSgX Dy h → jSm fp_X3_place_r87_c6 h0 h → jX m_X3_place 6 0 0 61 [(0, .ref 87), (1, .int 6), (2, .int l2), (3, .int l3), (4, .int l4), (5, .int l5)] [] h 0 0 Q) : ∀ (l2 : Int32) (l3 : Int32) (l4 : Int32) (l5 : Int32) (l6 : Int32) (s0 : Int32) (h : jH), 1 ≤ l2.toInt ∧ l2.toInt ≤ 6 → (-1) ≤ l4.toInt ∧ l4.toInt ≤ 6 → 0 ≤ l5.toInt ∧ l5.toInt ≤ 6 → 0 ≤ l6.toInt ∧ l6.toInt ≤ 2147483647 → 1 ≤ s0.toInt ∧ s0.toInt ≤ 7 → 7 - l5.toInt ≤ R61 → jJ jSgX Dy h → jSm fp_X3_place_r87_c6 h0 h → jX m_X3_place 6 0 0 131 [(0, .ref 87), (1, .int 6), (2, .int l2), (3, .int l3), (4, .int l4), (5, .int l5), (6, .int l6)] [.int s0, .int 7, .ref 87] h 0 0 Q := by
  intro l2 l3 l4 l5 l6 s0 h y0 y1 y2 y3 y4  m61 J Sm
  have el3 := jfull l3
  refine x_iloadn (x := l3) rfl rfl ?_
  refine x_iload (x := l6) rfl rfl ?_
  refine z_iadd0 rfl (fun v1 => ?_)
  have ev1 := jfull v1
  refine x_inv (N := m_X3_place) (As := [.int 7, .int s0, .int v1]) (b := 87) (st := []) (d' := 5) (mc := 0) (ms := 0) (host := "") 3 rfl t_X3_place ⟨Or.inl q_3_80, i_X3_place.1, i_X3_place.2⟩ ⟨by decide, rfl⟩ (congrArg Prod.fst (J.1.1 87 (3, 14) rfl)) rfl (by decide) rfl rfl ⟨by decide, by decide⟩ (sf_X3_place_r87_c7 (jr_of rfl (by omega)) hD J  (fun h J S2 => ?_))
  have Sm := jSm_tr rfl Sm S2
  show jX m_X3_place 6 0 0 138 [(0, .ref 87), (1, .int 6), (2, .int l2), (3, .int l3), (4, .int l4), (5, .int l5), (6, .int l6)] [] _ 0 0 _
  exact jX.sub (jsb_c rfl (jsb_c rfl (jsb_c rfl (jsb_c rfl (jsb_c rfl (jsb_c rfl jsb_n)))))) (ct_X3_place_r87_c6_138 hD hQ k61 l2 l3 l4 l5 h (jr_of rfl (by omega)) (jr_of rfl (by omega)) (jr_of rfl (by omega)) (by omega) J Sm)
set_option maxRecDepth 100000 in
set_option maxHeartbeats 4000000 in
theorem ct_X3_place_r87_c6_106 {Dy : jH → Prop} {h0 : jH} {Q : Option Value → jH → Prop} {R61 : Int} (hD : jDk Dy) (hQ : ∀ h', jJ jSgX Dy h' → jSm fp_X3_place_r87_c6 h0 h' → Q none h') (k61 : ∀ (l2 : Int32) (l3 : Int32) (l4 : Int32) (l5 : Int32) (h : jH), 7 - l5.toInt < R61 → 1 ≤ l2.toInt ∧ l2.toInt ≤ 6 → (-1) ≤ l4.toInt ∧ l4.toInt ≤ 8 → 0 ≤ l5.toInt ∧ l5.toInt ≤ 7 → jJ jSgX Dy h → jSm fp_X3_place_r87_c6 h0 h → jX m_X3_place 6 0 0 61 [(0, .ref 87), (1, .int 6), (2, .int l2), (3, .int l3), (4, .int l4), (5, .int l5)] [] h 0 0 Q) : ∀ (l2 : Int32) (l3 : Int32) (l4 : Int32) (l5 : Int32) (l6 : Int32) (h : jH), 1 ≤ l2.toInt ∧ l2.toInt ≤ 6 → (-1) ≤ l4.toInt ∧ l4.toInt ≤ 6 → 0 ≤ l5.toInt ∧ l5.toInt ≤ 6 → 0 ≤ l6.toInt ∧ l6.toInt ≤ 2147483647 → 7 - l5.toInt ≤ R61 → jJ jSgX Dy h → jSm fp_X3_place_r87_c6 h0 h → jX m_X3_place 6 0 0 106 [(0, .ref 87), (1, .int 6), (2, .int l2), (3, .int l3), (4, .int l4), (5, .int l5), (6, .int l6)] [] h 0 0 Q := by
  intro l2 l3 l4 l5 l6 h y0 y1 y2 y3  m61 J Sm
  have el3 := jfull l3
  refine x_aloadn (x := 87) rfl rfl ?_
  refine z_getR (N := 14) (b := 91) 3 6 rfl f_3_25 rfl J rfl 11142 ⟨rfl, rfl⟩ rfl ?_
  refine x_iloadn (x := 6) rfl rfl ?_
  refine x_iload (x := l5) rfl rfl ?_
  refine z_iast (N := 9) (l := 0) (u := 9) (w := l5.toInt) rfl hD J Sm rfl rfl jk_6 (by omega) rfl (wr_91 (fun q1 q2 q3 q4 => by omega)) rfl (fun h w1 J Sm => ?_)
  refine x_aloadn (x := 87) rfl rfl ?_
  refine x_iloadn (x := 6) rfl rfl ?_
  refine x_iconst (v := 1) rfl ki_1 ?_
  refine y_iadd (v := 7) rfl (by decide) ?_
  refine x_iload (x := l5) rfl rfl ?_
  refine x_iloadn (x := l2) rfl rfl ?_
  refine x_icne (tgt := 130) rfl rfl (ti_ne rfl rfl ⟨fun c2 => ?_, fun c2 => ?_⟩)
  ·
    refine x_iloadn (x := l2) rfl rfl ?_
    exact jX.sub (jsb_c rfl (jsb_c rfl (jsb_c rfl (jsb_c rfl (jsb_c rfl (jsb_c rfl (jsb_c rfl jsb_n))))))) (ct_X3_place_r87_c6_131 hD hQ k61 l2 l3 l4 l5 l6 l2 h (jr_of rfl (by omega)) (jr_of rfl (by omega)) (jr_of rfl (by omega)) (jr_of rfl (by omega)) (jr_of rfl (by omega)) (by omega) J Sm)
  ·
    refine x_iloadn (x := l2) rfl rfl ?_
    refine x_iconst (v := 1) rfl ki_1 ?_
    refine z_iadd rfl rfl jk_1 (by omega) (fun v3 ev3 => ?_)
    refine x_goto (tgt := 131) rfl rfl ?_
    exact jX.sub (jsb_c rfl (jsb_c rfl (jsb_c rfl (jsb_c rfl (jsb_c rfl (jsb_c rfl (jsb_c rfl jsb_n))))))) (ct_X3_place_r87_c6_131 hD hQ k61 l2 l3 l4 l5 l6 v3 h (jr_of rfl (by omega)) (jr_of rfl (by omega)) (jr_of rfl (by omega)) (jr_of rfl (by omega)) (jr_of rfl (by omega)) (by omega) J Sm)
set_option maxRecDepth 100000 in
set_option maxHeartbeats 4000000 in
theorem ct_X3_place_r87_c6_61 {Dy : jH → Prop} {h0 : jH} {Q : Option Value → jH → Prop} (hD : jDk Dy) (hQ : ∀ h', jJ jSgX Dy h' → jSm fp_X3_place_r87_c6 h0 h' → Q none h') : ∀ r : Nat, ∀ (l2 : Int32) (l3 : Int32) (l4 : Int32) (l5 : Int32) (h : jH), 7 - l5.toInt < (r : Int) → 1 ≤ l2.toInt ∧ l2.toInt ≤ 6 → (-1) ≤ l4.toInt ∧ l4.toInt ≤ 8 → 0 ≤ l5.toInt ∧ l5.toInt ≤ 7 → jJ jSgX Dy h → jSm fp_X3_place_r87_c6 h0 h → jX m_X3_place 6 0 0 61 [(0, .ref 87), (1, .int 6), (2, .int l2), (3, .int l3), (4, .int l4), (5, .int l5)] [] h 0 0 Q := by
  intro r
  induction r with
  | zero =>
    intro l2 l3 l4 l5 h hm y0 y1 y2   J Sm
    exfalso
    omega
  | succ r ih =>
    intro l2 l3 l4 l5 h hm y0 y1 y2   J Sm
    have el3 := jfull l3
    refine x_iload (x := l5) rfl rfl ?_
    refine x_iloadn (x := l2) rfl rfl ?_
    refine x_icgt (tgt := 144) rfl rfl (ti_gt rfl rfl ⟨fun c1 => ?_, fun c1 => ?_⟩)
    ·
      exact jX.sub jsb_n (ct_X3_place_r87_c6_144 hD hQ  h J Sm)
    ·
      refine x_iload (x := l5) rfl rfl ?_
      refine x_bipush (v := 10) rfl kb_10 ?_
      refine x_icge (tgt := 144) rfl rfl (ti_ge rfl jk_10 (br_f (by omega) ?_))
      refine x_aloadn (x := 87) rfl rfl ?_
      refine z_getR (N := 14) (b := 93) 3 8 rfl f_3_31 rfl J rfl 11144 ⟨rfl, rfl⟩ rfl ?_
      refine x_iloadn (x := 6) rfl rfl ?_
      refine x_bipush (v := 10) rfl kb_10 ?_
      refine y_imul (v := 60) rfl (by decide) ?_
      refine x_iload (x := l5) rfl rfl ?_
      refine z_iadd rfl jk_60 rfl (by omega) (fun v2 ev2 => ?_)
      refine z_iald0 (N := 90) rfl J rfl rfl (by omega) (fun v3 qv3 => ?_)
      have ev3 := jfull v3
      refine x_istore (ls' := [(6, .int v3), (0, .ref 87), (1, .int 6), (2, .int l2), (3, .int l3), (4, .int l4), (5, .int l5)]) rfl rfl rfl ?_
      refine x_iload (x := v3) rfl rfl ?_
      refine x_iflt (tgt := 138) rfl rfl (ti_lt rfl jk_0 ⟨fun c4 => ?_, fun c4 => ?_⟩)
      ·
        exact jX.sub (jsb_c rfl (jsb_c rfl (jsb_c rfl (jsb_c rfl (jsb_c rfl (jsb_c rfl jsb_n)))))) (ct_X3_place_r87_c6_138 hD hQ ih l2 l3 l4 l5 h (jr_of rfl (by omega)) (jr_of rfl (by omega)) (jr_of rfl (by omega)) (by omega) J Sm)
      ·
        refine x_iload (x := l4) rfl rfl ?_
        refine x_iconst (v := (-1)) rfl ki_m1 ?_
        refine x_iceq (tgt := 106) rfl rfl (ti_eq rfl jk_m1 ⟨fun c5 => ?_, fun c5 => ?_⟩)
        ·
          exact jX.sub (jsb_c rfl (jsb_c rfl (jsb_c rfl (jsb_c rfl (jsb_c rfl (jsb_c rfl (jsb_c rfl jsb_n))))))) (ct_X3_place_r87_c6_106 hD hQ ih l2 l3 l4 l5 v3 h (jr_of rfl (by omega)) (jr_of rfl (by omega)) (jr_of rfl (by omega)) (jr_of rfl (by omega)) (by omega) J Sm)
        ·
          refine x_iload (x := l4) rfl rfl ?_
          refine x_iload (x := l5) rfl rfl ?_
          refine x_icne (tgt := 138) rfl rfl (ti_ne rfl rfl ⟨fun c6 => ?_, fun c6 => ?_⟩)
          ·
            exact jX.sub (jsb_c rfl (jsb_c rfl (jsb_c rfl (jsb_c rfl (jsb_c rfl (jsb_c rfl jsb_n)))))) (ct_X3_place_r87_c6_138 hD hQ ih l2 l3 l4 l5 h (jr_of rfl (by omega)) (jr_of rfl (by omega)) (jr_of rfl (by omega)) (by omega) J Sm)
          ·
            exact jX.sub (jsb_c rfl (jsb_c rfl (jsb_c rfl (jsb_c rfl (jsb_c rfl (jsb_c rfl (jsb_c rfl jsb_n))))))) (ct_X3_place_r87_c6_106 hD hQ ih l2 l3 l4 l5 v3 h (jr_of rfl (by omega)) (jr_of rfl (by omega)) (jr_of rfl (by omega)) (jr_of rfl (by omega)) (by omega) J Sm)
set_option maxRecDepth 100000 in
set_option maxHeartbeats 4000000 in
theorem ct_X3_place_r87_c6_56 {Dy : jH → Prop} {h0 : jH} {Q : Option Value → jH → Prop} (hD : jDk Dy) (hQ : ∀ h', jJ jSgX Dy h' → jSm fp_X3_place_r87_c6 h0 h' → Q none h') : ∀ (l2 : Int32) (l3 : Int32) (s0 : Int32) (h : jH), 1 ≤ l2.toInt ∧ l2.toInt ≤ 6 → 0 ≤ s0.toInt ∧ s0.toInt ≤ 8 → jJ jSgX Dy h → jSm fp_X3_place_r87_c6 h0 h → jX m_X3_place 6 0 0 56 [(0, .ref 87), (1, .int 6), (2, .int l2), (3, .int l3)] [.int s0] h 0 0 Q := by
  intro l2 l3 s0 h y0 y1   J Sm
  have el3 := jfull l3
  refine x_istore (ls' := [(4, .int s0), (0, .ref 87), (1, .int 6), (2, .int l2), (3, .int l3)]) rfl rfl rfl ?_
  refine x_iconst (v := 0) rfl ki_0 ?_
  refine x_istore (ls' := [(5, .int 0), (4, .int s0), (0, .ref 87), (1, .int 6), (2, .int l2), (3, .int l3)]) rfl rfl rfl ?_
  exact jX.sub (jsb_c rfl (jsb_c rfl (jsb_c rfl (jsb_c rfl (jsb_c rfl (jsb_c rfl jsb_n)))))) (ct_X3_place_r87_c6_61 hD hQ  8 l2 l3 s0 0 h (by have := jk_0; omega) (jr_of rfl (by omega)) (jr_of rfl (by omega)) (jr_of jk_0 (by omega)) J Sm)
set_option maxRecDepth 100000 in
set_option maxHeartbeats 4000000 in
theorem ct_X3_place_r87_c6_100056 {Dy : jH → Prop} {h0 : jH} {Q : Option Value → jH → Prop} (hD : jDk Dy) (hQ : ∀ h', jJ jSgX Dy h' → jSm fp_X3_place_r87_c6 h0 h' → Q none h') : ∀ (l2 : Int32) (l3 : Int32) (h : jH), 1 ≤ l2.toInt ∧ l2.toInt ≤ 6 → jJ jSgX Dy h → jSm fp_X3_place_r87_c6 h0 h → jX m_X3_place 6 0 0 56 [(0, .ref 87), (1, .int 6), (2, .int l2), (3, .int l3)] [.int (-1)] h 0 0 Q := by
  intro l2 l3 h y0   J Sm
  have el3 := jfull l3
  refine x_istore (ls' := [(4, .int (-1)), (0, .ref 87), (1, .int 6), (2, .int l2), (3, .int l3)]) rfl rfl rfl ?_
  refine x_iconst (v := 0) rfl ki_0 ?_
  refine x_istore (ls' := [(5, .int 0), (4, .int (-1)), (0, .ref 87), (1, .int 6), (2, .int l2), (3, .int l3)]) rfl rfl rfl ?_
  exact jX.sub (jsb_c rfl (jsb_c rfl (jsb_c rfl (jsb_c rfl (jsb_c rfl (jsb_c rfl jsb_n)))))) (ct_X3_place_r87_c6_61 hD hQ  8 l2 l3 (-1) 0 h (by have := jk_0; omega) (jr_of rfl (by omega)) (jr_of jk_m1 (by omega)) (jr_of jk_0 (by omega)) J Sm)
set_option maxRecDepth 100000 in
set_option maxHeartbeats 4000000 in
theorem sf_X3_place_r87_c6 {Dy : jH → Prop} {h : jH} {Q : Option Value → jH → Prop} {a2 : Int32} {a3 : Int32} (y2 : 1 ≤ a2.toInt ∧ a2.toInt ≤ 6) (hD : jDk Dy) (J : jJ jSgX Dy h) (hQ : ∀ h', jJ jSgX Dy h' → jSm fp_X3_place_r87_c6 h h' → Q none h') : jC m_X3_place 6 0 0 [.ref 87, .int 6, .int a2, .int a3] h Q := by
  refine jC.of rfl k_X3_place rfl ?_
  have Sm := jSm_rf fp_X3_place_r87_c6 h
  have ea3 := jfull a3
  show jX m_X3_place 6 0 0 0 [(0, .ref 87), (1, .int 6), (2, .int a2), (3, .int a3)] [] _ 0 0 _
  refine x_iloadn (x := 6) rfl rfl ?_
  refine x_iflt (tgt := 18) rfl rfl (ti_lt jk_6 jk_0 (br_f (by omega) ?_))
  refine x_iloadn (x := 6) rfl rfl ?_
  refine x_aloadn (x := 87) rfl rfl ?_
  refine z_getI (N := 14) 3 3 rfl f_3_15 rfl J rfl sg_87_3_4_1_0_1 (fun v1 qv1 ev1 => ?_)
  refine x_icge (tgt := 18) rfl rfl (ti_ge jk_6 rfl ⟨fun c2 => ?_, fun c2 => ?_⟩)
  ·
    exact jX.sub (jsb_c rfl (jsb_c rfl (jsb_c rfl jsb_n))) (ct_X3_place_r87_c6_18 hD hQ  a2 a3 h (jr_of rfl (by omega)) J Sm)
  ·
    refine x_iloadn (x := 6) rfl rfl ?_
    refine x_bipush (v := 9) rfl kb_9 ?_
    refine x_iclt (tgt := 25) rfl rfl (ti_lt jk_6 jk_9 (br_t (by omega) ?_))
    refine x_aloadn (x := 87) rfl rfl ?_
    refine x_iloadn (x := 6) rfl rfl ?_
    refine x_iloadn (x := a2) rfl rfl ?_
    refine x_inv (N := m_X3_readGains) (As := [.int 6, .int a2]) (b := 87) (st := []) (d' := 1) (mc := 0) (ms := 0) (host := "") 3 rfl t_X3_readGains ⟨Or.inl q_3_97, i_X3_readGains.1, i_X3_readGains.2⟩ ⟨by decide, rfl⟩ (congrArg Prod.fst (J.1.1 87 (3, 14) rfl)) rfl (by decide) rfl rfl ⟨by decide, by decide⟩ (sf_X3_readGains_r87 (jr_of jk_6 (by omega)) (jr_of rfl (by omega)) hD J  (fun h J S3 => ?_))
    have Sm := jSm_tr rfl Sm S3
    show jX m_X3_place 6 0 0 31 [(0, .ref 87), (1, .int 6), (2, .int a2), (3, .int a3)] [] _ 0 0 _
    refine x_aloadn (x := 87) rfl rfl ?_
    refine z_getR (N := 14) (b := 90) 3 5 rfl f_3_22 rfl J rfl 11141 ⟨rfl, rfl⟩ rfl ?_
    refine x_iloadn (x := 6) rfl rfl ?_
    refine z_iald (N := 9) rfl J rfl sg_90_0_9_1_0_1 jk_6 (by omega) (fun v4 qv4 ev4 => ?_)
    refine x_iconst (v := (-1)) rfl ki_m1 ?_
    refine x_icne (tgt := 45) rfl rfl (ti_ne rfl jk_m1 ⟨fun c5 => ?_, fun c5 => ?_⟩)
    ·
      refine x_aloadn (x := 87) rfl rfl ?_
      refine z_getR (N := 14) (b := 91) 3 6 rfl f_3_25 rfl J rfl 11142 ⟨rfl, rfl⟩ rfl ?_
      refine x_aloadn (x := 87) rfl rfl ?_
      refine z_getR (N := 14) (b := 90) 3 5 rfl f_3_22 rfl J rfl 11141 ⟨rfl, rfl⟩ rfl ?_
      refine x_iloadn (x := 6) rfl rfl ?_
      refine z_ialdM (N := 9) (v := v4) rfl J rfl jk_6 (by omega) qv4 ?_
      refine z_iald (N := 9) rfl J rfl sg_91_0_9_1_0_1 rfl (by omega) (fun v6 qv6 ev6 => ?_)
      exact jX.sub (jsb_c rfl (jsb_c rfl (jsb_c rfl (jsb_c rfl jsb_n)))) (ct_X3_place_r87_c6_56 hD hQ  a2 a3 v6 h (jr_of rfl (by omega)) (jr_of rfl (by omega)) J Sm)
    ·
      refine x_iconst (v := (-1)) rfl ki_m1 ?_
      refine x_goto (tgt := 56) rfl rfl ?_
      exact jX.sub (jsb_c rfl (jsb_c rfl (jsb_c rfl (jsb_c rfl jsb_n)))) (ct_X3_place_r87_c6_100056 hD hQ  a2 a3 h (jr_of rfl (by omega)) J Sm)
def fp_X3_place_r87_c5 : jFp := [(87, 10, 11), (87, 11, 12), (91, 0, 9), (92, 0, 9), (93, 0, 90), (94, 0, 14401)]
set_option maxRecDepth 100000 in
set_option maxHeartbeats 4000000 in
theorem ct_X3_place_r87_c5_18 {Dy : jH → Prop} {h0 : jH} {Q : Option Value → jH → Prop} (hD : jDk Dy) (hQ : ∀ h', jJ jSgX Dy h' → jSm fp_X3_place_r87_c5 h0 h' → Q none h') : ∀ (l2 : Int32) (l3 : Int32) (h : jH), 1 ≤ l2.toInt ∧ l2.toInt ≤ 5 → jJ jSgX Dy h → jSm fp_X3_place_r87_c5 h0 h → jX m_X3_place 7 0 0 18 [(0, .ref 87), (2, .int l2), (3, .int l3)] [] h 0 0 Q := by
  intro l2 l3 h y0   J Sm
  have el3 := jfull l3
  refine x_aloadn (x := 87) rfl rfl ?_
  refine x_iloadn (x := l2) rfl rfl ?_
  refine x_iloadn (x := l3) rfl rfl ?_
  refine x_inv (N := m_X3_note) (As := [.int l2, .int l3]) (b := 87) (st := []) (d' := 6) (mc := 0) (ms := 0) (host := "") 3 rfl t_X3_note ⟨Or.inl q_3_93, i_X3_note.1, i_X3_note.2⟩ ⟨by decide, rfl⟩ (congrArg Prod.fst (J.1.1 87 (3, 14) rfl)) rfl (by decide) rfl rfl ⟨by decide, by decide⟩ (jC.of rfl k_X3_note rfl ?_)
  show jX m_X3_note 6 0 0 0 [(0, .ref 87), (1, .int l2), (2, .int l3)] [] _ 0 0 _
  refine x_iloadn (x := l3) rfl rfl ?_
  refine x_iflt (tgt := 23) rfl rfl (ti_lt rfl jk_0 ⟨fun c1 => ?_, fun c1 => ?_⟩)
  ·
    refine x_iloadn (x := l3) rfl rfl ?_
    refine x_aloadn (x := 87) rfl rfl ?_
    refine z_getI (N := 14) 3 10 rfl f_3_37 rfl J rfl sg_87_10_11_1_0_1 (fun v2 qv2 ev2 => ?_)
    refine x_icgt (tgt := 47) rfl rfl (ti_gt rfl rfl (br_f (by omega) ?_))
    refine x_iloadn (x := l3) rfl rfl ?_
    refine x_aloadn (x := 87) rfl rfl ?_
    refine z_getM (N := 14) (v := v2) 3 10 rfl f_3_37 rfl J rfl qv2 ?_
    refine x_icne (tgt := 72) rfl rfl (ti_ne rfl rfl ⟨fun c3 => ?_, fun c3 => ?_⟩)
    ·
      refine x_vret rfl rfl ?_
      show jX m_X3_place 7 0 0 24 [(0, .ref 87), (2, .int l2), (3, .int l3)] [] _ 0 0 _
      refine x_vret rfl rfl ?_
      exact hQ _ J Sm
    ·
      refine x_iloadn (x := l2) rfl rfl ?_
      refine x_aloadn (x := 87) rfl rfl ?_
      refine z_getI (N := 14) 3 11 rfl f_3_40 rfl J rfl sg_87_11_12_1_0_1 (fun v4 qv4 ev4 => ?_)
      refine x_icge (tgt := 72) rfl rfl (ti_ge rfl rfl ⟨fun c5 => ?_, fun c5 => ?_⟩)
      ·
        refine x_vret rfl rfl ?_
        show jX m_X3_place 7 0 0 24 [(0, .ref 87), (2, .int l2), (3, .int l3)] [] _ 0 0 _
        refine x_vret rfl rfl ?_
        exact hQ _ J Sm
      ·
        refine x_aloadn (x := 87) rfl rfl ?_
        refine x_iloadn (x := l3) rfl rfl ?_
        refine z_putI (N := 14) (w := l3.toInt) 3 10 rfl f_3_37 rfl (jfin_no TX3 RX3 14 rfl rfl) hD J Sm rfl rfl rfl (pw_87_10 (by omega)) rfl (fun h w6 J Sm => ?_)
        refine x_aloadn (x := 87) rfl rfl ?_
        refine x_iloadn (x := l2) rfl rfl ?_
        refine z_putI (N := 14) (w := l2.toInt) 3 11 rfl f_3_40 rfl (jfin_no TX3 RX3 14 rfl rfl) hD J Sm rfl rfl rfl (pw_87_11 (by omega)) rfl (fun h w7 J Sm => ?_)
        refine x_aloadn (x := 87) rfl rfl ?_
        refine z_getR (N := 14) (b := 91) 3 6 rfl f_3_25 rfl J rfl 11142 ⟨rfl, rfl⟩ rfl ?_
        refine x_iconst (v := 0) rfl ki_0 ?_
        refine x_aloadn (x := 87) rfl rfl ?_
        refine z_getR (N := 14) (b := 92) 3 7 rfl f_3_28 rfl J rfl 11143 ⟨rfl, rfl⟩ rfl ?_
        refine x_iconst (v := 0) rfl ki_0 ?_
        refine x_bipush (v := 9) rfl kb_9 ?_
        refine z_cpi (N1 := 9) (N2 := 9) rfl ⟨q_3_100, jcp_w⟩ (by decide) rfl hD J Sm rfl rfl rfl rfl jk_0 jk_0 jk_9 (by omega) (cp_92 (fun k k1 k2 k3 => by have k4 := k3.1; have k5 := k3.2.1; have k6 := k3.2.2; simp only at k4 k5 k6; exact jcp_in J sg_91_0_9_1_0_1 rfl (by omega) (by decide))) rfl (fun h w8 J Sm => ?_)
        refine x_vret rfl rfl ?_
        show jX m_X3_place 7 0 0 24 [(0, .ref 87), (2, .int l2), (3, .int l3)] [] _ 0 0 _
        refine x_vret rfl rfl ?_
        exact hQ _ J Sm
  ·
    refine x_iloadn (x := l3) rfl rfl ?_
    refine x_aloadn (x := 87) rfl rfl ?_
    refine z_getR (N := 14) (b := 94) 3 9 rfl f_3_34 rfl J rfl 11145 ⟨rfl, rfl⟩ rfl ?_
    refine z_alen (N := 14401) (v := 14401) rfl J rfl rfl (by decide) ?_
    refine x_icge (tgt := 23) rfl rfl (ti_ge rfl jk_14401 ⟨fun c9 => ?_, fun c9 => ?_⟩)
    ·
      refine x_iloadn (x := l3) rfl rfl ?_
      refine x_aloadn (x := 87) rfl rfl ?_
      refine z_getI (N := 14) 3 10 rfl f_3_37 rfl J rfl sg_87_10_11_1_0_1 (fun v10 qv10 ev10 => ?_)
      refine x_icgt (tgt := 47) rfl rfl (ti_gt rfl rfl ⟨fun c11 => ?_, fun c11 => ?_⟩)
      ·
        refine x_aloadn (x := 87) rfl rfl ?_
        refine x_iloadn (x := l3) rfl rfl ?_
        refine z_putI (N := 14) (w := l3.toInt) 3 10 rfl f_3_37 rfl (jfin_no TX3 RX3 14 rfl rfl) hD J Sm rfl rfl rfl (pw_87_10 (by omega)) rfl (fun h w12 J Sm => ?_)
        refine x_aloadn (x := 87) rfl rfl ?_
        refine x_iloadn (x := l2) rfl rfl ?_
        refine z_putI (N := 14) (w := l2.toInt) 3 11 rfl f_3_40 rfl (jfin_no TX3 RX3 14 rfl rfl) hD J Sm rfl rfl rfl (pw_87_11 (by omega)) rfl (fun h w13 J Sm => ?_)
        refine x_aloadn (x := 87) rfl rfl ?_
        refine z_getR (N := 14) (b := 91) 3 6 rfl f_3_25 rfl J rfl 11142 ⟨rfl, rfl⟩ rfl ?_
        refine x_iconst (v := 0) rfl ki_0 ?_
        refine x_aloadn (x := 87) rfl rfl ?_
        refine z_getR (N := 14) (b := 92) 3 7 rfl f_3_28 rfl J rfl 11143 ⟨rfl, rfl⟩ rfl ?_
        refine x_iconst (v := 0) rfl ki_0 ?_
        refine x_bipush (v := 9) rfl kb_9 ?_
        refine z_cpi (N1 := 9) (N2 := 9) rfl ⟨q_3_100, jcp_w⟩ (by decide) rfl hD J Sm rfl rfl rfl rfl jk_0 jk_0 jk_9 (by omega) (cp_92 (fun k k1 k2 k3 => by have k4 := k3.1; have k5 := k3.2.1; have k6 := k3.2.2; simp only at k4 k5 k6; exact jcp_in J sg_91_0_9_1_0_1 rfl (by omega) (by decide))) rfl (fun h w14 J Sm => ?_)
        refine x_vret rfl rfl ?_
        show jX m_X3_place 7 0 0 24 [(0, .ref 87), (2, .int l2), (3, .int l3)] [] _ 0 0 _
        refine x_vret rfl rfl ?_
        exact hQ _ J Sm
      ·
        refine x_iloadn (x := l3) rfl rfl ?_
        refine x_aloadn (x := 87) rfl rfl ?_
        refine z_getM (N := 14) (v := v10) 3 10 rfl f_3_37 rfl J rfl qv10 ?_
        refine x_icne (tgt := 72) rfl rfl (ti_ne rfl rfl ⟨fun c15 => ?_, fun c15 => ?_⟩)
        ·
          refine x_vret rfl rfl ?_
          show jX m_X3_place 7 0 0 24 [(0, .ref 87), (2, .int l2), (3, .int l3)] [] _ 0 0 _
          refine x_vret rfl rfl ?_
          exact hQ _ J Sm
        ·
          refine x_iloadn (x := l2) rfl rfl ?_
          refine x_aloadn (x := 87) rfl rfl ?_
          refine z_getI (N := 14) 3 11 rfl f_3_40 rfl J rfl sg_87_11_12_1_0_1 (fun v16 qv16 ev16 => ?_)
          refine x_icge (tgt := 72) rfl rfl (ti_ge rfl rfl ⟨fun c17 => ?_, fun c17 => ?_⟩)
          ·
            refine x_vret rfl rfl ?_
            show jX m_X3_place 7 0 0 24 [(0, .ref 87), (2, .int l2), (3, .int l3)] [] _ 0 0 _
            refine x_vret rfl rfl ?_
            exact hQ _ J Sm
          ·
            refine x_aloadn (x := 87) rfl rfl ?_
            refine x_iloadn (x := l3) rfl rfl ?_
            refine z_putI (N := 14) (w := l3.toInt) 3 10 rfl f_3_37 rfl (jfin_no TX3 RX3 14 rfl rfl) hD J Sm rfl rfl rfl (pw_87_10 (by omega)) rfl (fun h w18 J Sm => ?_)
            refine x_aloadn (x := 87) rfl rfl ?_
            refine x_iloadn (x := l2) rfl rfl ?_
            refine z_putI (N := 14) (w := l2.toInt) 3 11 rfl f_3_40 rfl (jfin_no TX3 RX3 14 rfl rfl) hD J Sm rfl rfl rfl (pw_87_11 (by omega)) rfl (fun h w19 J Sm => ?_)
            refine x_aloadn (x := 87) rfl rfl ?_
            refine z_getR (N := 14) (b := 91) 3 6 rfl f_3_25 rfl J rfl 11142 ⟨rfl, rfl⟩ rfl ?_
            refine x_iconst (v := 0) rfl ki_0 ?_
            refine x_aloadn (x := 87) rfl rfl ?_
            refine z_getR (N := 14) (b := 92) 3 7 rfl f_3_28 rfl J rfl 11143 ⟨rfl, rfl⟩ rfl ?_
            refine x_iconst (v := 0) rfl ki_0 ?_
            refine x_bipush (v := 9) rfl kb_9 ?_
            refine z_cpi (N1 := 9) (N2 := 9) rfl ⟨q_3_100, jcp_w⟩ (by decide) rfl hD J Sm rfl rfl rfl rfl jk_0 jk_0 jk_9 (by omega) (cp_92 (fun k k1 k2 k3 => by have k4 := k3.1; have k5 := k3.2.1; have k6 := k3.2.2; simp only at k4 k5 k6; exact jcp_in J sg_91_0_9_1_0_1 rfl (by omega) (by decide))) rfl (fun h w20 J Sm => ?_)
            refine x_vret rfl rfl ?_
            show jX m_X3_place 7 0 0 24 [(0, .ref 87), (2, .int l2), (3, .int l3)] [] _ 0 0 _
            refine x_vret rfl rfl ?_
            exact hQ _ J Sm
    ·
      refine x_aloadn (x := 87) rfl rfl ?_
      refine z_getR (N := 14) (b := 94) 3 9 rfl f_3_34 rfl J rfl 11145 ⟨rfl, rfl⟩ rfl ?_
      refine x_iloadn (x := l3) rfl rfl ?_
      refine x_dup2 rfl rfl rfl ?_
      refine z_iald0 (N := 14401) rfl J rfl rfl (by omega) (fun v21 qv21 => ?_)
      have ev21 := jfull v21
      refine x_iconst (v := 1) rfl ki_1 ?_
      refine z_iadd0 rfl (fun v22 => ?_)
      have ev22 := jfull v22
      refine z_iast (N := 14401) (l := 0) (u := 14401) (w := v22.toInt) rfl hD J Sm rfl rfl rfl (by omega) rfl (wr_94) rfl (fun h w23 J Sm => ?_)
      refine x_iloadn (x := l3) rfl rfl ?_
      refine x_aloadn (x := 87) rfl rfl ?_
      refine z_getI (N := 14) 3 10 rfl f_3_37 rfl J rfl sg_87_10_11_1_0_1 (fun v24 qv24 ev24 => ?_)
      refine x_icgt (tgt := 47) rfl rfl (ti_gt rfl rfl ⟨fun c25 => ?_, fun c25 => ?_⟩)
      ·
        refine x_aloadn (x := 87) rfl rfl ?_
        refine x_iloadn (x := l3) rfl rfl ?_
        refine z_putI (N := 14) (w := l3.toInt) 3 10 rfl f_3_37 rfl (jfin_no TX3 RX3 14 rfl rfl) hD J Sm rfl rfl rfl (pw_87_10 (by omega)) rfl (fun h w26 J Sm => ?_)
        refine x_aloadn (x := 87) rfl rfl ?_
        refine x_iloadn (x := l2) rfl rfl ?_
        refine z_putI (N := 14) (w := l2.toInt) 3 11 rfl f_3_40 rfl (jfin_no TX3 RX3 14 rfl rfl) hD J Sm rfl rfl rfl (pw_87_11 (by omega)) rfl (fun h w27 J Sm => ?_)
        refine x_aloadn (x := 87) rfl rfl ?_
        refine z_getR (N := 14) (b := 91) 3 6 rfl f_3_25 rfl J rfl 11142 ⟨rfl, rfl⟩ rfl ?_
        refine x_iconst (v := 0) rfl ki_0 ?_
        refine x_aloadn (x := 87) rfl rfl ?_
        refine z_getR (N := 14) (b := 92) 3 7 rfl f_3_28 rfl J rfl 11143 ⟨rfl, rfl⟩ rfl ?_
        refine x_iconst (v := 0) rfl ki_0 ?_
        refine x_bipush (v := 9) rfl kb_9 ?_
        refine z_cpi (N1 := 9) (N2 := 9) rfl ⟨q_3_100, jcp_w⟩ (by decide) rfl hD J Sm rfl rfl rfl rfl jk_0 jk_0 jk_9 (by omega) (cp_92 (fun k k1 k2 k3 => by have k4 := k3.1; have k5 := k3.2.1; have k6 := k3.2.2; simp only at k4 k5 k6; exact jcp_in J sg_91_0_9_1_0_1 rfl (by omega) (by decide))) rfl (fun h w28 J Sm => ?_)
        refine x_vret rfl rfl ?_
        show jX m_X3_place 7 0 0 24 [(0, .ref 87), (2, .int l2), (3, .int l3)] [] _ 0 0 _
        refine x_vret rfl rfl ?_
        exact hQ _ J Sm
      ·
        refine x_iloadn (x := l3) rfl rfl ?_
        refine x_aloadn (x := 87) rfl rfl ?_
        refine z_getM (N := 14) (v := v24) 3 10 rfl f_3_37 rfl J rfl qv24 ?_
        refine x_icne (tgt := 72) rfl rfl (ti_ne rfl rfl ⟨fun c29 => ?_, fun c29 => ?_⟩)
        ·
          refine x_vret rfl rfl ?_
          show jX m_X3_place 7 0 0 24 [(0, .ref 87), (2, .int l2), (3, .int l3)] [] _ 0 0 _
          refine x_vret rfl rfl ?_
          exact hQ _ J Sm
        ·
          refine x_iloadn (x := l2) rfl rfl ?_
          refine x_aloadn (x := 87) rfl rfl ?_
          refine z_getI (N := 14) 3 11 rfl f_3_40 rfl J rfl sg_87_11_12_1_0_1 (fun v30 qv30 ev30 => ?_)
          refine x_icge (tgt := 72) rfl rfl (ti_ge rfl rfl ⟨fun c31 => ?_, fun c31 => ?_⟩)
          ·
            refine x_vret rfl rfl ?_
            show jX m_X3_place 7 0 0 24 [(0, .ref 87), (2, .int l2), (3, .int l3)] [] _ 0 0 _
            refine x_vret rfl rfl ?_
            exact hQ _ J Sm
          ·
            refine x_aloadn (x := 87) rfl rfl ?_
            refine x_iloadn (x := l3) rfl rfl ?_
            refine z_putI (N := 14) (w := l3.toInt) 3 10 rfl f_3_37 rfl (jfin_no TX3 RX3 14 rfl rfl) hD J Sm rfl rfl rfl (pw_87_10 (by omega)) rfl (fun h w32 J Sm => ?_)
            refine x_aloadn (x := 87) rfl rfl ?_
            refine x_iloadn (x := l2) rfl rfl ?_
            refine z_putI (N := 14) (w := l2.toInt) 3 11 rfl f_3_40 rfl (jfin_no TX3 RX3 14 rfl rfl) hD J Sm rfl rfl rfl (pw_87_11 (by omega)) rfl (fun h w33 J Sm => ?_)
            refine x_aloadn (x := 87) rfl rfl ?_
            refine z_getR (N := 14) (b := 91) 3 6 rfl f_3_25 rfl J rfl 11142 ⟨rfl, rfl⟩ rfl ?_
            refine x_iconst (v := 0) rfl ki_0 ?_
            refine x_aloadn (x := 87) rfl rfl ?_
            refine z_getR (N := 14) (b := 92) 3 7 rfl f_3_28 rfl J rfl 11143 ⟨rfl, rfl⟩ rfl ?_
            refine x_iconst (v := 0) rfl ki_0 ?_
            refine x_bipush (v := 9) rfl kb_9 ?_
            refine z_cpi (N1 := 9) (N2 := 9) rfl ⟨q_3_100, jcp_w⟩ (by decide) rfl hD J Sm rfl rfl rfl rfl jk_0 jk_0 jk_9 (by omega) (cp_92 (fun k k1 k2 k3 => by have k4 := k3.1; have k5 := k3.2.1; have k6 := k3.2.2; simp only at k4 k5 k6; exact jcp_in J sg_91_0_9_1_0_1 rfl (by omega) (by decide))) rfl (fun h w34 J Sm => ?_)
            refine x_vret rfl rfl ?_
            show jX m_X3_place 7 0 0 24 [(0, .ref 87), (2, .int l2), (3, .int l3)] [] _ 0 0 _
            refine x_vret rfl rfl ?_
            exact hQ _ J Sm
set_option maxRecDepth 100000 in
set_option maxHeartbeats 4000000 in
theorem ct_X3_place_r87_c5_144 {Dy : jH → Prop} {h0 : jH} {Q : Option Value → jH → Prop} (hD : jDk Dy) (hQ : ∀ h', jJ jSgX Dy h' → jSm fp_X3_place_r87_c5 h0 h' → Q none h') : ∀ (h : jH), jJ jSgX Dy h → jSm fp_X3_place_r87_c5 h0 h → jX m_X3_place 7 0 0 144 [] [] h 0 0 Q := by
  intro  h    J Sm
  refine x_vret rfl rfl ?_
  exact hQ _ J Sm
set_option maxRecDepth 100000 in
set_option maxHeartbeats 4000000 in
theorem ct_X3_place_r87_c5_138 {Dy : jH → Prop} {h0 : jH} {Q : Option Value → jH → Prop} {R61 : Int} (hD : jDk Dy) (hQ : ∀ h', jJ jSgX Dy h' → jSm fp_X3_place_r87_c5 h0 h' → Q none h') (k61 : ∀ (l2 : Int32) (l3 : Int32) (l4 : Int32) (l5 : Int32) (h : jH), 6 - l5.toInt < R61 → 1 ≤ l2.toInt ∧ l2.toInt ≤ 5 → (-1) ≤ l4.toInt ∧ l4.toInt ≤ 8 → 0 ≤ l5.toInt ∧ l5.toInt ≤ 6 → jJ jSgX Dy h → jSm fp_X3_place_r87_c5 h0 h → jX m_X3_place 7 0 0 61 [(0, .ref 87), (1, .int 5), (2, .int l2), (3, .int l3), (4, .int l4), (5, .int l5)] [] h 0 0 Q) : ∀ (l2 : Int32) (l3 : Int32) (l4 : Int32) (l5 : Int32) (h : jH), 1 ≤ l2.toInt ∧ l2.toInt ≤ 5 → (-1) ≤ l4.toInt ∧ l4.toInt ≤ 8 → 0 ≤ l5.toInt ∧ l5.toInt ≤ 5 → 6 - l5.toInt ≤ R61 → jJ jSgX Dy h → jSm fp_X3_place_r87_c5 h0 h → jX m_X3_place 7 0 0 138 [(0, .ref 87), (1, .int 5), (2, .int l2), (3, .int l3), (4, .int l4), (5, .int l5)] [] h 0 0 Q := by
  intro l2 l3 l4 l5 h y0 y1 y2  m61 J Sm
  have el3 := jfull l3
  refine z_iinc (x := l5) (ls' := fun v1 => [(5, .int v1), (0, .ref 87), (1, .int 5), (2, .int l2), (3, .int l3), (4, .int l4)]) rfl rfl rfl jko_1 (by omega) rfl (fun _ => rfl) (fun v1 ev1 => ?_)
  refine x_goto (tgt := 61) rfl rfl ?_
  exact jX.sub (jsb_c rfl (jsb_c rfl (jsb_c rfl (jsb_c rfl (jsb_c rfl (jsb_c rfl jsb_n)))))) (k61 l2 l3 l4 v1 h (by omega) (jr_of rfl (by omega)) (jr_of rfl (by omega)) (jr_of rfl (by omega)) J Sm)
set_option maxRecDepth 100000 in
set_option maxHeartbeats 4000000 in
theorem ct_X3_place_r87_c5_131 {Dy : jH → Prop} {h0 : jH} {Q : Option Value → jH → Prop} {R61 : Int} (hD : jDk Dy) (hQ : ∀ h', jJ jSgX Dy h' → jSm fp_X3_place_r87_c5 h0 h' → Q none h') (k61 : ∀ (l2 : Int32) (l3 : Int32) (l4 : Int32) (l5 : Int32) (h : jH), 6 - l5.toInt < R61 → 1 ≤ l2.toInt ∧ l2.toInt ≤ 5 → (-1) ≤ l4.toInt ∧ l4.toInt ≤ 8 → 0 ≤ l5.toInt ∧ l5.toInt ≤ 6 → jJ jSgX Dy h → jSm fp_X3_place_r87_c5 h0 h → jX m_X3_place 7 0 0 61 [(0, .ref 87), (1, .int 5), (2, .int l2), (3, .int l3), (4, .int l4), (5, .int l5)] [] h 0 0 Q) : ∀ (l2 : Int32) (l3 : Int32) (l4 : Int32) (l5 : Int32) (l6 : Int32) (s0 : Int32) (h : jH), 1 ≤ l2.toInt ∧ l2.toInt ≤ 5 → (-1) ≤ l4.toInt ∧ l4.toInt ≤ 5 → 0 ≤ l5.toInt ∧ l5.toInt ≤ 5 → 0 ≤ l6.toInt ∧ l6.toInt ≤ 2147483647 → 1 ≤ s0.toInt ∧ s0.toInt ≤ 6 → 6 - l5.toInt ≤ R61 → jJ jSgX Dy h → jSm fp_X3_place_r87_c5 h0 h → jX m_X3_place 7 0 0 131 [(0, .ref 87), (1, .int 5), (2, .int l2), (3, .int l3), (4, .int l4), (5, .int l5), (6, .int l6)] [.int s0, .int 6, .ref 87] h 0 0 Q := by
  intro l2 l3 l4 l5 l6 s0 h y0 y1 y2 y3 y4  m61 J Sm
  have el3 := jfull l3
  refine x_iloadn (x := l3) rfl rfl ?_
  refine x_iload (x := l6) rfl rfl ?_
  refine z_iadd0 rfl (fun v1 => ?_)
  have ev1 := jfull v1
  refine x_inv (N := m_X3_place) (As := [.int 6, .int s0, .int v1]) (b := 87) (st := []) (d' := 6) (mc := 0) (ms := 0) (host := "") 3 rfl t_X3_place ⟨Or.inl q_3_80, i_X3_place.1, i_X3_place.2⟩ ⟨by decide, rfl⟩ (congrArg Prod.fst (J.1.1 87 (3, 14) rfl)) rfl (by decide) rfl rfl ⟨by decide, by decide⟩ (sf_X3_place_r87_c6 (jr_of rfl (by omega)) hD J  (fun h J S2 => ?_))
  have Sm := jSm_tr rfl Sm S2
  show jX m_X3_place 7 0 0 138 [(0, .ref 87), (1, .int 5), (2, .int l2), (3, .int l3), (4, .int l4), (5, .int l5), (6, .int l6)] [] _ 0 0 _
  exact jX.sub (jsb_c rfl (jsb_c rfl (jsb_c rfl (jsb_c rfl (jsb_c rfl (jsb_c rfl jsb_n)))))) (ct_X3_place_r87_c5_138 hD hQ k61 l2 l3 l4 l5 h (jr_of rfl (by omega)) (jr_of rfl (by omega)) (jr_of rfl (by omega)) (by omega) J Sm)
set_option maxRecDepth 100000 in
set_option maxHeartbeats 4000000 in
theorem ct_X3_place_r87_c5_106 {Dy : jH → Prop} {h0 : jH} {Q : Option Value → jH → Prop} {R61 : Int} (hD : jDk Dy) (hQ : ∀ h', jJ jSgX Dy h' → jSm fp_X3_place_r87_c5 h0 h' → Q none h') (k61 : ∀ (l2 : Int32) (l3 : Int32) (l4 : Int32) (l5 : Int32) (h : jH), 6 - l5.toInt < R61 → 1 ≤ l2.toInt ∧ l2.toInt ≤ 5 → (-1) ≤ l4.toInt ∧ l4.toInt ≤ 8 → 0 ≤ l5.toInt ∧ l5.toInt ≤ 6 → jJ jSgX Dy h → jSm fp_X3_place_r87_c5 h0 h → jX m_X3_place 7 0 0 61 [(0, .ref 87), (1, .int 5), (2, .int l2), (3, .int l3), (4, .int l4), (5, .int l5)] [] h 0 0 Q) : ∀ (l2 : Int32) (l3 : Int32) (l4 : Int32) (l5 : Int32) (l6 : Int32) (h : jH), 1 ≤ l2.toInt ∧ l2.toInt ≤ 5 → (-1) ≤ l4.toInt ∧ l4.toInt ≤ 5 → 0 ≤ l5.toInt ∧ l5.toInt ≤ 5 → 0 ≤ l6.toInt ∧ l6.toInt ≤ 2147483647 → 6 - l5.toInt ≤ R61 → jJ jSgX Dy h → jSm fp_X3_place_r87_c5 h0 h → jX m_X3_place 7 0 0 106 [(0, .ref 87), (1, .int 5), (2, .int l2), (3, .int l3), (4, .int l4), (5, .int l5), (6, .int l6)] [] h 0 0 Q := by
  intro l2 l3 l4 l5 l6 h y0 y1 y2 y3  m61 J Sm
  have el3 := jfull l3
  refine x_aloadn (x := 87) rfl rfl ?_
  refine z_getR (N := 14) (b := 91) 3 6 rfl f_3_25 rfl J rfl 11142 ⟨rfl, rfl⟩ rfl ?_
  refine x_iloadn (x := 5) rfl rfl ?_
  refine x_iload (x := l5) rfl rfl ?_
  refine z_iast (N := 9) (l := 0) (u := 9) (w := l5.toInt) rfl hD J Sm rfl rfl jk_5 (by omega) rfl (wr_91 (fun q1 q2 q3 q4 => by omega)) rfl (fun h w1 J Sm => ?_)
  refine x_aloadn (x := 87) rfl rfl ?_
  refine x_iloadn (x := 5) rfl rfl ?_
  refine x_iconst (v := 1) rfl ki_1 ?_
  refine y_iadd (v := 6) rfl (by decide) ?_
  refine x_iload (x := l5) rfl rfl ?_
  refine x_iloadn (x := l2) rfl rfl ?_
  refine x_icne (tgt := 130) rfl rfl (ti_ne rfl rfl ⟨fun c2 => ?_, fun c2 => ?_⟩)
  ·
    refine x_iloadn (x := l2) rfl rfl ?_
    exact jX.sub (jsb_c rfl (jsb_c rfl (jsb_c rfl (jsb_c rfl (jsb_c rfl (jsb_c rfl (jsb_c rfl jsb_n))))))) (ct_X3_place_r87_c5_131 hD hQ k61 l2 l3 l4 l5 l6 l2 h (jr_of rfl (by omega)) (jr_of rfl (by omega)) (jr_of rfl (by omega)) (jr_of rfl (by omega)) (jr_of rfl (by omega)) (by omega) J Sm)
  ·
    refine x_iloadn (x := l2) rfl rfl ?_
    refine x_iconst (v := 1) rfl ki_1 ?_
    refine z_iadd rfl rfl jk_1 (by omega) (fun v3 ev3 => ?_)
    refine x_goto (tgt := 131) rfl rfl ?_
    exact jX.sub (jsb_c rfl (jsb_c rfl (jsb_c rfl (jsb_c rfl (jsb_c rfl (jsb_c rfl (jsb_c rfl jsb_n))))))) (ct_X3_place_r87_c5_131 hD hQ k61 l2 l3 l4 l5 l6 v3 h (jr_of rfl (by omega)) (jr_of rfl (by omega)) (jr_of rfl (by omega)) (jr_of rfl (by omega)) (jr_of rfl (by omega)) (by omega) J Sm)
set_option maxRecDepth 100000 in
set_option maxHeartbeats 4000000 in
theorem ct_X3_place_r87_c5_61 {Dy : jH → Prop} {h0 : jH} {Q : Option Value → jH → Prop} (hD : jDk Dy) (hQ : ∀ h', jJ jSgX Dy h' → jSm fp_X3_place_r87_c5 h0 h' → Q none h') : ∀ r : Nat, ∀ (l2 : Int32) (l3 : Int32) (l4 : Int32) (l5 : Int32) (h : jH), 6 - l5.toInt < (r : Int) → 1 ≤ l2.toInt ∧ l2.toInt ≤ 5 → (-1) ≤ l4.toInt ∧ l4.toInt ≤ 8 → 0 ≤ l5.toInt ∧ l5.toInt ≤ 6 → jJ jSgX Dy h → jSm fp_X3_place_r87_c5 h0 h → jX m_X3_place 7 0 0 61 [(0, .ref 87), (1, .int 5), (2, .int l2), (3, .int l3), (4, .int l4), (5, .int l5)] [] h 0 0 Q := by
  intro r
  induction r with
  | zero =>
    intro l2 l3 l4 l5 h hm y0 y1 y2   J Sm
    exfalso
    omega
  | succ r ih =>
    intro l2 l3 l4 l5 h hm y0 y1 y2   J Sm
    have el3 := jfull l3
    refine x_iload (x := l5) rfl rfl ?_
    refine x_iloadn (x := l2) rfl rfl ?_
    refine x_icgt (tgt := 144) rfl rfl (ti_gt rfl rfl ⟨fun c1 => ?_, fun c1 => ?_⟩)
    ·
      exact jX.sub jsb_n (ct_X3_place_r87_c5_144 hD hQ  h J Sm)
    ·
      refine x_iload (x := l5) rfl rfl ?_
      refine x_bipush (v := 10) rfl kb_10 ?_
      refine x_icge (tgt := 144) rfl rfl (ti_ge rfl jk_10 (br_f (by omega) ?_))
      refine x_aloadn (x := 87) rfl rfl ?_
      refine z_getR (N := 14) (b := 93) 3 8 rfl f_3_31 rfl J rfl 11144 ⟨rfl, rfl⟩ rfl ?_
      refine x_iloadn (x := 5) rfl rfl ?_
      refine x_bipush (v := 10) rfl kb_10 ?_
      refine y_imul (v := 50) rfl (by decide) ?_
      refine x_iload (x := l5) rfl rfl ?_
      refine z_iadd rfl jk_50 rfl (by omega) (fun v2 ev2 => ?_)
      refine z_iald0 (N := 90) rfl J rfl rfl (by omega) (fun v3 qv3 => ?_)
      have ev3 := jfull v3
      refine x_istore (ls' := [(6, .int v3), (0, .ref 87), (1, .int 5), (2, .int l2), (3, .int l3), (4, .int l4), (5, .int l5)]) rfl rfl rfl ?_
      refine x_iload (x := v3) rfl rfl ?_
      refine x_iflt (tgt := 138) rfl rfl (ti_lt rfl jk_0 ⟨fun c4 => ?_, fun c4 => ?_⟩)
      ·
        exact jX.sub (jsb_c rfl (jsb_c rfl (jsb_c rfl (jsb_c rfl (jsb_c rfl (jsb_c rfl jsb_n)))))) (ct_X3_place_r87_c5_138 hD hQ ih l2 l3 l4 l5 h (jr_of rfl (by omega)) (jr_of rfl (by omega)) (jr_of rfl (by omega)) (by omega) J Sm)
      ·
        refine x_iload (x := l4) rfl rfl ?_
        refine x_iconst (v := (-1)) rfl ki_m1 ?_
        refine x_iceq (tgt := 106) rfl rfl (ti_eq rfl jk_m1 ⟨fun c5 => ?_, fun c5 => ?_⟩)
        ·
          exact jX.sub (jsb_c rfl (jsb_c rfl (jsb_c rfl (jsb_c rfl (jsb_c rfl (jsb_c rfl (jsb_c rfl jsb_n))))))) (ct_X3_place_r87_c5_106 hD hQ ih l2 l3 l4 l5 v3 h (jr_of rfl (by omega)) (jr_of rfl (by omega)) (jr_of rfl (by omega)) (jr_of rfl (by omega)) (by omega) J Sm)
        ·
          refine x_iload (x := l4) rfl rfl ?_
          refine x_iload (x := l5) rfl rfl ?_
          refine x_icne (tgt := 138) rfl rfl (ti_ne rfl rfl ⟨fun c6 => ?_, fun c6 => ?_⟩)
          ·
            exact jX.sub (jsb_c rfl (jsb_c rfl (jsb_c rfl (jsb_c rfl (jsb_c rfl (jsb_c rfl jsb_n)))))) (ct_X3_place_r87_c5_138 hD hQ ih l2 l3 l4 l5 h (jr_of rfl (by omega)) (jr_of rfl (by omega)) (jr_of rfl (by omega)) (by omega) J Sm)
          ·
            exact jX.sub (jsb_c rfl (jsb_c rfl (jsb_c rfl (jsb_c rfl (jsb_c rfl (jsb_c rfl (jsb_c rfl jsb_n))))))) (ct_X3_place_r87_c5_106 hD hQ ih l2 l3 l4 l5 v3 h (jr_of rfl (by omega)) (jr_of rfl (by omega)) (jr_of rfl (by omega)) (jr_of rfl (by omega)) (by omega) J Sm)
set_option maxRecDepth 100000 in
set_option maxHeartbeats 4000000 in
theorem ct_X3_place_r87_c5_56 {Dy : jH → Prop} {h0 : jH} {Q : Option Value → jH → Prop} (hD : jDk Dy) (hQ : ∀ h', jJ jSgX Dy h' → jSm fp_X3_place_r87_c5 h0 h' → Q none h') : ∀ (l2 : Int32) (l3 : Int32) (s0 : Int32) (h : jH), 1 ≤ l2.toInt ∧ l2.toInt ≤ 5 → 0 ≤ s0.toInt ∧ s0.toInt ≤ 8 → jJ jSgX Dy h → jSm fp_X3_place_r87_c5 h0 h → jX m_X3_place 7 0 0 56 [(0, .ref 87), (1, .int 5), (2, .int l2), (3, .int l3)] [.int s0] h 0 0 Q := by
  intro l2 l3 s0 h y0 y1   J Sm
  have el3 := jfull l3
  refine x_istore (ls' := [(4, .int s0), (0, .ref 87), (1, .int 5), (2, .int l2), (3, .int l3)]) rfl rfl rfl ?_
  refine x_iconst (v := 0) rfl ki_0 ?_
  refine x_istore (ls' := [(5, .int 0), (4, .int s0), (0, .ref 87), (1, .int 5), (2, .int l2), (3, .int l3)]) rfl rfl rfl ?_
  exact jX.sub (jsb_c rfl (jsb_c rfl (jsb_c rfl (jsb_c rfl (jsb_c rfl (jsb_c rfl jsb_n)))))) (ct_X3_place_r87_c5_61 hD hQ  7 l2 l3 s0 0 h (by have := jk_0; omega) (jr_of rfl (by omega)) (jr_of rfl (by omega)) (jr_of jk_0 (by omega)) J Sm)
set_option maxRecDepth 100000 in
set_option maxHeartbeats 4000000 in
theorem ct_X3_place_r87_c5_100056 {Dy : jH → Prop} {h0 : jH} {Q : Option Value → jH → Prop} (hD : jDk Dy) (hQ : ∀ h', jJ jSgX Dy h' → jSm fp_X3_place_r87_c5 h0 h' → Q none h') : ∀ (l2 : Int32) (l3 : Int32) (h : jH), 1 ≤ l2.toInt ∧ l2.toInt ≤ 5 → jJ jSgX Dy h → jSm fp_X3_place_r87_c5 h0 h → jX m_X3_place 7 0 0 56 [(0, .ref 87), (1, .int 5), (2, .int l2), (3, .int l3)] [.int (-1)] h 0 0 Q := by
  intro l2 l3 h y0   J Sm
  have el3 := jfull l3
  refine x_istore (ls' := [(4, .int (-1)), (0, .ref 87), (1, .int 5), (2, .int l2), (3, .int l3)]) rfl rfl rfl ?_
  refine x_iconst (v := 0) rfl ki_0 ?_
  refine x_istore (ls' := [(5, .int 0), (4, .int (-1)), (0, .ref 87), (1, .int 5), (2, .int l2), (3, .int l3)]) rfl rfl rfl ?_
  exact jX.sub (jsb_c rfl (jsb_c rfl (jsb_c rfl (jsb_c rfl (jsb_c rfl (jsb_c rfl jsb_n)))))) (ct_X3_place_r87_c5_61 hD hQ  7 l2 l3 (-1) 0 h (by have := jk_0; omega) (jr_of rfl (by omega)) (jr_of jk_m1 (by omega)) (jr_of jk_0 (by omega)) J Sm)
set_option maxRecDepth 100000 in
set_option maxHeartbeats 4000000 in
theorem sf_X3_place_r87_c5 {Dy : jH → Prop} {h : jH} {Q : Option Value → jH → Prop} {a2 : Int32} {a3 : Int32} (y2 : 1 ≤ a2.toInt ∧ a2.toInt ≤ 5) (hD : jDk Dy) (J : jJ jSgX Dy h) (hQ : ∀ h', jJ jSgX Dy h' → jSm fp_X3_place_r87_c5 h h' → Q none h') : jC m_X3_place 7 0 0 [.ref 87, .int 5, .int a2, .int a3] h Q := by
  refine jC.of rfl k_X3_place rfl ?_
  have Sm := jSm_rf fp_X3_place_r87_c5 h
  have ea3 := jfull a3
  show jX m_X3_place 7 0 0 0 [(0, .ref 87), (1, .int 5), (2, .int a2), (3, .int a3)] [] _ 0 0 _
  refine x_iloadn (x := 5) rfl rfl ?_
  refine x_iflt (tgt := 18) rfl rfl (ti_lt jk_5 jk_0 (br_f (by omega) ?_))
  refine x_iloadn (x := 5) rfl rfl ?_
  refine x_aloadn (x := 87) rfl rfl ?_
  refine z_getI (N := 14) 3 3 rfl f_3_15 rfl J rfl sg_87_3_4_1_0_1 (fun v1 qv1 ev1 => ?_)
  refine x_icge (tgt := 18) rfl rfl (ti_ge jk_5 rfl ⟨fun c2 => ?_, fun c2 => ?_⟩)
  ·
    exact jX.sub (jsb_c rfl (jsb_c rfl (jsb_c rfl jsb_n))) (ct_X3_place_r87_c5_18 hD hQ  a2 a3 h (jr_of rfl (by omega)) J Sm)
  ·
    refine x_iloadn (x := 5) rfl rfl ?_
    refine x_bipush (v := 9) rfl kb_9 ?_
    refine x_iclt (tgt := 25) rfl rfl (ti_lt jk_5 jk_9 (br_t (by omega) ?_))
    refine x_aloadn (x := 87) rfl rfl ?_
    refine x_iloadn (x := 5) rfl rfl ?_
    refine x_iloadn (x := a2) rfl rfl ?_
    refine x_inv (N := m_X3_readGains) (As := [.int 5, .int a2]) (b := 87) (st := []) (d' := 1) (mc := 0) (ms := 0) (host := "") 3 rfl t_X3_readGains ⟨Or.inl q_3_97, i_X3_readGains.1, i_X3_readGains.2⟩ ⟨by decide, rfl⟩ (congrArg Prod.fst (J.1.1 87 (3, 14) rfl)) rfl (by decide) rfl rfl ⟨by decide, by decide⟩ (sf_X3_readGains_r87 (jr_of jk_5 (by omega)) (jr_of rfl (by omega)) hD J  (fun h J S3 => ?_))
    have Sm := jSm_tr rfl Sm S3
    show jX m_X3_place 7 0 0 31 [(0, .ref 87), (1, .int 5), (2, .int a2), (3, .int a3)] [] _ 0 0 _
    refine x_aloadn (x := 87) rfl rfl ?_
    refine z_getR (N := 14) (b := 90) 3 5 rfl f_3_22 rfl J rfl 11141 ⟨rfl, rfl⟩ rfl ?_
    refine x_iloadn (x := 5) rfl rfl ?_
    refine z_iald (N := 9) rfl J rfl sg_90_0_9_1_0_1 jk_5 (by omega) (fun v4 qv4 ev4 => ?_)
    refine x_iconst (v := (-1)) rfl ki_m1 ?_
    refine x_icne (tgt := 45) rfl rfl (ti_ne rfl jk_m1 ⟨fun c5 => ?_, fun c5 => ?_⟩)
    ·
      refine x_aloadn (x := 87) rfl rfl ?_
      refine z_getR (N := 14) (b := 91) 3 6 rfl f_3_25 rfl J rfl 11142 ⟨rfl, rfl⟩ rfl ?_
      refine x_aloadn (x := 87) rfl rfl ?_
      refine z_getR (N := 14) (b := 90) 3 5 rfl f_3_22 rfl J rfl 11141 ⟨rfl, rfl⟩ rfl ?_
      refine x_iloadn (x := 5) rfl rfl ?_
      refine z_ialdM (N := 9) (v := v4) rfl J rfl jk_5 (by omega) qv4 ?_
      refine z_iald (N := 9) rfl J rfl sg_91_0_9_1_0_1 rfl (by omega) (fun v6 qv6 ev6 => ?_)
      exact jX.sub (jsb_c rfl (jsb_c rfl (jsb_c rfl (jsb_c rfl jsb_n)))) (ct_X3_place_r87_c5_56 hD hQ  a2 a3 v6 h (jr_of rfl (by omega)) (jr_of rfl (by omega)) J Sm)
    ·
      refine x_iconst (v := (-1)) rfl ki_m1 ?_
      refine x_goto (tgt := 56) rfl rfl ?_
      exact jX.sub (jsb_c rfl (jsb_c rfl (jsb_c rfl (jsb_c rfl jsb_n)))) (ct_X3_place_r87_c5_100056 hD hQ  a2 a3 h (jr_of rfl (by omega)) J Sm)
def fp_X3_place_r87_c4 : jFp := [(87, 10, 11), (87, 11, 12), (91, 0, 9), (92, 0, 9), (93, 0, 90), (94, 0, 14401)]
set_option maxRecDepth 100000 in
set_option maxHeartbeats 4000000 in
theorem ct_X3_place_r87_c4_18 {Dy : jH → Prop} {h0 : jH} {Q : Option Value → jH → Prop} (hD : jDk Dy) (hQ : ∀ h', jJ jSgX Dy h' → jSm fp_X3_place_r87_c4 h0 h' → Q none h') : ∀ (l2 : Int32) (l3 : Int32) (h : jH), 1 ≤ l2.toInt ∧ l2.toInt ≤ 4 → jJ jSgX Dy h → jSm fp_X3_place_r87_c4 h0 h → jX m_X3_place 8 0 0 18 [(0, .ref 87), (2, .int l2), (3, .int l3)] [] h 0 0 Q := by
  intro l2 l3 h y0   J Sm
  have el3 := jfull l3
  refine x_aloadn (x := 87) rfl rfl ?_
  refine x_iloadn (x := l2) rfl rfl ?_
  refine x_iloadn (x := l3) rfl rfl ?_
  refine x_inv (N := m_X3_note) (As := [.int l2, .int l3]) (b := 87) (st := []) (d' := 7) (mc := 0) (ms := 0) (host := "") 3 rfl t_X3_note ⟨Or.inl q_3_93, i_X3_note.1, i_X3_note.2⟩ ⟨by decide, rfl⟩ (congrArg Prod.fst (J.1.1 87 (3, 14) rfl)) rfl (by decide) rfl rfl ⟨by decide, by decide⟩ (jC.of rfl k_X3_note rfl ?_)
  show jX m_X3_note 7 0 0 0 [(0, .ref 87), (1, .int l2), (2, .int l3)] [] _ 0 0 _
  refine x_iloadn (x := l3) rfl rfl ?_
  refine x_iflt (tgt := 23) rfl rfl (ti_lt rfl jk_0 ⟨fun c1 => ?_, fun c1 => ?_⟩)
  ·
    refine x_iloadn (x := l3) rfl rfl ?_
    refine x_aloadn (x := 87) rfl rfl ?_
    refine z_getI (N := 14) 3 10 rfl f_3_37 rfl J rfl sg_87_10_11_1_0_1 (fun v2 qv2 ev2 => ?_)
    refine x_icgt (tgt := 47) rfl rfl (ti_gt rfl rfl (br_f (by omega) ?_))
    refine x_iloadn (x := l3) rfl rfl ?_
    refine x_aloadn (x := 87) rfl rfl ?_
    refine z_getM (N := 14) (v := v2) 3 10 rfl f_3_37 rfl J rfl qv2 ?_
    refine x_icne (tgt := 72) rfl rfl (ti_ne rfl rfl ⟨fun c3 => ?_, fun c3 => ?_⟩)
    ·
      refine x_vret rfl rfl ?_
      show jX m_X3_place 8 0 0 24 [(0, .ref 87), (2, .int l2), (3, .int l3)] [] _ 0 0 _
      refine x_vret rfl rfl ?_
      exact hQ _ J Sm
    ·
      refine x_iloadn (x := l2) rfl rfl ?_
      refine x_aloadn (x := 87) rfl rfl ?_
      refine z_getI (N := 14) 3 11 rfl f_3_40 rfl J rfl sg_87_11_12_1_0_1 (fun v4 qv4 ev4 => ?_)
      refine x_icge (tgt := 72) rfl rfl (ti_ge rfl rfl ⟨fun c5 => ?_, fun c5 => ?_⟩)
      ·
        refine x_vret rfl rfl ?_
        show jX m_X3_place 8 0 0 24 [(0, .ref 87), (2, .int l2), (3, .int l3)] [] _ 0 0 _
        refine x_vret rfl rfl ?_
        exact hQ _ J Sm
      ·
        refine x_aloadn (x := 87) rfl rfl ?_
        refine x_iloadn (x := l3) rfl rfl ?_
        refine z_putI (N := 14) (w := l3.toInt) 3 10 rfl f_3_37 rfl (jfin_no TX3 RX3 14 rfl rfl) hD J Sm rfl rfl rfl (pw_87_10 (by omega)) rfl (fun h w6 J Sm => ?_)
        refine x_aloadn (x := 87) rfl rfl ?_
        refine x_iloadn (x := l2) rfl rfl ?_
        refine z_putI (N := 14) (w := l2.toInt) 3 11 rfl f_3_40 rfl (jfin_no TX3 RX3 14 rfl rfl) hD J Sm rfl rfl rfl (pw_87_11 (by omega)) rfl (fun h w7 J Sm => ?_)
        refine x_aloadn (x := 87) rfl rfl ?_
        refine z_getR (N := 14) (b := 91) 3 6 rfl f_3_25 rfl J rfl 11142 ⟨rfl, rfl⟩ rfl ?_
        refine x_iconst (v := 0) rfl ki_0 ?_
        refine x_aloadn (x := 87) rfl rfl ?_
        refine z_getR (N := 14) (b := 92) 3 7 rfl f_3_28 rfl J rfl 11143 ⟨rfl, rfl⟩ rfl ?_
        refine x_iconst (v := 0) rfl ki_0 ?_
        refine x_bipush (v := 9) rfl kb_9 ?_
        refine z_cpi (N1 := 9) (N2 := 9) rfl ⟨q_3_100, jcp_w⟩ (by decide) rfl hD J Sm rfl rfl rfl rfl jk_0 jk_0 jk_9 (by omega) (cp_92 (fun k k1 k2 k3 => by have k4 := k3.1; have k5 := k3.2.1; have k6 := k3.2.2; simp only at k4 k5 k6; exact jcp_in J sg_91_0_9_1_0_1 rfl (by omega) (by decide))) rfl (fun h w8 J Sm => ?_)
        refine x_vret rfl rfl ?_
        show jX m_X3_place 8 0 0 24 [(0, .ref 87), (2, .int l2), (3, .int l3)] [] _ 0 0 _
        refine x_vret rfl rfl ?_
        exact hQ _ J Sm
  ·
    refine x_iloadn (x := l3) rfl rfl ?_
    refine x_aloadn (x := 87) rfl rfl ?_
    refine z_getR (N := 14) (b := 94) 3 9 rfl f_3_34 rfl J rfl 11145 ⟨rfl, rfl⟩ rfl ?_
    refine z_alen (N := 14401) (v := 14401) rfl J rfl rfl (by decide) ?_
    refine x_icge (tgt := 23) rfl rfl (ti_ge rfl jk_14401 ⟨fun c9 => ?_, fun c9 => ?_⟩)
    ·
      refine x_iloadn (x := l3) rfl rfl ?_
      refine x_aloadn (x := 87) rfl rfl ?_
      refine z_getI (N := 14) 3 10 rfl f_3_37 rfl J rfl sg_87_10_11_1_0_1 (fun v10 qv10 ev10 => ?_)
      refine x_icgt (tgt := 47) rfl rfl (ti_gt rfl rfl ⟨fun c11 => ?_, fun c11 => ?_⟩)
      ·
        refine x_aloadn (x := 87) rfl rfl ?_
        refine x_iloadn (x := l3) rfl rfl ?_
        refine z_putI (N := 14) (w := l3.toInt) 3 10 rfl f_3_37 rfl (jfin_no TX3 RX3 14 rfl rfl) hD J Sm rfl rfl rfl (pw_87_10 (by omega)) rfl (fun h w12 J Sm => ?_)
        refine x_aloadn (x := 87) rfl rfl ?_
        refine x_iloadn (x := l2) rfl rfl ?_
        refine z_putI (N := 14) (w := l2.toInt) 3 11 rfl f_3_40 rfl (jfin_no TX3 RX3 14 rfl rfl) hD J Sm rfl rfl rfl (pw_87_11 (by omega)) rfl (fun h w13 J Sm => ?_)
        refine x_aloadn (x := 87) rfl rfl ?_
        refine z_getR (N := 14) (b := 91) 3 6 rfl f_3_25 rfl J rfl 11142 ⟨rfl, rfl⟩ rfl ?_
        refine x_iconst (v := 0) rfl ki_0 ?_
        refine x_aloadn (x := 87) rfl rfl ?_
        refine z_getR (N := 14) (b := 92) 3 7 rfl f_3_28 rfl J rfl 11143 ⟨rfl, rfl⟩ rfl ?_
        refine x_iconst (v := 0) rfl ki_0 ?_
        refine x_bipush (v := 9) rfl kb_9 ?_
        refine z_cpi (N1 := 9) (N2 := 9) rfl ⟨q_3_100, jcp_w⟩ (by decide) rfl hD J Sm rfl rfl rfl rfl jk_0 jk_0 jk_9 (by omega) (cp_92 (fun k k1 k2 k3 => by have k4 := k3.1; have k5 := k3.2.1; have k6 := k3.2.2; simp only at k4 k5 k6; exact jcp_in J sg_91_0_9_1_0_1 rfl (by omega) (by decide))) rfl (fun h w14 J Sm => ?_)
        refine x_vret rfl rfl ?_
        show jX m_X3_place 8 0 0 24 [(0, .ref 87), (2, .int l2), (3, .int l3)] [] _ 0 0 _
        refine x_vret rfl rfl ?_
        exact hQ _ J Sm
      ·
        refine x_iloadn (x := l3) rfl rfl ?_
        refine x_aloadn (x := 87) rfl rfl ?_
        refine z_getM (N := 14) (v := v10) 3 10 rfl f_3_37 rfl J rfl qv10 ?_
        refine x_icne (tgt := 72) rfl rfl (ti_ne rfl rfl ⟨fun c15 => ?_, fun c15 => ?_⟩)
        ·
          refine x_vret rfl rfl ?_
          show jX m_X3_place 8 0 0 24 [(0, .ref 87), (2, .int l2), (3, .int l3)] [] _ 0 0 _
          refine x_vret rfl rfl ?_
          exact hQ _ J Sm
        ·
          refine x_iloadn (x := l2) rfl rfl ?_
          refine x_aloadn (x := 87) rfl rfl ?_
          refine z_getI (N := 14) 3 11 rfl f_3_40 rfl J rfl sg_87_11_12_1_0_1 (fun v16 qv16 ev16 => ?_)
          refine x_icge (tgt := 72) rfl rfl (ti_ge rfl rfl ⟨fun c17 => ?_, fun c17 => ?_⟩)
          ·
            refine x_vret rfl rfl ?_
            show jX m_X3_place 8 0 0 24 [(0, .ref 87), (2, .int l2), (3, .int l3)] [] _ 0 0 _
            refine x_vret rfl rfl ?_
            exact hQ _ J Sm
          ·
            refine x_aloadn (x := 87) rfl rfl ?_
            refine x_iloadn (x := l3) rfl rfl ?_
            refine z_putI (N := 14) (w := l3.toInt) 3 10 rfl f_3_37 rfl (jfin_no TX3 RX3 14 rfl rfl) hD J Sm rfl rfl rfl (pw_87_10 (by omega)) rfl (fun h w18 J Sm => ?_)
            refine x_aloadn (x := 87) rfl rfl ?_
            refine x_iloadn (x := l2) rfl rfl ?_
            refine z_putI (N := 14) (w := l2.toInt) 3 11 rfl f_3_40 rfl (jfin_no TX3 RX3 14 rfl rfl) hD J Sm rfl rfl rfl (pw_87_11 (by omega)) rfl (fun h w19 J Sm => ?_)
            refine x_aloadn (x := 87) rfl rfl ?_
            refine z_getR (N := 14) (b := 91) 3 6 rfl f_3_25 rfl J rfl 11142 ⟨rfl, rfl⟩ rfl ?_
            refine x_iconst (v := 0) rfl ki_0 ?_
            refine x_aloadn (x := 87) rfl rfl ?_
            refine z_getR (N := 14) (b := 92) 3 7 rfl f_3_28 rfl J rfl 11143 ⟨rfl, rfl⟩ rfl ?_
            refine x_iconst (v := 0) rfl ki_0 ?_
            refine x_bipush (v := 9) rfl kb_9 ?_
            refine z_cpi (N1 := 9) (N2 := 9) rfl ⟨q_3_100, jcp_w⟩ (by decide) rfl hD J Sm rfl rfl rfl rfl jk_0 jk_0 jk_9 (by omega) (cp_92 (fun k k1 k2 k3 => by have k4 := k3.1; have k5 := k3.2.1; have k6 := k3.2.2; simp only at k4 k5 k6; exact jcp_in J sg_91_0_9_1_0_1 rfl (by omega) (by decide))) rfl (fun h w20 J Sm => ?_)
            refine x_vret rfl rfl ?_
            show jX m_X3_place 8 0 0 24 [(0, .ref 87), (2, .int l2), (3, .int l3)] [] _ 0 0 _
            refine x_vret rfl rfl ?_
            exact hQ _ J Sm
    ·
      refine x_aloadn (x := 87) rfl rfl ?_
      refine z_getR (N := 14) (b := 94) 3 9 rfl f_3_34 rfl J rfl 11145 ⟨rfl, rfl⟩ rfl ?_
      refine x_iloadn (x := l3) rfl rfl ?_
      refine x_dup2 rfl rfl rfl ?_
      refine z_iald0 (N := 14401) rfl J rfl rfl (by omega) (fun v21 qv21 => ?_)
      have ev21 := jfull v21
      refine x_iconst (v := 1) rfl ki_1 ?_
      refine z_iadd0 rfl (fun v22 => ?_)
      have ev22 := jfull v22
      refine z_iast (N := 14401) (l := 0) (u := 14401) (w := v22.toInt) rfl hD J Sm rfl rfl rfl (by omega) rfl (wr_94) rfl (fun h w23 J Sm => ?_)
      refine x_iloadn (x := l3) rfl rfl ?_
      refine x_aloadn (x := 87) rfl rfl ?_
      refine z_getI (N := 14) 3 10 rfl f_3_37 rfl J rfl sg_87_10_11_1_0_1 (fun v24 qv24 ev24 => ?_)
      refine x_icgt (tgt := 47) rfl rfl (ti_gt rfl rfl ⟨fun c25 => ?_, fun c25 => ?_⟩)
      ·
        refine x_aloadn (x := 87) rfl rfl ?_
        refine x_iloadn (x := l3) rfl rfl ?_
        refine z_putI (N := 14) (w := l3.toInt) 3 10 rfl f_3_37 rfl (jfin_no TX3 RX3 14 rfl rfl) hD J Sm rfl rfl rfl (pw_87_10 (by omega)) rfl (fun h w26 J Sm => ?_)
        refine x_aloadn (x := 87) rfl rfl ?_
        refine x_iloadn (x := l2) rfl rfl ?_
        refine z_putI (N := 14) (w := l2.toInt) 3 11 rfl f_3_40 rfl (jfin_no TX3 RX3 14 rfl rfl) hD J Sm rfl rfl rfl (pw_87_11 (by omega)) rfl (fun h w27 J Sm => ?_)
        refine x_aloadn (x := 87) rfl rfl ?_
        refine z_getR (N := 14) (b := 91) 3 6 rfl f_3_25 rfl J rfl 11142 ⟨rfl, rfl⟩ rfl ?_
        refine x_iconst (v := 0) rfl ki_0 ?_
        refine x_aloadn (x := 87) rfl rfl ?_
        refine z_getR (N := 14) (b := 92) 3 7 rfl f_3_28 rfl J rfl 11143 ⟨rfl, rfl⟩ rfl ?_
        refine x_iconst (v := 0) rfl ki_0 ?_
        refine x_bipush (v := 9) rfl kb_9 ?_
        refine z_cpi (N1 := 9) (N2 := 9) rfl ⟨q_3_100, jcp_w⟩ (by decide) rfl hD J Sm rfl rfl rfl rfl jk_0 jk_0 jk_9 (by omega) (cp_92 (fun k k1 k2 k3 => by have k4 := k3.1; have k5 := k3.2.1; have k6 := k3.2.2; simp only at k4 k5 k6; exact jcp_in J sg_91_0_9_1_0_1 rfl (by omega) (by decide))) rfl (fun h w28 J Sm => ?_)
        refine x_vret rfl rfl ?_
        show jX m_X3_place 8 0 0 24 [(0, .ref 87), (2, .int l2), (3, .int l3)] [] _ 0 0 _
        refine x_vret rfl rfl ?_
        exact hQ _ J Sm
      ·
        refine x_iloadn (x := l3) rfl rfl ?_
        refine x_aloadn (x := 87) rfl rfl ?_
        refine z_getM (N := 14) (v := v24) 3 10 rfl f_3_37 rfl J rfl qv24 ?_
        refine x_icne (tgt := 72) rfl rfl (ti_ne rfl rfl ⟨fun c29 => ?_, fun c29 => ?_⟩)
        ·
          refine x_vret rfl rfl ?_
          show jX m_X3_place 8 0 0 24 [(0, .ref 87), (2, .int l2), (3, .int l3)] [] _ 0 0 _
          refine x_vret rfl rfl ?_
          exact hQ _ J Sm
        ·
          refine x_iloadn (x := l2) rfl rfl ?_
          refine x_aloadn (x := 87) rfl rfl ?_
          refine z_getI (N := 14) 3 11 rfl f_3_40 rfl J rfl sg_87_11_12_1_0_1 (fun v30 qv30 ev30 => ?_)
          refine x_icge (tgt := 72) rfl rfl (ti_ge rfl rfl ⟨fun c31 => ?_, fun c31 => ?_⟩)
          ·
            refine x_vret rfl rfl ?_
            show jX m_X3_place 8 0 0 24 [(0, .ref 87), (2, .int l2), (3, .int l3)] [] _ 0 0 _
            refine x_vret rfl rfl ?_
            exact hQ _ J Sm
          ·
            refine x_aloadn (x := 87) rfl rfl ?_
            refine x_iloadn (x := l3) rfl rfl ?_
            refine z_putI (N := 14) (w := l3.toInt) 3 10 rfl f_3_37 rfl (jfin_no TX3 RX3 14 rfl rfl) hD J Sm rfl rfl rfl (pw_87_10 (by omega)) rfl (fun h w32 J Sm => ?_)
            refine x_aloadn (x := 87) rfl rfl ?_
            refine x_iloadn (x := l2) rfl rfl ?_
            refine z_putI (N := 14) (w := l2.toInt) 3 11 rfl f_3_40 rfl (jfin_no TX3 RX3 14 rfl rfl) hD J Sm rfl rfl rfl (pw_87_11 (by omega)) rfl (fun h w33 J Sm => ?_)
            refine x_aloadn (x := 87) rfl rfl ?_
            refine z_getR (N := 14) (b := 91) 3 6 rfl f_3_25 rfl J rfl 11142 ⟨rfl, rfl⟩ rfl ?_
            refine x_iconst (v := 0) rfl ki_0 ?_
            refine x_aloadn (x := 87) rfl rfl ?_
            refine z_getR (N := 14) (b := 92) 3 7 rfl f_3_28 rfl J rfl 11143 ⟨rfl, rfl⟩ rfl ?_
            refine x_iconst (v := 0) rfl ki_0 ?_
            refine x_bipush (v := 9) rfl kb_9 ?_
            refine z_cpi (N1 := 9) (N2 := 9) rfl ⟨q_3_100, jcp_w⟩ (by decide) rfl hD J Sm rfl rfl rfl rfl jk_0 jk_0 jk_9 (by omega) (cp_92 (fun k k1 k2 k3 => by have k4 := k3.1; have k5 := k3.2.1; have k6 := k3.2.2; simp only at k4 k5 k6; exact jcp_in J sg_91_0_9_1_0_1 rfl (by omega) (by decide))) rfl (fun h w34 J Sm => ?_)
            refine x_vret rfl rfl ?_
            show jX m_X3_place 8 0 0 24 [(0, .ref 87), (2, .int l2), (3, .int l3)] [] _ 0 0 _
            refine x_vret rfl rfl ?_
            exact hQ _ J Sm
set_option maxRecDepth 100000 in
set_option maxHeartbeats 4000000 in
theorem ct_X3_place_r87_c4_144 {Dy : jH → Prop} {h0 : jH} {Q : Option Value → jH → Prop} (hD : jDk Dy) (hQ : ∀ h', jJ jSgX Dy h' → jSm fp_X3_place_r87_c4 h0 h' → Q none h') : ∀ (h : jH), jJ jSgX Dy h → jSm fp_X3_place_r87_c4 h0 h → jX m_X3_place 8 0 0 144 [] [] h 0 0 Q := by
  intro  h    J Sm
  refine x_vret rfl rfl ?_
  exact hQ _ J Sm
set_option maxRecDepth 100000 in
set_option maxHeartbeats 4000000 in
theorem ct_X3_place_r87_c4_138 {Dy : jH → Prop} {h0 : jH} {Q : Option Value → jH → Prop} {R61 : Int} (hD : jDk Dy) (hQ : ∀ h', jJ jSgX Dy h' → jSm fp_X3_place_r87_c4 h0 h' → Q none h') (k61 : ∀ (l2 : Int32) (l3 : Int32) (l4 : Int32) (l5 : Int32) (h : jH), 5 - l5.toInt < R61 → 1 ≤ l2.toInt ∧ l2.toInt ≤ 4 → (-1) ≤ l4.toInt ∧ l4.toInt ≤ 8 → 0 ≤ l5.toInt ∧ l5.toInt ≤ 5 → jJ jSgX Dy h → jSm fp_X3_place_r87_c4 h0 h → jX m_X3_place 8 0 0 61 [(0, .ref 87), (1, .int 4), (2, .int l2), (3, .int l3), (4, .int l4), (5, .int l5)] [] h 0 0 Q) : ∀ (l2 : Int32) (l3 : Int32) (l4 : Int32) (l5 : Int32) (h : jH), 1 ≤ l2.toInt ∧ l2.toInt ≤ 4 → (-1) ≤ l4.toInt ∧ l4.toInt ≤ 8 → 0 ≤ l5.toInt ∧ l5.toInt ≤ 4 → 5 - l5.toInt ≤ R61 → jJ jSgX Dy h → jSm fp_X3_place_r87_c4 h0 h → jX m_X3_place 8 0 0 138 [(0, .ref 87), (1, .int 4), (2, .int l2), (3, .int l3), (4, .int l4), (5, .int l5)] [] h 0 0 Q := by
  intro l2 l3 l4 l5 h y0 y1 y2  m61 J Sm
  have el3 := jfull l3
  refine z_iinc (x := l5) (ls' := fun v1 => [(5, .int v1), (0, .ref 87), (1, .int 4), (2, .int l2), (3, .int l3), (4, .int l4)]) rfl rfl rfl jko_1 (by omega) rfl (fun _ => rfl) (fun v1 ev1 => ?_)
  refine x_goto (tgt := 61) rfl rfl ?_
  exact jX.sub (jsb_c rfl (jsb_c rfl (jsb_c rfl (jsb_c rfl (jsb_c rfl (jsb_c rfl jsb_n)))))) (k61 l2 l3 l4 v1 h (by omega) (jr_of rfl (by omega)) (jr_of rfl (by omega)) (jr_of rfl (by omega)) J Sm)
set_option maxRecDepth 100000 in
set_option maxHeartbeats 4000000 in
theorem ct_X3_place_r87_c4_131 {Dy : jH → Prop} {h0 : jH} {Q : Option Value → jH → Prop} {R61 : Int} (hD : jDk Dy) (hQ : ∀ h', jJ jSgX Dy h' → jSm fp_X3_place_r87_c4 h0 h' → Q none h') (k61 : ∀ (l2 : Int32) (l3 : Int32) (l4 : Int32) (l5 : Int32) (h : jH), 5 - l5.toInt < R61 → 1 ≤ l2.toInt ∧ l2.toInt ≤ 4 → (-1) ≤ l4.toInt ∧ l4.toInt ≤ 8 → 0 ≤ l5.toInt ∧ l5.toInt ≤ 5 → jJ jSgX Dy h → jSm fp_X3_place_r87_c4 h0 h → jX m_X3_place 8 0 0 61 [(0, .ref 87), (1, .int 4), (2, .int l2), (3, .int l3), (4, .int l4), (5, .int l5)] [] h 0 0 Q) : ∀ (l2 : Int32) (l3 : Int32) (l4 : Int32) (l5 : Int32) (l6 : Int32) (s0 : Int32) (h : jH), 1 ≤ l2.toInt ∧ l2.toInt ≤ 4 → (-1) ≤ l4.toInt ∧ l4.toInt ≤ 4 → 0 ≤ l5.toInt ∧ l5.toInt ≤ 4 → 0 ≤ l6.toInt ∧ l6.toInt ≤ 2147483647 → 1 ≤ s0.toInt ∧ s0.toInt ≤ 5 → 5 - l5.toInt ≤ R61 → jJ jSgX Dy h → jSm fp_X3_place_r87_c4 h0 h → jX m_X3_place 8 0 0 131 [(0, .ref 87), (1, .int 4), (2, .int l2), (3, .int l3), (4, .int l4), (5, .int l5), (6, .int l6)] [.int s0, .int 5, .ref 87] h 0 0 Q := by
  intro l2 l3 l4 l5 l6 s0 h y0 y1 y2 y3 y4  m61 J Sm
  have el3 := jfull l3
  refine x_iloadn (x := l3) rfl rfl ?_
  refine x_iload (x := l6) rfl rfl ?_
  refine z_iadd0 rfl (fun v1 => ?_)
  have ev1 := jfull v1
  refine x_inv (N := m_X3_place) (As := [.int 5, .int s0, .int v1]) (b := 87) (st := []) (d' := 7) (mc := 0) (ms := 0) (host := "") 3 rfl t_X3_place ⟨Or.inl q_3_80, i_X3_place.1, i_X3_place.2⟩ ⟨by decide, rfl⟩ (congrArg Prod.fst (J.1.1 87 (3, 14) rfl)) rfl (by decide) rfl rfl ⟨by decide, by decide⟩ (sf_X3_place_r87_c5 (jr_of rfl (by omega)) hD J  (fun h J S2 => ?_))
  have Sm := jSm_tr rfl Sm S2
  show jX m_X3_place 8 0 0 138 [(0, .ref 87), (1, .int 4), (2, .int l2), (3, .int l3), (4, .int l4), (5, .int l5), (6, .int l6)] [] _ 0 0 _
  exact jX.sub (jsb_c rfl (jsb_c rfl (jsb_c rfl (jsb_c rfl (jsb_c rfl (jsb_c rfl jsb_n)))))) (ct_X3_place_r87_c4_138 hD hQ k61 l2 l3 l4 l5 h (jr_of rfl (by omega)) (jr_of rfl (by omega)) (jr_of rfl (by omega)) (by omega) J Sm)
set_option maxRecDepth 100000 in
set_option maxHeartbeats 4000000 in
theorem ct_X3_place_r87_c4_106 {Dy : jH → Prop} {h0 : jH} {Q : Option Value → jH → Prop} {R61 : Int} (hD : jDk Dy) (hQ : ∀ h', jJ jSgX Dy h' → jSm fp_X3_place_r87_c4 h0 h' → Q none h') (k61 : ∀ (l2 : Int32) (l3 : Int32) (l4 : Int32) (l5 : Int32) (h : jH), 5 - l5.toInt < R61 → 1 ≤ l2.toInt ∧ l2.toInt ≤ 4 → (-1) ≤ l4.toInt ∧ l4.toInt ≤ 8 → 0 ≤ l5.toInt ∧ l5.toInt ≤ 5 → jJ jSgX Dy h → jSm fp_X3_place_r87_c4 h0 h → jX m_X3_place 8 0 0 61 [(0, .ref 87), (1, .int 4), (2, .int l2), (3, .int l3), (4, .int l4), (5, .int l5)] [] h 0 0 Q) : ∀ (l2 : Int32) (l3 : Int32) (l4 : Int32) (l5 : Int32) (l6 : Int32) (h : jH), 1 ≤ l2.toInt ∧ l2.toInt ≤ 4 → (-1) ≤ l4.toInt ∧ l4.toInt ≤ 4 → 0 ≤ l5.toInt ∧ l5.toInt ≤ 4 → 0 ≤ l6.toInt ∧ l6.toInt ≤ 2147483647 → 5 - l5.toInt ≤ R61 → jJ jSgX Dy h → jSm fp_X3_place_r87_c4 h0 h → jX m_X3_place 8 0 0 106 [(0, .ref 87), (1, .int 4), (2, .int l2), (3, .int l3), (4, .int l4), (5, .int l5), (6, .int l6)] [] h 0 0 Q := by
  intro l2 l3 l4 l5 l6 h y0 y1 y2 y3  m61 J Sm
  have el3 := jfull l3
  refine x_aloadn (x := 87) rfl rfl ?_
  refine z_getR (N := 14) (b := 91) 3 6 rfl f_3_25 rfl J rfl 11142 ⟨rfl, rfl⟩ rfl ?_
  refine x_iloadn (x := 4) rfl rfl ?_
  refine x_iload (x := l5) rfl rfl ?_
  refine z_iast (N := 9) (l := 0) (u := 9) (w := l5.toInt) rfl hD J Sm rfl rfl jk_4 (by omega) rfl (wr_91 (fun q1 q2 q3 q4 => by omega)) rfl (fun h w1 J Sm => ?_)
  refine x_aloadn (x := 87) rfl rfl ?_
  refine x_iloadn (x := 4) rfl rfl ?_
  refine x_iconst (v := 1) rfl ki_1 ?_
  refine y_iadd (v := 5) rfl (by decide) ?_
  refine x_iload (x := l5) rfl rfl ?_
  refine x_iloadn (x := l2) rfl rfl ?_
  refine x_icne (tgt := 130) rfl rfl (ti_ne rfl rfl ⟨fun c2 => ?_, fun c2 => ?_⟩)
  ·
    refine x_iloadn (x := l2) rfl rfl ?_
    exact jX.sub (jsb_c rfl (jsb_c rfl (jsb_c rfl (jsb_c rfl (jsb_c rfl (jsb_c rfl (jsb_c rfl jsb_n))))))) (ct_X3_place_r87_c4_131 hD hQ k61 l2 l3 l4 l5 l6 l2 h (jr_of rfl (by omega)) (jr_of rfl (by omega)) (jr_of rfl (by omega)) (jr_of rfl (by omega)) (jr_of rfl (by omega)) (by omega) J Sm)
  ·
    refine x_iloadn (x := l2) rfl rfl ?_
    refine x_iconst (v := 1) rfl ki_1 ?_
    refine z_iadd rfl rfl jk_1 (by omega) (fun v3 ev3 => ?_)
    refine x_goto (tgt := 131) rfl rfl ?_
    exact jX.sub (jsb_c rfl (jsb_c rfl (jsb_c rfl (jsb_c rfl (jsb_c rfl (jsb_c rfl (jsb_c rfl jsb_n))))))) (ct_X3_place_r87_c4_131 hD hQ k61 l2 l3 l4 l5 l6 v3 h (jr_of rfl (by omega)) (jr_of rfl (by omega)) (jr_of rfl (by omega)) (jr_of rfl (by omega)) (jr_of rfl (by omega)) (by omega) J Sm)
set_option maxRecDepth 100000 in
set_option maxHeartbeats 4000000 in
theorem ct_X3_place_r87_c4_61 {Dy : jH → Prop} {h0 : jH} {Q : Option Value → jH → Prop} (hD : jDk Dy) (hQ : ∀ h', jJ jSgX Dy h' → jSm fp_X3_place_r87_c4 h0 h' → Q none h') : ∀ r : Nat, ∀ (l2 : Int32) (l3 : Int32) (l4 : Int32) (l5 : Int32) (h : jH), 5 - l5.toInt < (r : Int) → 1 ≤ l2.toInt ∧ l2.toInt ≤ 4 → (-1) ≤ l4.toInt ∧ l4.toInt ≤ 8 → 0 ≤ l5.toInt ∧ l5.toInt ≤ 5 → jJ jSgX Dy h → jSm fp_X3_place_r87_c4 h0 h → jX m_X3_place 8 0 0 61 [(0, .ref 87), (1, .int 4), (2, .int l2), (3, .int l3), (4, .int l4), (5, .int l5)] [] h 0 0 Q := by
  intro r
  induction r with
  | zero =>
    intro l2 l3 l4 l5 h hm y0 y1 y2   J Sm
    exfalso
    omega
  | succ r ih =>
    intro l2 l3 l4 l5 h hm y0 y1 y2   J Sm
    have el3 := jfull l3
    refine x_iload (x := l5) rfl rfl ?_
    refine x_iloadn (x := l2) rfl rfl ?_
    refine x_icgt (tgt := 144) rfl rfl (ti_gt rfl rfl ⟨fun c1 => ?_, fun c1 => ?_⟩)
    ·
      exact jX.sub jsb_n (ct_X3_place_r87_c4_144 hD hQ  h J Sm)
    ·
      refine x_iload (x := l5) rfl rfl ?_
      refine x_bipush (v := 10) rfl kb_10 ?_
      refine x_icge (tgt := 144) rfl rfl (ti_ge rfl jk_10 (br_f (by omega) ?_))
      refine x_aloadn (x := 87) rfl rfl ?_
      refine z_getR (N := 14) (b := 93) 3 8 rfl f_3_31 rfl J rfl 11144 ⟨rfl, rfl⟩ rfl ?_
      refine x_iloadn (x := 4) rfl rfl ?_
      refine x_bipush (v := 10) rfl kb_10 ?_
      refine y_imul (v := 40) rfl (by decide) ?_
      refine x_iload (x := l5) rfl rfl ?_
      refine z_iadd rfl jk_40 rfl (by omega) (fun v2 ev2 => ?_)
      refine z_iald0 (N := 90) rfl J rfl rfl (by omega) (fun v3 qv3 => ?_)
      have ev3 := jfull v3
      refine x_istore (ls' := [(6, .int v3), (0, .ref 87), (1, .int 4), (2, .int l2), (3, .int l3), (4, .int l4), (5, .int l5)]) rfl rfl rfl ?_
      refine x_iload (x := v3) rfl rfl ?_
      refine x_iflt (tgt := 138) rfl rfl (ti_lt rfl jk_0 ⟨fun c4 => ?_, fun c4 => ?_⟩)
      ·
        exact jX.sub (jsb_c rfl (jsb_c rfl (jsb_c rfl (jsb_c rfl (jsb_c rfl (jsb_c rfl jsb_n)))))) (ct_X3_place_r87_c4_138 hD hQ ih l2 l3 l4 l5 h (jr_of rfl (by omega)) (jr_of rfl (by omega)) (jr_of rfl (by omega)) (by omega) J Sm)
      ·
        refine x_iload (x := l4) rfl rfl ?_
        refine x_iconst (v := (-1)) rfl ki_m1 ?_
        refine x_iceq (tgt := 106) rfl rfl (ti_eq rfl jk_m1 ⟨fun c5 => ?_, fun c5 => ?_⟩)
        ·
          exact jX.sub (jsb_c rfl (jsb_c rfl (jsb_c rfl (jsb_c rfl (jsb_c rfl (jsb_c rfl (jsb_c rfl jsb_n))))))) (ct_X3_place_r87_c4_106 hD hQ ih l2 l3 l4 l5 v3 h (jr_of rfl (by omega)) (jr_of rfl (by omega)) (jr_of rfl (by omega)) (jr_of rfl (by omega)) (by omega) J Sm)
        ·
          refine x_iload (x := l4) rfl rfl ?_
          refine x_iload (x := l5) rfl rfl ?_
          refine x_icne (tgt := 138) rfl rfl (ti_ne rfl rfl ⟨fun c6 => ?_, fun c6 => ?_⟩)
          ·
            exact jX.sub (jsb_c rfl (jsb_c rfl (jsb_c rfl (jsb_c rfl (jsb_c rfl (jsb_c rfl jsb_n)))))) (ct_X3_place_r87_c4_138 hD hQ ih l2 l3 l4 l5 h (jr_of rfl (by omega)) (jr_of rfl (by omega)) (jr_of rfl (by omega)) (by omega) J Sm)
          ·
            exact jX.sub (jsb_c rfl (jsb_c rfl (jsb_c rfl (jsb_c rfl (jsb_c rfl (jsb_c rfl (jsb_c rfl jsb_n))))))) (ct_X3_place_r87_c4_106 hD hQ ih l2 l3 l4 l5 v3 h (jr_of rfl (by omega)) (jr_of rfl (by omega)) (jr_of rfl (by omega)) (jr_of rfl (by omega)) (by omega) J Sm)
set_option maxRecDepth 100000 in
set_option maxHeartbeats 4000000 in
theorem ct_X3_place_r87_c4_56 {Dy : jH → Prop} {h0 : jH} {Q : Option Value → jH → Prop} (hD : jDk Dy) (hQ : ∀ h', jJ jSgX Dy h' → jSm fp_X3_place_r87_c4 h0 h' → Q none h') : ∀ (l2 : Int32) (l3 : Int32) (s0 : Int32) (h : jH), 1 ≤ l2.toInt ∧ l2.toInt ≤ 4 → 0 ≤ s0.toInt ∧ s0.toInt ≤ 8 → jJ jSgX Dy h → jSm fp_X3_place_r87_c4 h0 h → jX m_X3_place 8 0 0 56 [(0, .ref 87), (1, .int 4), (2, .int l2), (3, .int l3)] [.int s0] h 0 0 Q := by
  intro l2 l3 s0 h y0 y1   J Sm
  have el3 := jfull l3
  refine x_istore (ls' := [(4, .int s0), (0, .ref 87), (1, .int 4), (2, .int l2), (3, .int l3)]) rfl rfl rfl ?_
  refine x_iconst (v := 0) rfl ki_0 ?_
  refine x_istore (ls' := [(5, .int 0), (4, .int s0), (0, .ref 87), (1, .int 4), (2, .int l2), (3, .int l3)]) rfl rfl rfl ?_
  exact jX.sub (jsb_c rfl (jsb_c rfl (jsb_c rfl (jsb_c rfl (jsb_c rfl (jsb_c rfl jsb_n)))))) (ct_X3_place_r87_c4_61 hD hQ  6 l2 l3 s0 0 h (by have := jk_0; omega) (jr_of rfl (by omega)) (jr_of rfl (by omega)) (jr_of jk_0 (by omega)) J Sm)
set_option maxRecDepth 100000 in
set_option maxHeartbeats 4000000 in
theorem ct_X3_place_r87_c4_100056 {Dy : jH → Prop} {h0 : jH} {Q : Option Value → jH → Prop} (hD : jDk Dy) (hQ : ∀ h', jJ jSgX Dy h' → jSm fp_X3_place_r87_c4 h0 h' → Q none h') : ∀ (l2 : Int32) (l3 : Int32) (h : jH), 1 ≤ l2.toInt ∧ l2.toInt ≤ 4 → jJ jSgX Dy h → jSm fp_X3_place_r87_c4 h0 h → jX m_X3_place 8 0 0 56 [(0, .ref 87), (1, .int 4), (2, .int l2), (3, .int l3)] [.int (-1)] h 0 0 Q := by
  intro l2 l3 h y0   J Sm
  have el3 := jfull l3
  refine x_istore (ls' := [(4, .int (-1)), (0, .ref 87), (1, .int 4), (2, .int l2), (3, .int l3)]) rfl rfl rfl ?_
  refine x_iconst (v := 0) rfl ki_0 ?_
  refine x_istore (ls' := [(5, .int 0), (4, .int (-1)), (0, .ref 87), (1, .int 4), (2, .int l2), (3, .int l3)]) rfl rfl rfl ?_
  exact jX.sub (jsb_c rfl (jsb_c rfl (jsb_c rfl (jsb_c rfl (jsb_c rfl (jsb_c rfl jsb_n)))))) (ct_X3_place_r87_c4_61 hD hQ  6 l2 l3 (-1) 0 h (by have := jk_0; omega) (jr_of rfl (by omega)) (jr_of jk_m1 (by omega)) (jr_of jk_0 (by omega)) J Sm)
set_option maxRecDepth 100000 in
set_option maxHeartbeats 4000000 in
theorem sf_X3_place_r87_c4 {Dy : jH → Prop} {h : jH} {Q : Option Value → jH → Prop} {a2 : Int32} {a3 : Int32} (y2 : 1 ≤ a2.toInt ∧ a2.toInt ≤ 4) (hD : jDk Dy) (J : jJ jSgX Dy h) (hQ : ∀ h', jJ jSgX Dy h' → jSm fp_X3_place_r87_c4 h h' → Q none h') : jC m_X3_place 8 0 0 [.ref 87, .int 4, .int a2, .int a3] h Q := by
  refine jC.of rfl k_X3_place rfl ?_
  have Sm := jSm_rf fp_X3_place_r87_c4 h
  have ea3 := jfull a3
  show jX m_X3_place 8 0 0 0 [(0, .ref 87), (1, .int 4), (2, .int a2), (3, .int a3)] [] _ 0 0 _
  refine x_iloadn (x := 4) rfl rfl ?_
  refine x_iflt (tgt := 18) rfl rfl (ti_lt jk_4 jk_0 (br_f (by omega) ?_))
  refine x_iloadn (x := 4) rfl rfl ?_
  refine x_aloadn (x := 87) rfl rfl ?_
  refine z_getI (N := 14) 3 3 rfl f_3_15 rfl J rfl sg_87_3_4_1_0_1 (fun v1 qv1 ev1 => ?_)
  refine x_icge (tgt := 18) rfl rfl (ti_ge jk_4 rfl ⟨fun c2 => ?_, fun c2 => ?_⟩)
  ·
    exact jX.sub (jsb_c rfl (jsb_c rfl (jsb_c rfl jsb_n))) (ct_X3_place_r87_c4_18 hD hQ  a2 a3 h (jr_of rfl (by omega)) J Sm)
  ·
    refine x_iloadn (x := 4) rfl rfl ?_
    refine x_bipush (v := 9) rfl kb_9 ?_
    refine x_iclt (tgt := 25) rfl rfl (ti_lt jk_4 jk_9 (br_t (by omega) ?_))
    refine x_aloadn (x := 87) rfl rfl ?_
    refine x_iloadn (x := 4) rfl rfl ?_
    refine x_iloadn (x := a2) rfl rfl ?_
    refine x_inv (N := m_X3_readGains) (As := [.int 4, .int a2]) (b := 87) (st := []) (d' := 1) (mc := 0) (ms := 0) (host := "") 3 rfl t_X3_readGains ⟨Or.inl q_3_97, i_X3_readGains.1, i_X3_readGains.2⟩ ⟨by decide, rfl⟩ (congrArg Prod.fst (J.1.1 87 (3, 14) rfl)) rfl (by decide) rfl rfl ⟨by decide, by decide⟩ (sf_X3_readGains_r87 (jr_of jk_4 (by omega)) (jr_of rfl (by omega)) hD J  (fun h J S3 => ?_))
    have Sm := jSm_tr rfl Sm S3
    show jX m_X3_place 8 0 0 31 [(0, .ref 87), (1, .int 4), (2, .int a2), (3, .int a3)] [] _ 0 0 _
    refine x_aloadn (x := 87) rfl rfl ?_
    refine z_getR (N := 14) (b := 90) 3 5 rfl f_3_22 rfl J rfl 11141 ⟨rfl, rfl⟩ rfl ?_
    refine x_iloadn (x := 4) rfl rfl ?_
    refine z_iald (N := 9) rfl J rfl sg_90_0_9_1_0_1 jk_4 (by omega) (fun v4 qv4 ev4 => ?_)
    refine x_iconst (v := (-1)) rfl ki_m1 ?_
    refine x_icne (tgt := 45) rfl rfl (ti_ne rfl jk_m1 ⟨fun c5 => ?_, fun c5 => ?_⟩)
    ·
      refine x_aloadn (x := 87) rfl rfl ?_
      refine z_getR (N := 14) (b := 91) 3 6 rfl f_3_25 rfl J rfl 11142 ⟨rfl, rfl⟩ rfl ?_
      refine x_aloadn (x := 87) rfl rfl ?_
      refine z_getR (N := 14) (b := 90) 3 5 rfl f_3_22 rfl J rfl 11141 ⟨rfl, rfl⟩ rfl ?_
      refine x_iloadn (x := 4) rfl rfl ?_
      refine z_ialdM (N := 9) (v := v4) rfl J rfl jk_4 (by omega) qv4 ?_
      refine z_iald (N := 9) rfl J rfl sg_91_0_9_1_0_1 rfl (by omega) (fun v6 qv6 ev6 => ?_)
      exact jX.sub (jsb_c rfl (jsb_c rfl (jsb_c rfl (jsb_c rfl jsb_n)))) (ct_X3_place_r87_c4_56 hD hQ  a2 a3 v6 h (jr_of rfl (by omega)) (jr_of rfl (by omega)) J Sm)
    ·
      refine x_iconst (v := (-1)) rfl ki_m1 ?_
      refine x_goto (tgt := 56) rfl rfl ?_
      exact jX.sub (jsb_c rfl (jsb_c rfl (jsb_c rfl (jsb_c rfl jsb_n)))) (ct_X3_place_r87_c4_100056 hD hQ  a2 a3 h (jr_of rfl (by omega)) J Sm)
def fp_X3_place_r87_c3 : jFp := [(87, 10, 11), (87, 11, 12), (91, 0, 9), (92, 0, 9), (93, 0, 90), (94, 0, 14401)]
set_option maxRecDepth 100000 in
set_option maxHeartbeats 4000000 in
theorem ct_X3_place_r87_c3_18 {Dy : jH → Prop} {h0 : jH} {Q : Option Value → jH → Prop} (hD : jDk Dy) (hQ : ∀ h', jJ jSgX Dy h' → jSm fp_X3_place_r87_c3 h0 h' → Q none h') : ∀ (l2 : Int32) (l3 : Int32) (h : jH), 1 ≤ l2.toInt ∧ l2.toInt ≤ 3 → jJ jSgX Dy h → jSm fp_X3_place_r87_c3 h0 h → jX m_X3_place 9 0 0 18 [(0, .ref 87), (2, .int l2), (3, .int l3)] [] h 0 0 Q := by
  intro l2 l3 h y0   J Sm
  have el3 := jfull l3
  refine x_aloadn (x := 87) rfl rfl ?_
  refine x_iloadn (x := l2) rfl rfl ?_
  refine x_iloadn (x := l3) rfl rfl ?_
  refine x_inv (N := m_X3_note) (As := [.int l2, .int l3]) (b := 87) (st := []) (d' := 8) (mc := 0) (ms := 0) (host := "") 3 rfl t_X3_note ⟨Or.inl q_3_93, i_X3_note.1, i_X3_note.2⟩ ⟨by decide, rfl⟩ (congrArg Prod.fst (J.1.1 87 (3, 14) rfl)) rfl (by decide) rfl rfl ⟨by decide, by decide⟩ (jC.of rfl k_X3_note rfl ?_)
  show jX m_X3_note 8 0 0 0 [(0, .ref 87), (1, .int l2), (2, .int l3)] [] _ 0 0 _
  refine x_iloadn (x := l3) rfl rfl ?_
  refine x_iflt (tgt := 23) rfl rfl (ti_lt rfl jk_0 ⟨fun c1 => ?_, fun c1 => ?_⟩)
  ·
    refine x_iloadn (x := l3) rfl rfl ?_
    refine x_aloadn (x := 87) rfl rfl ?_
    refine z_getI (N := 14) 3 10 rfl f_3_37 rfl J rfl sg_87_10_11_1_0_1 (fun v2 qv2 ev2 => ?_)
    refine x_icgt (tgt := 47) rfl rfl (ti_gt rfl rfl (br_f (by omega) ?_))
    refine x_iloadn (x := l3) rfl rfl ?_
    refine x_aloadn (x := 87) rfl rfl ?_
    refine z_getM (N := 14) (v := v2) 3 10 rfl f_3_37 rfl J rfl qv2 ?_
    refine x_icne (tgt := 72) rfl rfl (ti_ne rfl rfl ⟨fun c3 => ?_, fun c3 => ?_⟩)
    ·
      refine x_vret rfl rfl ?_
      show jX m_X3_place 9 0 0 24 [(0, .ref 87), (2, .int l2), (3, .int l3)] [] _ 0 0 _
      refine x_vret rfl rfl ?_
      exact hQ _ J Sm
    ·
      refine x_iloadn (x := l2) rfl rfl ?_
      refine x_aloadn (x := 87) rfl rfl ?_
      refine z_getI (N := 14) 3 11 rfl f_3_40 rfl J rfl sg_87_11_12_1_0_1 (fun v4 qv4 ev4 => ?_)
      refine x_icge (tgt := 72) rfl rfl (ti_ge rfl rfl ⟨fun c5 => ?_, fun c5 => ?_⟩)
      ·
        refine x_vret rfl rfl ?_
        show jX m_X3_place 9 0 0 24 [(0, .ref 87), (2, .int l2), (3, .int l3)] [] _ 0 0 _
        refine x_vret rfl rfl ?_
        exact hQ _ J Sm
      ·
        refine x_aloadn (x := 87) rfl rfl ?_
        refine x_iloadn (x := l3) rfl rfl ?_
        refine z_putI (N := 14) (w := l3.toInt) 3 10 rfl f_3_37 rfl (jfin_no TX3 RX3 14 rfl rfl) hD J Sm rfl rfl rfl (pw_87_10 (by omega)) rfl (fun h w6 J Sm => ?_)
        refine x_aloadn (x := 87) rfl rfl ?_
        refine x_iloadn (x := l2) rfl rfl ?_
        refine z_putI (N := 14) (w := l2.toInt) 3 11 rfl f_3_40 rfl (jfin_no TX3 RX3 14 rfl rfl) hD J Sm rfl rfl rfl (pw_87_11 (by omega)) rfl (fun h w7 J Sm => ?_)
        refine x_aloadn (x := 87) rfl rfl ?_
        refine z_getR (N := 14) (b := 91) 3 6 rfl f_3_25 rfl J rfl 11142 ⟨rfl, rfl⟩ rfl ?_
        refine x_iconst (v := 0) rfl ki_0 ?_
        refine x_aloadn (x := 87) rfl rfl ?_
        refine z_getR (N := 14) (b := 92) 3 7 rfl f_3_28 rfl J rfl 11143 ⟨rfl, rfl⟩ rfl ?_
        refine x_iconst (v := 0) rfl ki_0 ?_
        refine x_bipush (v := 9) rfl kb_9 ?_
        refine z_cpi (N1 := 9) (N2 := 9) rfl ⟨q_3_100, jcp_w⟩ (by decide) rfl hD J Sm rfl rfl rfl rfl jk_0 jk_0 jk_9 (by omega) (cp_92 (fun k k1 k2 k3 => by have k4 := k3.1; have k5 := k3.2.1; have k6 := k3.2.2; simp only at k4 k5 k6; exact jcp_in J sg_91_0_9_1_0_1 rfl (by omega) (by decide))) rfl (fun h w8 J Sm => ?_)
        refine x_vret rfl rfl ?_
        show jX m_X3_place 9 0 0 24 [(0, .ref 87), (2, .int l2), (3, .int l3)] [] _ 0 0 _
        refine x_vret rfl rfl ?_
        exact hQ _ J Sm
  ·
    refine x_iloadn (x := l3) rfl rfl ?_
    refine x_aloadn (x := 87) rfl rfl ?_
    refine z_getR (N := 14) (b := 94) 3 9 rfl f_3_34 rfl J rfl 11145 ⟨rfl, rfl⟩ rfl ?_
    refine z_alen (N := 14401) (v := 14401) rfl J rfl rfl (by decide) ?_
    refine x_icge (tgt := 23) rfl rfl (ti_ge rfl jk_14401 ⟨fun c9 => ?_, fun c9 => ?_⟩)
    ·
      refine x_iloadn (x := l3) rfl rfl ?_
      refine x_aloadn (x := 87) rfl rfl ?_
      refine z_getI (N := 14) 3 10 rfl f_3_37 rfl J rfl sg_87_10_11_1_0_1 (fun v10 qv10 ev10 => ?_)
      refine x_icgt (tgt := 47) rfl rfl (ti_gt rfl rfl ⟨fun c11 => ?_, fun c11 => ?_⟩)
      ·
        refine x_aloadn (x := 87) rfl rfl ?_
        refine x_iloadn (x := l3) rfl rfl ?_
        refine z_putI (N := 14) (w := l3.toInt) 3 10 rfl f_3_37 rfl (jfin_no TX3 RX3 14 rfl rfl) hD J Sm rfl rfl rfl (pw_87_10 (by omega)) rfl (fun h w12 J Sm => ?_)
        refine x_aloadn (x := 87) rfl rfl ?_
        refine x_iloadn (x := l2) rfl rfl ?_
        refine z_putI (N := 14) (w := l2.toInt) 3 11 rfl f_3_40 rfl (jfin_no TX3 RX3 14 rfl rfl) hD J Sm rfl rfl rfl (pw_87_11 (by omega)) rfl (fun h w13 J Sm => ?_)
        refine x_aloadn (x := 87) rfl rfl ?_
        refine z_getR (N := 14) (b := 91) 3 6 rfl f_3_25 rfl J rfl 11142 ⟨rfl, rfl⟩ rfl ?_
        refine x_iconst (v := 0) rfl ki_0 ?_
        refine x_aloadn (x := 87) rfl rfl ?_
        refine z_getR (N := 14) (b := 92) 3 7 rfl f_3_28 rfl J rfl 11143 ⟨rfl, rfl⟩ rfl ?_
        refine x_iconst (v := 0) rfl ki_0 ?_
        refine x_bipush (v := 9) rfl kb_9 ?_
        refine z_cpi (N1 := 9) (N2 := 9) rfl ⟨q_3_100, jcp_w⟩ (by decide) rfl hD J Sm rfl rfl rfl rfl jk_0 jk_0 jk_9 (by omega) (cp_92 (fun k k1 k2 k3 => by have k4 := k3.1; have k5 := k3.2.1; have k6 := k3.2.2; simp only at k4 k5 k6; exact jcp_in J sg_91_0_9_1_0_1 rfl (by omega) (by decide))) rfl (fun h w14 J Sm => ?_)
        refine x_vret rfl rfl ?_
        show jX m_X3_place 9 0 0 24 [(0, .ref 87), (2, .int l2), (3, .int l3)] [] _ 0 0 _
        refine x_vret rfl rfl ?_
        exact hQ _ J Sm
      ·
        refine x_iloadn (x := l3) rfl rfl ?_
        refine x_aloadn (x := 87) rfl rfl ?_
        refine z_getM (N := 14) (v := v10) 3 10 rfl f_3_37 rfl J rfl qv10 ?_
        refine x_icne (tgt := 72) rfl rfl (ti_ne rfl rfl ⟨fun c15 => ?_, fun c15 => ?_⟩)
        ·
          refine x_vret rfl rfl ?_
          show jX m_X3_place 9 0 0 24 [(0, .ref 87), (2, .int l2), (3, .int l3)] [] _ 0 0 _
          refine x_vret rfl rfl ?_
          exact hQ _ J Sm
        ·
          refine x_iloadn (x := l2) rfl rfl ?_
          refine x_aloadn (x := 87) rfl rfl ?_
          refine z_getI (N := 14) 3 11 rfl f_3_40 rfl J rfl sg_87_11_12_1_0_1 (fun v16 qv16 ev16 => ?_)
          refine x_icge (tgt := 72) rfl rfl (ti_ge rfl rfl ⟨fun c17 => ?_, fun c17 => ?_⟩)
          ·
            refine x_vret rfl rfl ?_
            show jX m_X3_place 9 0 0 24 [(0, .ref 87), (2, .int l2), (3, .int l3)] [] _ 0 0 _
            refine x_vret rfl rfl ?_
            exact hQ _ J Sm
          ·
            refine x_aloadn (x := 87) rfl rfl ?_
            refine x_iloadn (x := l3) rfl rfl ?_
            refine z_putI (N := 14) (w := l3.toInt) 3 10 rfl f_3_37 rfl (jfin_no TX3 RX3 14 rfl rfl) hD J Sm rfl rfl rfl (pw_87_10 (by omega)) rfl (fun h w18 J Sm => ?_)
            refine x_aloadn (x := 87) rfl rfl ?_
            refine x_iloadn (x := l2) rfl rfl ?_
            refine z_putI (N := 14) (w := l2.toInt) 3 11 rfl f_3_40 rfl (jfin_no TX3 RX3 14 rfl rfl) hD J Sm rfl rfl rfl (pw_87_11 (by omega)) rfl (fun h w19 J Sm => ?_)
            refine x_aloadn (x := 87) rfl rfl ?_
            refine z_getR (N := 14) (b := 91) 3 6 rfl f_3_25 rfl J rfl 11142 ⟨rfl, rfl⟩ rfl ?_
            refine x_iconst (v := 0) rfl ki_0 ?_
            refine x_aloadn (x := 87) rfl rfl ?_
            refine z_getR (N := 14) (b := 92) 3 7 rfl f_3_28 rfl J rfl 11143 ⟨rfl, rfl⟩ rfl ?_
            refine x_iconst (v := 0) rfl ki_0 ?_
            refine x_bipush (v := 9) rfl kb_9 ?_
            refine z_cpi (N1 := 9) (N2 := 9) rfl ⟨q_3_100, jcp_w⟩ (by decide) rfl hD J Sm rfl rfl rfl rfl jk_0 jk_0 jk_9 (by omega) (cp_92 (fun k k1 k2 k3 => by have k4 := k3.1; have k5 := k3.2.1; have k6 := k3.2.2; simp only at k4 k5 k6; exact jcp_in J sg_91_0_9_1_0_1 rfl (by omega) (by decide))) rfl (fun h w20 J Sm => ?_)
            refine x_vret rfl rfl ?_
            show jX m_X3_place 9 0 0 24 [(0, .ref 87), (2, .int l2), (3, .int l3)] [] _ 0 0 _
            refine x_vret rfl rfl ?_
            exact hQ _ J Sm
    ·
      refine x_aloadn (x := 87) rfl rfl ?_
      refine z_getR (N := 14) (b := 94) 3 9 rfl f_3_34 rfl J rfl 11145 ⟨rfl, rfl⟩ rfl ?_
      refine x_iloadn (x := l3) rfl rfl ?_
      refine x_dup2 rfl rfl rfl ?_
      refine z_iald0 (N := 14401) rfl J rfl rfl (by omega) (fun v21 qv21 => ?_)
      have ev21 := jfull v21
      refine x_iconst (v := 1) rfl ki_1 ?_
      refine z_iadd0 rfl (fun v22 => ?_)
      have ev22 := jfull v22
      refine z_iast (N := 14401) (l := 0) (u := 14401) (w := v22.toInt) rfl hD J Sm rfl rfl rfl (by omega) rfl (wr_94) rfl (fun h w23 J Sm => ?_)
      refine x_iloadn (x := l3) rfl rfl ?_
      refine x_aloadn (x := 87) rfl rfl ?_
      refine z_getI (N := 14) 3 10 rfl f_3_37 rfl J rfl sg_87_10_11_1_0_1 (fun v24 qv24 ev24 => ?_)
      refine x_icgt (tgt := 47) rfl rfl (ti_gt rfl rfl ⟨fun c25 => ?_, fun c25 => ?_⟩)
      ·
        refine x_aloadn (x := 87) rfl rfl ?_
        refine x_iloadn (x := l3) rfl rfl ?_
        refine z_putI (N := 14) (w := l3.toInt) 3 10 rfl f_3_37 rfl (jfin_no TX3 RX3 14 rfl rfl) hD J Sm rfl rfl rfl (pw_87_10 (by omega)) rfl (fun h w26 J Sm => ?_)
        refine x_aloadn (x := 87) rfl rfl ?_
        refine x_iloadn (x := l2) rfl rfl ?_
        refine z_putI (N := 14) (w := l2.toInt) 3 11 rfl f_3_40 rfl (jfin_no TX3 RX3 14 rfl rfl) hD J Sm rfl rfl rfl (pw_87_11 (by omega)) rfl (fun h w27 J Sm => ?_)
        refine x_aloadn (x := 87) rfl rfl ?_
        refine z_getR (N := 14) (b := 91) 3 6 rfl f_3_25 rfl J rfl 11142 ⟨rfl, rfl⟩ rfl ?_
        refine x_iconst (v := 0) rfl ki_0 ?_
        refine x_aloadn (x := 87) rfl rfl ?_
        refine z_getR (N := 14) (b := 92) 3 7 rfl f_3_28 rfl J rfl 11143 ⟨rfl, rfl⟩ rfl ?_
        refine x_iconst (v := 0) rfl ki_0 ?_
        refine x_bipush (v := 9) rfl kb_9 ?_
        refine z_cpi (N1 := 9) (N2 := 9) rfl ⟨q_3_100, jcp_w⟩ (by decide) rfl hD J Sm rfl rfl rfl rfl jk_0 jk_0 jk_9 (by omega) (cp_92 (fun k k1 k2 k3 => by have k4 := k3.1; have k5 := k3.2.1; have k6 := k3.2.2; simp only at k4 k5 k6; exact jcp_in J sg_91_0_9_1_0_1 rfl (by omega) (by decide))) rfl (fun h w28 J Sm => ?_)
        refine x_vret rfl rfl ?_
        show jX m_X3_place 9 0 0 24 [(0, .ref 87), (2, .int l2), (3, .int l3)] [] _ 0 0 _
        refine x_vret rfl rfl ?_
        exact hQ _ J Sm
      ·
        refine x_iloadn (x := l3) rfl rfl ?_
        refine x_aloadn (x := 87) rfl rfl ?_
        refine z_getM (N := 14) (v := v24) 3 10 rfl f_3_37 rfl J rfl qv24 ?_
        refine x_icne (tgt := 72) rfl rfl (ti_ne rfl rfl ⟨fun c29 => ?_, fun c29 => ?_⟩)
        ·
          refine x_vret rfl rfl ?_
          show jX m_X3_place 9 0 0 24 [(0, .ref 87), (2, .int l2), (3, .int l3)] [] _ 0 0 _
          refine x_vret rfl rfl ?_
          exact hQ _ J Sm
        ·
          refine x_iloadn (x := l2) rfl rfl ?_
          refine x_aloadn (x := 87) rfl rfl ?_
          refine z_getI (N := 14) 3 11 rfl f_3_40 rfl J rfl sg_87_11_12_1_0_1 (fun v30 qv30 ev30 => ?_)
          refine x_icge (tgt := 72) rfl rfl (ti_ge rfl rfl ⟨fun c31 => ?_, fun c31 => ?_⟩)
          ·
            refine x_vret rfl rfl ?_
            show jX m_X3_place 9 0 0 24 [(0, .ref 87), (2, .int l2), (3, .int l3)] [] _ 0 0 _
            refine x_vret rfl rfl ?_
            exact hQ _ J Sm
          ·
            refine x_aloadn (x := 87) rfl rfl ?_
            refine x_iloadn (x := l3) rfl rfl ?_
            refine z_putI (N := 14) (w := l3.toInt) 3 10 rfl f_3_37 rfl (jfin_no TX3 RX3 14 rfl rfl) hD J Sm rfl rfl rfl (pw_87_10 (by omega)) rfl (fun h w32 J Sm => ?_)
            refine x_aloadn (x := 87) rfl rfl ?_
            refine x_iloadn (x := l2) rfl rfl ?_
            refine z_putI (N := 14) (w := l2.toInt) 3 11 rfl f_3_40 rfl (jfin_no TX3 RX3 14 rfl rfl) hD J Sm rfl rfl rfl (pw_87_11 (by omega)) rfl (fun h w33 J Sm => ?_)
            refine x_aloadn (x := 87) rfl rfl ?_
            refine z_getR (N := 14) (b := 91) 3 6 rfl f_3_25 rfl J rfl 11142 ⟨rfl, rfl⟩ rfl ?_
            refine x_iconst (v := 0) rfl ki_0 ?_
            refine x_aloadn (x := 87) rfl rfl ?_
            refine z_getR (N := 14) (b := 92) 3 7 rfl f_3_28 rfl J rfl 11143 ⟨rfl, rfl⟩ rfl ?_
            refine x_iconst (v := 0) rfl ki_0 ?_
            refine x_bipush (v := 9) rfl kb_9 ?_
            refine z_cpi (N1 := 9) (N2 := 9) rfl ⟨q_3_100, jcp_w⟩ (by decide) rfl hD J Sm rfl rfl rfl rfl jk_0 jk_0 jk_9 (by omega) (cp_92 (fun k k1 k2 k3 => by have k4 := k3.1; have k5 := k3.2.1; have k6 := k3.2.2; simp only at k4 k5 k6; exact jcp_in J sg_91_0_9_1_0_1 rfl (by omega) (by decide))) rfl (fun h w34 J Sm => ?_)
            refine x_vret rfl rfl ?_
            show jX m_X3_place 9 0 0 24 [(0, .ref 87), (2, .int l2), (3, .int l3)] [] _ 0 0 _
            refine x_vret rfl rfl ?_
            exact hQ _ J Sm
set_option maxRecDepth 100000 in
set_option maxHeartbeats 4000000 in
theorem ct_X3_place_r87_c3_144 {Dy : jH → Prop} {h0 : jH} {Q : Option Value → jH → Prop} (hD : jDk Dy) (hQ : ∀ h', jJ jSgX Dy h' → jSm fp_X3_place_r87_c3 h0 h' → Q none h') : ∀ (h : jH), jJ jSgX Dy h → jSm fp_X3_place_r87_c3 h0 h → jX m_X3_place 9 0 0 144 [] [] h 0 0 Q := by
  intro  h    J Sm
  refine x_vret rfl rfl ?_
  exact hQ _ J Sm
set_option maxRecDepth 100000 in
set_option maxHeartbeats 4000000 in
theorem ct_X3_place_r87_c3_138 {Dy : jH → Prop} {h0 : jH} {Q : Option Value → jH → Prop} {R61 : Int} (hD : jDk Dy) (hQ : ∀ h', jJ jSgX Dy h' → jSm fp_X3_place_r87_c3 h0 h' → Q none h') (k61 : ∀ (l2 : Int32) (l3 : Int32) (l4 : Int32) (l5 : Int32) (h : jH), 4 - l5.toInt < R61 → 1 ≤ l2.toInt ∧ l2.toInt ≤ 3 → (-1) ≤ l4.toInt ∧ l4.toInt ≤ 8 → 0 ≤ l5.toInt ∧ l5.toInt ≤ 4 → jJ jSgX Dy h → jSm fp_X3_place_r87_c3 h0 h → jX m_X3_place 9 0 0 61 [(0, .ref 87), (1, .int 3), (2, .int l2), (3, .int l3), (4, .int l4), (5, .int l5)] [] h 0 0 Q) : ∀ (l2 : Int32) (l3 : Int32) (l4 : Int32) (l5 : Int32) (h : jH), 1 ≤ l2.toInt ∧ l2.toInt ≤ 3 → (-1) ≤ l4.toInt ∧ l4.toInt ≤ 8 → 0 ≤ l5.toInt ∧ l5.toInt ≤ 3 → 4 - l5.toInt ≤ R61 → jJ jSgX Dy h → jSm fp_X3_place_r87_c3 h0 h → jX m_X3_place 9 0 0 138 [(0, .ref 87), (1, .int 3), (2, .int l2), (3, .int l3), (4, .int l4), (5, .int l5)] [] h 0 0 Q := by
  intro l2 l3 l4 l5 h y0 y1 y2  m61 J Sm
  have el3 := jfull l3
  refine z_iinc (x := l5) (ls' := fun v1 => [(5, .int v1), (0, .ref 87), (1, .int 3), (2, .int l2), (3, .int l3), (4, .int l4)]) rfl rfl rfl jko_1 (by omega) rfl (fun _ => rfl) (fun v1 ev1 => ?_)
  refine x_goto (tgt := 61) rfl rfl ?_
  exact jX.sub (jsb_c rfl (jsb_c rfl (jsb_c rfl (jsb_c rfl (jsb_c rfl (jsb_c rfl jsb_n)))))) (k61 l2 l3 l4 v1 h (by omega) (jr_of rfl (by omega)) (jr_of rfl (by omega)) (jr_of rfl (by omega)) J Sm)
set_option maxRecDepth 100000 in
set_option maxHeartbeats 4000000 in
theorem ct_X3_place_r87_c3_131 {Dy : jH → Prop} {h0 : jH} {Q : Option Value → jH → Prop} {R61 : Int} (hD : jDk Dy) (hQ : ∀ h', jJ jSgX Dy h' → jSm fp_X3_place_r87_c3 h0 h' → Q none h') (k61 : ∀ (l2 : Int32) (l3 : Int32) (l4 : Int32) (l5 : Int32) (h : jH), 4 - l5.toInt < R61 → 1 ≤ l2.toInt ∧ l2.toInt ≤ 3 → (-1) ≤ l4.toInt ∧ l4.toInt ≤ 8 → 0 ≤ l5.toInt ∧ l5.toInt ≤ 4 → jJ jSgX Dy h → jSm fp_X3_place_r87_c3 h0 h → jX m_X3_place 9 0 0 61 [(0, .ref 87), (1, .int 3), (2, .int l2), (3, .int l3), (4, .int l4), (5, .int l5)] [] h 0 0 Q) : ∀ (l2 : Int32) (l3 : Int32) (l4 : Int32) (l5 : Int32) (l6 : Int32) (s0 : Int32) (h : jH), 1 ≤ l2.toInt ∧ l2.toInt ≤ 3 → (-1) ≤ l4.toInt ∧ l4.toInt ≤ 3 → 0 ≤ l5.toInt ∧ l5.toInt ≤ 3 → 0 ≤ l6.toInt ∧ l6.toInt ≤ 2147483647 → 1 ≤ s0.toInt ∧ s0.toInt ≤ 4 → 4 - l5.toInt ≤ R61 → jJ jSgX Dy h → jSm fp_X3_place_r87_c3 h0 h → jX m_X3_place 9 0 0 131 [(0, .ref 87), (1, .int 3), (2, .int l2), (3, .int l3), (4, .int l4), (5, .int l5), (6, .int l6)] [.int s0, .int 4, .ref 87] h 0 0 Q := by
  intro l2 l3 l4 l5 l6 s0 h y0 y1 y2 y3 y4  m61 J Sm
  have el3 := jfull l3
  refine x_iloadn (x := l3) rfl rfl ?_
  refine x_iload (x := l6) rfl rfl ?_
  refine z_iadd0 rfl (fun v1 => ?_)
  have ev1 := jfull v1
  refine x_inv (N := m_X3_place) (As := [.int 4, .int s0, .int v1]) (b := 87) (st := []) (d' := 8) (mc := 0) (ms := 0) (host := "") 3 rfl t_X3_place ⟨Or.inl q_3_80, i_X3_place.1, i_X3_place.2⟩ ⟨by decide, rfl⟩ (congrArg Prod.fst (J.1.1 87 (3, 14) rfl)) rfl (by decide) rfl rfl ⟨by decide, by decide⟩ (sf_X3_place_r87_c4 (jr_of rfl (by omega)) hD J  (fun h J S2 => ?_))
  have Sm := jSm_tr rfl Sm S2
  show jX m_X3_place 9 0 0 138 [(0, .ref 87), (1, .int 3), (2, .int l2), (3, .int l3), (4, .int l4), (5, .int l5), (6, .int l6)] [] _ 0 0 _
  exact jX.sub (jsb_c rfl (jsb_c rfl (jsb_c rfl (jsb_c rfl (jsb_c rfl (jsb_c rfl jsb_n)))))) (ct_X3_place_r87_c3_138 hD hQ k61 l2 l3 l4 l5 h (jr_of rfl (by omega)) (jr_of rfl (by omega)) (jr_of rfl (by omega)) (by omega) J Sm)
set_option maxRecDepth 100000 in
set_option maxHeartbeats 4000000 in
theorem ct_X3_place_r87_c3_106 {Dy : jH → Prop} {h0 : jH} {Q : Option Value → jH → Prop} {R61 : Int} (hD : jDk Dy) (hQ : ∀ h', jJ jSgX Dy h' → jSm fp_X3_place_r87_c3 h0 h' → Q none h') (k61 : ∀ (l2 : Int32) (l3 : Int32) (l4 : Int32) (l5 : Int32) (h : jH), 4 - l5.toInt < R61 → 1 ≤ l2.toInt ∧ l2.toInt ≤ 3 → (-1) ≤ l4.toInt ∧ l4.toInt ≤ 8 → 0 ≤ l5.toInt ∧ l5.toInt ≤ 4 → jJ jSgX Dy h → jSm fp_X3_place_r87_c3 h0 h → jX m_X3_place 9 0 0 61 [(0, .ref 87), (1, .int 3), (2, .int l2), (3, .int l3), (4, .int l4), (5, .int l5)] [] h 0 0 Q) : ∀ (l2 : Int32) (l3 : Int32) (l4 : Int32) (l5 : Int32) (l6 : Int32) (h : jH), 1 ≤ l2.toInt ∧ l2.toInt ≤ 3 → (-1) ≤ l4.toInt ∧ l4.toInt ≤ 3 → 0 ≤ l5.toInt ∧ l5.toInt ≤ 3 → 0 ≤ l6.toInt ∧ l6.toInt ≤ 2147483647 → 4 - l5.toInt ≤ R61 → jJ jSgX Dy h → jSm fp_X3_place_r87_c3 h0 h → jX m_X3_place 9 0 0 106 [(0, .ref 87), (1, .int 3), (2, .int l2), (3, .int l3), (4, .int l4), (5, .int l5), (6, .int l6)] [] h 0 0 Q := by
  intro l2 l3 l4 l5 l6 h y0 y1 y2 y3  m61 J Sm
  have el3 := jfull l3
  refine x_aloadn (x := 87) rfl rfl ?_
  refine z_getR (N := 14) (b := 91) 3 6 rfl f_3_25 rfl J rfl 11142 ⟨rfl, rfl⟩ rfl ?_
  refine x_iloadn (x := 3) rfl rfl ?_
  refine x_iload (x := l5) rfl rfl ?_
  refine z_iast (N := 9) (l := 0) (u := 9) (w := l5.toInt) rfl hD J Sm rfl rfl jk_3 (by omega) rfl (wr_91 (fun q1 q2 q3 q4 => by omega)) rfl (fun h w1 J Sm => ?_)
  refine x_aloadn (x := 87) rfl rfl ?_
  refine x_iloadn (x := 3) rfl rfl ?_
  refine x_iconst (v := 1) rfl ki_1 ?_
  refine y_iadd (v := 4) rfl (by decide) ?_
  refine x_iload (x := l5) rfl rfl ?_
  refine x_iloadn (x := l2) rfl rfl ?_
  refine x_icne (tgt := 130) rfl rfl (ti_ne rfl rfl ⟨fun c2 => ?_, fun c2 => ?_⟩)
  ·
    refine x_iloadn (x := l2) rfl rfl ?_
    exact jX.sub (jsb_c rfl (jsb_c rfl (jsb_c rfl (jsb_c rfl (jsb_c rfl (jsb_c rfl (jsb_c rfl jsb_n))))))) (ct_X3_place_r87_c3_131 hD hQ k61 l2 l3 l4 l5 l6 l2 h (jr_of rfl (by omega)) (jr_of rfl (by omega)) (jr_of rfl (by omega)) (jr_of rfl (by omega)) (jr_of rfl (by omega)) (by omega) J Sm)
  ·
    refine x_iloadn (x := l2) rfl rfl ?_
    refine x_iconst (v := 1) rfl ki_1 ?_
    refine z_iadd rfl rfl jk_1 (by omega) (fun v3 ev3 => ?_)
    refine x_goto (tgt := 131) rfl rfl ?_
    exact jX.sub (jsb_c rfl (jsb_c rfl (jsb_c rfl (jsb_c rfl (jsb_c rfl (jsb_c rfl (jsb_c rfl jsb_n))))))) (ct_X3_place_r87_c3_131 hD hQ k61 l2 l3 l4 l5 l6 v3 h (jr_of rfl (by omega)) (jr_of rfl (by omega)) (jr_of rfl (by omega)) (jr_of rfl (by omega)) (jr_of rfl (by omega)) (by omega) J Sm)
set_option maxRecDepth 100000 in
set_option maxHeartbeats 4000000 in
theorem ct_X3_place_r87_c3_61 {Dy : jH → Prop} {h0 : jH} {Q : Option Value → jH → Prop} (hD : jDk Dy) (hQ : ∀ h', jJ jSgX Dy h' → jSm fp_X3_place_r87_c3 h0 h' → Q none h') : ∀ r : Nat, ∀ (l2 : Int32) (l3 : Int32) (l4 : Int32) (l5 : Int32) (h : jH), 4 - l5.toInt < (r : Int) → 1 ≤ l2.toInt ∧ l2.toInt ≤ 3 → (-1) ≤ l4.toInt ∧ l4.toInt ≤ 8 → 0 ≤ l5.toInt ∧ l5.toInt ≤ 4 → jJ jSgX Dy h → jSm fp_X3_place_r87_c3 h0 h → jX m_X3_place 9 0 0 61 [(0, .ref 87), (1, .int 3), (2, .int l2), (3, .int l3), (4, .int l4), (5, .int l5)] [] h 0 0 Q := by
  intro r
  induction r with
  | zero =>
    intro l2 l3 l4 l5 h hm y0 y1 y2   J Sm
    exfalso
    omega
  | succ r ih =>
    intro l2 l3 l4 l5 h hm y0 y1 y2   J Sm
    have el3 := jfull l3
    refine x_iload (x := l5) rfl rfl ?_
    refine x_iloadn (x := l2) rfl rfl ?_
    refine x_icgt (tgt := 144) rfl rfl (ti_gt rfl rfl ⟨fun c1 => ?_, fun c1 => ?_⟩)
    ·
      exact jX.sub jsb_n (ct_X3_place_r87_c3_144 hD hQ  h J Sm)
    ·
      refine x_iload (x := l5) rfl rfl ?_
      refine x_bipush (v := 10) rfl kb_10 ?_
      refine x_icge (tgt := 144) rfl rfl (ti_ge rfl jk_10 (br_f (by omega) ?_))
      refine x_aloadn (x := 87) rfl rfl ?_
      refine z_getR (N := 14) (b := 93) 3 8 rfl f_3_31 rfl J rfl 11144 ⟨rfl, rfl⟩ rfl ?_
      refine x_iloadn (x := 3) rfl rfl ?_
      refine x_bipush (v := 10) rfl kb_10 ?_
      refine y_imul (v := 30) rfl (by decide) ?_
      refine x_iload (x := l5) rfl rfl ?_
      refine z_iadd rfl jk_30 rfl (by omega) (fun v2 ev2 => ?_)
      refine z_iald0 (N := 90) rfl J rfl rfl (by omega) (fun v3 qv3 => ?_)
      have ev3 := jfull v3
      refine x_istore (ls' := [(6, .int v3), (0, .ref 87), (1, .int 3), (2, .int l2), (3, .int l3), (4, .int l4), (5, .int l5)]) rfl rfl rfl ?_
      refine x_iload (x := v3) rfl rfl ?_
      refine x_iflt (tgt := 138) rfl rfl (ti_lt rfl jk_0 ⟨fun c4 => ?_, fun c4 => ?_⟩)
      ·
        exact jX.sub (jsb_c rfl (jsb_c rfl (jsb_c rfl (jsb_c rfl (jsb_c rfl (jsb_c rfl jsb_n)))))) (ct_X3_place_r87_c3_138 hD hQ ih l2 l3 l4 l5 h (jr_of rfl (by omega)) (jr_of rfl (by omega)) (jr_of rfl (by omega)) (by omega) J Sm)
      ·
        refine x_iload (x := l4) rfl rfl ?_
        refine x_iconst (v := (-1)) rfl ki_m1 ?_
        refine x_iceq (tgt := 106) rfl rfl (ti_eq rfl jk_m1 ⟨fun c5 => ?_, fun c5 => ?_⟩)
        ·
          exact jX.sub (jsb_c rfl (jsb_c rfl (jsb_c rfl (jsb_c rfl (jsb_c rfl (jsb_c rfl (jsb_c rfl jsb_n))))))) (ct_X3_place_r87_c3_106 hD hQ ih l2 l3 l4 l5 v3 h (jr_of rfl (by omega)) (jr_of rfl (by omega)) (jr_of rfl (by omega)) (jr_of rfl (by omega)) (by omega) J Sm)
        ·
          refine x_iload (x := l4) rfl rfl ?_
          refine x_iload (x := l5) rfl rfl ?_
          refine x_icne (tgt := 138) rfl rfl (ti_ne rfl rfl ⟨fun c6 => ?_, fun c6 => ?_⟩)
          ·
            exact jX.sub (jsb_c rfl (jsb_c rfl (jsb_c rfl (jsb_c rfl (jsb_c rfl (jsb_c rfl jsb_n)))))) (ct_X3_place_r87_c3_138 hD hQ ih l2 l3 l4 l5 h (jr_of rfl (by omega)) (jr_of rfl (by omega)) (jr_of rfl (by omega)) (by omega) J Sm)
          ·
            exact jX.sub (jsb_c rfl (jsb_c rfl (jsb_c rfl (jsb_c rfl (jsb_c rfl (jsb_c rfl (jsb_c rfl jsb_n))))))) (ct_X3_place_r87_c3_106 hD hQ ih l2 l3 l4 l5 v3 h (jr_of rfl (by omega)) (jr_of rfl (by omega)) (jr_of rfl (by omega)) (jr_of rfl (by omega)) (by omega) J Sm)
set_option maxRecDepth 100000 in
set_option maxHeartbeats 4000000 in
theorem ct_X3_place_r87_c3_56 {Dy : jH → Prop} {h0 : jH} {Q : Option Value → jH → Prop} (hD : jDk Dy) (hQ : ∀ h', jJ jSgX Dy h' → jSm fp_X3_place_r87_c3 h0 h' → Q none h') : ∀ (l2 : Int32) (l3 : Int32) (s0 : Int32) (h : jH), 1 ≤ l2.toInt ∧ l2.toInt ≤ 3 → 0 ≤ s0.toInt ∧ s0.toInt ≤ 8 → jJ jSgX Dy h → jSm fp_X3_place_r87_c3 h0 h → jX m_X3_place 9 0 0 56 [(0, .ref 87), (1, .int 3), (2, .int l2), (3, .int l3)] [.int s0] h 0 0 Q := by
  intro l2 l3 s0 h y0 y1   J Sm
  have el3 := jfull l3
  refine x_istore (ls' := [(4, .int s0), (0, .ref 87), (1, .int 3), (2, .int l2), (3, .int l3)]) rfl rfl rfl ?_
  refine x_iconst (v := 0) rfl ki_0 ?_
  refine x_istore (ls' := [(5, .int 0), (4, .int s0), (0, .ref 87), (1, .int 3), (2, .int l2), (3, .int l3)]) rfl rfl rfl ?_
  exact jX.sub (jsb_c rfl (jsb_c rfl (jsb_c rfl (jsb_c rfl (jsb_c rfl (jsb_c rfl jsb_n)))))) (ct_X3_place_r87_c3_61 hD hQ  5 l2 l3 s0 0 h (by have := jk_0; omega) (jr_of rfl (by omega)) (jr_of rfl (by omega)) (jr_of jk_0 (by omega)) J Sm)
set_option maxRecDepth 100000 in
set_option maxHeartbeats 4000000 in
theorem ct_X3_place_r87_c3_100056 {Dy : jH → Prop} {h0 : jH} {Q : Option Value → jH → Prop} (hD : jDk Dy) (hQ : ∀ h', jJ jSgX Dy h' → jSm fp_X3_place_r87_c3 h0 h' → Q none h') : ∀ (l2 : Int32) (l3 : Int32) (h : jH), 1 ≤ l2.toInt ∧ l2.toInt ≤ 3 → jJ jSgX Dy h → jSm fp_X3_place_r87_c3 h0 h → jX m_X3_place 9 0 0 56 [(0, .ref 87), (1, .int 3), (2, .int l2), (3, .int l3)] [.int (-1)] h 0 0 Q := by
  intro l2 l3 h y0   J Sm
  have el3 := jfull l3
  refine x_istore (ls' := [(4, .int (-1)), (0, .ref 87), (1, .int 3), (2, .int l2), (3, .int l3)]) rfl rfl rfl ?_
  refine x_iconst (v := 0) rfl ki_0 ?_
  refine x_istore (ls' := [(5, .int 0), (4, .int (-1)), (0, .ref 87), (1, .int 3), (2, .int l2), (3, .int l3)]) rfl rfl rfl ?_
  exact jX.sub (jsb_c rfl (jsb_c rfl (jsb_c rfl (jsb_c rfl (jsb_c rfl (jsb_c rfl jsb_n)))))) (ct_X3_place_r87_c3_61 hD hQ  5 l2 l3 (-1) 0 h (by have := jk_0; omega) (jr_of rfl (by omega)) (jr_of jk_m1 (by omega)) (jr_of jk_0 (by omega)) J Sm)
set_option maxRecDepth 100000 in
set_option maxHeartbeats 4000000 in
theorem sf_X3_place_r87_c3 {Dy : jH → Prop} {h : jH} {Q : Option Value → jH → Prop} {a2 : Int32} {a3 : Int32} (y2 : 1 ≤ a2.toInt ∧ a2.toInt ≤ 3) (hD : jDk Dy) (J : jJ jSgX Dy h) (hQ : ∀ h', jJ jSgX Dy h' → jSm fp_X3_place_r87_c3 h h' → Q none h') : jC m_X3_place 9 0 0 [.ref 87, .int 3, .int a2, .int a3] h Q := by
  refine jC.of rfl k_X3_place rfl ?_
  have Sm := jSm_rf fp_X3_place_r87_c3 h
  have ea3 := jfull a3
  show jX m_X3_place 9 0 0 0 [(0, .ref 87), (1, .int 3), (2, .int a2), (3, .int a3)] [] _ 0 0 _
  refine x_iloadn (x := 3) rfl rfl ?_
  refine x_iflt (tgt := 18) rfl rfl (ti_lt jk_3 jk_0 (br_f (by omega) ?_))
  refine x_iloadn (x := 3) rfl rfl ?_
  refine x_aloadn (x := 87) rfl rfl ?_
  refine z_getI (N := 14) 3 3 rfl f_3_15 rfl J rfl sg_87_3_4_1_0_1 (fun v1 qv1 ev1 => ?_)
  refine x_icge (tgt := 18) rfl rfl (ti_ge jk_3 rfl ⟨fun c2 => ?_, fun c2 => ?_⟩)
  ·
    exact jX.sub (jsb_c rfl (jsb_c rfl (jsb_c rfl jsb_n))) (ct_X3_place_r87_c3_18 hD hQ  a2 a3 h (jr_of rfl (by omega)) J Sm)
  ·
    refine x_iloadn (x := 3) rfl rfl ?_
    refine x_bipush (v := 9) rfl kb_9 ?_
    refine x_iclt (tgt := 25) rfl rfl (ti_lt jk_3 jk_9 (br_t (by omega) ?_))
    refine x_aloadn (x := 87) rfl rfl ?_
    refine x_iloadn (x := 3) rfl rfl ?_
    refine x_iloadn (x := a2) rfl rfl ?_
    refine x_inv (N := m_X3_readGains) (As := [.int 3, .int a2]) (b := 87) (st := []) (d' := 1) (mc := 0) (ms := 0) (host := "") 3 rfl t_X3_readGains ⟨Or.inl q_3_97, i_X3_readGains.1, i_X3_readGains.2⟩ ⟨by decide, rfl⟩ (congrArg Prod.fst (J.1.1 87 (3, 14) rfl)) rfl (by decide) rfl rfl ⟨by decide, by decide⟩ (sf_X3_readGains_r87 (jr_of jk_3 (by omega)) (jr_of rfl (by omega)) hD J  (fun h J S3 => ?_))
    have Sm := jSm_tr rfl Sm S3
    show jX m_X3_place 9 0 0 31 [(0, .ref 87), (1, .int 3), (2, .int a2), (3, .int a3)] [] _ 0 0 _
    refine x_aloadn (x := 87) rfl rfl ?_
    refine z_getR (N := 14) (b := 90) 3 5 rfl f_3_22 rfl J rfl 11141 ⟨rfl, rfl⟩ rfl ?_
    refine x_iloadn (x := 3) rfl rfl ?_
    refine z_iald (N := 9) rfl J rfl sg_90_0_9_1_0_1 jk_3 (by omega) (fun v4 qv4 ev4 => ?_)
    refine x_iconst (v := (-1)) rfl ki_m1 ?_
    refine x_icne (tgt := 45) rfl rfl (ti_ne rfl jk_m1 ⟨fun c5 => ?_, fun c5 => ?_⟩)
    ·
      refine x_aloadn (x := 87) rfl rfl ?_
      refine z_getR (N := 14) (b := 91) 3 6 rfl f_3_25 rfl J rfl 11142 ⟨rfl, rfl⟩ rfl ?_
      refine x_aloadn (x := 87) rfl rfl ?_
      refine z_getR (N := 14) (b := 90) 3 5 rfl f_3_22 rfl J rfl 11141 ⟨rfl, rfl⟩ rfl ?_
      refine x_iloadn (x := 3) rfl rfl ?_
      refine z_ialdM (N := 9) (v := v4) rfl J rfl jk_3 (by omega) qv4 ?_
      refine z_iald (N := 9) rfl J rfl sg_91_0_9_1_0_1 rfl (by omega) (fun v6 qv6 ev6 => ?_)
      exact jX.sub (jsb_c rfl (jsb_c rfl (jsb_c rfl (jsb_c rfl jsb_n)))) (ct_X3_place_r87_c3_56 hD hQ  a2 a3 v6 h (jr_of rfl (by omega)) (jr_of rfl (by omega)) J Sm)
    ·
      refine x_iconst (v := (-1)) rfl ki_m1 ?_
      refine x_goto (tgt := 56) rfl rfl ?_
      exact jX.sub (jsb_c rfl (jsb_c rfl (jsb_c rfl (jsb_c rfl jsb_n)))) (ct_X3_place_r87_c3_100056 hD hQ  a2 a3 h (jr_of rfl (by omega)) J Sm)
def fp_X3_place_r87_c2 : jFp := [(87, 10, 11), (87, 11, 12), (91, 0, 9), (92, 0, 9), (93, 0, 90), (94, 0, 14401)]
set_option maxRecDepth 100000 in
set_option maxHeartbeats 4000000 in
theorem ct_X3_place_r87_c2_18 {Dy : jH → Prop} {h0 : jH} {Q : Option Value → jH → Prop} (hD : jDk Dy) (hQ : ∀ h', jJ jSgX Dy h' → jSm fp_X3_place_r87_c2 h0 h' → Q none h') : ∀ (l2 : Int32) (l3 : Int32) (h : jH), 1 ≤ l2.toInt ∧ l2.toInt ≤ 2 → jJ jSgX Dy h → jSm fp_X3_place_r87_c2 h0 h → jX m_X3_place 10 0 0 18 [(0, .ref 87), (2, .int l2), (3, .int l3)] [] h 0 0 Q := by
  intro l2 l3 h y0   J Sm
  have el3 := jfull l3
  refine x_aloadn (x := 87) rfl rfl ?_
  refine x_iloadn (x := l2) rfl rfl ?_
  refine x_iloadn (x := l3) rfl rfl ?_
  refine x_inv (N := m_X3_note) (As := [.int l2, .int l3]) (b := 87) (st := []) (d' := 9) (mc := 0) (ms := 0) (host := "") 3 rfl t_X3_note ⟨Or.inl q_3_93, i_X3_note.1, i_X3_note.2⟩ ⟨by decide, rfl⟩ (congrArg Prod.fst (J.1.1 87 (3, 14) rfl)) rfl (by decide) rfl rfl ⟨by decide, by decide⟩ (jC.of rfl k_X3_note rfl ?_)
  show jX m_X3_note 9 0 0 0 [(0, .ref 87), (1, .int l2), (2, .int l3)] [] _ 0 0 _
  refine x_iloadn (x := l3) rfl rfl ?_
  refine x_iflt (tgt := 23) rfl rfl (ti_lt rfl jk_0 ⟨fun c1 => ?_, fun c1 => ?_⟩)
  ·
    refine x_iloadn (x := l3) rfl rfl ?_
    refine x_aloadn (x := 87) rfl rfl ?_
    refine z_getI (N := 14) 3 10 rfl f_3_37 rfl J rfl sg_87_10_11_1_0_1 (fun v2 qv2 ev2 => ?_)
    refine x_icgt (tgt := 47) rfl rfl (ti_gt rfl rfl (br_f (by omega) ?_))
    refine x_iloadn (x := l3) rfl rfl ?_
    refine x_aloadn (x := 87) rfl rfl ?_
    refine z_getM (N := 14) (v := v2) 3 10 rfl f_3_37 rfl J rfl qv2 ?_
    refine x_icne (tgt := 72) rfl rfl (ti_ne rfl rfl ⟨fun c3 => ?_, fun c3 => ?_⟩)
    ·
      refine x_vret rfl rfl ?_
      show jX m_X3_place 10 0 0 24 [(0, .ref 87), (2, .int l2), (3, .int l3)] [] _ 0 0 _
      refine x_vret rfl rfl ?_
      exact hQ _ J Sm
    ·
      refine x_iloadn (x := l2) rfl rfl ?_
      refine x_aloadn (x := 87) rfl rfl ?_
      refine z_getI (N := 14) 3 11 rfl f_3_40 rfl J rfl sg_87_11_12_1_0_1 (fun v4 qv4 ev4 => ?_)
      refine x_icge (tgt := 72) rfl rfl (ti_ge rfl rfl ⟨fun c5 => ?_, fun c5 => ?_⟩)
      ·
        refine x_vret rfl rfl ?_
        show jX m_X3_place 10 0 0 24 [(0, .ref 87), (2, .int l2), (3, .int l3)] [] _ 0 0 _
        refine x_vret rfl rfl ?_
        exact hQ _ J Sm
      ·
        refine x_aloadn (x := 87) rfl rfl ?_
        refine x_iloadn (x := l3) rfl rfl ?_
        refine z_putI (N := 14) (w := l3.toInt) 3 10 rfl f_3_37 rfl (jfin_no TX3 RX3 14 rfl rfl) hD J Sm rfl rfl rfl (pw_87_10 (by omega)) rfl (fun h w6 J Sm => ?_)
        refine x_aloadn (x := 87) rfl rfl ?_
        refine x_iloadn (x := l2) rfl rfl ?_
        refine z_putI (N := 14) (w := l2.toInt) 3 11 rfl f_3_40 rfl (jfin_no TX3 RX3 14 rfl rfl) hD J Sm rfl rfl rfl (pw_87_11 (by omega)) rfl (fun h w7 J Sm => ?_)
        refine x_aloadn (x := 87) rfl rfl ?_
        refine z_getR (N := 14) (b := 91) 3 6 rfl f_3_25 rfl J rfl 11142 ⟨rfl, rfl⟩ rfl ?_
        refine x_iconst (v := 0) rfl ki_0 ?_
        refine x_aloadn (x := 87) rfl rfl ?_
        refine z_getR (N := 14) (b := 92) 3 7 rfl f_3_28 rfl J rfl 11143 ⟨rfl, rfl⟩ rfl ?_
        refine x_iconst (v := 0) rfl ki_0 ?_
        refine x_bipush (v := 9) rfl kb_9 ?_
        refine z_cpi (N1 := 9) (N2 := 9) rfl ⟨q_3_100, jcp_w⟩ (by decide) rfl hD J Sm rfl rfl rfl rfl jk_0 jk_0 jk_9 (by omega) (cp_92 (fun k k1 k2 k3 => by have k4 := k3.1; have k5 := k3.2.1; have k6 := k3.2.2; simp only at k4 k5 k6; exact jcp_in J sg_91_0_9_1_0_1 rfl (by omega) (by decide))) rfl (fun h w8 J Sm => ?_)
        refine x_vret rfl rfl ?_
        show jX m_X3_place 10 0 0 24 [(0, .ref 87), (2, .int l2), (3, .int l3)] [] _ 0 0 _
        refine x_vret rfl rfl ?_
        exact hQ _ J Sm
  ·
    refine x_iloadn (x := l3) rfl rfl ?_
    refine x_aloadn (x := 87) rfl rfl ?_
    refine z_getR (N := 14) (b := 94) 3 9 rfl f_3_34 rfl J rfl 11145 ⟨rfl, rfl⟩ rfl ?_
    refine z_alen (N := 14401) (v := 14401) rfl J rfl rfl (by decide) ?_
    refine x_icge (tgt := 23) rfl rfl (ti_ge rfl jk_14401 ⟨fun c9 => ?_, fun c9 => ?_⟩)
    ·
      refine x_iloadn (x := l3) rfl rfl ?_
      refine x_aloadn (x := 87) rfl rfl ?_
      refine z_getI (N := 14) 3 10 rfl f_3_37 rfl J rfl sg_87_10_11_1_0_1 (fun v10 qv10 ev10 => ?_)
      refine x_icgt (tgt := 47) rfl rfl (ti_gt rfl rfl ⟨fun c11 => ?_, fun c11 => ?_⟩)
      ·
        refine x_aloadn (x := 87) rfl rfl ?_
        refine x_iloadn (x := l3) rfl rfl ?_
        refine z_putI (N := 14) (w := l3.toInt) 3 10 rfl f_3_37 rfl (jfin_no TX3 RX3 14 rfl rfl) hD J Sm rfl rfl rfl (pw_87_10 (by omega)) rfl (fun h w12 J Sm => ?_)
        refine x_aloadn (x := 87) rfl rfl ?_
        refine x_iloadn (x := l2) rfl rfl ?_
        refine z_putI (N := 14) (w := l2.toInt) 3 11 rfl f_3_40 rfl (jfin_no TX3 RX3 14 rfl rfl) hD J Sm rfl rfl rfl (pw_87_11 (by omega)) rfl (fun h w13 J Sm => ?_)
        refine x_aloadn (x := 87) rfl rfl ?_
        refine z_getR (N := 14) (b := 91) 3 6 rfl f_3_25 rfl J rfl 11142 ⟨rfl, rfl⟩ rfl ?_
        refine x_iconst (v := 0) rfl ki_0 ?_
        refine x_aloadn (x := 87) rfl rfl ?_
        refine z_getR (N := 14) (b := 92) 3 7 rfl f_3_28 rfl J rfl 11143 ⟨rfl, rfl⟩ rfl ?_
        refine x_iconst (v := 0) rfl ki_0 ?_
        refine x_bipush (v := 9) rfl kb_9 ?_
        refine z_cpi (N1 := 9) (N2 := 9) rfl ⟨q_3_100, jcp_w⟩ (by decide) rfl hD J Sm rfl rfl rfl rfl jk_0 jk_0 jk_9 (by omega) (cp_92 (fun k k1 k2 k3 => by have k4 := k3.1; have k5 := k3.2.1; have k6 := k3.2.2; simp only at k4 k5 k6; exact jcp_in J sg_91_0_9_1_0_1 rfl (by omega) (by decide))) rfl (fun h w14 J Sm => ?_)
        refine x_vret rfl rfl ?_
        show jX m_X3_place 10 0 0 24 [(0, .ref 87), (2, .int l2), (3, .int l3)] [] _ 0 0 _
        refine x_vret rfl rfl ?_
        exact hQ _ J Sm
      ·
        refine x_iloadn (x := l3) rfl rfl ?_
        refine x_aloadn (x := 87) rfl rfl ?_
        refine z_getM (N := 14) (v := v10) 3 10 rfl f_3_37 rfl J rfl qv10 ?_
        refine x_icne (tgt := 72) rfl rfl (ti_ne rfl rfl ⟨fun c15 => ?_, fun c15 => ?_⟩)
        ·
          refine x_vret rfl rfl ?_
          show jX m_X3_place 10 0 0 24 [(0, .ref 87), (2, .int l2), (3, .int l3)] [] _ 0 0 _
          refine x_vret rfl rfl ?_
          exact hQ _ J Sm
        ·
          refine x_iloadn (x := l2) rfl rfl ?_
          refine x_aloadn (x := 87) rfl rfl ?_
          refine z_getI (N := 14) 3 11 rfl f_3_40 rfl J rfl sg_87_11_12_1_0_1 (fun v16 qv16 ev16 => ?_)
          refine x_icge (tgt := 72) rfl rfl (ti_ge rfl rfl ⟨fun c17 => ?_, fun c17 => ?_⟩)
          ·
            refine x_vret rfl rfl ?_
            show jX m_X3_place 10 0 0 24 [(0, .ref 87), (2, .int l2), (3, .int l3)] [] _ 0 0 _
            refine x_vret rfl rfl ?_
            exact hQ _ J Sm
          ·
            refine x_aloadn (x := 87) rfl rfl ?_
            refine x_iloadn (x := l3) rfl rfl ?_
            refine z_putI (N := 14) (w := l3.toInt) 3 10 rfl f_3_37 rfl (jfin_no TX3 RX3 14 rfl rfl) hD J Sm rfl rfl rfl (pw_87_10 (by omega)) rfl (fun h w18 J Sm => ?_)
            refine x_aloadn (x := 87) rfl rfl ?_
            refine x_iloadn (x := l2) rfl rfl ?_
            refine z_putI (N := 14) (w := l2.toInt) 3 11 rfl f_3_40 rfl (jfin_no TX3 RX3 14 rfl rfl) hD J Sm rfl rfl rfl (pw_87_11 (by omega)) rfl (fun h w19 J Sm => ?_)
            refine x_aloadn (x := 87) rfl rfl ?_
            refine z_getR (N := 14) (b := 91) 3 6 rfl f_3_25 rfl J rfl 11142 ⟨rfl, rfl⟩ rfl ?_
            refine x_iconst (v := 0) rfl ki_0 ?_
            refine x_aloadn (x := 87) rfl rfl ?_
            refine z_getR (N := 14) (b := 92) 3 7 rfl f_3_28 rfl J rfl 11143 ⟨rfl, rfl⟩ rfl ?_
            refine x_iconst (v := 0) rfl ki_0 ?_
            refine x_bipush (v := 9) rfl kb_9 ?_
            refine z_cpi (N1 := 9) (N2 := 9) rfl ⟨q_3_100, jcp_w⟩ (by decide) rfl hD J Sm rfl rfl rfl rfl jk_0 jk_0 jk_9 (by omega) (cp_92 (fun k k1 k2 k3 => by have k4 := k3.1; have k5 := k3.2.1; have k6 := k3.2.2; simp only at k4 k5 k6; exact jcp_in J sg_91_0_9_1_0_1 rfl (by omega) (by decide))) rfl (fun h w20 J Sm => ?_)
            refine x_vret rfl rfl ?_
            show jX m_X3_place 10 0 0 24 [(0, .ref 87), (2, .int l2), (3, .int l3)] [] _ 0 0 _
            refine x_vret rfl rfl ?_
            exact hQ _ J Sm
    ·
      refine x_aloadn (x := 87) rfl rfl ?_
      refine z_getR (N := 14) (b := 94) 3 9 rfl f_3_34 rfl J rfl 11145 ⟨rfl, rfl⟩ rfl ?_
      refine x_iloadn (x := l3) rfl rfl ?_
      refine x_dup2 rfl rfl rfl ?_
      refine z_iald0 (N := 14401) rfl J rfl rfl (by omega) (fun v21 qv21 => ?_)
      have ev21 := jfull v21
      refine x_iconst (v := 1) rfl ki_1 ?_
      refine z_iadd0 rfl (fun v22 => ?_)
      have ev22 := jfull v22
      refine z_iast (N := 14401) (l := 0) (u := 14401) (w := v22.toInt) rfl hD J Sm rfl rfl rfl (by omega) rfl (wr_94) rfl (fun h w23 J Sm => ?_)
      refine x_iloadn (x := l3) rfl rfl ?_
      refine x_aloadn (x := 87) rfl rfl ?_
      refine z_getI (N := 14) 3 10 rfl f_3_37 rfl J rfl sg_87_10_11_1_0_1 (fun v24 qv24 ev24 => ?_)
      refine x_icgt (tgt := 47) rfl rfl (ti_gt rfl rfl ⟨fun c25 => ?_, fun c25 => ?_⟩)
      ·
        refine x_aloadn (x := 87) rfl rfl ?_
        refine x_iloadn (x := l3) rfl rfl ?_
        refine z_putI (N := 14) (w := l3.toInt) 3 10 rfl f_3_37 rfl (jfin_no TX3 RX3 14 rfl rfl) hD J Sm rfl rfl rfl (pw_87_10 (by omega)) rfl (fun h w26 J Sm => ?_)
        refine x_aloadn (x := 87) rfl rfl ?_
        refine x_iloadn (x := l2) rfl rfl ?_
        refine z_putI (N := 14) (w := l2.toInt) 3 11 rfl f_3_40 rfl (jfin_no TX3 RX3 14 rfl rfl) hD J Sm rfl rfl rfl (pw_87_11 (by omega)) rfl (fun h w27 J Sm => ?_)
        refine x_aloadn (x := 87) rfl rfl ?_
        refine z_getR (N := 14) (b := 91) 3 6 rfl f_3_25 rfl J rfl 11142 ⟨rfl, rfl⟩ rfl ?_
        refine x_iconst (v := 0) rfl ki_0 ?_
        refine x_aloadn (x := 87) rfl rfl ?_
        refine z_getR (N := 14) (b := 92) 3 7 rfl f_3_28 rfl J rfl 11143 ⟨rfl, rfl⟩ rfl ?_
        refine x_iconst (v := 0) rfl ki_0 ?_
        refine x_bipush (v := 9) rfl kb_9 ?_
        refine z_cpi (N1 := 9) (N2 := 9) rfl ⟨q_3_100, jcp_w⟩ (by decide) rfl hD J Sm rfl rfl rfl rfl jk_0 jk_0 jk_9 (by omega) (cp_92 (fun k k1 k2 k3 => by have k4 := k3.1; have k5 := k3.2.1; have k6 := k3.2.2; simp only at k4 k5 k6; exact jcp_in J sg_91_0_9_1_0_1 rfl (by omega) (by decide))) rfl (fun h w28 J Sm => ?_)
        refine x_vret rfl rfl ?_
        show jX m_X3_place 10 0 0 24 [(0, .ref 87), (2, .int l2), (3, .int l3)] [] _ 0 0 _
        refine x_vret rfl rfl ?_
        exact hQ _ J Sm
      ·
        refine x_iloadn (x := l3) rfl rfl ?_
        refine x_aloadn (x := 87) rfl rfl ?_
        refine z_getM (N := 14) (v := v24) 3 10 rfl f_3_37 rfl J rfl qv24 ?_
        refine x_icne (tgt := 72) rfl rfl (ti_ne rfl rfl ⟨fun c29 => ?_, fun c29 => ?_⟩)
        ·
          refine x_vret rfl rfl ?_
          show jX m_X3_place 10 0 0 24 [(0, .ref 87), (2, .int l2), (3, .int l3)] [] _ 0 0 _
          refine x_vret rfl rfl ?_
          exact hQ _ J Sm
        ·
          refine x_iloadn (x := l2) rfl rfl ?_
          refine x_aloadn (x := 87) rfl rfl ?_
          refine z_getI (N := 14) 3 11 rfl f_3_40 rfl J rfl sg_87_11_12_1_0_1 (fun v30 qv30 ev30 => ?_)
          refine x_icge (tgt := 72) rfl rfl (ti_ge rfl rfl ⟨fun c31 => ?_, fun c31 => ?_⟩)
          ·
            refine x_vret rfl rfl ?_
            show jX m_X3_place 10 0 0 24 [(0, .ref 87), (2, .int l2), (3, .int l3)] [] _ 0 0 _
            refine x_vret rfl rfl ?_
            exact hQ _ J Sm
          ·
            refine x_aloadn (x := 87) rfl rfl ?_
            refine x_iloadn (x := l3) rfl rfl ?_
            refine z_putI (N := 14) (w := l3.toInt) 3 10 rfl f_3_37 rfl (jfin_no TX3 RX3 14 rfl rfl) hD J Sm rfl rfl rfl (pw_87_10 (by omega)) rfl (fun h w32 J Sm => ?_)
            refine x_aloadn (x := 87) rfl rfl ?_
            refine x_iloadn (x := l2) rfl rfl ?_
            refine z_putI (N := 14) (w := l2.toInt) 3 11 rfl f_3_40 rfl (jfin_no TX3 RX3 14 rfl rfl) hD J Sm rfl rfl rfl (pw_87_11 (by omega)) rfl (fun h w33 J Sm => ?_)
            refine x_aloadn (x := 87) rfl rfl ?_
            refine z_getR (N := 14) (b := 91) 3 6 rfl f_3_25 rfl J rfl 11142 ⟨rfl, rfl⟩ rfl ?_
            refine x_iconst (v := 0) rfl ki_0 ?_
            refine x_aloadn (x := 87) rfl rfl ?_
            refine z_getR (N := 14) (b := 92) 3 7 rfl f_3_28 rfl J rfl 11143 ⟨rfl, rfl⟩ rfl ?_
            refine x_iconst (v := 0) rfl ki_0 ?_
            refine x_bipush (v := 9) rfl kb_9 ?_
            refine z_cpi (N1 := 9) (N2 := 9) rfl ⟨q_3_100, jcp_w⟩ (by decide) rfl hD J Sm rfl rfl rfl rfl jk_0 jk_0 jk_9 (by omega) (cp_92 (fun k k1 k2 k3 => by have k4 := k3.1; have k5 := k3.2.1; have k6 := k3.2.2; simp only at k4 k5 k6; exact jcp_in J sg_91_0_9_1_0_1 rfl (by omega) (by decide))) rfl (fun h w34 J Sm => ?_)
            refine x_vret rfl rfl ?_
            show jX m_X3_place 10 0 0 24 [(0, .ref 87), (2, .int l2), (3, .int l3)] [] _ 0 0 _
            refine x_vret rfl rfl ?_
            exact hQ _ J Sm
set_option maxRecDepth 100000 in
set_option maxHeartbeats 4000000 in
theorem ct_X3_place_r87_c2_144 {Dy : jH → Prop} {h0 : jH} {Q : Option Value → jH → Prop} (hD : jDk Dy) (hQ : ∀ h', jJ jSgX Dy h' → jSm fp_X3_place_r87_c2 h0 h' → Q none h') : ∀ (h : jH), jJ jSgX Dy h → jSm fp_X3_place_r87_c2 h0 h → jX m_X3_place 10 0 0 144 [] [] h 0 0 Q := by
  intro  h    J Sm
  refine x_vret rfl rfl ?_
  exact hQ _ J Sm
set_option maxRecDepth 100000 in
set_option maxHeartbeats 4000000 in
theorem ct_X3_place_r87_c2_138 {Dy : jH → Prop} {h0 : jH} {Q : Option Value → jH → Prop} {R61 : Int} (hD : jDk Dy) (hQ : ∀ h', jJ jSgX Dy h' → jSm fp_X3_place_r87_c2 h0 h' → Q none h') (k61 : ∀ (l2 : Int32) (l3 : Int32) (l4 : Int32) (l5 : Int32) (h : jH), 3 - l5.toInt < R61 → 1 ≤ l2.toInt ∧ l2.toInt ≤ 2 → (-1) ≤ l4.toInt ∧ l4.toInt ≤ 8 → 0 ≤ l5.toInt ∧ l5.toInt ≤ 3 → jJ jSgX Dy h → jSm fp_X3_place_r87_c2 h0 h → jX m_X3_place 10 0 0 61 [(0, .ref 87), (1, .int 2), (2, .int l2), (3, .int l3), (4, .int l4), (5, .int l5)] [] h 0 0 Q) : ∀ (l2 : Int32) (l3 : Int32) (l4 : Int32) (l5 : Int32) (h : jH), 1 ≤ l2.toInt ∧ l2.toInt ≤ 2 → (-1) ≤ l4.toInt ∧ l4.toInt ≤ 8 → 0 ≤ l5.toInt ∧ l5.toInt ≤ 2 → 3 - l5.toInt ≤ R61 → jJ jSgX Dy h → jSm fp_X3_place_r87_c2 h0 h → jX m_X3_place 10 0 0 138 [(0, .ref 87), (1, .int 2), (2, .int l2), (3, .int l3), (4, .int l4), (5, .int l5)] [] h 0 0 Q := by
  intro l2 l3 l4 l5 h y0 y1 y2  m61 J Sm
  have el3 := jfull l3
  refine z_iinc (x := l5) (ls' := fun v1 => [(5, .int v1), (0, .ref 87), (1, .int 2), (2, .int l2), (3, .int l3), (4, .int l4)]) rfl rfl rfl jko_1 (by omega) rfl (fun _ => rfl) (fun v1 ev1 => ?_)
  refine x_goto (tgt := 61) rfl rfl ?_
  exact jX.sub (jsb_c rfl (jsb_c rfl (jsb_c rfl (jsb_c rfl (jsb_c rfl (jsb_c rfl jsb_n)))))) (k61 l2 l3 l4 v1 h (by omega) (jr_of rfl (by omega)) (jr_of rfl (by omega)) (jr_of rfl (by omega)) J Sm)
set_option maxRecDepth 100000 in
set_option maxHeartbeats 4000000 in
theorem ct_X3_place_r87_c2_131 {Dy : jH → Prop} {h0 : jH} {Q : Option Value → jH → Prop} {R61 : Int} (hD : jDk Dy) (hQ : ∀ h', jJ jSgX Dy h' → jSm fp_X3_place_r87_c2 h0 h' → Q none h') (k61 : ∀ (l2 : Int32) (l3 : Int32) (l4 : Int32) (l5 : Int32) (h : jH), 3 - l5.toInt < R61 → 1 ≤ l2.toInt ∧ l2.toInt ≤ 2 → (-1) ≤ l4.toInt ∧ l4.toInt ≤ 8 → 0 ≤ l5.toInt ∧ l5.toInt ≤ 3 → jJ jSgX Dy h → jSm fp_X3_place_r87_c2 h0 h → jX m_X3_place 10 0 0 61 [(0, .ref 87), (1, .int 2), (2, .int l2), (3, .int l3), (4, .int l4), (5, .int l5)] [] h 0 0 Q) : ∀ (l2 : Int32) (l3 : Int32) (l4 : Int32) (l5 : Int32) (l6 : Int32) (s0 : Int32) (h : jH), 1 ≤ l2.toInt ∧ l2.toInt ≤ 2 → (-1) ≤ l4.toInt ∧ l4.toInt ≤ 2 → 0 ≤ l5.toInt ∧ l5.toInt ≤ 2 → 0 ≤ l6.toInt ∧ l6.toInt ≤ 2147483647 → 1 ≤ s0.toInt ∧ s0.toInt ≤ 3 → 3 - l5.toInt ≤ R61 → jJ jSgX Dy h → jSm fp_X3_place_r87_c2 h0 h → jX m_X3_place 10 0 0 131 [(0, .ref 87), (1, .int 2), (2, .int l2), (3, .int l3), (4, .int l4), (5, .int l5), (6, .int l6)] [.int s0, .int 3, .ref 87] h 0 0 Q := by
  intro l2 l3 l4 l5 l6 s0 h y0 y1 y2 y3 y4  m61 J Sm
  have el3 := jfull l3
  refine x_iloadn (x := l3) rfl rfl ?_
  refine x_iload (x := l6) rfl rfl ?_
  refine z_iadd0 rfl (fun v1 => ?_)
  have ev1 := jfull v1
  refine x_inv (N := m_X3_place) (As := [.int 3, .int s0, .int v1]) (b := 87) (st := []) (d' := 9) (mc := 0) (ms := 0) (host := "") 3 rfl t_X3_place ⟨Or.inl q_3_80, i_X3_place.1, i_X3_place.2⟩ ⟨by decide, rfl⟩ (congrArg Prod.fst (J.1.1 87 (3, 14) rfl)) rfl (by decide) rfl rfl ⟨by decide, by decide⟩ (sf_X3_place_r87_c3 (jr_of rfl (by omega)) hD J  (fun h J S2 => ?_))
  have Sm := jSm_tr rfl Sm S2
  show jX m_X3_place 10 0 0 138 [(0, .ref 87), (1, .int 2), (2, .int l2), (3, .int l3), (4, .int l4), (5, .int l5), (6, .int l6)] [] _ 0 0 _
  exact jX.sub (jsb_c rfl (jsb_c rfl (jsb_c rfl (jsb_c rfl (jsb_c rfl (jsb_c rfl jsb_n)))))) (ct_X3_place_r87_c2_138 hD hQ k61 l2 l3 l4 l5 h (jr_of rfl (by omega)) (jr_of rfl (by omega)) (jr_of rfl (by omega)) (by omega) J Sm)
set_option maxRecDepth 100000 in
set_option maxHeartbeats 4000000 in
theorem ct_X3_place_r87_c2_106 {Dy : jH → Prop} {h0 : jH} {Q : Option Value → jH → Prop} {R61 : Int} (hD : jDk Dy) (hQ : ∀ h', jJ jSgX Dy h' → jSm fp_X3_place_r87_c2 h0 h' → Q none h') (k61 : ∀ (l2 : Int32) (l3 : Int32) (l4 : Int32) (l5 : Int32) (h : jH), 3 - l5.toInt < R61 → 1 ≤ l2.toInt ∧ l2.toInt ≤ 2 → (-1) ≤ l4.toInt ∧ l4.toInt ≤ 8 → 0 ≤ l5.toInt ∧ l5.toInt ≤ 3 → jJ jSgX Dy h → jSm fp_X3_place_r87_c2 h0 h → jX m_X3_place 10 0 0 61 [(0, .ref 87), (1, .int 2), (2, .int l2), (3, .int l3), (4, .int l4), (5, .int l5)] [] h 0 0 Q) : ∀ (l2 : Int32) (l3 : Int32) (l4 : Int32) (l5 : Int32) (l6 : Int32) (h : jH), 1 ≤ l2.toInt ∧ l2.toInt ≤ 2 → (-1) ≤ l4.toInt ∧ l4.toInt ≤ 2 → 0 ≤ l5.toInt ∧ l5.toInt ≤ 2 → 0 ≤ l6.toInt ∧ l6.toInt ≤ 2147483647 → 3 - l5.toInt ≤ R61 → jJ jSgX Dy h → jSm fp_X3_place_r87_c2 h0 h → jX m_X3_place 10 0 0 106 [(0, .ref 87), (1, .int 2), (2, .int l2), (3, .int l3), (4, .int l4), (5, .int l5), (6, .int l6)] [] h 0 0 Q := by
  intro l2 l3 l4 l5 l6 h y0 y1 y2 y3  m61 J Sm
  have el3 := jfull l3
  refine x_aloadn (x := 87) rfl rfl ?_
  refine z_getR (N := 14) (b := 91) 3 6 rfl f_3_25 rfl J rfl 11142 ⟨rfl, rfl⟩ rfl ?_
  refine x_iloadn (x := 2) rfl rfl ?_
  refine x_iload (x := l5) rfl rfl ?_
  refine z_iast (N := 9) (l := 0) (u := 9) (w := l5.toInt) rfl hD J Sm rfl rfl jk_2 (by omega) rfl (wr_91 (fun q1 q2 q3 q4 => by omega)) rfl (fun h w1 J Sm => ?_)
  refine x_aloadn (x := 87) rfl rfl ?_
  refine x_iloadn (x := 2) rfl rfl ?_
  refine x_iconst (v := 1) rfl ki_1 ?_
  refine y_iadd (v := 3) rfl (by decide) ?_
  refine x_iload (x := l5) rfl rfl ?_
  refine x_iloadn (x := l2) rfl rfl ?_
  refine x_icne (tgt := 130) rfl rfl (ti_ne rfl rfl ⟨fun c2 => ?_, fun c2 => ?_⟩)
  ·
    refine x_iloadn (x := l2) rfl rfl ?_
    exact jX.sub (jsb_c rfl (jsb_c rfl (jsb_c rfl (jsb_c rfl (jsb_c rfl (jsb_c rfl (jsb_c rfl jsb_n))))))) (ct_X3_place_r87_c2_131 hD hQ k61 l2 l3 l4 l5 l6 l2 h (jr_of rfl (by omega)) (jr_of rfl (by omega)) (jr_of rfl (by omega)) (jr_of rfl (by omega)) (jr_of rfl (by omega)) (by omega) J Sm)
  ·
    refine x_iloadn (x := l2) rfl rfl ?_
    refine x_iconst (v := 1) rfl ki_1 ?_
    refine z_iadd rfl rfl jk_1 (by omega) (fun v3 ev3 => ?_)
    refine x_goto (tgt := 131) rfl rfl ?_
    exact jX.sub (jsb_c rfl (jsb_c rfl (jsb_c rfl (jsb_c rfl (jsb_c rfl (jsb_c rfl (jsb_c rfl jsb_n))))))) (ct_X3_place_r87_c2_131 hD hQ k61 l2 l3 l4 l5 l6 v3 h (jr_of rfl (by omega)) (jr_of rfl (by omega)) (jr_of rfl (by omega)) (jr_of rfl (by omega)) (jr_of rfl (by omega)) (by omega) J Sm)
set_option maxRecDepth 100000 in
set_option maxHeartbeats 4000000 in
theorem ct_X3_place_r87_c2_61 {Dy : jH → Prop} {h0 : jH} {Q : Option Value → jH → Prop} (hD : jDk Dy) (hQ : ∀ h', jJ jSgX Dy h' → jSm fp_X3_place_r87_c2 h0 h' → Q none h') : ∀ r : Nat, ∀ (l2 : Int32) (l3 : Int32) (l4 : Int32) (l5 : Int32) (h : jH), 3 - l5.toInt < (r : Int) → 1 ≤ l2.toInt ∧ l2.toInt ≤ 2 → (-1) ≤ l4.toInt ∧ l4.toInt ≤ 8 → 0 ≤ l5.toInt ∧ l5.toInt ≤ 3 → jJ jSgX Dy h → jSm fp_X3_place_r87_c2 h0 h → jX m_X3_place 10 0 0 61 [(0, .ref 87), (1, .int 2), (2, .int l2), (3, .int l3), (4, .int l4), (5, .int l5)] [] h 0 0 Q := by
  intro r
  induction r with
  | zero =>
    intro l2 l3 l4 l5 h hm y0 y1 y2   J Sm
    exfalso
    omega
  | succ r ih =>
    intro l2 l3 l4 l5 h hm y0 y1 y2   J Sm
    have el3 := jfull l3
    refine x_iload (x := l5) rfl rfl ?_
    refine x_iloadn (x := l2) rfl rfl ?_
    refine x_icgt (tgt := 144) rfl rfl (ti_gt rfl rfl ⟨fun c1 => ?_, fun c1 => ?_⟩)
    ·
      exact jX.sub jsb_n (ct_X3_place_r87_c2_144 hD hQ  h J Sm)
    ·
      refine x_iload (x := l5) rfl rfl ?_
      refine x_bipush (v := 10) rfl kb_10 ?_
      refine x_icge (tgt := 144) rfl rfl (ti_ge rfl jk_10 (br_f (by omega) ?_))
      refine x_aloadn (x := 87) rfl rfl ?_
      refine z_getR (N := 14) (b := 93) 3 8 rfl f_3_31 rfl J rfl 11144 ⟨rfl, rfl⟩ rfl ?_
      refine x_iloadn (x := 2) rfl rfl ?_
      refine x_bipush (v := 10) rfl kb_10 ?_
      refine y_imul (v := 20) rfl (by decide) ?_
      refine x_iload (x := l5) rfl rfl ?_
      refine z_iadd rfl jk_20 rfl (by omega) (fun v2 ev2 => ?_)
      refine z_iald0 (N := 90) rfl J rfl rfl (by omega) (fun v3 qv3 => ?_)
      have ev3 := jfull v3
      refine x_istore (ls' := [(6, .int v3), (0, .ref 87), (1, .int 2), (2, .int l2), (3, .int l3), (4, .int l4), (5, .int l5)]) rfl rfl rfl ?_
      refine x_iload (x := v3) rfl rfl ?_
      refine x_iflt (tgt := 138) rfl rfl (ti_lt rfl jk_0 ⟨fun c4 => ?_, fun c4 => ?_⟩)
      ·
        exact jX.sub (jsb_c rfl (jsb_c rfl (jsb_c rfl (jsb_c rfl (jsb_c rfl (jsb_c rfl jsb_n)))))) (ct_X3_place_r87_c2_138 hD hQ ih l2 l3 l4 l5 h (jr_of rfl (by omega)) (jr_of rfl (by omega)) (jr_of rfl (by omega)) (by omega) J Sm)
      ·
        refine x_iload (x := l4) rfl rfl ?_
        refine x_iconst (v := (-1)) rfl ki_m1 ?_
        refine x_iceq (tgt := 106) rfl rfl (ti_eq rfl jk_m1 ⟨fun c5 => ?_, fun c5 => ?_⟩)
        ·
          exact jX.sub (jsb_c rfl (jsb_c rfl (jsb_c rfl (jsb_c rfl (jsb_c rfl (jsb_c rfl (jsb_c rfl jsb_n))))))) (ct_X3_place_r87_c2_106 hD hQ ih l2 l3 l4 l5 v3 h (jr_of rfl (by omega)) (jr_of rfl (by omega)) (jr_of rfl (by omega)) (jr_of rfl (by omega)) (by omega) J Sm)
        ·
          refine x_iload (x := l4) rfl rfl ?_
          refine x_iload (x := l5) rfl rfl ?_
          refine x_icne (tgt := 138) rfl rfl (ti_ne rfl rfl ⟨fun c6 => ?_, fun c6 => ?_⟩)
          ·
            exact jX.sub (jsb_c rfl (jsb_c rfl (jsb_c rfl (jsb_c rfl (jsb_c rfl (jsb_c rfl jsb_n)))))) (ct_X3_place_r87_c2_138 hD hQ ih l2 l3 l4 l5 h (jr_of rfl (by omega)) (jr_of rfl (by omega)) (jr_of rfl (by omega)) (by omega) J Sm)
          ·
            exact jX.sub (jsb_c rfl (jsb_c rfl (jsb_c rfl (jsb_c rfl (jsb_c rfl (jsb_c rfl (jsb_c rfl jsb_n))))))) (ct_X3_place_r87_c2_106 hD hQ ih l2 l3 l4 l5 v3 h (jr_of rfl (by omega)) (jr_of rfl (by omega)) (jr_of rfl (by omega)) (jr_of rfl (by omega)) (by omega) J Sm)
set_option maxRecDepth 100000 in
set_option maxHeartbeats 4000000 in
theorem ct_X3_place_r87_c2_56 {Dy : jH → Prop} {h0 : jH} {Q : Option Value → jH → Prop} (hD : jDk Dy) (hQ : ∀ h', jJ jSgX Dy h' → jSm fp_X3_place_r87_c2 h0 h' → Q none h') : ∀ (l2 : Int32) (l3 : Int32) (s0 : Int32) (h : jH), 1 ≤ l2.toInt ∧ l2.toInt ≤ 2 → 0 ≤ s0.toInt ∧ s0.toInt ≤ 8 → jJ jSgX Dy h → jSm fp_X3_place_r87_c2 h0 h → jX m_X3_place 10 0 0 56 [(0, .ref 87), (1, .int 2), (2, .int l2), (3, .int l3)] [.int s0] h 0 0 Q := by
  intro l2 l3 s0 h y0 y1   J Sm
  have el3 := jfull l3
  refine x_istore (ls' := [(4, .int s0), (0, .ref 87), (1, .int 2), (2, .int l2), (3, .int l3)]) rfl rfl rfl ?_
  refine x_iconst (v := 0) rfl ki_0 ?_
  refine x_istore (ls' := [(5, .int 0), (4, .int s0), (0, .ref 87), (1, .int 2), (2, .int l2), (3, .int l3)]) rfl rfl rfl ?_
  exact jX.sub (jsb_c rfl (jsb_c rfl (jsb_c rfl (jsb_c rfl (jsb_c rfl (jsb_c rfl jsb_n)))))) (ct_X3_place_r87_c2_61 hD hQ  4 l2 l3 s0 0 h (by have := jk_0; omega) (jr_of rfl (by omega)) (jr_of rfl (by omega)) (jr_of jk_0 (by omega)) J Sm)
set_option maxRecDepth 100000 in
set_option maxHeartbeats 4000000 in
theorem ct_X3_place_r87_c2_100056 {Dy : jH → Prop} {h0 : jH} {Q : Option Value → jH → Prop} (hD : jDk Dy) (hQ : ∀ h', jJ jSgX Dy h' → jSm fp_X3_place_r87_c2 h0 h' → Q none h') : ∀ (l2 : Int32) (l3 : Int32) (h : jH), 1 ≤ l2.toInt ∧ l2.toInt ≤ 2 → jJ jSgX Dy h → jSm fp_X3_place_r87_c2 h0 h → jX m_X3_place 10 0 0 56 [(0, .ref 87), (1, .int 2), (2, .int l2), (3, .int l3)] [.int (-1)] h 0 0 Q := by
  intro l2 l3 h y0   J Sm
  have el3 := jfull l3
  refine x_istore (ls' := [(4, .int (-1)), (0, .ref 87), (1, .int 2), (2, .int l2), (3, .int l3)]) rfl rfl rfl ?_
  refine x_iconst (v := 0) rfl ki_0 ?_
  refine x_istore (ls' := [(5, .int 0), (4, .int (-1)), (0, .ref 87), (1, .int 2), (2, .int l2), (3, .int l3)]) rfl rfl rfl ?_
  exact jX.sub (jsb_c rfl (jsb_c rfl (jsb_c rfl (jsb_c rfl (jsb_c rfl (jsb_c rfl jsb_n)))))) (ct_X3_place_r87_c2_61 hD hQ  4 l2 l3 (-1) 0 h (by have := jk_0; omega) (jr_of rfl (by omega)) (jr_of jk_m1 (by omega)) (jr_of jk_0 (by omega)) J Sm)
set_option maxRecDepth 100000 in
set_option maxHeartbeats 4000000 in
theorem sf_X3_place_r87_c2 {Dy : jH → Prop} {h : jH} {Q : Option Value → jH → Prop} {a2 : Int32} {a3 : Int32} (y2 : 1 ≤ a2.toInt ∧ a2.toInt ≤ 2) (hD : jDk Dy) (J : jJ jSgX Dy h) (hQ : ∀ h', jJ jSgX Dy h' → jSm fp_X3_place_r87_c2 h h' → Q none h') : jC m_X3_place 10 0 0 [.ref 87, .int 2, .int a2, .int a3] h Q := by
  refine jC.of rfl k_X3_place rfl ?_
  have Sm := jSm_rf fp_X3_place_r87_c2 h
  have ea3 := jfull a3
  show jX m_X3_place 10 0 0 0 [(0, .ref 87), (1, .int 2), (2, .int a2), (3, .int a3)] [] _ 0 0 _
  refine x_iloadn (x := 2) rfl rfl ?_
  refine x_iflt (tgt := 18) rfl rfl (ti_lt jk_2 jk_0 (br_f (by omega) ?_))
  refine x_iloadn (x := 2) rfl rfl ?_
  refine x_aloadn (x := 87) rfl rfl ?_
  refine z_getI (N := 14) 3 3 rfl f_3_15 rfl J rfl sg_87_3_4_1_0_1 (fun v1 qv1 ev1 => ?_)
  refine x_icge (tgt := 18) rfl rfl (ti_ge jk_2 rfl ⟨fun c2 => ?_, fun c2 => ?_⟩)
  ·
    exact jX.sub (jsb_c rfl (jsb_c rfl (jsb_c rfl jsb_n))) (ct_X3_place_r87_c2_18 hD hQ  a2 a3 h (jr_of rfl (by omega)) J Sm)
  ·
    refine x_iloadn (x := 2) rfl rfl ?_
    refine x_bipush (v := 9) rfl kb_9 ?_
    refine x_iclt (tgt := 25) rfl rfl (ti_lt jk_2 jk_9 (br_t (by omega) ?_))
    refine x_aloadn (x := 87) rfl rfl ?_
    refine x_iloadn (x := 2) rfl rfl ?_
    refine x_iloadn (x := a2) rfl rfl ?_
    refine x_inv (N := m_X3_readGains) (As := [.int 2, .int a2]) (b := 87) (st := []) (d' := 1) (mc := 0) (ms := 0) (host := "") 3 rfl t_X3_readGains ⟨Or.inl q_3_97, i_X3_readGains.1, i_X3_readGains.2⟩ ⟨by decide, rfl⟩ (congrArg Prod.fst (J.1.1 87 (3, 14) rfl)) rfl (by decide) rfl rfl ⟨by decide, by decide⟩ (sf_X3_readGains_r87 (jr_of jk_2 (by omega)) (jr_of rfl (by omega)) hD J  (fun h J S3 => ?_))
    have Sm := jSm_tr rfl Sm S3
    show jX m_X3_place 10 0 0 31 [(0, .ref 87), (1, .int 2), (2, .int a2), (3, .int a3)] [] _ 0 0 _
    refine x_aloadn (x := 87) rfl rfl ?_
    refine z_getR (N := 14) (b := 90) 3 5 rfl f_3_22 rfl J rfl 11141 ⟨rfl, rfl⟩ rfl ?_
    refine x_iloadn (x := 2) rfl rfl ?_
    refine z_iald (N := 9) rfl J rfl sg_90_0_9_1_0_1 jk_2 (by omega) (fun v4 qv4 ev4 => ?_)
    refine x_iconst (v := (-1)) rfl ki_m1 ?_
    refine x_icne (tgt := 45) rfl rfl (ti_ne rfl jk_m1 ⟨fun c5 => ?_, fun c5 => ?_⟩)
    ·
      refine x_aloadn (x := 87) rfl rfl ?_
      refine z_getR (N := 14) (b := 91) 3 6 rfl f_3_25 rfl J rfl 11142 ⟨rfl, rfl⟩ rfl ?_
      refine x_aloadn (x := 87) rfl rfl ?_
      refine z_getR (N := 14) (b := 90) 3 5 rfl f_3_22 rfl J rfl 11141 ⟨rfl, rfl⟩ rfl ?_
      refine x_iloadn (x := 2) rfl rfl ?_
      refine z_ialdM (N := 9) (v := v4) rfl J rfl jk_2 (by omega) qv4 ?_
      refine z_iald (N := 9) rfl J rfl sg_91_0_9_1_0_1 rfl (by omega) (fun v6 qv6 ev6 => ?_)
      exact jX.sub (jsb_c rfl (jsb_c rfl (jsb_c rfl (jsb_c rfl jsb_n)))) (ct_X3_place_r87_c2_56 hD hQ  a2 a3 v6 h (jr_of rfl (by omega)) (jr_of rfl (by omega)) J Sm)
    ·
      refine x_iconst (v := (-1)) rfl ki_m1 ?_
      refine x_goto (tgt := 56) rfl rfl ?_
      exact jX.sub (jsb_c rfl (jsb_c rfl (jsb_c rfl (jsb_c rfl jsb_n)))) (ct_X3_place_r87_c2_100056 hD hQ  a2 a3 h (jr_of rfl (by omega)) J Sm)
def fp_X3_place_r87_c1 : jFp := [(87, 10, 11), (87, 11, 12), (91, 0, 9), (92, 0, 9), (93, 0, 90), (94, 0, 14401)]
set_option maxRecDepth 100000 in
set_option maxHeartbeats 4000000 in
theorem ct_X3_place_r87_c1_18 {Dy : jH → Prop} {h0 : jH} {Q : Option Value → jH → Prop} (hD : jDk Dy) (hQ : ∀ h', jJ jSgX Dy h' → jSm fp_X3_place_r87_c1 h0 h' → Q none h') : ∀ (l2 : Int32) (l3 : Int32) (h : jH), 1 ≤ l2.toInt ∧ l2.toInt ≤ 1 → 0 ≤ l3.toInt ∧ l3.toInt ≤ 2147483647 → jJ jSgX Dy h → jSm fp_X3_place_r87_c1 h0 h → jX m_X3_place 11 0 0 18 [(0, .ref 87), (2, .int l2), (3, .int l3)] [] h 0 0 Q := by
  intro l2 l3 h y0 y1   J Sm
  refine x_aloadn (x := 87) rfl rfl ?_
  refine x_iloadn (x := l2) rfl rfl ?_
  refine x_iloadn (x := l3) rfl rfl ?_
  refine x_inv (N := m_X3_note) (As := [.int l2, .int l3]) (b := 87) (st := []) (d' := 10) (mc := 0) (ms := 0) (host := "") 3 rfl t_X3_note ⟨Or.inl q_3_93, i_X3_note.1, i_X3_note.2⟩ ⟨by decide, rfl⟩ (congrArg Prod.fst (J.1.1 87 (3, 14) rfl)) rfl (by decide) rfl rfl ⟨by decide, by decide⟩ (jC.of rfl k_X3_note rfl ?_)
  show jX m_X3_note 10 0 0 0 [(0, .ref 87), (1, .int l2), (2, .int l3)] [] _ 0 0 _
  refine x_iloadn (x := l3) rfl rfl ?_
  refine x_iflt (tgt := 23) rfl rfl (ti_lt rfl jk_0 (br_f (by omega) ?_))
  refine x_iloadn (x := l3) rfl rfl ?_
  refine x_aloadn (x := 87) rfl rfl ?_
  refine z_getR (N := 14) (b := 94) 3 9 rfl f_3_34 rfl J rfl 11145 ⟨rfl, rfl⟩ rfl ?_
  refine z_alen (N := 14401) (v := 14401) rfl J rfl rfl (by decide) ?_
  refine x_icge (tgt := 23) rfl rfl (ti_ge rfl jk_14401 ⟨fun c1 => ?_, fun c1 => ?_⟩)
  ·
    refine x_iloadn (x := l3) rfl rfl ?_
    refine x_aloadn (x := 87) rfl rfl ?_
    refine z_getI (N := 14) 3 10 rfl f_3_37 rfl J rfl sg_87_10_11_1_0_1 (fun v2 qv2 ev2 => ?_)
    refine x_icgt (tgt := 47) rfl rfl (ti_gt rfl rfl ⟨fun c3 => ?_, fun c3 => ?_⟩)
    ·
      refine x_aloadn (x := 87) rfl rfl ?_
      refine x_iloadn (x := l3) rfl rfl ?_
      refine z_putI (N := 14) (w := l3.toInt) 3 10 rfl f_3_37 rfl (jfin_no TX3 RX3 14 rfl rfl) hD J Sm rfl rfl rfl (pw_87_10 (by omega)) rfl (fun h w4 J Sm => ?_)
      refine x_aloadn (x := 87) rfl rfl ?_
      refine x_iloadn (x := l2) rfl rfl ?_
      refine z_putI (N := 14) (w := l2.toInt) 3 11 rfl f_3_40 rfl (jfin_no TX3 RX3 14 rfl rfl) hD J Sm rfl rfl rfl (pw_87_11 (by omega)) rfl (fun h w5 J Sm => ?_)
      refine x_aloadn (x := 87) rfl rfl ?_
      refine z_getR (N := 14) (b := 91) 3 6 rfl f_3_25 rfl J rfl 11142 ⟨rfl, rfl⟩ rfl ?_
      refine x_iconst (v := 0) rfl ki_0 ?_
      refine x_aloadn (x := 87) rfl rfl ?_
      refine z_getR (N := 14) (b := 92) 3 7 rfl f_3_28 rfl J rfl 11143 ⟨rfl, rfl⟩ rfl ?_
      refine x_iconst (v := 0) rfl ki_0 ?_
      refine x_bipush (v := 9) rfl kb_9 ?_
      refine z_cpi (N1 := 9) (N2 := 9) rfl ⟨q_3_100, jcp_w⟩ (by decide) rfl hD J Sm rfl rfl rfl rfl jk_0 jk_0 jk_9 (by omega) (cp_92 (fun k k1 k2 k3 => by have k4 := k3.1; have k5 := k3.2.1; have k6 := k3.2.2; simp only at k4 k5 k6; exact jcp_in J sg_91_0_9_1_0_1 rfl (by omega) (by decide))) rfl (fun h w6 J Sm => ?_)
      refine x_vret rfl rfl ?_
      show jX m_X3_place 11 0 0 24 [(0, .ref 87), (2, .int l2), (3, .int l3)] [] _ 0 0 _
      refine x_vret rfl rfl ?_
      exact hQ _ J Sm
    ·
      refine x_iloadn (x := l3) rfl rfl ?_
      refine x_aloadn (x := 87) rfl rfl ?_
      refine z_getM (N := 14) (v := v2) 3 10 rfl f_3_37 rfl J rfl qv2 ?_
      refine x_icne (tgt := 72) rfl rfl (ti_ne rfl rfl ⟨fun c7 => ?_, fun c7 => ?_⟩)
      ·
        refine x_vret rfl rfl ?_
        show jX m_X3_place 11 0 0 24 [(0, .ref 87), (2, .int l2), (3, .int l3)] [] _ 0 0 _
        refine x_vret rfl rfl ?_
        exact hQ _ J Sm
      ·
        refine x_iloadn (x := l2) rfl rfl ?_
        refine x_aloadn (x := 87) rfl rfl ?_
        refine z_getI (N := 14) 3 11 rfl f_3_40 rfl J rfl sg_87_11_12_1_0_1 (fun v8 qv8 ev8 => ?_)
        refine x_icge (tgt := 72) rfl rfl (ti_ge rfl rfl ⟨fun c9 => ?_, fun c9 => ?_⟩)
        ·
          refine x_vret rfl rfl ?_
          show jX m_X3_place 11 0 0 24 [(0, .ref 87), (2, .int l2), (3, .int l3)] [] _ 0 0 _
          refine x_vret rfl rfl ?_
          exact hQ _ J Sm
        ·
          refine x_aloadn (x := 87) rfl rfl ?_
          refine x_iloadn (x := l3) rfl rfl ?_
          refine z_putI (N := 14) (w := l3.toInt) 3 10 rfl f_3_37 rfl (jfin_no TX3 RX3 14 rfl rfl) hD J Sm rfl rfl rfl (pw_87_10 (by omega)) rfl (fun h w10 J Sm => ?_)
          refine x_aloadn (x := 87) rfl rfl ?_
          refine x_iloadn (x := l2) rfl rfl ?_
          refine z_putI (N := 14) (w := l2.toInt) 3 11 rfl f_3_40 rfl (jfin_no TX3 RX3 14 rfl rfl) hD J Sm rfl rfl rfl (pw_87_11 (by omega)) rfl (fun h w11 J Sm => ?_)
          refine x_aloadn (x := 87) rfl rfl ?_
          refine z_getR (N := 14) (b := 91) 3 6 rfl f_3_25 rfl J rfl 11142 ⟨rfl, rfl⟩ rfl ?_
          refine x_iconst (v := 0) rfl ki_0 ?_
          refine x_aloadn (x := 87) rfl rfl ?_
          refine z_getR (N := 14) (b := 92) 3 7 rfl f_3_28 rfl J rfl 11143 ⟨rfl, rfl⟩ rfl ?_
          refine x_iconst (v := 0) rfl ki_0 ?_
          refine x_bipush (v := 9) rfl kb_9 ?_
          refine z_cpi (N1 := 9) (N2 := 9) rfl ⟨q_3_100, jcp_w⟩ (by decide) rfl hD J Sm rfl rfl rfl rfl jk_0 jk_0 jk_9 (by omega) (cp_92 (fun k k1 k2 k3 => by have k4 := k3.1; have k5 := k3.2.1; have k6 := k3.2.2; simp only at k4 k5 k6; exact jcp_in J sg_91_0_9_1_0_1 rfl (by omega) (by decide))) rfl (fun h w12 J Sm => ?_)
          refine x_vret rfl rfl ?_
          show jX m_X3_place 11 0 0 24 [(0, .ref 87), (2, .int l2), (3, .int l3)] [] _ 0 0 _
          refine x_vret rfl rfl ?_
          exact hQ _ J Sm
  ·
    refine x_aloadn (x := 87) rfl rfl ?_
    refine z_getR (N := 14) (b := 94) 3 9 rfl f_3_34 rfl J rfl 11145 ⟨rfl, rfl⟩ rfl ?_
    refine x_iloadn (x := l3) rfl rfl ?_
    refine x_dup2 rfl rfl rfl ?_
    refine z_iald0 (N := 14401) rfl J rfl rfl (by omega) (fun v13 qv13 => ?_)
    have ev13 := jfull v13
    refine x_iconst (v := 1) rfl ki_1 ?_
    refine z_iadd0 rfl (fun v14 => ?_)
    have ev14 := jfull v14
    refine z_iast (N := 14401) (l := 0) (u := 14401) (w := v14.toInt) rfl hD J Sm rfl rfl rfl (by omega) rfl (wr_94) rfl (fun h w15 J Sm => ?_)
    refine x_iloadn (x := l3) rfl rfl ?_
    refine x_aloadn (x := 87) rfl rfl ?_
    refine z_getI (N := 14) 3 10 rfl f_3_37 rfl J rfl sg_87_10_11_1_0_1 (fun v16 qv16 ev16 => ?_)
    refine x_icgt (tgt := 47) rfl rfl (ti_gt rfl rfl ⟨fun c17 => ?_, fun c17 => ?_⟩)
    ·
      refine x_aloadn (x := 87) rfl rfl ?_
      refine x_iloadn (x := l3) rfl rfl ?_
      refine z_putI (N := 14) (w := l3.toInt) 3 10 rfl f_3_37 rfl (jfin_no TX3 RX3 14 rfl rfl) hD J Sm rfl rfl rfl (pw_87_10 (by omega)) rfl (fun h w18 J Sm => ?_)
      refine x_aloadn (x := 87) rfl rfl ?_
      refine x_iloadn (x := l2) rfl rfl ?_
      refine z_putI (N := 14) (w := l2.toInt) 3 11 rfl f_3_40 rfl (jfin_no TX3 RX3 14 rfl rfl) hD J Sm rfl rfl rfl (pw_87_11 (by omega)) rfl (fun h w19 J Sm => ?_)
      refine x_aloadn (x := 87) rfl rfl ?_
      refine z_getR (N := 14) (b := 91) 3 6 rfl f_3_25 rfl J rfl 11142 ⟨rfl, rfl⟩ rfl ?_
      refine x_iconst (v := 0) rfl ki_0 ?_
      refine x_aloadn (x := 87) rfl rfl ?_
      refine z_getR (N := 14) (b := 92) 3 7 rfl f_3_28 rfl J rfl 11143 ⟨rfl, rfl⟩ rfl ?_
      refine x_iconst (v := 0) rfl ki_0 ?_
      refine x_bipush (v := 9) rfl kb_9 ?_
      refine z_cpi (N1 := 9) (N2 := 9) rfl ⟨q_3_100, jcp_w⟩ (by decide) rfl hD J Sm rfl rfl rfl rfl jk_0 jk_0 jk_9 (by omega) (cp_92 (fun k k1 k2 k3 => by have k4 := k3.1; have k5 := k3.2.1; have k6 := k3.2.2; simp only at k4 k5 k6; exact jcp_in J sg_91_0_9_1_0_1 rfl (by omega) (by decide))) rfl (fun h w20 J Sm => ?_)
      refine x_vret rfl rfl ?_
      show jX m_X3_place 11 0 0 24 [(0, .ref 87), (2, .int l2), (3, .int l3)] [] _ 0 0 _
      refine x_vret rfl rfl ?_
      exact hQ _ J Sm
    ·
      refine x_iloadn (x := l3) rfl rfl ?_
      refine x_aloadn (x := 87) rfl rfl ?_
      refine z_getM (N := 14) (v := v16) 3 10 rfl f_3_37 rfl J rfl qv16 ?_
      refine x_icne (tgt := 72) rfl rfl (ti_ne rfl rfl ⟨fun c21 => ?_, fun c21 => ?_⟩)
      ·
        refine x_vret rfl rfl ?_
        show jX m_X3_place 11 0 0 24 [(0, .ref 87), (2, .int l2), (3, .int l3)] [] _ 0 0 _
        refine x_vret rfl rfl ?_
        exact hQ _ J Sm
      ·
        refine x_iloadn (x := l2) rfl rfl ?_
        refine x_aloadn (x := 87) rfl rfl ?_
        refine z_getI (N := 14) 3 11 rfl f_3_40 rfl J rfl sg_87_11_12_1_0_1 (fun v22 qv22 ev22 => ?_)
        refine x_icge (tgt := 72) rfl rfl (ti_ge rfl rfl ⟨fun c23 => ?_, fun c23 => ?_⟩)
        ·
          refine x_vret rfl rfl ?_
          show jX m_X3_place 11 0 0 24 [(0, .ref 87), (2, .int l2), (3, .int l3)] [] _ 0 0 _
          refine x_vret rfl rfl ?_
          exact hQ _ J Sm
        ·
          refine x_aloadn (x := 87) rfl rfl ?_
          refine x_iloadn (x := l3) rfl rfl ?_
          refine z_putI (N := 14) (w := l3.toInt) 3 10 rfl f_3_37 rfl (jfin_no TX3 RX3 14 rfl rfl) hD J Sm rfl rfl rfl (pw_87_10 (by omega)) rfl (fun h w24 J Sm => ?_)
          refine x_aloadn (x := 87) rfl rfl ?_
          refine x_iloadn (x := l2) rfl rfl ?_
          refine z_putI (N := 14) (w := l2.toInt) 3 11 rfl f_3_40 rfl (jfin_no TX3 RX3 14 rfl rfl) hD J Sm rfl rfl rfl (pw_87_11 (by omega)) rfl (fun h w25 J Sm => ?_)
          refine x_aloadn (x := 87) rfl rfl ?_
          refine z_getR (N := 14) (b := 91) 3 6 rfl f_3_25 rfl J rfl 11142 ⟨rfl, rfl⟩ rfl ?_
          refine x_iconst (v := 0) rfl ki_0 ?_
          refine x_aloadn (x := 87) rfl rfl ?_
          refine z_getR (N := 14) (b := 92) 3 7 rfl f_3_28 rfl J rfl 11143 ⟨rfl, rfl⟩ rfl ?_
          refine x_iconst (v := 0) rfl ki_0 ?_
          refine x_bipush (v := 9) rfl kb_9 ?_
          refine z_cpi (N1 := 9) (N2 := 9) rfl ⟨q_3_100, jcp_w⟩ (by decide) rfl hD J Sm rfl rfl rfl rfl jk_0 jk_0 jk_9 (by omega) (cp_92 (fun k k1 k2 k3 => by have k4 := k3.1; have k5 := k3.2.1; have k6 := k3.2.2; simp only at k4 k5 k6; exact jcp_in J sg_91_0_9_1_0_1 rfl (by omega) (by decide))) rfl (fun h w26 J Sm => ?_)
          refine x_vret rfl rfl ?_
          show jX m_X3_place 11 0 0 24 [(0, .ref 87), (2, .int l2), (3, .int l3)] [] _ 0 0 _
          refine x_vret rfl rfl ?_
          exact hQ _ J Sm
set_option maxRecDepth 100000 in
set_option maxHeartbeats 4000000 in
theorem ct_X3_place_r87_c1_144 {Dy : jH → Prop} {h0 : jH} {Q : Option Value → jH → Prop} (hD : jDk Dy) (hQ : ∀ h', jJ jSgX Dy h' → jSm fp_X3_place_r87_c1 h0 h' → Q none h') : ∀ (h : jH), jJ jSgX Dy h → jSm fp_X3_place_r87_c1 h0 h → jX m_X3_place 11 0 0 144 [] [] h 0 0 Q := by
  intro  h    J Sm
  refine x_vret rfl rfl ?_
  exact hQ _ J Sm
set_option maxRecDepth 100000 in
set_option maxHeartbeats 4000000 in
theorem ct_X3_place_r87_c1_138 {Dy : jH → Prop} {h0 : jH} {Q : Option Value → jH → Prop} {R61 : Int} (hD : jDk Dy) (hQ : ∀ h', jJ jSgX Dy h' → jSm fp_X3_place_r87_c1 h0 h' → Q none h') (k61 : ∀ (l2 : Int32) (l3 : Int32) (l4 : Int32) (l5 : Int32) (h : jH), 2 - l5.toInt < R61 → 1 ≤ l2.toInt ∧ l2.toInt ≤ 1 → 0 ≤ l3.toInt ∧ l3.toInt ≤ 2147483647 → (-1) ≤ l4.toInt ∧ l4.toInt ≤ 8 → 0 ≤ l5.toInt ∧ l5.toInt ≤ 2 → jJ jSgX Dy h → jSm fp_X3_place_r87_c1 h0 h → jX m_X3_place 11 0 0 61 [(0, .ref 87), (1, .int 1), (2, .int l2), (3, .int l3), (4, .int l4), (5, .int l5)] [] h 0 0 Q) : ∀ (l2 : Int32) (l3 : Int32) (l4 : Int32) (l5 : Int32) (h : jH), 1 ≤ l2.toInt ∧ l2.toInt ≤ 1 → 0 ≤ l3.toInt ∧ l3.toInt ≤ 2147483647 → (-1) ≤ l4.toInt ∧ l4.toInt ≤ 8 → 0 ≤ l5.toInt ∧ l5.toInt ≤ 1 → 2 - l5.toInt ≤ R61 → jJ jSgX Dy h → jSm fp_X3_place_r87_c1 h0 h → jX m_X3_place 11 0 0 138 [(0, .ref 87), (1, .int 1), (2, .int l2), (3, .int l3), (4, .int l4), (5, .int l5)] [] h 0 0 Q := by
  intro l2 l3 l4 l5 h y0 y1 y2 y3  m61 J Sm
  refine z_iinc (x := l5) (ls' := fun v1 => [(5, .int v1), (0, .ref 87), (1, .int 1), (2, .int l2), (3, .int l3), (4, .int l4)]) rfl rfl rfl jko_1 (by omega) rfl (fun _ => rfl) (fun v1 ev1 => ?_)
  refine x_goto (tgt := 61) rfl rfl ?_
  exact jX.sub (jsb_c rfl (jsb_c rfl (jsb_c rfl (jsb_c rfl (jsb_c rfl (jsb_c rfl jsb_n)))))) (k61 l2 l3 l4 v1 h (by omega) (jr_of rfl (by omega)) (jr_of rfl (by omega)) (jr_of rfl (by omega)) (jr_of rfl (by omega)) J Sm)
set_option maxRecDepth 100000 in
set_option maxHeartbeats 4000000 in
theorem ct_X3_place_r87_c1_131 {Dy : jH → Prop} {h0 : jH} {Q : Option Value → jH → Prop} {R61 : Int} (hD : jDk Dy) (hQ : ∀ h', jJ jSgX Dy h' → jSm fp_X3_place_r87_c1 h0 h' → Q none h') (k61 : ∀ (l2 : Int32) (l3 : Int32) (l4 : Int32) (l5 : Int32) (h : jH), 2 - l5.toInt < R61 → 1 ≤ l2.toInt ∧ l2.toInt ≤ 1 → 0 ≤ l3.toInt ∧ l3.toInt ≤ 2147483647 → (-1) ≤ l4.toInt ∧ l4.toInt ≤ 8 → 0 ≤ l5.toInt ∧ l5.toInt ≤ 2 → jJ jSgX Dy h → jSm fp_X3_place_r87_c1 h0 h → jX m_X3_place 11 0 0 61 [(0, .ref 87), (1, .int 1), (2, .int l2), (3, .int l3), (4, .int l4), (5, .int l5)] [] h 0 0 Q) : ∀ (l2 : Int32) (l3 : Int32) (l4 : Int32) (l5 : Int32) (l6 : Int32) (s0 : Int32) (h : jH), 1 ≤ l2.toInt ∧ l2.toInt ≤ 1 → 0 ≤ l3.toInt ∧ l3.toInt ≤ 2147483647 → (-1) ≤ l4.toInt ∧ l4.toInt ≤ 1 → 0 ≤ l5.toInt ∧ l5.toInt ≤ 1 → 0 ≤ l6.toInt ∧ l6.toInt ≤ 2147483647 → 1 ≤ s0.toInt ∧ s0.toInt ≤ 2 → 2 - l5.toInt ≤ R61 → jJ jSgX Dy h → jSm fp_X3_place_r87_c1 h0 h → jX m_X3_place 11 0 0 131 [(0, .ref 87), (1, .int 1), (2, .int l2), (3, .int l3), (4, .int l4), (5, .int l5), (6, .int l6)] [.int s0, .int 2, .ref 87] h 0 0 Q := by
  intro l2 l3 l4 l5 l6 s0 h y0 y1 y2 y3 y4 y5  m61 J Sm
  refine x_iloadn (x := l3) rfl rfl ?_
  refine x_iload (x := l6) rfl rfl ?_
  refine z_iadd0 rfl (fun v1 => ?_)
  have ev1 := jfull v1
  refine x_inv (N := m_X3_place) (As := [.int 2, .int s0, .int v1]) (b := 87) (st := []) (d' := 10) (mc := 0) (ms := 0) (host := "") 3 rfl t_X3_place ⟨Or.inl q_3_80, i_X3_place.1, i_X3_place.2⟩ ⟨by decide, rfl⟩ (congrArg Prod.fst (J.1.1 87 (3, 14) rfl)) rfl (by decide) rfl rfl ⟨by decide, by decide⟩ (sf_X3_place_r87_c2 (jr_of rfl (by omega)) hD J  (fun h J S2 => ?_))
  have Sm := jSm_tr rfl Sm S2
  show jX m_X3_place 11 0 0 138 [(0, .ref 87), (1, .int 1), (2, .int l2), (3, .int l3), (4, .int l4), (5, .int l5), (6, .int l6)] [] _ 0 0 _
  exact jX.sub (jsb_c rfl (jsb_c rfl (jsb_c rfl (jsb_c rfl (jsb_c rfl (jsb_c rfl jsb_n)))))) (ct_X3_place_r87_c1_138 hD hQ k61 l2 l3 l4 l5 h (jr_of rfl (by omega)) (jr_of rfl (by omega)) (jr_of rfl (by omega)) (jr_of rfl (by omega)) (by omega) J Sm)
set_option maxRecDepth 100000 in
set_option maxHeartbeats 4000000 in
theorem ct_X3_place_r87_c1_106 {Dy : jH → Prop} {h0 : jH} {Q : Option Value → jH → Prop} {R61 : Int} (hD : jDk Dy) (hQ : ∀ h', jJ jSgX Dy h' → jSm fp_X3_place_r87_c1 h0 h' → Q none h') (k61 : ∀ (l2 : Int32) (l3 : Int32) (l4 : Int32) (l5 : Int32) (h : jH), 2 - l5.toInt < R61 → 1 ≤ l2.toInt ∧ l2.toInt ≤ 1 → 0 ≤ l3.toInt ∧ l3.toInt ≤ 2147483647 → (-1) ≤ l4.toInt ∧ l4.toInt ≤ 8 → 0 ≤ l5.toInt ∧ l5.toInt ≤ 2 → jJ jSgX Dy h → jSm fp_X3_place_r87_c1 h0 h → jX m_X3_place 11 0 0 61 [(0, .ref 87), (1, .int 1), (2, .int l2), (3, .int l3), (4, .int l4), (5, .int l5)] [] h 0 0 Q) : ∀ (l2 : Int32) (l3 : Int32) (l4 : Int32) (l5 : Int32) (l6 : Int32) (h : jH), 1 ≤ l2.toInt ∧ l2.toInt ≤ 1 → 0 ≤ l3.toInt ∧ l3.toInt ≤ 2147483647 → (-1) ≤ l4.toInt ∧ l4.toInt ≤ 1 → 0 ≤ l5.toInt ∧ l5.toInt ≤ 1 → 0 ≤ l6.toInt ∧ l6.toInt ≤ 2147483647 → 2 - l5.toInt ≤ R61 → jJ jSgX Dy h → jSm fp_X3_place_r87_c1 h0 h → jX m_X3_place 11 0 0 106 [(0, .ref 87), (1, .int 1), (2, .int l2), (3, .int l3), (4, .int l4), (5, .int l5), (6, .int l6)] [] h 0 0 Q := by
  intro l2 l3 l4 l5 l6 h y0 y1 y2 y3 y4  m61 J Sm
  refine x_aloadn (x := 87) rfl rfl ?_
  refine z_getR (N := 14) (b := 91) 3 6 rfl f_3_25 rfl J rfl 11142 ⟨rfl, rfl⟩ rfl ?_
  refine x_iloadn (x := 1) rfl rfl ?_
  refine x_iload (x := l5) rfl rfl ?_
  refine z_iast (N := 9) (l := 0) (u := 9) (w := l5.toInt) rfl hD J Sm rfl rfl jk_1 (by omega) rfl (wr_91 (fun q1 q2 q3 q4 => by omega)) rfl (fun h w1 J Sm => ?_)
  refine x_aloadn (x := 87) rfl rfl ?_
  refine x_iloadn (x := 1) rfl rfl ?_
  refine x_iconst (v := 1) rfl ki_1 ?_
  refine y_iadd (v := 2) rfl (by decide) ?_
  refine x_iload (x := l5) rfl rfl ?_
  refine x_iloadn (x := l2) rfl rfl ?_
  refine x_icne (tgt := 130) rfl rfl (ti_ne rfl rfl ⟨fun c2 => ?_, fun c2 => ?_⟩)
  ·
    refine x_iloadn (x := l2) rfl rfl ?_
    exact jX.sub (jsb_c rfl (jsb_c rfl (jsb_c rfl (jsb_c rfl (jsb_c rfl (jsb_c rfl (jsb_c rfl jsb_n))))))) (ct_X3_place_r87_c1_131 hD hQ k61 l2 l3 l4 l5 l6 l2 h (jr_of rfl (by omega)) (jr_of rfl (by omega)) (jr_of rfl (by omega)) (jr_of rfl (by omega)) (jr_of rfl (by omega)) (jr_of rfl (by omega)) (by omega) J Sm)
  ·
    refine x_iloadn (x := l2) rfl rfl ?_
    refine x_iconst (v := 1) rfl ki_1 ?_
    refine z_iadd rfl rfl jk_1 (by omega) (fun v3 ev3 => ?_)
    refine x_goto (tgt := 131) rfl rfl ?_
    exact jX.sub (jsb_c rfl (jsb_c rfl (jsb_c rfl (jsb_c rfl (jsb_c rfl (jsb_c rfl (jsb_c rfl jsb_n))))))) (ct_X3_place_r87_c1_131 hD hQ k61 l2 l3 l4 l5 l6 v3 h (jr_of rfl (by omega)) (jr_of rfl (by omega)) (jr_of rfl (by omega)) (jr_of rfl (by omega)) (jr_of rfl (by omega)) (jr_of rfl (by omega)) (by omega) J Sm)
set_option maxRecDepth 100000 in
set_option maxHeartbeats 4000000 in
theorem ct_X3_place_r87_c1_61 {Dy : jH → Prop} {h0 : jH} {Q : Option Value → jH → Prop} (hD : jDk Dy) (hQ : ∀ h', jJ jSgX Dy h' → jSm fp_X3_place_r87_c1 h0 h' → Q none h') : ∀ r : Nat, ∀ (l2 : Int32) (l3 : Int32) (l4 : Int32) (l5 : Int32) (h : jH), 2 - l5.toInt < (r : Int) → 1 ≤ l2.toInt ∧ l2.toInt ≤ 1 → 0 ≤ l3.toInt ∧ l3.toInt ≤ 2147483647 → (-1) ≤ l4.toInt ∧ l4.toInt ≤ 8 → 0 ≤ l5.toInt ∧ l5.toInt ≤ 2 → jJ jSgX Dy h → jSm fp_X3_place_r87_c1 h0 h → jX m_X3_place 11 0 0 61 [(0, .ref 87), (1, .int 1), (2, .int l2), (3, .int l3), (4, .int l4), (5, .int l5)] [] h 0 0 Q := by
  intro r
  induction r with
  | zero =>
    intro l2 l3 l4 l5 h hm y0 y1 y2 y3   J Sm
    exfalso
    omega
  | succ r ih =>
    intro l2 l3 l4 l5 h hm y0 y1 y2 y3   J Sm
    refine x_iload (x := l5) rfl rfl ?_
    refine x_iloadn (x := l2) rfl rfl ?_
    refine x_icgt (tgt := 144) rfl rfl (ti_gt rfl rfl ⟨fun c1 => ?_, fun c1 => ?_⟩)
    ·
      exact jX.sub jsb_n (ct_X3_place_r87_c1_144 hD hQ  h J Sm)
    ·
      refine x_iload (x := l5) rfl rfl ?_
      refine x_bipush (v := 10) rfl kb_10 ?_
      refine x_icge (tgt := 144) rfl rfl (ti_ge rfl jk_10 (br_f (by omega) ?_))
      refine x_aloadn (x := 87) rfl rfl ?_
      refine z_getR (N := 14) (b := 93) 3 8 rfl f_3_31 rfl J rfl 11144 ⟨rfl, rfl⟩ rfl ?_
      refine x_iloadn (x := 1) rfl rfl ?_
      refine x_bipush (v := 10) rfl kb_10 ?_
      refine y_imul (v := 10) rfl (by decide) ?_
      refine x_iload (x := l5) rfl rfl ?_
      refine z_iadd rfl jk_10 rfl (by omega) (fun v2 ev2 => ?_)
      refine z_iald0 (N := 90) rfl J rfl rfl (by omega) (fun v3 qv3 => ?_)
      have ev3 := jfull v3
      refine x_istore (ls' := [(6, .int v3), (0, .ref 87), (1, .int 1), (2, .int l2), (3, .int l3), (4, .int l4), (5, .int l5)]) rfl rfl rfl ?_
      refine x_iload (x := v3) rfl rfl ?_
      refine x_iflt (tgt := 138) rfl rfl (ti_lt rfl jk_0 ⟨fun c4 => ?_, fun c4 => ?_⟩)
      ·
        exact jX.sub (jsb_c rfl (jsb_c rfl (jsb_c rfl (jsb_c rfl (jsb_c rfl (jsb_c rfl jsb_n)))))) (ct_X3_place_r87_c1_138 hD hQ ih l2 l3 l4 l5 h (jr_of rfl (by omega)) (jr_of rfl (by omega)) (jr_of rfl (by omega)) (jr_of rfl (by omega)) (by omega) J Sm)
      ·
        refine x_iload (x := l4) rfl rfl ?_
        refine x_iconst (v := (-1)) rfl ki_m1 ?_
        refine x_iceq (tgt := 106) rfl rfl (ti_eq rfl jk_m1 ⟨fun c5 => ?_, fun c5 => ?_⟩)
        ·
          exact jX.sub (jsb_c rfl (jsb_c rfl (jsb_c rfl (jsb_c rfl (jsb_c rfl (jsb_c rfl (jsb_c rfl jsb_n))))))) (ct_X3_place_r87_c1_106 hD hQ ih l2 l3 l4 l5 v3 h (jr_of rfl (by omega)) (jr_of rfl (by omega)) (jr_of rfl (by omega)) (jr_of rfl (by omega)) (jr_of rfl (by omega)) (by omega) J Sm)
        ·
          refine x_iload (x := l4) rfl rfl ?_
          refine x_iload (x := l5) rfl rfl ?_
          refine x_icne (tgt := 138) rfl rfl (ti_ne rfl rfl ⟨fun c6 => ?_, fun c6 => ?_⟩)
          ·
            exact jX.sub (jsb_c rfl (jsb_c rfl (jsb_c rfl (jsb_c rfl (jsb_c rfl (jsb_c rfl jsb_n)))))) (ct_X3_place_r87_c1_138 hD hQ ih l2 l3 l4 l5 h (jr_of rfl (by omega)) (jr_of rfl (by omega)) (jr_of rfl (by omega)) (jr_of rfl (by omega)) (by omega) J Sm)
          ·
            exact jX.sub (jsb_c rfl (jsb_c rfl (jsb_c rfl (jsb_c rfl (jsb_c rfl (jsb_c rfl (jsb_c rfl jsb_n))))))) (ct_X3_place_r87_c1_106 hD hQ ih l2 l3 l4 l5 v3 h (jr_of rfl (by omega)) (jr_of rfl (by omega)) (jr_of rfl (by omega)) (jr_of rfl (by omega)) (jr_of rfl (by omega)) (by omega) J Sm)
set_option maxRecDepth 100000 in
set_option maxHeartbeats 4000000 in
theorem ct_X3_place_r87_c1_56 {Dy : jH → Prop} {h0 : jH} {Q : Option Value → jH → Prop} (hD : jDk Dy) (hQ : ∀ h', jJ jSgX Dy h' → jSm fp_X3_place_r87_c1 h0 h' → Q none h') : ∀ (l2 : Int32) (l3 : Int32) (s0 : Int32) (h : jH), 1 ≤ l2.toInt ∧ l2.toInt ≤ 1 → 0 ≤ l3.toInt ∧ l3.toInt ≤ 2147483647 → 0 ≤ s0.toInt ∧ s0.toInt ≤ 8 → jJ jSgX Dy h → jSm fp_X3_place_r87_c1 h0 h → jX m_X3_place 11 0 0 56 [(0, .ref 87), (1, .int 1), (2, .int l2), (3, .int l3)] [.int s0] h 0 0 Q := by
  intro l2 l3 s0 h y0 y1 y2   J Sm
  refine x_istore (ls' := [(4, .int s0), (0, .ref 87), (1, .int 1), (2, .int l2), (3, .int l3)]) rfl rfl rfl ?_
  refine x_iconst (v := 0) rfl ki_0 ?_
  refine x_istore (ls' := [(5, .int 0), (4, .int s0), (0, .ref 87), (1, .int 1), (2, .int l2), (3, .int l3)]) rfl rfl rfl ?_
  exact jX.sub (jsb_c rfl (jsb_c rfl (jsb_c rfl (jsb_c rfl (jsb_c rfl (jsb_c rfl jsb_n)))))) (ct_X3_place_r87_c1_61 hD hQ  3 l2 l3 s0 0 h (by have := jk_0; omega) (jr_of rfl (by omega)) (jr_of rfl (by omega)) (jr_of rfl (by omega)) (jr_of jk_0 (by omega)) J Sm)
set_option maxRecDepth 100000 in
set_option maxHeartbeats 4000000 in
theorem ct_X3_place_r87_c1_100056 {Dy : jH → Prop} {h0 : jH} {Q : Option Value → jH → Prop} (hD : jDk Dy) (hQ : ∀ h', jJ jSgX Dy h' → jSm fp_X3_place_r87_c1 h0 h' → Q none h') : ∀ (l2 : Int32) (l3 : Int32) (h : jH), 1 ≤ l2.toInt ∧ l2.toInt ≤ 1 → 0 ≤ l3.toInt ∧ l3.toInt ≤ 2147483647 → jJ jSgX Dy h → jSm fp_X3_place_r87_c1 h0 h → jX m_X3_place 11 0 0 56 [(0, .ref 87), (1, .int 1), (2, .int l2), (3, .int l3)] [.int (-1)] h 0 0 Q := by
  intro l2 l3 h y0 y1   J Sm
  refine x_istore (ls' := [(4, .int (-1)), (0, .ref 87), (1, .int 1), (2, .int l2), (3, .int l3)]) rfl rfl rfl ?_
  refine x_iconst (v := 0) rfl ki_0 ?_
  refine x_istore (ls' := [(5, .int 0), (4, .int (-1)), (0, .ref 87), (1, .int 1), (2, .int l2), (3, .int l3)]) rfl rfl rfl ?_
  exact jX.sub (jsb_c rfl (jsb_c rfl (jsb_c rfl (jsb_c rfl (jsb_c rfl (jsb_c rfl jsb_n)))))) (ct_X3_place_r87_c1_61 hD hQ  3 l2 l3 (-1) 0 h (by have := jk_0; omega) (jr_of rfl (by omega)) (jr_of rfl (by omega)) (jr_of jk_m1 (by omega)) (jr_of jk_0 (by omega)) J Sm)
set_option maxRecDepth 100000 in
set_option maxHeartbeats 4000000 in
theorem sf_X3_place_r87_c1 {Dy : jH → Prop} {h : jH} {Q : Option Value → jH → Prop} {a2 : Int32} {a3 : Int32} (y2 : 1 ≤ a2.toInt ∧ a2.toInt ≤ 1) (y3 : 0 ≤ a3.toInt ∧ a3.toInt ≤ 2147483647) (hD : jDk Dy) (J : jJ jSgX Dy h) (hQ : ∀ h', jJ jSgX Dy h' → jSm fp_X3_place_r87_c1 h h' → Q none h') : jC m_X3_place 11 0 0 [.ref 87, .int 1, .int a2, .int a3] h Q := by
  refine jC.of rfl k_X3_place rfl ?_
  have Sm := jSm_rf fp_X3_place_r87_c1 h
  show jX m_X3_place 11 0 0 0 [(0, .ref 87), (1, .int 1), (2, .int a2), (3, .int a3)] [] _ 0 0 _
  refine x_iloadn (x := 1) rfl rfl ?_
  refine x_iflt (tgt := 18) rfl rfl (ti_lt jk_1 jk_0 (br_f (by omega) ?_))
  refine x_iloadn (x := 1) rfl rfl ?_
  refine x_aloadn (x := 87) rfl rfl ?_
  refine z_getI (N := 14) 3 3 rfl f_3_15 rfl J rfl sg_87_3_4_1_0_1 (fun v1 qv1 ev1 => ?_)
  refine x_icge (tgt := 18) rfl rfl (ti_ge jk_1 rfl ⟨fun c2 => ?_, fun c2 => ?_⟩)
  ·
    exact jX.sub (jsb_c rfl (jsb_c rfl (jsb_c rfl jsb_n))) (ct_X3_place_r87_c1_18 hD hQ  a2 a3 h (jr_of rfl (by omega)) (jr_of rfl (by omega)) J Sm)
  ·
    refine x_iloadn (x := 1) rfl rfl ?_
    refine x_bipush (v := 9) rfl kb_9 ?_
    refine x_iclt (tgt := 25) rfl rfl (ti_lt jk_1 jk_9 (br_t (by omega) ?_))
    refine x_aloadn (x := 87) rfl rfl ?_
    refine x_iloadn (x := 1) rfl rfl ?_
    refine x_iloadn (x := a2) rfl rfl ?_
    refine x_inv (N := m_X3_readGains) (As := [.int 1, .int a2]) (b := 87) (st := []) (d' := 1) (mc := 0) (ms := 0) (host := "") 3 rfl t_X3_readGains ⟨Or.inl q_3_97, i_X3_readGains.1, i_X3_readGains.2⟩ ⟨by decide, rfl⟩ (congrArg Prod.fst (J.1.1 87 (3, 14) rfl)) rfl (by decide) rfl rfl ⟨by decide, by decide⟩ (sf_X3_readGains_r87 (jr_of jk_1 (by omega)) (jr_of rfl (by omega)) hD J  (fun h J S3 => ?_))
    have Sm := jSm_tr rfl Sm S3
    show jX m_X3_place 11 0 0 31 [(0, .ref 87), (1, .int 1), (2, .int a2), (3, .int a3)] [] _ 0 0 _
    refine x_aloadn (x := 87) rfl rfl ?_
    refine z_getR (N := 14) (b := 90) 3 5 rfl f_3_22 rfl J rfl 11141 ⟨rfl, rfl⟩ rfl ?_
    refine x_iloadn (x := 1) rfl rfl ?_
    refine z_iald (N := 9) rfl J rfl sg_90_0_9_1_0_1 jk_1 (by omega) (fun v4 qv4 ev4 => ?_)
    refine x_iconst (v := (-1)) rfl ki_m1 ?_
    refine x_icne (tgt := 45) rfl rfl (ti_ne rfl jk_m1 ⟨fun c5 => ?_, fun c5 => ?_⟩)
    ·
      refine x_aloadn (x := 87) rfl rfl ?_
      refine z_getR (N := 14) (b := 91) 3 6 rfl f_3_25 rfl J rfl 11142 ⟨rfl, rfl⟩ rfl ?_
      refine x_aloadn (x := 87) rfl rfl ?_
      refine z_getR (N := 14) (b := 90) 3 5 rfl f_3_22 rfl J rfl 11141 ⟨rfl, rfl⟩ rfl ?_
      refine x_iloadn (x := 1) rfl rfl ?_
      refine z_ialdM (N := 9) (v := v4) rfl J rfl jk_1 (by omega) qv4 ?_
      refine z_iald (N := 9) rfl J rfl sg_91_0_9_1_0_1 rfl (by omega) (fun v6 qv6 ev6 => ?_)
      exact jX.sub (jsb_c rfl (jsb_c rfl (jsb_c rfl (jsb_c rfl jsb_n)))) (ct_X3_place_r87_c1_56 hD hQ  a2 a3 v6 h (jr_of rfl (by omega)) (jr_of rfl (by omega)) (jr_of rfl (by omega)) J Sm)
    ·
      refine x_iconst (v := (-1)) rfl ki_m1 ?_
      refine x_goto (tgt := 56) rfl rfl ?_
      exact jX.sub (jsb_c rfl (jsb_c rfl (jsb_c rfl (jsb_c rfl jsb_n)))) (ct_X3_place_r87_c1_100056 hD hQ  a2 a3 h (jr_of rfl (by omega)) (jr_of rfl (by omega)) J Sm)
def fp_X3_place_r87_c0 : jFp := [(87, 10, 11), (87, 11, 12), (91, 0, 9), (92, 0, 9), (93, 0, 90), (94, 0, 14401)]
set_option maxRecDepth 100000 in
set_option maxHeartbeats 4000000 in
theorem ct_X3_place_r87_c0_18 {Dy : jH → Prop} {h0 : jH} {Q : Option Value → jH → Prop} (hD : jDk Dy) (hQ : ∀ h', jJ jSgX Dy h' → jSm fp_X3_place_r87_c0 h0 h' → Q none h') : ∀ (l2 : Int32) (l3 : Int32) (h : jH), 0 ≤ l2.toInt ∧ l2.toInt ≤ 0 → 0 ≤ l3.toInt ∧ l3.toInt ≤ 0 → jJ jSgX Dy h → jSm fp_X3_place_r87_c0 h0 h → jX m_X3_place 12 0 0 18 [(0, .ref 87), (2, .int l2), (3, .int l3)] [] h 0 0 Q := by
  intro l2 l3 h y0 y1   J Sm
  refine x_aloadn (x := 87) rfl rfl ?_
  refine x_iloadn (x := l2) rfl rfl ?_
  refine x_iloadn (x := l3) rfl rfl ?_
  refine x_inv (N := m_X3_note) (As := [.int l2, .int l3]) (b := 87) (st := []) (d' := 11) (mc := 0) (ms := 0) (host := "") 3 rfl t_X3_note ⟨Or.inl q_3_93, i_X3_note.1, i_X3_note.2⟩ ⟨by decide, rfl⟩ (congrArg Prod.fst (J.1.1 87 (3, 14) rfl)) rfl (by decide) rfl rfl ⟨by decide, by decide⟩ (jC.of rfl k_X3_note rfl ?_)
  show jX m_X3_note 11 0 0 0 [(0, .ref 87), (1, .int l2), (2, .int l3)] [] _ 0 0 _
  refine x_iloadn (x := l3) rfl rfl ?_
  refine x_iflt (tgt := 23) rfl rfl (ti_lt rfl jk_0 (br_f (by omega) ?_))
  refine x_iloadn (x := l3) rfl rfl ?_
  refine x_aloadn (x := 87) rfl rfl ?_
  refine z_getR (N := 14) (b := 94) 3 9 rfl f_3_34 rfl J rfl 11145 ⟨rfl, rfl⟩ rfl ?_
  refine z_alen (N := 14401) (v := 14401) rfl J rfl rfl (by decide) ?_
  refine x_icge (tgt := 23) rfl rfl (ti_ge rfl jk_14401 (br_f (by omega) ?_))
  refine x_aloadn (x := 87) rfl rfl ?_
  refine z_getR (N := 14) (b := 94) 3 9 rfl f_3_34 rfl J rfl 11145 ⟨rfl, rfl⟩ rfl ?_
  refine x_iloadn (x := l3) rfl rfl ?_
  refine x_dup2 rfl rfl rfl ?_
  refine z_iald0 (N := 14401) rfl J rfl rfl (by omega) (fun v1 qv1 => ?_)
  have ev1 := jfull v1
  refine x_iconst (v := 1) rfl ki_1 ?_
  refine z_iadd0 rfl (fun v2 => ?_)
  have ev2 := jfull v2
  refine z_iast (N := 14401) (l := 0) (u := 14401) (w := v2.toInt) rfl hD J Sm rfl rfl rfl (by omega) rfl (wr_94) rfl (fun h w3 J Sm => ?_)
  refine x_iloadn (x := l3) rfl rfl ?_
  refine x_aloadn (x := 87) rfl rfl ?_
  refine z_getI (N := 14) 3 10 rfl f_3_37 rfl J rfl sg_87_10_11_1_0_1 (fun v4 qv4 ev4 => ?_)
  refine x_icgt (tgt := 47) rfl rfl (ti_gt rfl rfl ⟨fun c5 => ?_, fun c5 => ?_⟩)
  ·
    refine x_aloadn (x := 87) rfl rfl ?_
    refine x_iloadn (x := l3) rfl rfl ?_
    refine z_putI (N := 14) (w := l3.toInt) 3 10 rfl f_3_37 rfl (jfin_no TX3 RX3 14 rfl rfl) hD J Sm rfl rfl rfl (pw_87_10 (by omega)) rfl (fun h w6 J Sm => ?_)
    refine x_aloadn (x := 87) rfl rfl ?_
    refine x_iloadn (x := l2) rfl rfl ?_
    refine z_putI (N := 14) (w := l2.toInt) 3 11 rfl f_3_40 rfl (jfin_no TX3 RX3 14 rfl rfl) hD J Sm rfl rfl rfl (pw_87_11 (by omega)) rfl (fun h w7 J Sm => ?_)
    refine x_aloadn (x := 87) rfl rfl ?_
    refine z_getR (N := 14) (b := 91) 3 6 rfl f_3_25 rfl J rfl 11142 ⟨rfl, rfl⟩ rfl ?_
    refine x_iconst (v := 0) rfl ki_0 ?_
    refine x_aloadn (x := 87) rfl rfl ?_
    refine z_getR (N := 14) (b := 92) 3 7 rfl f_3_28 rfl J rfl 11143 ⟨rfl, rfl⟩ rfl ?_
    refine x_iconst (v := 0) rfl ki_0 ?_
    refine x_bipush (v := 9) rfl kb_9 ?_
    refine z_cpi (N1 := 9) (N2 := 9) rfl ⟨q_3_100, jcp_w⟩ (by decide) rfl hD J Sm rfl rfl rfl rfl jk_0 jk_0 jk_9 (by omega) (cp_92 (fun k k1 k2 k3 => by have k4 := k3.1; have k5 := k3.2.1; have k6 := k3.2.2; simp only at k4 k5 k6; exact jcp_in J sg_91_0_9_1_0_1 rfl (by omega) (by decide))) rfl (fun h w8 J Sm => ?_)
    refine x_vret rfl rfl ?_
    show jX m_X3_place 12 0 0 24 [(0, .ref 87), (2, .int l2), (3, .int l3)] [] _ 0 0 _
    refine x_vret rfl rfl ?_
    exact hQ _ J Sm
  ·
    refine x_iloadn (x := l3) rfl rfl ?_
    refine x_aloadn (x := 87) rfl rfl ?_
    refine z_getM (N := 14) (v := v4) 3 10 rfl f_3_37 rfl J rfl qv4 ?_
    refine x_icne (tgt := 72) rfl rfl (ti_ne rfl rfl ⟨fun c9 => ?_, fun c9 => ?_⟩)
    ·
      refine x_vret rfl rfl ?_
      show jX m_X3_place 12 0 0 24 [(0, .ref 87), (2, .int l2), (3, .int l3)] [] _ 0 0 _
      refine x_vret rfl rfl ?_
      exact hQ _ J Sm
    ·
      refine x_iloadn (x := l2) rfl rfl ?_
      refine x_aloadn (x := 87) rfl rfl ?_
      refine z_getI (N := 14) 3 11 rfl f_3_40 rfl J rfl sg_87_11_12_1_0_1 (fun v10 qv10 ev10 => ?_)
      refine x_icge (tgt := 72) rfl rfl (ti_ge rfl rfl ⟨fun c11 => ?_, fun c11 => ?_⟩)
      ·
        refine x_vret rfl rfl ?_
        show jX m_X3_place 12 0 0 24 [(0, .ref 87), (2, .int l2), (3, .int l3)] [] _ 0 0 _
        refine x_vret rfl rfl ?_
        exact hQ _ J Sm
      ·
        refine x_aloadn (x := 87) rfl rfl ?_
        refine x_iloadn (x := l3) rfl rfl ?_
        refine z_putI (N := 14) (w := l3.toInt) 3 10 rfl f_3_37 rfl (jfin_no TX3 RX3 14 rfl rfl) hD J Sm rfl rfl rfl (pw_87_10 (by omega)) rfl (fun h w12 J Sm => ?_)
        refine x_aloadn (x := 87) rfl rfl ?_
        refine x_iloadn (x := l2) rfl rfl ?_
        refine z_putI (N := 14) (w := l2.toInt) 3 11 rfl f_3_40 rfl (jfin_no TX3 RX3 14 rfl rfl) hD J Sm rfl rfl rfl (pw_87_11 (by omega)) rfl (fun h w13 J Sm => ?_)
        refine x_aloadn (x := 87) rfl rfl ?_
        refine z_getR (N := 14) (b := 91) 3 6 rfl f_3_25 rfl J rfl 11142 ⟨rfl, rfl⟩ rfl ?_
        refine x_iconst (v := 0) rfl ki_0 ?_
        refine x_aloadn (x := 87) rfl rfl ?_
        refine z_getR (N := 14) (b := 92) 3 7 rfl f_3_28 rfl J rfl 11143 ⟨rfl, rfl⟩ rfl ?_
        refine x_iconst (v := 0) rfl ki_0 ?_
        refine x_bipush (v := 9) rfl kb_9 ?_
        refine z_cpi (N1 := 9) (N2 := 9) rfl ⟨q_3_100, jcp_w⟩ (by decide) rfl hD J Sm rfl rfl rfl rfl jk_0 jk_0 jk_9 (by omega) (cp_92 (fun k k1 k2 k3 => by have k4 := k3.1; have k5 := k3.2.1; have k6 := k3.2.2; simp only at k4 k5 k6; exact jcp_in J sg_91_0_9_1_0_1 rfl (by omega) (by decide))) rfl (fun h w14 J Sm => ?_)
        refine x_vret rfl rfl ?_
        show jX m_X3_place 12 0 0 24 [(0, .ref 87), (2, .int l2), (3, .int l3)] [] _ 0 0 _
        refine x_vret rfl rfl ?_
        exact hQ _ J Sm
set_option maxRecDepth 100000 in
set_option maxHeartbeats 4000000 in
theorem ct_X3_place_r87_c0_144 {Dy : jH → Prop} {h0 : jH} {Q : Option Value → jH → Prop} (hD : jDk Dy) (hQ : ∀ h', jJ jSgX Dy h' → jSm fp_X3_place_r87_c0 h0 h' → Q none h') : ∀ (h : jH), jJ jSgX Dy h → jSm fp_X3_place_r87_c0 h0 h → jX m_X3_place 12 0 0 144 [] [] h 0 0 Q := by
  intro  h    J Sm
  refine x_vret rfl rfl ?_
  exact hQ _ J Sm
set_option maxRecDepth 100000 in
set_option maxHeartbeats 4000000 in
theorem ct_X3_place_r87_c0_138 {Dy : jH → Prop} {h0 : jH} {Q : Option Value → jH → Prop} {R61 : Int} (hD : jDk Dy) (hQ : ∀ h', jJ jSgX Dy h' → jSm fp_X3_place_r87_c0 h0 h' → Q none h') (k61 : ∀ (l2 : Int32) (l3 : Int32) (l4 : Int32) (l5 : Int32) (h : jH), 1 - l5.toInt < R61 → 0 ≤ l2.toInt ∧ l2.toInt ≤ 0 → 0 ≤ l3.toInt ∧ l3.toInt ≤ 0 → (-1) ≤ l4.toInt ∧ l4.toInt ≤ 8 → 0 ≤ l5.toInt ∧ l5.toInt ≤ 1 → jJ jSgX Dy h → jSm fp_X3_place_r87_c0 h0 h → jX m_X3_place 12 0 0 61 [(0, .ref 87), (1, .int 0), (2, .int l2), (3, .int l3), (4, .int l4), (5, .int l5)] [] h 0 0 Q) : ∀ (l2 : Int32) (l3 : Int32) (l4 : Int32) (l5 : Int32) (h : jH), 0 ≤ l2.toInt ∧ l2.toInt ≤ 0 → 0 ≤ l3.toInt ∧ l3.toInt ≤ 0 → (-1) ≤ l4.toInt ∧ l4.toInt ≤ 8 → 0 ≤ l5.toInt ∧ l5.toInt ≤ 0 → 1 - l5.toInt ≤ R61 → jJ jSgX Dy h → jSm fp_X3_place_r87_c0 h0 h → jX m_X3_place 12 0 0 138 [(0, .ref 87), (1, .int 0), (2, .int l2), (3, .int l3), (4, .int l4), (5, .int l5)] [] h 0 0 Q := by
  intro l2 l3 l4 l5 h y0 y1 y2 y3  m61 J Sm
  refine z_iinc (x := l5) (ls' := fun v1 => [(5, .int v1), (0, .ref 87), (1, .int 0), (2, .int l2), (3, .int l3), (4, .int l4)]) rfl rfl rfl jko_1 (by omega) rfl (fun _ => rfl) (fun v1 ev1 => ?_)
  refine x_goto (tgt := 61) rfl rfl ?_
  exact jX.sub (jsb_c rfl (jsb_c rfl (jsb_c rfl (jsb_c rfl (jsb_c rfl (jsb_c rfl jsb_n)))))) (k61 l2 l3 l4 v1 h (by omega) (jr_of rfl (by omega)) (jr_of rfl (by omega)) (jr_of rfl (by omega)) (jr_of rfl (by omega)) J Sm)
set_option maxRecDepth 100000 in
set_option maxHeartbeats 4000000 in
theorem ct_X3_place_r87_c0_131 {Dy : jH → Prop} {h0 : jH} {Q : Option Value → jH → Prop} {R61 : Int} (hD : jDk Dy) (hQ : ∀ h', jJ jSgX Dy h' → jSm fp_X3_place_r87_c0 h0 h' → Q none h') (k61 : ∀ (l2 : Int32) (l3 : Int32) (l4 : Int32) (l5 : Int32) (h : jH), 1 - l5.toInt < R61 → 0 ≤ l2.toInt ∧ l2.toInt ≤ 0 → 0 ≤ l3.toInt ∧ l3.toInt ≤ 0 → (-1) ≤ l4.toInt ∧ l4.toInt ≤ 8 → 0 ≤ l5.toInt ∧ l5.toInt ≤ 1 → jJ jSgX Dy h → jSm fp_X3_place_r87_c0 h0 h → jX m_X3_place 12 0 0 61 [(0, .ref 87), (1, .int 0), (2, .int l2), (3, .int l3), (4, .int l4), (5, .int l5)] [] h 0 0 Q) : ∀ (l2 : Int32) (l3 : Int32) (l4 : Int32) (l5 : Int32) (l6 : Int32) (s0 : Int32) (h : jH), 0 ≤ l2.toInt ∧ l2.toInt ≤ 0 → 0 ≤ l3.toInt ∧ l3.toInt ≤ 0 → (-1) ≤ l4.toInt ∧ l4.toInt ≤ 0 → 0 ≤ l5.toInt ∧ l5.toInt ≤ 0 → 0 ≤ l6.toInt ∧ l6.toInt ≤ 2147483647 → 1 ≤ s0.toInt ∧ s0.toInt ≤ 1 → 1 - l5.toInt ≤ R61 → jJ jSgX Dy h → jSm fp_X3_place_r87_c0 h0 h → jX m_X3_place 12 0 0 131 [(0, .ref 87), (1, .int 0), (2, .int l2), (3, .int l3), (4, .int l4), (5, .int l5), (6, .int l6)] [.int s0, .int 1, .ref 87] h 0 0 Q := by
  intro l2 l3 l4 l5 l6 s0 h y0 y1 y2 y3 y4 y5  m61 J Sm
  refine x_iloadn (x := l3) rfl rfl ?_
  refine x_iload (x := l6) rfl rfl ?_
  refine z_iadd rfl rfl rfl (by omega) (fun v1 ev1 => ?_)
  refine x_inv (N := m_X3_place) (As := [.int 1, .int s0, .int v1]) (b := 87) (st := []) (d' := 11) (mc := 0) (ms := 0) (host := "") 3 rfl t_X3_place ⟨Or.inl q_3_80, i_X3_place.1, i_X3_place.2⟩ ⟨by decide, rfl⟩ (congrArg Prod.fst (J.1.1 87 (3, 14) rfl)) rfl (by decide) rfl rfl ⟨by decide, by decide⟩ (sf_X3_place_r87_c1 (jr_of rfl (by omega)) (jr_of rfl (by omega)) hD J  (fun h J S2 => ?_))
  have Sm := jSm_tr rfl Sm S2
  show jX m_X3_place 12 0 0 138 [(0, .ref 87), (1, .int 0), (2, .int l2), (3, .int l3), (4, .int l4), (5, .int l5), (6, .int l6)] [] _ 0 0 _
  exact jX.sub (jsb_c rfl (jsb_c rfl (jsb_c rfl (jsb_c rfl (jsb_c rfl (jsb_c rfl jsb_n)))))) (ct_X3_place_r87_c0_138 hD hQ k61 l2 l3 l4 l5 h (jr_of rfl (by omega)) (jr_of rfl (by omega)) (jr_of rfl (by omega)) (jr_of rfl (by omega)) (by omega) J Sm)
set_option maxRecDepth 100000 in
set_option maxHeartbeats 4000000 in
theorem ct_X3_place_r87_c0_106 {Dy : jH → Prop} {h0 : jH} {Q : Option Value → jH → Prop} {R61 : Int} (hD : jDk Dy) (hQ : ∀ h', jJ jSgX Dy h' → jSm fp_X3_place_r87_c0 h0 h' → Q none h') (k61 : ∀ (l2 : Int32) (l3 : Int32) (l4 : Int32) (l5 : Int32) (h : jH), 1 - l5.toInt < R61 → 0 ≤ l2.toInt ∧ l2.toInt ≤ 0 → 0 ≤ l3.toInt ∧ l3.toInt ≤ 0 → (-1) ≤ l4.toInt ∧ l4.toInt ≤ 8 → 0 ≤ l5.toInt ∧ l5.toInt ≤ 1 → jJ jSgX Dy h → jSm fp_X3_place_r87_c0 h0 h → jX m_X3_place 12 0 0 61 [(0, .ref 87), (1, .int 0), (2, .int l2), (3, .int l3), (4, .int l4), (5, .int l5)] [] h 0 0 Q) : ∀ (l2 : Int32) (l3 : Int32) (l4 : Int32) (l5 : Int32) (l6 : Int32) (h : jH), 0 ≤ l2.toInt ∧ l2.toInt ≤ 0 → 0 ≤ l3.toInt ∧ l3.toInt ≤ 0 → (-1) ≤ l4.toInt ∧ l4.toInt ≤ 0 → 0 ≤ l5.toInt ∧ l5.toInt ≤ 0 → 0 ≤ l6.toInt ∧ l6.toInt ≤ 2147483647 → 1 - l5.toInt ≤ R61 → jJ jSgX Dy h → jSm fp_X3_place_r87_c0 h0 h → jX m_X3_place 12 0 0 106 [(0, .ref 87), (1, .int 0), (2, .int l2), (3, .int l3), (4, .int l4), (5, .int l5), (6, .int l6)] [] h 0 0 Q := by
  intro l2 l3 l4 l5 l6 h y0 y1 y2 y3 y4  m61 J Sm
  refine x_aloadn (x := 87) rfl rfl ?_
  refine z_getR (N := 14) (b := 91) 3 6 rfl f_3_25 rfl J rfl 11142 ⟨rfl, rfl⟩ rfl ?_
  refine x_iloadn (x := 0) rfl rfl ?_
  refine x_iload (x := l5) rfl rfl ?_
  refine z_iast (N := 9) (l := 0) (u := 9) (w := l5.toInt) rfl hD J Sm rfl rfl jk_0 (by omega) rfl (wr_91 (fun q1 q2 q3 q4 => by omega)) rfl (fun h w1 J Sm => ?_)
  refine x_aloadn (x := 87) rfl rfl ?_
  refine x_iloadn (x := 0) rfl rfl ?_
  refine x_iconst (v := 1) rfl ki_1 ?_
  refine y_iadd (v := 1) rfl (by decide) ?_
  refine x_iload (x := l5) rfl rfl ?_
  refine x_iloadn (x := l2) rfl rfl ?_
  refine x_icne (tgt := 130) rfl rfl (ti_ne rfl rfl (bn_f (by omega) ?_))
  refine x_iloadn (x := l2) rfl rfl ?_
  refine x_iconst (v := 1) rfl ki_1 ?_
  refine z_iadd rfl rfl jk_1 (by omega) (fun v2 ev2 => ?_)
  refine x_goto (tgt := 131) rfl rfl ?_
  exact jX.sub (jsb_c rfl (jsb_c rfl (jsb_c rfl (jsb_c rfl (jsb_c rfl (jsb_c rfl (jsb_c rfl jsb_n))))))) (ct_X3_place_r87_c0_131 hD hQ k61 l2 l3 l4 l5 l6 v2 h (jr_of rfl (by omega)) (jr_of rfl (by omega)) (jr_of rfl (by omega)) (jr_of rfl (by omega)) (jr_of rfl (by omega)) (jr_of rfl (by omega)) (by omega) J Sm)
set_option maxRecDepth 100000 in
set_option maxHeartbeats 4000000 in
theorem ct_X3_place_r87_c0_61 {Dy : jH → Prop} {h0 : jH} {Q : Option Value → jH → Prop} (hD : jDk Dy) (hQ : ∀ h', jJ jSgX Dy h' → jSm fp_X3_place_r87_c0 h0 h' → Q none h') : ∀ r : Nat, ∀ (l2 : Int32) (l3 : Int32) (l4 : Int32) (l5 : Int32) (h : jH), 1 - l5.toInt < (r : Int) → 0 ≤ l2.toInt ∧ l2.toInt ≤ 0 → 0 ≤ l3.toInt ∧ l3.toInt ≤ 0 → (-1) ≤ l4.toInt ∧ l4.toInt ≤ 8 → 0 ≤ l5.toInt ∧ l5.toInt ≤ 1 → jJ jSgX Dy h → jSm fp_X3_place_r87_c0 h0 h → jX m_X3_place 12 0 0 61 [(0, .ref 87), (1, .int 0), (2, .int l2), (3, .int l3), (4, .int l4), (5, .int l5)] [] h 0 0 Q := by
  intro r
  induction r with
  | zero =>
    intro l2 l3 l4 l5 h hm y0 y1 y2 y3   J Sm
    exfalso
    omega
  | succ r ih =>
    intro l2 l3 l4 l5 h hm y0 y1 y2 y3   J Sm
    refine x_iload (x := l5) rfl rfl ?_
    refine x_iloadn (x := l2) rfl rfl ?_
    refine x_icgt (tgt := 144) rfl rfl (ti_gt rfl rfl ⟨fun c1 => ?_, fun c1 => ?_⟩)
    ·
      exact jX.sub jsb_n (ct_X3_place_r87_c0_144 hD hQ  h J Sm)
    ·
      refine x_iload (x := l5) rfl rfl ?_
      refine x_bipush (v := 10) rfl kb_10 ?_
      refine x_icge (tgt := 144) rfl rfl (ti_ge rfl jk_10 (br_f (by omega) ?_))
      refine x_aloadn (x := 87) rfl rfl ?_
      refine z_getR (N := 14) (b := 93) 3 8 rfl f_3_31 rfl J rfl 11144 ⟨rfl, rfl⟩ rfl ?_
      refine x_iloadn (x := 0) rfl rfl ?_
      refine x_bipush (v := 10) rfl kb_10 ?_
      refine y_imul (v := 0) rfl (by decide) ?_
      refine x_iload (x := l5) rfl rfl ?_
      refine z_iadd rfl jk_0 rfl (by omega) (fun v2 ev2 => ?_)
      refine z_iald0 (N := 90) rfl J rfl rfl (by omega) (fun v3 qv3 => ?_)
      have ev3 := jfull v3
      refine x_istore (ls' := [(6, .int v3), (0, .ref 87), (1, .int 0), (2, .int l2), (3, .int l3), (4, .int l4), (5, .int l5)]) rfl rfl rfl ?_
      refine x_iload (x := v3) rfl rfl ?_
      refine x_iflt (tgt := 138) rfl rfl (ti_lt rfl jk_0 ⟨fun c4 => ?_, fun c4 => ?_⟩)
      ·
        exact jX.sub (jsb_c rfl (jsb_c rfl (jsb_c rfl (jsb_c rfl (jsb_c rfl (jsb_c rfl jsb_n)))))) (ct_X3_place_r87_c0_138 hD hQ ih l2 l3 l4 l5 h (jr_of rfl (by omega)) (jr_of rfl (by omega)) (jr_of rfl (by omega)) (jr_of rfl (by omega)) (by omega) J Sm)
      ·
        refine x_iload (x := l4) rfl rfl ?_
        refine x_iconst (v := (-1)) rfl ki_m1 ?_
        refine x_iceq (tgt := 106) rfl rfl (ti_eq rfl jk_m1 ⟨fun c5 => ?_, fun c5 => ?_⟩)
        ·
          exact jX.sub (jsb_c rfl (jsb_c rfl (jsb_c rfl (jsb_c rfl (jsb_c rfl (jsb_c rfl (jsb_c rfl jsb_n))))))) (ct_X3_place_r87_c0_106 hD hQ ih l2 l3 l4 l5 v3 h (jr_of rfl (by omega)) (jr_of rfl (by omega)) (jr_of rfl (by omega)) (jr_of rfl (by omega)) (jr_of rfl (by omega)) (by omega) J Sm)
        ·
          refine x_iload (x := l4) rfl rfl ?_
          refine x_iload (x := l5) rfl rfl ?_
          refine x_icne (tgt := 138) rfl rfl (ti_ne rfl rfl ⟨fun c6 => ?_, fun c6 => ?_⟩)
          ·
            exact jX.sub (jsb_c rfl (jsb_c rfl (jsb_c rfl (jsb_c rfl (jsb_c rfl (jsb_c rfl jsb_n)))))) (ct_X3_place_r87_c0_138 hD hQ ih l2 l3 l4 l5 h (jr_of rfl (by omega)) (jr_of rfl (by omega)) (jr_of rfl (by omega)) (jr_of rfl (by omega)) (by omega) J Sm)
          ·
            exact jX.sub (jsb_c rfl (jsb_c rfl (jsb_c rfl (jsb_c rfl (jsb_c rfl (jsb_c rfl (jsb_c rfl jsb_n))))))) (ct_X3_place_r87_c0_106 hD hQ ih l2 l3 l4 l5 v3 h (jr_of rfl (by omega)) (jr_of rfl (by omega)) (jr_of rfl (by omega)) (jr_of rfl (by omega)) (jr_of rfl (by omega)) (by omega) J Sm)
set_option maxRecDepth 100000 in
set_option maxHeartbeats 4000000 in
theorem ct_X3_place_r87_c0_56 {Dy : jH → Prop} {h0 : jH} {Q : Option Value → jH → Prop} (hD : jDk Dy) (hQ : ∀ h', jJ jSgX Dy h' → jSm fp_X3_place_r87_c0 h0 h' → Q none h') : ∀ (l2 : Int32) (l3 : Int32) (s0 : Int32) (h : jH), 0 ≤ l2.toInt ∧ l2.toInt ≤ 0 → 0 ≤ l3.toInt ∧ l3.toInt ≤ 0 → 0 ≤ s0.toInt ∧ s0.toInt ≤ 8 → jJ jSgX Dy h → jSm fp_X3_place_r87_c0 h0 h → jX m_X3_place 12 0 0 56 [(0, .ref 87), (1, .int 0), (2, .int l2), (3, .int l3)] [.int s0] h 0 0 Q := by
  intro l2 l3 s0 h y0 y1 y2   J Sm
  refine x_istore (ls' := [(4, .int s0), (0, .ref 87), (1, .int 0), (2, .int l2), (3, .int l3)]) rfl rfl rfl ?_
  refine x_iconst (v := 0) rfl ki_0 ?_
  refine x_istore (ls' := [(5, .int 0), (4, .int s0), (0, .ref 87), (1, .int 0), (2, .int l2), (3, .int l3)]) rfl rfl rfl ?_
  exact jX.sub (jsb_c rfl (jsb_c rfl (jsb_c rfl (jsb_c rfl (jsb_c rfl (jsb_c rfl jsb_n)))))) (ct_X3_place_r87_c0_61 hD hQ  2 l2 l3 s0 0 h (by have := jk_0; omega) (jr_of rfl (by omega)) (jr_of rfl (by omega)) (jr_of rfl (by omega)) (jr_of jk_0 (by omega)) J Sm)
set_option maxRecDepth 100000 in
set_option maxHeartbeats 4000000 in
theorem ct_X3_place_r87_c0_100056 {Dy : jH → Prop} {h0 : jH} {Q : Option Value → jH → Prop} (hD : jDk Dy) (hQ : ∀ h', jJ jSgX Dy h' → jSm fp_X3_place_r87_c0 h0 h' → Q none h') : ∀ (l2 : Int32) (l3 : Int32) (h : jH), 0 ≤ l2.toInt ∧ l2.toInt ≤ 0 → 0 ≤ l3.toInt ∧ l3.toInt ≤ 0 → jJ jSgX Dy h → jSm fp_X3_place_r87_c0 h0 h → jX m_X3_place 12 0 0 56 [(0, .ref 87), (1, .int 0), (2, .int l2), (3, .int l3)] [.int (-1)] h 0 0 Q := by
  intro l2 l3 h y0 y1   J Sm
  refine x_istore (ls' := [(4, .int (-1)), (0, .ref 87), (1, .int 0), (2, .int l2), (3, .int l3)]) rfl rfl rfl ?_
  refine x_iconst (v := 0) rfl ki_0 ?_
  refine x_istore (ls' := [(5, .int 0), (4, .int (-1)), (0, .ref 87), (1, .int 0), (2, .int l2), (3, .int l3)]) rfl rfl rfl ?_
  exact jX.sub (jsb_c rfl (jsb_c rfl (jsb_c rfl (jsb_c rfl (jsb_c rfl (jsb_c rfl jsb_n)))))) (ct_X3_place_r87_c0_61 hD hQ  2 l2 l3 (-1) 0 h (by have := jk_0; omega) (jr_of rfl (by omega)) (jr_of rfl (by omega)) (jr_of jk_m1 (by omega)) (jr_of jk_0 (by omega)) J Sm)
set_option maxRecDepth 100000 in
set_option maxHeartbeats 4000000 in
theorem sf_X3_place_r87_c0 {Dy : jH → Prop} {h : jH} {Q : Option Value → jH → Prop} {a2 : Int32} {a3 : Int32} (y2 : 0 ≤ a2.toInt ∧ a2.toInt ≤ 0) (y3 : 0 ≤ a3.toInt ∧ a3.toInt ≤ 0) (hD : jDk Dy) (J : jJ jSgX Dy h) (hQ : ∀ h', jJ jSgX Dy h' → jSm fp_X3_place_r87_c0 h h' → Q none h') : jC m_X3_place 12 0 0 [.ref 87, .int 0, .int a2, .int a3] h Q := by
  refine jC.of rfl k_X3_place rfl ?_
  have Sm := jSm_rf fp_X3_place_r87_c0 h
  show jX m_X3_place 12 0 0 0 [(0, .ref 87), (1, .int 0), (2, .int a2), (3, .int a3)] [] _ 0 0 _
  refine x_iloadn (x := 0) rfl rfl ?_
  refine x_iflt (tgt := 18) rfl rfl (ti_lt jk_0 jk_0 (br_f (by omega) ?_))
  refine x_iloadn (x := 0) rfl rfl ?_
  refine x_aloadn (x := 87) rfl rfl ?_
  refine z_getI (N := 14) 3 3 rfl f_3_15 rfl J rfl sg_87_3_4_1_0_1 (fun v1 qv1 ev1 => ?_)
  refine x_icge (tgt := 18) rfl rfl (ti_ge jk_0 rfl ⟨fun c2 => ?_, fun c2 => ?_⟩)
  ·
    exact jX.sub (jsb_c rfl (jsb_c rfl (jsb_c rfl jsb_n))) (ct_X3_place_r87_c0_18 hD hQ  a2 a3 h (jr_of rfl (by omega)) (jr_of rfl (by omega)) J Sm)
  ·
    refine x_iloadn (x := 0) rfl rfl ?_
    refine x_bipush (v := 9) rfl kb_9 ?_
    refine x_iclt (tgt := 25) rfl rfl (ti_lt jk_0 jk_9 (br_t (by omega) ?_))
    refine x_aloadn (x := 87) rfl rfl ?_
    refine x_iloadn (x := 0) rfl rfl ?_
    refine x_iloadn (x := a2) rfl rfl ?_
    refine x_inv (N := m_X3_readGains) (As := [.int 0, .int a2]) (b := 87) (st := []) (d' := 1) (mc := 0) (ms := 0) (host := "") 3 rfl t_X3_readGains ⟨Or.inl q_3_97, i_X3_readGains.1, i_X3_readGains.2⟩ ⟨by decide, rfl⟩ (congrArg Prod.fst (J.1.1 87 (3, 14) rfl)) rfl (by decide) rfl rfl ⟨by decide, by decide⟩ (sf_X3_readGains_r87 (jr_of jk_0 (by omega)) (jr_of rfl (by omega)) hD J  (fun h J S3 => ?_))
    have Sm := jSm_tr rfl Sm S3
    show jX m_X3_place 12 0 0 31 [(0, .ref 87), (1, .int 0), (2, .int a2), (3, .int a3)] [] _ 0 0 _
    refine x_aloadn (x := 87) rfl rfl ?_
    refine z_getR (N := 14) (b := 90) 3 5 rfl f_3_22 rfl J rfl 11141 ⟨rfl, rfl⟩ rfl ?_
    refine x_iloadn (x := 0) rfl rfl ?_
    refine z_iald (N := 9) rfl J rfl sg_90_0_9_1_0_1 jk_0 (by omega) (fun v4 qv4 ev4 => ?_)
    refine x_iconst (v := (-1)) rfl ki_m1 ?_
    refine x_icne (tgt := 45) rfl rfl (ti_ne rfl jk_m1 ⟨fun c5 => ?_, fun c5 => ?_⟩)
    ·
      refine x_aloadn (x := 87) rfl rfl ?_
      refine z_getR (N := 14) (b := 91) 3 6 rfl f_3_25 rfl J rfl 11142 ⟨rfl, rfl⟩ rfl ?_
      refine x_aloadn (x := 87) rfl rfl ?_
      refine z_getR (N := 14) (b := 90) 3 5 rfl f_3_22 rfl J rfl 11141 ⟨rfl, rfl⟩ rfl ?_
      refine x_iloadn (x := 0) rfl rfl ?_
      refine z_ialdM (N := 9) (v := v4) rfl J rfl jk_0 (by omega) qv4 ?_
      refine z_iald (N := 9) rfl J rfl sg_91_0_9_1_0_1 rfl (by omega) (fun v6 qv6 ev6 => ?_)
      exact jX.sub (jsb_c rfl (jsb_c rfl (jsb_c rfl (jsb_c rfl jsb_n)))) (ct_X3_place_r87_c0_56 hD hQ  a2 a3 v6 h (jr_of rfl (by omega)) (jr_of rfl (by omega)) (jr_of rfl (by omega)) J Sm)
    ·
      refine x_iconst (v := (-1)) rfl ki_m1 ?_
      refine x_goto (tgt := 56) rfl rfl ?_
      exact jX.sub (jsb_c rfl (jsb_c rfl (jsb_c rfl (jsb_c rfl jsb_n)))) (ct_X3_place_r87_c0_100056 hD hQ  a2 a3 h (jr_of rfl (by omega)) (jr_of rfl (by omega)) J Sm)
def fp_X7_haveKin_r78 : jFp := []
set_option maxRecDepth 100000 in
set_option maxHeartbeats 4000000 in
theorem ct_X7_haveKin_r78_122 {Dy : jH → Prop} {h0 : jH} {Q : Option Value → jH → Prop} {R6 : Int} (hD : jDk Dy) (hQ : ∀ (v : Int32) h', 0 ≤ v.toInt ∧ v.toInt ≤ 1 → jJ jSgX Dy h' → jSm fp_X7_haveKin_r78 h0 h' → Q (some (.int v)) h') (k6 : ∀ (l1 : Int32) (l2 : Int32) (l3 : Int32) (h : jH), 600 - l3.toInt < R6 → 0 ≤ l1.toInt ∧ l1.toInt ≤ 599 → 0 ≤ l2.toInt ∧ l2.toInt ≤ 599 → 0 ≤ l3.toInt ∧ l3.toInt ≤ 600 → jJ jSgX Dy h → jSm fp_X7_haveKin_r78 h0 h → jX m_X7_haveKin 4 0 0 6 [(0, .ref 78), (1, .int l1), (2, .int l2), (3, .int l3)] [] h 0 0 Q) : ∀ (l1 : Int32) (l2 : Int32) (l3 : Int32) (h : jH), 0 ≤ l1.toInt ∧ l1.toInt ≤ 599 → 0 ≤ l2.toInt ∧ l2.toInt ≤ 599 → 0 ≤ l3.toInt ∧ l3.toInt ≤ 599 → 600 - l3.toInt ≤ R6 → jJ jSgX Dy h → jSm fp_X7_haveKin_r78 h0 h → jX m_X7_haveKin 4 0 0 122 [(0, .ref 78), (1, .int l1), (2, .int l2), (3, .int l3)] [] h 0 0 Q := by
  intro l1 l2 l3 h y0 y1 y2  m6 J Sm
  refine z_iinc (x := l3) (ls' := fun v1 => [(3, .int v1), (0, .ref 78), (1, .int l1), (2, .int l2)]) rfl rfl rfl jko_1 (by omega) rfl (fun _ => rfl) (fun v1 ev1 => ?_)
  refine x_goto (tgt := 6) rfl rfl ?_
  exact jX.sub (jsb_c rfl (jsb_c rfl (jsb_c rfl (jsb_c rfl jsb_n)))) (k6 l1 l2 v1 h (by omega) (jr_of rfl (by omega)) (jr_of rfl (by omega)) (jr_of rfl (by omega)) J Sm)
set_option maxRecDepth 100000 in
set_option maxHeartbeats 4000000 in
theorem ct_X7_haveKin_r78_116 {Dy : jH → Prop} {h0 : jH} {Q : Option Value → jH → Prop} {R6 : Int} {R51 : Int} (hD : jDk Dy) (hQ : ∀ (v : Int32) h', 0 ≤ v.toInt ∧ v.toInt ≤ 1 → jJ jSgX Dy h' → jSm fp_X7_haveKin_r78 h0 h' → Q (some (.int v)) h') (k6 : ∀ (l1 : Int32) (l2 : Int32) (l3 : Int32) (h : jH), 600 - l3.toInt < R6 → 0 ≤ l1.toInt ∧ l1.toInt ≤ 599 → 0 ≤ l2.toInt ∧ l2.toInt ≤ 599 → 0 ≤ l3.toInt ∧ l3.toInt ≤ 600 → jJ jSgX Dy h → jSm fp_X7_haveKin_r78 h0 h → jX m_X7_haveKin 4 0 0 6 [(0, .ref 78), (1, .int l1), (2, .int l2), (3, .int l3)] [] h 0 0 Q) (k51 : ∀ (l1 : Int32) (l2 : Int32) (l3 : Int32) (l4 : Int32) (g0 : Int32) (h : jH), 600 - l4.toInt < R51 → 0 ≤ l1.toInt ∧ l1.toInt ≤ 599 → 0 ≤ l2.toInt ∧ l2.toInt ≤ 599 → 0 ≤ l3.toInt ∧ l3.toInt ≤ 599 → 0 ≤ l4.toInt ∧ l4.toInt ≤ 600 → 1 ≤ g0.toInt ∧ g0.toInt ≤ 200 → jiv h 33 3 = g0 → 600 - l3.toInt ≤ R6 → jJ jSgX Dy h → jSm fp_X7_haveKin_r78 h0 h → jX m_X7_haveKin 4 0 0 51 [(0, .ref 78), (1, .int l1), (2, .int l2), (3, .int l3), (4, .int l4)] [] h 0 0 Q) : ∀ (l1 : Int32) (l2 : Int32) (l3 : Int32) (l4 : Int32) (g0 : Int32) (h : jH), 0 ≤ l1.toInt ∧ l1.toInt ≤ 599 → 0 ≤ l2.toInt ∧ l2.toInt ≤ 599 → 0 ≤ l3.toInt ∧ l3.toInt ≤ 599 → 0 ≤ l4.toInt ∧ l4.toInt ≤ 599 → 1 ≤ g0.toInt ∧ g0.toInt ≤ 200 → jiv h 33 3 = g0 → 600 - l3.toInt ≤ R6 → 600 - l4.toInt ≤ R51 → jJ jSgX Dy h → jSm fp_X7_haveKin_r78 h0 h → jX m_X7_haveKin 4 0 0 116 [(0, .ref 78), (1, .int l1), (2, .int l2), (3, .int l3), (4, .int l4)] [] h 0 0 Q := by
  intro l1 l2 l3 l4 g0 h y0 y1 y2 y3 y4 z0 m6 m51 J Sm
  refine z_iinc (x := l4) (ls' := fun v1 => [(4, .int v1), (0, .ref 78), (1, .int l1), (2, .int l2), (3, .int l3)]) rfl rfl rfl jko_1 (by omega) rfl (fun _ => rfl) (fun v1 ev1 => ?_)
  refine x_goto (tgt := 51) rfl rfl ?_
  exact jX.sub (jsb_c rfl (jsb_c rfl (jsb_c rfl (jsb_c rfl (jsb_c rfl jsb_n))))) (k51 l1 l2 l3 v1 g0 h (by omega) (jr_of rfl (by omega)) (jr_of rfl (by omega)) (jr_of rfl (by omega)) (jr_of rfl (by omega)) (jr_of rfl (by omega)) z0 (by omega) J Sm)
set_option maxRecDepth 100000 in
set_option maxHeartbeats 4000000 in
theorem ct_X7_haveKin_r78_51 {Dy : jH → Prop} {h0 : jH} {Q : Option Value → jH → Prop} {R6 : Int} (hD : jDk Dy) (hQ : ∀ (v : Int32) h', 0 ≤ v.toInt ∧ v.toInt ≤ 1 → jJ jSgX Dy h' → jSm fp_X7_haveKin_r78 h0 h' → Q (some (.int v)) h') (k6 : ∀ (l1 : Int32) (l2 : Int32) (l3 : Int32) (h : jH), 600 - l3.toInt < R6 → 0 ≤ l1.toInt ∧ l1.toInt ≤ 599 → 0 ≤ l2.toInt ∧ l2.toInt ≤ 599 → 0 ≤ l3.toInt ∧ l3.toInt ≤ 600 → jJ jSgX Dy h → jSm fp_X7_haveKin_r78 h0 h → jX m_X7_haveKin 4 0 0 6 [(0, .ref 78), (1, .int l1), (2, .int l2), (3, .int l3)] [] h 0 0 Q) : ∀ r : Nat, ∀ (l1 : Int32) (l2 : Int32) (l3 : Int32) (l4 : Int32) (g0 : Int32) (h : jH), 600 - l4.toInt < (r : Int) → 0 ≤ l1.toInt ∧ l1.toInt ≤ 599 → 0 ≤ l2.toInt ∧ l2.toInt ≤ 599 → 0 ≤ l3.toInt ∧ l3.toInt ≤ 599 → 0 ≤ l4.toInt ∧ l4.toInt ≤ 600 → 1 ≤ g0.toInt ∧ g0.toInt ≤ 200 → jiv h 33 3 = g0 → 600 - l3.toInt ≤ R6 → jJ jSgX Dy h → jSm fp_X7_haveKin_r78 h0 h → jX m_X7_haveKin 4 0 0 51 [(0, .ref 78), (1, .int l1), (2, .int l2), (3, .int l3), (4, .int l4)] [] h 0 0 Q := by
  intro r
  induction r with
  | zero =>
    intro l1 l2 l3 l4 g0 h hm y0 y1 y2 y3 y4 z0 m6 J Sm
    exfalso
    omega
  | succ r ih =>
    intro l1 l2 l3 l4 g0 h hm y0 y1 y2 y3 y4 z0 m6 J Sm
    refine x_iload (x := l4) rfl rfl ?_
    refine x_iloadn (x := l2) rfl rfl ?_
    refine x_iconst (v := 3) rfl ki_3 ?_
    refine z_idiv rfl rfl jk_3 (by omega) (by omega) (fun v1 ev1 => ?_)
    refine x_iconst (v := 3) rfl ki_3 ?_
    refine z_imul rfl rfl jk_3 (by omega) (fun v2 ev2 => ?_)
    refine x_iconst (v := 3) rfl ki_3 ?_
    refine z_iadd rfl rfl jk_3 (by omega) (fun v3 ev3 => ?_)
    refine x_icge (tgt := 122) rfl rfl (ti_ge rfl rfl ⟨fun c4 => ?_, fun c4 => ?_⟩)
    ·
      exact jX.sub (jsb_c rfl (jsb_c rfl (jsb_c rfl (jsb_c rfl jsb_n)))) (ct_X7_haveKin_r78_122 hD hQ k6 l1 l2 l3 h (jr_of rfl (by omega)) (jr_of rfl (by omega)) (jr_of rfl (by omega)) (by omega) J Sm)
    ·
      refine x_iload (x := l4) rfl rfl ?_
      refine x_iloadn (x := l2) rfl rfl ?_
      refine x_iceq (tgt := 116) rfl rfl (ti_eq rfl rfl ⟨fun c5 => ?_, fun c5 => ?_⟩)
      ·
        exact jX.sub (jsb_c rfl (jsb_c rfl (jsb_c rfl (jsb_c rfl (jsb_c rfl jsb_n))))) (ct_X7_haveKin_r78_116 hD hQ k6 ih l1 l2 l3 l4 g0 h (jr_of rfl (by omega)) (jr_of rfl (by omega)) (jr_of rfl (by omega)) (jr_of rfl (by omega)) (jr_of rfl (by omega)) z0 (by omega) (by omega) J Sm)
      ·
        refine x_aloadn (x := 78) rfl rfl ?_
        refine x_iload (x := l4) rfl rfl ?_
        refine x_inv (N := m_X7_isMention) (As := [.int l4]) (b := 78) (st := []) (d' := 3) (mc := 0) (ms := 0) (host := "") 7 rfl t_X7_isMention ⟨Or.inl q_7_134, i_X7_isMention.1, i_X7_isMention.2⟩ ⟨by decide, rfl⟩ (congrArg Prod.fst (J.1.1 78 (7, 16) rfl)) rfl (by decide) rfl rfl ⟨by decide, by decide⟩ (jC.of rfl k_X7_isMention rfl ?_)
        show jX m_X7_isMention 3 0 0 0 [(0, .ref 78), (1, .int l4)] [] _ 0 0 _
        refine x_iloadn (x := l4) rfl rfl ?_
        refine x_iflt (tgt := 41) rfl rfl (ti_lt rfl jk_0 (br_f (by omega) ?_))
        refine x_iloadn (x := l4) rfl rfl ?_
        refine x_sipush (v := 600) rfl ks_600 ?_
        refine x_icge (tgt := 41) rfl rfl (ti_ge rfl jk_600 (br_f (by omega) ?_))
        refine x_iloadn (x := l4) rfl rfl ?_
        refine x_iconst (v := 3) rfl ki_3 ?_
        refine z_idiv rfl rfl jk_3 (by omega) (by omega) (fun v6 ev6 => ?_)
        refine x_aloadn (x := 78) rfl rfl ?_
        refine z_getR (N := 16) (b := 32) 7 0 rfl f_7_55 rfl J rfl 9984 ⟨rfl, rfl⟩ rfl ?_
        refine z_getR (N := 20) (b := 33) 1 0 rfl f_7_63 rfl J rfl 4096 ⟨rfl, rfl⟩ rfl ?_
        refine z_getM (N := 4) (v := g0) 8 3 rfl f_7_85 rfl J rfl z0 ?_
        refine x_icge (tgt := 41) rfl rfl (ti_ge rfl rfl ⟨fun c7 => ?_, fun c7 => ?_⟩)
        ·
          refine x_iconst (v := 0) rfl ki_0 ?_
          refine x_zret rfl rfl (by decide) ?_
          show jX m_X7_haveKin 4 0 0 75 [(0, .ref 78), (1, .int l1), (2, .int l2), (3, .int l3), (4, .int l4)] [.int 0] _ 0 0 _
          refine x_ifeq (tgt := 116) rfl rfl (ti_eq jk_0 jk_0 (br_t (by omega) ?_))
          exact jX.sub (jsb_c rfl (jsb_c rfl (jsb_c rfl (jsb_c rfl (jsb_c rfl jsb_n))))) (ct_X7_haveKin_r78_116 hD hQ k6 ih l1 l2 l3 l4 g0 h (jr_of rfl (by omega)) (jr_of rfl (by omega)) (jr_of rfl (by omega)) (jr_of rfl (by omega)) (jr_of rfl (by omega)) z0 (by omega) (by omega) J Sm)
        ·
          refine x_aloadn (x := 78) rfl rfl ?_
          refine z_getR (N := 16) (b := 79) 7 7 rfl f_7_27 rfl J rfl 9991 ⟨rfl, rfl⟩ rfl ?_
          refine x_iloadn (x := l4) rfl rfl ?_
          refine z_iald (N := 600) rfl J rfl sg_79_0_600_1_0_1 rfl (by omega) (fun v8 qv8 ev8 => ?_)
          refine x_iconst (v := (-1)) rfl ki_m1 ?_
          refine x_iceq (tgt := 41) rfl rfl (ti_eq rfl jk_m1 ⟨fun c9 => ?_, fun c9 => ?_⟩)
          ·
            refine x_iconst (v := 0) rfl ki_0 ?_
            refine x_zret rfl rfl (by decide) ?_
            show jX m_X7_haveKin 4 0 0 75 [(0, .ref 78), (1, .int l1), (2, .int l2), (3, .int l3), (4, .int l4)] [.int 0] _ 0 0 _
            refine x_ifeq (tgt := 116) rfl rfl (ti_eq jk_0 jk_0 (br_t (by omega) ?_))
            exact jX.sub (jsb_c rfl (jsb_c rfl (jsb_c rfl (jsb_c rfl (jsb_c rfl jsb_n))))) (ct_X7_haveKin_r78_116 hD hQ k6 ih l1 l2 l3 l4 g0 h (jr_of rfl (by omega)) (jr_of rfl (by omega)) (jr_of rfl (by omega)) (jr_of rfl (by omega)) (jr_of rfl (by omega)) z0 (by omega) (by omega) J Sm)
          ·
            refine x_iconst (v := 1) rfl ki_1 ?_
            refine x_goto (tgt := 42) rfl rfl ?_
            refine x_zret rfl rfl (by decide) ?_
            show jX m_X7_haveKin 4 0 0 75 [(0, .ref 78), (1, .int l1), (2, .int l2), (3, .int l3), (4, .int l4)] [.int 1] _ 0 0 _
            refine x_ifeq (tgt := 116) rfl rfl (ti_eq jk_1 jk_0 (br_f (by omega) ?_))
            refine x_aloadn (x := 78) rfl rfl ?_
            refine z_getR (N := 16) (b := 70) 7 1 rfl f_7_59 rfl J rfl 9985 ⟨rfl, rfl⟩ rfl ?_
            refine x_iload (x := l4) rfl rfl ?_
            refine x_inv (N := m_X5_isNamedInFull) (As := [.int l4]) (b := 70) (st := []) (d' := 3) (mc := 0) (ms := 0) (host := "") 5 rfl t_X5_isNamedInFull ⟨Or.inl q_7_137, i_X5_isNamedInFull.1, i_X5_isNamedInFull.2⟩ ⟨by decide, rfl⟩ (congrArg Prod.fst (J.1.1 70 (5, 9) rfl)) rfl (by decide) rfl rfl ⟨by decide, by decide⟩ (jC.of rfl k_X5_isNamedInFull rfl ?_)
            show jX m_X5_isNamedInFull 3 0 0 0 [(0, .ref 70), (1, .int l4)] [] _ 0 0 _
            refine x_aloadn (x := 70) rfl rfl ?_
            refine x_iloadn (x := l4) rfl rfl ?_
            refine x_iconst (v := 0) rfl ki_0 ?_
            refine x_inv (N := m_X5_lengthOf) (As := [.int l4, .int 0]) (b := 70) (st := []) (d' := 2) (mc := 0) (ms := 0) (host := "") 5 rfl t_X5_lengthOf ⟨Or.inl q_5_133, i_X5_lengthOf.1, i_X5_lengthOf.2⟩ ⟨by decide, rfl⟩ (congrArg Prod.fst (J.1.1 70 (5, 9) rfl)) rfl (by decide) rfl rfl ⟨by decide, by decide⟩ (jC.of rfl k_X5_lengthOf rfl ?_)
            show jX m_X5_lengthOf 2 0 0 0 [(0, .ref 70), (1, .int l4), (2, .int 0)] [] _ 0 0 _
            refine x_iloadn (x := l4) rfl rfl ?_
            refine x_iconst (v := 2) rfl ki_2 ?_
            refine z_imul rfl rfl jk_2 (by omega) (fun v10 ev10 => ?_)
            refine x_iloadn (x := 0) rfl rfl ?_
            refine z_iadd rfl rfl jk_0 (by omega) (fun v11 ev11 => ?_)
            refine x_istoren (ls' := [(3, .int v11), (0, .ref 70), (1, .int l4), (2, .int 0)]) rfl rfl rfl ?_
            refine x_iloadn (x := v11) rfl rfl ?_
            refine x_iflt (tgt := 26) rfl rfl (ti_lt rfl jk_0 (br_f (by omega) ?_))
            refine x_iloadn (x := v11) rfl rfl ?_
            refine x_sipush (v := 1200) rfl ks_1200 ?_
            refine x_icge (tgt := 26) rfl rfl (ti_ge rfl jk_1200 (br_f (by omega) ?_))
            refine x_aloadn (x := 70) rfl rfl ?_
            refine z_getR (N := 9) (b := 76) 5 7 rfl f_5_28 rfl J rfl 8967 ⟨rfl, rfl⟩ rfl ?_
            refine x_iloadn (x := v11) rfl rfl ?_
            refine z_iald (N := 1200) rfl J rfl sg_76_0_1200_1_0_1 rfl (by omega) (fun v12 qv12 ev12 => ?_)
            refine x_goto (tgt := 27) rfl rfl ?_
            refine x_iret rfl rfl ?_
            show jX m_X5_isNamedInFull 3 0 0 6 [(0, .ref 70), (1, .int l4)] [.int v12] _ 0 0 _
            refine x_iflt (tgt := 22) rfl rfl (ti_lt rfl jk_0 ⟨fun c13 => ?_, fun c13 => ?_⟩)
            ·
              refine x_iconst (v := 0) rfl ki_0 ?_
              refine x_zret rfl rfl (by decide) ?_
              show jX m_X7_haveKin 4 0 0 87 [(0, .ref 78), (1, .int l1), (2, .int l2), (3, .int l3), (4, .int l4)] [.int 0] _ 0 0 _
              refine x_ifeq (tgt := 116) rfl rfl (ti_eq jk_0 jk_0 (br_t (by omega) ?_))
              exact jX.sub (jsb_c rfl (jsb_c rfl (jsb_c rfl (jsb_c rfl (jsb_c rfl jsb_n))))) (ct_X7_haveKin_r78_116 hD hQ k6 ih l1 l2 l3 l4 g0 h (jr_of rfl (by omega)) (jr_of rfl (by omega)) (jr_of rfl (by omega)) (jr_of rfl (by omega)) (jr_of rfl (by omega)) z0 (by omega) (by omega) J Sm)
            ·
              refine x_aloadn (x := 70) rfl rfl ?_
              refine x_iloadn (x := l4) rfl rfl ?_
              refine x_iconst (v := 1) rfl ki_1 ?_
              refine x_inv (N := m_X5_lengthOf) (As := [.int l4, .int 1]) (b := 70) (st := []) (d' := 2) (mc := 0) (ms := 0) (host := "") 5 rfl t_X5_lengthOf ⟨Or.inl q_5_133, i_X5_lengthOf.1, i_X5_lengthOf.2⟩ ⟨by decide, rfl⟩ (congrArg Prod.fst (J.1.1 70 (5, 9) rfl)) rfl (by decide) rfl rfl ⟨by decide, by decide⟩ (jC.of rfl k_X5_lengthOf rfl ?_)
              show jX m_X5_lengthOf 2 0 0 0 [(0, .ref 70), (1, .int l4), (2, .int 1)] [] _ 0 0 _
              refine x_iloadn (x := l4) rfl rfl ?_
              refine x_iconst (v := 2) rfl ki_2 ?_
              refine z_imul rfl rfl jk_2 (by omega) (fun v14 ev14 => ?_)
              refine x_iloadn (x := 1) rfl rfl ?_
              refine z_iadd rfl rfl jk_1 (by omega) (fun v15 ev15 => ?_)
              refine x_istoren (ls' := [(3, .int v15), (0, .ref 70), (1, .int l4), (2, .int 1)]) rfl rfl rfl ?_
              refine x_iloadn (x := v15) rfl rfl ?_
              refine x_iflt (tgt := 26) rfl rfl (ti_lt rfl jk_0 (br_f (by omega) ?_))
              refine x_iloadn (x := v15) rfl rfl ?_
              refine x_sipush (v := 1200) rfl ks_1200 ?_
              refine x_icge (tgt := 26) rfl rfl (ti_ge rfl jk_1200 (br_f (by omega) ?_))
              refine x_aloadn (x := 70) rfl rfl ?_
              refine z_getR (N := 9) (b := 76) 5 7 rfl f_5_28 rfl J rfl 8967 ⟨rfl, rfl⟩ rfl ?_
              refine x_iloadn (x := v15) rfl rfl ?_
              refine z_iald (N := 1200) rfl J rfl sg_76_0_1200_1_0_1 rfl (by omega) (fun v16 qv16 ev16 => ?_)
              refine x_goto (tgt := 27) rfl rfl ?_
              refine x_iret rfl rfl ?_
              show jX m_X5_isNamedInFull 3 0 0 15 [(0, .ref 70), (1, .int l4)] [.int v16] _ 0 0 _
              refine x_iflt (tgt := 22) rfl rfl (ti_lt rfl jk_0 ⟨fun c17 => ?_, fun c17 => ?_⟩)
              ·
                refine x_iconst (v := 0) rfl ki_0 ?_
                refine x_zret rfl rfl (by decide) ?_
                show jX m_X7_haveKin 4 0 0 87 [(0, .ref 78), (1, .int l1), (2, .int l2), (3, .int l3), (4, .int l4)] [.int 0] _ 0 0 _
                refine x_ifeq (tgt := 116) rfl rfl (ti_eq jk_0 jk_0 (br_t (by omega) ?_))
                exact jX.sub (jsb_c rfl (jsb_c rfl (jsb_c rfl (jsb_c rfl (jsb_c rfl jsb_n))))) (ct_X7_haveKin_r78_116 hD hQ k6 ih l1 l2 l3 l4 g0 h (jr_of rfl (by omega)) (jr_of rfl (by omega)) (jr_of rfl (by omega)) (jr_of rfl (by omega)) (jr_of rfl (by omega)) z0 (by omega) (by omega) J Sm)
              ·
                refine x_iconst (v := 1) rfl ki_1 ?_
                refine x_goto (tgt := 23) rfl rfl ?_
                refine x_zret rfl rfl (by decide) ?_
                show jX m_X7_haveKin 4 0 0 87 [(0, .ref 78), (1, .int l1), (2, .int l2), (3, .int l3), (4, .int l4)] [.int 1] _ 0 0 _
                refine x_ifeq (tgt := 116) rfl rfl (ti_eq jk_1 jk_0 (br_f (by omega) ?_))
                refine x_aloadn (x := 78) rfl rfl ?_
                refine z_getR (N := 16) (b := 70) 7 1 rfl f_7_59 rfl J rfl 9985 ⟨rfl, rfl⟩ rfl ?_
                refine x_iloadn (x := l3) rfl rfl ?_
                refine x_iload (x := l4) rfl rfl ?_
                refine x_iconst (v := 1) rfl ki_1 ?_
                refine x_inv (N := m_X5_differ) (As := [.int l3, .int l4, .int 1]) (b := 70) (st := []) (d' := 1) (mc := 0) (ms := 0) (host := "") 5 rfl t_X5_differ ⟨Or.inl q_7_92, i_X5_differ.1, i_X5_differ.2⟩ ⟨by decide, rfl⟩ (congrArg Prod.fst (J.1.1 70 (5, 9) rfl)) rfl (by decide) rfl rfl ⟨by decide, by decide⟩ (sf_X5_differ_r70 (jr_of rfl (by omega)) (jr_of rfl (by omega)) (jr_of jk_1 (by omega)) hD J  (fun v19 h ev19 J S18 => ?_))
                have Sm := jSm_tr rfl Sm S18
                show jX m_X7_haveKin 4 0 0 101 [(0, .ref 78), (1, .int l1), (2, .int l2), (3, .int l3), (4, .int l4)] [.int v19] _ 0 0 _
                refine x_ifne (tgt := 116) rfl rfl (ti_ne rfl jk_0 ⟨fun c20 => ?_, fun c20 => ?_⟩)
                ·
                  exact jX.sub (jsb_c rfl (jsb_c rfl (jsb_c rfl (jsb_c rfl (jsb_c rfl jsb_n))))) (ct_X7_haveKin_r78_116 hD hQ k6 ih l1 l2 l3 l4 g0 h (jr_of rfl (by omega)) (jr_of rfl (by omega)) (jr_of rfl (by omega)) (jr_of rfl (by omega)) (jr_of rfl (by omega)) (jmc S18 rfl z0) (by omega) (by omega) J Sm)
                ·
                  refine x_aloadn (x := 78) rfl rfl ?_
                  refine x_iloadn (x := l3) rfl rfl ?_
                  refine x_iload (x := l4) rfl rfl ?_
                  refine x_inv (N := m_X7_reasonFor) (As := [.int l3, .int l4]) (b := 78) (st := []) (d' := 3) (mc := 0) (ms := 0) (host := "") 7 rfl t_X7_reasonFor ⟨Or.inl q_7_125, i_X7_reasonFor.1, i_X7_reasonFor.2⟩ ⟨by decide, rfl⟩ (congrArg Prod.fst (J.1.1 78 (7, 16) rfl)) rfl (by decide) rfl rfl ⟨by decide, by decide⟩ (sf_X7_reasonFor_r78 (jr_of rfl (by omega)) (jr_of rfl (by omega)) hD J  (fun v22 h ev22 J S21 => ?_))
                  have Sm := jSm_tr rfl Sm S21
                  show jX m_X7_haveKin 4 0 0 111 [(0, .ref 78), (1, .int l1), (2, .int l2), (3, .int l3), (4, .int l4)] [.int v22] _ 0 0 _
                  refine x_ifne (tgt := 116) rfl rfl (ti_ne rfl jk_0 ⟨fun c23 => ?_, fun c23 => ?_⟩)
                  ·
                    exact jX.sub (jsb_c rfl (jsb_c rfl (jsb_c rfl (jsb_c rfl (jsb_c rfl jsb_n))))) (ct_X7_haveKin_r78_116 hD hQ k6 ih l1 l2 l3 l4 g0 h (jr_of rfl (by omega)) (jr_of rfl (by omega)) (jr_of rfl (by omega)) (jr_of rfl (by omega)) (jr_of rfl (by omega)) (jmc S21 rfl (jmc S18 rfl z0)) (by omega) (by omega) J Sm)
                  ·
                    refine x_iconst (v := 1) rfl ki_1 ?_
                    refine x_zret rfl rfl (by decide) ?_
                    exact hQ _ _ (jr_of jk_1 (by omega)) J Sm
set_option maxRecDepth 100000 in
set_option maxHeartbeats 4000000 in
theorem ct_X7_haveKin_r78_6 {Dy : jH → Prop} {h0 : jH} {Q : Option Value → jH → Prop} (hD : jDk Dy) (hQ : ∀ (v : Int32) h', 0 ≤ v.toInt ∧ v.toInt ≤ 1 → jJ jSgX Dy h' → jSm fp_X7_haveKin_r78 h0 h' → Q (some (.int v)) h') : ∀ r : Nat, ∀ (l1 : Int32) (l2 : Int32) (l3 : Int32) (h : jH), 600 - l3.toInt < (r : Int) → 0 ≤ l1.toInt ∧ l1.toInt ≤ 599 → 0 ≤ l2.toInt ∧ l2.toInt ≤ 599 → 0 ≤ l3.toInt ∧ l3.toInt ≤ 600 → jJ jSgX Dy h → jSm fp_X7_haveKin_r78 h0 h → jX m_X7_haveKin 4 0 0 6 [(0, .ref 78), (1, .int l1), (2, .int l2), (3, .int l3)] [] h 0 0 Q := by
  intro r
  induction r with
  | zero =>
    intro l1 l2 l3 h hm y0 y1 y2   J Sm
    exfalso
    omega
  | succ r ih =>
    intro l1 l2 l3 h hm y0 y1 y2   J Sm
    refine x_iloadn (x := l3) rfl rfl ?_
    refine x_iloadn (x := l1) rfl rfl ?_
    refine x_iconst (v := 3) rfl ki_3 ?_
    refine z_idiv rfl rfl jk_3 (by omega) (by omega) (fun v1 ev1 => ?_)
    refine x_iconst (v := 3) rfl ki_3 ?_
    refine z_imul rfl rfl jk_3 (by omega) (fun v2 ev2 => ?_)
    refine x_iconst (v := 3) rfl ki_3 ?_
    refine z_iadd rfl rfl jk_3 (by omega) (fun v3 ev3 => ?_)
    refine x_icge (tgt := 128) rfl rfl (ti_ge rfl rfl ⟨fun c4 => ?_, fun c4 => ?_⟩)
    ·
      refine x_iconst (v := 0) rfl ki_0 ?_
      refine x_zret rfl rfl (by decide) ?_
      exact hQ _ _ (jr_of jk_0 (by omega)) J Sm
    ·
      refine x_iloadn (x := l3) rfl rfl ?_
      refine x_iloadn (x := l1) rfl rfl ?_
      refine x_iceq (tgt := 122) rfl rfl (ti_eq rfl rfl ⟨fun c5 => ?_, fun c5 => ?_⟩)
      ·
        exact jX.sub (jsb_c rfl (jsb_c rfl (jsb_c rfl (jsb_c rfl jsb_n)))) (ct_X7_haveKin_r78_122 hD hQ ih l1 l2 l3 h (jr_of rfl (by omega)) (jr_of rfl (by omega)) (jr_of rfl (by omega)) (by omega) J Sm)
      ·
        refine x_aloadn (x := 78) rfl rfl ?_
        refine x_iloadn (x := l3) rfl rfl ?_
        refine x_inv (N := m_X7_isMention) (As := [.int l3]) (b := 78) (st := []) (d' := 3) (mc := 0) (ms := 0) (host := "") 7 rfl t_X7_isMention ⟨Or.inl q_7_134, i_X7_isMention.1, i_X7_isMention.2⟩ ⟨by decide, rfl⟩ (congrArg Prod.fst (J.1.1 78 (7, 16) rfl)) rfl (by decide) rfl rfl ⟨by decide, by decide⟩ (jC.of rfl k_X7_isMention rfl ?_)
        show jX m_X7_isMention 3 0 0 0 [(0, .ref 78), (1, .int l3)] [] _ 0 0 _
        refine x_iloadn (x := l3) rfl rfl ?_
        refine x_iflt (tgt := 41) rfl rfl (ti_lt rfl jk_0 (br_f (by omega) ?_))
        refine x_iloadn (x := l3) rfl rfl ?_
        refine x_sipush (v := 600) rfl ks_600 ?_
        refine x_icge (tgt := 41) rfl rfl (ti_ge rfl jk_600 (br_f (by omega) ?_))
        refine x_iloadn (x := l3) rfl rfl ?_
        refine x_iconst (v := 3) rfl ki_3 ?_
        refine z_idiv rfl rfl jk_3 (by omega) (by omega) (fun v6 ev6 => ?_)
        refine x_aloadn (x := 78) rfl rfl ?_
        refine z_getR (N := 16) (b := 32) 7 0 rfl f_7_55 rfl J rfl 9984 ⟨rfl, rfl⟩ rfl ?_
        refine z_getR (N := 20) (b := 33) 1 0 rfl f_7_63 rfl J rfl 4096 ⟨rfl, rfl⟩ rfl ?_
        refine z_getI (N := 4) 8 3 rfl f_7_85 rfl J rfl sg_33_3_4_1_0_1 (fun v7 qv7 ev7 => ?_)
        refine x_icge (tgt := 41) rfl rfl (ti_ge rfl rfl ⟨fun c8 => ?_, fun c8 => ?_⟩)
        ·
          refine x_iconst (v := 0) rfl ki_0 ?_
          refine x_zret rfl rfl (by decide) ?_
          show jX m_X7_haveKin 4 0 0 27 [(0, .ref 78), (1, .int l1), (2, .int l2), (3, .int l3)] [.int 0] _ 0 0 _
          refine x_ifeq (tgt := 122) rfl rfl (ti_eq jk_0 jk_0 (br_t (by omega) ?_))
          exact jX.sub (jsb_c rfl (jsb_c rfl (jsb_c rfl (jsb_c rfl jsb_n)))) (ct_X7_haveKin_r78_122 hD hQ ih l1 l2 l3 h (jr_of rfl (by omega)) (jr_of rfl (by omega)) (jr_of rfl (by omega)) (by omega) J Sm)
        ·
          refine x_aloadn (x := 78) rfl rfl ?_
          refine z_getR (N := 16) (b := 79) 7 7 rfl f_7_27 rfl J rfl 9991 ⟨rfl, rfl⟩ rfl ?_
          refine x_iloadn (x := l3) rfl rfl ?_
          refine z_iald (N := 600) rfl J rfl sg_79_0_600_1_0_1 rfl (by omega) (fun v9 qv9 ev9 => ?_)
          refine x_iconst (v := (-1)) rfl ki_m1 ?_
          refine x_iceq (tgt := 41) rfl rfl (ti_eq rfl jk_m1 ⟨fun c10 => ?_, fun c10 => ?_⟩)
          ·
            refine x_iconst (v := 0) rfl ki_0 ?_
            refine x_zret rfl rfl (by decide) ?_
            show jX m_X7_haveKin 4 0 0 27 [(0, .ref 78), (1, .int l1), (2, .int l2), (3, .int l3)] [.int 0] _ 0 0 _
            refine x_ifeq (tgt := 122) rfl rfl (ti_eq jk_0 jk_0 (br_t (by omega) ?_))
            exact jX.sub (jsb_c rfl (jsb_c rfl (jsb_c rfl (jsb_c rfl jsb_n)))) (ct_X7_haveKin_r78_122 hD hQ ih l1 l2 l3 h (jr_of rfl (by omega)) (jr_of rfl (by omega)) (jr_of rfl (by omega)) (by omega) J Sm)
          ·
            refine x_iconst (v := 1) rfl ki_1 ?_
            refine x_goto (tgt := 42) rfl rfl ?_
            refine x_zret rfl rfl (by decide) ?_
            show jX m_X7_haveKin 4 0 0 27 [(0, .ref 78), (1, .int l1), (2, .int l2), (3, .int l3)] [.int 1] _ 0 0 _
            refine x_ifeq (tgt := 122) rfl rfl (ti_eq jk_1 jk_0 (br_f (by omega) ?_))
            refine x_aloadn (x := 78) rfl rfl ?_
            refine z_getR (N := 16) (b := 70) 7 1 rfl f_7_59 rfl J rfl 9985 ⟨rfl, rfl⟩ rfl ?_
            refine x_iloadn (x := l3) rfl rfl ?_
            refine x_inv (N := m_X5_isNamedInFull) (As := [.int l3]) (b := 70) (st := []) (d' := 3) (mc := 0) (ms := 0) (host := "") 5 rfl t_X5_isNamedInFull ⟨Or.inl q_7_137, i_X5_isNamedInFull.1, i_X5_isNamedInFull.2⟩ ⟨by decide, rfl⟩ (congrArg Prod.fst (J.1.1 70 (5, 9) rfl)) rfl (by decide) rfl rfl ⟨by decide, by decide⟩ (jC.of rfl k_X5_isNamedInFull rfl ?_)
            show jX m_X5_isNamedInFull 3 0 0 0 [(0, .ref 70), (1, .int l3)] [] _ 0 0 _
            refine x_aloadn (x := 70) rfl rfl ?_
            refine x_iloadn (x := l3) rfl rfl ?_
            refine x_iconst (v := 0) rfl ki_0 ?_
            refine x_inv (N := m_X5_lengthOf) (As := [.int l3, .int 0]) (b := 70) (st := []) (d' := 2) (mc := 0) (ms := 0) (host := "") 5 rfl t_X5_lengthOf ⟨Or.inl q_5_133, i_X5_lengthOf.1, i_X5_lengthOf.2⟩ ⟨by decide, rfl⟩ (congrArg Prod.fst (J.1.1 70 (5, 9) rfl)) rfl (by decide) rfl rfl ⟨by decide, by decide⟩ (jC.of rfl k_X5_lengthOf rfl ?_)
            show jX m_X5_lengthOf 2 0 0 0 [(0, .ref 70), (1, .int l3), (2, .int 0)] [] _ 0 0 _
            refine x_iloadn (x := l3) rfl rfl ?_
            refine x_iconst (v := 2) rfl ki_2 ?_
            refine z_imul rfl rfl jk_2 (by omega) (fun v11 ev11 => ?_)
            refine x_iloadn (x := 0) rfl rfl ?_
            refine z_iadd rfl rfl jk_0 (by omega) (fun v12 ev12 => ?_)
            refine x_istoren (ls' := [(3, .int v12), (0, .ref 70), (1, .int l3), (2, .int 0)]) rfl rfl rfl ?_
            refine x_iloadn (x := v12) rfl rfl ?_
            refine x_iflt (tgt := 26) rfl rfl (ti_lt rfl jk_0 (br_f (by omega) ?_))
            refine x_iloadn (x := v12) rfl rfl ?_
            refine x_sipush (v := 1200) rfl ks_1200 ?_
            refine x_icge (tgt := 26) rfl rfl (ti_ge rfl jk_1200 (br_f (by omega) ?_))
            refine x_aloadn (x := 70) rfl rfl ?_
            refine z_getR (N := 9) (b := 76) 5 7 rfl f_5_28 rfl J rfl 8967 ⟨rfl, rfl⟩ rfl ?_
            refine x_iloadn (x := v12) rfl rfl ?_
            refine z_iald (N := 1200) rfl J rfl sg_76_0_1200_1_0_1 rfl (by omega) (fun v13 qv13 ev13 => ?_)
            refine x_goto (tgt := 27) rfl rfl ?_
            refine x_iret rfl rfl ?_
            show jX m_X5_isNamedInFull 3 0 0 6 [(0, .ref 70), (1, .int l3)] [.int v13] _ 0 0 _
            refine x_iflt (tgt := 22) rfl rfl (ti_lt rfl jk_0 ⟨fun c14 => ?_, fun c14 => ?_⟩)
            ·
              refine x_iconst (v := 0) rfl ki_0 ?_
              refine x_zret rfl rfl (by decide) ?_
              show jX m_X7_haveKin 4 0 0 38 [(0, .ref 78), (1, .int l1), (2, .int l2), (3, .int l3)] [.int 0] _ 0 0 _
              refine x_ifne (tgt := 44) rfl rfl (ti_ne jk_0 jk_0 (bn_f (by omega) ?_))
              refine x_goto (tgt := 122) rfl rfl ?_
              exact jX.sub (jsb_c rfl (jsb_c rfl (jsb_c rfl (jsb_c rfl jsb_n)))) (ct_X7_haveKin_r78_122 hD hQ ih l1 l2 l3 h (jr_of rfl (by omega)) (jr_of rfl (by omega)) (jr_of rfl (by omega)) (by omega) J Sm)
            ·
              refine x_aloadn (x := 70) rfl rfl ?_
              refine x_iloadn (x := l3) rfl rfl ?_
              refine x_iconst (v := 1) rfl ki_1 ?_
              refine x_inv (N := m_X5_lengthOf) (As := [.int l3, .int 1]) (b := 70) (st := []) (d' := 2) (mc := 0) (ms := 0) (host := "") 5 rfl t_X5_lengthOf ⟨Or.inl q_5_133, i_X5_lengthOf.1, i_X5_lengthOf.2⟩ ⟨by decide, rfl⟩ (congrArg Prod.fst (J.1.1 70 (5, 9) rfl)) rfl (by decide) rfl rfl ⟨by decide, by decide⟩ (jC.of rfl k_X5_lengthOf rfl ?_)
              show jX m_X5_lengthOf 2 0 0 0 [(0, .ref 70), (1, .int l3), (2, .int 1)] [] _ 0 0 _
              refine x_iloadn (x := l3) rfl rfl ?_
              refine x_iconst (v := 2) rfl ki_2 ?_
              refine z_imul rfl rfl jk_2 (by omega) (fun v15 ev15 => ?_)
              refine x_iloadn (x := 1) rfl rfl ?_
              refine z_iadd rfl rfl jk_1 (by omega) (fun v16 ev16 => ?_)
              refine x_istoren (ls' := [(3, .int v16), (0, .ref 70), (1, .int l3), (2, .int 1)]) rfl rfl rfl ?_
              refine x_iloadn (x := v16) rfl rfl ?_
              refine x_iflt (tgt := 26) rfl rfl (ti_lt rfl jk_0 (br_f (by omega) ?_))
              refine x_iloadn (x := v16) rfl rfl ?_
              refine x_sipush (v := 1200) rfl ks_1200 ?_
              refine x_icge (tgt := 26) rfl rfl (ti_ge rfl jk_1200 (br_f (by omega) ?_))
              refine x_aloadn (x := 70) rfl rfl ?_
              refine z_getR (N := 9) (b := 76) 5 7 rfl f_5_28 rfl J rfl 8967 ⟨rfl, rfl⟩ rfl ?_
              refine x_iloadn (x := v16) rfl rfl ?_
              refine z_iald (N := 1200) rfl J rfl sg_76_0_1200_1_0_1 rfl (by omega) (fun v17 qv17 ev17 => ?_)
              refine x_goto (tgt := 27) rfl rfl ?_
              refine x_iret rfl rfl ?_
              show jX m_X5_isNamedInFull 3 0 0 15 [(0, .ref 70), (1, .int l3)] [.int v17] _ 0 0 _
              refine x_iflt (tgt := 22) rfl rfl (ti_lt rfl jk_0 ⟨fun c18 => ?_, fun c18 => ?_⟩)
              ·
                refine x_iconst (v := 0) rfl ki_0 ?_
                refine x_zret rfl rfl (by decide) ?_
                show jX m_X7_haveKin 4 0 0 38 [(0, .ref 78), (1, .int l1), (2, .int l2), (3, .int l3)] [.int 0] _ 0 0 _
                refine x_ifne (tgt := 44) rfl rfl (ti_ne jk_0 jk_0 (bn_f (by omega) ?_))
                refine x_goto (tgt := 122) rfl rfl ?_
                exact jX.sub (jsb_c rfl (jsb_c rfl (jsb_c rfl (jsb_c rfl jsb_n)))) (ct_X7_haveKin_r78_122 hD hQ ih l1 l2 l3 h (jr_of rfl (by omega)) (jr_of rfl (by omega)) (jr_of rfl (by omega)) (by omega) J Sm)
              ·
                refine x_iconst (v := 1) rfl ki_1 ?_
                refine x_goto (tgt := 23) rfl rfl ?_
                refine x_zret rfl rfl (by decide) ?_
                show jX m_X7_haveKin 4 0 0 38 [(0, .ref 78), (1, .int l1), (2, .int l2), (3, .int l3)] [.int 1] _ 0 0 _
                refine x_ifne (tgt := 44) rfl rfl (ti_ne jk_1 jk_0 (bn_t (by omega) ?_))
                refine x_iloadn (x := l2) rfl rfl ?_
                refine x_iconst (v := 3) rfl ki_3 ?_
                refine z_idiv rfl rfl jk_3 (by omega) (by omega) (fun v19 ev19 => ?_)
                refine x_iconst (v := 3) rfl ki_3 ?_
                refine z_imul rfl rfl jk_3 (by omega) (fun v20 ev20 => ?_)
                refine x_istore (ls' := [(4, .int v20), (0, .ref 78), (1, .int l1), (2, .int l2), (3, .int l3)]) rfl rfl rfl ?_
                exact jX.sub (jsb_c rfl (jsb_c rfl (jsb_c rfl (jsb_c rfl (jsb_c rfl jsb_n))))) (ct_X7_haveKin_r78_51 hD hQ ih 601 l1 l2 l3 v20 v7 h (by omega) (jr_of rfl (by omega)) (jr_of rfl (by omega)) (jr_of rfl (by omega)) (jr_of rfl (by omega)) (jr_of rfl (by omega)) qv7 (by omega) J Sm)
set_option maxRecDepth 100000 in
set_option maxHeartbeats 4000000 in
theorem sf_X7_haveKin_r78 {Dy : jH → Prop} {h : jH} {Q : Option Value → jH → Prop} {a1 : Int32} {a2 : Int32} (y1 : 0 ≤ a1.toInt ∧ a1.toInt ≤ 599) (y2 : 0 ≤ a2.toInt ∧ a2.toInt ≤ 599) (hD : jDk Dy) (J : jJ jSgX Dy h) (hQ : ∀ (v : Int32) h', 0 ≤ v.toInt ∧ v.toInt ≤ 1 → jJ jSgX Dy h' → jSm fp_X7_haveKin_r78 h h' → Q (some (.int v)) h') : jC m_X7_haveKin 4 0 0 [.ref 78, .int a1, .int a2] h Q := by
  refine jC.of rfl k_X7_haveKin rfl ?_
  have Sm := jSm_rf fp_X7_haveKin_r78 h
  show jX m_X7_haveKin 4 0 0 0 [(0, .ref 78), (1, .int a1), (2, .int a2)] [] _ 0 0 _
  refine x_iloadn (x := a1) rfl rfl ?_
  refine x_iconst (v := 3) rfl ki_3 ?_
  refine z_idiv rfl rfl jk_3 (by omega) (by omega) (fun v1 ev1 => ?_)
  refine x_iconst (v := 3) rfl ki_3 ?_
  refine z_imul rfl rfl jk_3 (by omega) (fun v2 ev2 => ?_)
  refine x_istoren (ls' := [(3, .int v2), (0, .ref 78), (1, .int a1), (2, .int a2)]) rfl rfl rfl ?_
  exact jX.sub (jsb_c rfl (jsb_c rfl (jsb_c rfl (jsb_c rfl jsb_n)))) (ct_X7_haveKin_r78_6 hD hQ  601 a1 a2 v2 h (by omega) (jr_of rfl (by omega)) (jr_of rfl (by omega)) (jr_of rfl (by omega)) J Sm)
def fp_X7_worthOf_r78 : jFp := []
set_option maxRecDepth 100000 in
set_option maxHeartbeats 4000000 in
theorem ct_X7_worthOf_r78_110 {Dy : jH → Prop} {h0 : jH} {Q : Option Value → jH → Prop} (hD : jDk Dy) (hQ : ∀ (v : Int32) h', (-1) ≤ v.toInt ∧ v.toInt ≤ 400 → jJ jSgX Dy h' → jSm fp_X7_worthOf_r78 h0 h' → Q (some (.int v)) h') : ∀ (s0 : Int32) (h : jH), 0 ≤ s0.toInt ∧ s0.toInt ≤ 400 → jJ jSgX Dy h → jSm fp_X7_worthOf_r78 h0 h → jX m_X7_worthOf 5 0 0 110 [] [.int s0] h 0 0 Q := by
  intro s0 h y0   J Sm
  refine x_iret rfl rfl ?_
  exact hQ _ _ (jr_of rfl (by omega)) J Sm
set_option maxRecDepth 100000 in
set_option maxHeartbeats 4000000 in
theorem ct_X7_worthOf_r78_91 {Dy : jH → Prop} {h0 : jH} {Q : Option Value → jH → Prop} (hD : jDk Dy) (hQ : ∀ (v : Int32) h', (-1) ≤ v.toInt ∧ v.toInt ≤ 400 → jJ jSgX Dy h' → jSm fp_X7_worthOf_r78 h0 h' → Q (some (.int v)) h') : ∀ (l1 : Int32) (l2 : Int32) (l3 : Int32) (h : jH), 0 ≤ l1.toInt ∧ l1.toInt ≤ 599 → 0 ≤ l2.toInt ∧ l2.toInt ≤ 599 → 0 ≤ l3.toInt ∧ l3.toInt ≤ 300 → jJ jSgX Dy h → jSm fp_X7_worthOf_r78 h0 h → jX m_X7_worthOf 5 0 0 91 [(0, .ref 78), (1, .int l1), (2, .int l2), (3, .int l3)] [] h 0 0 Q := by
  intro l1 l2 l3 h y0 y1 y2   J Sm
  refine x_aloadn (x := 78) rfl rfl ?_
  refine x_iloadn (x := l1) rfl rfl ?_
  refine x_iloadn (x := l2) rfl rfl ?_
  refine x_inv (N := m_X7_haveKin) (As := [.int l1, .int l2]) (b := 78) (st := []) (d' := 4) (mc := 0) (ms := 0) (host := "") 7 rfl t_X7_haveKin ⟨Or.inl q_7_131, i_X7_haveKin.1, i_X7_haveKin.2⟩ ⟨by decide, rfl⟩ (congrArg Prod.fst (J.1.1 78 (7, 16) rfl)) rfl (by decide) rfl rfl ⟨by decide, by decide⟩ (sf_X7_haveKin_r78 (jr_of rfl (by omega)) (jr_of rfl (by omega)) hD J  (fun v2 h ev2 J S1 => ?_))
  have Sm := jSm_tr rfl Sm S1
  show jX m_X7_worthOf 5 0 0 97 [(0, .ref 78), (1, .int l1), (2, .int l2), (3, .int l3)] [.int v2] _ 0 0 _
  refine x_ifeq (tgt := 109) rfl rfl (ti_eq rfl jk_0 ⟨fun c3 => ?_, fun c3 => ?_⟩)
  ·
    refine x_iloadn (x := l3) rfl rfl ?_
    exact jX.sub jsb_n (ct_X7_worthOf_r78_110 hD hQ  l3 h (jr_of rfl (by omega)) J Sm)
  ·
    refine x_iloadn (x := l3) rfl rfl ?_
    refine x_aloadn (x := 78) rfl rfl ?_
    refine z_getI (N := 16) 7 5 rfl f_7_21 rfl J rfl sg_78_5_6_1_0_1 (fun v4 qv4 ev4 => ?_)
    refine z_iadd rfl rfl rfl (by omega) (fun v5 ev5 => ?_)
    refine x_goto (tgt := 110) rfl rfl ?_
    exact jX.sub jsb_n (ct_X7_worthOf_r78_110 hD hQ  v5 h (jr_of rfl (by omega)) J Sm)
set_option maxRecDepth 100000 in
set_option maxHeartbeats 4000000 in
theorem ct_X7_worthOf_r78_84 {Dy : jH → Prop} {h0 : jH} {Q : Option Value → jH → Prop} (hD : jDk Dy) (hQ : ∀ (v : Int32) h', (-1) ≤ v.toInt ∧ v.toInt ≤ 400 → jJ jSgX Dy h' → jSm fp_X7_worthOf_r78 h0 h' → Q (some (.int v)) h') : ∀ (l1 : Int32) (l2 : Int32) (l3 : Int32) (h : jH), 0 ≤ l1.toInt ∧ l1.toInt ≤ 599 → 0 ≤ l2.toInt ∧ l2.toInt ≤ 599 → 0 ≤ l3.toInt ∧ l3.toInt ≤ 200 → jJ jSgX Dy h → jSm fp_X7_worthOf_r78 h0 h → jX m_X7_worthOf 5 0 0 84 [(0, .ref 78), (1, .int l1), (2, .int l2), (3, .int l3)] [] h 0 0 Q := by
  intro l1 l2 l3 h y0 y1 y2   J Sm
  refine x_iloadn (x := l3) rfl rfl ?_
  refine x_aloadn (x := 78) rfl rfl ?_
  refine z_getI (N := 16) 7 4 rfl f_7_18 rfl J rfl sg_78_4_5_1_0_1 (fun v1 qv1 ev1 => ?_)
  refine z_iadd rfl rfl rfl (by omega) (fun v2 ev2 => ?_)
  refine x_istoren (ls' := [(3, .int v2), (0, .ref 78), (1, .int l1), (2, .int l2)]) rfl rfl rfl ?_
  exact jX.sub (jsb_c rfl (jsb_c rfl (jsb_c rfl (jsb_c rfl jsb_n)))) (ct_X7_worthOf_r78_91 hD hQ  l1 l2 v2 h (jr_of rfl (by omega)) (jr_of rfl (by omega)) (jr_of rfl (by omega)) J Sm)
set_option maxRecDepth 100000 in
set_option maxHeartbeats 4000000 in
theorem ct_X7_worthOf_r78_66 {Dy : jH → Prop} {h0 : jH} {Q : Option Value → jH → Prop} (hD : jDk Dy) (hQ : ∀ (v : Int32) h', (-1) ≤ v.toInt ∧ v.toInt ≤ 400 → jJ jSgX Dy h' → jSm fp_X7_worthOf_r78 h0 h' → Q (some (.int v)) h') : ∀ (l1 : Int32) (l2 : Int32) (l3 : Int32) (h : jH), 0 ≤ l1.toInt ∧ l1.toInt ≤ 599 → 0 ≤ l2.toInt ∧ l2.toInt ≤ 599 → 0 ≤ l3.toInt ∧ l3.toInt ≤ 200 → jJ jSgX Dy h → jSm fp_X7_worthOf_r78 h0 h → jX m_X7_worthOf 5 0 0 66 [(0, .ref 78), (1, .int l1), (2, .int l2), (3, .int l3)] [] h 0 0 Q := by
  intro l1 l2 l3 h y0 y1 y2   J Sm
  refine x_aloadn (x := 78) rfl rfl ?_
  refine x_iloadn (x := l1) rfl rfl ?_
  refine x_iloadn (x := l2) rfl rfl ?_
  refine x_inv (N := m_X7_isWithAge) (As := [.int l1, .int l2]) (b := 78) (st := []) (d' := 4) (mc := 0) (ms := 0) (host := "") 7 rfl t_X7_isWithAge ⟨Or.inl q_7_116, i_X7_isWithAge.1, i_X7_isWithAge.2⟩ ⟨by decide, rfl⟩ (congrArg Prod.fst (J.1.1 78 (7, 16) rfl)) rfl (by decide) rfl rfl ⟨by decide, by decide⟩ (jC.of rfl k_X7_isWithAge rfl ?_)
  show jX m_X7_isWithAge 4 0 0 0 [(0, .ref 78), (1, .int l1), (2, .int l2)] [] _ 0 0 _
  refine x_aloadn (x := 78) rfl rfl ?_
  refine z_getR (N := 16) (b := 79) 7 7 rfl f_7_27 rfl J rfl 9991 ⟨rfl, rfl⟩ rfl ?_
  refine x_iloadn (x := l1) rfl rfl ?_
  refine z_iald (N := 600) rfl J rfl sg_79_0_600_1_0_1 rfl (by omega) (fun v1 qv1 ev1 => ?_)
  refine x_ifne (tgt := 33) rfl rfl (ti_ne rfl jk_0 ⟨fun c2 => ?_, fun c2 => ?_⟩)
  ·
    refine x_iconst (v := 0) rfl ki_0 ?_
    refine x_zret rfl rfl (by decide) ?_
    show jX m_X7_worthOf 5 0 0 72 [(0, .ref 78), (1, .int l1), (2, .int l2), (3, .int l3)] [.int 0] _ 0 0 _
    refine x_ifne (tgt := 84) rfl rfl (ti_ne jk_0 jk_0 (bn_f (by omega) ?_))
    refine x_aloadn (x := 78) rfl rfl ?_
    refine x_iloadn (x := l2) rfl rfl ?_
    refine x_iloadn (x := l1) rfl rfl ?_
    refine x_inv (N := m_X7_isWithAge) (As := [.int l2, .int l1]) (b := 78) (st := []) (d' := 4) (mc := 0) (ms := 0) (host := "") 7 rfl t_X7_isWithAge ⟨Or.inl q_7_116, i_X7_isWithAge.1, i_X7_isWithAge.2⟩ ⟨by decide, rfl⟩ (congrArg Prod.fst (J.1.1 78 (7, 16) rfl)) rfl (by decide) rfl rfl ⟨by decide, by decide⟩ (jC.of rfl k_X7_isWithAge rfl ?_)
    show jX m_X7_isWithAge 4 0 0 0 [(0, .ref 78), (1, .int l2), (2, .int l1)] [] _ 0 0 _
    refine x_aloadn (x := 78) rfl rfl ?_
    refine z_getR (N := 16) (b := 79) 7 7 rfl f_7_27 rfl J rfl 9991 ⟨rfl, rfl⟩ rfl ?_
    refine x_iloadn (x := l2) rfl rfl ?_
    refine z_iald (N := 600) rfl J rfl sg_79_0_600_1_0_1 rfl (by omega) (fun v3 qv3 ev3 => ?_)
    refine x_ifne (tgt := 33) rfl rfl (ti_ne rfl jk_0 ⟨fun c4 => ?_, fun c4 => ?_⟩)
    ·
      refine x_iconst (v := 0) rfl ki_0 ?_
      refine x_zret rfl rfl (by decide) ?_
      show jX m_X7_worthOf 5 0 0 81 [(0, .ref 78), (1, .int l1), (2, .int l2), (3, .int l3)] [.int 0] _ 0 0 _
      refine x_ifeq (tgt := 91) rfl rfl (ti_eq jk_0 jk_0 (br_t (by omega) ?_))
      exact jX.sub (jsb_c rfl (jsb_c rfl (jsb_c rfl (jsb_c rfl jsb_n)))) (ct_X7_worthOf_r78_91 hD hQ  l1 l2 l3 h (jr_of rfl (by omega)) (jr_of rfl (by omega)) (jr_of rfl (by omega)) J Sm)
    ·
      refine x_aloadn (x := 78) rfl rfl ?_
      refine z_getR (N := 16) (b := 79) 7 7 rfl f_7_27 rfl J rfl 9991 ⟨rfl, rfl⟩ rfl ?_
      refine x_iloadn (x := l1) rfl rfl ?_
      refine z_ialdM (N := 600) (v := v1) rfl J rfl rfl (by omega) qv1 ?_
      refine x_iconst (v := 5) rfl ki_5 ?_
      refine x_icne (tgt := 33) rfl rfl (ti_ne rfl jk_5 ⟨fun c5 => ?_, fun c5 => ?_⟩)
      ·
        refine x_iconst (v := 0) rfl ki_0 ?_
        refine x_zret rfl rfl (by decide) ?_
        show jX m_X7_worthOf 5 0 0 81 [(0, .ref 78), (1, .int l1), (2, .int l2), (3, .int l3)] [.int 0] _ 0 0 _
        refine x_ifeq (tgt := 91) rfl rfl (ti_eq jk_0 jk_0 (br_t (by omega) ?_))
        exact jX.sub (jsb_c rfl (jsb_c rfl (jsb_c rfl (jsb_c rfl jsb_n)))) (ct_X7_worthOf_r78_91 hD hQ  l1 l2 l3 h (jr_of rfl (by omega)) (jr_of rfl (by omega)) (jr_of rfl (by omega)) J Sm)
      ·
        refine x_aloadn (x := 78) rfl rfl ?_
        refine z_getR (N := 16) (b := 81) 7 9 rfl f_7_34 rfl J rfl 9993 ⟨rfl, rfl⟩ rfl ?_
        refine x_iloadn (x := l1) rfl rfl ?_
        refine z_iald0 (N := 600) rfl J rfl rfl (by omega) (fun v6 qv6 => ?_)
        have ev6 := jfull v6
        refine x_iconst (v := (-1)) rfl ki_m1 ?_
        refine x_iceq (tgt := 33) rfl rfl (ti_eq rfl jk_m1 ⟨fun c7 => ?_, fun c7 => ?_⟩)
        ·
          refine x_iconst (v := 0) rfl ki_0 ?_
          refine x_zret rfl rfl (by decide) ?_
          show jX m_X7_worthOf 5 0 0 81 [(0, .ref 78), (1, .int l1), (2, .int l2), (3, .int l3)] [.int 0] _ 0 0 _
          refine x_ifeq (tgt := 91) rfl rfl (ti_eq jk_0 jk_0 (br_t (by omega) ?_))
          exact jX.sub (jsb_c rfl (jsb_c rfl (jsb_c rfl (jsb_c rfl jsb_n)))) (ct_X7_worthOf_r78_91 hD hQ  l1 l2 l3 h (jr_of rfl (by omega)) (jr_of rfl (by omega)) (jr_of rfl (by omega)) J Sm)
        ·
          refine x_iconst (v := 1) rfl ki_1 ?_
          refine x_goto (tgt := 34) rfl rfl ?_
          refine x_zret rfl rfl (by decide) ?_
          show jX m_X7_worthOf 5 0 0 81 [(0, .ref 78), (1, .int l1), (2, .int l2), (3, .int l3)] [.int 1] _ 0 0 _
          refine x_ifeq (tgt := 91) rfl rfl (ti_eq jk_1 jk_0 (br_f (by omega) ?_))
          exact jX.sub (jsb_c rfl (jsb_c rfl (jsb_c rfl (jsb_c rfl jsb_n)))) (ct_X7_worthOf_r78_84 hD hQ  l1 l2 l3 h (jr_of rfl (by omega)) (jr_of rfl (by omega)) (jr_of rfl (by omega)) J Sm)
  ·
    refine x_aloadn (x := 78) rfl rfl ?_
    refine z_getR (N := 16) (b := 79) 7 7 rfl f_7_27 rfl J rfl 9991 ⟨rfl, rfl⟩ rfl ?_
    refine x_iloadn (x := l2) rfl rfl ?_
    refine z_iald (N := 600) rfl J rfl sg_79_0_600_1_0_1 rfl (by omega) (fun v8 qv8 ev8 => ?_)
    refine x_iconst (v := 5) rfl ki_5 ?_
    refine x_icne (tgt := 33) rfl rfl (ti_ne rfl jk_5 ⟨fun c9 => ?_, fun c9 => ?_⟩)
    ·
      refine x_iconst (v := 0) rfl ki_0 ?_
      refine x_zret rfl rfl (by decide) ?_
      show jX m_X7_worthOf 5 0 0 72 [(0, .ref 78), (1, .int l1), (2, .int l2), (3, .int l3)] [.int 0] _ 0 0 _
      refine x_ifne (tgt := 84) rfl rfl (ti_ne jk_0 jk_0 (bn_f (by omega) ?_))
      refine x_aloadn (x := 78) rfl rfl ?_
      refine x_iloadn (x := l2) rfl rfl ?_
      refine x_iloadn (x := l1) rfl rfl ?_
      refine x_inv (N := m_X7_isWithAge) (As := [.int l2, .int l1]) (b := 78) (st := []) (d' := 4) (mc := 0) (ms := 0) (host := "") 7 rfl t_X7_isWithAge ⟨Or.inl q_7_116, i_X7_isWithAge.1, i_X7_isWithAge.2⟩ ⟨by decide, rfl⟩ (congrArg Prod.fst (J.1.1 78 (7, 16) rfl)) rfl (by decide) rfl rfl ⟨by decide, by decide⟩ (jC.of rfl k_X7_isWithAge rfl ?_)
      show jX m_X7_isWithAge 4 0 0 0 [(0, .ref 78), (1, .int l2), (2, .int l1)] [] _ 0 0 _
      refine x_aloadn (x := 78) rfl rfl ?_
      refine z_getR (N := 16) (b := 79) 7 7 rfl f_7_27 rfl J rfl 9991 ⟨rfl, rfl⟩ rfl ?_
      refine x_iloadn (x := l2) rfl rfl ?_
      refine z_ialdM (N := 600) (v := v8) rfl J rfl rfl (by omega) qv8 ?_
      refine x_ifne (tgt := 33) rfl rfl (ti_ne rfl jk_0 ⟨fun c10 => ?_, fun c10 => ?_⟩)
      ·
        refine x_iconst (v := 0) rfl ki_0 ?_
        refine x_zret rfl rfl (by decide) ?_
        show jX m_X7_worthOf 5 0 0 81 [(0, .ref 78), (1, .int l1), (2, .int l2), (3, .int l3)] [.int 0] _ 0 0 _
        refine x_ifeq (tgt := 91) rfl rfl (ti_eq jk_0 jk_0 (br_t (by omega) ?_))
        exact jX.sub (jsb_c rfl (jsb_c rfl (jsb_c rfl (jsb_c rfl jsb_n)))) (ct_X7_worthOf_r78_91 hD hQ  l1 l2 l3 h (jr_of rfl (by omega)) (jr_of rfl (by omega)) (jr_of rfl (by omega)) J Sm)
      ·
        refine x_aloadn (x := 78) rfl rfl ?_
        refine z_getR (N := 16) (b := 79) 7 7 rfl f_7_27 rfl J rfl 9991 ⟨rfl, rfl⟩ rfl ?_
        refine x_iloadn (x := l1) rfl rfl ?_
        refine z_ialdM (N := 600) (v := v1) rfl J rfl rfl (by omega) qv1 ?_
        refine x_iconst (v := 5) rfl ki_5 ?_
        refine x_icne (tgt := 33) rfl rfl (ti_ne rfl jk_5 (bn_t (by omega) ?_))
        refine x_iconst (v := 0) rfl ki_0 ?_
        refine x_zret rfl rfl (by decide) ?_
        show jX m_X7_worthOf 5 0 0 81 [(0, .ref 78), (1, .int l1), (2, .int l2), (3, .int l3)] [.int 0] _ 0 0 _
        refine x_ifeq (tgt := 91) rfl rfl (ti_eq jk_0 jk_0 (br_t (by omega) ?_))
        exact jX.sub (jsb_c rfl (jsb_c rfl (jsb_c rfl (jsb_c rfl jsb_n)))) (ct_X7_worthOf_r78_91 hD hQ  l1 l2 l3 h (jr_of rfl (by omega)) (jr_of rfl (by omega)) (jr_of rfl (by omega)) J Sm)
    ·
      refine x_aloadn (x := 78) rfl rfl ?_
      refine z_getR (N := 16) (b := 81) 7 9 rfl f_7_34 rfl J rfl 9993 ⟨rfl, rfl⟩ rfl ?_
      refine x_iloadn (x := l2) rfl rfl ?_
      refine z_iald0 (N := 600) rfl J rfl rfl (by omega) (fun v11 qv11 => ?_)
      have ev11 := jfull v11
      refine x_iconst (v := (-1)) rfl ki_m1 ?_
      refine x_iceq (tgt := 33) rfl rfl (ti_eq rfl jk_m1 ⟨fun c12 => ?_, fun c12 => ?_⟩)
      ·
        refine x_iconst (v := 0) rfl ki_0 ?_
        refine x_zret rfl rfl (by decide) ?_
        show jX m_X7_worthOf 5 0 0 72 [(0, .ref 78), (1, .int l1), (2, .int l2), (3, .int l3)] [.int 0] _ 0 0 _
        refine x_ifne (tgt := 84) rfl rfl (ti_ne jk_0 jk_0 (bn_f (by omega) ?_))
        refine x_aloadn (x := 78) rfl rfl ?_
        refine x_iloadn (x := l2) rfl rfl ?_
        refine x_iloadn (x := l1) rfl rfl ?_
        refine x_inv (N := m_X7_isWithAge) (As := [.int l2, .int l1]) (b := 78) (st := []) (d' := 4) (mc := 0) (ms := 0) (host := "") 7 rfl t_X7_isWithAge ⟨Or.inl q_7_116, i_X7_isWithAge.1, i_X7_isWithAge.2⟩ ⟨by decide, rfl⟩ (congrArg Prod.fst (J.1.1 78 (7, 16) rfl)) rfl (by decide) rfl rfl ⟨by decide, by decide⟩ (jC.of rfl k_X7_isWithAge rfl ?_)
        show jX m_X7_isWithAge 4 0 0 0 [(0, .ref 78), (1, .int l2), (2, .int l1)] [] _ 0 0 _
        refine x_aloadn (x := 78) rfl rfl ?_
        refine z_getR (N := 16) (b := 79) 7 7 rfl f_7_27 rfl J rfl 9991 ⟨rfl, rfl⟩ rfl ?_
        refine x_iloadn (x := l2) rfl rfl ?_
        refine z_ialdM (N := 600) (v := v8) rfl J rfl rfl (by omega) qv8 ?_
        refine x_ifne (tgt := 33) rfl rfl (ti_ne rfl jk_0 (bn_t (by omega) ?_))
        refine x_iconst (v := 0) rfl ki_0 ?_
        refine x_zret rfl rfl (by decide) ?_
        show jX m_X7_worthOf 5 0 0 81 [(0, .ref 78), (1, .int l1), (2, .int l2), (3, .int l3)] [.int 0] _ 0 0 _
        refine x_ifeq (tgt := 91) rfl rfl (ti_eq jk_0 jk_0 (br_t (by omega) ?_))
        exact jX.sub (jsb_c rfl (jsb_c rfl (jsb_c rfl (jsb_c rfl jsb_n)))) (ct_X7_worthOf_r78_91 hD hQ  l1 l2 l3 h (jr_of rfl (by omega)) (jr_of rfl (by omega)) (jr_of rfl (by omega)) J Sm)
      ·
        refine x_iconst (v := 1) rfl ki_1 ?_
        refine x_goto (tgt := 34) rfl rfl ?_
        refine x_zret rfl rfl (by decide) ?_
        show jX m_X7_worthOf 5 0 0 72 [(0, .ref 78), (1, .int l1), (2, .int l2), (3, .int l3)] [.int 1] _ 0 0 _
        refine x_ifne (tgt := 84) rfl rfl (ti_ne jk_1 jk_0 (bn_t (by omega) ?_))
        exact jX.sub (jsb_c rfl (jsb_c rfl (jsb_c rfl (jsb_c rfl jsb_n)))) (ct_X7_worthOf_r78_84 hD hQ  l1 l2 l3 h (jr_of rfl (by omega)) (jr_of rfl (by omega)) (jr_of rfl (by omega)) J Sm)
set_option maxRecDepth 100000 in
set_option maxHeartbeats 4000000 in
theorem ct_X7_worthOf_r78_33 {Dy : jH → Prop} {h0 : jH} {Q : Option Value → jH → Prop} (hD : jDk Dy) (hQ : ∀ (v : Int32) h', (-1) ≤ v.toInt ∧ v.toInt ≤ 400 → jJ jSgX Dy h' → jSm fp_X7_worthOf_r78 h0 h' → Q (some (.int v)) h') : ∀ (l1 : Int32) (l2 : Int32) (l3 : Int32) (h : jH), 0 ≤ l1.toInt ∧ l1.toInt ≤ 599 → 0 ≤ l2.toInt ∧ l2.toInt ≤ 599 → 0 ≤ l3.toInt ∧ l3.toInt ≤ 100 → jJ jSgX Dy h → jSm fp_X7_worthOf_r78 h0 h → jX m_X7_worthOf 5 0 0 33 [(0, .ref 78), (1, .int l1), (2, .int l2), (3, .int l3)] [] h 0 0 Q := by
  intro l1 l2 l3 h y0 y1 y2   J Sm
  refine x_aloadn (x := 78) rfl rfl ?_
  refine z_getR (N := 16) (b := 70) 7 1 rfl f_7_59 rfl J rfl 9985 ⟨rfl, rfl⟩ rfl ?_
  refine x_iloadn (x := l1) rfl rfl ?_
  refine x_iloadn (x := l2) rfl rfl ?_
  refine x_iconst (v := 1) rfl ki_1 ?_
  refine x_inv (N := m_X5_areKnown) (As := [.int l1, .int l2, .int 1]) (b := 70) (st := []) (d' := 4) (mc := 0) (ms := 0) (host := "") 5 rfl t_X5_areKnown ⟨Or.inl q_7_128, i_X5_areKnown.1, i_X5_areKnown.2⟩ ⟨by decide, rfl⟩ (congrArg Prod.fst (J.1.1 70 (5, 9) rfl)) rfl (by decide) rfl rfl ⟨by decide, by decide⟩ (jC.of rfl k_X5_areKnown rfl ?_)
  show jX m_X5_areKnown 4 0 0 0 [(0, .ref 70), (1, .int l1), (2, .int l2), (3, .int 1)] [] _ 0 0 _
  refine x_aloadn (x := 70) rfl rfl ?_
  refine x_iloadn (x := l1) rfl rfl ?_
  refine x_iloadn (x := 1) rfl rfl ?_
  refine x_inv (N := m_X5_lengthOf) (As := [.int l1, .int 1]) (b := 70) (st := []) (d' := 3) (mc := 0) (ms := 0) (host := "") 5 rfl t_X5_lengthOf ⟨Or.inl q_5_133, i_X5_lengthOf.1, i_X5_lengthOf.2⟩ ⟨by decide, rfl⟩ (congrArg Prod.fst (J.1.1 70 (5, 9) rfl)) rfl (by decide) rfl rfl ⟨by decide, by decide⟩ (jC.of rfl k_X5_lengthOf rfl ?_)
  show jX m_X5_lengthOf 3 0 0 0 [(0, .ref 70), (1, .int l1), (2, .int 1)] [] _ 0 0 _
  refine x_iloadn (x := l1) rfl rfl ?_
  refine x_iconst (v := 2) rfl ki_2 ?_
  refine z_imul rfl rfl jk_2 (by omega) (fun v1 ev1 => ?_)
  refine x_iloadn (x := 1) rfl rfl ?_
  refine z_iadd rfl rfl jk_1 (by omega) (fun v2 ev2 => ?_)
  refine x_istoren (ls' := [(3, .int v2), (0, .ref 70), (1, .int l1), (2, .int 1)]) rfl rfl rfl ?_
  refine x_iloadn (x := v2) rfl rfl ?_
  refine x_iflt (tgt := 26) rfl rfl (ti_lt rfl jk_0 (br_f (by omega) ?_))
  refine x_iloadn (x := v2) rfl rfl ?_
  refine x_sipush (v := 1200) rfl ks_1200 ?_
  refine x_icge (tgt := 26) rfl rfl (ti_ge rfl jk_1200 (br_f (by omega) ?_))
  refine x_aloadn (x := 70) rfl rfl ?_
  refine z_getR (N := 9) (b := 76) 5 7 rfl f_5_28 rfl J rfl 8967 ⟨rfl, rfl⟩ rfl ?_
  refine x_iloadn (x := v2) rfl rfl ?_
  refine z_iald (N := 1200) rfl J rfl sg_76_0_1200_1_0_1 rfl (by omega) (fun v3 qv3 ev3 => ?_)
  refine x_goto (tgt := 27) rfl rfl ?_
  refine x_iret rfl rfl ?_
  show jX m_X5_areKnown 4 0 0 6 [(0, .ref 70), (1, .int l1), (2, .int l2), (3, .int 1)] [.int v3] _ 0 0 _
  refine x_iflt (tgt := 22) rfl rfl (ti_lt rfl jk_0 ⟨fun c4 => ?_, fun c4 => ?_⟩)
  ·
    refine x_iconst (v := 0) rfl ki_0 ?_
    refine x_zret rfl rfl (by decide) ?_
    show jX m_X7_worthOf 5 0 0 43 [(0, .ref 78), (1, .int l1), (2, .int l2), (3, .int l3)] [.int 0] _ 0 0 _
    refine x_ifeq (tgt := 66) rfl rfl (ti_eq jk_0 jk_0 (br_t (by omega) ?_))
    exact jX.sub (jsb_c rfl (jsb_c rfl (jsb_c rfl (jsb_c rfl jsb_n)))) (ct_X7_worthOf_r78_66 hD hQ  l1 l2 l3 h (jr_of rfl (by omega)) (jr_of rfl (by omega)) (jr_of rfl (by omega)) J Sm)
  ·
    refine x_aloadn (x := 70) rfl rfl ?_
    refine x_iloadn (x := l2) rfl rfl ?_
    refine x_iloadn (x := 1) rfl rfl ?_
    refine x_inv (N := m_X5_lengthOf) (As := [.int l2, .int 1]) (b := 70) (st := []) (d' := 3) (mc := 0) (ms := 0) (host := "") 5 rfl t_X5_lengthOf ⟨Or.inl q_5_133, i_X5_lengthOf.1, i_X5_lengthOf.2⟩ ⟨by decide, rfl⟩ (congrArg Prod.fst (J.1.1 70 (5, 9) rfl)) rfl (by decide) rfl rfl ⟨by decide, by decide⟩ (jC.of rfl k_X5_lengthOf rfl ?_)
    show jX m_X5_lengthOf 3 0 0 0 [(0, .ref 70), (1, .int l2), (2, .int 1)] [] _ 0 0 _
    refine x_iloadn (x := l2) rfl rfl ?_
    refine x_iconst (v := 2) rfl ki_2 ?_
    refine z_imul rfl rfl jk_2 (by omega) (fun v5 ev5 => ?_)
    refine x_iloadn (x := 1) rfl rfl ?_
    refine z_iadd rfl rfl jk_1 (by omega) (fun v6 ev6 => ?_)
    refine x_istoren (ls' := [(3, .int v6), (0, .ref 70), (1, .int l2), (2, .int 1)]) rfl rfl rfl ?_
    refine x_iloadn (x := v6) rfl rfl ?_
    refine x_iflt (tgt := 26) rfl rfl (ti_lt rfl jk_0 (br_f (by omega) ?_))
    refine x_iloadn (x := v6) rfl rfl ?_
    refine x_sipush (v := 1200) rfl ks_1200 ?_
    refine x_icge (tgt := 26) rfl rfl (ti_ge rfl jk_1200 (br_f (by omega) ?_))
    refine x_aloadn (x := 70) rfl rfl ?_
    refine z_getR (N := 9) (b := 76) 5 7 rfl f_5_28 rfl J rfl 8967 ⟨rfl, rfl⟩ rfl ?_
    refine x_iloadn (x := v6) rfl rfl ?_
    refine z_iald (N := 1200) rfl J rfl sg_76_0_1200_1_0_1 rfl (by omega) (fun v7 qv7 ev7 => ?_)
    refine x_goto (tgt := 27) rfl rfl ?_
    refine x_iret rfl rfl ?_
    show jX m_X5_areKnown 4 0 0 15 [(0, .ref 70), (1, .int l1), (2, .int l2), (3, .int 1)] [.int v7] _ 0 0 _
    refine x_iflt (tgt := 22) rfl rfl (ti_lt rfl jk_0 ⟨fun c8 => ?_, fun c8 => ?_⟩)
    ·
      refine x_iconst (v := 0) rfl ki_0 ?_
      refine x_zret rfl rfl (by decide) ?_
      show jX m_X7_worthOf 5 0 0 43 [(0, .ref 78), (1, .int l1), (2, .int l2), (3, .int l3)] [.int 0] _ 0 0 _
      refine x_ifeq (tgt := 66) rfl rfl (ti_eq jk_0 jk_0 (br_t (by omega) ?_))
      exact jX.sub (jsb_c rfl (jsb_c rfl (jsb_c rfl (jsb_c rfl jsb_n)))) (ct_X7_worthOf_r78_66 hD hQ  l1 l2 l3 h (jr_of rfl (by omega)) (jr_of rfl (by omega)) (jr_of rfl (by omega)) J Sm)
    ·
      refine x_iconst (v := 1) rfl ki_1 ?_
      refine x_goto (tgt := 23) rfl rfl ?_
      refine x_zret rfl rfl (by decide) ?_
      show jX m_X7_worthOf 5 0 0 43 [(0, .ref 78), (1, .int l1), (2, .int l2), (3, .int l3)] [.int 1] _ 0 0 _
      refine x_ifeq (tgt := 66) rfl rfl (ti_eq jk_1 jk_0 (br_f (by omega) ?_))
      refine x_aloadn (x := 78) rfl rfl ?_
      refine z_getR (N := 16) (b := 70) 7 1 rfl f_7_59 rfl J rfl 9985 ⟨rfl, rfl⟩ rfl ?_
      refine x_iloadn (x := l1) rfl rfl ?_
      refine x_iloadn (x := l2) rfl rfl ?_
      refine x_iconst (v := 1) rfl ki_1 ?_
      refine x_inv (N := m_X5_differ) (As := [.int l1, .int l2, .int 1]) (b := 70) (st := []) (d' := 1) (mc := 0) (ms := 0) (host := "") 5 rfl t_X5_differ ⟨Or.inl q_7_92, i_X5_differ.1, i_X5_differ.2⟩ ⟨by decide, rfl⟩ (congrArg Prod.fst (J.1.1 70 (5, 9) rfl)) rfl (by decide) rfl rfl ⟨by decide, by decide⟩ (sf_X5_differ_r70 (jr_of rfl (by omega)) (jr_of rfl (by omega)) (jr_of jk_1 (by omega)) hD J  (fun v10 h ev10 J S9 => ?_))
      have Sm := jSm_tr rfl Sm S9
      show jX m_X7_worthOf 5 0 0 56 [(0, .ref 78), (1, .int l1), (2, .int l2), (3, .int l3)] [.int v10] _ 0 0 _
      refine x_ifne (tgt := 66) rfl rfl (ti_ne rfl jk_0 ⟨fun c11 => ?_, fun c11 => ?_⟩)
      ·
        exact jX.sub (jsb_c rfl (jsb_c rfl (jsb_c rfl (jsb_c rfl jsb_n)))) (ct_X7_worthOf_r78_66 hD hQ  l1 l2 l3 h (jr_of rfl (by omega)) (jr_of rfl (by omega)) (jr_of rfl (by omega)) J Sm)
      ·
        refine x_iloadn (x := l3) rfl rfl ?_
        refine x_aloadn (x := 78) rfl rfl ?_
        refine z_getI (N := 16) 7 3 rfl f_7_15 rfl J rfl sg_78_3_4_1_0_1 (fun v12 qv12 ev12 => ?_)
        refine z_iadd rfl rfl rfl (by omega) (fun v13 ev13 => ?_)
        refine x_istoren (ls' := [(3, .int v13), (0, .ref 78), (1, .int l1), (2, .int l2)]) rfl rfl rfl ?_
        exact jX.sub (jsb_c rfl (jsb_c rfl (jsb_c rfl (jsb_c rfl jsb_n)))) (ct_X7_worthOf_r78_66 hD hQ  l1 l2 v13 h (jr_of rfl (by omega)) (jr_of rfl (by omega)) (jr_of rfl (by omega)) J Sm)
set_option maxRecDepth 100000 in
set_option maxHeartbeats 4000000 in
theorem sf_X7_worthOf_r78 {Dy : jH → Prop} {h : jH} {Q : Option Value → jH → Prop} {a1 : Int32} {a2 : Int32} (y1 : 0 ≤ a1.toInt ∧ a1.toInt ≤ 599) (y2 : 0 ≤ a2.toInt ∧ a2.toInt ≤ 599) (hD : jDk Dy) (J : jJ jSgX Dy h) (hQ : ∀ (v : Int32) h', (-1) ≤ v.toInt ∧ v.toInt ≤ 400 → jJ jSgX Dy h' → jSm fp_X7_worthOf_r78 h h' → Q (some (.int v)) h') : jC m_X7_worthOf 5 0 0 [.ref 78, .int a1, .int a2] h Q := by
  refine jC.of rfl k_X7_worthOf rfl ?_
  have Sm := jSm_rf fp_X7_worthOf_r78 h
  show jX m_X7_worthOf 5 0 0 0 [(0, .ref 78), (1, .int a1), (2, .int a2)] [] _ 0 0 _
  refine x_aloadn (x := 78) rfl rfl ?_
  refine x_iloadn (x := a1) rfl rfl ?_
  refine x_iloadn (x := a2) rfl rfl ?_
  refine x_inv (N := m_X7_reasonFor) (As := [.int a1, .int a2]) (b := 78) (st := []) (d' := 3) (mc := 0) (ms := 0) (host := "") 7 rfl t_X7_reasonFor ⟨Or.inl q_7_125, i_X7_reasonFor.1, i_X7_reasonFor.2⟩ ⟨by decide, rfl⟩ (congrArg Prod.fst (J.1.1 78 (7, 16) rfl)) rfl (by decide) rfl rfl ⟨by decide, by decide⟩ (sf_X7_reasonFor_r78 (jr_of rfl (by omega)) (jr_of rfl (by omega)) hD J  (fun v2 h ev2 J S1 => ?_))
  have Sm := jSm_tr rfl Sm S1
  show jX m_X7_worthOf 5 0 0 6 [(0, .ref 78), (1, .int a1), (2, .int a2)] [.int v2] _ 0 0 _
  refine x_ifeq (tgt := 11) rfl rfl (ti_eq rfl jk_0 ⟨fun c3 => ?_, fun c3 => ?_⟩)
  ·
    refine x_iconst (v := 0) rfl ki_0 ?_
    refine x_istoren (ls' := [(3, .int 0), (0, .ref 78), (1, .int a1), (2, .int a2)]) rfl rfl rfl ?_
    refine x_aloadn (x := 78) rfl rfl ?_
    refine z_getR (N := 16) (b := 70) 7 1 rfl f_7_59 rfl J rfl 9985 ⟨rfl, rfl⟩ rfl ?_
    refine x_iloadn (x := a1) rfl rfl ?_
    refine x_iloadn (x := a2) rfl rfl ?_
    refine x_iconst (v := 0) rfl ki_0 ?_
    refine x_inv (N := m_X5_areKnown) (As := [.int a1, .int a2, .int 0]) (b := 70) (st := []) (d' := 4) (mc := 0) (ms := 0) (host := "") 5 rfl t_X5_areKnown ⟨Or.inl q_7_128, i_X5_areKnown.1, i_X5_areKnown.2⟩ ⟨by decide, rfl⟩ (congrArg Prod.fst (J.1.1 70 (5, 9) rfl)) rfl (by decide) rfl rfl ⟨by decide, by decide⟩ (jC.of rfl k_X5_areKnown rfl ?_)
    show jX m_X5_areKnown 4 0 0 0 [(0, .ref 70), (1, .int a1), (2, .int a2), (3, .int 0)] [] _ 0 0 _
    refine x_aloadn (x := 70) rfl rfl ?_
    refine x_iloadn (x := a1) rfl rfl ?_
    refine x_iloadn (x := 0) rfl rfl ?_
    refine x_inv (N := m_X5_lengthOf) (As := [.int a1, .int 0]) (b := 70) (st := []) (d' := 3) (mc := 0) (ms := 0) (host := "") 5 rfl t_X5_lengthOf ⟨Or.inl q_5_133, i_X5_lengthOf.1, i_X5_lengthOf.2⟩ ⟨by decide, rfl⟩ (congrArg Prod.fst (J.1.1 70 (5, 9) rfl)) rfl (by decide) rfl rfl ⟨by decide, by decide⟩ (jC.of rfl k_X5_lengthOf rfl ?_)
    show jX m_X5_lengthOf 3 0 0 0 [(0, .ref 70), (1, .int a1), (2, .int 0)] [] _ 0 0 _
    refine x_iloadn (x := a1) rfl rfl ?_
    refine x_iconst (v := 2) rfl ki_2 ?_
    refine z_imul rfl rfl jk_2 (by omega) (fun v4 ev4 => ?_)
    refine x_iloadn (x := 0) rfl rfl ?_
    refine z_iadd rfl rfl jk_0 (by omega) (fun v5 ev5 => ?_)
    refine x_istoren (ls' := [(3, .int v5), (0, .ref 70), (1, .int a1), (2, .int 0)]) rfl rfl rfl ?_
    refine x_iloadn (x := v5) rfl rfl ?_
    refine x_iflt (tgt := 26) rfl rfl (ti_lt rfl jk_0 (br_f (by omega) ?_))
    refine x_iloadn (x := v5) rfl rfl ?_
    refine x_sipush (v := 1200) rfl ks_1200 ?_
    refine x_icge (tgt := 26) rfl rfl (ti_ge rfl jk_1200 (br_f (by omega) ?_))
    refine x_aloadn (x := 70) rfl rfl ?_
    refine z_getR (N := 9) (b := 76) 5 7 rfl f_5_28 rfl J rfl 8967 ⟨rfl, rfl⟩ rfl ?_
    refine x_iloadn (x := v5) rfl rfl ?_
    refine z_iald (N := 1200) rfl J rfl sg_76_0_1200_1_0_1 rfl (by omega) (fun v6 qv6 ev6 => ?_)
    refine x_goto (tgt := 27) rfl rfl ?_
    refine x_iret rfl rfl ?_
    show jX m_X5_areKnown 4 0 0 6 [(0, .ref 70), (1, .int a1), (2, .int a2), (3, .int 0)] [.int v6] _ 0 0 _
    refine x_iflt (tgt := 22) rfl rfl (ti_lt rfl jk_0 ⟨fun c7 => ?_, fun c7 => ?_⟩)
    ·
      refine x_iconst (v := 0) rfl ki_0 ?_
      refine x_zret rfl rfl (by decide) ?_
      show jX m_X7_worthOf 5 0 0 23 [(3, .int 0), (0, .ref 78), (1, .int a1), (2, .int a2)] [.int 0] _ 0 0 _
      refine x_ifeq (tgt := 33) rfl rfl (ti_eq jk_0 jk_0 (br_t (by omega) ?_))
      exact jX.sub (jsb_c rfl (jsb_c rfl (jsb_c rfl (jsb_c rfl jsb_n)))) (ct_X7_worthOf_r78_33 hD hQ  a1 a2 0 h (jr_of rfl (by omega)) (jr_of rfl (by omega)) (jr_of jk_0 (by omega)) J Sm)
    ·
      refine x_aloadn (x := 70) rfl rfl ?_
      refine x_iloadn (x := a2) rfl rfl ?_
      refine x_iloadn (x := 0) rfl rfl ?_
      refine x_inv (N := m_X5_lengthOf) (As := [.int a2, .int 0]) (b := 70) (st := []) (d' := 3) (mc := 0) (ms := 0) (host := "") 5 rfl t_X5_lengthOf ⟨Or.inl q_5_133, i_X5_lengthOf.1, i_X5_lengthOf.2⟩ ⟨by decide, rfl⟩ (congrArg Prod.fst (J.1.1 70 (5, 9) rfl)) rfl (by decide) rfl rfl ⟨by decide, by decide⟩ (jC.of rfl k_X5_lengthOf rfl ?_)
      show jX m_X5_lengthOf 3 0 0 0 [(0, .ref 70), (1, .int a2), (2, .int 0)] [] _ 0 0 _
      refine x_iloadn (x := a2) rfl rfl ?_
      refine x_iconst (v := 2) rfl ki_2 ?_
      refine z_imul rfl rfl jk_2 (by omega) (fun v8 ev8 => ?_)
      refine x_iloadn (x := 0) rfl rfl ?_
      refine z_iadd rfl rfl jk_0 (by omega) (fun v9 ev9 => ?_)
      refine x_istoren (ls' := [(3, .int v9), (0, .ref 70), (1, .int a2), (2, .int 0)]) rfl rfl rfl ?_
      refine x_iloadn (x := v9) rfl rfl ?_
      refine x_iflt (tgt := 26) rfl rfl (ti_lt rfl jk_0 (br_f (by omega) ?_))
      refine x_iloadn (x := v9) rfl rfl ?_
      refine x_sipush (v := 1200) rfl ks_1200 ?_
      refine x_icge (tgt := 26) rfl rfl (ti_ge rfl jk_1200 (br_f (by omega) ?_))
      refine x_aloadn (x := 70) rfl rfl ?_
      refine z_getR (N := 9) (b := 76) 5 7 rfl f_5_28 rfl J rfl 8967 ⟨rfl, rfl⟩ rfl ?_
      refine x_iloadn (x := v9) rfl rfl ?_
      refine z_iald (N := 1200) rfl J rfl sg_76_0_1200_1_0_1 rfl (by omega) (fun v10 qv10 ev10 => ?_)
      refine x_goto (tgt := 27) rfl rfl ?_
      refine x_iret rfl rfl ?_
      show jX m_X5_areKnown 4 0 0 15 [(0, .ref 70), (1, .int a1), (2, .int a2), (3, .int 0)] [.int v10] _ 0 0 _
      refine x_iflt (tgt := 22) rfl rfl (ti_lt rfl jk_0 ⟨fun c11 => ?_, fun c11 => ?_⟩)
      ·
        refine x_iconst (v := 0) rfl ki_0 ?_
        refine x_zret rfl rfl (by decide) ?_
        show jX m_X7_worthOf 5 0 0 23 [(3, .int 0), (0, .ref 78), (1, .int a1), (2, .int a2)] [.int 0] _ 0 0 _
        refine x_ifeq (tgt := 33) rfl rfl (ti_eq jk_0 jk_0 (br_t (by omega) ?_))
        exact jX.sub (jsb_c rfl (jsb_c rfl (jsb_c rfl (jsb_c rfl jsb_n)))) (ct_X7_worthOf_r78_33 hD hQ  a1 a2 0 h (jr_of rfl (by omega)) (jr_of rfl (by omega)) (jr_of jk_0 (by omega)) J Sm)
      ·
        refine x_iconst (v := 1) rfl ki_1 ?_
        refine x_goto (tgt := 23) rfl rfl ?_
        refine x_zret rfl rfl (by decide) ?_
        show jX m_X7_worthOf 5 0 0 23 [(3, .int 0), (0, .ref 78), (1, .int a1), (2, .int a2)] [.int 1] _ 0 0 _
        refine x_ifeq (tgt := 33) rfl rfl (ti_eq jk_1 jk_0 (br_f (by omega) ?_))
        refine x_iloadn (x := 0) rfl rfl ?_
        refine x_aloadn (x := 78) rfl rfl ?_
        refine z_getI (N := 16) 7 2 rfl f_7_9 rfl J rfl sg_78_2_3_1_0_1 (fun v12 qv12 ev12 => ?_)
        refine z_iadd rfl jk_0 rfl (by omega) (fun v13 ev13 => ?_)
        refine x_istoren (ls' := [(3, .int v13), (0, .ref 78), (1, .int a1), (2, .int a2)]) rfl rfl rfl ?_
        exact jX.sub (jsb_c rfl (jsb_c rfl (jsb_c rfl (jsb_c rfl jsb_n)))) (ct_X7_worthOf_r78_33 hD hQ  a1 a2 v13 h (jr_of rfl (by omega)) (jr_of rfl (by omega)) (jr_of rfl (by omega)) J Sm)
  ·
    refine x_iconst (v := (-1)) rfl ki_m1 ?_
    refine x_iret rfl rfl ?_
    exact hQ _ _ (jr_of jk_m1 (by omega)) J Sm
def fp_X3_weighPairs_r87 : jFp := [(87, 12, 13), (89, 0, 81), (90, 0, 9)]
set_option maxRecDepth 100000 in
set_option maxHeartbeats 4000000 in
theorem ct_X3_weighPairs_r87_111 {Dy : jH → Prop} {h0 : jH} {Q : Option Value → jH → Prop} {R7 : Int} {R24 : Int} (hD : jDk Dy) (hQ : ∀ h', jJ jSgX Dy h' → jSm fp_X3_weighPairs_r87 h0 h' → Q none h') (k7 : ∀ (l1 : Int32) (g0 : Int32) (h : jH), 9 - l1.toInt < R7 → 0 ≤ l1.toInt ∧ l1.toInt ≤ 9 → jiv h 87 12 = g0 → jJ jSgX Dy h → jSm fp_X3_weighPairs_r87 h0 h → jX m_X3_weighPairs 6 0 0 7 [(0, .ref 87), (1, .int l1)] [] h 0 0 Q) (k24 : ∀ (l1 : Int32) (l2 : Int32) (g0 : Int32) (h : jH), 8 - l2.toInt < R24 → 0 ≤ l1.toInt ∧ l1.toInt ≤ 8 → 0 ≤ l2.toInt ∧ l2.toInt ≤ 8 → jiv h 87 12 = g0 → 9 - l1.toInt ≤ R7 → jJ jSgX Dy h → jSm fp_X3_weighPairs_r87 h0 h → jX m_X3_weighPairs 6 0 0 24 [(0, .ref 87), (1, .int l1), (2, .int l2)] [] h 0 0 Q) : ∀ (l1 : Int32) (l2 : Int32) (g0 : Int32) (h : jH), 1 ≤ l1.toInt ∧ l1.toInt ≤ 8 → 0 ≤ l2.toInt ∧ l2.toInt ≤ 7 → jiv h 87 12 = g0 → 9 - l1.toInt ≤ R7 → 8 - l2.toInt ≤ R24 → jJ jSgX Dy h → jSm fp_X3_weighPairs_r87 h0 h → jX m_X3_weighPairs 6 0 0 111 [(0, .ref 87), (1, .int l1), (2, .int l2)] [] h 0 0 Q := by
  intro l1 l2 g0 h y0 y1 z0 m7 m24 J Sm
  have eg0 := jfull g0
  refine z_iinc (x := l2) (ls' := fun v1 => [(2, .int v1), (0, .ref 87), (1, .int l1)]) rfl rfl rfl jko_1 (by omega) rfl (fun _ => rfl) (fun v1 ev1 => ?_)
  refine x_goto (tgt := 24) rfl rfl ?_
  exact jX.sub (jsb_c rfl (jsb_c rfl (jsb_c rfl jsb_n))) (k24 l1 v1 g0 h (by omega) (jr_of rfl (by omega)) (jr_of rfl (by omega)) z0 (by omega) J Sm)
set_option maxRecDepth 100000 in
set_option maxHeartbeats 4000000 in
theorem ct_X3_weighPairs_r87_24 {Dy : jH → Prop} {h0 : jH} {Q : Option Value → jH → Prop} {R7 : Int} (hD : jDk Dy) (hQ : ∀ h', jJ jSgX Dy h' → jSm fp_X3_weighPairs_r87 h0 h' → Q none h') (k7 : ∀ (l1 : Int32) (g0 : Int32) (h : jH), 9 - l1.toInt < R7 → 0 ≤ l1.toInt ∧ l1.toInt ≤ 9 → jiv h 87 12 = g0 → jJ jSgX Dy h → jSm fp_X3_weighPairs_r87 h0 h → jX m_X3_weighPairs 6 0 0 7 [(0, .ref 87), (1, .int l1)] [] h 0 0 Q) : ∀ r : Nat, ∀ (l1 : Int32) (l2 : Int32) (g0 : Int32) (h : jH), 8 - l2.toInt < (r : Int) → 0 ≤ l1.toInt ∧ l1.toInt ≤ 8 → 0 ≤ l2.toInt ∧ l2.toInt ≤ 8 → jiv h 87 12 = g0 → 9 - l1.toInt ≤ R7 → jJ jSgX Dy h → jSm fp_X3_weighPairs_r87 h0 h → jX m_X3_weighPairs 6 0 0 24 [(0, .ref 87), (1, .int l1), (2, .int l2)] [] h 0 0 Q := by
  intro r
  induction r with
  | zero =>
    intro l1 l2 g0 h hm y0 y1 z0 m7 J Sm
    exfalso
    omega
  | succ r ih =>
    intro l1 l2 g0 h hm y0 y1 z0 m7 J Sm
    have eg0 := jfull g0
    refine x_iloadn (x := l2) rfl rfl ?_
    refine x_iloadn (x := l1) rfl rfl ?_
    refine x_icge (tgt := 117) rfl rfl (ti_ge rfl rfl ⟨fun c1 => ?_, fun c1 => ?_⟩)
    ·
      refine z_iinc (x := l1) (ls' := fun v2 => [(1, .int v2), (0, .ref 87), (2, .int l2)]) rfl rfl rfl jko_1 (by omega) rfl (fun _ => rfl) (fun v2 ev2 => ?_)
      refine x_goto (tgt := 7) rfl rfl ?_
      exact jX.sub (jsb_c rfl (jsb_c rfl jsb_n)) (k7 v2 g0 h (by omega) (jr_of rfl (by omega)) z0 J Sm)
    ·
      refine x_aloadn (x := 87) rfl rfl ?_
      refine z_getR (N := 14) (b := 78) 3 1 rfl f_3_53 rfl J rfl 11137 ⟨rfl, rfl⟩ rfl ?_
      refine x_aloadn (x := 87) rfl rfl ?_
      refine z_getR (N := 14) (b := 88) 3 2 rfl f_3_9 rfl J rfl 11138 ⟨rfl, rfl⟩ rfl ?_
      refine x_iloadn (x := l2) rfl rfl ?_
      refine z_iald (N := 9) rfl J rfl sg_88_0_9_1_0_1 rfl (by omega) (fun v3 qv3 ev3 => ?_)
      refine x_aloadn (x := 87) rfl rfl ?_
      refine z_getR (N := 14) (b := 88) 3 2 rfl f_3_9 rfl J rfl 11138 ⟨rfl, rfl⟩ rfl ?_
      refine x_iloadn (x := l1) rfl rfl ?_
      refine z_iald (N := 9) rfl J rfl sg_88_0_9_1_0_1 rfl (by omega) (fun v4 qv4 ev4 => ?_)
      refine x_inv (N := m_X7_worthOf) (As := [.int v3, .int v4]) (b := 78) (st := []) (d' := 5) (mc := 0) (ms := 0) (host := "") 7 rfl t_X7_worthOf ⟨Or.inl q_3_84, i_X7_worthOf.1, i_X7_worthOf.2⟩ ⟨by decide, rfl⟩ (congrArg Prod.fst (J.1.1 78 (7, 16) rfl)) rfl (by decide) rfl rfl ⟨by decide, by decide⟩ (sf_X7_worthOf_r78 (jr_of rfl (by omega)) (jr_of rfl (by omega)) hD J  (fun v6 h ev6 J S5 => ?_))
      have Sm := jSm_tr rfl Sm S5
      show jX m_X3_weighPairs 6 0 0 48 [(0, .ref 87), (1, .int l1), (2, .int l2)] [.int v6] _ 0 0 _
      refine x_istoren (ls' := [(3, .int v6), (0, .ref 87), (1, .int l1), (2, .int l2)]) rfl rfl rfl ?_
      refine x_aloadn (x := 87) rfl rfl ?_
      refine z_getR (N := 14) (b := 89) 3 4 rfl f_3_19 rfl J rfl 11140 ⟨rfl, rfl⟩ rfl ?_
      refine x_iloadn (x := l1) rfl rfl ?_
      refine x_bipush (v := 9) rfl kb_9 ?_
      refine z_imul rfl rfl jk_9 (by omega) (fun v7 ev7 => ?_)
      refine x_iloadn (x := l2) rfl rfl ?_
      refine z_iadd rfl rfl rfl (by omega) (fun v8 ev8 => ?_)
      refine x_iloadn (x := v6) rfl rfl ?_
      refine z_iast (N := 81) (l := 0) (u := 81) (w := v6.toInt) rfl hD J Sm rfl rfl rfl (by omega) rfl (wr_89 (fun q1 q2 q3 q4 => by omega)) rfl (fun h w9 J Sm => ?_)
      refine x_aloadn (x := 87) rfl rfl ?_
      refine x_dup rfl rfl ?_
      refine z_getM (N := 14) (v := g0) 3 12 rfl f_3_43 rfl J rfl (jmo w9 rfl (jmc S5 rfl z0)) ?_
      refine x_iconst (v := 0) rfl ki_0 ?_
      refine x_iloadn (x := v6) rfl rfl ?_
      refine z_mmax rfl q_3_88 (by decide) rfl jk_0 rfl (fun v10 ev10 => ?_)
      refine z_iadd0 rfl (fun v11 => ?_)
      have ev11 := jfull v11
      refine z_putI (N := 14) (w := v11.toInt) 3 12 rfl f_3_43 rfl (jfin_no TX3 RX3 14 rfl rfl) hD J Sm rfl rfl rfl (pw_87_12 trivial) rfl (fun h w12 J Sm => ?_)
      refine x_aloadn (x := 87) rfl rfl ?_
      refine z_getR (N := 14) (b := 78) 3 1 rfl f_3_53 rfl J rfl 11137 ⟨rfl, rfl⟩ rfl ?_
      refine x_aloadn (x := 87) rfl rfl ?_
      refine z_getR (N := 14) (b := 88) 3 2 rfl f_3_9 rfl J rfl 11138 ⟨rfl, rfl⟩ rfl ?_
      refine x_iloadn (x := l2) rfl rfl ?_
      refine z_ialdM (N := 9) (v := v3) rfl J rfl rfl (by omega) (jmo w12 rfl (jmo w9 rfl (jmc S5 rfl qv3))) ?_
      refine x_inv (N := m_X7_soulAt) (As := [.int v3]) (b := 78) (st := []) (d' := 5) (mc := 0) (ms := 0) (host := "") 7 rfl t_X7_soulAt ⟨Or.inl q_3_67, i_X7_soulAt.1, i_X7_soulAt.2⟩ ⟨by decide, rfl⟩ (congrArg Prod.fst (J.1.1 78 (7, 16) rfl)) rfl (by decide) rfl rfl ⟨by decide, by decide⟩ (jC.of rfl k_X7_soulAt rfl ?_)
      show jX m_X7_soulAt 5 0 0 0 [(0, .ref 78), (1, .int v3)] [] _ 0 0 _
      refine x_iloadn (x := v3) rfl rfl ?_
      refine x_iflt (tgt := 36) rfl rfl (ti_lt rfl jk_0 (br_f (by omega) ?_))
      refine x_iloadn (x := v3) rfl rfl ?_
      refine x_sipush (v := 600) rfl ks_600 ?_
      refine x_icge (tgt := 36) rfl rfl (ti_ge rfl jk_600 (br_f (by omega) ?_))
      refine x_iloadn (x := v3) rfl rfl ?_
      refine x_iconst (v := 3) rfl ki_3 ?_
      refine z_idiv rfl rfl jk_3 (by omega) (by omega) (fun v13 ev13 => ?_)
      refine x_aloadn (x := 78) rfl rfl ?_
      refine z_getR (N := 16) (b := 32) 7 0 rfl f_7_55 rfl J rfl 9984 ⟨rfl, rfl⟩ rfl ?_
      refine z_getR (N := 20) (b := 33) 1 0 rfl f_7_63 rfl J rfl 4096 ⟨rfl, rfl⟩ rfl ?_
      refine z_getI (N := 4) 8 3 rfl f_7_85 rfl J rfl sg_33_3_4_1_0_1 (fun v14 qv14 ev14 => ?_)
      refine x_icge (tgt := 36) rfl rfl (ti_ge rfl rfl ⟨fun c15 => ?_, fun c15 => ?_⟩)
      ·
        refine x_iconst (v := (-1)) rfl ki_m1 ?_
        refine x_iret rfl rfl ?_
        show jX m_X3_weighPairs 6 0 0 88 [(3, .int v6), (0, .ref 87), (1, .int l1), (2, .int l2)] [.int (-1)] _ 0 0 _
        refine x_aloadn (x := 87) rfl rfl ?_
        refine z_getR (N := 14) (b := 78) 3 1 rfl f_3_53 rfl J rfl 11137 ⟨rfl, rfl⟩ rfl ?_
        refine x_aloadn (x := 87) rfl rfl ?_
        refine z_getR (N := 14) (b := 88) 3 2 rfl f_3_9 rfl J rfl 11138 ⟨rfl, rfl⟩ rfl ?_
        refine x_iloadn (x := l1) rfl rfl ?_
        refine z_ialdM (N := 9) (v := v4) rfl J rfl rfl (by omega) (jmo w12 rfl (jmo w9 rfl (jmc S5 rfl qv4))) ?_
        refine x_inv (N := m_X7_soulAt) (As := [.int v4]) (b := 78) (st := [.int (-1)]) (d' := 5) (mc := 0) (ms := 0) (host := "") 7 rfl t_X7_soulAt ⟨Or.inl q_3_67, i_X7_soulAt.1, i_X7_soulAt.2⟩ ⟨by decide, rfl⟩ (congrArg Prod.fst (J.1.1 78 (7, 16) rfl)) rfl (by decide) rfl rfl ⟨by decide, by decide⟩ (jC.of rfl k_X7_soulAt rfl ?_)
        show jX m_X7_soulAt 5 0 0 0 [(0, .ref 78), (1, .int v4)] [] _ 0 0 _
        refine x_iloadn (x := v4) rfl rfl ?_
        refine x_iflt (tgt := 36) rfl rfl (ti_lt rfl jk_0 (br_f (by omega) ?_))
        refine x_iloadn (x := v4) rfl rfl ?_
        refine x_sipush (v := 600) rfl ks_600 ?_
        refine x_icge (tgt := 36) rfl rfl (ti_ge rfl jk_600 (br_f (by omega) ?_))
        refine x_iloadn (x := v4) rfl rfl ?_
        refine x_iconst (v := 3) rfl ki_3 ?_
        refine z_idiv rfl rfl jk_3 (by omega) (by omega) (fun v16 ev16 => ?_)
        refine x_aloadn (x := 78) rfl rfl ?_
        refine z_getR (N := 16) (b := 32) 7 0 rfl f_7_55 rfl J rfl 9984 ⟨rfl, rfl⟩ rfl ?_
        refine z_getR (N := 20) (b := 33) 1 0 rfl f_7_63 rfl J rfl 4096 ⟨rfl, rfl⟩ rfl ?_
        refine z_getM (N := 4) (v := v14) 8 3 rfl f_7_85 rfl J rfl qv14 ?_
        refine x_icge (tgt := 36) rfl rfl (ti_ge rfl rfl ⟨fun c17 => ?_, fun c17 => ?_⟩)
        ·
          refine x_iconst (v := (-1)) rfl ki_m1 ?_
          refine x_iret rfl rfl ?_
          show jX m_X3_weighPairs 6 0 0 101 [(3, .int v6), (0, .ref 87), (1, .int l1), (2, .int l2)] [.int (-1), .int (-1)] _ 0 0 _
          refine x_icne (tgt := 111) rfl rfl (ti_ne jk_m1 jk_m1 (bn_f (by omega) ?_))
          refine x_aloadn (x := 87) rfl rfl ?_
          refine z_getR (N := 14) (b := 90) 3 5 rfl f_3_22 rfl J rfl 11141 ⟨rfl, rfl⟩ rfl ?_
          refine x_iloadn (x := l1) rfl rfl ?_
          refine x_iloadn (x := l2) rfl rfl ?_
          refine z_iast (N := 9) (l := 0) (u := 9) (w := l2.toInt) rfl hD J Sm rfl rfl rfl (by omega) rfl (wr_90 (fun q1 q2 q3 q4 => by omega)) rfl (fun h w18 J Sm => ?_)
          exact jX.sub (jsb_c rfl (jsb_c rfl (jsb_c rfl jsb_n))) (ct_X3_weighPairs_r87_111 hD hQ k7 ih l1 l2 v11 h (jr_of rfl (by omega)) (jr_of rfl (by omega)) (jmo w18 rfl (jmw w12)) (by omega) (by omega) J Sm)
        ·
          refine x_aloadn (x := 78) rfl rfl ?_
          refine z_getR (N := 16) (b := 82) 7 10 rfl f_7_37 rfl J rfl 9994 ⟨rfl, rfl⟩ rfl ?_
          refine x_iloadn (x := v4) rfl rfl ?_
          refine z_iald (N := 600) rfl J rfl sg_82_0_600_1_0_1 rfl (by omega) (fun v19 qv19 ev19 => ?_)
          refine x_goto (tgt := 37) rfl rfl ?_
          refine x_iret rfl rfl ?_
          show jX m_X3_weighPairs 6 0 0 101 [(3, .int v6), (0, .ref 87), (1, .int l1), (2, .int l2)] [.int v19, .int (-1)] _ 0 0 _
          refine x_icne (tgt := 111) rfl rfl (ti_ne jk_m1 rfl ⟨fun c20 => ?_, fun c20 => ?_⟩)
          ·
            exact jX.sub (jsb_c rfl (jsb_c rfl (jsb_c rfl jsb_n))) (ct_X3_weighPairs_r87_111 hD hQ k7 ih l1 l2 v11 h (jr_of rfl (by omega)) (jr_of rfl (by omega)) (jmw w12) (by omega) (by omega) J Sm)
          ·
            refine x_aloadn (x := 87) rfl rfl ?_
            refine z_getR (N := 14) (b := 90) 3 5 rfl f_3_22 rfl J rfl 11141 ⟨rfl, rfl⟩ rfl ?_
            refine x_iloadn (x := l1) rfl rfl ?_
            refine x_iloadn (x := l2) rfl rfl ?_
            refine z_iast (N := 9) (l := 0) (u := 9) (w := l2.toInt) rfl hD J Sm rfl rfl rfl (by omega) rfl (wr_90 (fun q1 q2 q3 q4 => by omega)) rfl (fun h w21 J Sm => ?_)
            exact jX.sub (jsb_c rfl (jsb_c rfl (jsb_c rfl jsb_n))) (ct_X3_weighPairs_r87_111 hD hQ k7 ih l1 l2 v11 h (jr_of rfl (by omega)) (jr_of rfl (by omega)) (jmo w21 rfl (jmw w12)) (by omega) (by omega) J Sm)
      ·
        refine x_aloadn (x := 78) rfl rfl ?_
        refine z_getR (N := 16) (b := 82) 7 10 rfl f_7_37 rfl J rfl 9994 ⟨rfl, rfl⟩ rfl ?_
        refine x_iloadn (x := v3) rfl rfl ?_
        refine z_iald (N := 600) rfl J rfl sg_82_0_600_1_0_1 rfl (by omega) (fun v22 qv22 ev22 => ?_)
        refine x_goto (tgt := 37) rfl rfl ?_
        refine x_iret rfl rfl ?_
        show jX m_X3_weighPairs 6 0 0 88 [(3, .int v6), (0, .ref 87), (1, .int l1), (2, .int l2)] [.int v22] _ 0 0 _
        refine x_aloadn (x := 87) rfl rfl ?_
        refine z_getR (N := 14) (b := 78) 3 1 rfl f_3_53 rfl J rfl 11137 ⟨rfl, rfl⟩ rfl ?_
        refine x_aloadn (x := 87) rfl rfl ?_
        refine z_getR (N := 14) (b := 88) 3 2 rfl f_3_9 rfl J rfl 11138 ⟨rfl, rfl⟩ rfl ?_
        refine x_iloadn (x := l1) rfl rfl ?_
        refine z_ialdM (N := 9) (v := v4) rfl J rfl rfl (by omega) (jmo w12 rfl (jmo w9 rfl (jmc S5 rfl qv4))) ?_
        refine x_inv (N := m_X7_soulAt) (As := [.int v4]) (b := 78) (st := [.int v22]) (d' := 5) (mc := 0) (ms := 0) (host := "") 7 rfl t_X7_soulAt ⟨Or.inl q_3_67, i_X7_soulAt.1, i_X7_soulAt.2⟩ ⟨by decide, rfl⟩ (congrArg Prod.fst (J.1.1 78 (7, 16) rfl)) rfl (by decide) rfl rfl ⟨by decide, by decide⟩ (jC.of rfl k_X7_soulAt rfl ?_)
        show jX m_X7_soulAt 5 0 0 0 [(0, .ref 78), (1, .int v4)] [] _ 0 0 _
        refine x_iloadn (x := v4) rfl rfl ?_
        refine x_iflt (tgt := 36) rfl rfl (ti_lt rfl jk_0 (br_f (by omega) ?_))
        refine x_iloadn (x := v4) rfl rfl ?_
        refine x_sipush (v := 600) rfl ks_600 ?_
        refine x_icge (tgt := 36) rfl rfl (ti_ge rfl jk_600 (br_f (by omega) ?_))
        refine x_iloadn (x := v4) rfl rfl ?_
        refine x_iconst (v := 3) rfl ki_3 ?_
        refine z_idiv rfl rfl jk_3 (by omega) (by omega) (fun v23 ev23 => ?_)
        refine x_aloadn (x := 78) rfl rfl ?_
        refine z_getR (N := 16) (b := 32) 7 0 rfl f_7_55 rfl J rfl 9984 ⟨rfl, rfl⟩ rfl ?_
        refine z_getR (N := 20) (b := 33) 1 0 rfl f_7_63 rfl J rfl 4096 ⟨rfl, rfl⟩ rfl ?_
        refine z_getM (N := 4) (v := v14) 8 3 rfl f_7_85 rfl J rfl qv14 ?_
        refine x_icge (tgt := 36) rfl rfl (ti_ge rfl rfl ⟨fun c24 => ?_, fun c24 => ?_⟩)
        ·
          refine x_iconst (v := (-1)) rfl ki_m1 ?_
          refine x_iret rfl rfl ?_
          show jX m_X3_weighPairs 6 0 0 101 [(3, .int v6), (0, .ref 87), (1, .int l1), (2, .int l2)] [.int (-1), .int v22] _ 0 0 _
          refine x_icne (tgt := 111) rfl rfl (ti_ne rfl jk_m1 ⟨fun c25 => ?_, fun c25 => ?_⟩)
          ·
            exact jX.sub (jsb_c rfl (jsb_c rfl (jsb_c rfl jsb_n))) (ct_X3_weighPairs_r87_111 hD hQ k7 ih l1 l2 v11 h (jr_of rfl (by omega)) (jr_of rfl (by omega)) (jmw w12) (by omega) (by omega) J Sm)
          ·
            refine x_aloadn (x := 87) rfl rfl ?_
            refine z_getR (N := 14) (b := 90) 3 5 rfl f_3_22 rfl J rfl 11141 ⟨rfl, rfl⟩ rfl ?_
            refine x_iloadn (x := l1) rfl rfl ?_
            refine x_iloadn (x := l2) rfl rfl ?_
            refine z_iast (N := 9) (l := 0) (u := 9) (w := l2.toInt) rfl hD J Sm rfl rfl rfl (by omega) rfl (wr_90 (fun q1 q2 q3 q4 => by omega)) rfl (fun h w26 J Sm => ?_)
            exact jX.sub (jsb_c rfl (jsb_c rfl (jsb_c rfl jsb_n))) (ct_X3_weighPairs_r87_111 hD hQ k7 ih l1 l2 v11 h (jr_of rfl (by omega)) (jr_of rfl (by omega)) (jmo w26 rfl (jmw w12)) (by omega) (by omega) J Sm)
        ·
          refine x_aloadn (x := 78) rfl rfl ?_
          refine z_getR (N := 16) (b := 82) 7 10 rfl f_7_37 rfl J rfl 9994 ⟨rfl, rfl⟩ rfl ?_
          refine x_iloadn (x := v4) rfl rfl ?_
          refine z_iald (N := 600) rfl J rfl sg_82_0_600_1_0_1 rfl (by omega) (fun v27 qv27 ev27 => ?_)
          refine x_goto (tgt := 37) rfl rfl ?_
          refine x_iret rfl rfl ?_
          show jX m_X3_weighPairs 6 0 0 101 [(3, .int v6), (0, .ref 87), (1, .int l1), (2, .int l2)] [.int v27, .int v22] _ 0 0 _
          refine x_icne (tgt := 111) rfl rfl (ti_ne rfl rfl ⟨fun c28 => ?_, fun c28 => ?_⟩)
          ·
            exact jX.sub (jsb_c rfl (jsb_c rfl (jsb_c rfl jsb_n))) (ct_X3_weighPairs_r87_111 hD hQ k7 ih l1 l2 v11 h (jr_of rfl (by omega)) (jr_of rfl (by omega)) (jmw w12) (by omega) (by omega) J Sm)
          ·
            refine x_aloadn (x := 87) rfl rfl ?_
            refine z_getR (N := 14) (b := 90) 3 5 rfl f_3_22 rfl J rfl 11141 ⟨rfl, rfl⟩ rfl ?_
            refine x_iloadn (x := l1) rfl rfl ?_
            refine x_iloadn (x := l2) rfl rfl ?_
            refine z_iast (N := 9) (l := 0) (u := 9) (w := l2.toInt) rfl hD J Sm rfl rfl rfl (by omega) rfl (wr_90 (fun q1 q2 q3 q4 => by omega)) rfl (fun h w29 J Sm => ?_)
            exact jX.sub (jsb_c rfl (jsb_c rfl (jsb_c rfl jsb_n))) (ct_X3_weighPairs_r87_111 hD hQ k7 ih l1 l2 v11 h (jr_of rfl (by omega)) (jr_of rfl (by omega)) (jmo w29 rfl (jmw w12)) (by omega) (by omega) J Sm)
set_option maxRecDepth 100000 in
set_option maxHeartbeats 4000000 in
theorem ct_X3_weighPairs_r87_7 {Dy : jH → Prop} {h0 : jH} {Q : Option Value → jH → Prop} (hD : jDk Dy) (hQ : ∀ h', jJ jSgX Dy h' → jSm fp_X3_weighPairs_r87 h0 h' → Q none h') : ∀ r : Nat, ∀ (l1 : Int32) (g0 : Int32) (h : jH), 9 - l1.toInt < (r : Int) → 0 ≤ l1.toInt ∧ l1.toInt ≤ 9 → jiv h 87 12 = g0 → jJ jSgX Dy h → jSm fp_X3_weighPairs_r87 h0 h → jX m_X3_weighPairs 6 0 0 7 [(0, .ref 87), (1, .int l1)] [] h 0 0 Q := by
  intro r
  induction r with
  | zero =>
    intro l1 g0 h hm y0 z0  J Sm
    exfalso
    omega
  | succ r ih =>
    intro l1 g0 h hm y0 z0  J Sm
    have eg0 := jfull g0
    refine x_iloadn (x := l1) rfl rfl ?_
    refine x_aloadn (x := 87) rfl rfl ?_
    refine z_getI (N := 14) 3 3 rfl f_3_15 rfl J rfl sg_87_3_4_1_0_1 (fun v1 qv1 ev1 => ?_)
    refine x_icge (tgt := 123) rfl rfl (ti_ge rfl rfl ⟨fun c2 => ?_, fun c2 => ?_⟩)
    ·
      refine x_vret rfl rfl ?_
      exact hQ _ J Sm
    ·
      refine x_aloadn (x := 87) rfl rfl ?_
      refine z_getR (N := 14) (b := 90) 3 5 rfl f_3_22 rfl J rfl 11141 ⟨rfl, rfl⟩ rfl ?_
      refine x_iloadn (x := l1) rfl rfl ?_
      refine x_iconst (v := (-1)) rfl ki_m1 ?_
      refine z_iast (N := 9) (l := 0) (u := 9) (w := (-1)) rfl hD J Sm rfl rfl rfl (by omega) jk_m1 (wr_90 (fun q1 q2 q3 q4 => by omega)) rfl (fun h w3 J Sm => ?_)
      refine x_iconst (v := 0) rfl ki_0 ?_
      refine x_istoren (ls' := [(2, .int 0), (0, .ref 87), (1, .int l1)]) rfl rfl rfl ?_
      exact jX.sub (jsb_c rfl (jsb_c rfl (jsb_c rfl jsb_n))) (ct_X3_weighPairs_r87_24 hD hQ ih 9 l1 0 g0 h (by have := jk_0; omega) (jr_of rfl (by omega)) (jr_of jk_0 (by omega)) (jmo w3 rfl z0) (by omega) J Sm)
set_option maxRecDepth 100000 in
set_option maxHeartbeats 4000000 in
theorem sf_X3_weighPairs_r87 {Dy : jH → Prop} {h : jH} {Q : Option Value → jH → Prop} (hD : jDk Dy) (J : jJ jSgX Dy h) (hQ : ∀ h', jJ jSgX Dy h' → jSm fp_X3_weighPairs_r87 h h' → Q none h') : jC m_X3_weighPairs 6 0 0 [.ref 87] h Q := by
  refine jC.of rfl k_X3_weighPairs rfl ?_
  have Sm := jSm_rf fp_X3_weighPairs_r87 h
  show jX m_X3_weighPairs 6 0 0 0 [(0, .ref 87)] [] _ 0 0 _
  refine x_aloadn (x := 87) rfl rfl ?_
  refine x_iconst (v := 0) rfl ki_0 ?_
  refine z_putI (N := 14) (w := 0) 3 12 rfl f_3_43 rfl (jfin_no TX3 RX3 14 rfl rfl) hD J Sm rfl rfl jk_0 (pw_87_12 trivial) rfl (fun h w1 J Sm => ?_)
  refine x_iconst (v := 0) rfl ki_0 ?_
  refine x_istoren (ls' := [(1, .int 0), (0, .ref 87)]) rfl rfl rfl ?_
  exact jX.sub (jsb_c rfl (jsb_c rfl jsb_n)) (ct_X3_weighPairs_r87_7 hD hQ  10 0 0 h (by have := jk_0; omega) (jr_of jk_0 (by omega)) (jmw w1) J Sm)
def fp_X3_settle_r87 : jFp := [(87, 10, 11), (87, 11, 12), (87, 12, 13), (87, 13, 14), (89, 0, 81), (90, 0, 9), (91, 0, 9), (92, 0, 9), (93, 0, 90), (94, 0, 14401)]
set_option maxRecDepth 100000 in
set_option maxHeartbeats 4000000 in
theorem ct_X3_settle_r87_62 {Dy : jH → Prop} {h0 : jH} {Q : Option Value → jH → Prop} (hD : jDk Dy) (hQ : ∀ h', jJ jSgX Dy h' → jSm fp_X3_settle_r87 h0 h' → Q none h') : ∀ (h : jH), jJ jSgX Dy h → jSm fp_X3_settle_r87 h0 h → jX m_X3_settle 13 0 0 62 [(0, .ref 87)] [] h 0 0 Q := by
  intro  h    J Sm
  refine x_aloadn (x := 87) rfl rfl ?_
  refine x_iconst (v := (-1)) rfl ki_m1 ?_
  refine z_putI (N := 14) (w := (-1)) 3 10 rfl f_3_37 rfl (jfin_no TX3 RX3 14 rfl rfl) hD J Sm rfl rfl jk_m1 (pw_87_10 (by omega)) rfl (fun h w1 J Sm => ?_)
  refine x_aloadn (x := 87) rfl rfl ?_
  refine x_iconst (v := 0) rfl ki_0 ?_
  refine z_putI (N := 14) (w := 0) 3 11 rfl f_3_40 rfl (jfin_no TX3 RX3 14 rfl rfl) hD J Sm rfl rfl jk_0 (pw_87_11 (by omega)) rfl (fun h w2 J Sm => ?_)
  refine x_aloadn (x := 87) rfl rfl ?_
  refine x_iconst (v := 0) rfl ki_0 ?_
  refine x_iconst (v := 0) rfl ki_0 ?_
  refine x_iconst (v := 0) rfl ki_0 ?_
  refine x_inv (N := m_X3_place) (As := [.int 0, .int 0, .int 0]) (b := 87) (st := []) (d' := 12) (mc := 0) (ms := 0) (host := "") 3 rfl t_X3_place ⟨Or.inl q_3_80, i_X3_place.1, i_X3_place.2⟩ ⟨by decide, rfl⟩ (congrArg Prod.fst (J.1.1 87 (3, 14) rfl)) rfl (by decide) rfl rfl ⟨by decide, by decide⟩ (sf_X3_place_r87_c0 (jr_of jk_0 (by omega)) (jr_of jk_0 (by omega)) hD J  (fun h J S3 => ?_))
  have Sm := jSm_tr rfl Sm S3
  show jX m_X3_settle 13 0 0 79 [(0, .ref 87)] [] _ 0 0 _
  refine x_vret rfl rfl ?_
  exact hQ _ J Sm
set_option maxRecDepth 100000 in
set_option maxHeartbeats 4000000 in
theorem ct_X3_settle_r87_32 {Dy : jH → Prop} {h0 : jH} {Q : Option Value → jH → Prop} (hD : jDk Dy) (hQ : ∀ h', jJ jSgX Dy h' → jSm fp_X3_settle_r87 h0 h' → Q none h') : ∀ r : Nat, ∀ (l1 : Int32) (h : jH), 14401 - l1.toInt < (r : Int) → 0 ≤ l1.toInt ∧ l1.toInt ≤ 14401 → jJ jSgX Dy h → jSm fp_X3_settle_r87 h0 h → jX m_X3_settle 13 0 0 32 [(0, .ref 87), (1, .int l1)] [] h 0 0 Q := by
  intro r
  induction r with
  | zero =>
    intro l1 h hm y0   J Sm
    exfalso
    omega
  | succ r ih =>
    intro l1 h hm y0   J Sm
    refine x_iloadn (x := l1) rfl rfl ?_
    refine x_aloadn (x := 87) rfl rfl ?_
    refine z_getI0 (N := 14) 3 12 rfl f_3_43 rfl J rfl (fun v1 qv1 => ?_)
    have ev1 := jfull v1
    refine x_icgt (tgt := 62) rfl rfl (ti_gt rfl rfl ⟨fun c2 => ?_, fun c2 => ?_⟩)
    ·
      exact jX.sub (jsb_c rfl jsb_n) (ct_X3_settle_r87_62 hD hQ  h J Sm)
    ·
      refine x_iloadn (x := l1) rfl rfl ?_
      refine x_aloadn (x := 87) rfl rfl ?_
      refine z_getR (N := 14) (b := 94) 3 9 rfl f_3_34 rfl J rfl 11145 ⟨rfl, rfl⟩ rfl ?_
      refine z_alen (N := 14401) (v := 14401) rfl J rfl rfl (by decide) ?_
      refine x_icge (tgt := 62) rfl rfl (ti_ge rfl jk_14401 ⟨fun c3 => ?_, fun c3 => ?_⟩)
      ·
        exact jX.sub (jsb_c rfl jsb_n) (ct_X3_settle_r87_62 hD hQ  h J Sm)
      ·
        refine x_aloadn (x := 87) rfl rfl ?_
        refine z_getR (N := 14) (b := 94) 3 9 rfl f_3_34 rfl J rfl 11145 ⟨rfl, rfl⟩ rfl ?_
        refine x_iloadn (x := l1) rfl rfl ?_
        refine x_iconst (v := 0) rfl ki_0 ?_
        refine z_iast (N := 14401) (l := 0) (u := 14401) (w := 0) rfl hD J Sm rfl rfl rfl (by omega) jk_0 (wr_94) rfl (fun h w4 J Sm => ?_)
        refine z_iinc (x := l1) (ls' := fun v5 => [(1, .int v5), (0, .ref 87)]) rfl rfl rfl jko_1 (by omega) rfl (fun _ => rfl) (fun v5 ev5 => ?_)
        refine x_goto (tgt := 32) rfl rfl ?_
        exact jX.sub (jsb_c rfl (jsb_c rfl jsb_n)) (ih v5 h (by omega) (jr_of rfl (by omega)) J Sm)
set_option maxRecDepth 100000 in
set_option maxHeartbeats 4000000 in
theorem sf_X3_settle_r87 {Dy : jH → Prop} {h : jH} {Q : Option Value → jH → Prop} (hD : jDk Dy) (J : jJ jSgX Dy h) (hQ : ∀ h', jJ jSgX Dy h' → jSm fp_X3_settle_r87 h h' → Q none h') : jC m_X3_settle 13 0 0 [.ref 87] h Q := by
  refine jC.of rfl k_X3_settle rfl ?_
  have Sm := jSm_rf fp_X3_settle_r87 h
  show jX m_X3_settle 13 0 0 0 [(0, .ref 87)] [] _ 0 0 _
  refine x_aloadn (x := 87) rfl rfl ?_
  refine z_getI0 (N := 14) 3 13 rfl f_3_46 rfl J rfl (fun v1 qv1 => ?_)
  have ev1 := jfull v1
  refine x_aloadn (x := 87) rfl rfl ?_
  refine z_getR (N := 14) (b := 32) 3 0 rfl f_3_49 rfl J rfl 11136 ⟨rfl, rfl⟩ rfl ?_
  refine z_getI0 (N := 20) 1 19 rfl f_3_72 rfl J rfl (fun v2 qv2 => ?_)
  have ev2 := jfull v2
  refine x_icne (tgt := 15) rfl rfl (ti_ne rfl rfl ⟨fun c3 => ?_, fun c3 => ?_⟩)
  ·
    refine x_aloadn (x := 87) rfl rfl ?_
    refine x_aloadn (x := 87) rfl rfl ?_
    refine z_getR (N := 14) (b := 32) 3 0 rfl f_3_49 rfl J rfl 11136 ⟨rfl, rfl⟩ rfl ?_
    refine z_getM (N := 20) (v := v2) 1 19 rfl f_3_72 rfl J rfl qv2 ?_
    refine z_putI (N := 14) (w := v2.toInt) 3 13 rfl f_3_46 rfl (jfin_no TX3 RX3 14 rfl rfl) hD J Sm rfl rfl rfl (pw_87_13 trivial) rfl (fun h w4 J Sm => ?_)
    refine x_aloadn (x := 87) rfl rfl ?_
    refine x_inv (N := m_X3_weighPairs) (As := []) (b := 87) (st := []) (d' := 6) (mc := 0) (ms := 0) (host := "") 3 rfl t_X3_weighPairs ⟨Or.inl q_3_77, i_X3_weighPairs.1, i_X3_weighPairs.2⟩ ⟨by decide, rfl⟩ (congrArg Prod.fst (J.1.1 87 (3, 14) rfl)) rfl (by decide) rfl rfl ⟨by decide, by decide⟩ (sf_X3_weighPairs_r87  hD J  (fun h J S5 => ?_))
    have Sm := jSm_tr rfl Sm S5
    show jX m_X3_settle 13 0 0 30 [(0, .ref 87)] [] _ 0 0 _
    refine x_iconst (v := 0) rfl ki_0 ?_
    refine x_istoren (ls' := [(1, .int 0), (0, .ref 87)]) rfl rfl rfl ?_
    exact jX.sub (jsb_c rfl (jsb_c rfl jsb_n)) (ct_X3_settle_r87_32 hD hQ  14402 0 h (by have := jk_0; omega) (jr_of jk_0 (by omega)) J Sm)
  ·
    refine x_vret rfl rfl ?_
    exact hQ _ J Sm
