def fp_X7_reasonFor_r78 : jFp := []
set_option maxRecDepth 100000 in
set_option maxHeartbeats 4000000 in
theorem ct_X7_reasonFor_r78_120 {Dy : jH → Prop} {h0 : jH} {Q : Option Value → jH → Prop} (hD : jDk Dy) (hQ : ∀ (v : Int32) hx9, 0 ≤ v.toInt ∧ v.toInt ≤ 7 → jJ jSgX Dy hx9 → jSm fp_X7_reasonFor_r78 h0 hx9 → Q (some (.int v)) hx9) : ∀ (h : jH), jJ jSgX Dy h → jSm fp_X7_reasonFor_r78 h0 h → jX m_X7_reasonFor 3 0 0 120 [] [] h 0 0 Q := by
  intro  h    J Sm
  refine x_iconst (v := 5) rfl ki_5 ?_
  refine x_iret rfl rfl ?_
  exact hQ _ _ (jr_of jk_5 (by omega)) J Sm
set_option maxRecDepth 100000 in
set_option maxHeartbeats 4000000 in
theorem ct_X7_reasonFor_r78_140 {Dy : jH → Prop} {h0 : jH} {Q : Option Value → jH → Prop} (hD : jDk Dy) (hQ : ∀ (v : Int32) hx9, 0 ≤ v.toInt ∧ v.toInt ≤ 7 → jJ jSgX Dy hx9 → jSm fp_X7_reasonFor_r78 h0 hx9 → Q (some (.int v)) hx9) : ∀ (h : jH), jJ jSgX Dy h → jSm fp_X7_reasonFor_r78 h0 h → jX m_X7_reasonFor 3 0 0 140 [] [] h 0 0 Q := by
  intro  h    J Sm
  refine x_bipush (v := 6) rfl kb_6 ?_
  refine x_iret rfl rfl ?_
  exact hQ _ _ (jr_of jk_6 (by omega)) J Sm
set_option maxRecDepth 100000 in
set_option maxHeartbeats 4000000 in
theorem ct_X7_reasonFor_r78_200167 {Dy : jH → Prop} {h0 : jH} {Q : Option Value → jH → Prop} (hD : jDk Dy) (hQ : ∀ (v : Int32) hx9, 0 ≤ v.toInt ∧ v.toInt ≤ 7 → jJ jSgX Dy hx9 → jSm fp_X7_reasonFor_r78 h0 hx9 → Q (some (.int v)) hx9) : ∀ (h : jH), jJ jSgX Dy h → jSm fp_X7_reasonFor_r78 h0 h → jX m_X7_reasonFor 3 0 0 167 [] [.int 0] h 0 0 Q := by
  intro  h    J Sm
  refine x_iret rfl rfl ?_
  exact hQ _ _ (jr_of jk_0 (by omega)) J Sm
set_option maxRecDepth 100000 in
set_option maxHeartbeats 4000000 in
theorem ct_X7_reasonFor_r78_900167 {Dy : jH → Prop} {h0 : jH} {Q : Option Value → jH → Prop} (hD : jDk Dy) (hQ : ∀ (v : Int32) hx9, 0 ≤ v.toInt ∧ v.toInt ≤ 7 → jJ jSgX Dy hx9 → jSm fp_X7_reasonFor_r78 h0 hx9 → Q (some (.int v)) hx9) : ∀ (h : jH), jJ jSgX Dy h → jSm fp_X7_reasonFor_r78 h0 h → jX m_X7_reasonFor 3 0 0 167 [] [.int 7] h 0 0 Q := by
  intro  h    J Sm
  refine x_iret rfl rfl ?_
  exact hQ _ _ (jr_of jk_7 (by omega)) J Sm
set_option maxRecDepth 100000 in
set_option maxHeartbeats 4000000 in
theorem ct_X7_reasonFor_r78_161 {Dy : jH → Prop} {h0 : jH} {Q : Option Value → jH → Prop} (hD : jDk Dy) (hQ : ∀ (v : Int32) hx9, 0 ≤ v.toInt ∧ v.toInt ≤ 7 → jJ jSgX Dy hx9 → jSm fp_X7_reasonFor_r78 h0 hx9 → Q (some (.int v)) hx9) : ∀ (h : jH), jJ jSgX Dy h → jSm fp_X7_reasonFor_r78 h0 h → jX m_X7_reasonFor 3 0 0 161 [] [] h 0 0 Q := by
  intro  h    J Sm
  refine x_bipush (v := 7) rfl kb_7 ?_
  refine x_goto (tgt := 167) rfl rfl ?_
  exact jX.sub jsb_n (ct_X7_reasonFor_r78_900167 hD hQ  h J Sm)
set_option maxRecDepth 100000 in
set_option maxHeartbeats 4000000 in
theorem ct_X7_reasonFor_r78_122 {Dy : jH → Prop} {h0 : jH} {Q : Option Value → jH → Prop} (hD : jDk Dy) (hQ : ∀ (v : Int32) hx9, 0 ≤ v.toInt ∧ v.toInt ≤ 7 → jJ jSgX Dy hx9 → jSm fp_X7_reasonFor_r78 h0 hx9 → Q (some (.int v)) hx9) : ∀ (l1 : Int32) (l2 : Int32) (h : jH), 0 ≤ l1.toInt ∧ l1.toInt ≤ 599 → 0 ≤ l2.toInt ∧ l2.toInt ≤ 599 → jJ jSgX Dy h → jSm fp_X7_reasonFor_r78 h0 h → jX m_X7_reasonFor 3 0 0 122 [(0, .ref 78), (1, .int l1), (2, .int l2)] [] h 0 0 Q := by
  intro l1 l2 h y0 y1   J Sm
  refine x_aloadn (x := 78) rfl rfl ?_
  refine x_iloadn (x := l1) rfl rfl ?_
  refine x_iloadn (x := l2) rfl rfl ?_
  refine x_inv (N := m_X7_isOutOfLife) (As := [.int l1, .int l2]) (b := 78) (st := []) (dx9 := 2) (mc := 0) (ms := 0) (host := "") 7 rfl t_X7_isOutOfLife ⟨Or.inl q_7_107, i_X7_isOutOfLife.1, i_X7_isOutOfLife.2⟩ ⟨by decide, rfl⟩ (congrArg Prod.fst (J.1.1 78 (7, 16) rfl)) rfl (by decide) rfl rfl ⟨by decide, by decide⟩ (sf_X7_isOutOfLife_r78 (jr_of rfl (by omega)) (jr_of rfl (by omega)) hD J  (fun v2 h ev2 J S1 => ?_))
  have Sm := jSm_tr rfl Sm S1
  show jX m_X7_reasonFor 3 0 0 128 [(0, .ref 78), (1, .int l1), (2, .int l2)] [.int v2] _ 0 0 _
  refine x_ifne (tgt := 140) rfl rfl (ti_ne rfl jk_0 ⟨fun c3 => ?_, fun c3 => ?_⟩)
  ·
    exact jX.sub jsb_n (ct_X7_reasonFor_r78_140 hD hQ  h J Sm)
  ·
    refine x_aloadn (x := 78) rfl rfl ?_
    refine x_iloadn (x := l2) rfl rfl ?_
    refine x_iloadn (x := l1) rfl rfl ?_
    refine x_inv (N := m_X7_isOutOfLife) (As := [.int l2, .int l1]) (b := 78) (st := []) (dx9 := 2) (mc := 0) (ms := 0) (host := "") 7 rfl t_X7_isOutOfLife ⟨Or.inl q_7_107, i_X7_isOutOfLife.1, i_X7_isOutOfLife.2⟩ ⟨by decide, rfl⟩ (congrArg Prod.fst (J.1.1 78 (7, 16) rfl)) rfl (by decide) rfl rfl ⟨by decide, by decide⟩ (sf_X7_isOutOfLife_r78 (jr_of rfl (by omega)) (jr_of rfl (by omega)) hD J  (fun v5 h ev5 J S4 => ?_))
    have Sm := jSm_tr rfl Sm S4
    show jX m_X7_reasonFor 3 0 0 137 [(0, .ref 78), (1, .int l1), (2, .int l2)] [.int v5] _ 0 0 _
    refine x_ifeq (tgt := 143) rfl rfl (ti_eq rfl jk_0 ⟨fun c6 => ?_, fun c6 => ?_⟩)
    ·
      refine x_aloadn (x := 78) rfl rfl ?_
      refine x_iloadn (x := l1) rfl rfl ?_
      refine x_iloadn (x := l2) rfl rfl ?_
      refine x_inv (N := m_X7_isOfOtherAge) (As := [.int l1, .int l2]) (b := 78) (st := []) (dx9 := 2) (mc := 0) (ms := 0) (host := "") 7 rfl t_X7_isOfOtherAge ⟨Or.inl q_7_110, i_X7_isOfOtherAge.1, i_X7_isOfOtherAge.2⟩ ⟨by decide, rfl⟩ (congrArg Prod.fst (J.1.1 78 (7, 16) rfl)) rfl (by decide) rfl rfl ⟨by decide, by decide⟩ (jC.of rfl k_X7_isOfOtherAge rfl ?_)
      show jX m_X7_isOfOtherAge 2 0 0 0 [(0, .ref 78), (1, .int l1), (2, .int l2)] [] _ 0 0 _
      refine x_aloadn (x := 78) rfl rfl ?_
      refine x_iloadn (x := l1) rfl rfl ?_
      refine x_iloadn (x := l2) rfl rfl ?_
      refine x_inv (N := m_X7_isWithAge) (As := [.int l1, .int l2]) (b := 78) (st := []) (dx9 := 1) (mc := 0) (ms := 0) (host := "") 7 rfl t_X7_isWithAge ⟨Or.inl q_7_116, i_X7_isWithAge.1, i_X7_isWithAge.2⟩ ⟨by decide, rfl⟩ (congrArg Prod.fst (J.1.1 78 (7, 16) rfl)) rfl (by decide) rfl rfl ⟨by decide, by decide⟩ (jC.of rfl k_X7_isWithAge rfl ?_)
      show jX m_X7_isWithAge 1 0 0 0 [(0, .ref 78), (1, .int l1), (2, .int l2)] [] _ 0 0 _
      refine x_aloadn (x := 78) rfl rfl ?_
      refine z_getR (N := 16) (b := 79) 7 7 rfl f_7_27 rfl J rfl 9991 ⟨rfl, rfl⟩ rfl ?_
      refine x_iloadn (x := l1) rfl rfl ?_
      refine z_iald (N := 600) rfl J rfl sg_79_0_600_1_0_1 rfl (by omega) (fun v7 qv7 ev7 => ?_)
      refine x_ifne (tgt := 33) rfl rfl (ti_ne rfl jk_0 ⟨fun c8 => ?_, fun c8 => ?_⟩)
      ·
        refine x_iconst (v := 0) rfl ki_0 ?_
        refine x_zret rfl rfl (by decide) ?_
        show jX m_X7_isOfOtherAge 2 0 0 6 [(0, .ref 78), (1, .int l1), (2, .int l2)] [.int 0] _ 0 0 _
        refine x_ifne (tgt := 11) rfl rfl (ti_ne jk_0 jk_0 (bn_f (by omega) ?_))
        refine x_iconst (v := 0) rfl ki_0 ?_
        refine x_zret rfl rfl (by decide) ?_
        show jX m_X7_reasonFor 3 0 0 149 [(0, .ref 78), (1, .int l1), (2, .int l2)] [.int 0] _ 0 0 _
        refine x_ifne (tgt := 161) rfl rfl (ti_ne jk_0 jk_0 (bn_f (by omega) ?_))
        refine x_aloadn (x := 78) rfl rfl ?_
        refine x_iloadn (x := l2) rfl rfl ?_
        refine x_iloadn (x := l1) rfl rfl ?_
        refine x_inv (N := m_X7_isOfOtherAge) (As := [.int l2, .int l1]) (b := 78) (st := []) (dx9 := 2) (mc := 0) (ms := 0) (host := "") 7 rfl t_X7_isOfOtherAge ⟨Or.inl q_7_110, i_X7_isOfOtherAge.1, i_X7_isOfOtherAge.2⟩ ⟨by decide, rfl⟩ (congrArg Prod.fst (J.1.1 78 (7, 16) rfl)) rfl (by decide) rfl rfl ⟨by decide, by decide⟩ (jC.of rfl k_X7_isOfOtherAge rfl ?_)
        show jX m_X7_isOfOtherAge 2 0 0 0 [(0, .ref 78), (1, .int l2), (2, .int l1)] [] _ 0 0 _
        refine x_aloadn (x := 78) rfl rfl ?_
        refine x_iloadn (x := l2) rfl rfl ?_
        refine x_iloadn (x := l1) rfl rfl ?_
        refine x_inv (N := m_X7_isWithAge) (As := [.int l2, .int l1]) (b := 78) (st := []) (dx9 := 1) (mc := 0) (ms := 0) (host := "") 7 rfl t_X7_isWithAge ⟨Or.inl q_7_116, i_X7_isWithAge.1, i_X7_isWithAge.2⟩ ⟨by decide, rfl⟩ (congrArg Prod.fst (J.1.1 78 (7, 16) rfl)) rfl (by decide) rfl rfl ⟨by decide, by decide⟩ (jC.of rfl k_X7_isWithAge rfl ?_)
        show jX m_X7_isWithAge 1 0 0 0 [(0, .ref 78), (1, .int l2), (2, .int l1)] [] _ 0 0 _
        refine x_aloadn (x := 78) rfl rfl ?_
        refine z_getR (N := 16) (b := 79) 7 7 rfl f_7_27 rfl J rfl 9991 ⟨rfl, rfl⟩ rfl ?_
        refine x_iloadn (x := l2) rfl rfl ?_
        refine z_iald (N := 600) rfl J rfl sg_79_0_600_1_0_1 rfl (by omega) (fun v9 qv9 ev9 => ?_)
        refine x_ifne (tgt := 33) rfl rfl (ti_ne rfl jk_0 ⟨fun c10 => ?_, fun c10 => ?_⟩)
        ·
          refine x_iconst (v := 0) rfl ki_0 ?_
          refine x_zret rfl rfl (by decide) ?_
          show jX m_X7_isOfOtherAge 2 0 0 6 [(0, .ref 78), (1, .int l2), (2, .int l1)] [.int 0] _ 0 0 _
          refine x_ifne (tgt := 11) rfl rfl (ti_ne jk_0 jk_0 (bn_f (by omega) ?_))
          refine x_iconst (v := 0) rfl ki_0 ?_
          refine x_zret rfl rfl (by decide) ?_
          show jX m_X7_reasonFor 3 0 0 158 [(0, .ref 78), (1, .int l1), (2, .int l2)] [.int 0] _ 0 0 _
          refine x_ifeq (tgt := 166) rfl rfl (ti_eq jk_0 jk_0 (br_t (by omega) ?_))
          refine x_iconst (v := 0) rfl ki_0 ?_
          exact jX.sub jsb_n (ct_X7_reasonFor_r78_200167 hD hQ  h J Sm)
        ·
          refine x_aloadn (x := 78) rfl rfl ?_
          refine z_getR (N := 16) (b := 79) 7 7 rfl f_7_27 rfl J rfl 9991 ⟨rfl, rfl⟩ rfl ?_
          refine x_iloadn (x := l1) rfl rfl ?_
          refine z_ialdM (N := 600) (v := v7) rfl J rfl rfl (by omega) qv7 ?_
          refine x_iconst (v := 5) rfl ki_5 ?_
          refine x_icne (tgt := 33) rfl rfl (ti_ne rfl jk_5 ⟨fun c11 => ?_, fun c11 => ?_⟩)
          ·
            refine x_iconst (v := 0) rfl ki_0 ?_
            refine x_zret rfl rfl (by decide) ?_
            show jX m_X7_isOfOtherAge 2 0 0 6 [(0, .ref 78), (1, .int l2), (2, .int l1)] [.int 0] _ 0 0 _
            refine x_ifne (tgt := 11) rfl rfl (ti_ne jk_0 jk_0 (bn_f (by omega) ?_))
            refine x_iconst (v := 0) rfl ki_0 ?_
            refine x_zret rfl rfl (by decide) ?_
            show jX m_X7_reasonFor 3 0 0 158 [(0, .ref 78), (1, .int l1), (2, .int l2)] [.int 0] _ 0 0 _
            refine x_ifeq (tgt := 166) rfl rfl (ti_eq jk_0 jk_0 (br_t (by omega) ?_))
            refine x_iconst (v := 0) rfl ki_0 ?_
            exact jX.sub jsb_n (ct_X7_reasonFor_r78_200167 hD hQ  h J Sm)
          ·
            refine x_aloadn (x := 78) rfl rfl ?_
            refine z_getR (N := 16) (b := 81) 7 9 rfl f_7_34 rfl J rfl 9993 ⟨rfl, rfl⟩ rfl ?_
            refine x_iloadn (x := l1) rfl rfl ?_
            refine z_iald0 (N := 600) rfl J rfl rfl (by omega) (fun v12 qv12 => ?_)
            have ev12 := jfull v12
            refine x_iconst (v := (-1)) rfl ki_m1 ?_
            refine x_iceq (tgt := 33) rfl rfl (ti_eq rfl jk_m1 ⟨fun c13 => ?_, fun c13 => ?_⟩)
            ·
              refine x_iconst (v := 0) rfl ki_0 ?_
              refine x_zret rfl rfl (by decide) ?_
              show jX m_X7_isOfOtherAge 2 0 0 6 [(0, .ref 78), (1, .int l2), (2, .int l1)] [.int 0] _ 0 0 _
              refine x_ifne (tgt := 11) rfl rfl (ti_ne jk_0 jk_0 (bn_f (by omega) ?_))
              refine x_iconst (v := 0) rfl ki_0 ?_
              refine x_zret rfl rfl (by decide) ?_
              show jX m_X7_reasonFor 3 0 0 158 [(0, .ref 78), (1, .int l1), (2, .int l2)] [.int 0] _ 0 0 _
              refine x_ifeq (tgt := 166) rfl rfl (ti_eq jk_0 jk_0 (br_t (by omega) ?_))
              refine x_iconst (v := 0) rfl ki_0 ?_
              exact jX.sub jsb_n (ct_X7_reasonFor_r78_200167 hD hQ  h J Sm)
            ·
              refine x_iconst (v := 1) rfl ki_1 ?_
              refine x_goto (tgt := 34) rfl rfl ?_
              refine x_zret rfl rfl (by decide) ?_
              show jX m_X7_isOfOtherAge 2 0 0 6 [(0, .ref 78), (1, .int l2), (2, .int l1)] [.int 1] _ 0 0 _
              refine x_ifne (tgt := 11) rfl rfl (ti_ne jk_1 jk_0 (bn_t (by omega) ?_))
              refine x_aloadn (x := 78) rfl rfl ?_
              refine z_getR (N := 16) (b := 80) 7 8 rfl f_7_31 rfl J rfl 9992 ⟨rfl, rfl⟩ rfl ?_
              refine x_iloadn (x := l1) rfl rfl ?_
              refine z_iald (N := 600) rfl J rfl sg_80_0_600_1_0_1 rfl (by omega) (fun v14 qv14 ev14 => ?_)
              refine x_sipush (v := 366) rfl ks_366 ?_
              refine z_idiv rfl rfl jk_366 (by omega) (by omega) (fun v15 ev15 => ?_)
              refine x_aloadn (x := 78) rfl rfl ?_
              refine z_getR (N := 16) (b := 80) 7 8 rfl f_7_31 rfl J rfl 9992 ⟨rfl, rfl⟩ rfl ?_
              refine x_iloadn (x := l2) rfl rfl ?_
              refine z_iald (N := 600) rfl J rfl sg_80_0_600_1_0_1 rfl (by omega) (fun v16 qv16 ev16 => ?_)
              refine x_sipush (v := 366) rfl ks_366 ?_
              refine z_idiv rfl rfl jk_366 (by omega) (by omega) (fun v17 ev17 => ?_)
              refine z_isub rfl rfl rfl (by omega) (fun v18 ev18 => ?_)
              refine x_istoren (lsx9 := [(3, .int v18), (0, .ref 78), (1, .int l2), (2, .int l1)]) rfl rfl rfl ?_
              refine x_iloadn (x := v18) rfl rfl ?_
              refine x_aloadn (x := 78) rfl rfl ?_
              refine z_getR (N := 16) (b := 81) 7 9 rfl f_7_34 rfl J rfl 9993 ⟨rfl, rfl⟩ rfl ?_
              refine x_iloadn (x := l1) rfl rfl ?_
              refine z_ialdM (N := 600) (v := v12) rfl J rfl rfl (by omega) qv12 ?_
              refine z_isub0 rfl (fun v19 => ?_)
              have ev19 := jfull v19
              refine z_mabs0 rfl q_7_119 (by decide) rfl (fun v20 => ?_)
              have ev20 := jfull v20
              refine x_aloadn (x := 78) rfl rfl ?_
              refine z_getI (N := 16) 7 6 rfl f_7_24 rfl J rfl sg_78_6_7_1_0_1 (fun v21 qv21 ev21 => ?_)
              refine x_icle (tgt := 55) rfl rfl (ti_le rfl rfl ⟨fun c22 => ?_, fun c22 => ?_⟩)
              ·
                refine x_iconst (v := 0) rfl ki_0 ?_
                refine x_zret rfl rfl (by decide) ?_
                show jX m_X7_reasonFor 3 0 0 158 [(0, .ref 78), (1, .int l1), (2, .int l2)] [.int 0] _ 0 0 _
                refine x_ifeq (tgt := 166) rfl rfl (ti_eq jk_0 jk_0 (br_t (by omega) ?_))
                refine x_iconst (v := 0) rfl ki_0 ?_
                exact jX.sub jsb_n (ct_X7_reasonFor_r78_200167 hD hQ  h J Sm)
              ·
                refine x_iconst (v := 1) rfl ki_1 ?_
                refine x_goto (tgt := 56) rfl rfl ?_
                refine x_zret rfl rfl (by decide) ?_
                show jX m_X7_reasonFor 3 0 0 158 [(0, .ref 78), (1, .int l1), (2, .int l2)] [.int 1] _ 0 0 _
                refine x_ifeq (tgt := 166) rfl rfl (ti_eq jk_1 jk_0 (br_f (by omega) ?_))
                exact jX.sub jsb_n (ct_X7_reasonFor_r78_161 hD hQ  h J Sm)
      ·
        refine x_aloadn (x := 78) rfl rfl ?_
        refine z_getR (N := 16) (b := 79) 7 7 rfl f_7_27 rfl J rfl 9991 ⟨rfl, rfl⟩ rfl ?_
        refine x_iloadn (x := l2) rfl rfl ?_
        refine z_iald (N := 600) rfl J rfl sg_79_0_600_1_0_1 rfl (by omega) (fun v23 qv23 ev23 => ?_)
        refine x_iconst (v := 5) rfl ki_5 ?_
        refine x_icne (tgt := 33) rfl rfl (ti_ne rfl jk_5 ⟨fun c24 => ?_, fun c24 => ?_⟩)
        ·
          refine x_iconst (v := 0) rfl ki_0 ?_
          refine x_zret rfl rfl (by decide) ?_
          show jX m_X7_isOfOtherAge 2 0 0 6 [(0, .ref 78), (1, .int l1), (2, .int l2)] [.int 0] _ 0 0 _
          refine x_ifne (tgt := 11) rfl rfl (ti_ne jk_0 jk_0 (bn_f (by omega) ?_))
          refine x_iconst (v := 0) rfl ki_0 ?_
          refine x_zret rfl rfl (by decide) ?_
          show jX m_X7_reasonFor 3 0 0 149 [(0, .ref 78), (1, .int l1), (2, .int l2)] [.int 0] _ 0 0 _
          refine x_ifne (tgt := 161) rfl rfl (ti_ne jk_0 jk_0 (bn_f (by omega) ?_))
          refine x_aloadn (x := 78) rfl rfl ?_
          refine x_iloadn (x := l2) rfl rfl ?_
          refine x_iloadn (x := l1) rfl rfl ?_
          refine x_inv (N := m_X7_isOfOtherAge) (As := [.int l2, .int l1]) (b := 78) (st := []) (dx9 := 2) (mc := 0) (ms := 0) (host := "") 7 rfl t_X7_isOfOtherAge ⟨Or.inl q_7_110, i_X7_isOfOtherAge.1, i_X7_isOfOtherAge.2⟩ ⟨by decide, rfl⟩ (congrArg Prod.fst (J.1.1 78 (7, 16) rfl)) rfl (by decide) rfl rfl ⟨by decide, by decide⟩ (jC.of rfl k_X7_isOfOtherAge rfl ?_)
          show jX m_X7_isOfOtherAge 2 0 0 0 [(0, .ref 78), (1, .int l2), (2, .int l1)] [] _ 0 0 _
          refine x_aloadn (x := 78) rfl rfl ?_
          refine x_iloadn (x := l2) rfl rfl ?_
          refine x_iloadn (x := l1) rfl rfl ?_
          refine x_inv (N := m_X7_isWithAge) (As := [.int l2, .int l1]) (b := 78) (st := []) (dx9 := 1) (mc := 0) (ms := 0) (host := "") 7 rfl t_X7_isWithAge ⟨Or.inl q_7_116, i_X7_isWithAge.1, i_X7_isWithAge.2⟩ ⟨by decide, rfl⟩ (congrArg Prod.fst (J.1.1 78 (7, 16) rfl)) rfl (by decide) rfl rfl ⟨by decide, by decide⟩ (jC.of rfl k_X7_isWithAge rfl ?_)
          show jX m_X7_isWithAge 1 0 0 0 [(0, .ref 78), (1, .int l2), (2, .int l1)] [] _ 0 0 _
          refine x_aloadn (x := 78) rfl rfl ?_
          refine z_getR (N := 16) (b := 79) 7 7 rfl f_7_27 rfl J rfl 9991 ⟨rfl, rfl⟩ rfl ?_
          refine x_iloadn (x := l2) rfl rfl ?_
          refine z_ialdM (N := 600) (v := v23) rfl J rfl rfl (by omega) qv23 ?_
          refine x_ifne (tgt := 33) rfl rfl (ti_ne rfl jk_0 ⟨fun c25 => ?_, fun c25 => ?_⟩)
          ·
            refine x_iconst (v := 0) rfl ki_0 ?_
            refine x_zret rfl rfl (by decide) ?_
            show jX m_X7_isOfOtherAge 2 0 0 6 [(0, .ref 78), (1, .int l2), (2, .int l1)] [.int 0] _ 0 0 _
            refine x_ifne (tgt := 11) rfl rfl (ti_ne jk_0 jk_0 (bn_f (by omega) ?_))
            refine x_iconst (v := 0) rfl ki_0 ?_
            refine x_zret rfl rfl (by decide) ?_
            show jX m_X7_reasonFor 3 0 0 158 [(0, .ref 78), (1, .int l1), (2, .int l2)] [.int 0] _ 0 0 _
            refine x_ifeq (tgt := 166) rfl rfl (ti_eq jk_0 jk_0 (br_t (by omega) ?_))
            refine x_iconst (v := 0) rfl ki_0 ?_
            exact jX.sub jsb_n (ct_X7_reasonFor_r78_200167 hD hQ  h J Sm)
          ·
            refine x_aloadn (x := 78) rfl rfl ?_
            refine z_getR (N := 16) (b := 79) 7 7 rfl f_7_27 rfl J rfl 9991 ⟨rfl, rfl⟩ rfl ?_
            refine x_iloadn (x := l1) rfl rfl ?_
            refine z_ialdM (N := 600) (v := v7) rfl J rfl rfl (by omega) qv7 ?_
            refine x_iconst (v := 5) rfl ki_5 ?_
            refine x_icne (tgt := 33) rfl rfl (ti_ne rfl jk_5 (bn_t (by omega) ?_))
            refine x_iconst (v := 0) rfl ki_0 ?_
            refine x_zret rfl rfl (by decide) ?_
            show jX m_X7_isOfOtherAge 2 0 0 6 [(0, .ref 78), (1, .int l2), (2, .int l1)] [.int 0] _ 0 0 _
            refine x_ifne (tgt := 11) rfl rfl (ti_ne jk_0 jk_0 (bn_f (by omega) ?_))
            refine x_iconst (v := 0) rfl ki_0 ?_
            refine x_zret rfl rfl (by decide) ?_
            show jX m_X7_reasonFor 3 0 0 158 [(0, .ref 78), (1, .int l1), (2, .int l2)] [.int 0] _ 0 0 _
            refine x_ifeq (tgt := 166) rfl rfl (ti_eq jk_0 jk_0 (br_t (by omega) ?_))
            refine x_iconst (v := 0) rfl ki_0 ?_
            exact jX.sub jsb_n (ct_X7_reasonFor_r78_200167 hD hQ  h J Sm)
        ·
          refine x_aloadn (x := 78) rfl rfl ?_
          refine z_getR (N := 16) (b := 81) 7 9 rfl f_7_34 rfl J rfl 9993 ⟨rfl, rfl⟩ rfl ?_
          refine x_iloadn (x := l2) rfl rfl ?_
          refine z_iald0 (N := 600) rfl J rfl rfl (by omega) (fun v26 qv26 => ?_)
          have ev26 := jfull v26
          refine x_iconst (v := (-1)) rfl ki_m1 ?_
          refine x_iceq (tgt := 33) rfl rfl (ti_eq rfl jk_m1 ⟨fun c27 => ?_, fun c27 => ?_⟩)
          ·
            refine x_iconst (v := 0) rfl ki_0 ?_
            refine x_zret rfl rfl (by decide) ?_
            show jX m_X7_isOfOtherAge 2 0 0 6 [(0, .ref 78), (1, .int l1), (2, .int l2)] [.int 0] _ 0 0 _
            refine x_ifne (tgt := 11) rfl rfl (ti_ne jk_0 jk_0 (bn_f (by omega) ?_))
            refine x_iconst (v := 0) rfl ki_0 ?_
            refine x_zret rfl rfl (by decide) ?_
            show jX m_X7_reasonFor 3 0 0 149 [(0, .ref 78), (1, .int l1), (2, .int l2)] [.int 0] _ 0 0 _
            refine x_ifne (tgt := 161) rfl rfl (ti_ne jk_0 jk_0 (bn_f (by omega) ?_))
            refine x_aloadn (x := 78) rfl rfl ?_
            refine x_iloadn (x := l2) rfl rfl ?_
            refine x_iloadn (x := l1) rfl rfl ?_
            refine x_inv (N := m_X7_isOfOtherAge) (As := [.int l2, .int l1]) (b := 78) (st := []) (dx9 := 2) (mc := 0) (ms := 0) (host := "") 7 rfl t_X7_isOfOtherAge ⟨Or.inl q_7_110, i_X7_isOfOtherAge.1, i_X7_isOfOtherAge.2⟩ ⟨by decide, rfl⟩ (congrArg Prod.fst (J.1.1 78 (7, 16) rfl)) rfl (by decide) rfl rfl ⟨by decide, by decide⟩ (jC.of rfl k_X7_isOfOtherAge rfl ?_)
            show jX m_X7_isOfOtherAge 2 0 0 0 [(0, .ref 78), (1, .int l2), (2, .int l1)] [] _ 0 0 _
            refine x_aloadn (x := 78) rfl rfl ?_
            refine x_iloadn (x := l2) rfl rfl ?_
            refine x_iloadn (x := l1) rfl rfl ?_
            refine x_inv (N := m_X7_isWithAge) (As := [.int l2, .int l1]) (b := 78) (st := []) (dx9 := 1) (mc := 0) (ms := 0) (host := "") 7 rfl t_X7_isWithAge ⟨Or.inl q_7_116, i_X7_isWithAge.1, i_X7_isWithAge.2⟩ ⟨by decide, rfl⟩ (congrArg Prod.fst (J.1.1 78 (7, 16) rfl)) rfl (by decide) rfl rfl ⟨by decide, by decide⟩ (jC.of rfl k_X7_isWithAge rfl ?_)
            show jX m_X7_isWithAge 1 0 0 0 [(0, .ref 78), (1, .int l2), (2, .int l1)] [] _ 0 0 _
            refine x_aloadn (x := 78) rfl rfl ?_
            refine z_getR (N := 16) (b := 79) 7 7 rfl f_7_27 rfl J rfl 9991 ⟨rfl, rfl⟩ rfl ?_
            refine x_iloadn (x := l2) rfl rfl ?_
            refine z_ialdM (N := 600) (v := v23) rfl J rfl rfl (by omega) qv23 ?_
            refine x_ifne (tgt := 33) rfl rfl (ti_ne rfl jk_0 (bn_t (by omega) ?_))
            refine x_iconst (v := 0) rfl ki_0 ?_
            refine x_zret rfl rfl (by decide) ?_
            show jX m_X7_isOfOtherAge 2 0 0 6 [(0, .ref 78), (1, .int l2), (2, .int l1)] [.int 0] _ 0 0 _
            refine x_ifne (tgt := 11) rfl rfl (ti_ne jk_0 jk_0 (bn_f (by omega) ?_))
            refine x_iconst (v := 0) rfl ki_0 ?_
            refine x_zret rfl rfl (by decide) ?_
            show jX m_X7_reasonFor 3 0 0 158 [(0, .ref 78), (1, .int l1), (2, .int l2)] [.int 0] _ 0 0 _
            refine x_ifeq (tgt := 166) rfl rfl (ti_eq jk_0 jk_0 (br_t (by omega) ?_))
            refine x_iconst (v := 0) rfl ki_0 ?_
            exact jX.sub jsb_n (ct_X7_reasonFor_r78_200167 hD hQ  h J Sm)
          ·
            refine x_iconst (v := 1) rfl ki_1 ?_
            refine x_goto (tgt := 34) rfl rfl ?_
            refine x_zret rfl rfl (by decide) ?_
            show jX m_X7_isOfOtherAge 2 0 0 6 [(0, .ref 78), (1, .int l1), (2, .int l2)] [.int 1] _ 0 0 _
            refine x_ifne (tgt := 11) rfl rfl (ti_ne jk_1 jk_0 (bn_t (by omega) ?_))
            refine x_aloadn (x := 78) rfl rfl ?_
            refine z_getR (N := 16) (b := 80) 7 8 rfl f_7_31 rfl J rfl 9992 ⟨rfl, rfl⟩ rfl ?_
            refine x_iloadn (x := l2) rfl rfl ?_
            refine z_iald (N := 600) rfl J rfl sg_80_0_600_1_0_1 rfl (by omega) (fun v28 qv28 ev28 => ?_)
            refine x_sipush (v := 366) rfl ks_366 ?_
            refine z_idiv rfl rfl jk_366 (by omega) (by omega) (fun v29 ev29 => ?_)
            refine x_aloadn (x := 78) rfl rfl ?_
            refine z_getR (N := 16) (b := 80) 7 8 rfl f_7_31 rfl J rfl 9992 ⟨rfl, rfl⟩ rfl ?_
            refine x_iloadn (x := l1) rfl rfl ?_
            refine z_iald (N := 600) rfl J rfl sg_80_0_600_1_0_1 rfl (by omega) (fun v30 qv30 ev30 => ?_)
            refine x_sipush (v := 366) rfl ks_366 ?_
            refine z_idiv rfl rfl jk_366 (by omega) (by omega) (fun v31 ev31 => ?_)
            refine z_isub rfl rfl rfl (by omega) (fun v32 ev32 => ?_)
            refine x_istoren (lsx9 := [(3, .int v32), (0, .ref 78), (1, .int l1), (2, .int l2)]) rfl rfl rfl ?_
            refine x_iloadn (x := v32) rfl rfl ?_
            refine x_aloadn (x := 78) rfl rfl ?_
            refine z_getR (N := 16) (b := 81) 7 9 rfl f_7_34 rfl J rfl 9993 ⟨rfl, rfl⟩ rfl ?_
            refine x_iloadn (x := l2) rfl rfl ?_
            refine z_ialdM (N := 600) (v := v26) rfl J rfl rfl (by omega) qv26 ?_
            refine z_isub0 rfl (fun v33 => ?_)
            have ev33 := jfull v33
            refine z_mabs0 rfl q_7_119 (by decide) rfl (fun v34 => ?_)
            have ev34 := jfull v34
            refine x_aloadn (x := 78) rfl rfl ?_
            refine z_getI (N := 16) 7 6 rfl f_7_24 rfl J rfl sg_78_6_7_1_0_1 (fun v35 qv35 ev35 => ?_)
            refine x_icle (tgt := 55) rfl rfl (ti_le rfl rfl ⟨fun c36 => ?_, fun c36 => ?_⟩)
            ·
              refine x_iconst (v := 0) rfl ki_0 ?_
              refine x_zret rfl rfl (by decide) ?_
              show jX m_X7_reasonFor 3 0 0 149 [(0, .ref 78), (1, .int l1), (2, .int l2)] [.int 0] _ 0 0 _
              refine x_ifne (tgt := 161) rfl rfl (ti_ne jk_0 jk_0 (bn_f (by omega) ?_))
              refine x_aloadn (x := 78) rfl rfl ?_
              refine x_iloadn (x := l2) rfl rfl ?_
              refine x_iloadn (x := l1) rfl rfl ?_
              refine x_inv (N := m_X7_isOfOtherAge) (As := [.int l2, .int l1]) (b := 78) (st := []) (dx9 := 2) (mc := 0) (ms := 0) (host := "") 7 rfl t_X7_isOfOtherAge ⟨Or.inl q_7_110, i_X7_isOfOtherAge.1, i_X7_isOfOtherAge.2⟩ ⟨by decide, rfl⟩ (congrArg Prod.fst (J.1.1 78 (7, 16) rfl)) rfl (by decide) rfl rfl ⟨by decide, by decide⟩ (jC.of rfl k_X7_isOfOtherAge rfl ?_)
              show jX m_X7_isOfOtherAge 2 0 0 0 [(0, .ref 78), (1, .int l2), (2, .int l1)] [] _ 0 0 _
              refine x_aloadn (x := 78) rfl rfl ?_
              refine x_iloadn (x := l2) rfl rfl ?_
              refine x_iloadn (x := l1) rfl rfl ?_
              refine x_inv (N := m_X7_isWithAge) (As := [.int l2, .int l1]) (b := 78) (st := []) (dx9 := 1) (mc := 0) (ms := 0) (host := "") 7 rfl t_X7_isWithAge ⟨Or.inl q_7_116, i_X7_isWithAge.1, i_X7_isWithAge.2⟩ ⟨by decide, rfl⟩ (congrArg Prod.fst (J.1.1 78 (7, 16) rfl)) rfl (by decide) rfl rfl ⟨by decide, by decide⟩ (jC.of rfl k_X7_isWithAge rfl ?_)
              show jX m_X7_isWithAge 1 0 0 0 [(0, .ref 78), (1, .int l2), (2, .int l1)] [] _ 0 0 _
              refine x_aloadn (x := 78) rfl rfl ?_
              refine z_getR (N := 16) (b := 79) 7 7 rfl f_7_27 rfl J rfl 9991 ⟨rfl, rfl⟩ rfl ?_
              refine x_iloadn (x := l2) rfl rfl ?_
              refine z_ialdM (N := 600) (v := v23) rfl J rfl rfl (by omega) qv23 ?_
              refine x_ifne (tgt := 33) rfl rfl (ti_ne rfl jk_0 (bn_t (by omega) ?_))
              refine x_iconst (v := 0) rfl ki_0 ?_
              refine x_zret rfl rfl (by decide) ?_
              show jX m_X7_isOfOtherAge 2 0 0 6 [(0, .ref 78), (1, .int l2), (2, .int l1)] [.int 0] _ 0 0 _
              refine x_ifne (tgt := 11) rfl rfl (ti_ne jk_0 jk_0 (bn_f (by omega) ?_))
              refine x_iconst (v := 0) rfl ki_0 ?_
              refine x_zret rfl rfl (by decide) ?_
              show jX m_X7_reasonFor 3 0 0 158 [(0, .ref 78), (1, .int l1), (2, .int l2)] [.int 0] _ 0 0 _
              refine x_ifeq (tgt := 166) rfl rfl (ti_eq jk_0 jk_0 (br_t (by omega) ?_))
              refine x_iconst (v := 0) rfl ki_0 ?_
              exact jX.sub jsb_n (ct_X7_reasonFor_r78_200167 hD hQ  h J Sm)
            ·
              refine x_iconst (v := 1) rfl ki_1 ?_
              refine x_goto (tgt := 56) rfl rfl ?_
              refine x_zret rfl rfl (by decide) ?_
              show jX m_X7_reasonFor 3 0 0 149 [(0, .ref 78), (1, .int l1), (2, .int l2)] [.int 1] _ 0 0 _
              refine x_ifne (tgt := 161) rfl rfl (ti_ne jk_1 jk_0 (bn_t (by omega) ?_))
              exact jX.sub jsb_n (ct_X7_reasonFor_r78_161 hD hQ  h J Sm)
    ·
      exact jX.sub jsb_n (ct_X7_reasonFor_r78_140 hD hQ  h J Sm)
set_option maxRecDepth 100000 in
set_option maxHeartbeats 4000000 in
theorem ct_X7_reasonFor_r78_104 {Dy : jH → Prop} {h0 : jH} {Q : Option Value → jH → Prop} (hD : jDk Dy) (hQ : ∀ (v : Int32) hx9, 0 ≤ v.toInt ∧ v.toInt ≤ 7 → jJ jSgX Dy hx9 → jSm fp_X7_reasonFor_r78 h0 hx9 → Q (some (.int v)) hx9) : ∀ (l1 : Int32) (l2 : Int32) (h : jH), 0 ≤ l1.toInt ∧ l1.toInt ≤ 599 → 0 ≤ l2.toInt ∧ l2.toInt ≤ 599 → jJ jSgX Dy h → jSm fp_X7_reasonFor_r78 h0 h → jX m_X7_reasonFor 3 0 0 104 [(0, .ref 78), (1, .int l1), (2, .int l2)] [] h 0 0 Q := by
  intro l1 l2 h y0 y1   J Sm
  refine x_aloadn (x := 78) rfl rfl ?_
  refine x_iloadn (x := l1) rfl rfl ?_
  refine x_inv (N := m_X7_isWoman) (As := [.int l1]) (b := 78) (st := []) (dx9 := 2) (mc := 0) (ms := 0) (host := "") 7 rfl t_X7_isWoman ⟨Or.inl q_7_98, i_X7_isWoman.1, i_X7_isWoman.2⟩ ⟨by decide, rfl⟩ (congrArg Prod.fst (J.1.1 78 (7, 16) rfl)) rfl (by decide) rfl rfl ⟨by decide, by decide⟩ (jC.of rfl k_X7_isWoman rfl ?_)
  show jX m_X7_isWoman 2 0 0 0 [(0, .ref 78), (1, .int l1)] [] _ 0 0 _
  refine x_aloadn (x := 78) rfl rfl ?_
  refine z_getR (N := 16) (b := 79) 7 7 rfl f_7_27 rfl J rfl 9991 ⟨rfl, rfl⟩ rfl ?_
  refine x_iloadn (x := l1) rfl rfl ?_
  refine z_iald (N := 600) rfl J rfl sg_79_0_600_1_0_1 rfl (by omega) (fun v1 qv1 ev1 => ?_)
  refine x_iconst (v := 4) rfl ki_4 ?_
  refine x_iceq (tgt := 20) rfl rfl (ti_eq rfl jk_4 ⟨fun c2 => ?_, fun c2 => ?_⟩)
  ·
    refine x_iconst (v := 1) rfl ki_1 ?_
    refine x_goto (tgt := 25) rfl rfl ?_
    refine x_zret rfl rfl (by decide) ?_
    show jX m_X7_reasonFor 3 0 0 109 [(0, .ref 78), (1, .int l1), (2, .int l2)] [.int 1] _ 0 0 _
    refine x_ifeq (tgt := 122) rfl rfl (ti_eq jk_1 jk_0 (br_f (by omega) ?_))
    refine x_aloadn (x := 78) rfl rfl ?_
    refine x_iloadn (x := l2) rfl rfl ?_
    refine x_inv (N := m_X7_isMan) (As := [.int l2]) (b := 78) (st := []) (dx9 := 2) (mc := 0) (ms := 0) (host := "") 7 rfl t_X7_isMan ⟨Or.inl q_7_104, i_X7_isMan.1, i_X7_isMan.2⟩ ⟨by decide, rfl⟩ (congrArg Prod.fst (J.1.1 78 (7, 16) rfl)) rfl (by decide) rfl rfl ⟨by decide, by decide⟩ (jC.of rfl k_X7_isMan rfl ?_)
    show jX m_X7_isMan 2 0 0 0 [(0, .ref 78), (1, .int l2)] [] _ 0 0 _
    refine x_aloadn (x := 78) rfl rfl ?_
    refine z_getR (N := 16) (b := 79) 7 7 rfl f_7_27 rfl J rfl 9991 ⟨rfl, rfl⟩ rfl ?_
    refine x_iloadn (x := l2) rfl rfl ?_
    refine z_iald (N := 600) rfl J rfl sg_79_0_600_1_0_1 rfl (by omega) (fun v3 qv3 ev3 => ?_)
    refine x_iconst (v := 3) rfl ki_3 ?_
    refine x_iceq (tgt := 20) rfl rfl (ti_eq rfl jk_3 ⟨fun c4 => ?_, fun c4 => ?_⟩)
    ·
      refine x_iconst (v := 1) rfl ki_1 ?_
      refine x_goto (tgt := 25) rfl rfl ?_
      refine x_zret rfl rfl (by decide) ?_
      show jX m_X7_reasonFor 3 0 0 117 [(0, .ref 78), (1, .int l1), (2, .int l2)] [.int 1] _ 0 0 _
      refine x_ifeq (tgt := 122) rfl rfl (ti_eq jk_1 jk_0 (br_f (by omega) ?_))
      exact jX.sub jsb_n (ct_X7_reasonFor_r78_120 hD hQ  h J Sm)
    ·
      refine x_aloadn (x := 78) rfl rfl ?_
      refine z_getR (N := 16) (b := 79) 7 7 rfl f_7_27 rfl J rfl 9991 ⟨rfl, rfl⟩ rfl ?_
      refine x_iloadn (x := l2) rfl rfl ?_
      refine z_ialdM (N := 600) (v := v3) rfl J rfl rfl (by omega) qv3 ?_
      refine x_iconst (v := 1) rfl ki_1 ?_
      refine x_icne (tgt := 24) rfl rfl (ti_ne rfl jk_1 ⟨fun c5 => ?_, fun c5 => ?_⟩)
      ·
        refine x_iconst (v := 0) rfl ki_0 ?_
        refine x_zret rfl rfl (by decide) ?_
        show jX m_X7_reasonFor 3 0 0 117 [(0, .ref 78), (1, .int l1), (2, .int l2)] [.int 0] _ 0 0 _
        refine x_ifeq (tgt := 122) rfl rfl (ti_eq jk_0 jk_0 (br_t (by omega) ?_))
        exact jX.sub (jsb_c rfl (jsb_c rfl (jsb_c rfl jsb_n))) (ct_X7_reasonFor_r78_122 hD hQ  l1 l2 h (jr_of rfl (by omega)) (jr_of rfl (by omega)) J Sm)
      ·
        refine x_iconst (v := 1) rfl ki_1 ?_
        refine x_goto (tgt := 25) rfl rfl ?_
        refine x_zret rfl rfl (by decide) ?_
        show jX m_X7_reasonFor 3 0 0 117 [(0, .ref 78), (1, .int l1), (2, .int l2)] [.int 1] _ 0 0 _
        refine x_ifeq (tgt := 122) rfl rfl (ti_eq jk_1 jk_0 (br_f (by omega) ?_))
        exact jX.sub jsb_n (ct_X7_reasonFor_r78_120 hD hQ  h J Sm)
  ·
    refine x_aloadn (x := 78) rfl rfl ?_
    refine z_getR (N := 16) (b := 79) 7 7 rfl f_7_27 rfl J rfl 9991 ⟨rfl, rfl⟩ rfl ?_
    refine x_iloadn (x := l1) rfl rfl ?_
    refine z_ialdM (N := 600) (v := v1) rfl J rfl rfl (by omega) qv1 ?_
    refine x_iconst (v := 2) rfl ki_2 ?_
    refine x_icne (tgt := 24) rfl rfl (ti_ne rfl jk_2 ⟨fun c6 => ?_, fun c6 => ?_⟩)
    ·
      refine x_iconst (v := 0) rfl ki_0 ?_
      refine x_zret rfl rfl (by decide) ?_
      show jX m_X7_reasonFor 3 0 0 109 [(0, .ref 78), (1, .int l1), (2, .int l2)] [.int 0] _ 0 0 _
      refine x_ifeq (tgt := 122) rfl rfl (ti_eq jk_0 jk_0 (br_t (by omega) ?_))
      exact jX.sub (jsb_c rfl (jsb_c rfl (jsb_c rfl jsb_n))) (ct_X7_reasonFor_r78_122 hD hQ  l1 l2 h (jr_of rfl (by omega)) (jr_of rfl (by omega)) J Sm)
    ·
      refine x_iconst (v := 1) rfl ki_1 ?_
      refine x_goto (tgt := 25) rfl rfl ?_
      refine x_zret rfl rfl (by decide) ?_
      show jX m_X7_reasonFor 3 0 0 109 [(0, .ref 78), (1, .int l1), (2, .int l2)] [.int 1] _ 0 0 _
      refine x_ifeq (tgt := 122) rfl rfl (ti_eq jk_1 jk_0 (br_f (by omega) ?_))
      refine x_aloadn (x := 78) rfl rfl ?_
      refine x_iloadn (x := l2) rfl rfl ?_
      refine x_inv (N := m_X7_isMan) (As := [.int l2]) (b := 78) (st := []) (dx9 := 2) (mc := 0) (ms := 0) (host := "") 7 rfl t_X7_isMan ⟨Or.inl q_7_104, i_X7_isMan.1, i_X7_isMan.2⟩ ⟨by decide, rfl⟩ (congrArg Prod.fst (J.1.1 78 (7, 16) rfl)) rfl (by decide) rfl rfl ⟨by decide, by decide⟩ (jC.of rfl k_X7_isMan rfl ?_)
      show jX m_X7_isMan 2 0 0 0 [(0, .ref 78), (1, .int l2)] [] _ 0 0 _
      refine x_aloadn (x := 78) rfl rfl ?_
      refine z_getR (N := 16) (b := 79) 7 7 rfl f_7_27 rfl J rfl 9991 ⟨rfl, rfl⟩ rfl ?_
      refine x_iloadn (x := l2) rfl rfl ?_
      refine z_iald (N := 600) rfl J rfl sg_79_0_600_1_0_1 rfl (by omega) (fun v7 qv7 ev7 => ?_)
      refine x_iconst (v := 3) rfl ki_3 ?_
      refine x_iceq (tgt := 20) rfl rfl (ti_eq rfl jk_3 ⟨fun c8 => ?_, fun c8 => ?_⟩)
      ·
        refine x_iconst (v := 1) rfl ki_1 ?_
        refine x_goto (tgt := 25) rfl rfl ?_
        refine x_zret rfl rfl (by decide) ?_
        show jX m_X7_reasonFor 3 0 0 117 [(0, .ref 78), (1, .int l1), (2, .int l2)] [.int 1] _ 0 0 _
        refine x_ifeq (tgt := 122) rfl rfl (ti_eq jk_1 jk_0 (br_f (by omega) ?_))
        exact jX.sub jsb_n (ct_X7_reasonFor_r78_120 hD hQ  h J Sm)
      ·
        refine x_aloadn (x := 78) rfl rfl ?_
        refine z_getR (N := 16) (b := 79) 7 7 rfl f_7_27 rfl J rfl 9991 ⟨rfl, rfl⟩ rfl ?_
        refine x_iloadn (x := l2) rfl rfl ?_
        refine z_ialdM (N := 600) (v := v7) rfl J rfl rfl (by omega) qv7 ?_
        refine x_iconst (v := 1) rfl ki_1 ?_
        refine x_icne (tgt := 24) rfl rfl (ti_ne rfl jk_1 ⟨fun c9 => ?_, fun c9 => ?_⟩)
        ·
          refine x_iconst (v := 0) rfl ki_0 ?_
          refine x_zret rfl rfl (by decide) ?_
          show jX m_X7_reasonFor 3 0 0 117 [(0, .ref 78), (1, .int l1), (2, .int l2)] [.int 0] _ 0 0 _
          refine x_ifeq (tgt := 122) rfl rfl (ti_eq jk_0 jk_0 (br_t (by omega) ?_))
          exact jX.sub (jsb_c rfl (jsb_c rfl (jsb_c rfl jsb_n))) (ct_X7_reasonFor_r78_122 hD hQ  l1 l2 h (jr_of rfl (by omega)) (jr_of rfl (by omega)) J Sm)
        ·
          refine x_iconst (v := 1) rfl ki_1 ?_
          refine x_goto (tgt := 25) rfl rfl ?_
          refine x_zret rfl rfl (by decide) ?_
          show jX m_X7_reasonFor 3 0 0 117 [(0, .ref 78), (1, .int l1), (2, .int l2)] [.int 1] _ 0 0 _
          refine x_ifeq (tgt := 122) rfl rfl (ti_eq jk_1 jk_0 (br_f (by omega) ?_))
          exact jX.sub jsb_n (ct_X7_reasonFor_r78_120 hD hQ  h J Sm)
set_option maxRecDepth 100000 in
set_option maxHeartbeats 4000000 in
theorem ct_X7_reasonFor_r78_68 {Dy : jH → Prop} {h0 : jH} {Q : Option Value → jH → Prop} (hD : jDk Dy) (hQ : ∀ (v : Int32) hx9, 0 ≤ v.toInt ∧ v.toInt ≤ 7 → jJ jSgX Dy hx9 → jSm fp_X7_reasonFor_r78 h0 hx9 → Q (some (.int v)) hx9) : ∀ (l1 : Int32) (l2 : Int32) (h : jH), 0 ≤ l1.toInt ∧ l1.toInt ≤ 599 → 0 ≤ l2.toInt ∧ l2.toInt ≤ 599 → jJ jSgX Dy h → jSm fp_X7_reasonFor_r78 h0 h → jX m_X7_reasonFor 3 0 0 68 [(0, .ref 78), (1, .int l1), (2, .int l2)] [] h 0 0 Q := by
  intro l1 l2 h y0 y1   J Sm
  refine x_aloadn (x := 78) rfl rfl ?_
  refine x_iloadn (x := l1) rfl rfl ?_
  refine x_iloadn (x := l2) rfl rfl ?_
  refine x_iconst (v := 0) rfl ki_0 ?_
  refine x_inv (N := m_X7_areBoth) (As := [.int l1, .int l2, .int 0]) (b := 78) (st := []) (dx9 := 2) (mc := 0) (ms := 0) (host := "") 7 rfl t_X7_areBoth ⟨Or.inl q_7_101, i_X7_areBoth.1, i_X7_areBoth.2⟩ ⟨by decide, rfl⟩ (congrArg Prod.fst (J.1.1 78 (7, 16) rfl)) rfl (by decide) rfl rfl ⟨by decide, by decide⟩ (jC.of rfl k_X7_areBoth rfl ?_)
  show jX m_X7_areBoth 2 0 0 0 [(0, .ref 78), (1, .int l1), (2, .int l2), (3, .int 0)] [] _ 0 0 _
  refine x_aloadn (x := 78) rfl rfl ?_
  refine z_getR (N := 16) (b := 79) 7 7 rfl f_7_27 rfl J rfl 9991 ⟨rfl, rfl⟩ rfl ?_
  refine x_iloadn (x := l1) rfl rfl ?_
  refine z_iald (N := 600) rfl J rfl sg_79_0_600_1_0_1 rfl (by omega) (fun v1 qv1 ev1 => ?_)
  refine x_iloadn (x := 0) rfl rfl ?_
  refine x_icne (tgt := 24) rfl rfl (ti_ne rfl jk_0 ⟨fun c2 => ?_, fun c2 => ?_⟩)
  ·
    refine x_iconst (v := 0) rfl ki_0 ?_
    refine x_zret rfl rfl (by decide) ?_
    show jX m_X7_reasonFor 3 0 0 75 [(0, .ref 78), (1, .int l1), (2, .int l2)] [.int 0] _ 0 0 _
    refine x_ifne (tgt := 120) rfl rfl (ti_ne jk_0 jk_0 (bn_f (by omega) ?_))
    refine x_aloadn (x := 78) rfl rfl ?_
    refine x_iloadn (x := l1) rfl rfl ?_
    refine x_iloadn (x := l2) rfl rfl ?_
    refine x_iconst (v := 5) rfl ki_5 ?_
    refine x_inv (N := m_X7_areBoth) (As := [.int l1, .int l2, .int 5]) (b := 78) (st := []) (dx9 := 2) (mc := 0) (ms := 0) (host := "") 7 rfl t_X7_areBoth ⟨Or.inl q_7_101, i_X7_areBoth.1, i_X7_areBoth.2⟩ ⟨by decide, rfl⟩ (congrArg Prod.fst (J.1.1 78 (7, 16) rfl)) rfl (by decide) rfl rfl ⟨by decide, by decide⟩ (jC.of rfl k_X7_areBoth rfl ?_)
    show jX m_X7_areBoth 2 0 0 0 [(0, .ref 78), (1, .int l1), (2, .int l2), (3, .int 5)] [] _ 0 0 _
    refine x_aloadn (x := 78) rfl rfl ?_
    refine z_getR (N := 16) (b := 79) 7 7 rfl f_7_27 rfl J rfl 9991 ⟨rfl, rfl⟩ rfl ?_
    refine x_iloadn (x := l1) rfl rfl ?_
    refine z_ialdM (N := 600) (v := v1) rfl J rfl rfl (by omega) qv1 ?_
    refine x_iloadn (x := 5) rfl rfl ?_
    refine x_icne (tgt := 24) rfl rfl (ti_ne rfl jk_5 ⟨fun c3 => ?_, fun c3 => ?_⟩)
    ·
      refine x_iconst (v := 0) rfl ki_0 ?_
      refine x_zret rfl rfl (by decide) ?_
      show jX m_X7_reasonFor 3 0 0 85 [(0, .ref 78), (1, .int l1), (2, .int l2)] [.int 0] _ 0 0 _
      refine x_ifne (tgt := 120) rfl rfl (ti_ne jk_0 jk_0 (bn_f (by omega) ?_))
      refine x_aloadn (x := 78) rfl rfl ?_
      refine x_iloadn (x := l1) rfl rfl ?_
      refine x_inv (N := m_X7_isMan) (As := [.int l1]) (b := 78) (st := []) (dx9 := 2) (mc := 0) (ms := 0) (host := "") 7 rfl t_X7_isMan ⟨Or.inl q_7_104, i_X7_isMan.1, i_X7_isMan.2⟩ ⟨by decide, rfl⟩ (congrArg Prod.fst (J.1.1 78 (7, 16) rfl)) rfl (by decide) rfl rfl ⟨by decide, by decide⟩ (jC.of rfl k_X7_isMan rfl ?_)
      show jX m_X7_isMan 2 0 0 0 [(0, .ref 78), (1, .int l1)] [] _ 0 0 _
      refine x_aloadn (x := 78) rfl rfl ?_
      refine z_getR (N := 16) (b := 79) 7 7 rfl f_7_27 rfl J rfl 9991 ⟨rfl, rfl⟩ rfl ?_
      refine x_iloadn (x := l1) rfl rfl ?_
      refine z_ialdM (N := 600) (v := v1) rfl J rfl rfl (by omega) qv1 ?_
      refine x_iconst (v := 3) rfl ki_3 ?_
      refine x_iceq (tgt := 20) rfl rfl (ti_eq rfl jk_3 ⟨fun c4 => ?_, fun c4 => ?_⟩)
      ·
        refine x_iconst (v := 1) rfl ki_1 ?_
        refine x_goto (tgt := 25) rfl rfl ?_
        refine x_zret rfl rfl (by decide) ?_
        show jX m_X7_reasonFor 3 0 0 93 [(0, .ref 78), (1, .int l1), (2, .int l2)] [.int 1] _ 0 0 _
        refine x_ifeq (tgt := 104) rfl rfl (ti_eq jk_1 jk_0 (br_f (by omega) ?_))
        refine x_aloadn (x := 78) rfl rfl ?_
        refine x_iloadn (x := l2) rfl rfl ?_
        refine x_inv (N := m_X7_isWoman) (As := [.int l2]) (b := 78) (st := []) (dx9 := 2) (mc := 0) (ms := 0) (host := "") 7 rfl t_X7_isWoman ⟨Or.inl q_7_98, i_X7_isWoman.1, i_X7_isWoman.2⟩ ⟨by decide, rfl⟩ (congrArg Prod.fst (J.1.1 78 (7, 16) rfl)) rfl (by decide) rfl rfl ⟨by decide, by decide⟩ (jC.of rfl k_X7_isWoman rfl ?_)
        show jX m_X7_isWoman 2 0 0 0 [(0, .ref 78), (1, .int l2)] [] _ 0 0 _
        refine x_aloadn (x := 78) rfl rfl ?_
        refine z_getR (N := 16) (b := 79) 7 7 rfl f_7_27 rfl J rfl 9991 ⟨rfl, rfl⟩ rfl ?_
        refine x_iloadn (x := l2) rfl rfl ?_
        refine z_iald (N := 600) rfl J rfl sg_79_0_600_1_0_1 rfl (by omega) (fun v5 qv5 ev5 => ?_)
        refine x_iconst (v := 4) rfl ki_4 ?_
        refine x_iceq (tgt := 20) rfl rfl (ti_eq rfl jk_4 ⟨fun c6 => ?_, fun c6 => ?_⟩)
        ·
          refine x_iconst (v := 1) rfl ki_1 ?_
          refine x_goto (tgt := 25) rfl rfl ?_
          refine x_zret rfl rfl (by decide) ?_
          show jX m_X7_reasonFor 3 0 0 101 [(0, .ref 78), (1, .int l1), (2, .int l2)] [.int 1] _ 0 0 _
          refine x_ifne (tgt := 120) rfl rfl (ti_ne jk_1 jk_0 (bn_t (by omega) ?_))
          exact jX.sub jsb_n (ct_X7_reasonFor_r78_120 hD hQ  h J Sm)
        ·
          refine x_aloadn (x := 78) rfl rfl ?_
          refine z_getR (N := 16) (b := 79) 7 7 rfl f_7_27 rfl J rfl 9991 ⟨rfl, rfl⟩ rfl ?_
          refine x_iloadn (x := l2) rfl rfl ?_
          refine z_ialdM (N := 600) (v := v5) rfl J rfl rfl (by omega) qv5 ?_
          refine x_iconst (v := 2) rfl ki_2 ?_
          refine x_icne (tgt := 24) rfl rfl (ti_ne rfl jk_2 ⟨fun c7 => ?_, fun c7 => ?_⟩)
          ·
            refine x_iconst (v := 0) rfl ki_0 ?_
            refine x_zret rfl rfl (by decide) ?_
            show jX m_X7_reasonFor 3 0 0 101 [(0, .ref 78), (1, .int l1), (2, .int l2)] [.int 0] _ 0 0 _
            refine x_ifne (tgt := 120) rfl rfl (ti_ne jk_0 jk_0 (bn_f (by omega) ?_))
            exact jX.sub (jsb_c rfl (jsb_c rfl (jsb_c rfl jsb_n))) (ct_X7_reasonFor_r78_104 hD hQ  l1 l2 h (jr_of rfl (by omega)) (jr_of rfl (by omega)) J Sm)
          ·
            refine x_iconst (v := 1) rfl ki_1 ?_
            refine x_goto (tgt := 25) rfl rfl ?_
            refine x_zret rfl rfl (by decide) ?_
            show jX m_X7_reasonFor 3 0 0 101 [(0, .ref 78), (1, .int l1), (2, .int l2)] [.int 1] _ 0 0 _
            refine x_ifne (tgt := 120) rfl rfl (ti_ne jk_1 jk_0 (bn_t (by omega) ?_))
            exact jX.sub jsb_n (ct_X7_reasonFor_r78_120 hD hQ  h J Sm)
      ·
        refine x_aloadn (x := 78) rfl rfl ?_
        refine z_getR (N := 16) (b := 79) 7 7 rfl f_7_27 rfl J rfl 9991 ⟨rfl, rfl⟩ rfl ?_
        refine x_iloadn (x := l1) rfl rfl ?_
        refine z_ialdM (N := 600) (v := v1) rfl J rfl rfl (by omega) qv1 ?_
        refine x_iconst (v := 1) rfl ki_1 ?_
        refine x_icne (tgt := 24) rfl rfl (ti_ne rfl jk_1 ⟨fun c8 => ?_, fun c8 => ?_⟩)
        ·
          refine x_iconst (v := 0) rfl ki_0 ?_
          refine x_zret rfl rfl (by decide) ?_
          show jX m_X7_reasonFor 3 0 0 93 [(0, .ref 78), (1, .int l1), (2, .int l2)] [.int 0] _ 0 0 _
          refine x_ifeq (tgt := 104) rfl rfl (ti_eq jk_0 jk_0 (br_t (by omega) ?_))
          exact jX.sub (jsb_c rfl (jsb_c rfl (jsb_c rfl jsb_n))) (ct_X7_reasonFor_r78_104 hD hQ  l1 l2 h (jr_of rfl (by omega)) (jr_of rfl (by omega)) J Sm)
        ·
          refine x_iconst (v := 1) rfl ki_1 ?_
          refine x_goto (tgt := 25) rfl rfl ?_
          refine x_zret rfl rfl (by decide) ?_
          show jX m_X7_reasonFor 3 0 0 93 [(0, .ref 78), (1, .int l1), (2, .int l2)] [.int 1] _ 0 0 _
          refine x_ifeq (tgt := 104) rfl rfl (ti_eq jk_1 jk_0 (br_f (by omega) ?_))
          refine x_aloadn (x := 78) rfl rfl ?_
          refine x_iloadn (x := l2) rfl rfl ?_
          refine x_inv (N := m_X7_isWoman) (As := [.int l2]) (b := 78) (st := []) (dx9 := 2) (mc := 0) (ms := 0) (host := "") 7 rfl t_X7_isWoman ⟨Or.inl q_7_98, i_X7_isWoman.1, i_X7_isWoman.2⟩ ⟨by decide, rfl⟩ (congrArg Prod.fst (J.1.1 78 (7, 16) rfl)) rfl (by decide) rfl rfl ⟨by decide, by decide⟩ (jC.of rfl k_X7_isWoman rfl ?_)
          show jX m_X7_isWoman 2 0 0 0 [(0, .ref 78), (1, .int l2)] [] _ 0 0 _
          refine x_aloadn (x := 78) rfl rfl ?_
          refine z_getR (N := 16) (b := 79) 7 7 rfl f_7_27 rfl J rfl 9991 ⟨rfl, rfl⟩ rfl ?_
          refine x_iloadn (x := l2) rfl rfl ?_
          refine z_iald (N := 600) rfl J rfl sg_79_0_600_1_0_1 rfl (by omega) (fun v9 qv9 ev9 => ?_)
          refine x_iconst (v := 4) rfl ki_4 ?_
          refine x_iceq (tgt := 20) rfl rfl (ti_eq rfl jk_4 ⟨fun c10 => ?_, fun c10 => ?_⟩)
          ·
            refine x_iconst (v := 1) rfl ki_1 ?_
            refine x_goto (tgt := 25) rfl rfl ?_
            refine x_zret rfl rfl (by decide) ?_
            show jX m_X7_reasonFor 3 0 0 101 [(0, .ref 78), (1, .int l1), (2, .int l2)] [.int 1] _ 0 0 _
            refine x_ifne (tgt := 120) rfl rfl (ti_ne jk_1 jk_0 (bn_t (by omega) ?_))
            exact jX.sub jsb_n (ct_X7_reasonFor_r78_120 hD hQ  h J Sm)
          ·
            refine x_aloadn (x := 78) rfl rfl ?_
            refine z_getR (N := 16) (b := 79) 7 7 rfl f_7_27 rfl J rfl 9991 ⟨rfl, rfl⟩ rfl ?_
            refine x_iloadn (x := l2) rfl rfl ?_
            refine z_ialdM (N := 600) (v := v9) rfl J rfl rfl (by omega) qv9 ?_
            refine x_iconst (v := 2) rfl ki_2 ?_
            refine x_icne (tgt := 24) rfl rfl (ti_ne rfl jk_2 ⟨fun c11 => ?_, fun c11 => ?_⟩)
            ·
              refine x_iconst (v := 0) rfl ki_0 ?_
              refine x_zret rfl rfl (by decide) ?_
              show jX m_X7_reasonFor 3 0 0 101 [(0, .ref 78), (1, .int l1), (2, .int l2)] [.int 0] _ 0 0 _
              refine x_ifne (tgt := 120) rfl rfl (ti_ne jk_0 jk_0 (bn_f (by omega) ?_))
              exact jX.sub (jsb_c rfl (jsb_c rfl (jsb_c rfl jsb_n))) (ct_X7_reasonFor_r78_104 hD hQ  l1 l2 h (jr_of rfl (by omega)) (jr_of rfl (by omega)) J Sm)
            ·
              refine x_iconst (v := 1) rfl ki_1 ?_
              refine x_goto (tgt := 25) rfl rfl ?_
              refine x_zret rfl rfl (by decide) ?_
              show jX m_X7_reasonFor 3 0 0 101 [(0, .ref 78), (1, .int l1), (2, .int l2)] [.int 1] _ 0 0 _
              refine x_ifne (tgt := 120) rfl rfl (ti_ne jk_1 jk_0 (bn_t (by omega) ?_))
              exact jX.sub jsb_n (ct_X7_reasonFor_r78_120 hD hQ  h J Sm)
    ·
      refine x_aloadn (x := 78) rfl rfl ?_
      refine z_getR (N := 16) (b := 79) 7 7 rfl f_7_27 rfl J rfl 9991 ⟨rfl, rfl⟩ rfl ?_
      refine x_iloadn (x := l2) rfl rfl ?_
      refine z_iald (N := 600) rfl J rfl sg_79_0_600_1_0_1 rfl (by omega) (fun v12 qv12 ev12 => ?_)
      refine x_iloadn (x := 5) rfl rfl ?_
      refine x_icne (tgt := 24) rfl rfl (ti_ne rfl jk_5 ⟨fun c13 => ?_, fun c13 => ?_⟩)
      ·
        refine x_iconst (v := 0) rfl ki_0 ?_
        refine x_zret rfl rfl (by decide) ?_
        show jX m_X7_reasonFor 3 0 0 85 [(0, .ref 78), (1, .int l1), (2, .int l2)] [.int 0] _ 0 0 _
        refine x_ifne (tgt := 120) rfl rfl (ti_ne jk_0 jk_0 (bn_f (by omega) ?_))
        refine x_aloadn (x := 78) rfl rfl ?_
        refine x_iloadn (x := l1) rfl rfl ?_
        refine x_inv (N := m_X7_isMan) (As := [.int l1]) (b := 78) (st := []) (dx9 := 2) (mc := 0) (ms := 0) (host := "") 7 rfl t_X7_isMan ⟨Or.inl q_7_104, i_X7_isMan.1, i_X7_isMan.2⟩ ⟨by decide, rfl⟩ (congrArg Prod.fst (J.1.1 78 (7, 16) rfl)) rfl (by decide) rfl rfl ⟨by decide, by decide⟩ (jC.of rfl k_X7_isMan rfl ?_)
        show jX m_X7_isMan 2 0 0 0 [(0, .ref 78), (1, .int l1)] [] _ 0 0 _
        refine x_aloadn (x := 78) rfl rfl ?_
        refine z_getR (N := 16) (b := 79) 7 7 rfl f_7_27 rfl J rfl 9991 ⟨rfl, rfl⟩ rfl ?_
        refine x_iloadn (x := l1) rfl rfl ?_
        refine z_ialdM (N := 600) (v := v1) rfl J rfl rfl (by omega) qv1 ?_
        refine x_iconst (v := 3) rfl ki_3 ?_
        refine x_iceq (tgt := 20) rfl rfl (ti_eq rfl jk_3 (br_f (by omega) ?_))
        refine x_aloadn (x := 78) rfl rfl ?_
        refine z_getR (N := 16) (b := 79) 7 7 rfl f_7_27 rfl J rfl 9991 ⟨rfl, rfl⟩ rfl ?_
        refine x_iloadn (x := l1) rfl rfl ?_
        refine z_ialdM (N := 600) (v := v1) rfl J rfl rfl (by omega) qv1 ?_
        refine x_iconst (v := 1) rfl ki_1 ?_
        refine x_icne (tgt := 24) rfl rfl (ti_ne rfl jk_1 (bn_t (by omega) ?_))
        refine x_iconst (v := 0) rfl ki_0 ?_
        refine x_zret rfl rfl (by decide) ?_
        show jX m_X7_reasonFor 3 0 0 93 [(0, .ref 78), (1, .int l1), (2, .int l2)] [.int 0] _ 0 0 _
        refine x_ifeq (tgt := 104) rfl rfl (ti_eq jk_0 jk_0 (br_t (by omega) ?_))
        exact jX.sub (jsb_c rfl (jsb_c rfl (jsb_c rfl jsb_n))) (ct_X7_reasonFor_r78_104 hD hQ  l1 l2 h (jr_of rfl (by omega)) (jr_of rfl (by omega)) J Sm)
      ·
        refine x_iconst (v := 1) rfl ki_1 ?_
        refine x_goto (tgt := 25) rfl rfl ?_
        refine x_zret rfl rfl (by decide) ?_
        show jX m_X7_reasonFor 3 0 0 85 [(0, .ref 78), (1, .int l1), (2, .int l2)] [.int 1] _ 0 0 _
        refine x_ifne (tgt := 120) rfl rfl (ti_ne jk_1 jk_0 (bn_t (by omega) ?_))
        exact jX.sub jsb_n (ct_X7_reasonFor_r78_120 hD hQ  h J Sm)
  ·
    refine x_aloadn (x := 78) rfl rfl ?_
    refine z_getR (N := 16) (b := 79) 7 7 rfl f_7_27 rfl J rfl 9991 ⟨rfl, rfl⟩ rfl ?_
    refine x_iloadn (x := l2) rfl rfl ?_
    refine z_iald (N := 600) rfl J rfl sg_79_0_600_1_0_1 rfl (by omega) (fun v14 qv14 ev14 => ?_)
    refine x_iloadn (x := 0) rfl rfl ?_
    refine x_icne (tgt := 24) rfl rfl (ti_ne rfl jk_0 ⟨fun c15 => ?_, fun c15 => ?_⟩)
    ·
      refine x_iconst (v := 0) rfl ki_0 ?_
      refine x_zret rfl rfl (by decide) ?_
      show jX m_X7_reasonFor 3 0 0 75 [(0, .ref 78), (1, .int l1), (2, .int l2)] [.int 0] _ 0 0 _
      refine x_ifne (tgt := 120) rfl rfl (ti_ne jk_0 jk_0 (bn_f (by omega) ?_))
      refine x_aloadn (x := 78) rfl rfl ?_
      refine x_iloadn (x := l1) rfl rfl ?_
      refine x_iloadn (x := l2) rfl rfl ?_
      refine x_iconst (v := 5) rfl ki_5 ?_
      refine x_inv (N := m_X7_areBoth) (As := [.int l1, .int l2, .int 5]) (b := 78) (st := []) (dx9 := 2) (mc := 0) (ms := 0) (host := "") 7 rfl t_X7_areBoth ⟨Or.inl q_7_101, i_X7_areBoth.1, i_X7_areBoth.2⟩ ⟨by decide, rfl⟩ (congrArg Prod.fst (J.1.1 78 (7, 16) rfl)) rfl (by decide) rfl rfl ⟨by decide, by decide⟩ (jC.of rfl k_X7_areBoth rfl ?_)
      show jX m_X7_areBoth 2 0 0 0 [(0, .ref 78), (1, .int l1), (2, .int l2), (3, .int 5)] [] _ 0 0 _
      refine x_aloadn (x := 78) rfl rfl ?_
      refine z_getR (N := 16) (b := 79) 7 7 rfl f_7_27 rfl J rfl 9991 ⟨rfl, rfl⟩ rfl ?_
      refine x_iloadn (x := l1) rfl rfl ?_
      refine z_ialdM (N := 600) (v := v1) rfl J rfl rfl (by omega) qv1 ?_
      refine x_iloadn (x := 5) rfl rfl ?_
      refine x_icne (tgt := 24) rfl rfl (ti_ne rfl jk_5 (bn_t (by omega) ?_))
      refine x_iconst (v := 0) rfl ki_0 ?_
      refine x_zret rfl rfl (by decide) ?_
      show jX m_X7_reasonFor 3 0 0 85 [(0, .ref 78), (1, .int l1), (2, .int l2)] [.int 0] _ 0 0 _
      refine x_ifne (tgt := 120) rfl rfl (ti_ne jk_0 jk_0 (bn_f (by omega) ?_))
      refine x_aloadn (x := 78) rfl rfl ?_
      refine x_iloadn (x := l1) rfl rfl ?_
      refine x_inv (N := m_X7_isMan) (As := [.int l1]) (b := 78) (st := []) (dx9 := 2) (mc := 0) (ms := 0) (host := "") 7 rfl t_X7_isMan ⟨Or.inl q_7_104, i_X7_isMan.1, i_X7_isMan.2⟩ ⟨by decide, rfl⟩ (congrArg Prod.fst (J.1.1 78 (7, 16) rfl)) rfl (by decide) rfl rfl ⟨by decide, by decide⟩ (jC.of rfl k_X7_isMan rfl ?_)
      show jX m_X7_isMan 2 0 0 0 [(0, .ref 78), (1, .int l1)] [] _ 0 0 _
      refine x_aloadn (x := 78) rfl rfl ?_
      refine z_getR (N := 16) (b := 79) 7 7 rfl f_7_27 rfl J rfl 9991 ⟨rfl, rfl⟩ rfl ?_
      refine x_iloadn (x := l1) rfl rfl ?_
      refine z_ialdM (N := 600) (v := v1) rfl J rfl rfl (by omega) qv1 ?_
      refine x_iconst (v := 3) rfl ki_3 ?_
      refine x_iceq (tgt := 20) rfl rfl (ti_eq rfl jk_3 (br_f (by omega) ?_))
      refine x_aloadn (x := 78) rfl rfl ?_
      refine z_getR (N := 16) (b := 79) 7 7 rfl f_7_27 rfl J rfl 9991 ⟨rfl, rfl⟩ rfl ?_
      refine x_iloadn (x := l1) rfl rfl ?_
      refine z_ialdM (N := 600) (v := v1) rfl J rfl rfl (by omega) qv1 ?_
      refine x_iconst (v := 1) rfl ki_1 ?_
      refine x_icne (tgt := 24) rfl rfl (ti_ne rfl jk_1 (bn_t (by omega) ?_))
      refine x_iconst (v := 0) rfl ki_0 ?_
      refine x_zret rfl rfl (by decide) ?_
      show jX m_X7_reasonFor 3 0 0 93 [(0, .ref 78), (1, .int l1), (2, .int l2)] [.int 0] _ 0 0 _
      refine x_ifeq (tgt := 104) rfl rfl (ti_eq jk_0 jk_0 (br_t (by omega) ?_))
      exact jX.sub (jsb_c rfl (jsb_c rfl (jsb_c rfl jsb_n))) (ct_X7_reasonFor_r78_104 hD hQ  l1 l2 h (jr_of rfl (by omega)) (jr_of rfl (by omega)) J Sm)
    ·
      refine x_iconst (v := 1) rfl ki_1 ?_
      refine x_goto (tgt := 25) rfl rfl ?_
      refine x_zret rfl rfl (by decide) ?_
      show jX m_X7_reasonFor 3 0 0 75 [(0, .ref 78), (1, .int l1), (2, .int l2)] [.int 1] _ 0 0 _
      refine x_ifne (tgt := 120) rfl rfl (ti_ne jk_1 jk_0 (bn_t (by omega) ?_))
      exact jX.sub jsb_n (ct_X7_reasonFor_r78_120 hD hQ  h J Sm)
set_option maxRecDepth 100000 in
set_option maxHeartbeats 4000000 in
theorem sf_X7_reasonFor_r78 {Dy : jH → Prop} {h : jH} {Q : Option Value → jH → Prop} {a1 : Int32} {a2 : Int32} (y1 : 0 ≤ a1.toInt ∧ a1.toInt ≤ 599) (y2 : 0 ≤ a2.toInt ∧ a2.toInt ≤ 599) (hD : jDk Dy) (J : jJ jSgX Dy h) (hQ : ∀ (v : Int32) hx9, 0 ≤ v.toInt ∧ v.toInt ≤ 7 → jJ jSgX Dy hx9 → jSm fp_X7_reasonFor_r78 h hx9 → Q (some (.int v)) hx9) : jC m_X7_reasonFor 3 0 0 [.ref 78, .int a1, .int a2] h Q := by
  refine jC.of rfl k_X7_reasonFor rfl ?_
  have Sm := jSm_rf fp_X7_reasonFor_r78 h
  show jX m_X7_reasonFor 3 0 0 0 [(0, .ref 78), (1, .int a1), (2, .int a2)] [] _ 0 0 _
  refine x_iloadn (x := a1) rfl rfl ?_
  refine x_iconst (v := 3) rfl ki_3 ?_
  refine z_idiv rfl rfl jk_3 (by omega) (by omega) (fun v1 ev1 => ?_)
  refine x_iloadn (x := a2) rfl rfl ?_
  refine x_iconst (v := 3) rfl ki_3 ?_
  refine z_idiv rfl rfl jk_3 (by omega) (by omega) (fun v2 ev2 => ?_)
  refine x_icne (tgt := 11) rfl rfl (ti_ne rfl rfl ⟨fun c3 => ?_, fun c3 => ?_⟩)
  ·
    refine x_aloadn (x := 78) rfl rfl ?_
    refine x_iloadn (x := a1) rfl rfl ?_
    refine x_iloadn (x := a2) rfl rfl ?_
    refine x_inv (N := m_X7_areApart) (As := [.int a1, .int a2]) (b := 78) (st := []) (dx9 := 2) (mc := 0) (ms := 0) (host := "") 7 rfl t_X7_areApart ⟨Or.inl q_7_88, i_X7_areApart.1, i_X7_areApart.2⟩ ⟨by decide, rfl⟩ (congrArg Prod.fst (J.1.1 78 (7, 16) rfl)) rfl (by decide) rfl rfl ⟨by decide, by decide⟩ (sf_X7_areApart_r78 (jr_of rfl (by omega)) (jr_of rfl (by omega)) hD J  (fun v5 h ev5 J S4 => ?_))
    have Sm := jSm_tr rfl Sm S4
    show jX m_X7_reasonFor 3 0 0 17 [(0, .ref 78), (1, .int a1), (2, .int a2)] [.int v5] _ 0 0 _
    refine x_ifeq (tgt := 22) rfl rfl (ti_eq rfl jk_0 ⟨fun c6 => ?_, fun c6 => ?_⟩)
    ·
      refine x_aloadn (x := 78) rfl rfl ?_
      refine z_getR (N := 16) (b := 70) 7 1 rfl f_7_59 rfl J rfl 9985 ⟨rfl, rfl⟩ rfl ?_
      refine x_iloadn (x := a1) rfl rfl ?_
      refine x_iloadn (x := a2) rfl rfl ?_
      refine x_iconst (v := 0) rfl ki_0 ?_
      refine x_inv (N := m_X5_differ) (As := [.int a1, .int a2, .int 0]) (b := 70) (st := []) (dx9 := 1) (mc := 0) (ms := 0) (host := "") 5 rfl t_X5_differ ⟨Or.inl q_7_92, i_X5_differ.1, i_X5_differ.2⟩ ⟨by decide, rfl⟩ (congrArg Prod.fst (J.1.1 70 (5, 9) rfl)) rfl (by decide) rfl rfl ⟨by decide, by decide⟩ (sf_X5_differ_r70 (jr_of rfl (by omega)) (jr_of rfl (by omega)) (jr_of jk_0 (by omega)) hD J  (fun v8 h ev8 J S7 => ?_))
      have Sm := jSm_tr rfl Sm S7
      show jX m_X7_reasonFor 3 0 0 32 [(0, .ref 78), (1, .int a1), (2, .int a2)] [.int v8] _ 0 0 _
      refine x_ifeq (tgt := 37) rfl rfl (ti_eq rfl jk_0 ⟨fun c9 => ?_, fun c9 => ?_⟩)
      ·
        refine x_aloadn (x := 78) rfl rfl ?_
        refine x_iloadn (x := a1) rfl rfl ?_
        refine x_inv (N := m_X7_isWoman) (As := [.int a1]) (b := 78) (st := []) (dx9 := 2) (mc := 0) (ms := 0) (host := "") 7 rfl t_X7_isWoman ⟨Or.inl q_7_98, i_X7_isWoman.1, i_X7_isWoman.2⟩ ⟨by decide, rfl⟩ (congrArg Prod.fst (J.1.1 78 (7, 16) rfl)) rfl (by decide) rfl rfl ⟨by decide, by decide⟩ (jC.of rfl k_X7_isWoman rfl ?_)
        show jX m_X7_isWoman 2 0 0 0 [(0, .ref 78), (1, .int a1)] [] _ 0 0 _
        refine x_aloadn (x := 78) rfl rfl ?_
        refine z_getR (N := 16) (b := 79) 7 7 rfl f_7_27 rfl J rfl 9991 ⟨rfl, rfl⟩ rfl ?_
        refine x_iloadn (x := a1) rfl rfl ?_
        refine z_iald (N := 600) rfl J rfl sg_79_0_600_1_0_1 rfl (by omega) (fun v10 qv10 ev10 => ?_)
        refine x_iconst (v := 4) rfl ki_4 ?_
        refine x_iceq (tgt := 20) rfl rfl (ti_eq rfl jk_4 ⟨fun c11 => ?_, fun c11 => ?_⟩)
        ·
          refine x_iconst (v := 1) rfl ki_1 ?_
          refine x_goto (tgt := 25) rfl rfl ?_
          refine x_zret rfl rfl (by decide) ?_
          show jX m_X7_reasonFor 3 0 0 42 [(0, .ref 78), (1, .int a1), (2, .int a2)] [.int 1] _ 0 0 _
          refine x_ifne (tgt := 68) rfl rfl (ti_ne jk_1 jk_0 (bn_t (by omega) ?_))
          exact jX.sub (jsb_c rfl (jsb_c rfl (jsb_c rfl jsb_n))) (ct_X7_reasonFor_r78_68 hD hQ  a1 a2 h (jr_of rfl (by omega)) (jr_of rfl (by omega)) J Sm)
        ·
          refine x_aloadn (x := 78) rfl rfl ?_
          refine z_getR (N := 16) (b := 79) 7 7 rfl f_7_27 rfl J rfl 9991 ⟨rfl, rfl⟩ rfl ?_
          refine x_iloadn (x := a1) rfl rfl ?_
          refine z_ialdM (N := 600) (v := v10) rfl J rfl rfl (by omega) qv10 ?_
          refine x_iconst (v := 2) rfl ki_2 ?_
          refine x_icne (tgt := 24) rfl rfl (ti_ne rfl jk_2 ⟨fun c12 => ?_, fun c12 => ?_⟩)
          ·
            refine x_iconst (v := 0) rfl ki_0 ?_
            refine x_zret rfl rfl (by decide) ?_
            show jX m_X7_reasonFor 3 0 0 42 [(0, .ref 78), (1, .int a1), (2, .int a2)] [.int 0] _ 0 0 _
            refine x_ifne (tgt := 68) rfl rfl (ti_ne jk_0 jk_0 (bn_f (by omega) ?_))
            refine x_aloadn (x := 78) rfl rfl ?_
            refine x_iloadn (x := a2) rfl rfl ?_
            refine x_inv (N := m_X7_isWoman) (As := [.int a2]) (b := 78) (st := []) (dx9 := 2) (mc := 0) (ms := 0) (host := "") 7 rfl t_X7_isWoman ⟨Or.inl q_7_98, i_X7_isWoman.1, i_X7_isWoman.2⟩ ⟨by decide, rfl⟩ (congrArg Prod.fst (J.1.1 78 (7, 16) rfl)) rfl (by decide) rfl rfl ⟨by decide, by decide⟩ (jC.of rfl k_X7_isWoman rfl ?_)
            show jX m_X7_isWoman 2 0 0 0 [(0, .ref 78), (1, .int a2)] [] _ 0 0 _
            refine x_aloadn (x := 78) rfl rfl ?_
            refine z_getR (N := 16) (b := 79) 7 7 rfl f_7_27 rfl J rfl 9991 ⟨rfl, rfl⟩ rfl ?_
            refine x_iloadn (x := a2) rfl rfl ?_
            refine z_iald (N := 600) rfl J rfl sg_79_0_600_1_0_1 rfl (by omega) (fun v13 qv13 ev13 => ?_)
            refine x_iconst (v := 4) rfl ki_4 ?_
            refine x_iceq (tgt := 20) rfl rfl (ti_eq rfl jk_4 ⟨fun c14 => ?_, fun c14 => ?_⟩)
            ·
              refine x_iconst (v := 1) rfl ki_1 ?_
              refine x_goto (tgt := 25) rfl rfl ?_
              refine x_zret rfl rfl (by decide) ?_
              show jX m_X7_reasonFor 3 0 0 50 [(0, .ref 78), (1, .int a1), (2, .int a2)] [.int 1] _ 0 0 _
              refine x_ifne (tgt := 68) rfl rfl (ti_ne jk_1 jk_0 (bn_t (by omega) ?_))
              exact jX.sub (jsb_c rfl (jsb_c rfl (jsb_c rfl jsb_n))) (ct_X7_reasonFor_r78_68 hD hQ  a1 a2 h (jr_of rfl (by omega)) (jr_of rfl (by omega)) J Sm)
            ·
              refine x_aloadn (x := 78) rfl rfl ?_
              refine z_getR (N := 16) (b := 79) 7 7 rfl f_7_27 rfl J rfl 9991 ⟨rfl, rfl⟩ rfl ?_
              refine x_iloadn (x := a2) rfl rfl ?_
              refine z_ialdM (N := 600) (v := v13) rfl J rfl rfl (by omega) qv13 ?_
              refine x_iconst (v := 2) rfl ki_2 ?_
              refine x_icne (tgt := 24) rfl rfl (ti_ne rfl jk_2 ⟨fun c15 => ?_, fun c15 => ?_⟩)
              ·
                refine x_iconst (v := 0) rfl ki_0 ?_
                refine x_zret rfl rfl (by decide) ?_
                show jX m_X7_reasonFor 3 0 0 50 [(0, .ref 78), (1, .int a1), (2, .int a2)] [.int 0] _ 0 0 _
                refine x_ifne (tgt := 68) rfl rfl (ti_ne jk_0 jk_0 (bn_f (by omega) ?_))
                refine x_aloadn (x := 78) rfl rfl ?_
                refine z_getR (N := 16) (b := 70) 7 1 rfl f_7_59 rfl J rfl 9985 ⟨rfl, rfl⟩ rfl ?_
                refine x_iloadn (x := a1) rfl rfl ?_
                refine x_iloadn (x := a2) rfl rfl ?_
                refine x_iconst (v := 1) rfl ki_1 ?_
                refine x_inv (N := m_X5_differ) (As := [.int a1, .int a2, .int 1]) (b := 70) (st := []) (dx9 := 1) (mc := 0) (ms := 0) (host := "") 5 rfl t_X5_differ ⟨Or.inl q_7_92, i_X5_differ.1, i_X5_differ.2⟩ ⟨by decide, rfl⟩ (congrArg Prod.fst (J.1.1 70 (5, 9) rfl)) rfl (by decide) rfl rfl ⟨by decide, by decide⟩ (sf_X5_differ_r70 (jr_of rfl (by omega)) (jr_of rfl (by omega)) (jr_of jk_1 (by omega)) hD J  (fun v17 h ev17 J S16 => ?_))
                have Sm := jSm_tr rfl Sm S16
                show jX m_X7_reasonFor 3 0 0 63 [(0, .ref 78), (1, .int a1), (2, .int a2)] [.int v17] _ 0 0 _
                refine x_ifeq (tgt := 68) rfl rfl (ti_eq rfl jk_0 ⟨fun c18 => ?_, fun c18 => ?_⟩)
                ·
                  exact jX.sub (jsb_c rfl (jsb_c rfl (jsb_c rfl jsb_n))) (ct_X7_reasonFor_r78_68 hD hQ  a1 a2 h (jr_of rfl (by omega)) (jr_of rfl (by omega)) J Sm)
                ·
                  refine x_iconst (v := 4) rfl ki_4 ?_
                  refine x_iret rfl rfl ?_
                  exact hQ _ _ (jr_of jk_4 (by omega)) J Sm
              ·
                refine x_iconst (v := 1) rfl ki_1 ?_
                refine x_goto (tgt := 25) rfl rfl ?_
                refine x_zret rfl rfl (by decide) ?_
                show jX m_X7_reasonFor 3 0 0 50 [(0, .ref 78), (1, .int a1), (2, .int a2)] [.int 1] _ 0 0 _
                refine x_ifne (tgt := 68) rfl rfl (ti_ne jk_1 jk_0 (bn_t (by omega) ?_))
                exact jX.sub (jsb_c rfl (jsb_c rfl (jsb_c rfl jsb_n))) (ct_X7_reasonFor_r78_68 hD hQ  a1 a2 h (jr_of rfl (by omega)) (jr_of rfl (by omega)) J Sm)
          ·
            refine x_iconst (v := 1) rfl ki_1 ?_
            refine x_goto (tgt := 25) rfl rfl ?_
            refine x_zret rfl rfl (by decide) ?_
            show jX m_X7_reasonFor 3 0 0 42 [(0, .ref 78), (1, .int a1), (2, .int a2)] [.int 1] _ 0 0 _
            refine x_ifne (tgt := 68) rfl rfl (ti_ne jk_1 jk_0 (bn_t (by omega) ?_))
            exact jX.sub (jsb_c rfl (jsb_c rfl (jsb_c rfl jsb_n))) (ct_X7_reasonFor_r78_68 hD hQ  a1 a2 h (jr_of rfl (by omega)) (jr_of rfl (by omega)) J Sm)
      ·
        refine x_iconst (v := 3) rfl ki_3 ?_
        refine x_iret rfl rfl ?_
        exact hQ _ _ (jr_of jk_3 (by omega)) J Sm
    ·
      refine x_iconst (v := 2) rfl ki_2 ?_
      refine x_iret rfl rfl ?_
      exact hQ _ _ (jr_of jk_2 (by omega)) J Sm
  ·
    refine x_iconst (v := 1) rfl ki_1 ?_
    refine x_iret rfl rfl ?_
    exact hQ _ _ (jr_of jk_1 (by omega)) J Sm
def fp_X7_mayBeOne_r78 : jFp := []
set_option maxRecDepth 100000 in
set_option maxHeartbeats 4000000 in
theorem ct_X7_mayBeOne_r78_78 {Dy : jH → Prop} {h0 : jH} {Q : Option Value → jH → Prop} (hD : jDk Dy) (hQ : ∀ (v : Int32) hx9, 0 ≤ v.toInt ∧ v.toInt ≤ 1 → jJ jSgX Dy hx9 → jSm fp_X7_mayBeOne_r78 h0 hx9 → Q (some (.int v)) hx9) : ∀ (h : jH), jJ jSgX Dy h → jSm fp_X7_mayBeOne_r78 h0 h → jX m_X7_mayBeOne 4 0 0 78 [] [] h 0 0 Q := by
  intro  h    J Sm
  refine x_iconst (v := 1) rfl ki_1 ?_
  refine x_zret rfl rfl (by decide) ?_
  exact hQ _ _ (jr_of jk_1 (by omega)) J Sm
set_option maxRecDepth 100000 in
set_option maxHeartbeats 4000000 in
theorem ct_X7_mayBeOne_r78_65 {Dy : jH → Prop} {h0 : jH} {Q : Option Value → jH → Prop} {R5 : Int} (hD : jDk Dy) (hQ : ∀ (v : Int32) hx9, 0 ≤ v.toInt ∧ v.toInt ≤ 1 → jJ jSgX Dy hx9 → jSm fp_X7_mayBeOne_r78 h0 hx9 → Q (some (.int v)) hx9) (k5 : ∀ (l2 : Int32) (l3 : Int32) (l4 : Int32) (h : jH), 600 - l4.toInt < R5 → 0 ≤ l2.toInt ∧ l2.toInt ≤ 599 → (-1) ≤ l3.toInt ∧ l3.toInt ≤ 599 → 0 ≤ l4.toInt ∧ l4.toInt ≤ 600 → jJ jSgX Dy h → jSm fp_X7_mayBeOne_r78 h0 h → jX m_X7_mayBeOne 4 0 0 5 [(0, .ref 78), (2, .int l2), (3, .int l3), (4, .int l4)] [] h 0 0 Q) : ∀ (l2 : Int32) (l3 : Int32) (l4 : Int32) (h : jH), 0 ≤ l2.toInt ∧ l2.toInt ≤ 599 → 0 ≤ l3.toInt ∧ l3.toInt ≤ 599 → 0 ≤ l4.toInt ∧ l4.toInt ≤ 599 → 600 - l4.toInt ≤ R5 → jJ jSgX Dy h → jSm fp_X7_mayBeOne_r78 h0 h → jX m_X7_mayBeOne 4 0 0 65 [(0, .ref 78), (2, .int l2), (3, .int l3), (4, .int l4)] [] h 0 0 Q := by
  intro l2 l3 l4 h y0 y1 y2  m5 J Sm
  refine x_aloadn (x := 78) rfl rfl ?_
  refine z_getR (N := 16) (b := 83) 7 11 rfl f_7_40 rfl J rfl 9995 ⟨rfl, rfl⟩ rfl ?_
  refine x_iloadn (x := l3) rfl rfl ?_
  refine z_iald (N := 600) rfl J rfl sg_83_0_600_1_0_1 rfl (by omega) (fun v1 qv1 ev1 => ?_)
  refine x_istoren (lsx9 := [(3, .int v1), (0, .ref 78), (2, .int l2), (4, .int l4)]) rfl rfl rfl ?_
  refine z_iinc (x := l4) (lsx9 := fun v2 => [(4, .int v2), (3, .int v1), (0, .ref 78), (2, .int l2)]) rfl rfl rfl jko_1 (by omega) rfl (fun _ => rfl) (fun v2 ev2 => ?_)
  refine x_goto (tgt := 5) rfl rfl ?_
  exact jX.sub (jsb_c rfl (jsb_c rfl (jsb_c rfl (jsb_c rfl jsb_n)))) (k5 l2 v1 v2 h (by omega) (jr_of rfl (by omega)) (jr_of rfl (by omega)) (jr_of rfl (by omega)) J Sm)
set_option maxRecDepth 100000 in
set_option maxHeartbeats 4000000 in
theorem ct_X7_mayBeOne_r78_24 {Dy : jH → Prop} {h0 : jH} {Q : Option Value → jH → Prop} {R5 : Int} (hD : jDk Dy) (hQ : ∀ (v : Int32) hx9, 0 ≤ v.toInt ∧ v.toInt ≤ 1 → jJ jSgX Dy hx9 → jSm fp_X7_mayBeOne_r78 h0 hx9 → Q (some (.int v)) hx9) (k5 : ∀ (l2 : Int32) (l3 : Int32) (l4 : Int32) (h : jH), 600 - l4.toInt < R5 → 0 ≤ l2.toInt ∧ l2.toInt ≤ 599 → (-1) ≤ l3.toInt ∧ l3.toInt ≤ 599 → 0 ≤ l4.toInt ∧ l4.toInt ≤ 600 → jJ jSgX Dy h → jSm fp_X7_mayBeOne_r78 h0 h → jX m_X7_mayBeOne 4 0 0 5 [(0, .ref 78), (2, .int l2), (3, .int l3), (4, .int l4)] [] h 0 0 Q) : ∀ r : Nat, ∀ (l2 : Int32) (l3 : Int32) (l4 : Int32) (l5 : Int32) (l6 : Int32) (h : jH), 600 - l6.toInt < (r : Int) → 0 ≤ l2.toInt ∧ l2.toInt ≤ 599 → 0 ≤ l3.toInt ∧ l3.toInt ≤ 599 → 0 ≤ l4.toInt ∧ l4.toInt ≤ 599 → (-1) ≤ l5.toInt ∧ l5.toInt ≤ 599 → 0 ≤ l6.toInt ∧ l6.toInt ≤ 600 → 600 - l4.toInt ≤ R5 → jJ jSgX Dy h → jSm fp_X7_mayBeOne_r78 h0 h → jX m_X7_mayBeOne 4 0 0 24 [(0, .ref 78), (2, .int l2), (3, .int l3), (4, .int l4), (5, .int l5), (6, .int l6)] [] h 0 0 Q := by
  intro r
  induction r with
  | zero =>
    intro l2 l3 l4 l5 l6 h hm y0 y1 y2 y3 y4  m5 J Sm
    exfalso
    omega
  | succ r ih =>
    intro l2 l3 l4 l5 l6 h hm y0 y1 y2 y3 y4  m5 J Sm
    refine x_iload (x := l5) rfl rfl ?_
    refine x_iconst (v := (-1)) rfl ki_m1 ?_
    refine x_iceq (tgt := 65) rfl rfl (ti_eq rfl jk_m1 ⟨fun c1 => ?_, fun c1 => ?_⟩)
    ·
      exact jX.sub (jsb_c rfl (jsb_c rfl (jsb_c rfl (jsb_c rfl jsb_n)))) (ct_X7_mayBeOne_r78_65 hD hQ k5 l2 l3 l4 h (jr_of rfl (by omega)) (jr_of rfl (by omega)) (jr_of rfl (by omega)) (by omega) J Sm)
    ·
      refine x_iload (x := l6) rfl rfl ?_
      refine x_sipush (v := 600) rfl ks_600 ?_
      refine x_icge (tgt := 65) rfl rfl (ti_ge rfl jk_600 ⟨fun c2 => ?_, fun c2 => ?_⟩)
      ·
        exact jX.sub (jsb_c rfl (jsb_c rfl (jsb_c rfl (jsb_c rfl jsb_n)))) (ct_X7_mayBeOne_r78_65 hD hQ k5 l2 l3 l4 h (jr_of rfl (by omega)) (jr_of rfl (by omega)) (jr_of rfl (by omega)) (by omega) J Sm)
      ·
        refine x_aloadn (x := 78) rfl rfl ?_
        refine x_iloadn (x := l3) rfl rfl ?_
        refine x_iload (x := l5) rfl rfl ?_
        refine x_inv (N := m_X7_reasonFor) (As := [.int l3, .int l5]) (b := 78) (st := []) (dx9 := 3) (mc := 0) (ms := 0) (host := "") 7 rfl t_X7_reasonFor ⟨Or.inl q_7_125, i_X7_reasonFor.1, i_X7_reasonFor.2⟩ ⟨by decide, rfl⟩ (congrArg Prod.fst (J.1.1 78 (7, 16) rfl)) rfl (by decide) rfl rfl ⟨by decide, by decide⟩ (sf_X7_reasonFor_r78 (jr_of rfl (by omega)) (jr_of rfl (by omega)) hD J  (fun v4 h ev4 J S3 => ?_))
        have Sm := jSm_tr rfl Sm S3
        show jX m_X7_mayBeOne 4 0 0 45 [(0, .ref 78), (2, .int l2), (3, .int l3), (4, .int l4), (5, .int l5), (6, .int l6)] [.int v4] _ 0 0 _
        refine x_ifeq (tgt := 50) rfl rfl (ti_eq rfl jk_0 ⟨fun c5 => ?_, fun c5 => ?_⟩)
        ·
          refine x_aloadn (x := 78) rfl rfl ?_
          refine z_getR (N := 16) (b := 83) 7 11 rfl f_7_40 rfl J rfl 9995 ⟨rfl, rfl⟩ rfl ?_
          refine x_iload (x := l5) rfl rfl ?_
          refine z_iald (N := 600) rfl J rfl sg_83_0_600_1_0_1 rfl (by omega) (fun v6 qv6 ev6 => ?_)
          refine x_istore (lsx9 := [(5, .int v6), (0, .ref 78), (2, .int l2), (3, .int l3), (4, .int l4), (6, .int l6)]) rfl rfl rfl ?_
          refine z_iinc (x := l6) (lsx9 := fun v7 => [(6, .int v7), (5, .int v6), (0, .ref 78), (2, .int l2), (3, .int l3), (4, .int l4)]) rfl rfl rfl jko_1 (by omega) rfl (fun _ => rfl) (fun v7 ev7 => ?_)
          refine x_goto (tgt := 24) rfl rfl ?_
          exact jX.sub (jsb_c rfl (jsb_c rfl (jsb_c rfl (jsb_c rfl (jsb_c rfl (jsb_c rfl jsb_n)))))) (ih l2 l3 l4 v6 v7 h (by omega) (jr_of rfl (by omega)) (jr_of rfl (by omega)) (jr_of rfl (by omega)) (jr_of rfl (by omega)) (jr_of rfl (by omega)) (by omega) J Sm)
        ·
          refine x_iconst (v := 0) rfl ki_0 ?_
          refine x_zret rfl rfl (by decide) ?_
          exact hQ _ _ (jr_of jk_0 (by omega)) J Sm
set_option maxRecDepth 100000 in
set_option maxHeartbeats 4000000 in
theorem ct_X7_mayBeOne_r78_5 {Dy : jH → Prop} {h0 : jH} {Q : Option Value → jH → Prop} (hD : jDk Dy) (hQ : ∀ (v : Int32) hx9, 0 ≤ v.toInt ∧ v.toInt ≤ 1 → jJ jSgX Dy hx9 → jSm fp_X7_mayBeOne_r78 h0 hx9 → Q (some (.int v)) hx9) : ∀ r : Nat, ∀ (l2 : Int32) (l3 : Int32) (l4 : Int32) (h : jH), 600 - l4.toInt < (r : Int) → 0 ≤ l2.toInt ∧ l2.toInt ≤ 599 → (-1) ≤ l3.toInt ∧ l3.toInt ≤ 599 → 0 ≤ l4.toInt ∧ l4.toInt ≤ 600 → jJ jSgX Dy h → jSm fp_X7_mayBeOne_r78 h0 h → jX m_X7_mayBeOne 4 0 0 5 [(0, .ref 78), (2, .int l2), (3, .int l3), (4, .int l4)] [] h 0 0 Q := by
  intro r
  induction r with
  | zero =>
    intro l2 l3 l4 h hm y0 y1 y2   J Sm
    exfalso
    omega
  | succ r ih =>
    intro l2 l3 l4 h hm y0 y1 y2   J Sm
    refine x_iloadn (x := l3) rfl rfl ?_
    refine x_iconst (v := (-1)) rfl ki_m1 ?_
    refine x_iceq (tgt := 78) rfl rfl (ti_eq rfl jk_m1 ⟨fun c1 => ?_, fun c1 => ?_⟩)
    ·
      exact jX.sub jsb_n (ct_X7_mayBeOne_r78_78 hD hQ  h J Sm)
    ·
      refine x_iload (x := l4) rfl rfl ?_
      refine x_sipush (v := 600) rfl ks_600 ?_
      refine x_icge (tgt := 78) rfl rfl (ti_ge rfl jk_600 ⟨fun c2 => ?_, fun c2 => ?_⟩)
      ·
        exact jX.sub jsb_n (ct_X7_mayBeOne_r78_78 hD hQ  h J Sm)
      ·
        refine x_iloadn (x := l2) rfl rfl ?_
        refine x_istore (lsx9 := [(5, .int l2), (0, .ref 78), (2, .int l2), (3, .int l3), (4, .int l4)]) rfl rfl rfl ?_
        refine x_iconst (v := 0) rfl ki_0 ?_
        refine x_istore (lsx9 := [(6, .int 0), (5, .int l2), (0, .ref 78), (2, .int l2), (3, .int l3), (4, .int l4)]) rfl rfl rfl ?_
        exact jX.sub (jsb_c rfl (jsb_c rfl (jsb_c rfl (jsb_c rfl (jsb_c rfl (jsb_c rfl jsb_n)))))) (ct_X7_mayBeOne_r78_24 hD hQ ih 601 l2 l3 l4 l2 0 h (by have := jk_0; omega) (jr_of rfl (by omega)) (jr_of rfl (by omega)) (jr_of rfl (by omega)) (jr_of rfl (by omega)) (jr_of jk_0 (by omega)) (by omega) J Sm)
set_option maxRecDepth 100000 in
set_option maxHeartbeats 4000000 in
theorem sf_X7_mayBeOne_r78 {Dy : jH → Prop} {h : jH} {Q : Option Value → jH → Prop} {a1 : Int32} {a2 : Int32} (y1 : 0 ≤ a1.toInt ∧ a1.toInt ≤ 599) (y2 : 0 ≤ a2.toInt ∧ a2.toInt ≤ 599) (hD : jDk Dy) (J : jJ jSgX Dy h) (hQ : ∀ (v : Int32) hx9, 0 ≤ v.toInt ∧ v.toInt ≤ 1 → jJ jSgX Dy hx9 → jSm fp_X7_mayBeOne_r78 h hx9 → Q (some (.int v)) hx9) : jC m_X7_mayBeOne 4 0 0 [.ref 78, .int a1, .int a2] h Q := by
  refine jC.of rfl k_X7_mayBeOne rfl ?_
  have Sm := jSm_rf fp_X7_mayBeOne_r78 h
  show jX m_X7_mayBeOne 4 0 0 0 [(0, .ref 78), (1, .int a1), (2, .int a2)] [] _ 0 0 _
  refine x_iloadn (x := a1) rfl rfl ?_
  refine x_istoren (lsx9 := [(3, .int a1), (0, .ref 78), (1, .int a1), (2, .int a2)]) rfl rfl rfl ?_
  refine x_iconst (v := 0) rfl ki_0 ?_
  refine x_istore (lsx9 := [(4, .int 0), (3, .int a1), (0, .ref 78), (1, .int a1), (2, .int a2)]) rfl rfl rfl ?_
  exact jX.sub (jsb_c rfl (jsb_c rfl (jsb_c rfl (jsb_c rfl jsb_n)))) (ct_X7_mayBeOne_r78_5 hD hQ  601 a2 a1 0 h (by have := jk_0; omega) (jr_of rfl (by omega)) (jr_of rfl (by omega)) (jr_of jk_0 (by omega)) J Sm)
def fp_X7_merge_r78 : jFp := [(82, 0, 600), (83, 0, 600)]
set_option maxRecDepth 100000 in
set_option maxHeartbeats 4000000 in
theorem ct_X7_merge_r78_100 {Dy : jH → Prop} {h0 : jH} {Q : Option Value → jH → Prop} (hD : jDk Dy) (hQ : ∀ hx9, jJ jSgX Dy hx9 → jSm fp_X7_merge_r78 h0 hx9 → Q none hx9) : ∀ (l3 : Int32) (l4 : Int32) (h : jH), 0 ≤ l3.toInt ∧ l3.toInt ≤ 599 → (-1) ≤ l4.toInt ∧ l4.toInt ≤ 599 → jJ jSgX Dy h → jSm fp_X7_merge_r78 h0 h → jX m_X7_merge 1 0 0 100 [(0, .ref 78), (3, .int l3), (4, .int l4)] [] h 0 0 Q := by
  intro l3 l4 h y0 y1   J Sm
  refine x_aloadn (x := 78) rfl rfl ?_
  refine z_getR (N := 16) (b := 83) 7 11 rfl f_7_40 rfl J rfl 9995 ⟨rfl, rfl⟩ rfl ?_
  refine x_iloadn (x := l3) rfl rfl ?_
  refine x_iload (x := l4) rfl rfl ?_
  refine z_iast (N := 600) (l := 0) (u := 600) (w := l4.toInt) rfl hD J Sm rfl rfl rfl (by omega) rfl (wr_83 (fun q1 q2 q3 q4 => by omega)) rfl (fun h w1 J Sm => ?_)
  refine x_vret rfl rfl ?_
  exact hQ _ J Sm
set_option maxRecDepth 100000 in
set_option maxHeartbeats 4000000 in
theorem ct_X7_merge_r78_94 {Dy : jH → Prop} {h0 : jH} {Q : Option Value → jH → Prop} {R16 : Int} (hD : jDk Dy) (hQ : ∀ hx9, jJ jSgX Dy hx9 → jSm fp_X7_merge_r78 h0 hx9 → Q none hx9) (k16 : ∀ (l1 : Int32) (l3 : Int32) (l4 : Int32) (l5 : Int32) (l6 : Int32) (h : jH), 600 - l6.toInt < R16 → 0 ≤ l1.toInt ∧ l1.toInt ≤ 599 → 0 ≤ l3.toInt ∧ l3.toInt ≤ 599 → (-1) ≤ l4.toInt ∧ l4.toInt ≤ 599 → (-1) ≤ l5.toInt ∧ l5.toInt ≤ 599 → 0 ≤ l6.toInt ∧ l6.toInt ≤ 600 → jJ jSgX Dy h → jSm fp_X7_merge_r78 h0 h → jX m_X7_merge 1 0 0 16 [(0, .ref 78), (1, .int l1), (3, .int l3), (4, .int l4), (5, .int l5), (6, .int l6)] [] h 0 0 Q) : ∀ (l1 : Int32) (l3 : Int32) (l4 : Int32) (l5 : Int32) (l6 : Int32) (h : jH), 0 ≤ l1.toInt ∧ l1.toInt ≤ 599 → 0 ≤ l3.toInt ∧ l3.toInt ≤ 599 → (-1) ≤ l4.toInt ∧ l4.toInt ≤ 599 → (-1) ≤ l5.toInt ∧ l5.toInt ≤ 599 → 0 ≤ l6.toInt ∧ l6.toInt ≤ 599 → 600 - l6.toInt ≤ R16 → jJ jSgX Dy h → jSm fp_X7_merge_r78 h0 h → jX m_X7_merge 1 0 0 94 [(0, .ref 78), (1, .int l1), (3, .int l3), (4, .int l4), (5, .int l5), (6, .int l6)] [] h 0 0 Q := by
  intro l1 l3 l4 l5 l6 h y0 y1 y2 y3 y4  m16 J Sm
  refine z_iinc (x := l6) (lsx9 := fun v1 => [(6, .int v1), (0, .ref 78), (1, .int l1), (3, .int l3), (4, .int l4), (5, .int l5)]) rfl rfl rfl jko_1 (by omega) rfl (fun _ => rfl) (fun v1 ev1 => ?_)
  refine x_goto (tgt := 16) rfl rfl ?_
  exact jX.sub (jsb_c rfl (jsb_c rfl (jsb_c rfl (jsb_c rfl (jsb_c rfl (jsb_c rfl jsb_n)))))) (k16 l1 l3 l4 l5 v1 h (by omega) (jr_of rfl (by omega)) (jr_of rfl (by omega)) (jr_of rfl (by omega)) (jr_of rfl (by omega)) (jr_of rfl (by omega)) J Sm)
set_option maxRecDepth 100000 in
set_option maxHeartbeats 4000000 in
theorem ct_X7_merge_r78_66 {Dy : jH → Prop} {h0 : jH} {Q : Option Value → jH → Prop} {R16 : Int} (hD : jDk Dy) (hQ : ∀ hx9, jJ jSgX Dy hx9 → jSm fp_X7_merge_r78 h0 hx9 → Q none hx9) (k16 : ∀ (l1 : Int32) (l3 : Int32) (l4 : Int32) (l5 : Int32) (l6 : Int32) (h : jH), 600 - l6.toInt < R16 → 0 ≤ l1.toInt ∧ l1.toInt ≤ 599 → 0 ≤ l3.toInt ∧ l3.toInt ≤ 599 → (-1) ≤ l4.toInt ∧ l4.toInt ≤ 599 → (-1) ≤ l5.toInt ∧ l5.toInt ≤ 599 → 0 ≤ l6.toInt ∧ l6.toInt ≤ 600 → jJ jSgX Dy h → jSm fp_X7_merge_r78 h0 h → jX m_X7_merge 1 0 0 16 [(0, .ref 78), (1, .int l1), (3, .int l3), (4, .int l4), (5, .int l5), (6, .int l6)] [] h 0 0 Q) : ∀ (l1 : Int32) (l3 : Int32) (l4 : Int32) (l5 : Int32) (l6 : Int32) (h : jH), 0 ≤ l1.toInt ∧ l1.toInt ≤ 599 → 0 ≤ l3.toInt ∧ l3.toInt ≤ 599 → (-1) ≤ l4.toInt ∧ l4.toInt ≤ 599 → 0 ≤ l5.toInt ∧ l5.toInt ≤ 599 → 0 ≤ l6.toInt ∧ l6.toInt ≤ 599 → 600 - l6.toInt ≤ R16 → jJ jSgX Dy h → jSm fp_X7_merge_r78 h0 h → jX m_X7_merge 1 0 0 66 [(0, .ref 78), (1, .int l1), (3, .int l3), (4, .int l4), (5, .int l5), (6, .int l6)] [] h 0 0 Q := by
  intro l1 l3 l4 l5 l6 h y0 y1 y2 y3 y4  m16 J Sm
  refine x_aloadn (x := 78) rfl rfl ?_
  refine z_getR (N := 16) (b := 83) 7 11 rfl f_7_40 rfl J rfl 9995 ⟨rfl, rfl⟩ rfl ?_
  refine x_iloadn (x := l3) rfl rfl ?_
  refine x_iload (x := l5) rfl rfl ?_
  refine z_iast (N := 600) (l := 0) (u := 600) (w := l5.toInt) rfl hD J Sm rfl rfl rfl (by omega) rfl (wr_83 (fun q1 q2 q3 q4 => by omega)) rfl (fun h w1 J Sm => ?_)
  refine x_aloadn (x := 78) rfl rfl ?_
  refine z_getR (N := 16) (b := 82) 7 10 rfl f_7_37 rfl J rfl 9994 ⟨rfl, rfl⟩ rfl ?_
  refine x_iload (x := l5) rfl rfl ?_
  refine x_iloadn (x := l1) rfl rfl ?_
  refine z_iast (N := 600) (l := 0) (u := 600) (w := l1.toInt) rfl hD J Sm rfl rfl rfl (by omega) rfl (wr_82 (fun q1 q2 q3 q4 => by omega)) rfl (fun h w2 J Sm => ?_)
  refine x_iload (x := l5) rfl rfl ?_
  refine x_istoren (lsx9 := [(3, .int l5), (0, .ref 78), (1, .int l1), (4, .int l4), (5, .int l5), (6, .int l6)]) rfl rfl rfl ?_
  refine x_aloadn (x := 78) rfl rfl ?_
  refine z_getR (N := 16) (b := 83) 7 11 rfl f_7_40 rfl J rfl 9995 ⟨rfl, rfl⟩ rfl ?_
  refine x_iload (x := l5) rfl rfl ?_
  refine z_iald (N := 600) rfl J rfl sg_83_0_600_1_0_1 rfl (by omega) (fun v3 qv3 ev3 => ?_)
  refine x_istore (lsx9 := [(5, .int v3), (3, .int l5), (0, .ref 78), (1, .int l1), (4, .int l4), (6, .int l6)]) rfl rfl rfl ?_
  exact jX.sub (jsb_c rfl (jsb_c rfl (jsb_c rfl (jsb_c rfl (jsb_c rfl (jsb_c rfl jsb_n)))))) (ct_X7_merge_r78_94 hD hQ k16 l1 l5 l4 v3 l6 h (jr_of rfl (by omega)) (jr_of rfl (by omega)) (jr_of rfl (by omega)) (jr_of rfl (by omega)) (jr_of rfl (by omega)) (by omega) J Sm)
set_option maxRecDepth 100000 in
set_option maxHeartbeats 4000000 in
theorem ct_X7_merge_r78_16 {Dy : jH → Prop} {h0 : jH} {Q : Option Value → jH → Prop} (hD : jDk Dy) (hQ : ∀ hx9, jJ jSgX Dy hx9 → jSm fp_X7_merge_r78 h0 hx9 → Q none hx9) : ∀ r : Nat, ∀ (l1 : Int32) (l3 : Int32) (l4 : Int32) (l5 : Int32) (l6 : Int32) (h : jH), 600 - l6.toInt < (r : Int) → 0 ≤ l1.toInt ∧ l1.toInt ≤ 599 → 0 ≤ l3.toInt ∧ l3.toInt ≤ 599 → (-1) ≤ l4.toInt ∧ l4.toInt ≤ 599 → (-1) ≤ l5.toInt ∧ l5.toInt ≤ 599 → 0 ≤ l6.toInt ∧ l6.toInt ≤ 600 → jJ jSgX Dy h → jSm fp_X7_merge_r78 h0 h → jX m_X7_merge 1 0 0 16 [(0, .ref 78), (1, .int l1), (3, .int l3), (4, .int l4), (5, .int l5), (6, .int l6)] [] h 0 0 Q := by
  intro r
  induction r with
  | zero =>
    intro l1 l3 l4 l5 l6 h hm y0 y1 y2 y3 y4   J Sm
    exfalso
    omega
  | succ r ih =>
    intro l1 l3 l4 l5 l6 h hm y0 y1 y2 y3 y4   J Sm
    refine x_iload (x := l6) rfl rfl ?_
    refine x_sipush (v := 600) rfl ks_600 ?_
    refine x_icge (tgt := 100) rfl rfl (ti_ge rfl jk_600 ⟨fun c1 => ?_, fun c1 => ?_⟩)
    ·
      exact jX.sub (jsb_c rfl (jsb_c rfl (jsb_c rfl jsb_n))) (ct_X7_merge_r78_100 hD hQ  l3 l4 h (jr_of rfl (by omega)) (jr_of rfl (by omega)) J Sm)
    ·
      refine x_iload (x := l5) rfl rfl ?_
      refine x_iconst (v := (-1)) rfl ki_m1 ?_
      refine x_iceq (tgt := 100) rfl rfl (ti_eq rfl jk_m1 ⟨fun c2 => ?_, fun c2 => ?_⟩)
      ·
        exact jX.sub (jsb_c rfl (jsb_c rfl (jsb_c rfl jsb_n))) (ct_X7_merge_r78_100 hD hQ  l3 l4 h (jr_of rfl (by omega)) (jr_of rfl (by omega)) J Sm)
      ·
        refine x_iload (x := l4) rfl rfl ?_
        refine x_iconst (v := (-1)) rfl ki_m1 ?_
        refine x_iceq (tgt := 66) rfl rfl (ti_eq rfl jk_m1 ⟨fun c3 => ?_, fun c3 => ?_⟩)
        ·
          exact jX.sub (jsb_c rfl (jsb_c rfl (jsb_c rfl (jsb_c rfl (jsb_c rfl (jsb_c rfl jsb_n)))))) (ct_X7_merge_r78_66 hD hQ ih l1 l3 l4 l5 l6 h (jr_of rfl (by omega)) (jr_of rfl (by omega)) (jr_of rfl (by omega)) (jr_of rfl (by omega)) (jr_of rfl (by omega)) (by omega) J Sm)
        ·
          refine x_iload (x := l4) rfl rfl ?_
          refine x_iload (x := l5) rfl rfl ?_
          refine x_icge (tgt := 66) rfl rfl (ti_ge rfl rfl ⟨fun c4 => ?_, fun c4 => ?_⟩)
          ·
            exact jX.sub (jsb_c rfl (jsb_c rfl (jsb_c rfl (jsb_c rfl (jsb_c rfl (jsb_c rfl jsb_n)))))) (ct_X7_merge_r78_66 hD hQ ih l1 l3 l4 l5 l6 h (jr_of rfl (by omega)) (jr_of rfl (by omega)) (jr_of rfl (by omega)) (jr_of rfl (by omega)) (jr_of rfl (by omega)) (by omega) J Sm)
          ·
            refine x_aloadn (x := 78) rfl rfl ?_
            refine z_getR (N := 16) (b := 83) 7 11 rfl f_7_40 rfl J rfl 9995 ⟨rfl, rfl⟩ rfl ?_
            refine x_iloadn (x := l3) rfl rfl ?_
            refine x_iload (x := l4) rfl rfl ?_
            refine z_iast (N := 600) (l := 0) (u := 600) (w := l4.toInt) rfl hD J Sm rfl rfl rfl (by omega) rfl (wr_83 (fun q1 q2 q3 q4 => by omega)) rfl (fun h w5 J Sm => ?_)
            refine x_iload (x := l4) rfl rfl ?_
            refine x_istoren (lsx9 := [(3, .int l4), (0, .ref 78), (1, .int l1), (4, .int l4), (5, .int l5), (6, .int l6)]) rfl rfl rfl ?_
            refine x_aloadn (x := 78) rfl rfl ?_
            refine z_getR (N := 16) (b := 83) 7 11 rfl f_7_40 rfl J rfl 9995 ⟨rfl, rfl⟩ rfl ?_
            refine x_iload (x := l4) rfl rfl ?_
            refine z_iald (N := 600) rfl J rfl sg_83_0_600_1_0_1 rfl (by omega) (fun v6 qv6 ev6 => ?_)
            refine x_istore (lsx9 := [(4, .int v6), (3, .int l4), (0, .ref 78), (1, .int l1), (5, .int l5), (6, .int l6)]) rfl rfl rfl ?_
            refine x_goto (tgt := 94) rfl rfl ?_
            exact jX.sub (jsb_c rfl (jsb_c rfl (jsb_c rfl (jsb_c rfl (jsb_c rfl (jsb_c rfl jsb_n)))))) (ct_X7_merge_r78_94 hD hQ ih l1 l4 v6 l5 l6 h (jr_of rfl (by omega)) (jr_of rfl (by omega)) (jr_of rfl (by omega)) (jr_of rfl (by omega)) (jr_of rfl (by omega)) (by omega) J Sm)
set_option maxRecDepth 100000 in
set_option maxHeartbeats 4000000 in
theorem sf_X7_merge_r78 {Dy : jH → Prop} {h : jH} {Q : Option Value → jH → Prop} {a1 : Int32} {a2 : Int32} (y1 : 0 ≤ a1.toInt ∧ a1.toInt ≤ 599) (y2 : 0 ≤ a2.toInt ∧ a2.toInt ≤ 599) (hD : jDk Dy) (J : jJ jSgX Dy h) (hQ : ∀ hx9, jJ jSgX Dy hx9 → jSm fp_X7_merge_r78 h hx9 → Q none hx9) : jC m_X7_merge 1 0 0 [.ref 78, .int a1, .int a2] h Q := by
  refine jC.of rfl k_X7_merge rfl ?_
  have Sm := jSm_rf fp_X7_merge_r78 h
  show jX m_X7_merge 1 0 0 0 [(0, .ref 78), (1, .int a1), (2, .int a2)] [] _ 0 0 _
  refine x_iloadn (x := a1) rfl rfl ?_
  refine x_istoren (lsx9 := [(3, .int a1), (0, .ref 78), (1, .int a1), (2, .int a2)]) rfl rfl rfl ?_
  refine x_aloadn (x := 78) rfl rfl ?_
  refine z_getR (N := 16) (b := 83) 7 11 rfl f_7_40 rfl J rfl 9995 ⟨rfl, rfl⟩ rfl ?_
  refine x_iloadn (x := a1) rfl rfl ?_
  refine z_iald (N := 600) rfl J rfl sg_83_0_600_1_0_1 rfl (by omega) (fun v1 qv1 ev1 => ?_)
  refine x_istore (lsx9 := [(4, .int v1), (3, .int a1), (0, .ref 78), (1, .int a1), (2, .int a2)]) rfl rfl rfl ?_
  refine x_iloadn (x := a2) rfl rfl ?_
  refine x_istore (lsx9 := [(5, .int a2), (4, .int v1), (3, .int a1), (0, .ref 78), (1, .int a1), (2, .int a2)]) rfl rfl rfl ?_
  refine x_iconst (v := 0) rfl ki_0 ?_
  refine x_istore (lsx9 := [(6, .int 0), (5, .int a2), (4, .int v1), (3, .int a1), (0, .ref 78), (1, .int a1), (2, .int a2)]) rfl rfl rfl ?_
  exact jX.sub (jsb_c rfl (jsb_c rfl (jsb_c rfl (jsb_c rfl (jsb_c rfl (jsb_c rfl jsb_n)))))) (ct_X7_merge_r78_16 hD hQ  601 a1 a1 v1 a2 0 h (by have := jk_0; omega) (jr_of rfl (by omega)) (jr_of rfl (by omega)) (jr_of rfl (by omega)) (jr_of rfl (by omega)) (jr_of jk_0 (by omega)) J Sm)
def fp_X8_at_r39_c1 : jFp := []
set_option maxRecDepth 100000 in
set_option maxHeartbeats 4000000 in
theorem ct_X8_at_r39_c1_24 {Dy : jH → Prop} {h0 : jH} {Q : Option Value → jH → Prop} (hD : jDk Dy) (hQ : ∀ (v : Int32) hx9, (-1) ≤ v.toInt ∧ v.toInt ≤ 599 → jJ jSgX Dy hx9 → jSm fp_X8_at_r39_c1 h0 hx9 → Q (some (.int v)) hx9) : ∀ (h : jH), jJ jSgX Dy h → jSm fp_X8_at_r39_c1 h0 h → jX m_X8_at 1 0 0 24 [] [] h 0 0 Q := by
  intro  h    J Sm
  refine x_iconst (v := 0) rfl ki_0 ?_
  refine x_iret rfl rfl ?_
  exact hQ _ _ (jr_of jk_0 (by omega)) J Sm
set_option maxRecDepth 100000 in
set_option maxHeartbeats 4000000 in
theorem sf_X8_at_r39_c1 {Dy : jH → Prop} {h : jH} {Q : Option Value → jH → Prop} {a1 : Int32} (y1 : 0 ≤ a1.toInt ∧ a1.toInt ≤ 199) (hD : jDk Dy) (J : jJ jSgX Dy h) (hQ : ∀ (v : Int32) hx9, (-1) ≤ v.toInt ∧ v.toInt ≤ 599 → jJ jSgX Dy hx9 → jSm fp_X8_at_r39_c1 h hx9 → Q (some (.int v)) hx9) : jC m_X8_at 1 0 0 [.ref 39, .int a1, .int 1] h Q := by
  refine jC.of rfl k_X8_at rfl ?_
  have Sm := jSm_rf fp_X8_at_r39_c1 h
  show jX m_X8_at 1 0 0 0 [(0, .ref 39), (1, .int a1), (2, .int 1)] [] _ 0 0 _
  refine x_iloadn (x := a1) rfl rfl ?_
  refine x_iflt (tgt := 24) rfl rfl (ti_lt rfl jk_0 (br_f (by omega) ?_))
  refine x_iloadn (x := a1) rfl rfl ?_
  refine x_aloadn (x := 39) rfl rfl ?_
  refine z_getI (N := 4) 8 3 rfl f_8_7 rfl J rfl sg_39_3_4_1_0_1 (fun v1 qv1 ev1 => ?_)
  refine x_icge (tgt := 24) rfl rfl (ti_ge rfl rfl ⟨fun c2 => ?_, fun c2 => ?_⟩)
  ·
    exact jX.sub jsb_n (ct_X8_at_r39_c1_24 hD hQ  h J Sm)
  ·
    refine x_iloadn (x := 1) rfl rfl ?_
    refine x_iflt (tgt := 24) rfl rfl (ti_lt jk_1 jk_0 (br_f (by omega) ?_))
    refine x_iloadn (x := 1) rfl rfl ?_
    refine x_aloadn (x := 39) rfl rfl ?_
    refine z_getC (N := 4) (v := 3) 8 0 rfl f_8_19 rfl J rfl sg_39_0_1_1_0_1 jk_3 ?_
    refine x_iclt (tgt := 26) rfl rfl (ti_lt jk_1 jk_3 (br_t (by omega) ?_))
    refine x_aloadn (x := 39) rfl rfl ?_
    refine z_getR (N := 4) (b := 40) 8 2 rfl f_8_25 rfl J rfl 4994 ⟨rfl, rfl⟩ rfl ?_
    refine x_iloadn (x := a1) rfl rfl ?_
    refine x_aloadn (x := 39) rfl rfl ?_
    refine z_getC (N := 4) (v := 3) 8 0 rfl f_8_19 rfl J rfl sg_39_0_1_1_0_1 jk_3 ?_
    refine z_imul rfl rfl jk_3 (by omega) (fun v3 ev3 => ?_)
    refine x_iloadn (x := 1) rfl rfl ?_
    refine z_iadd rfl rfl jk_1 (by omega) (fun v4 ev4 => ?_)
    refine z_iald (N := 600) rfl J rfl sg_40_0_600_3_1_2 rfl (by omega) (fun v5 qv5 ev5 => ?_)
    refine x_iret rfl rfl ?_
    exact hQ _ _ (jr_of rfl (by omega)) J Sm
def fp_X8_at_r39_c2 : jFp := []
set_option maxRecDepth 100000 in
set_option maxHeartbeats 4000000 in
theorem ct_X8_at_r39_c2_24 {Dy : jH → Prop} {h0 : jH} {Q : Option Value → jH → Prop} (hD : jDk Dy) (hQ : ∀ (v : Int32) hx9, (-1) ≤ v.toInt ∧ v.toInt ≤ 599 → jJ jSgX Dy hx9 → jSm fp_X8_at_r39_c2 h0 hx9 → Q (some (.int v)) hx9) : ∀ (h : jH), jJ jSgX Dy h → jSm fp_X8_at_r39_c2 h0 h → jX m_X8_at 1 0 0 24 [] [] h 0 0 Q := by
  intro  h    J Sm
  refine x_iconst (v := 0) rfl ki_0 ?_
  refine x_iret rfl rfl ?_
  exact hQ _ _ (jr_of jk_0 (by omega)) J Sm
set_option maxRecDepth 100000 in
set_option maxHeartbeats 4000000 in
theorem sf_X8_at_r39_c2 {Dy : jH → Prop} {h : jH} {Q : Option Value → jH → Prop} {a1 : Int32} (y1 : 0 ≤ a1.toInt ∧ a1.toInt ≤ 199) (hD : jDk Dy) (J : jJ jSgX Dy h) (hQ : ∀ (v : Int32) hx9, (-1) ≤ v.toInt ∧ v.toInt ≤ 599 → jJ jSgX Dy hx9 → jSm fp_X8_at_r39_c2 h hx9 → Q (some (.int v)) hx9) : jC m_X8_at 1 0 0 [.ref 39, .int a1, .int 2] h Q := by
  refine jC.of rfl k_X8_at rfl ?_
  have Sm := jSm_rf fp_X8_at_r39_c2 h
  show jX m_X8_at 1 0 0 0 [(0, .ref 39), (1, .int a1), (2, .int 2)] [] _ 0 0 _
  refine x_iloadn (x := a1) rfl rfl ?_
  refine x_iflt (tgt := 24) rfl rfl (ti_lt rfl jk_0 (br_f (by omega) ?_))
  refine x_iloadn (x := a1) rfl rfl ?_
  refine x_aloadn (x := 39) rfl rfl ?_
  refine z_getI (N := 4) 8 3 rfl f_8_7 rfl J rfl sg_39_3_4_1_0_1 (fun v1 qv1 ev1 => ?_)
  refine x_icge (tgt := 24) rfl rfl (ti_ge rfl rfl ⟨fun c2 => ?_, fun c2 => ?_⟩)
  ·
    exact jX.sub jsb_n (ct_X8_at_r39_c2_24 hD hQ  h J Sm)
  ·
    refine x_iloadn (x := 2) rfl rfl ?_
    refine x_iflt (tgt := 24) rfl rfl (ti_lt jk_2 jk_0 (br_f (by omega) ?_))
    refine x_iloadn (x := 2) rfl rfl ?_
    refine x_aloadn (x := 39) rfl rfl ?_
    refine z_getC (N := 4) (v := 3) 8 0 rfl f_8_19 rfl J rfl sg_39_0_1_1_0_1 jk_3 ?_
    refine x_iclt (tgt := 26) rfl rfl (ti_lt jk_2 jk_3 (br_t (by omega) ?_))
    refine x_aloadn (x := 39) rfl rfl ?_
    refine z_getR (N := 4) (b := 40) 8 2 rfl f_8_25 rfl J rfl 4994 ⟨rfl, rfl⟩ rfl ?_
    refine x_iloadn (x := a1) rfl rfl ?_
    refine x_aloadn (x := 39) rfl rfl ?_
    refine z_getC (N := 4) (v := 3) 8 0 rfl f_8_19 rfl J rfl sg_39_0_1_1_0_1 jk_3 ?_
    refine z_imul rfl rfl jk_3 (by omega) (fun v3 ev3 => ?_)
    refine x_iloadn (x := 2) rfl rfl ?_
    refine z_iadd rfl rfl jk_2 (by omega) (fun v4 ev4 => ?_)
    refine z_iald (N := 600) rfl J rfl sg_40_0_600_3_2_3 rfl (by omega) (fun v5 qv5 ev5 => ?_)
    refine x_iret rfl rfl ?_
    exact hQ _ _ (jr_of rfl (by omega)) J Sm
def fp_X8_isKnown_r33 : jFp := []
set_option maxRecDepth 100000 in
set_option maxHeartbeats 4000000 in
theorem ct_X8_isKnown_r33_200032 {Dy : jH → Prop} {h0 : jH} {Q : Option Value → jH → Prop} (hD : jDk Dy) (hQ : ∀ (v : Int32) hx9, 0 ≤ v.toInt ∧ v.toInt ≤ 1 → jJ jSgX Dy hx9 → jSm fp_X8_isKnown_r33 h0 hx9 → Q (some (.int v)) hx9) : ∀ (h : jH), jJ jSgX Dy h → jSm fp_X8_isKnown_r33 h0 h → jX m_X8_isKnown 1 0 0 32 [] [.int 0] h 0 0 Q := by
  intro  h    J Sm
  refine x_zret rfl rfl (by decide) ?_
  exact hQ _ _ (jr_of jk_0 (by omega)) J Sm
set_option maxRecDepth 100000 in
set_option maxHeartbeats 4000000 in
theorem ct_X8_isKnown_r33_300032 {Dy : jH → Prop} {h0 : jH} {Q : Option Value → jH → Prop} (hD : jDk Dy) (hQ : ∀ (v : Int32) hx9, 0 ≤ v.toInt ∧ v.toInt ≤ 1 → jJ jSgX Dy hx9 → jSm fp_X8_isKnown_r33 h0 hx9 → Q (some (.int v)) hx9) : ∀ (h : jH), jJ jSgX Dy h → jSm fp_X8_isKnown_r33 h0 h → jX m_X8_isKnown 1 0 0 32 [] [.int 1] h 0 0 Q := by
  intro  h    J Sm
  refine x_zret rfl rfl (by decide) ?_
  exact hQ _ _ (jr_of jk_1 (by omega)) J Sm
set_option maxRecDepth 100000 in
set_option maxHeartbeats 4000000 in
theorem ct_X8_isKnown_r33_31 {Dy : jH → Prop} {h0 : jH} {Q : Option Value → jH → Prop} (hD : jDk Dy) (hQ : ∀ (v : Int32) hx9, 0 ≤ v.toInt ∧ v.toInt ≤ 1 → jJ jSgX Dy hx9 → jSm fp_X8_isKnown_r33 h0 hx9 → Q (some (.int v)) hx9) : ∀ (h : jH), jJ jSgX Dy h → jSm fp_X8_isKnown_r33 h0 h → jX m_X8_isKnown 1 0 0 31 [] [] h 0 0 Q := by
  intro  h    J Sm
  refine x_iconst (v := 0) rfl ki_0 ?_
  exact jX.sub jsb_n (ct_X8_isKnown_r33_200032 hD hQ  h J Sm)
set_option maxRecDepth 100000 in
set_option maxHeartbeats 4000000 in
theorem sf_X8_isKnown_r33 {Dy : jH → Prop} {h : jH} {Q : Option Value → jH → Prop} {a1 : Int32} {a2 : Int32} (y2 : 0 ≤ a2.toInt ∧ a2.toInt ≤ 146399) (hD : jDk Dy) (J : jJ jSgX Dy h) (hQ : ∀ (v : Int32) hx9, 0 ≤ v.toInt ∧ v.toInt ≤ 1 → jJ jSgX Dy hx9 → jSm fp_X8_isKnown_r33 h hx9 → Q (some (.int v)) hx9) : jC m_X8_isKnown 1 0 0 [.ref 33, .int a1, .int a2] h Q := by
  refine jC.of rfl k_X8_isKnown rfl ?_
  have Sm := jSm_rf fp_X8_isKnown_r33 h
  have ea1 := jfull a1
  show jX m_X8_isKnown 1 0 0 0 [(0, .ref 33), (1, .int a1), (2, .int a2)] [] _ 0 0 _
  refine x_iloadn (x := a1) rfl rfl ?_
  refine x_iflt (tgt := 31) rfl rfl (ti_lt rfl jk_0 ⟨fun c1 => ?_, fun c1 => ?_⟩)
  ·
    exact jX.sub jsb_n (ct_X8_isKnown_r33_31 hD hQ  h J Sm)
  ·
    refine x_iloadn (x := a1) rfl rfl ?_
    refine x_aloadn (x := 33) rfl rfl ?_
    refine z_getI (N := 4) 8 3 rfl f_8_7 rfl J rfl sg_33_3_4_1_0_1 (fun v2 qv2 ev2 => ?_)
    refine x_icge (tgt := 31) rfl rfl (ti_ge rfl rfl ⟨fun c3 => ?_, fun c3 => ?_⟩)
    ·
      exact jX.sub jsb_n (ct_X8_isKnown_r33_31 hD hQ  h J Sm)
    ·
      refine x_aloadn (x := 33) rfl rfl ?_
      refine z_getR (N := 4) (b := 34) 8 2 rfl f_8_25 rfl J rfl 4226 ⟨rfl, rfl⟩ rfl ?_
      refine x_iloadn (x := a1) rfl rfl ?_
      refine x_aloadn (x := 33) rfl rfl ?_
      refine z_getC (N := 4) (v := 6) 8 0 rfl f_8_19 rfl J rfl sg_33_0_1_1_0_1 jk_6 ?_
      refine z_imul rfl rfl jk_6 (by omega) (fun v4 ev4 => ?_)
      refine z_iald (N := 1200) rfl J rfl sg_34_0_1200_6_0_1 rfl (by omega) (fun v5 qv5 ev5 => ?_)
      refine x_iloadn (x := a2) rfl rfl ?_
      refine x_icgt (tgt := 31) rfl rfl (ti_gt rfl rfl ⟨fun c6 => ?_, fun c6 => ?_⟩)
      ·
        exact jX.sub jsb_n (ct_X8_isKnown_r33_31 hD hQ  h J Sm)
      ·
        refine x_iconst (v := 1) rfl ki_1 ?_
        refine x_goto (tgt := 32) rfl rfl ?_
        exact jX.sub jsb_n (ct_X8_isKnown_r33_300032 hD hQ  h J Sm)
def fp_X8_isKnown_r39 : jFp := []
set_option maxRecDepth 100000 in
set_option maxHeartbeats 4000000 in
theorem ct_X8_isKnown_r39_300032 {Dy : jH → Prop} {h0 : jH} {Q : Option Value → jH → Prop} (hD : jDk Dy) (hQ : ∀ (v : Int32) hx9, 0 ≤ v.toInt ∧ v.toInt ≤ 1 → jJ jSgX Dy hx9 → jSm fp_X8_isKnown_r39 h0 hx9 → Q (some (.int v)) hx9) : ∀ (h : jH), jJ jSgX Dy h → jSm fp_X8_isKnown_r39 h0 h → jX m_X8_isKnown 1 0 0 32 [] [.int 1] h 0 0 Q := by
  intro  h    J Sm
  refine x_zret rfl rfl (by decide) ?_
  exact hQ _ _ (jr_of jk_1 (by omega)) J Sm
set_option maxRecDepth 100000 in
set_option maxHeartbeats 4000000 in
theorem ct_X8_isKnown_r39_200032 {Dy : jH → Prop} {h0 : jH} {Q : Option Value → jH → Prop} (hD : jDk Dy) (hQ : ∀ (v : Int32) hx9, 0 ≤ v.toInt ∧ v.toInt ≤ 1 → jJ jSgX Dy hx9 → jSm fp_X8_isKnown_r39 h0 hx9 → Q (some (.int v)) hx9) : ∀ (h : jH), jJ jSgX Dy h → jSm fp_X8_isKnown_r39 h0 h → jX m_X8_isKnown 1 0 0 32 [] [.int 0] h 0 0 Q := by
  intro  h    J Sm
  refine x_zret rfl rfl (by decide) ?_
  exact hQ _ _ (jr_of jk_0 (by omega)) J Sm
set_option maxRecDepth 100000 in
set_option maxHeartbeats 4000000 in
theorem ct_X8_isKnown_r39_31 {Dy : jH → Prop} {h0 : jH} {Q : Option Value → jH → Prop} (hD : jDk Dy) (hQ : ∀ (v : Int32) hx9, 0 ≤ v.toInt ∧ v.toInt ≤ 1 → jJ jSgX Dy hx9 → jSm fp_X8_isKnown_r39 h0 hx9 → Q (some (.int v)) hx9) : ∀ (h : jH), jJ jSgX Dy h → jSm fp_X8_isKnown_r39 h0 h → jX m_X8_isKnown 1 0 0 31 [] [] h 0 0 Q := by
  intro  h    J Sm
  refine x_iconst (v := 0) rfl ki_0 ?_
  exact jX.sub jsb_n (ct_X8_isKnown_r39_200032 hD hQ  h J Sm)
set_option maxRecDepth 100000 in
set_option maxHeartbeats 4000000 in
theorem sf_X8_isKnown_r39 {Dy : jH → Prop} {h : jH} {Q : Option Value → jH → Prop} {a1 : Int32} {a2 : Int32} (y1 : 0 ≤ a1.toInt ∧ a1.toInt ≤ 199) (y2 : 0 ≤ a2.toInt ∧ a2.toInt ≤ 146399) (hD : jDk Dy) (J : jJ jSgX Dy h) (hQ : ∀ (v : Int32) hx9, 0 ≤ v.toInt ∧ v.toInt ≤ 1 → jJ jSgX Dy hx9 → jSm fp_X8_isKnown_r39 h hx9 → Q (some (.int v)) hx9) : jC m_X8_isKnown 1 0 0 [.ref 39, .int a1, .int a2] h Q := by
  refine jC.of rfl k_X8_isKnown rfl ?_
  have Sm := jSm_rf fp_X8_isKnown_r39 h
  show jX m_X8_isKnown 1 0 0 0 [(0, .ref 39), (1, .int a1), (2, .int a2)] [] _ 0 0 _
  refine x_iloadn (x := a1) rfl rfl ?_
  refine x_iflt (tgt := 31) rfl rfl (ti_lt rfl jk_0 (br_f (by omega) ?_))
  refine x_iloadn (x := a1) rfl rfl ?_
  refine x_aloadn (x := 39) rfl rfl ?_
  refine z_getI (N := 4) 8 3 rfl f_8_7 rfl J rfl sg_39_3_4_1_0_1 (fun v1 qv1 ev1 => ?_)
  refine x_icge (tgt := 31) rfl rfl (ti_ge rfl rfl ⟨fun c2 => ?_, fun c2 => ?_⟩)
  ·
    exact jX.sub jsb_n (ct_X8_isKnown_r39_31 hD hQ  h J Sm)
  ·
    refine x_aloadn (x := 39) rfl rfl ?_
    refine z_getR (N := 4) (b := 40) 8 2 rfl f_8_25 rfl J rfl 4994 ⟨rfl, rfl⟩ rfl ?_
    refine x_iloadn (x := a1) rfl rfl ?_
    refine x_aloadn (x := 39) rfl rfl ?_
    refine z_getC (N := 4) (v := 3) 8 0 rfl f_8_19 rfl J rfl sg_39_0_1_1_0_1 jk_3 ?_
    refine z_imul rfl rfl jk_3 (by omega) (fun v3 ev3 => ?_)
    refine z_iald (N := 600) rfl J rfl sg_40_0_600_3_0_1 rfl (by omega) (fun v4 qv4 ev4 => ?_)
    refine x_iloadn (x := a2) rfl rfl ?_
    refine x_icgt (tgt := 31) rfl rfl (ti_gt rfl rfl ⟨fun c5 => ?_, fun c5 => ?_⟩)
    ·
      exact jX.sub jsb_n (ct_X8_isKnown_r39_31 hD hQ  h J Sm)
    ·
      refine x_iconst (v := 1) rfl ki_1 ?_
      refine x_goto (tgt := 32) rfl rfl ?_
      exact jX.sub jsb_n (ct_X8_isKnown_r39_300032 hD hQ  h J Sm)
def fp_X7_asKnown_r78 : jFp := [(78, 13, 14), (82, 0, 600), (83, 0, 600), (84, 0, 200), (86, 0, 3)]
set_option maxRecDepth 100000 in
set_option maxHeartbeats 4000000 in
theorem ct_X7_asKnown_r78_169 {Dy : jH → Prop} {h0 : jH} {Q : Option Value → jH → Prop} {R103 : Int} (hD : jDk Dy) (hQ : ∀ hx9, jJ jSgX Dy hx9 → jSm fp_X7_asKnown_r78 h0 hx9 → Q none hx9) (k103 : ∀ (l1 : Int32) (l2 : Int32) (g0 : Int32) (g1 : Int32) (h : jH), 200 - l2.toInt < R103 → 0 ≤ l1.toInt ∧ l1.toInt ≤ 146399 → 0 ≤ l2.toInt ∧ l2.toInt ≤ 200 → 0 ≤ g0.toInt ∧ g0.toInt ≤ 200 → 0 ≤ g1.toInt ∧ g1.toInt ≤ 200 → jiv h 33 3 = g0 → jiv h 78 13 = g1 → jJ jSgX Dy h → jSm fp_X7_asKnown_r78 h0 h → jX m_X7_asKnown 6 0 0 103 [(0, .ref 78), (1, .int l1), (2, .int l2)] [] h 0 0 Q) : ∀ (l1 : Int32) (l2 : Int32) (g0 : Int32) (g1 : Int32) (h : jH), 0 ≤ l1.toInt ∧ l1.toInt ≤ 146399 → 0 ≤ l2.toInt ∧ l2.toInt ≤ 199 → 0 ≤ g0.toInt ∧ g0.toInt ≤ 200 → 0 ≤ g1.toInt ∧ g1.toInt ≤ 200 → jiv h 33 3 = g0 → jiv h 78 13 = g1 → 200 - l2.toInt ≤ R103 → jJ jSgX Dy h → jSm fp_X7_asKnown_r78 h0 h → jX m_X7_asKnown 6 0 0 169 [(0, .ref 78), (1, .int l1), (2, .int l2)] [] h 0 0 Q := by
  intro l1 l2 g0 g1 h y0 y1 y2 y3 z0 z1 m103 J Sm
  refine z_iinc (x := l2) (lsx9 := fun v1 => [(2, .int v1), (0, .ref 78), (1, .int l1)]) rfl rfl rfl jko_1 (by omega) rfl (fun _ => rfl) (fun v1 ev1 => ?_)
  refine x_goto (tgt := 103) rfl rfl ?_
  exact jX.sub (jsb_c rfl (jsb_c rfl (jsb_c rfl jsb_n))) (k103 l1 v1 g0 g1 h (by omega) (jr_of rfl (by omega)) (jr_of rfl (by omega)) (jr_of rfl (by omega)) (jr_of rfl (by omega)) z0 z1 J Sm)
set_option maxRecDepth 100000 in
set_option maxHeartbeats 4000000 in
theorem ct_X7_asKnown_r78_103 {Dy : jH → Prop} {h0 : jH} {Q : Option Value → jH → Prop} (hD : jDk Dy) (hQ : ∀ hx9, jJ jSgX Dy hx9 → jSm fp_X7_asKnown_r78 h0 hx9 → Q none hx9) : ∀ r : Nat, ∀ (l1 : Int32) (l2 : Int32) (g0 : Int32) (g1 : Int32) (h : jH), 200 - l2.toInt < (r : Int) → 0 ≤ l1.toInt ∧ l1.toInt ≤ 146399 → 0 ≤ l2.toInt ∧ l2.toInt ≤ 200 → 0 ≤ g0.toInt ∧ g0.toInt ≤ 200 → 0 ≤ g1.toInt ∧ g1.toInt ≤ 200 → jiv h 33 3 = g0 → jiv h 78 13 = g1 → jJ jSgX Dy h → jSm fp_X7_asKnown_r78 h0 h → jX m_X7_asKnown 6 0 0 103 [(0, .ref 78), (1, .int l1), (2, .int l2)] [] h 0 0 Q := by
  intro r
  induction r with
  | zero =>
    intro l1 l2 g0 g1 h hm y0 y1 y2 y3 z0 z1  J Sm
    exfalso
    omega
  | succ r ih =>
    intro l1 l2 g0 g1 h hm y0 y1 y2 y3 z0 z1  J Sm
    refine x_iloadn (x := l2) rfl rfl ?_
    refine x_aloadn (x := 78) rfl rfl ?_
    refine z_getR (N := 16) (b := 32) 7 0 rfl f_7_55 rfl J rfl 9984 ⟨rfl, rfl⟩ rfl ?_
    refine z_getR (N := 20) (b := 39) 1 3 rfl f_7_150 rfl J rfl 4099 ⟨rfl, rfl⟩ rfl ?_
    refine z_getI (N := 4) 8 3 rfl f_7_85 rfl J rfl sg_39_3_4_1_0_1 (fun v1 qv1 ev1 => ?_)
    refine x_icge (tgt := 175) rfl rfl (ti_ge rfl rfl ⟨fun c2 => ?_, fun c2 => ?_⟩)
    ·
      refine x_vret rfl rfl ?_
      exact hQ _ J Sm
    ·
      refine x_aloadn (x := 78) rfl rfl ?_
      refine z_getR (N := 16) (b := 32) 7 0 rfl f_7_55 rfl J rfl 9984 ⟨rfl, rfl⟩ rfl ?_
      refine z_getR (N := 20) (b := 39) 1 3 rfl f_7_150 rfl J rfl 4099 ⟨rfl, rfl⟩ rfl ?_
      refine x_iloadn (x := l2) rfl rfl ?_
      refine x_iloadn (x := l1) rfl rfl ?_
      refine x_inv (N := m_X8_isKnown) (As := [.int l2, .int l1]) (b := 39) (st := []) (dx9 := 1) (mc := 0) (ms := 0) (host := "") 8 rfl t_X8_isKnown ⟨Or.inl q_7_147, i_X8_isKnown.1, i_X8_isKnown.2⟩ ⟨by decide, rfl⟩ (congrArg Prod.fst (J.1.1 39 (8, 4) rfl)) rfl (by decide) rfl rfl ⟨by decide, by decide⟩ (sf_X8_isKnown_r39 (jr_of rfl (by omega)) (jr_of rfl (by omega)) hD J  (fun v4 h ev4 J S3 => ?_))
      have Sm := jSm_tr rfl Sm S3
      show jX m_X7_asKnown 6 0 0 129 [(0, .ref 78), (1, .int l1), (2, .int l2)] [.int v4] _ 0 0 _
      refine x_ifeq (tgt := 169) rfl rfl (ti_eq rfl jk_0 ⟨fun c5 => ?_, fun c5 => ?_⟩)
      ·
        exact jX.sub (jsb_c rfl (jsb_c rfl (jsb_c rfl jsb_n))) (ct_X7_asKnown_r78_169 hD hQ ih l1 l2 g0 g1 h (jr_of rfl (by omega)) (jr_of rfl (by omega)) (jr_of rfl (by omega)) (jr_of rfl (by omega)) (jmc S3 rfl z0) (jmc S3 rfl z1) (by omega) J Sm)
      ·
        refine x_aloadn (x := 78) rfl rfl ?_
        refine x_iloadn (x := l2) rfl rfl ?_
        refine x_aloadn (x := 78) rfl rfl ?_
        refine x_aloadn (x := 78) rfl rfl ?_
        refine z_getR (N := 16) (b := 32) 7 0 rfl f_7_55 rfl J rfl 9984 ⟨rfl, rfl⟩ rfl ?_
        refine z_getR (N := 20) (b := 39) 1 3 rfl f_7_150 rfl J rfl 4099 ⟨rfl, rfl⟩ rfl ?_
        refine x_iloadn (x := l2) rfl rfl ?_
        refine x_iconst (v := 1) rfl ki_1 ?_
        refine x_inv (N := m_X8_at) (As := [.int l2, .int 1]) (b := 39) (st := [.ref 78, .int l2, .ref 78]) (dx9 := 1) (mc := 0) (ms := 0) (host := "") 8 rfl t_X8_at ⟨Or.inl q_7_69, i_X8_at.1, i_X8_at.2⟩ ⟨by decide, rfl⟩ (congrArg Prod.fst (J.1.1 39 (8, 4) rfl)) rfl (by decide) rfl rfl ⟨by decide, by decide⟩ (sf_X8_at_r39_c1 (jr_of rfl (by omega)) hD J  (fun v7 h ev7 J S6 => ?_))
        have Sm := jSm_tr rfl Sm S6
        show jX m_X7_asKnown 6 0 0 147 [(0, .ref 78), (1, .int l1), (2, .int l2)] [.int v7, .ref 78, .int l2, .ref 78] _ 0 0 _
        refine x_inv (N := m_X7_soulAt) (As := [.int v7]) (b := 78) (st := [.int l2, .ref 78]) (dx9 := 5) (mc := 0) (ms := 0) (host := "") 7 rfl t_X7_soulAt ⟨Or.inl q_7_153, i_X7_soulAt.1, i_X7_soulAt.2⟩ ⟨by decide, rfl⟩ (congrArg Prod.fst (J.1.1 78 (7, 16) rfl)) rfl (by decide) rfl rfl ⟨by decide, by decide⟩ (jC.of rfl k_X7_soulAt rfl ?_)
        show jX m_X7_soulAt 5 0 0 0 [(0, .ref 78), (1, .int v7)] [] _ 0 0 _
        refine x_iloadn (x := v7) rfl rfl ?_
        refine x_iflt (tgt := 36) rfl rfl (ti_lt rfl jk_0 ⟨fun c8 => ?_, fun c8 => ?_⟩)
        ·
          refine x_iconst (v := (-1)) rfl ki_m1 ?_
          refine x_iret rfl rfl ?_
          show jX m_X7_asKnown 6 0 0 150 [(0, .ref 78), (1, .int l1), (2, .int l2)] [.int (-1), .int l2, .ref 78] _ 0 0 _
          refine x_aloadn (x := 78) rfl rfl ?_
          refine x_aloadn (x := 78) rfl rfl ?_
          refine z_getR (N := 16) (b := 32) 7 0 rfl f_7_55 rfl J rfl 9984 ⟨rfl, rfl⟩ rfl ?_
          refine z_getR (N := 20) (b := 39) 1 3 rfl f_7_150 rfl J rfl 4099 ⟨rfl, rfl⟩ rfl ?_
          refine x_iloadn (x := l2) rfl rfl ?_
          refine x_iconst (v := 2) rfl ki_2 ?_
          refine x_inv (N := m_X8_at) (As := [.int l2, .int 2]) (b := 39) (st := [.ref 78, .int (-1), .int l2, .ref 78]) (dx9 := 1) (mc := 0) (ms := 0) (host := "") 8 rfl t_X8_at ⟨Or.inl q_7_69, i_X8_at.1, i_X8_at.2⟩ ⟨by decide, rfl⟩ (congrArg Prod.fst (J.1.1 39 (8, 4) rfl)) rfl (by decide) rfl rfl ⟨by decide, by decide⟩ (sf_X8_at_r39_c2 (jr_of rfl (by omega)) hD J  (fun v10 h ev10 J S9 => ?_))
          have Sm := jSm_tr rfl Sm S9
          show jX m_X7_asKnown 6 0 0 163 [(0, .ref 78), (1, .int l1), (2, .int l2)] [.int v10, .ref 78, .int (-1), .int l2, .ref 78] _ 0 0 _
          refine x_inv (N := m_X7_soulAt) (As := [.int v10]) (b := 78) (st := [.int (-1), .int l2, .ref 78]) (dx9 := 5) (mc := 0) (ms := 0) (host := "") 7 rfl t_X7_soulAt ⟨Or.inl q_7_153, i_X7_soulAt.1, i_X7_soulAt.2⟩ ⟨by decide, rfl⟩ (congrArg Prod.fst (J.1.1 78 (7, 16) rfl)) rfl (by decide) rfl rfl ⟨by decide, by decide⟩ (jC.of rfl k_X7_soulAt rfl ?_)
          show jX m_X7_soulAt 5 0 0 0 [(0, .ref 78), (1, .int v10)] [] _ 0 0 _
          refine x_iloadn (x := v10) rfl rfl ?_
          refine x_iflt (tgt := 36) rfl rfl (ti_lt rfl jk_0 ⟨fun c11 => ?_, fun c11 => ?_⟩)
          ·
            refine x_iconst (v := (-1)) rfl ki_m1 ?_
            refine x_iret rfl rfl ?_
            show jX m_X7_asKnown 6 0 0 166 [(0, .ref 78), (1, .int l1), (2, .int l2)] [.int (-1), .int (-1), .int l2, .ref 78] _ 0 0 _
            refine x_inv (N := m_X7_bind) (As := [.int l2, .int (-1), .int (-1)]) (b := 78) (st := []) (dx9 := 5) (mc := 0) (ms := 0) (host := "") 7 rfl t_X7_bind ⟨Or.inl q_7_156, i_X7_bind.1, i_X7_bind.2⟩ ⟨by decide, rfl⟩ (congrArg Prod.fst (J.1.1 78 (7, 16) rfl)) rfl (by decide) rfl rfl ⟨by decide, by decide⟩ (jC.of rfl k_X7_bind rfl ?_)
            show jX m_X7_bind 5 0 0 0 [(0, .ref 78), (1, .int l2), (2, .int (-1)), (3, .int (-1))] [] _ 0 0 _
            refine x_iloadn (x := (-1)) rfl rfl ?_
            refine x_iconst (v := (-1)) rfl ki_m1 ?_
            refine x_iceq (tgt := 15) rfl rfl (ti_eq jk_m1 jk_m1 (br_t (by omega) ?_))
            refine x_vret rfl rfl ?_
            show jX m_X7_asKnown 6 0 0 169 [(0, .ref 78), (1, .int l1), (2, .int l2)] [] _ 0 0 _
            exact jX.sub (jsb_c rfl (jsb_c rfl (jsb_c rfl jsb_n))) (ct_X7_asKnown_r78_169 hD hQ ih l1 l2 g0 g1 h (jr_of rfl (by omega)) (jr_of rfl (by omega)) (jr_of rfl (by omega)) (jr_of rfl (by omega)) (jmc S9 rfl (jmc S6 rfl (jmc S3 rfl z0))) (jmc S9 rfl (jmc S6 rfl (jmc S3 rfl z1))) (by omega) J Sm)
          ·
            refine x_iloadn (x := v10) rfl rfl ?_
            refine x_sipush (v := 600) rfl ks_600 ?_
            refine x_icge (tgt := 36) rfl rfl (ti_ge rfl jk_600 (br_f (by omega) ?_))
            refine x_iloadn (x := v10) rfl rfl ?_
            refine x_iconst (v := 3) rfl ki_3 ?_
            refine z_idiv rfl rfl jk_3 (by omega) (by omega) (fun v12 ev12 => ?_)
            refine x_aloadn (x := 78) rfl rfl ?_
            refine z_getR (N := 16) (b := 32) 7 0 rfl f_7_55 rfl J rfl 9984 ⟨rfl, rfl⟩ rfl ?_
            refine z_getR (N := 20) (b := 33) 1 0 rfl f_7_63 rfl J rfl 4096 ⟨rfl, rfl⟩ rfl ?_
            refine z_getM (N := 4) (v := g0) 8 3 rfl f_7_85 rfl J rfl (jmc S9 rfl (jmc S6 rfl (jmc S3 rfl z0))) ?_
            refine x_icge (tgt := 36) rfl rfl (ti_ge rfl rfl ⟨fun c13 => ?_, fun c13 => ?_⟩)
            ·
              refine x_iconst (v := (-1)) rfl ki_m1 ?_
              refine x_iret rfl rfl ?_
              show jX m_X7_asKnown 6 0 0 166 [(0, .ref 78), (1, .int l1), (2, .int l2)] [.int (-1), .int (-1), .int l2, .ref 78] _ 0 0 _
              refine x_inv (N := m_X7_bind) (As := [.int l2, .int (-1), .int (-1)]) (b := 78) (st := []) (dx9 := 5) (mc := 0) (ms := 0) (host := "") 7 rfl t_X7_bind ⟨Or.inl q_7_156, i_X7_bind.1, i_X7_bind.2⟩ ⟨by decide, rfl⟩ (congrArg Prod.fst (J.1.1 78 (7, 16) rfl)) rfl (by decide) rfl rfl ⟨by decide, by decide⟩ (jC.of rfl k_X7_bind rfl ?_)
              show jX m_X7_bind 5 0 0 0 [(0, .ref 78), (1, .int l2), (2, .int (-1)), (3, .int (-1))] [] _ 0 0 _
              refine x_iloadn (x := (-1)) rfl rfl ?_
              refine x_iconst (v := (-1)) rfl ki_m1 ?_
              refine x_iceq (tgt := 15) rfl rfl (ti_eq jk_m1 jk_m1 (br_t (by omega) ?_))
              refine x_vret rfl rfl ?_
              show jX m_X7_asKnown 6 0 0 169 [(0, .ref 78), (1, .int l1), (2, .int l2)] [] _ 0 0 _
              exact jX.sub (jsb_c rfl (jsb_c rfl (jsb_c rfl jsb_n))) (ct_X7_asKnown_r78_169 hD hQ ih l1 l2 g0 g1 h (jr_of rfl (by omega)) (jr_of rfl (by omega)) (jr_of rfl (by omega)) (jr_of rfl (by omega)) (jmc S9 rfl (jmc S6 rfl (jmc S3 rfl z0))) (jmc S9 rfl (jmc S6 rfl (jmc S3 rfl z1))) (by omega) J Sm)
            ·
              refine x_aloadn (x := 78) rfl rfl ?_
              refine z_getR (N := 16) (b := 82) 7 10 rfl f_7_37 rfl J rfl 9994 ⟨rfl, rfl⟩ rfl ?_
              refine x_iloadn (x := v10) rfl rfl ?_
              refine z_iald (N := 600) rfl J rfl sg_82_0_600_1_0_1 rfl (by omega) (fun v14 qv14 ev14 => ?_)
              refine x_goto (tgt := 37) rfl rfl ?_
              refine x_iret rfl rfl ?_
              show jX m_X7_asKnown 6 0 0 166 [(0, .ref 78), (1, .int l1), (2, .int l2)] [.int v14, .int (-1), .int l2, .ref 78] _ 0 0 _
              refine x_inv (N := m_X7_bind) (As := [.int l2, .int (-1), .int v14]) (b := 78) (st := []) (dx9 := 5) (mc := 0) (ms := 0) (host := "") 7 rfl t_X7_bind ⟨Or.inl q_7_156, i_X7_bind.1, i_X7_bind.2⟩ ⟨by decide, rfl⟩ (congrArg Prod.fst (J.1.1 78 (7, 16) rfl)) rfl (by decide) rfl rfl ⟨by decide, by decide⟩ (jC.of rfl k_X7_bind rfl ?_)
              show jX m_X7_bind 5 0 0 0 [(0, .ref 78), (1, .int l2), (2, .int (-1)), (3, .int v14)] [] _ 0 0 _
              refine x_iloadn (x := (-1)) rfl rfl ?_
              refine x_iconst (v := (-1)) rfl ki_m1 ?_
              refine x_iceq (tgt := 15) rfl rfl (ti_eq jk_m1 jk_m1 (br_t (by omega) ?_))
              refine x_vret rfl rfl ?_
              show jX m_X7_asKnown 6 0 0 169 [(0, .ref 78), (1, .int l1), (2, .int l2)] [] _ 0 0 _
              exact jX.sub (jsb_c rfl (jsb_c rfl (jsb_c rfl jsb_n))) (ct_X7_asKnown_r78_169 hD hQ ih l1 l2 g0 g1 h (jr_of rfl (by omega)) (jr_of rfl (by omega)) (jr_of rfl (by omega)) (jr_of rfl (by omega)) (jmc S9 rfl (jmc S6 rfl (jmc S3 rfl z0))) (jmc S9 rfl (jmc S6 rfl (jmc S3 rfl z1))) (by omega) J Sm)
        ·
          refine x_iloadn (x := v7) rfl rfl ?_
          refine x_sipush (v := 600) rfl ks_600 ?_
          refine x_icge (tgt := 36) rfl rfl (ti_ge rfl jk_600 (br_f (by omega) ?_))
          refine x_iloadn (x := v7) rfl rfl ?_
          refine x_iconst (v := 3) rfl ki_3 ?_
          refine z_idiv rfl rfl jk_3 (by omega) (by omega) (fun v15 ev15 => ?_)
          refine x_aloadn (x := 78) rfl rfl ?_
          refine z_getR (N := 16) (b := 32) 7 0 rfl f_7_55 rfl J rfl 9984 ⟨rfl, rfl⟩ rfl ?_
          refine z_getR (N := 20) (b := 33) 1 0 rfl f_7_63 rfl J rfl 4096 ⟨rfl, rfl⟩ rfl ?_
          refine z_getM (N := 4) (v := g0) 8 3 rfl f_7_85 rfl J rfl (jmc S6 rfl (jmc S3 rfl z0)) ?_
          refine x_icge (tgt := 36) rfl rfl (ti_ge rfl rfl ⟨fun c16 => ?_, fun c16 => ?_⟩)
          ·
            refine x_iconst (v := (-1)) rfl ki_m1 ?_
            refine x_iret rfl rfl ?_
            show jX m_X7_asKnown 6 0 0 150 [(0, .ref 78), (1, .int l1), (2, .int l2)] [.int (-1), .int l2, .ref 78] _ 0 0 _
            refine x_aloadn (x := 78) rfl rfl ?_
            refine x_aloadn (x := 78) rfl rfl ?_
            refine z_getR (N := 16) (b := 32) 7 0 rfl f_7_55 rfl J rfl 9984 ⟨rfl, rfl⟩ rfl ?_
            refine z_getR (N := 20) (b := 39) 1 3 rfl f_7_150 rfl J rfl 4099 ⟨rfl, rfl⟩ rfl ?_
            refine x_iloadn (x := l2) rfl rfl ?_
            refine x_iconst (v := 2) rfl ki_2 ?_
            refine x_inv (N := m_X8_at) (As := [.int l2, .int 2]) (b := 39) (st := [.ref 78, .int (-1), .int l2, .ref 78]) (dx9 := 1) (mc := 0) (ms := 0) (host := "") 8 rfl t_X8_at ⟨Or.inl q_7_69, i_X8_at.1, i_X8_at.2⟩ ⟨by decide, rfl⟩ (congrArg Prod.fst (J.1.1 39 (8, 4) rfl)) rfl (by decide) rfl rfl ⟨by decide, by decide⟩ (sf_X8_at_r39_c2 (jr_of rfl (by omega)) hD J  (fun v18 h ev18 J S17 => ?_))
            have Sm := jSm_tr rfl Sm S17
            show jX m_X7_asKnown 6 0 0 163 [(0, .ref 78), (1, .int l1), (2, .int l2)] [.int v18, .ref 78, .int (-1), .int l2, .ref 78] _ 0 0 _
            refine x_inv (N := m_X7_soulAt) (As := [.int v18]) (b := 78) (st := [.int (-1), .int l2, .ref 78]) (dx9 := 5) (mc := 0) (ms := 0) (host := "") 7 rfl t_X7_soulAt ⟨Or.inl q_7_153, i_X7_soulAt.1, i_X7_soulAt.2⟩ ⟨by decide, rfl⟩ (congrArg Prod.fst (J.1.1 78 (7, 16) rfl)) rfl (by decide) rfl rfl ⟨by decide, by decide⟩ (jC.of rfl k_X7_soulAt rfl ?_)
            show jX m_X7_soulAt 5 0 0 0 [(0, .ref 78), (1, .int v18)] [] _ 0 0 _
            refine x_iloadn (x := v18) rfl rfl ?_
            refine x_iflt (tgt := 36) rfl rfl (ti_lt rfl jk_0 ⟨fun c19 => ?_, fun c19 => ?_⟩)
            ·
              refine x_iconst (v := (-1)) rfl ki_m1 ?_
              refine x_iret rfl rfl ?_
              show jX m_X7_asKnown 6 0 0 166 [(0, .ref 78), (1, .int l1), (2, .int l2)] [.int (-1), .int (-1), .int l2, .ref 78] _ 0 0 _
              refine x_inv (N := m_X7_bind) (As := [.int l2, .int (-1), .int (-1)]) (b := 78) (st := []) (dx9 := 5) (mc := 0) (ms := 0) (host := "") 7 rfl t_X7_bind ⟨Or.inl q_7_156, i_X7_bind.1, i_X7_bind.2⟩ ⟨by decide, rfl⟩ (congrArg Prod.fst (J.1.1 78 (7, 16) rfl)) rfl (by decide) rfl rfl ⟨by decide, by decide⟩ (jC.of rfl k_X7_bind rfl ?_)
              show jX m_X7_bind 5 0 0 0 [(0, .ref 78), (1, .int l2), (2, .int (-1)), (3, .int (-1))] [] _ 0 0 _
              refine x_iloadn (x := (-1)) rfl rfl ?_
              refine x_iconst (v := (-1)) rfl ki_m1 ?_
              refine x_iceq (tgt := 15) rfl rfl (ti_eq jk_m1 jk_m1 (br_t (by omega) ?_))
              refine x_vret rfl rfl ?_
              show jX m_X7_asKnown 6 0 0 169 [(0, .ref 78), (1, .int l1), (2, .int l2)] [] _ 0 0 _
              exact jX.sub (jsb_c rfl (jsb_c rfl (jsb_c rfl jsb_n))) (ct_X7_asKnown_r78_169 hD hQ ih l1 l2 g0 g1 h (jr_of rfl (by omega)) (jr_of rfl (by omega)) (jr_of rfl (by omega)) (jr_of rfl (by omega)) (jmc S17 rfl (jmc S6 rfl (jmc S3 rfl z0))) (jmc S17 rfl (jmc S6 rfl (jmc S3 rfl z1))) (by omega) J Sm)
            ·
              refine x_iloadn (x := v18) rfl rfl ?_
              refine x_sipush (v := 600) rfl ks_600 ?_
              refine x_icge (tgt := 36) rfl rfl (ti_ge rfl jk_600 (br_f (by omega) ?_))
              refine x_iloadn (x := v18) rfl rfl ?_
              refine x_iconst (v := 3) rfl ki_3 ?_
              refine z_idiv rfl rfl jk_3 (by omega) (by omega) (fun v20 ev20 => ?_)
              refine x_aloadn (x := 78) rfl rfl ?_
              refine z_getR (N := 16) (b := 32) 7 0 rfl f_7_55 rfl J rfl 9984 ⟨rfl, rfl⟩ rfl ?_
              refine z_getR (N := 20) (b := 33) 1 0 rfl f_7_63 rfl J rfl 4096 ⟨rfl, rfl⟩ rfl ?_
              refine z_getM (N := 4) (v := g0) 8 3 rfl f_7_85 rfl J rfl (jmc S17 rfl (jmc S6 rfl (jmc S3 rfl z0))) ?_
              refine x_icge (tgt := 36) rfl rfl (ti_ge rfl rfl ⟨fun c21 => ?_, fun c21 => ?_⟩)
              ·
                refine x_iconst (v := (-1)) rfl ki_m1 ?_
                refine x_iret rfl rfl ?_
                show jX m_X7_asKnown 6 0 0 166 [(0, .ref 78), (1, .int l1), (2, .int l2)] [.int (-1), .int (-1), .int l2, .ref 78] _ 0 0 _
                refine x_inv (N := m_X7_bind) (As := [.int l2, .int (-1), .int (-1)]) (b := 78) (st := []) (dx9 := 5) (mc := 0) (ms := 0) (host := "") 7 rfl t_X7_bind ⟨Or.inl q_7_156, i_X7_bind.1, i_X7_bind.2⟩ ⟨by decide, rfl⟩ (congrArg Prod.fst (J.1.1 78 (7, 16) rfl)) rfl (by decide) rfl rfl ⟨by decide, by decide⟩ (jC.of rfl k_X7_bind rfl ?_)
                show jX m_X7_bind 5 0 0 0 [(0, .ref 78), (1, .int l2), (2, .int (-1)), (3, .int (-1))] [] _ 0 0 _
                refine x_iloadn (x := (-1)) rfl rfl ?_
                refine x_iconst (v := (-1)) rfl ki_m1 ?_
                refine x_iceq (tgt := 15) rfl rfl (ti_eq jk_m1 jk_m1 (br_t (by omega) ?_))
                refine x_vret rfl rfl ?_
                show jX m_X7_asKnown 6 0 0 169 [(0, .ref 78), (1, .int l1), (2, .int l2)] [] _ 0 0 _
                exact jX.sub (jsb_c rfl (jsb_c rfl (jsb_c rfl jsb_n))) (ct_X7_asKnown_r78_169 hD hQ ih l1 l2 g0 g1 h (jr_of rfl (by omega)) (jr_of rfl (by omega)) (jr_of rfl (by omega)) (jr_of rfl (by omega)) (jmc S17 rfl (jmc S6 rfl (jmc S3 rfl z0))) (jmc S17 rfl (jmc S6 rfl (jmc S3 rfl z1))) (by omega) J Sm)
              ·
                refine x_aloadn (x := 78) rfl rfl ?_
                refine z_getR (N := 16) (b := 82) 7 10 rfl f_7_37 rfl J rfl 9994 ⟨rfl, rfl⟩ rfl ?_
                refine x_iloadn (x := v18) rfl rfl ?_
                refine z_iald (N := 600) rfl J rfl sg_82_0_600_1_0_1 rfl (by omega) (fun v22 qv22 ev22 => ?_)
                refine x_goto (tgt := 37) rfl rfl ?_
                refine x_iret rfl rfl ?_
                show jX m_X7_asKnown 6 0 0 166 [(0, .ref 78), (1, .int l1), (2, .int l2)] [.int v22, .int (-1), .int l2, .ref 78] _ 0 0 _
                refine x_inv (N := m_X7_bind) (As := [.int l2, .int (-1), .int v22]) (b := 78) (st := []) (dx9 := 5) (mc := 0) (ms := 0) (host := "") 7 rfl t_X7_bind ⟨Or.inl q_7_156, i_X7_bind.1, i_X7_bind.2⟩ ⟨by decide, rfl⟩ (congrArg Prod.fst (J.1.1 78 (7, 16) rfl)) rfl (by decide) rfl rfl ⟨by decide, by decide⟩ (jC.of rfl k_X7_bind rfl ?_)
                show jX m_X7_bind 5 0 0 0 [(0, .ref 78), (1, .int l2), (2, .int (-1)), (3, .int v22)] [] _ 0 0 _
                refine x_iloadn (x := (-1)) rfl rfl ?_
                refine x_iconst (v := (-1)) rfl ki_m1 ?_
                refine x_iceq (tgt := 15) rfl rfl (ti_eq jk_m1 jk_m1 (br_t (by omega) ?_))
                refine x_vret rfl rfl ?_
                show jX m_X7_asKnown 6 0 0 169 [(0, .ref 78), (1, .int l1), (2, .int l2)] [] _ 0 0 _
                exact jX.sub (jsb_c rfl (jsb_c rfl (jsb_c rfl jsb_n))) (ct_X7_asKnown_r78_169 hD hQ ih l1 l2 g0 g1 h (jr_of rfl (by omega)) (jr_of rfl (by omega)) (jr_of rfl (by omega)) (jr_of rfl (by omega)) (jmc S17 rfl (jmc S6 rfl (jmc S3 rfl z0))) (jmc S17 rfl (jmc S6 rfl (jmc S3 rfl z1))) (by omega) J Sm)
          ·
            refine x_aloadn (x := 78) rfl rfl ?_
            refine z_getR (N := 16) (b := 82) 7 10 rfl f_7_37 rfl J rfl 9994 ⟨rfl, rfl⟩ rfl ?_
            refine x_iloadn (x := v7) rfl rfl ?_
            refine z_iald (N := 600) rfl J rfl sg_82_0_600_1_0_1 rfl (by omega) (fun v23 qv23 ev23 => ?_)
            refine x_goto (tgt := 37) rfl rfl ?_
            refine x_iret rfl rfl ?_
            show jX m_X7_asKnown 6 0 0 150 [(0, .ref 78), (1, .int l1), (2, .int l2)] [.int v23, .int l2, .ref 78] _ 0 0 _
            refine x_aloadn (x := 78) rfl rfl ?_
            refine x_aloadn (x := 78) rfl rfl ?_
            refine z_getR (N := 16) (b := 32) 7 0 rfl f_7_55 rfl J rfl 9984 ⟨rfl, rfl⟩ rfl ?_
            refine z_getR (N := 20) (b := 39) 1 3 rfl f_7_150 rfl J rfl 4099 ⟨rfl, rfl⟩ rfl ?_
            refine x_iloadn (x := l2) rfl rfl ?_
            refine x_iconst (v := 2) rfl ki_2 ?_
            refine x_inv (N := m_X8_at) (As := [.int l2, .int 2]) (b := 39) (st := [.ref 78, .int v23, .int l2, .ref 78]) (dx9 := 1) (mc := 0) (ms := 0) (host := "") 8 rfl t_X8_at ⟨Or.inl q_7_69, i_X8_at.1, i_X8_at.2⟩ ⟨by decide, rfl⟩ (congrArg Prod.fst (J.1.1 39 (8, 4) rfl)) rfl (by decide) rfl rfl ⟨by decide, by decide⟩ (sf_X8_at_r39_c2 (jr_of rfl (by omega)) hD J  (fun v25 h ev25 J S24 => ?_))
            have Sm := jSm_tr rfl Sm S24
            show jX m_X7_asKnown 6 0 0 163 [(0, .ref 78), (1, .int l1), (2, .int l2)] [.int v25, .ref 78, .int v23, .int l2, .ref 78] _ 0 0 _
            refine x_inv (N := m_X7_soulAt) (As := [.int v25]) (b := 78) (st := [.int v23, .int l2, .ref 78]) (dx9 := 5) (mc := 0) (ms := 0) (host := "") 7 rfl t_X7_soulAt ⟨Or.inl q_7_153, i_X7_soulAt.1, i_X7_soulAt.2⟩ ⟨by decide, rfl⟩ (congrArg Prod.fst (J.1.1 78 (7, 16) rfl)) rfl (by decide) rfl rfl ⟨by decide, by decide⟩ (jC.of rfl k_X7_soulAt rfl ?_)
            show jX m_X7_soulAt 5 0 0 0 [(0, .ref 78), (1, .int v25)] [] _ 0 0 _
            refine x_iloadn (x := v25) rfl rfl ?_
            refine x_iflt (tgt := 36) rfl rfl (ti_lt rfl jk_0 ⟨fun c26 => ?_, fun c26 => ?_⟩)
            ·
              refine x_iconst (v := (-1)) rfl ki_m1 ?_
              refine x_iret rfl rfl ?_
              show jX m_X7_asKnown 6 0 0 166 [(0, .ref 78), (1, .int l1), (2, .int l2)] [.int (-1), .int v23, .int l2, .ref 78] _ 0 0 _
              refine x_inv (N := m_X7_bind) (As := [.int l2, .int v23, .int (-1)]) (b := 78) (st := []) (dx9 := 5) (mc := 0) (ms := 0) (host := "") 7 rfl t_X7_bind ⟨Or.inl q_7_156, i_X7_bind.1, i_X7_bind.2⟩ ⟨by decide, rfl⟩ (congrArg Prod.fst (J.1.1 78 (7, 16) rfl)) rfl (by decide) rfl rfl ⟨by decide, by decide⟩ (jC.of rfl k_X7_bind rfl ?_)
              show jX m_X7_bind 5 0 0 0 [(0, .ref 78), (1, .int l2), (2, .int v23), (3, .int (-1))] [] _ 0 0 _
              refine x_iloadn (x := v23) rfl rfl ?_
              refine x_iconst (v := (-1)) rfl ki_m1 ?_
              refine x_iceq (tgt := 15) rfl rfl (ti_eq rfl jk_m1 ⟨fun c27 => ?_, fun c27 => ?_⟩)
              ·
                refine x_vret rfl rfl ?_
                show jX m_X7_asKnown 6 0 0 169 [(0, .ref 78), (1, .int l1), (2, .int l2)] [] _ 0 0 _
                exact jX.sub (jsb_c rfl (jsb_c rfl (jsb_c rfl jsb_n))) (ct_X7_asKnown_r78_169 hD hQ ih l1 l2 g0 g1 h (jr_of rfl (by omega)) (jr_of rfl (by omega)) (jr_of rfl (by omega)) (jr_of rfl (by omega)) (jmc S24 rfl (jmc S6 rfl (jmc S3 rfl z0))) (jmc S24 rfl (jmc S6 rfl (jmc S3 rfl z1))) (by omega) J Sm)
              ·
                refine x_iloadn (x := (-1)) rfl rfl ?_
                refine x_iconst (v := (-1)) rfl ki_m1 ?_
                refine x_iceq (tgt := 15) rfl rfl (ti_eq jk_m1 jk_m1 (br_t (by omega) ?_))
                refine x_vret rfl rfl ?_
                show jX m_X7_asKnown 6 0 0 169 [(0, .ref 78), (1, .int l1), (2, .int l2)] [] _ 0 0 _
                exact jX.sub (jsb_c rfl (jsb_c rfl (jsb_c rfl jsb_n))) (ct_X7_asKnown_r78_169 hD hQ ih l1 l2 g0 g1 h (jr_of rfl (by omega)) (jr_of rfl (by omega)) (jr_of rfl (by omega)) (jr_of rfl (by omega)) (jmc S24 rfl (jmc S6 rfl (jmc S3 rfl z0))) (jmc S24 rfl (jmc S6 rfl (jmc S3 rfl z1))) (by omega) J Sm)
            ·
              refine x_iloadn (x := v25) rfl rfl ?_
              refine x_sipush (v := 600) rfl ks_600 ?_
              refine x_icge (tgt := 36) rfl rfl (ti_ge rfl jk_600 (br_f (by omega) ?_))
              refine x_iloadn (x := v25) rfl rfl ?_
              refine x_iconst (v := 3) rfl ki_3 ?_
              refine z_idiv rfl rfl jk_3 (by omega) (by omega) (fun v28 ev28 => ?_)
              refine x_aloadn (x := 78) rfl rfl ?_
              refine z_getR (N := 16) (b := 32) 7 0 rfl f_7_55 rfl J rfl 9984 ⟨rfl, rfl⟩ rfl ?_
              refine z_getR (N := 20) (b := 33) 1 0 rfl f_7_63 rfl J rfl 4096 ⟨rfl, rfl⟩ rfl ?_
              refine z_getM (N := 4) (v := g0) 8 3 rfl f_7_85 rfl J rfl (jmc S24 rfl (jmc S6 rfl (jmc S3 rfl z0))) ?_
              refine x_icge (tgt := 36) rfl rfl (ti_ge rfl rfl ⟨fun c29 => ?_, fun c29 => ?_⟩)
              ·
                refine x_iconst (v := (-1)) rfl ki_m1 ?_
                refine x_iret rfl rfl ?_
                show jX m_X7_asKnown 6 0 0 166 [(0, .ref 78), (1, .int l1), (2, .int l2)] [.int (-1), .int v23, .int l2, .ref 78] _ 0 0 _
                refine x_inv (N := m_X7_bind) (As := [.int l2, .int v23, .int (-1)]) (b := 78) (st := []) (dx9 := 5) (mc := 0) (ms := 0) (host := "") 7 rfl t_X7_bind ⟨Or.inl q_7_156, i_X7_bind.1, i_X7_bind.2⟩ ⟨by decide, rfl⟩ (congrArg Prod.fst (J.1.1 78 (7, 16) rfl)) rfl (by decide) rfl rfl ⟨by decide, by decide⟩ (jC.of rfl k_X7_bind rfl ?_)
                show jX m_X7_bind 5 0 0 0 [(0, .ref 78), (1, .int l2), (2, .int v23), (3, .int (-1))] [] _ 0 0 _
                refine x_iloadn (x := v23) rfl rfl ?_
                refine x_iconst (v := (-1)) rfl ki_m1 ?_
                refine x_iceq (tgt := 15) rfl rfl (ti_eq rfl jk_m1 ⟨fun c30 => ?_, fun c30 => ?_⟩)
                ·
                  refine x_vret rfl rfl ?_
                  show jX m_X7_asKnown 6 0 0 169 [(0, .ref 78), (1, .int l1), (2, .int l2)] [] _ 0 0 _
                  exact jX.sub (jsb_c rfl (jsb_c rfl (jsb_c rfl jsb_n))) (ct_X7_asKnown_r78_169 hD hQ ih l1 l2 g0 g1 h (jr_of rfl (by omega)) (jr_of rfl (by omega)) (jr_of rfl (by omega)) (jr_of rfl (by omega)) (jmc S24 rfl (jmc S6 rfl (jmc S3 rfl z0))) (jmc S24 rfl (jmc S6 rfl (jmc S3 rfl z1))) (by omega) J Sm)
                ·
                  refine x_iloadn (x := (-1)) rfl rfl ?_
                  refine x_iconst (v := (-1)) rfl ki_m1 ?_
                  refine x_iceq (tgt := 15) rfl rfl (ti_eq jk_m1 jk_m1 (br_t (by omega) ?_))
                  refine x_vret rfl rfl ?_
                  show jX m_X7_asKnown 6 0 0 169 [(0, .ref 78), (1, .int l1), (2, .int l2)] [] _ 0 0 _
                  exact jX.sub (jsb_c rfl (jsb_c rfl (jsb_c rfl jsb_n))) (ct_X7_asKnown_r78_169 hD hQ ih l1 l2 g0 g1 h (jr_of rfl (by omega)) (jr_of rfl (by omega)) (jr_of rfl (by omega)) (jr_of rfl (by omega)) (jmc S24 rfl (jmc S6 rfl (jmc S3 rfl z0))) (jmc S24 rfl (jmc S6 rfl (jmc S3 rfl z1))) (by omega) J Sm)
              ·
                refine x_aloadn (x := 78) rfl rfl ?_
                refine z_getR (N := 16) (b := 82) 7 10 rfl f_7_37 rfl J rfl 9994 ⟨rfl, rfl⟩ rfl ?_
                refine x_iloadn (x := v25) rfl rfl ?_
                refine z_iald (N := 600) rfl J rfl sg_82_0_600_1_0_1 rfl (by omega) (fun v31 qv31 ev31 => ?_)
                refine x_goto (tgt := 37) rfl rfl ?_
                refine x_iret rfl rfl ?_
                show jX m_X7_asKnown 6 0 0 166 [(0, .ref 78), (1, .int l1), (2, .int l2)] [.int v31, .int v23, .int l2, .ref 78] _ 0 0 _
                refine x_inv (N := m_X7_bind) (As := [.int l2, .int v23, .int v31]) (b := 78) (st := []) (dx9 := 5) (mc := 0) (ms := 0) (host := "") 7 rfl t_X7_bind ⟨Or.inl q_7_156, i_X7_bind.1, i_X7_bind.2⟩ ⟨by decide, rfl⟩ (congrArg Prod.fst (J.1.1 78 (7, 16) rfl)) rfl (by decide) rfl rfl ⟨by decide, by decide⟩ (jC.of rfl k_X7_bind rfl ?_)
                show jX m_X7_bind 5 0 0 0 [(0, .ref 78), (1, .int l2), (2, .int v23), (3, .int v31)] [] _ 0 0 _
                refine x_iloadn (x := v23) rfl rfl ?_
                refine x_iconst (v := (-1)) rfl ki_m1 ?_
                refine x_iceq (tgt := 15) rfl rfl (ti_eq rfl jk_m1 ⟨fun c32 => ?_, fun c32 => ?_⟩)
                ·
                  refine x_vret rfl rfl ?_
                  show jX m_X7_asKnown 6 0 0 169 [(0, .ref 78), (1, .int l1), (2, .int l2)] [] _ 0 0 _
                  exact jX.sub (jsb_c rfl (jsb_c rfl (jsb_c rfl jsb_n))) (ct_X7_asKnown_r78_169 hD hQ ih l1 l2 g0 g1 h (jr_of rfl (by omega)) (jr_of rfl (by omega)) (jr_of rfl (by omega)) (jr_of rfl (by omega)) (jmc S24 rfl (jmc S6 rfl (jmc S3 rfl z0))) (jmc S24 rfl (jmc S6 rfl (jmc S3 rfl z1))) (by omega) J Sm)
                ·
                  refine x_iloadn (x := v31) rfl rfl ?_
                  refine x_iconst (v := (-1)) rfl ki_m1 ?_
                  refine x_iceq (tgt := 15) rfl rfl (ti_eq rfl jk_m1 ⟨fun c33 => ?_, fun c33 => ?_⟩)
                  ·
                    refine x_vret rfl rfl ?_
                    show jX m_X7_asKnown 6 0 0 169 [(0, .ref 78), (1, .int l1), (2, .int l2)] [] _ 0 0 _
                    exact jX.sub (jsb_c rfl (jsb_c rfl (jsb_c rfl jsb_n))) (ct_X7_asKnown_r78_169 hD hQ ih l1 l2 g0 g1 h (jr_of rfl (by omega)) (jr_of rfl (by omega)) (jr_of rfl (by omega)) (jr_of rfl (by omega)) (jmc S24 rfl (jmc S6 rfl (jmc S3 rfl z0))) (jmc S24 rfl (jmc S6 rfl (jmc S3 rfl z1))) (by omega) J Sm)
                  ·
                    refine x_iloadn (x := v23) rfl rfl ?_
                    refine x_iloadn (x := v31) rfl rfl ?_
                    refine x_icne (tgt := 16) rfl rfl (ti_ne rfl rfl ⟨fun c34 => ?_, fun c34 => ?_⟩)
                    ·
                      refine x_aloadn (x := 78) rfl rfl ?_
                      refine x_iloadn (x := v23) rfl rfl ?_
                      refine x_iloadn (x := v31) rfl rfl ?_
                      refine x_inv (N := m_X7_mayBeOne) (As := [.int v23, .int v31]) (b := 78) (st := []) (dx9 := 4) (mc := 0) (ms := 0) (host := "") 7 rfl t_X7_mayBeOne ⟨Or.inl q_7_160, i_X7_mayBeOne.1, i_X7_mayBeOne.2⟩ ⟨by decide, rfl⟩ (congrArg Prod.fst (J.1.1 78 (7, 16) rfl)) rfl (by decide) rfl rfl ⟨by decide, by decide⟩ (sf_X7_mayBeOne_r78 (jr_of rfl (by omega)) (jr_of rfl (by omega)) hD J  (fun v36 h ev36 J S35 => ?_))
                      have Sm := jSm_tr rfl Sm S35
                      show jX m_X7_bind 5 0 0 22 [(0, .ref 78), (1, .int l2), (2, .int v23), (3, .int v31)] [.int v36] _ 0 0 _
                      refine x_ifeq (tgt := 42) rfl rfl (ti_eq rfl jk_0 ⟨fun c37 => ?_, fun c37 => ?_⟩)
                      ·
                        refine x_aloadn (x := 78) rfl rfl ?_
                        refine z_getM (N := 16) (v := g1) 7 13 rfl f_7_46 rfl J rfl (jmc S35 rfl (jmc S24 rfl (jmc S6 rfl (jmc S3 rfl z1)))) ?_
                        refine x_aloadn (x := 78) rfl rfl ?_
                        refine z_getR (N := 16) (b := 84) 7 12 rfl f_7_43 rfl J rfl 9996 ⟨rfl, rfl⟩ rfl ?_
                        refine z_alen (N := 200) (v := 200) rfl J rfl rfl (by decide) ?_
                        refine x_icge (tgt := 74) rfl rfl (ti_ge rfl jk_200 ⟨fun c38 => ?_, fun c38 => ?_⟩)
                        ·
                          refine x_vret rfl rfl ?_
                          show jX m_X7_asKnown 6 0 0 169 [(0, .ref 78), (1, .int l1), (2, .int l2)] [] _ 0 0 _
                          exact jX.sub (jsb_c rfl (jsb_c rfl (jsb_c rfl jsb_n))) (ct_X7_asKnown_r78_169 hD hQ ih l1 l2 g0 g1 h (jr_of rfl (by omega)) (jr_of rfl (by omega)) (jr_of rfl (by omega)) (jr_of rfl (by omega)) (jmc S35 rfl (jmc S24 rfl (jmc S6 rfl (jmc S3 rfl z0)))) (jmc S35 rfl (jmc S24 rfl (jmc S6 rfl (jmc S3 rfl z1)))) (by omega) J Sm)
                        ·
                          refine x_aloadn (x := 78) rfl rfl ?_
                          refine z_getR (N := 16) (b := 84) 7 12 rfl f_7_43 rfl J rfl 9996 ⟨rfl, rfl⟩ rfl ?_
                          refine x_aloadn (x := 78) rfl rfl ?_
                          refine z_getM (N := 16) (v := g1) 7 13 rfl f_7_46 rfl J rfl (jmc S35 rfl (jmc S24 rfl (jmc S6 rfl (jmc S3 rfl z1)))) ?_
                          refine x_iloadn (x := l2) rfl rfl ?_
                          refine z_iast (N := 200) (l := 0) (u := 200) (w := l2.toInt) rfl hD J Sm rfl rfl rfl (by omega) rfl (wr_84 (fun q1 q2 q3 q4 => by omega)) rfl (fun h w39 J Sm => ?_)
                          refine x_aloadn (x := 78) rfl rfl ?_
                          refine x_dup rfl rfl ?_
                          refine z_getM (N := 16) (v := g1) 7 13 rfl f_7_46 rfl J rfl (jmo w39 rfl (jmc S35 rfl (jmc S24 rfl (jmc S6 rfl (jmc S3 rfl z1))))) ?_
                          refine x_iconst (v := 1) rfl ki_1 ?_
                          refine z_iadd rfl rfl jk_1 (by omega) (fun v40 ev40 => ?_)
                          refine z_putI (N := 16) (w := v40.toInt) 7 13 rfl f_7_46 rfl (jfin_no TX7 RX7 16 rfl rfl) hD J Sm rfl rfl rfl (pw_78_13 (by omega)) rfl (fun h w41 J Sm => ?_)
                          refine x_vret rfl rfl ?_
                          show jX m_X7_asKnown 6 0 0 169 [(0, .ref 78), (1, .int l1), (2, .int l2)] [] _ 0 0 _
                          exact jX.sub (jsb_c rfl (jsb_c rfl (jsb_c rfl jsb_n))) (ct_X7_asKnown_r78_169 hD hQ ih l1 l2 g0 v40 h (jr_of rfl (by omega)) (jr_of rfl (by omega)) (jr_of rfl (by omega)) (jr_of rfl (by omega)) (jmo w41 rfl (jmo w39 rfl (jmc S35 rfl (jmc S24 rfl (jmc S6 rfl (jmc S3 rfl z0)))))) (jmw w41) (by omega) J Sm)
                      ·
                        refine x_aloadn (x := 78) rfl rfl ?_
                        refine x_iloadn (x := v23) rfl rfl ?_
                        refine x_iloadn (x := v31) rfl rfl ?_
                        refine z_mmin rfl q_7_163 (by decide) rfl rfl rfl (fun v42 ev42 => ?_)
                        refine x_iloadn (x := v23) rfl rfl ?_
                        refine x_iloadn (x := v31) rfl rfl ?_
                        refine z_mmax rfl q_7_166 (by decide) rfl rfl rfl (fun v43 ev43 => ?_)
                        refine x_inv (N := m_X7_merge) (As := [.int v42, .int v43]) (b := 78) (st := []) (dx9 := 1) (mc := 0) (ms := 0) (host := "") 7 rfl t_X7_merge ⟨Or.inl q_7_169, i_X7_merge.1, i_X7_merge.2⟩ ⟨by decide, rfl⟩ (congrArg Prod.fst (J.1.1 78 (7, 16) rfl)) rfl (by decide) rfl rfl ⟨by decide, by decide⟩ (sf_X7_merge_r78 (jr_of rfl (by omega)) (jr_of rfl (by omega)) hD J  (fun h J S44 => ?_))
                        have Sm := jSm_tr rfl Sm S44
                        show jX m_X7_bind 5 0 0 39 [(0, .ref 78), (1, .int l2), (2, .int v23), (3, .int v31)] [] _ 0 0 _
                        refine x_goto (tgt := 74) rfl rfl ?_
                        refine x_vret rfl rfl ?_
                        show jX m_X7_asKnown 6 0 0 169 [(0, .ref 78), (1, .int l1), (2, .int l2)] [] _ 0 0 _
                        exact jX.sub (jsb_c rfl (jsb_c rfl (jsb_c rfl jsb_n))) (ct_X7_asKnown_r78_169 hD hQ ih l1 l2 g0 g1 h (jr_of rfl (by omega)) (jr_of rfl (by omega)) (jr_of rfl (by omega)) (jr_of rfl (by omega)) (jmc S44 rfl (jmc S35 rfl (jmc S24 rfl (jmc S6 rfl (jmc S3 rfl z0))))) (jmc S44 rfl (jmc S35 rfl (jmc S24 rfl (jmc S6 rfl (jmc S3 rfl z1))))) (by omega) J Sm)
                    ·
                      refine x_vret rfl rfl ?_
                      show jX m_X7_asKnown 6 0 0 169 [(0, .ref 78), (1, .int l1), (2, .int l2)] [] _ 0 0 _
                      exact jX.sub (jsb_c rfl (jsb_c rfl (jsb_c rfl jsb_n))) (ct_X7_asKnown_r78_169 hD hQ ih l1 l2 g0 g1 h (jr_of rfl (by omega)) (jr_of rfl (by omega)) (jr_of rfl (by omega)) (jr_of rfl (by omega)) (jmc S24 rfl (jmc S6 rfl (jmc S3 rfl z0))) (jmc S24 rfl (jmc S6 rfl (jmc S3 rfl z1))) (by omega) J Sm)
set_option maxRecDepth 100000 in
set_option maxHeartbeats 4000000 in
theorem ct_X7_asKnown_r78_96 {Dy : jH → Prop} {h0 : jH} {Q : Option Value → jH → Prop} (hD : jDk Dy) (hQ : ∀ hx9, jJ jSgX Dy hx9 → jSm fp_X7_asKnown_r78 h0 hx9 → Q none hx9) : ∀ (l1 : Int32) (g0 : Int32) (h : jH), 0 ≤ l1.toInt ∧ l1.toInt ≤ 146399 → 0 ≤ g0.toInt ∧ g0.toInt ≤ 200 → jiv h 33 3 = g0 → jJ jSgX Dy h → jSm fp_X7_asKnown_r78 h0 h → jX m_X7_asKnown 6 0 0 96 [(0, .ref 78), (1, .int l1)] [] h 0 0 Q := by
  intro l1 g0 h y0 y1 z0  J Sm
  refine x_aloadn (x := 78) rfl rfl ?_
  refine x_iconst (v := 0) rfl ki_0 ?_
  refine z_putI (N := 16) (w := 0) 7 13 rfl f_7_46 rfl (jfin_no TX7 RX7 16 rfl rfl) hD J Sm rfl rfl jk_0 (pw_78_13 (by omega)) rfl (fun h w1 J Sm => ?_)
  refine x_iconst (v := 0) rfl ki_0 ?_
  refine x_istoren (lsx9 := [(2, .int 0), (0, .ref 78), (1, .int l1)]) rfl rfl rfl ?_
  exact jX.sub (jsb_c rfl (jsb_c rfl (jsb_c rfl jsb_n))) (ct_X7_asKnown_r78_103 hD hQ  201 l1 0 g0 0 h (by have := jk_0; omega) (jr_of rfl (by omega)) (jr_of jk_0 (by omega)) (jr_of rfl (by omega)) (jr_of jk_0 (by omega)) (jmo w1 rfl z0) (jmw w1) J Sm)
set_option maxRecDepth 100000 in
set_option maxHeartbeats 4000000 in
theorem ct_X7_asKnown_r78_82 {Dy : jH → Prop} {h0 : jH} {Q : Option Value → jH → Prop} {R22 : Int} (hD : jDk Dy) (hQ : ∀ hx9, jJ jSgX Dy hx9 → jSm fp_X7_asKnown_r78 h0 hx9 → Q none hx9) (k22 : ∀ (l1 : Int32) (l2 : Int32) (h : jH), 600 - l2.toInt < R22 → 0 ≤ l1.toInt ∧ l1.toInt ≤ 146399 → 0 ≤ l2.toInt ∧ l2.toInt ≤ 600 → jJ jSgX Dy h → jSm fp_X7_asKnown_r78 h0 h → jX m_X7_asKnown 6 0 0 22 [(0, .ref 78), (1, .int l1), (2, .int l2)] [] h 0 0 Q) : ∀ (l1 : Int32) (l2 : Int32) (s0 : Int32) (s1 : Int32) (h : jH), 0 ≤ l1.toInt ∧ l1.toInt ≤ 146399 → 0 ≤ l2.toInt ∧ l2.toInt ≤ 599 → 0 ≤ s0.toInt ∧ s0.toInt ≤ 599 → 0 ≤ s1.toInt ∧ s1.toInt ≤ 599 → 600 - l2.toInt ≤ R22 → jJ jSgX Dy h → jSm fp_X7_asKnown_r78 h0 h → jX m_X7_asKnown 6 0 0 82 [(0, .ref 78), (1, .int l1), (2, .int l2)] [.int s0, .int s1, .ref 82] h 0 0 Q := by
  intro l1 l2 s0 s1 h y0 y1 y2 y3  m22 J Sm
  refine z_iast (N := 600) (l := 0) (u := 600) (w := s0.toInt) rfl hD J Sm rfl rfl rfl (by omega) rfl (wr_82 (fun q1 q2 q3 q4 => by omega)) rfl (fun h w1 J Sm => ?_)
  refine x_aloadn (x := 78) rfl rfl ?_
  refine z_getR (N := 16) (b := 83) 7 11 rfl f_7_40 rfl J rfl 9995 ⟨rfl, rfl⟩ rfl ?_
  refine x_iloadn (x := l2) rfl rfl ?_
  refine x_iconst (v := (-1)) rfl ki_m1 ?_
  refine z_iast (N := 600) (l := 0) (u := 600) (w := (-1)) rfl hD J Sm rfl rfl rfl (by omega) jk_m1 (wr_83 (fun q1 q2 q3 q4 => by omega)) rfl (fun h w2 J Sm => ?_)
  refine z_iinc (x := l2) (lsx9 := fun v3 => [(2, .int v3), (0, .ref 78), (1, .int l1)]) rfl rfl rfl jko_1 (by omega) rfl (fun _ => rfl) (fun v3 ev3 => ?_)
  refine x_goto (tgt := 22) rfl rfl ?_
  exact jX.sub (jsb_c rfl (jsb_c rfl (jsb_c rfl jsb_n))) (k22 l1 v3 h (by omega) (jr_of rfl (by omega)) (jr_of rfl (by omega)) J Sm)
set_option maxRecDepth 100000 in
set_option maxHeartbeats 4000000 in
theorem ct_X7_asKnown_r78_100082 {Dy : jH → Prop} {h0 : jH} {Q : Option Value → jH → Prop} {R22 : Int} (hD : jDk Dy) (hQ : ∀ hx9, jJ jSgX Dy hx9 → jSm fp_X7_asKnown_r78 h0 hx9 → Q none hx9) (k22 : ∀ (l1 : Int32) (l2 : Int32) (h : jH), 600 - l2.toInt < R22 → 0 ≤ l1.toInt ∧ l1.toInt ≤ 146399 → 0 ≤ l2.toInt ∧ l2.toInt ≤ 600 → jJ jSgX Dy h → jSm fp_X7_asKnown_r78 h0 h → jX m_X7_asKnown 6 0 0 22 [(0, .ref 78), (1, .int l1), (2, .int l2)] [] h 0 0 Q) : ∀ (l1 : Int32) (l2 : Int32) (s1 : Int32) (h : jH), 0 ≤ l1.toInt ∧ l1.toInt ≤ 146399 → 0 ≤ l2.toInt ∧ l2.toInt ≤ 599 → 0 ≤ s1.toInt ∧ s1.toInt ≤ 599 → 600 - l2.toInt ≤ R22 → jJ jSgX Dy h → jSm fp_X7_asKnown_r78 h0 h → jX m_X7_asKnown 6 0 0 82 [(0, .ref 78), (1, .int l1), (2, .int l2)] [.int (-1), .int s1, .ref 82] h 0 0 Q := by
  intro l1 l2 s1 h y0 y1 y2  m22 J Sm
  refine z_iast (N := 600) (l := 0) (u := 600) (w := (-1)) rfl hD J Sm rfl rfl rfl (by omega) jk_m1 (wr_82 (fun q1 q2 q3 q4 => by omega)) rfl (fun h w1 J Sm => ?_)
  refine x_aloadn (x := 78) rfl rfl ?_
  refine z_getR (N := 16) (b := 83) 7 11 rfl f_7_40 rfl J rfl 9995 ⟨rfl, rfl⟩ rfl ?_
  refine x_iloadn (x := l2) rfl rfl ?_
  refine x_iconst (v := (-1)) rfl ki_m1 ?_
  refine z_iast (N := 600) (l := 0) (u := 600) (w := (-1)) rfl hD J Sm rfl rfl rfl (by omega) jk_m1 (wr_83 (fun q1 q2 q3 q4 => by omega)) rfl (fun h w2 J Sm => ?_)
  refine z_iinc (x := l2) (lsx9 := fun v3 => [(2, .int v3), (0, .ref 78), (1, .int l1)]) rfl rfl rfl jko_1 (by omega) rfl (fun _ => rfl) (fun v3 ev3 => ?_)
  refine x_goto (tgt := 22) rfl rfl ?_
  exact jX.sub (jsb_c rfl (jsb_c rfl (jsb_c rfl jsb_n))) (k22 l1 v3 h (by omega) (jr_of rfl (by omega)) (jr_of rfl (by omega)) J Sm)
set_option maxRecDepth 100000 in
set_option maxHeartbeats 4000000 in
theorem ct_X7_asKnown_r78_81 {Dy : jH → Prop} {h0 : jH} {Q : Option Value → jH → Prop} {R22 : Int} (hD : jDk Dy) (hQ : ∀ hx9, jJ jSgX Dy hx9 → jSm fp_X7_asKnown_r78 h0 hx9 → Q none hx9) (k22 : ∀ (l1 : Int32) (l2 : Int32) (h : jH), 600 - l2.toInt < R22 → 0 ≤ l1.toInt ∧ l1.toInt ≤ 146399 → 0 ≤ l2.toInt ∧ l2.toInt ≤ 600 → jJ jSgX Dy h → jSm fp_X7_asKnown_r78 h0 h → jX m_X7_asKnown 6 0 0 22 [(0, .ref 78), (1, .int l1), (2, .int l2)] [] h 0 0 Q) : ∀ (l1 : Int32) (l2 : Int32) (s0 : Int32) (h : jH), 0 ≤ l1.toInt ∧ l1.toInt ≤ 146399 → 0 ≤ l2.toInt ∧ l2.toInt ≤ 599 → 0 ≤ s0.toInt ∧ s0.toInt ≤ 599 → 600 - l2.toInt ≤ R22 → jJ jSgX Dy h → jSm fp_X7_asKnown_r78 h0 h → jX m_X7_asKnown 6 0 0 81 [(0, .ref 78), (1, .int l1), (2, .int l2)] [.int s0, .ref 82] h 0 0 Q := by
  intro l1 l2 s0 h y0 y1 y2  m22 J Sm
  refine x_iconst (v := (-1)) rfl ki_m1 ?_
  exact jX.sub (jsb_c rfl (jsb_c rfl (jsb_c rfl jsb_n))) (ct_X7_asKnown_r78_100082 hD hQ k22 l1 l2 s0 h (jr_of rfl (by omega)) (jr_of rfl (by omega)) (jr_of rfl (by omega)) (by omega) J Sm)
set_option maxRecDepth 100000 in
set_option maxHeartbeats 4000000 in
theorem ct_X7_asKnown_r78_22 {Dy : jH → Prop} {h0 : jH} {Q : Option Value → jH → Prop} (hD : jDk Dy) (hQ : ∀ hx9, jJ jSgX Dy hx9 → jSm fp_X7_asKnown_r78 h0 hx9 → Q none hx9) : ∀ r : Nat, ∀ (l1 : Int32) (l2 : Int32) (h : jH), 600 - l2.toInt < (r : Int) → 0 ≤ l1.toInt ∧ l1.toInt ≤ 146399 → 0 ≤ l2.toInt ∧ l2.toInt ≤ 600 → jJ jSgX Dy h → jSm fp_X7_asKnown_r78 h0 h → jX m_X7_asKnown 6 0 0 22 [(0, .ref 78), (1, .int l1), (2, .int l2)] [] h 0 0 Q := by
  intro r
  induction r with
  | zero =>
    intro l1 l2 h hm y0 y1   J Sm
    exfalso
    omega
  | succ r ih =>
    intro l1 l2 h hm y0 y1   J Sm
    refine x_iloadn (x := l2) rfl rfl ?_
    refine x_aloadn (x := 78) rfl rfl ?_
    refine z_getR (N := 16) (b := 32) 7 0 rfl f_7_55 rfl J rfl 9984 ⟨rfl, rfl⟩ rfl ?_
    refine z_getR (N := 20) (b := 33) 1 0 rfl f_7_63 rfl J rfl 4096 ⟨rfl, rfl⟩ rfl ?_
    refine z_getI (N := 4) 8 3 rfl f_7_85 rfl J rfl sg_33_3_4_1_0_1 (fun v1 qv1 ev1 => ?_)
    refine x_iconst (v := 3) rfl ki_3 ?_
    refine z_imul rfl rfl jk_3 (by omega) (fun v2 ev2 => ?_)
    refine x_icge (tgt := 96) rfl rfl (ti_ge rfl rfl ⟨fun c3 => ?_, fun c3 => ?_⟩)
    ·
      exact jX.sub (jsb_c rfl (jsb_c rfl jsb_n)) (ct_X7_asKnown_r78_96 hD hQ  l1 v1 h (jr_of rfl (by omega)) (jr_of rfl (by omega)) qv1 J Sm)
    ·
      refine x_iloadn (x := l2) rfl rfl ?_
      refine x_sipush (v := 600) rfl ks_600 ?_
      refine x_icge (tgt := 96) rfl rfl (ti_ge rfl jk_600 (br_f (by omega) ?_))
      refine x_aloadn (x := 78) rfl rfl ?_
      refine z_getR (N := 16) (b := 82) 7 10 rfl f_7_37 rfl J rfl 9994 ⟨rfl, rfl⟩ rfl ?_
      refine x_iloadn (x := l2) rfl rfl ?_
      refine x_aloadn (x := 78) rfl rfl ?_
      refine z_getR (N := 16) (b := 79) 7 7 rfl f_7_27 rfl J rfl 9991 ⟨rfl, rfl⟩ rfl ?_
      refine x_iloadn (x := l2) rfl rfl ?_
      refine z_iald (N := 600) rfl J rfl sg_79_0_600_1_0_1 rfl (by omega) (fun v4 qv4 ev4 => ?_)
      refine x_iconst (v := (-1)) rfl ki_m1 ?_
      refine x_iceq (tgt := 81) rfl rfl (ti_eq rfl jk_m1 ⟨fun c5 => ?_, fun c5 => ?_⟩)
      ·
        exact jX.sub (jsb_c rfl (jsb_c rfl (jsb_c rfl jsb_n))) (ct_X7_asKnown_r78_81 hD hQ ih l1 l2 l2 h (jr_of rfl (by omega)) (jr_of rfl (by omega)) (jr_of rfl (by omega)) (by omega) J Sm)
      ·
        refine x_aloadn (x := 78) rfl rfl ?_
        refine z_getR (N := 16) (b := 32) 7 0 rfl f_7_55 rfl J rfl 9984 ⟨rfl, rfl⟩ rfl ?_
        refine z_getR (N := 20) (b := 33) 1 0 rfl f_7_63 rfl J rfl 4096 ⟨rfl, rfl⟩ rfl ?_
        refine x_iloadn (x := l2) rfl rfl ?_
        refine x_iconst (v := 3) rfl ki_3 ?_
        refine z_idiv rfl rfl jk_3 (by omega) (by omega) (fun v6 ev6 => ?_)
        refine x_iloadn (x := l1) rfl rfl ?_
        refine x_inv (N := m_X8_isKnown) (As := [.int v6, .int l1]) (b := 33) (st := [.int l2, .ref 82]) (dx9 := 1) (mc := 0) (ms := 0) (host := "") 8 rfl t_X8_isKnown ⟨Or.inl q_7_147, i_X8_isKnown.1, i_X8_isKnown.2⟩ ⟨by decide, rfl⟩ (congrArg Prod.fst (J.1.1 33 (8, 4) rfl)) rfl (by decide) rfl rfl ⟨by decide, by decide⟩ (sf_X8_isKnown_r33 (jr_of rfl (by omega)) hD J  (fun v8 h ev8 J S7 => ?_))
        have Sm := jSm_tr rfl Sm S7
        show jX m_X7_asKnown 6 0 0 74 [(0, .ref 78), (1, .int l1), (2, .int l2)] [.int v8, .int l2, .ref 82] _ 0 0 _
        refine x_ifeq (tgt := 81) rfl rfl (ti_eq rfl jk_0 ⟨fun c9 => ?_, fun c9 => ?_⟩)
        ·
          exact jX.sub (jsb_c rfl (jsb_c rfl (jsb_c rfl jsb_n))) (ct_X7_asKnown_r78_81 hD hQ ih l1 l2 l2 h (jr_of rfl (by omega)) (jr_of rfl (by omega)) (jr_of rfl (by omega)) (by omega) J Sm)
        ·
          refine x_iloadn (x := l2) rfl rfl ?_
          refine x_goto (tgt := 82) rfl rfl ?_
          exact jX.sub (jsb_c rfl (jsb_c rfl (jsb_c rfl jsb_n))) (ct_X7_asKnown_r78_82 hD hQ ih l1 l2 l2 l2 h (jr_of rfl (by omega)) (jr_of rfl (by omega)) (jr_of rfl (by omega)) (jr_of rfl (by omega)) (by omega) J Sm)
set_option maxRecDepth 100000 in
set_option maxHeartbeats 4000000 in
theorem sf_X7_asKnown_r78 {Dy : jH → Prop} {h : jH} {Q : Option Value → jH → Prop} {a1 : Int32} (y1 : 0 ≤ a1.toInt ∧ a1.toInt ≤ 146399) (hD : jDk Dy) (J : jJ jSgX Dy h) (hQ : ∀ hx9, jJ jSgX Dy hx9 → jSm fp_X7_asKnown_r78 h hx9 → Q none hx9) : jC m_X7_asKnown 6 0 0 [.ref 78, .int a1] h Q := by
  refine jC.of rfl k_X7_asKnown rfl ?_
  have Sm := jSm_rf fp_X7_asKnown_r78 h
  show jX m_X7_asKnown 6 0 0 0 [(0, .ref 78), (1, .int a1)] [] _ 0 0 _
  refine x_aloadn (x := 78) rfl rfl ?_
  refine z_getR (N := 16) (b := 86) 7 15 rfl f_7_52 rfl J rfl 9999 ⟨rfl, rfl⟩ rfl ?_
  refine x_iloadn (x := a1) rfl rfl ?_
  refine x_iconst (v := 0) rfl ki_0 ?_
  refine x_aloadn (x := 78) rfl rfl ?_
  refine z_getR (N := 16) (b := 32) 7 0 rfl f_7_55 rfl J rfl 9984 ⟨rfl, rfl⟩ rfl ?_
  refine z_getI0 (N := 20) 1 19 rfl f_7_140 rfl J rfl (fun v1 qv1 => ?_)
  have ev1 := jfull v1
  refine x_inst (N := m_X11_isFresh) (As := [.ref 86, .int a1, .int 0, .int v1]) (st := []) (dx9 := 5) (mc := 0) (ms := 0) (host := "ParishChest") rfl t_X11_isFresh ⟨Or.inr q_7_143, s_X11_isFresh⟩ rfl (by decide) rfl rfl ⟨by decide, by decide⟩ (jC.of rfl k_X11_isFresh rfl ?_)
  show jX m_X11_isFresh 5 0 0 0 [(0, .ref 86), (1, .int a1), (2, .int 0), (3, .int v1)] [] _ 0 0 _
  refine x_aloadn (x := 86) rfl rfl ?_
  refine z_alen (N := 3) (v := 3) rfl J rfl rfl (by decide) ?_
  refine x_iconst (v := 3) rfl ki_3 ?_
  refine x_icge (tgt := 8) rfl rfl (ti_ge jk_3 jk_3 (br_t (by omega) ?_))
  refine x_aloadn (x := 86) rfl rfl ?_
  refine x_iconst (v := 0) rfl ki_0 ?_
  refine z_iald0 (N := 3) rfl J rfl jk_0 (by omega) (fun v2 qv2 => ?_)
  have ev2 := jfull v2
  refine x_iloadn (x := a1) rfl rfl ?_
  refine x_icne (tgt := 33) rfl rfl (ti_ne rfl rfl ⟨fun c3 => ?_, fun c3 => ?_⟩)
  ·
    refine x_iconst (v := 0) rfl ki_0 ?_
    refine x_istore (lsx9 := [(4, .int 0), (0, .ref 86), (1, .int a1), (2, .int 0), (3, .int v1)]) rfl rfl rfl ?_
    refine x_aloadn (x := 86) rfl rfl ?_
    refine x_iconst (v := 0) rfl ki_0 ?_
    refine x_iloadn (x := a1) rfl rfl ?_
    refine z_iast (N := 3) (l := 0) (u := 3) (w := a1.toInt) rfl hD J Sm rfl rfl jk_0 (by omega) rfl (wr_86) rfl (fun h w4 J Sm => ?_)
    refine x_aloadn (x := 86) rfl rfl ?_
    refine x_iconst (v := 1) rfl ki_1 ?_
    refine x_iloadn (x := 0) rfl rfl ?_
    refine z_iast (N := 3) (l := 0) (u := 3) (w := 0) rfl hD J Sm rfl rfl jk_1 (by omega) jk_0 (wr_86) rfl (fun h w5 J Sm => ?_)
    refine x_aloadn (x := 86) rfl rfl ?_
    refine x_iconst (v := 2) rfl ki_2 ?_
    refine x_iloadn (x := v1) rfl rfl ?_
    refine z_iast (N := 3) (l := 0) (u := 3) (w := v1.toInt) rfl hD J Sm rfl rfl jk_2 (by omega) rfl (wr_86) rfl (fun h w6 J Sm => ?_)
    refine x_iload (x := 0) rfl rfl ?_
    refine x_zret rfl rfl (by decide) ?_
    show jX m_X7_asKnown 6 0 0 16 [(0, .ref 78), (1, .int a1)] [.int 0] _ 0 0 _
    refine x_ifeq (tgt := 20) rfl rfl (ti_eq jk_0 jk_0 (br_t (by omega) ?_))
    refine x_iconst (v := 0) rfl ki_0 ?_
    refine x_istoren (lsx9 := [(2, .int 0), (0, .ref 78), (1, .int a1)]) rfl rfl rfl ?_
    exact jX.sub (jsb_c rfl (jsb_c rfl (jsb_c rfl jsb_n))) (ct_X7_asKnown_r78_22 hD hQ  601 a1 0 h (by have := jk_0; omega) (jr_of rfl (by omega)) (jr_of jk_0 (by omega)) J Sm)
  ·
    refine x_aloadn (x := 86) rfl rfl ?_
    refine x_iconst (v := 1) rfl ki_1 ?_
    refine z_iald0 (N := 3) rfl J rfl jk_1 (by omega) (fun v7 qv7 => ?_)
    have ev7 := jfull v7
    refine x_iloadn (x := 0) rfl rfl ?_
    refine x_icne (tgt := 33) rfl rfl (ti_ne rfl jk_0 ⟨fun c8 => ?_, fun c8 => ?_⟩)
    ·
      refine x_iconst (v := 0) rfl ki_0 ?_
      refine x_istore (lsx9 := [(4, .int 0), (0, .ref 86), (1, .int a1), (2, .int 0), (3, .int v1)]) rfl rfl rfl ?_
      refine x_aloadn (x := 86) rfl rfl ?_
      refine x_iconst (v := 0) rfl ki_0 ?_
      refine x_iloadn (x := a1) rfl rfl ?_
      refine z_iast (N := 3) (l := 0) (u := 3) (w := a1.toInt) rfl hD J Sm rfl rfl jk_0 (by omega) rfl (wr_86) rfl (fun h w9 J Sm => ?_)
      refine x_aloadn (x := 86) rfl rfl ?_
      refine x_iconst (v := 1) rfl ki_1 ?_
      refine x_iloadn (x := 0) rfl rfl ?_
      refine z_iast (N := 3) (l := 0) (u := 3) (w := 0) rfl hD J Sm rfl rfl jk_1 (by omega) jk_0 (wr_86) rfl (fun h w10 J Sm => ?_)
      refine x_aloadn (x := 86) rfl rfl ?_
      refine x_iconst (v := 2) rfl ki_2 ?_
      refine x_iloadn (x := v1) rfl rfl ?_
      refine z_iast (N := 3) (l := 0) (u := 3) (w := v1.toInt) rfl hD J Sm rfl rfl jk_2 (by omega) rfl (wr_86) rfl (fun h w11 J Sm => ?_)
      refine x_iload (x := 0) rfl rfl ?_
      refine x_zret rfl rfl (by decide) ?_
      show jX m_X7_asKnown 6 0 0 16 [(0, .ref 78), (1, .int a1)] [.int 0] _ 0 0 _
      refine x_ifeq (tgt := 20) rfl rfl (ti_eq jk_0 jk_0 (br_t (by omega) ?_))
      refine x_iconst (v := 0) rfl ki_0 ?_
      refine x_istoren (lsx9 := [(2, .int 0), (0, .ref 78), (1, .int a1)]) rfl rfl rfl ?_
      exact jX.sub (jsb_c rfl (jsb_c rfl (jsb_c rfl jsb_n))) (ct_X7_asKnown_r78_22 hD hQ  601 a1 0 h (by have := jk_0; omega) (jr_of rfl (by omega)) (jr_of jk_0 (by omega)) J Sm)
    ·
      refine x_aloadn (x := 86) rfl rfl ?_
      refine x_iconst (v := 2) rfl ki_2 ?_
      refine z_iald0 (N := 3) rfl J rfl jk_2 (by omega) (fun v12 qv12 => ?_)
      have ev12 := jfull v12
      refine x_iloadn (x := v1) rfl rfl ?_
      refine x_icne (tgt := 33) rfl rfl (ti_ne rfl rfl ⟨fun c13 => ?_, fun c13 => ?_⟩)
      ·
        refine x_iconst (v := 0) rfl ki_0 ?_
        refine x_istore (lsx9 := [(4, .int 0), (0, .ref 86), (1, .int a1), (2, .int 0), (3, .int v1)]) rfl rfl rfl ?_
        refine x_aloadn (x := 86) rfl rfl ?_
        refine x_iconst (v := 0) rfl ki_0 ?_
        refine x_iloadn (x := a1) rfl rfl ?_
        refine z_iast (N := 3) (l := 0) (u := 3) (w := a1.toInt) rfl hD J Sm rfl rfl jk_0 (by omega) rfl (wr_86) rfl (fun h w14 J Sm => ?_)
        refine x_aloadn (x := 86) rfl rfl ?_
        refine x_iconst (v := 1) rfl ki_1 ?_
        refine x_iloadn (x := 0) rfl rfl ?_
        refine z_iast (N := 3) (l := 0) (u := 3) (w := 0) rfl hD J Sm rfl rfl jk_1 (by omega) jk_0 (wr_86) rfl (fun h w15 J Sm => ?_)
        refine x_aloadn (x := 86) rfl rfl ?_
        refine x_iconst (v := 2) rfl ki_2 ?_
        refine x_iloadn (x := v1) rfl rfl ?_
        refine z_iast (N := 3) (l := 0) (u := 3) (w := v1.toInt) rfl hD J Sm rfl rfl jk_2 (by omega) rfl (wr_86) rfl (fun h w16 J Sm => ?_)
        refine x_iload (x := 0) rfl rfl ?_
        refine x_zret rfl rfl (by decide) ?_
        show jX m_X7_asKnown 6 0 0 16 [(0, .ref 78), (1, .int a1)] [.int 0] _ 0 0 _
        refine x_ifeq (tgt := 20) rfl rfl (ti_eq jk_0 jk_0 (br_t (by omega) ?_))
        refine x_iconst (v := 0) rfl ki_0 ?_
        refine x_istoren (lsx9 := [(2, .int 0), (0, .ref 78), (1, .int a1)]) rfl rfl rfl ?_
        exact jX.sub (jsb_c rfl (jsb_c rfl (jsb_c rfl jsb_n))) (ct_X7_asKnown_r78_22 hD hQ  601 a1 0 h (by have := jk_0; omega) (jr_of rfl (by omega)) (jr_of jk_0 (by omega)) J Sm)
      ·
        refine x_iconst (v := 1) rfl ki_1 ?_
        refine x_goto (tgt := 34) rfl rfl ?_
        refine x_istore (lsx9 := [(4, .int 1), (0, .ref 86), (1, .int a1), (2, .int 0), (3, .int v1)]) rfl rfl rfl ?_
        refine x_aloadn (x := 86) rfl rfl ?_
        refine x_iconst (v := 0) rfl ki_0 ?_
        refine x_iloadn (x := a1) rfl rfl ?_
        refine z_iast (N := 3) (l := 0) (u := 3) (w := a1.toInt) rfl hD J Sm rfl rfl jk_0 (by omega) rfl (wr_86) rfl (fun h w17 J Sm => ?_)
        refine x_aloadn (x := 86) rfl rfl ?_
        refine x_iconst (v := 1) rfl ki_1 ?_
        refine x_iloadn (x := 0) rfl rfl ?_
        refine z_iast (N := 3) (l := 0) (u := 3) (w := 0) rfl hD J Sm rfl rfl jk_1 (by omega) jk_0 (wr_86) rfl (fun h w18 J Sm => ?_)
        refine x_aloadn (x := 86) rfl rfl ?_
        refine x_iconst (v := 2) rfl ki_2 ?_
        refine x_iloadn (x := v1) rfl rfl ?_
        refine z_iast (N := 3) (l := 0) (u := 3) (w := v1.toInt) rfl hD J Sm rfl rfl jk_2 (by omega) rfl (wr_86) rfl (fun h w19 J Sm => ?_)
        refine x_iload (x := 1) rfl rfl ?_
        refine x_zret rfl rfl (by decide) ?_
        show jX m_X7_asKnown 6 0 0 16 [(0, .ref 78), (1, .int a1)] [.int 1] _ 0 0 _
        refine x_ifeq (tgt := 20) rfl rfl (ti_eq jk_1 jk_0 (br_f (by omega) ?_))
        refine x_vret rfl rfl ?_
        exact hQ _ J Sm
def fp_X11_about_r31 : jFp := [(78, 13, 14), (82, 0, 600), (83, 0, 600), (84, 0, 200), (85, 0, 4), (86, 0, 3), (98, 10, 11), (98, 11, 12), (99, 0, 30), (100, 0, 30), (101, 0, 3), (102, 0, 40), (103, 0, 40), (104, 0, 40), (105, 0, 3)]
set_option maxRecDepth 100000 in
set_option maxHeartbeats 4000000 in
theorem ct_X11_about_r31_19 {Dy : jH → Prop} {h0 : jH} {Q : Option Value → jH → Prop} (hD : jDk Dy) (hQ : ∀ (v : Int64) hx9, jJ jSgX Dy hx9 → jSm fp_X11_about_r31 h0 hx9 → Q (some (.long v)) hx9) : ∀ (h : jH), jJ jSgX Dy h → jSm fp_X11_about_r31 h0 h → jX m_X11_about 8 0 0 19 [] [] h 0 0 Q := by
  intro  h    J Sm
  refine x_ldc2 (v := (-1)) rfl z_11_372 ?_
  refine x_lret rfl rfl ?_
  exact hQ _ _ J Sm
set_option maxRecDepth 100000 in
set_option maxHeartbeats 4000000 in
theorem sf_X11_about_r31 {Dy : jH → Prop} {h : jH} {Q : Option Value → jH → Prop} {a1 : Int32} {a2 : Int32} {a3 : Int32} {a4 : Int32} (hD : jDk Dy) (J : jJ jSgX Dy h) (hQ : ∀ (v : Int64) hx9, jJ jSgX Dy hx9 → jSm fp_X11_about_r31 h hx9 → Q (some (.long v)) hx9) : jC m_X11_about 8 0 0 [.ref 31, .int a1, .int a2, .int a3, .int a4] h Q := by
  refine jC.of rfl k_X11_about rfl ?_
  have Sm := jSm_rf fp_X11_about_r31 h
  have ea1 := jfull a1
  have ea2 := jfull a2
  have ea3 := jfull a3
  have ea4 := jfull a4
  show jX m_X11_about 8 0 0 0 [(0, .ref 31), (1, .int a1), (2, .int a2), (3, .int a3), (4, .int a4)] [] _ 0 0 _
  refine x_iloadn (x := a2) rfl rfl ?_
  refine x_inst (N := m_X11_isDay) (As := [.int a2]) (st := []) (dx9 := 1) (mc := 0) (ms := 0) (host := "") rfl t_X11_isDay ⟨Or.inl q_11_115, s_X11_isDay⟩ rfl (by decide) rfl rfl ⟨by decide, by decide⟩ (zc_X11_isDay rfl (fun v1 ev1 => ?_))
  show jX m_X11_about 8 0 0 4 [(0, .ref 31), (1, .int a1), (2, .int a2), (3, .int a3), (4, .int a4)] [.int v1] _ 0 0 _
  refine x_ifeq (tgt := 19) rfl rfl (ti_eq rfl jk_0 ⟨fun c2 => ?_, fun c2 => ?_⟩)
  ·
    exact jX.sub jsb_n (ct_X11_about_r31_19 hD hQ  h J Sm)
  ·
    refine x_iload (x := a4) rfl rfl ?_
    refine x_iflt (tgt := 19) rfl rfl (ti_lt rfl jk_0 ⟨fun c3 => ?_, fun c3 => ?_⟩)
    ·
      exact jX.sub jsb_n (ct_X11_about_r31_19 hD hQ  h J Sm)
    ·
      refine x_iload (x := a4) rfl rfl ?_
      refine x_bipush (v := 9) rfl kb_9 ?_
      refine x_icle (tgt := 23) rfl rfl (ti_le rfl jk_9 ⟨fun c4 => ?_, fun c4 => ?_⟩)
      ·
        refine x_aloadn (x := 31) rfl rfl ?_
        refine x_iloadn (x := a1) rfl rfl ?_
        refine x_iloadn (x := a3) rfl rfl ?_
        refine x_inv (N := m_X11_soulOn) (As := [.int a1, .int a3]) (b := 31) (st := []) (dx9 := 7) (mc := 0) (ms := 0) (host := "") 11 rfl t_X11_soulOn ⟨Or.inl q_11_234, i_X11_soulOn.1, i_X11_soulOn.2⟩ ⟨by decide, rfl⟩ (congrArg Prod.fst (J.1.1 31 (11, 13) rfl)) rfl (by decide) rfl rfl ⟨by decide, by decide⟩ (jC.of rfl k_X11_soulOn rfl ?_)
        show jX m_X11_soulOn 7 0 0 0 [(0, .ref 31), (1, .int a1), (2, .int a3)] [] _ 0 0 _
        refine x_iloadn (x := a3) rfl rfl ?_
        refine x_inst (N := m_X11_isDay) (As := [.int a3]) (st := []) (dx9 := 1) (mc := 0) (ms := 0) (host := "") rfl t_X11_isDay ⟨Or.inl q_11_115, s_X11_isDay⟩ rfl (by decide) rfl rfl ⟨by decide, by decide⟩ (zc_X11_isDay rfl (fun v5 ev5 => ?_))
        show jX m_X11_soulOn 7 0 0 4 [(0, .ref 31), (1, .int a1), (2, .int a3)] [.int v5] _ 0 0 _
        refine x_ifeq (tgt := 18) rfl rfl (ti_eq rfl jk_0 ⟨fun c6 => ?_, fun c6 => ?_⟩)
        ·
          refine x_iconst (v := (-1)) rfl ki_m1 ?_
          refine x_iret rfl rfl ?_
          show jX m_X11_about 8 0 0 29 [(0, .ref 31), (1, .int a1), (2, .int a2), (3, .int a3), (4, .int a4)] [.int (-1)] _ 0 0 _
          refine x_istore (lsx9 := [(5, .int (-1)), (0, .ref 31), (1, .int a1), (2, .int a2), (3, .int a3), (4, .int a4)]) rfl rfl rfl ?_
          refine x_iload (x := (-1)) rfl rfl ?_
          refine x_iconst (v := (-1)) rfl ki_m1 ?_
          refine x_icne (tgt := 41) rfl rfl (ti_ne jk_m1 jk_m1 (bn_f (by omega) ?_))
          refine x_ldc2 (v := (-1)) rfl z_11_372 ?_
          refine x_lret rfl rfl ?_
          exact hQ _ _ J Sm
        ·
          refine x_aloadn (x := 31) rfl rfl ?_
          refine z_getR (N := 13) (b := 78) 11 4 rfl f_11_41 rfl J rfl 3972 ⟨rfl, rfl⟩ rfl ?_
          refine x_iloadn (x := a1) rfl rfl ?_
          refine x_inv (N := m_X7_isMention) (As := [.int a1]) (b := 78) (st := []) (dx9 := 6) (mc := 0) (ms := 0) (host := "") 7 rfl t_X7_isMention ⟨Or.inl q_11_187, i_X7_isMention.1, i_X7_isMention.2⟩ ⟨by decide, rfl⟩ (congrArg Prod.fst (J.1.1 78 (7, 16) rfl)) rfl (by decide) rfl rfl ⟨by decide, by decide⟩ (jC.of rfl k_X7_isMention rfl ?_)
          show jX m_X7_isMention 6 0 0 0 [(0, .ref 78), (1, .int a1)] [] _ 0 0 _
          refine x_iloadn (x := a1) rfl rfl ?_
          refine x_iflt (tgt := 41) rfl rfl (ti_lt rfl jk_0 ⟨fun c7 => ?_, fun c7 => ?_⟩)
          ·
            refine x_iconst (v := 0) rfl ki_0 ?_
            refine x_zret rfl rfl (by decide) ?_
            show jX m_X11_soulOn 7 0 0 15 [(0, .ref 31), (1, .int a1), (2, .int a3)] [.int 0] _ 0 0 _
            refine x_ifne (tgt := 20) rfl rfl (ti_ne jk_0 jk_0 (bn_f (by omega) ?_))
            refine x_iconst (v := (-1)) rfl ki_m1 ?_
            refine x_iret rfl rfl ?_
            show jX m_X11_about 8 0 0 29 [(0, .ref 31), (1, .int a1), (2, .int a2), (3, .int a3), (4, .int a4)] [.int (-1)] _ 0 0 _
            refine x_istore (lsx9 := [(5, .int (-1)), (0, .ref 31), (1, .int a1), (2, .int a2), (3, .int a3), (4, .int a4)]) rfl rfl rfl ?_
            refine x_iload (x := (-1)) rfl rfl ?_
            refine x_iconst (v := (-1)) rfl ki_m1 ?_
            refine x_icne (tgt := 41) rfl rfl (ti_ne jk_m1 jk_m1 (bn_f (by omega) ?_))
            refine x_ldc2 (v := (-1)) rfl z_11_372 ?_
            refine x_lret rfl rfl ?_
            exact hQ _ _ J Sm
          ·
            refine x_iloadn (x := a1) rfl rfl ?_
            refine x_sipush (v := 600) rfl ks_600 ?_
            refine x_icge (tgt := 41) rfl rfl (ti_ge rfl jk_600 ⟨fun c8 => ?_, fun c8 => ?_⟩)
            ·
              refine x_iconst (v := 0) rfl ki_0 ?_
              refine x_zret rfl rfl (by decide) ?_
              show jX m_X11_soulOn 7 0 0 15 [(0, .ref 31), (1, .int a1), (2, .int a3)] [.int 0] _ 0 0 _
              refine x_ifne (tgt := 20) rfl rfl (ti_ne jk_0 jk_0 (bn_f (by omega) ?_))
              refine x_iconst (v := (-1)) rfl ki_m1 ?_
              refine x_iret rfl rfl ?_
              show jX m_X11_about 8 0 0 29 [(0, .ref 31), (1, .int a1), (2, .int a2), (3, .int a3), (4, .int a4)] [.int (-1)] _ 0 0 _
              refine x_istore (lsx9 := [(5, .int (-1)), (0, .ref 31), (1, .int a1), (2, .int a2), (3, .int a3), (4, .int a4)]) rfl rfl rfl ?_
              refine x_iload (x := (-1)) rfl rfl ?_
              refine x_iconst (v := (-1)) rfl ki_m1 ?_
              refine x_icne (tgt := 41) rfl rfl (ti_ne jk_m1 jk_m1 (bn_f (by omega) ?_))
              refine x_ldc2 (v := (-1)) rfl z_11_372 ?_
              refine x_lret rfl rfl ?_
              exact hQ _ _ J Sm
            ·
              refine x_iloadn (x := a1) rfl rfl ?_
              refine x_iconst (v := 3) rfl ki_3 ?_
              refine z_idiv rfl rfl jk_3 (by omega) (by omega) (fun v9 ev9 => ?_)
              refine x_aloadn (x := 78) rfl rfl ?_
              refine z_getR (N := 16) (b := 32) 7 0 rfl f_7_55 rfl J rfl 9984 ⟨rfl, rfl⟩ rfl ?_
              refine z_getR (N := 20) (b := 33) 1 0 rfl f_7_63 rfl J rfl 4096 ⟨rfl, rfl⟩ rfl ?_
              refine z_getI (N := 4) 8 3 rfl f_7_85 rfl J rfl sg_33_3_4_1_0_1 (fun v10 qv10 ev10 => ?_)
              refine x_icge (tgt := 41) rfl rfl (ti_ge rfl rfl ⟨fun c11 => ?_, fun c11 => ?_⟩)
              ·
                refine x_iconst (v := 0) rfl ki_0 ?_
                refine x_zret rfl rfl (by decide) ?_
                show jX m_X11_soulOn 7 0 0 15 [(0, .ref 31), (1, .int a1), (2, .int a3)] [.int 0] _ 0 0 _
                refine x_ifne (tgt := 20) rfl rfl (ti_ne jk_0 jk_0 (bn_f (by omega) ?_))
                refine x_iconst (v := (-1)) rfl ki_m1 ?_
                refine x_iret rfl rfl ?_
                show jX m_X11_about 8 0 0 29 [(0, .ref 31), (1, .int a1), (2, .int a2), (3, .int a3), (4, .int a4)] [.int (-1)] _ 0 0 _
                refine x_istore (lsx9 := [(5, .int (-1)), (0, .ref 31), (1, .int a1), (2, .int a2), (3, .int a3), (4, .int a4)]) rfl rfl rfl ?_
                refine x_iload (x := (-1)) rfl rfl ?_
                refine x_iconst (v := (-1)) rfl ki_m1 ?_
                refine x_icne (tgt := 41) rfl rfl (ti_ne jk_m1 jk_m1 (bn_f (by omega) ?_))
                refine x_ldc2 (v := (-1)) rfl z_11_372 ?_
                refine x_lret rfl rfl ?_
                exact hQ _ _ J Sm
              ·
                refine x_aloadn (x := 78) rfl rfl ?_
                refine z_getR (N := 16) (b := 79) 7 7 rfl f_7_27 rfl J rfl 9991 ⟨rfl, rfl⟩ rfl ?_
                refine x_iloadn (x := a1) rfl rfl ?_
                refine z_iald (N := 600) rfl J rfl sg_79_0_600_1_0_1 rfl (by omega) (fun v12 qv12 ev12 => ?_)
                refine x_iconst (v := (-1)) rfl ki_m1 ?_
                refine x_iceq (tgt := 41) rfl rfl (ti_eq rfl jk_m1 ⟨fun c13 => ?_, fun c13 => ?_⟩)
                ·
                  refine x_iconst (v := 0) rfl ki_0 ?_
                  refine x_zret rfl rfl (by decide) ?_
                  show jX m_X11_soulOn 7 0 0 15 [(0, .ref 31), (1, .int a1), (2, .int a3)] [.int 0] _ 0 0 _
                  refine x_ifne (tgt := 20) rfl rfl (ti_ne jk_0 jk_0 (bn_f (by omega) ?_))
                  refine x_iconst (v := (-1)) rfl ki_m1 ?_
                  refine x_iret rfl rfl ?_
                  show jX m_X11_about 8 0 0 29 [(0, .ref 31), (1, .int a1), (2, .int a2), (3, .int a3), (4, .int a4)] [.int (-1)] _ 0 0 _
                  refine x_istore (lsx9 := [(5, .int (-1)), (0, .ref 31), (1, .int a1), (2, .int a2), (3, .int a3), (4, .int a4)]) rfl rfl rfl ?_
                  refine x_iload (x := (-1)) rfl rfl ?_
                  refine x_iconst (v := (-1)) rfl ki_m1 ?_
                  refine x_icne (tgt := 41) rfl rfl (ti_ne jk_m1 jk_m1 (bn_f (by omega) ?_))
                  refine x_ldc2 (v := (-1)) rfl z_11_372 ?_
                  refine x_lret rfl rfl ?_
                  exact hQ _ _ J Sm
                ·
                  refine x_iconst (v := 1) rfl ki_1 ?_
                  refine x_goto (tgt := 42) rfl rfl ?_
                  refine x_zret rfl rfl (by decide) ?_
                  show jX m_X11_soulOn 7 0 0 15 [(0, .ref 31), (1, .int a1), (2, .int a3)] [.int 1] _ 0 0 _
                  refine x_ifne (tgt := 20) rfl rfl (ti_ne jk_1 jk_0 (bn_t (by omega) ?_))
                  refine x_aloadn (x := 31) rfl rfl ?_
                  refine z_getR (N := 13) (b := 78) 11 4 rfl f_11_41 rfl J rfl 3972 ⟨rfl, rfl⟩ rfl ?_
                  refine x_iloadn (x := a3) rfl rfl ?_
                  refine x_inv (N := m_X7_asKnown) (As := [.int a3]) (b := 78) (st := []) (dx9 := 6) (mc := 0) (ms := 0) (host := "") 7 rfl t_X7_asKnown ⟨Or.inl q_11_240, i_X7_asKnown.1, i_X7_asKnown.2⟩ ⟨by decide, rfl⟩ (congrArg Prod.fst (J.1.1 78 (7, 16) rfl)) rfl (by decide) rfl rfl ⟨by decide, by decide⟩ (sf_X7_asKnown_r78 (jr_of rfl (by omega)) hD J  (fun h J S14 => ?_))
                  have Sm := jSm_tr rfl Sm S14
                  show jX m_X11_soulOn 7 0 0 28 [(0, .ref 31), (1, .int a1), (2, .int a3)] [] _ 0 0 _
                  refine x_aloadn (x := 31) rfl rfl ?_
                  refine z_getR (N := 13) (b := 78) 11 4 rfl f_11_41 rfl J rfl 3972 ⟨rfl, rfl⟩ rfl ?_
                  refine z_getR (N := 16) (b := 82) 7 10 rfl f_11_537 rfl J rfl 9994 ⟨rfl, rfl⟩ rfl ?_
                  refine x_iloadn (x := a1) rfl rfl ?_
                  refine z_iald (N := 600) rfl J rfl sg_82_0_600_1_0_1 rfl (by omega) (fun v15 qv15 ev15 => ?_)
                  refine x_iret rfl rfl ?_
                  show jX m_X11_about 8 0 0 29 [(0, .ref 31), (1, .int a1), (2, .int a2), (3, .int a3), (4, .int a4)] [.int v15] _ 0 0 _
                  refine x_istore (lsx9 := [(5, .int v15), (0, .ref 31), (1, .int a1), (2, .int a2), (3, .int a3), (4, .int a4)]) rfl rfl rfl ?_
                  refine x_iload (x := v15) rfl rfl ?_
                  refine x_iconst (v := (-1)) rfl ki_m1 ?_
                  refine x_icne (tgt := 41) rfl rfl (ti_ne rfl jk_m1 ⟨fun c16 => ?_, fun c16 => ?_⟩)
                  ·
                    refine x_aloadn (x := 31) rfl rfl ?_
                    refine z_getR (N := 13) (b := 98) 11 7 rfl f_11_66 rfl J rfl 3975 ⟨rfl, rfl⟩ rfl ?_
                    refine x_iloadn (x := a2) rfl rfl ?_
                    refine x_iloadn (x := a3) rfl rfl ?_
                    refine x_inv (N := m_X0_turnTo) (As := [.int a2, .int a3]) (b := 98) (st := []) (dx9 := 7) (mc := 0) (ms := 0) (host := "") 0 rfl t_X0_turnTo ⟨Or.inl q_11_345, i_X0_turnTo.1, i_X0_turnTo.2⟩ ⟨by decide, rfl⟩ (congrArg Prod.fst (J.1.1 98 (0, 16) rfl)) rfl (by decide) rfl rfl ⟨by decide, by decide⟩ (jC.of rfl k_X0_turnTo rfl ?_)
                    show jX m_X0_turnTo 7 0 0 0 [(0, .ref 98), (1, .int a2), (2, .int a3)] [] _ 0 0 _
                    refine x_aloadn (x := 98) rfl rfl ?_
                    refine x_iloadn (x := a2) rfl rfl ?_
                    refine x_iloadn (x := a3) rfl rfl ?_
                    refine x_inv (N := m_X0_readLaws) (As := [.int a2, .int a3]) (b := 98) (st := []) (dx9 := 3) (mc := 0) (ms := 0) (host := "") 0 rfl t_X0_readLaws ⟨Or.inl q_0_65, i_X0_readLaws.1, i_X0_readLaws.2⟩ ⟨by decide, rfl⟩ (congrArg Prod.fst (J.1.1 98 (0, 16) rfl)) rfl (by decide) rfl rfl ⟨by decide, by decide⟩ (sf_X0_readLaws_r98 (jr_of rfl (by omega)) (jr_of rfl (by omega)) hD J  (fun h J S17 => ?_))
                    have Sm := jSm_tr rfl Sm S17
                    show jX m_X0_turnTo 7 0 0 6 [(0, .ref 98), (1, .int a2), (2, .int a3)] [] _ 0 0 _
                    refine x_aloadn (x := 98) rfl rfl ?_
                    refine x_iloadn (x := a2) rfl rfl ?_
                    refine x_iloadn (x := a3) rfl rfl ?_
                    refine x_inv (N := m_X0_readHouses) (As := [.int a2, .int a3]) (b := 98) (st := []) (dx9 := 3) (mc := 0) (ms := 0) (host := "") 0 rfl t_X0_readHouses ⟨Or.inl q_0_69, i_X0_readHouses.1, i_X0_readHouses.2⟩ ⟨by decide, rfl⟩ (congrArg Prod.fst (J.1.1 98 (0, 16) rfl)) rfl (by decide) rfl rfl ⟨by decide, by decide⟩ (sf_X0_readHouses_r98 (jr_of rfl (by omega)) (jr_of rfl (by omega)) hD J  (fun h J S18 => ?_))
                    have Sm := jSm_tr rfl Sm S18
                    show jX m_X0_turnTo 7 0 0 12 [(0, .ref 98), (1, .int a2), (2, .int a3)] [] _ 0 0 _
                    refine x_vret rfl rfl ?_
                    show jX m_X11_about 8 0 0 50 [(5, .int v15), (0, .ref 31), (1, .int a1), (2, .int a2), (3, .int a3), (4, .int a4)] [] _ 0 0 _
                    refine x_aloadn (x := 31) rfl rfl ?_
                    refine z_getR (N := 13) (b := 98) 11 7 rfl f_11_66 rfl J rfl 3975 ⟨rfl, rfl⟩ rfl ?_
                    refine x_iload (x := a4) rfl rfl ?_
                    refine x_iload (x := v15) rfl rfl ?_
                    refine x_inv (N := m_X0_quantity) (As := [.int a4, .int v15]) (b := 98) (st := []) (dx9 := 3) (mc := 0) (ms := 0) (host := "") 0 rfl t_X0_quantity ⟨Or.inl q_11_374, i_X0_quantity.1, i_X0_quantity.2⟩ ⟨by decide, rfl⟩ (congrArg Prod.fst (J.1.1 98 (0, 16) rfl)) rfl (by decide) rfl rfl ⟨by decide, by decide⟩ (sf_X0_quantity_r98 (jr_of rfl (by omega)) hD J  (fun v20 h J S19 => ?_))
                    have ev20 := jfullL v20
                    have Sm := jSm_tr rfl Sm S19
                    show jX m_X11_about 8 0 0 61 [(5, .int v15), (0, .ref 31), (1, .int a1), (2, .int a2), (3, .int a3), (4, .int a4)] [.long v20] _ 0 0 _
                    refine x_lret rfl rfl ?_
                    exact hQ _ _ J Sm
                  ·
                    refine x_ldc2 (v := (-1)) rfl z_11_372 ?_
                    refine x_lret rfl rfl ?_
                    exact hQ _ _ J Sm
      ·
        exact jX.sub jsb_n (ct_X11_about_r31_19 hD hQ  h J Sm)
def fp_X11_acres_r31 : jFp := [(31, 12, 13), (32, 19, 20), (123, 0, 120)]
set_option maxRecDepth 100000 in
set_option maxHeartbeats 4000000 in
theorem ct_X11_acres_r31_18 {Dy : jH → Prop} {h0 : jH} {Q : Option Value → jH → Prop} (hD : jDk Dy) (hQ : ∀ (v : Int32) hx9, (-2) ≤ v.toInt ∧ v.toInt ≤ 0 → jJ jSgX Dy hx9 → jSm fp_X11_acres_r31 h0 hx9 → Q (some (.int v)) hx9) : ∀ (h : jH), jJ jSgX Dy h → jSm fp_X11_acres_r31 h0 h → jX m_X11_acres 2 0 0 18 [(0, .ref 31)] [] h 0 0 Q := by
  intro  h    J Sm
  refine x_aloadn (x := 31) rfl rfl ?_
  refine x_iconst (v := (-1)) rfl ki_m1 ?_
  refine x_inv (N := m_X11_refuse) (As := [.int (-1)]) (b := 31) (st := []) (dx9 := 1) (mc := 0) (ms := 0) (host := "") 11 rfl t_X11_refuse ⟨Or.inl q_11_206, i_X11_refuse.1, i_X11_refuse.2⟩ ⟨by decide, rfl⟩ (congrArg Prod.fst (J.1.1 31 (11, 13) rfl)) rfl (by decide) rfl rfl ⟨by decide, by decide⟩ (jC.of rfl k_X11_refuse rfl ?_)
  show jX m_X11_refuse 1 0 0 0 [(0, .ref 31), (1, .int (-1))] [] _ 0 0 _
  refine x_aloadn (x := 31) rfl rfl ?_
  refine x_iloadn (x := (-1)) rfl rfl ?_
  refine z_putI (N := 13) (w := (-1)) 11 12 rfl f_11_94 rfl (jfin_no TX11 RX11 13 rfl rfl) hD J Sm rfl rfl jk_m1 (pw_31_12 (by omega)) rfl (fun h w1 J Sm => ?_)
  refine x_iloadn (x := (-1)) rfl rfl ?_
  refine x_iret rfl rfl ?_
  show jX m_X11_acres 2 0 0 23 [(0, .ref 31)] [.int (-1)] _ 0 0 _
  refine x_iret rfl rfl ?_
  exact hQ _ _ (jr_of jk_m1 (by omega)) J Sm
set_option maxRecDepth 100000 in
set_option maxHeartbeats 4000000 in
theorem sf_X11_acres_r31 {Dy : jH → Prop} {h : jH} {Q : Option Value → jH → Prop} {a1 : Int32} {a2 : Int32} {a3 : Int32} (hD : jDk Dy) (J : jJ jSgX Dy h) (hQ : ∀ (v : Int32) hx9, (-2) ≤ v.toInt ∧ v.toInt ≤ 0 → jJ jSgX Dy hx9 → jSm fp_X11_acres_r31 h hx9 → Q (some (.int v)) hx9) : jC m_X11_acres 2 0 0 [.ref 31, .int a1, .int a2, .int a3] h Q := by
  refine jC.of rfl k_X11_acres rfl ?_
  have Sm := jSm_rf fp_X11_acres_r31 h
  have ea1 := jfull a1
  have ea2 := jfull a2
  have ea3 := jfull a3
  show jX m_X11_acres 2 0 0 0 [(0, .ref 31), (1, .int a1), (2, .int a2), (3, .int a3)] [] _ 0 0 _
  refine x_iloadn (x := a2) rfl rfl ?_
  refine x_inst (N := m_X11_isCrop) (As := [.int a2]) (st := []) (dx9 := 1) (mc := 0) (ms := 0) (host := "") rfl t_X11_isCrop ⟨Or.inl q_11_500, s_X11_isCrop⟩ rfl (by decide) rfl rfl ⟨by decide, by decide⟩ (zc_X11_isCrop rfl (fun v1 ev1 => ?_))
  show jX m_X11_acres 2 0 0 4 [(0, .ref 31), (1, .int a1), (2, .int a2), (3, .int a3)] [.int v1] _ 0 0 _
  refine x_ifeq (tgt := 18) rfl rfl (ti_eq rfl jk_0 ⟨fun c2 => ?_, fun c2 => ?_⟩)
  ·
    exact jX.sub (jsb_c rfl jsb_n) (ct_X11_acres_r31_18 hD hQ  h J Sm)
  ·
    refine x_iloadn (x := a3) rfl rfl ?_
    refine x_iconst (v := 0) rfl ki_0 ?_
    refine x_sipush (v := 1000) rfl ks_1000 ?_
    refine x_inst (N := m_X11_isWithin) (As := [.int a3, .int 0, .int 1000]) (st := []) (dx9 := 1) (mc := 0) (ms := 0) (host := "") rfl t_X11_isWithin ⟨Or.inl q_11_202, s_X11_isWithin⟩ rfl (by decide) rfl rfl ⟨by decide, by decide⟩ (zc_X11_isWithin rfl jk_0 jk_1000 (fun v3 ev3 => ?_))
    show jX m_X11_acres 2 0 0 15 [(0, .ref 31), (1, .int a1), (2, .int a2), (3, .int a3)] [.int v3] _ 0 0 _
    refine x_ifne (tgt := 24) rfl rfl (ti_ne rfl jk_0 ⟨fun c4 => ?_, fun c4 => ?_⟩)
    ·
      refine x_aloadn (x := 31) rfl rfl ?_
      refine x_iloadn (x := a1) rfl rfl ?_
      refine x_inv (N := m_X11_isHolding) (As := [.int a1]) (b := 31) (st := []) (dx9 := 1) (mc := 0) (ms := 0) (host := "") 11 rfl t_X11_isHolding ⟨Or.inl q_11_415, i_X11_isHolding.1, i_X11_isHolding.2⟩ ⟨by decide, rfl⟩ (congrArg Prod.fst (J.1.1 31 (11, 13) rfl)) rfl (by decide) rfl rfl ⟨by decide, by decide⟩ (jC.of rfl k_X11_isHolding rfl ?_)
      show jX m_X11_isHolding 1 0 0 0 [(0, .ref 31), (1, .int a1)] [] _ 0 0 _
      refine x_iloadn (x := a1) rfl rfl ?_
      refine x_iflt (tgt := 28) rfl rfl (ti_lt rfl jk_0 ⟨fun c5 => ?_, fun c5 => ?_⟩)
      ·
        refine x_iconst (v := 0) rfl ki_0 ?_
        refine x_zret rfl rfl (by decide) ?_
        show jX m_X11_acres 2 0 0 29 [(0, .ref 31), (1, .int a1), (2, .int a2), (3, .int a3)] [.int 0] _ 0 0 _
        refine x_ifne (tgt := 39) rfl rfl (ti_ne jk_0 jk_0 (bn_f (by omega) ?_))
        refine x_aloadn (x := 31) rfl rfl ?_
        refine x_bipush (v := (-2)) rfl kb_m2 ?_
        refine x_inv (N := m_X11_refuse) (As := [.int (-2)]) (b := 31) (st := []) (dx9 := 1) (mc := 0) (ms := 0) (host := "") 11 rfl t_X11_refuse ⟨Or.inl q_11_206, i_X11_refuse.1, i_X11_refuse.2⟩ ⟨by decide, rfl⟩ (congrArg Prod.fst (J.1.1 31 (11, 13) rfl)) rfl (by decide) rfl rfl ⟨by decide, by decide⟩ (jC.of rfl k_X11_refuse rfl ?_)
        show jX m_X11_refuse 1 0 0 0 [(0, .ref 31), (1, .int (-2))] [] _ 0 0 _
        refine x_aloadn (x := 31) rfl rfl ?_
        refine x_iloadn (x := (-2)) rfl rfl ?_
        refine z_putI (N := 13) (w := (-2)) 11 12 rfl f_11_94 rfl (jfin_no TX11 RX11 13 rfl rfl) hD J Sm rfl rfl jk_m2 (pw_31_12 (by omega)) rfl (fun h w6 J Sm => ?_)
        refine x_iloadn (x := (-2)) rfl rfl ?_
        refine x_iret rfl rfl ?_
        show jX m_X11_acres 2 0 0 38 [(0, .ref 31), (1, .int a1), (2, .int a2), (3, .int a3)] [.int (-2)] _ 0 0 _
        refine x_iret rfl rfl ?_
        exact hQ _ _ (jr_of jk_m2 (by omega)) J Sm
      ·
        refine x_iloadn (x := a1) rfl rfl ?_
        refine x_aloadn (x := 31) rfl rfl ?_
        refine z_getR (N := 13) (b := 32) 11 0 rfl f_11_10 rfl J rfl 3968 ⟨rfl, rfl⟩ rfl ?_
        refine z_getR (N := 20) (b := 49) 1 8 rfl f_11_408 rfl J rfl 4104 ⟨rfl, rfl⟩ rfl ?_
        refine z_getI (N := 4) 8 3 rfl f_11_142 rfl J rfl sg_49_3_4_1_0_1 (fun v7 qv7 ev7 => ?_)
        refine x_icge (tgt := 28) rfl rfl (ti_ge rfl rfl ⟨fun c8 => ?_, fun c8 => ?_⟩)
        ·
          refine x_iconst (v := 0) rfl ki_0 ?_
          refine x_zret rfl rfl (by decide) ?_
          show jX m_X11_acres 2 0 0 29 [(0, .ref 31), (1, .int a1), (2, .int a2), (3, .int a3)] [.int 0] _ 0 0 _
          refine x_ifne (tgt := 39) rfl rfl (ti_ne jk_0 jk_0 (bn_f (by omega) ?_))
          refine x_aloadn (x := 31) rfl rfl ?_
          refine x_bipush (v := (-2)) rfl kb_m2 ?_
          refine x_inv (N := m_X11_refuse) (As := [.int (-2)]) (b := 31) (st := []) (dx9 := 1) (mc := 0) (ms := 0) (host := "") 11 rfl t_X11_refuse ⟨Or.inl q_11_206, i_X11_refuse.1, i_X11_refuse.2⟩ ⟨by decide, rfl⟩ (congrArg Prod.fst (J.1.1 31 (11, 13) rfl)) rfl (by decide) rfl rfl ⟨by decide, by decide⟩ (jC.of rfl k_X11_refuse rfl ?_)
          show jX m_X11_refuse 1 0 0 0 [(0, .ref 31), (1, .int (-2))] [] _ 0 0 _
          refine x_aloadn (x := 31) rfl rfl ?_
          refine x_iloadn (x := (-2)) rfl rfl ?_
          refine z_putI (N := 13) (w := (-2)) 11 12 rfl f_11_94 rfl (jfin_no TX11 RX11 13 rfl rfl) hD J Sm rfl rfl jk_m2 (pw_31_12 (by omega)) rfl (fun h w9 J Sm => ?_)
          refine x_iloadn (x := (-2)) rfl rfl ?_
          refine x_iret rfl rfl ?_
          show jX m_X11_acres 2 0 0 38 [(0, .ref 31), (1, .int a1), (2, .int a2), (3, .int a3)] [.int (-2)] _ 0 0 _
          refine x_iret rfl rfl ?_
          exact hQ _ _ (jr_of jk_m2 (by omega)) J Sm
        ·
          refine x_iloadn (x := a1) rfl rfl ?_
          refine x_bipush (v := 40) rfl kb_40 ?_
          refine x_icge (tgt := 28) rfl rfl (ti_ge rfl jk_40 (br_f (by omega) ?_))
          refine x_iconst (v := 1) rfl ki_1 ?_
          refine x_goto (tgt := 29) rfl rfl ?_
          refine x_zret rfl rfl (by decide) ?_
          show jX m_X11_acres 2 0 0 29 [(0, .ref 31), (1, .int a1), (2, .int a2), (3, .int a3)] [.int 1] _ 0 0 _
          refine x_ifne (tgt := 39) rfl rfl (ti_ne jk_1 jk_0 (bn_t (by omega) ?_))
          refine x_aloadn (x := 31) rfl rfl ?_
          refine z_getR (N := 13) (b := 123) 11 10 rfl f_11_86 rfl J rfl 3978 ⟨rfl, rfl⟩ rfl ?_
          refine x_iloadn (x := a1) rfl rfl ?_
          refine x_iconst (v := 3) rfl ki_3 ?_
          refine z_imul rfl rfl jk_3 (by omega) (fun v10 ev10 => ?_)
          refine x_iloadn (x := a2) rfl rfl ?_
          refine z_iadd rfl rfl rfl (by omega) (fun v11 ev11 => ?_)
          refine x_iloadn (x := a3) rfl rfl ?_
          refine z_iast (N := 120) (l := 0) (u := 120) (w := a3.toInt) rfl hD J Sm rfl rfl rfl (by omega) rfl (wr_123 (fun q1 q2 q3 q4 => by omega)) rfl (fun h w12 J Sm => ?_)
          refine x_aloadn (x := 31) rfl rfl ?_
          refine x_iconst (v := 0) rfl ki_0 ?_
          refine x_inv (N := m_X11_accept) (As := [.int 0]) (b := 31) (st := []) (dx9 := 1) (mc := 0) (ms := 0) (host := "") 11 rfl t_X11_accept ⟨Or.inl q_11_165, i_X11_accept.1, i_X11_accept.2⟩ ⟨by decide, rfl⟩ (congrArg Prod.fst (J.1.1 31 (11, 13) rfl)) rfl (by decide) rfl rfl ⟨by decide, by decide⟩ (jC.of rfl k_X11_accept rfl ?_)
          show jX m_X11_accept 1 0 0 0 [(0, .ref 31), (1, .int 0)] [] _ 0 0 _
          refine x_aloadn (x := 31) rfl rfl ?_
          refine x_iconst (v := 0) rfl ki_0 ?_
          refine z_putI (N := 13) (w := 0) 11 12 rfl f_11_94 rfl (jfin_no TX11 RX11 13 rfl rfl) hD J Sm rfl rfl jk_0 (pw_31_12 (by omega)) rfl (fun h w13 J Sm => ?_)
          refine x_aloadn (x := 31) rfl rfl ?_
          refine z_getR (N := 13) (b := 32) 11 0 rfl f_11_10 rfl J rfl 3968 ⟨rfl, rfl⟩ rfl ?_
          refine x_dup rfl rfl ?_
          refine z_getI0 (N := 20) 1 19 rfl f_11_528 rfl J rfl (fun v14 qv14 => ?_)
          have ev14 := jfull v14
          refine x_iconst (v := 1) rfl ki_1 ?_
          refine z_iadd0 rfl (fun v15 => ?_)
          have ev15 := jfull v15
          refine z_putI (N := 20) (w := v15.toInt) 1 19 rfl f_11_528 rfl (jfin_no TX1 RX1 20 rfl rfl) hD J Sm rfl rfl rfl (pw_32_19 trivial) rfl (fun h w16 J Sm => ?_)
          refine x_iloadn (x := 0) rfl rfl ?_
          refine x_iret rfl rfl ?_
          show jX m_X11_acres 2 0 0 55 [(0, .ref 31), (1, .int a1), (2, .int a2), (3, .int a3)] [.int 0] _ 0 0 _
          refine x_iret rfl rfl ?_
          exact hQ _ _ (jr_of jk_0 (by omega)) J Sm
    ·
      exact jX.sub (jsb_c rfl jsb_n) (ct_X11_acres_r31_18 hD hQ  h J Sm)
def fp_X8_at_r33_c1 : jFp := []
set_option maxRecDepth 100000 in
set_option maxHeartbeats 4000000 in
theorem ct_X8_at_r33_c1_24 {Dy : jH → Prop} {h0 : jH} {Q : Option Value → jH → Prop} (hD : jDk Dy) (hQ : ∀ (v : Int32) hx9, 0 ≤ v.toInt ∧ v.toInt ≤ 146399 → jJ jSgX Dy hx9 → jSm fp_X8_at_r33_c1 h0 hx9 → Q (some (.int v)) hx9) : ∀ (h : jH), jJ jSgX Dy h → jSm fp_X8_at_r33_c1 h0 h → jX m_X8_at 1 0 0 24 [] [] h 0 0 Q := by
  intro  h    J Sm
  refine x_iconst (v := 0) rfl ki_0 ?_
  refine x_iret rfl rfl ?_
  exact hQ _ _ (jr_of jk_0 (by omega)) J Sm
set_option maxRecDepth 100000 in
set_option maxHeartbeats 4000000 in
theorem sf_X8_at_r33_c1 {Dy : jH → Prop} {h : jH} {Q : Option Value → jH → Prop} {a1 : Int32} (hD : jDk Dy) (J : jJ jSgX Dy h) (hQ : ∀ (v : Int32) hx9, 0 ≤ v.toInt ∧ v.toInt ≤ 146399 → jJ jSgX Dy hx9 → jSm fp_X8_at_r33_c1 h hx9 → Q (some (.int v)) hx9) : jC m_X8_at 1 0 0 [.ref 33, .int a1, .int 1] h Q := by
  refine jC.of rfl k_X8_at rfl ?_
  have Sm := jSm_rf fp_X8_at_r33_c1 h
  have ea1 := jfull a1
  show jX m_X8_at 1 0 0 0 [(0, .ref 33), (1, .int a1), (2, .int 1)] [] _ 0 0 _
  refine x_iloadn (x := a1) rfl rfl ?_
  refine x_iflt (tgt := 24) rfl rfl (ti_lt rfl jk_0 ⟨fun c1 => ?_, fun c1 => ?_⟩)
  ·
    exact jX.sub jsb_n (ct_X8_at_r33_c1_24 hD hQ  h J Sm)
  ·
    refine x_iloadn (x := a1) rfl rfl ?_
    refine x_aloadn (x := 33) rfl rfl ?_
    refine z_getI (N := 4) 8 3 rfl f_8_7 rfl J rfl sg_33_3_4_1_0_1 (fun v2 qv2 ev2 => ?_)
    refine x_icge (tgt := 24) rfl rfl (ti_ge rfl rfl ⟨fun c3 => ?_, fun c3 => ?_⟩)
    ·
      exact jX.sub jsb_n (ct_X8_at_r33_c1_24 hD hQ  h J Sm)
    ·
      refine x_iloadn (x := 1) rfl rfl ?_
      refine x_iflt (tgt := 24) rfl rfl (ti_lt jk_1 jk_0 (br_f (by omega) ?_))
      refine x_iloadn (x := 1) rfl rfl ?_
      refine x_aloadn (x := 33) rfl rfl ?_
      refine z_getC (N := 4) (v := 6) 8 0 rfl f_8_19 rfl J rfl sg_33_0_1_1_0_1 jk_6 ?_
      refine x_iclt (tgt := 26) rfl rfl (ti_lt jk_1 jk_6 (br_t (by omega) ?_))
      refine x_aloadn (x := 33) rfl rfl ?_
      refine z_getR (N := 4) (b := 34) 8 2 rfl f_8_25 rfl J rfl 4226 ⟨rfl, rfl⟩ rfl ?_
      refine x_iloadn (x := a1) rfl rfl ?_
      refine x_aloadn (x := 33) rfl rfl ?_
      refine z_getC (N := 4) (v := 6) 8 0 rfl f_8_19 rfl J rfl sg_33_0_1_1_0_1 jk_6 ?_
      refine z_imul rfl rfl jk_6 (by omega) (fun v4 ev4 => ?_)
      refine x_iloadn (x := 1) rfl rfl ?_
      refine z_iadd rfl rfl jk_1 (by omega) (fun v5 ev5 => ?_)
      refine z_iald (N := 1200) rfl J rfl sg_34_0_1200_6_1_2 rfl (by omega) (fun v6 qv6 ev6 => ?_)
      refine x_iret rfl rfl ?_
      exact hQ _ _ (jr_of rfl (by omega)) J Sm
def fp_X8_at_r33_c2 : jFp := []
set_option maxRecDepth 100000 in
set_option maxHeartbeats 4000000 in
theorem ct_X8_at_r33_c2_24 {Dy : jH → Prop} {h0 : jH} {Q : Option Value → jH → Prop} (hD : jDk Dy) (hQ : ∀ (v : Int32) hx9, 0 ≤ v.toInt ∧ v.toInt ≤ 5 → jJ jSgX Dy hx9 → jSm fp_X8_at_r33_c2 h0 hx9 → Q (some (.int v)) hx9) : ∀ (h : jH), jJ jSgX Dy h → jSm fp_X8_at_r33_c2 h0 h → jX m_X8_at 1 0 0 24 [] [] h 0 0 Q := by
  intro  h    J Sm
  refine x_iconst (v := 0) rfl ki_0 ?_
  refine x_iret rfl rfl ?_
  exact hQ _ _ (jr_of jk_0 (by omega)) J Sm
set_option maxRecDepth 100000 in
set_option maxHeartbeats 4000000 in
theorem sf_X8_at_r33_c2 {Dy : jH → Prop} {h : jH} {Q : Option Value → jH → Prop} {a1 : Int32} (hD : jDk Dy) (J : jJ jSgX Dy h) (hQ : ∀ (v : Int32) hx9, 0 ≤ v.toInt ∧ v.toInt ≤ 5 → jJ jSgX Dy hx9 → jSm fp_X8_at_r33_c2 h hx9 → Q (some (.int v)) hx9) : jC m_X8_at 1 0 0 [.ref 33, .int a1, .int 2] h Q := by
  refine jC.of rfl k_X8_at rfl ?_
  have Sm := jSm_rf fp_X8_at_r33_c2 h
  have ea1 := jfull a1
  show jX m_X8_at 1 0 0 0 [(0, .ref 33), (1, .int a1), (2, .int 2)] [] _ 0 0 _
  refine x_iloadn (x := a1) rfl rfl ?_
  refine x_iflt (tgt := 24) rfl rfl (ti_lt rfl jk_0 ⟨fun c1 => ?_, fun c1 => ?_⟩)
  ·
    exact jX.sub jsb_n (ct_X8_at_r33_c2_24 hD hQ  h J Sm)
  ·
    refine x_iloadn (x := a1) rfl rfl ?_
    refine x_aloadn (x := 33) rfl rfl ?_
    refine z_getI (N := 4) 8 3 rfl f_8_7 rfl J rfl sg_33_3_4_1_0_1 (fun v2 qv2 ev2 => ?_)
    refine x_icge (tgt := 24) rfl rfl (ti_ge rfl rfl ⟨fun c3 => ?_, fun c3 => ?_⟩)
    ·
      exact jX.sub jsb_n (ct_X8_at_r33_c2_24 hD hQ  h J Sm)
    ·
      refine x_iloadn (x := 2) rfl rfl ?_
      refine x_iflt (tgt := 24) rfl rfl (ti_lt jk_2 jk_0 (br_f (by omega) ?_))
      refine x_iloadn (x := 2) rfl rfl ?_
      refine x_aloadn (x := 33) rfl rfl ?_
      refine z_getC (N := 4) (v := 6) 8 0 rfl f_8_19 rfl J rfl sg_33_0_1_1_0_1 jk_6 ?_
      refine x_iclt (tgt := 26) rfl rfl (ti_lt jk_2 jk_6 (br_t (by omega) ?_))
      refine x_aloadn (x := 33) rfl rfl ?_
      refine z_getR (N := 4) (b := 34) 8 2 rfl f_8_25 rfl J rfl 4226 ⟨rfl, rfl⟩ rfl ?_
      refine x_iloadn (x := a1) rfl rfl ?_
      refine x_aloadn (x := 33) rfl rfl ?_
      refine z_getC (N := 4) (v := 6) 8 0 rfl f_8_19 rfl J rfl sg_33_0_1_1_0_1 jk_6 ?_
      refine z_imul rfl rfl jk_6 (by omega) (fun v4 ev4 => ?_)
      refine x_iloadn (x := 2) rfl rfl ?_
      refine z_iadd rfl rfl jk_2 (by omega) (fun v5 ev5 => ?_)
      refine z_iald (N := 1200) rfl J rfl sg_34_0_1200_6_2_3 rfl (by omega) (fun v6 qv6 ev6 => ?_)
      refine x_iret rfl rfl ?_
      exact hQ _ _ (jr_of rfl (by omega)) J Sm
def fp_X8_at_r33_c4 : jFp := []
set_option maxRecDepth 100000 in
set_option maxHeartbeats 4000000 in
theorem ct_X8_at_r33_c4_24 {Dy : jH → Prop} {h0 : jH} {Q : Option Value → jH → Prop} (hD : jDk Dy) (hQ : ∀ (v : Int32) hx9, jJ jSgX Dy hx9 → jSm fp_X8_at_r33_c4 h0 hx9 → Q (some (.int v)) hx9) : ∀ (h : jH), jJ jSgX Dy h → jSm fp_X8_at_r33_c4 h0 h → jX m_X8_at 1 0 0 24 [] [] h 0 0 Q := by
  intro  h    J Sm
  refine x_iconst (v := 0) rfl ki_0 ?_
  refine x_iret rfl rfl ?_
  exact hQ _ _ J Sm
set_option maxRecDepth 100000 in
set_option maxHeartbeats 4000000 in
theorem sf_X8_at_r33_c4 {Dy : jH → Prop} {h : jH} {Q : Option Value → jH → Prop} {a1 : Int32} (hD : jDk Dy) (J : jJ jSgX Dy h) (hQ : ∀ (v : Int32) hx9, jJ jSgX Dy hx9 → jSm fp_X8_at_r33_c4 h hx9 → Q (some (.int v)) hx9) : jC m_X8_at 1 0 0 [.ref 33, .int a1, .int 4] h Q := by
  refine jC.of rfl k_X8_at rfl ?_
  have Sm := jSm_rf fp_X8_at_r33_c4 h
  have ea1 := jfull a1
  show jX m_X8_at 1 0 0 0 [(0, .ref 33), (1, .int a1), (2, .int 4)] [] _ 0 0 _
  refine x_iloadn (x := a1) rfl rfl ?_
  refine x_iflt (tgt := 24) rfl rfl (ti_lt rfl jk_0 ⟨fun c1 => ?_, fun c1 => ?_⟩)
  ·
    exact jX.sub jsb_n (ct_X8_at_r33_c4_24 hD hQ  h J Sm)
  ·
    refine x_iloadn (x := a1) rfl rfl ?_
    refine x_aloadn (x := 33) rfl rfl ?_
    refine z_getI (N := 4) 8 3 rfl f_8_7 rfl J rfl sg_33_3_4_1_0_1 (fun v2 qv2 ev2 => ?_)
    refine x_icge (tgt := 24) rfl rfl (ti_ge rfl rfl ⟨fun c3 => ?_, fun c3 => ?_⟩)
    ·
      exact jX.sub jsb_n (ct_X8_at_r33_c4_24 hD hQ  h J Sm)
    ·
      refine x_iloadn (x := 4) rfl rfl ?_
      refine x_iflt (tgt := 24) rfl rfl (ti_lt jk_4 jk_0 (br_f (by omega) ?_))
      refine x_iloadn (x := 4) rfl rfl ?_
      refine x_aloadn (x := 33) rfl rfl ?_
      refine z_getC (N := 4) (v := 6) 8 0 rfl f_8_19 rfl J rfl sg_33_0_1_1_0_1 jk_6 ?_
      refine x_iclt (tgt := 26) rfl rfl (ti_lt jk_4 jk_6 (br_t (by omega) ?_))
      refine x_aloadn (x := 33) rfl rfl ?_
      refine z_getR (N := 4) (b := 34) 8 2 rfl f_8_25 rfl J rfl 4226 ⟨rfl, rfl⟩ rfl ?_
      refine x_iloadn (x := a1) rfl rfl ?_
      refine x_aloadn (x := 33) rfl rfl ?_
      refine z_getC (N := 4) (v := 6) 8 0 rfl f_8_19 rfl J rfl sg_33_0_1_1_0_1 jk_6 ?_
      refine z_imul rfl rfl jk_6 (by omega) (fun v4 ev4 => ?_)
      refine x_iloadn (x := 4) rfl rfl ?_
      refine z_iadd rfl rfl jk_4 (by omega) (fun v5 ev5 => ?_)
      refine z_iald0 (N := 1200) rfl J rfl rfl (by omega) (fun v6 qv6 => ?_)
      have ev6 := jfull v6
      refine x_iret rfl rfl ?_
      exact hQ _ _ J Sm
def fp_X7_learn_r78 : jFp := [(79, 0, 600), (80, 0, 600), (81, 0, 600)]
set_option maxRecDepth 100000 in
set_option maxHeartbeats 4000000 in
theorem ct_X7_learn_r78_31 {Dy : jH → Prop} {h0 : jH} {Q : Option Value → jH → Prop} (hD : jDk Dy) (hQ : ∀ hx9, jJ jSgX Dy hx9 → jSm fp_X7_learn_r78 h0 hx9 → Q none hx9) : ∀ (h : jH), jJ jSgX Dy h → jSm fp_X7_learn_r78 h0 h → jX m_X7_learn 2 0 0 31 [] [] h 0 0 Q := by
  intro  h    J Sm
  refine x_vret rfl rfl ?_
  exact hQ _ J Sm
set_option maxRecDepth 100000 in
set_option maxHeartbeats 4000000 in
theorem ct_X7_learn_r78_100072 {Dy : jH → Prop} {h0 : jH} {Q : Option Value → jH → Prop} {R34 : Int} (hD : jDk Dy) (hQ : ∀ hx9, jJ jSgX Dy hx9 → jSm fp_X7_learn_r78 h0 hx9 → Q none hx9) (k34 : ∀ (l1 : Int32) (l2 : Int32) (l3 : Int32) (h : jH), 3 - l3.toInt < R34 → 0 ≤ l1.toInt ∧ l1.toInt ≤ 199 → 0 ≤ l2.toInt ∧ l2.toInt ≤ 5 → 0 ≤ l3.toInt ∧ l3.toInt ≤ 3 → jJ jSgX Dy h → jSm fp_X7_learn_r78 h0 h → jX m_X7_learn 2 0 0 34 [(0, .ref 78), (1, .int l1), (2, .int l2), (3, .int l3)] [] h 0 0 Q) : ∀ (l1 : Int32) (l2 : Int32) (l3 : Int32) (l4 : Int32) (s1 : Int32) (h : jH), 0 ≤ l1.toInt ∧ l1.toInt ≤ 199 → 0 ≤ l2.toInt ∧ l2.toInt ≤ 5 → 1 ≤ l3.toInt ∧ l3.toInt ≤ 2 → 0 ≤ l4.toInt ∧ l4.toInt ≤ 599 → 0 ≤ s1.toInt ∧ s1.toInt ≤ 599 → 3 - l3.toInt ≤ R34 → jJ jSgX Dy h → jSm fp_X7_learn_r78 h0 h → jX m_X7_learn 2 0 0 72 [(0, .ref 78), (1, .int l1), (2, .int l2), (3, .int l3), (4, .int l4)] [.int (-1), .int s1, .ref 79] h 0 0 Q := by
  intro l1 l2 l3 l4 s1 h y0 y1 y2 y3 y4  m34 J Sm
  refine z_iast (N := 600) (l := 0) (u := 600) (w := (-1)) rfl hD J Sm rfl rfl rfl (by omega) jk_m1 (wr_79 (fun q1 q2 q3 q4 => by omega)) rfl (fun h w1 J Sm => ?_)
  refine x_aloadn (x := 78) rfl rfl ?_
  refine z_getR (N := 16) (b := 80) 7 8 rfl f_7_31 rfl J rfl 9992 ⟨rfl, rfl⟩ rfl ?_
  refine x_iload (x := l4) rfl rfl ?_
  refine x_aloadn (x := 78) rfl rfl ?_
  refine z_getR (N := 16) (b := 32) 7 0 rfl f_7_55 rfl J rfl 9984 ⟨rfl, rfl⟩ rfl ?_
  refine z_getR (N := 20) (b := 33) 1 0 rfl f_7_63 rfl J rfl 4096 ⟨rfl, rfl⟩ rfl ?_
  refine x_iloadn (x := l1) rfl rfl ?_
  refine x_iconst (v := 1) rfl ki_1 ?_
  refine x_inv (N := m_X8_at) (As := [.int l1, .int 1]) (b := 33) (st := [.int l4, .ref 80]) (dx9 := 1) (mc := 0) (ms := 0) (host := "") 8 rfl t_X8_at ⟨Or.inl q_7_69, i_X8_at.1, i_X8_at.2⟩ ⟨by decide, rfl⟩ (congrArg Prod.fst (J.1.1 33 (8, 4) rfl)) rfl (by decide) rfl rfl ⟨by decide, by decide⟩ (sf_X8_at_r33_c1  hD J  (fun v3 h ev3 J S2 => ?_))
  have Sm := jSm_tr rfl Sm S2
  show jX m_X7_learn 2 0 0 91 [(0, .ref 78), (1, .int l1), (2, .int l2), (3, .int l3), (4, .int l4)] [.int v3, .int l4, .ref 80] _ 0 0 _
  refine z_iast (N := 600) (l := 0) (u := 600) (w := v3.toInt) rfl hD J Sm rfl rfl rfl (by omega) rfl (wr_80 (fun q1 q2 q3 q4 => by omega)) rfl (fun h w4 J Sm => ?_)
  refine x_aloadn (x := 78) rfl rfl ?_
  refine z_getR (N := 16) (b := 81) 7 9 rfl f_7_34 rfl J rfl 9993 ⟨rfl, rfl⟩ rfl ?_
  refine x_iload (x := l4) rfl rfl ?_
  refine x_aloadn (x := 78) rfl rfl ?_
  refine z_getR (N := 16) (b := 32) 7 0 rfl f_7_55 rfl J rfl 9984 ⟨rfl, rfl⟩ rfl ?_
  refine z_getR (N := 20) (b := 33) 1 0 rfl f_7_63 rfl J rfl 4096 ⟨rfl, rfl⟩ rfl ?_
  refine x_iloadn (x := l1) rfl rfl ?_
  refine x_iconst (v := 4) rfl ki_4 ?_
  refine x_inv (N := m_X8_at) (As := [.int l1, .int 4]) (b := 33) (st := [.int l4, .ref 81]) (dx9 := 1) (mc := 0) (ms := 0) (host := "") 8 rfl t_X8_at ⟨Or.inl q_7_69, i_X8_at.1, i_X8_at.2⟩ ⟨by decide, rfl⟩ (congrArg Prod.fst (J.1.1 33 (8, 4) rfl)) rfl (by decide) rfl rfl ⟨by decide, by decide⟩ (sf_X8_at_r33_c4  hD J  (fun v6 h J S5 => ?_))
  have ev6 := jfull v6
  have Sm := jSm_tr rfl Sm S5
  show jX m_X7_learn 2 0 0 110 [(0, .ref 78), (1, .int l1), (2, .int l2), (3, .int l3), (4, .int l4)] [.int v6, .int l4, .ref 81] _ 0 0 _
  refine z_iast (N := 600) (l := 0) (u := 600) (w := v6.toInt) rfl hD J Sm rfl rfl rfl (by omega) rfl (wr_81) rfl (fun h w7 J Sm => ?_)
  refine z_iinc (x := l3) (lsx9 := fun v8 => [(3, .int v8), (0, .ref 78), (1, .int l1), (2, .int l2), (4, .int l4)]) rfl rfl rfl jko_1 (by omega) rfl (fun _ => rfl) (fun v8 ev8 => ?_)
  refine x_goto (tgt := 34) rfl rfl ?_
  exact jX.sub (jsb_c rfl (jsb_c rfl (jsb_c rfl (jsb_c rfl jsb_n)))) (k34 l1 l2 v8 h (by omega) (jr_of rfl (by omega)) (jr_of rfl (by omega)) (jr_of rfl (by omega)) J Sm)
set_option maxRecDepth 100000 in
set_option maxHeartbeats 4000000 in
theorem ct_X7_learn_r78_72 {Dy : jH → Prop} {h0 : jH} {Q : Option Value → jH → Prop} {R34 : Int} (hD : jDk Dy) (hQ : ∀ hx9, jJ jSgX Dy hx9 → jSm fp_X7_learn_r78 h0 hx9 → Q none hx9) (k34 : ∀ (l1 : Int32) (l2 : Int32) (l3 : Int32) (h : jH), 3 - l3.toInt < R34 → 0 ≤ l1.toInt ∧ l1.toInt ≤ 199 → 0 ≤ l2.toInt ∧ l2.toInt ≤ 5 → 0 ≤ l3.toInt ∧ l3.toInt ≤ 3 → jJ jSgX Dy h → jSm fp_X7_learn_r78 h0 h → jX m_X7_learn 2 0 0 34 [(0, .ref 78), (1, .int l1), (2, .int l2), (3, .int l3)] [] h 0 0 Q) : ∀ (l1 : Int32) (l2 : Int32) (l3 : Int32) (l4 : Int32) (s0 : Int32) (s1 : Int32) (h : jH), 0 ≤ l1.toInt ∧ l1.toInt ≤ 199 → 0 ≤ l2.toInt ∧ l2.toInt ≤ 5 → 0 ≤ l3.toInt ∧ l3.toInt ≤ 2 → 0 ≤ l4.toInt ∧ l4.toInt ≤ 599 → 0 ≤ s0.toInt ∧ s0.toInt ≤ 10 → 0 ≤ s1.toInt ∧ s1.toInt ≤ 599 → 3 - l3.toInt ≤ R34 → jJ jSgX Dy h → jSm fp_X7_learn_r78 h0 h → jX m_X7_learn 2 0 0 72 [(0, .ref 78), (1, .int l1), (2, .int l2), (3, .int l3), (4, .int l4)] [.int s0, .int s1, .ref 79] h 0 0 Q := by
  intro l1 l2 l3 l4 s0 s1 h y0 y1 y2 y3 y4 y5  m34 J Sm
  refine z_iast (N := 600) (l := 0) (u := 600) (w := s0.toInt) rfl hD J Sm rfl rfl rfl (by omega) rfl (wr_79 (fun q1 q2 q3 q4 => by omega)) rfl (fun h w1 J Sm => ?_)
  refine x_aloadn (x := 78) rfl rfl ?_
  refine z_getR (N := 16) (b := 80) 7 8 rfl f_7_31 rfl J rfl 9992 ⟨rfl, rfl⟩ rfl ?_
  refine x_iload (x := l4) rfl rfl ?_
  refine x_aloadn (x := 78) rfl rfl ?_
  refine z_getR (N := 16) (b := 32) 7 0 rfl f_7_55 rfl J rfl 9984 ⟨rfl, rfl⟩ rfl ?_
  refine z_getR (N := 20) (b := 33) 1 0 rfl f_7_63 rfl J rfl 4096 ⟨rfl, rfl⟩ rfl ?_
  refine x_iloadn (x := l1) rfl rfl ?_
  refine x_iconst (v := 1) rfl ki_1 ?_
  refine x_inv (N := m_X8_at) (As := [.int l1, .int 1]) (b := 33) (st := [.int l4, .ref 80]) (dx9 := 1) (mc := 0) (ms := 0) (host := "") 8 rfl t_X8_at ⟨Or.inl q_7_69, i_X8_at.1, i_X8_at.2⟩ ⟨by decide, rfl⟩ (congrArg Prod.fst (J.1.1 33 (8, 4) rfl)) rfl (by decide) rfl rfl ⟨by decide, by decide⟩ (sf_X8_at_r33_c1  hD J  (fun v3 h ev3 J S2 => ?_))
  have Sm := jSm_tr rfl Sm S2
  show jX m_X7_learn 2 0 0 91 [(0, .ref 78), (1, .int l1), (2, .int l2), (3, .int l3), (4, .int l4)] [.int v3, .int l4, .ref 80] _ 0 0 _
  refine z_iast (N := 600) (l := 0) (u := 600) (w := v3.toInt) rfl hD J Sm rfl rfl rfl (by omega) rfl (wr_80 (fun q1 q2 q3 q4 => by omega)) rfl (fun h w4 J Sm => ?_)
  refine x_aloadn (x := 78) rfl rfl ?_
  refine z_getR (N := 16) (b := 81) 7 9 rfl f_7_34 rfl J rfl 9993 ⟨rfl, rfl⟩ rfl ?_
  refine x_iload (x := l4) rfl rfl ?_
  refine x_aloadn (x := 78) rfl rfl ?_
  refine z_getR (N := 16) (b := 32) 7 0 rfl f_7_55 rfl J rfl 9984 ⟨rfl, rfl⟩ rfl ?_
  refine z_getR (N := 20) (b := 33) 1 0 rfl f_7_63 rfl J rfl 4096 ⟨rfl, rfl⟩ rfl ?_
  refine x_iloadn (x := l1) rfl rfl ?_
  refine x_iconst (v := 4) rfl ki_4 ?_
  refine x_inv (N := m_X8_at) (As := [.int l1, .int 4]) (b := 33) (st := [.int l4, .ref 81]) (dx9 := 1) (mc := 0) (ms := 0) (host := "") 8 rfl t_X8_at ⟨Or.inl q_7_69, i_X8_at.1, i_X8_at.2⟩ ⟨by decide, rfl⟩ (congrArg Prod.fst (J.1.1 33 (8, 4) rfl)) rfl (by decide) rfl rfl ⟨by decide, by decide⟩ (sf_X8_at_r33_c4  hD J  (fun v6 h J S5 => ?_))
  have ev6 := jfull v6
  have Sm := jSm_tr rfl Sm S5
  show jX m_X7_learn 2 0 0 110 [(0, .ref 78), (1, .int l1), (2, .int l2), (3, .int l3), (4, .int l4)] [.int v6, .int l4, .ref 81] _ 0 0 _
  refine z_iast (N := 600) (l := 0) (u := 600) (w := v6.toInt) rfl hD J Sm rfl rfl rfl (by omega) rfl (wr_81) rfl (fun h w7 J Sm => ?_)
  refine z_iinc (x := l3) (lsx9 := fun v8 => [(3, .int v8), (0, .ref 78), (1, .int l1), (2, .int l2), (4, .int l4)]) rfl rfl rfl jko_1 (by omega) rfl (fun _ => rfl) (fun v8 ev8 => ?_)
  refine x_goto (tgt := 34) rfl rfl ?_
  exact jX.sub (jsb_c rfl (jsb_c rfl (jsb_c rfl (jsb_c rfl jsb_n)))) (k34 l1 l2 v8 h (by omega) (jr_of rfl (by omega)) (jr_of rfl (by omega)) (jr_of rfl (by omega)) J Sm)
set_option maxRecDepth 100000 in
set_option maxHeartbeats 4000000 in
theorem ct_X7_learn_r78_34 {Dy : jH → Prop} {h0 : jH} {Q : Option Value → jH → Prop} (hD : jDk Dy) (hQ : ∀ hx9, jJ jSgX Dy hx9 → jSm fp_X7_learn_r78 h0 hx9 → Q none hx9) : ∀ r : Nat, ∀ (l1 : Int32) (l2 : Int32) (l3 : Int32) (h : jH), 3 - l3.toInt < (r : Int) → 0 ≤ l1.toInt ∧ l1.toInt ≤ 199 → 0 ≤ l2.toInt ∧ l2.toInt ≤ 5 → 0 ≤ l3.toInt ∧ l3.toInt ≤ 3 → jJ jSgX Dy h → jSm fp_X7_learn_r78 h0 h → jX m_X7_learn 2 0 0 34 [(0, .ref 78), (1, .int l1), (2, .int l2), (3, .int l3)] [] h 0 0 Q := by
  intro r
  induction r with
  | zero =>
    intro l1 l2 l3 h hm y0 y1 y2   J Sm
    exfalso
    omega
  | succ r ih =>
    intro l1 l2 l3 h hm y0 y1 y2   J Sm
    refine x_iloadn (x := l3) rfl rfl ?_
    refine x_iconst (v := 3) rfl ki_3 ?_
    refine x_icge (tgt := 117) rfl rfl (ti_ge rfl jk_3 ⟨fun c1 => ?_, fun c1 => ?_⟩)
    ·
      refine x_vret rfl rfl ?_
      exact hQ _ J Sm
    ·
      refine x_iloadn (x := l1) rfl rfl ?_
      refine x_iconst (v := 3) rfl ki_3 ?_
      refine z_imul rfl rfl jk_3 (by omega) (fun v2 ev2 => ?_)
      refine x_iloadn (x := l3) rfl rfl ?_
      refine z_iadd rfl rfl rfl (by omega) (fun v3 ev3 => ?_)
      refine x_istore (lsx9 := [(4, .int v3), (0, .ref 78), (1, .int l1), (2, .int l2), (3, .int l3)]) rfl rfl rfl ?_
      refine x_aloadn (x := 78) rfl rfl ?_
      refine z_getR (N := 16) (b := 79) 7 7 rfl f_7_27 rfl J rfl 9991 ⟨rfl, rfl⟩ rfl ?_
      refine x_iload (x := v3) rfl rfl ?_
      refine x_iloadn (x := l3) rfl rfl ?_
      refine x_getsN jst_1 rfl (by decide +kernel) u_7_79 ?_
      show jX m_X7_learn 2 0 0 56 [(4, .int v3), (0, .ref 78), (1, .int l1), (2, .int l2), (3, .int l3)] [.ref 1, .int l3, .int v3, .ref 79] _ 0 0 _
      refine x_iloadn (x := l2) rfl rfl ?_
      refine z_iald (N := 6) rfl J rfl sg_1_0_6_1_0_1 rfl (by omega) (fun v4 qv4 ev4 => ?_)
      refine x_icge (tgt := 71) rfl rfl (ti_ge rfl rfl ⟨fun c5 => ?_, fun c5 => ?_⟩)
      ·
        refine x_iconst (v := (-1)) rfl ki_m1 ?_
        exact jX.sub (jsb_c rfl (jsb_c rfl (jsb_c rfl (jsb_c rfl (jsb_c rfl jsb_n))))) (ct_X7_learn_r78_100072 hD hQ ih l1 l2 l3 v3 v3 h (jr_of rfl (by omega)) (jr_of rfl (by omega)) (jr_of rfl (by omega)) (jr_of rfl (by omega)) (jr_of rfl (by omega)) (by omega) J Sm)
      ·
        refine x_getsN jst_2 rfl (by decide +kernel) u_7_82 ?_
        show jX m_X7_learn 2 0 0 64 [(4, .int v3), (0, .ref 78), (1, .int l1), (2, .int l2), (3, .int l3)] [.ref 2, .int v3, .ref 79] _ 0 0 _
        refine x_iloadn (x := l2) rfl rfl ?_
        refine z_iald (N := 6) rfl J rfl sg_2_0_6_1_0_1 rfl (by omega) (fun v6 qv6 ev6 => ?_)
        refine x_iloadn (x := l3) rfl rfl ?_
        refine z_iadd rfl rfl rfl (by omega) (fun v7 ev7 => ?_)
        refine x_goto (tgt := 72) rfl rfl ?_
        exact jX.sub (jsb_c rfl (jsb_c rfl (jsb_c rfl (jsb_c rfl (jsb_c rfl jsb_n))))) (ct_X7_learn_r78_72 hD hQ ih l1 l2 l3 v3 v7 v3 h (jr_of rfl (by omega)) (jr_of rfl (by omega)) (jr_of rfl (by omega)) (jr_of rfl (by omega)) (jr_of rfl (by omega)) (jr_of rfl (by omega)) (by omega) J Sm)
set_option maxRecDepth 100000 in
set_option maxHeartbeats 4000000 in
theorem sf_X7_learn_r78 {Dy : jH → Prop} {h : jH} {Q : Option Value → jH → Prop} {a1 : Int32} (y1 : 0 ≤ a1.toInt ∧ a1.toInt ≤ 200) (hD : jDk Dy) (J : jJ jSgX Dy h) (hQ : ∀ hx9, jJ jSgX Dy hx9 → jSm fp_X7_learn_r78 h hx9 → Q none hx9) : jC m_X7_learn 2 0 0 [.ref 78, .int a1] h Q := by
  refine jC.of rfl k_X7_learn rfl ?_
  have Sm := jSm_rf fp_X7_learn_r78 h
  show jX m_X7_learn 2 0 0 0 [(0, .ref 78), (1, .int a1)] [] _ 0 0 _
  refine x_aloadn (x := 78) rfl rfl ?_
  refine z_getR (N := 16) (b := 32) 7 0 rfl f_7_55 rfl J rfl 9984 ⟨rfl, rfl⟩ rfl ?_
  refine z_getR (N := 20) (b := 33) 1 0 rfl f_7_63 rfl J rfl 4096 ⟨rfl, rfl⟩ rfl ?_
  refine x_iloadn (x := a1) rfl rfl ?_
  refine x_iconst (v := 2) rfl ki_2 ?_
  refine x_inv (N := m_X8_at) (As := [.int a1, .int 2]) (b := 33) (st := []) (dx9 := 1) (mc := 0) (ms := 0) (host := "") 8 rfl t_X8_at ⟨Or.inl q_7_69, i_X8_at.1, i_X8_at.2⟩ ⟨by decide, rfl⟩ (congrArg Prod.fst (J.1.1 33 (8, 4) rfl)) rfl (by decide) rfl rfl ⟨by decide, by decide⟩ (sf_X8_at_r33_c2  hD J  (fun v2 h ev2 J S1 => ?_))
  have Sm := jSm_tr rfl Sm S1
  show jX m_X7_learn 2 0 0 12 [(0, .ref 78), (1, .int a1)] [.int v2] _ 0 0 _
  refine x_istoren (lsx9 := [(2, .int v2), (0, .ref 78), (1, .int a1)]) rfl rfl rfl ?_
  refine x_iloadn (x := a1) rfl rfl ?_
  refine x_iflt (tgt := 31) rfl rfl (ti_lt rfl jk_0 (br_f (by omega) ?_))
  refine x_iloadn (x := a1) rfl rfl ?_
  refine x_sipush (v := 200) rfl ks_200 ?_
  refine x_icge (tgt := 31) rfl rfl (ti_ge rfl jk_200 ⟨fun c3 => ?_, fun c3 => ?_⟩)
  ·
    exact jX.sub jsb_n (ct_X7_learn_r78_31 hD hQ  h J Sm)
  ·
    refine x_iloadn (x := v2) rfl rfl ?_
    refine x_inst (N := m_X11_isBook) (As := [.int v2]) (st := []) (dx9 := 1) (mc := 0) (ms := 0) (host := "ParishChest") rfl t_X11_isBook ⟨Or.inr q_7_75, s_X11_isBook⟩ rfl (by decide) rfl rfl ⟨by decide, by decide⟩ (zc_X11_isBook rfl (fun v4 ev4 => ?_))
    show jX m_X7_learn 2 0 0 28 [(2, .int v2), (0, .ref 78), (1, .int a1)] [.int v4] _ 0 0 _
    refine x_ifne (tgt := 32) rfl rfl (ti_ne rfl jk_0 ⟨fun c5 => ?_, fun c5 => ?_⟩)
    ·
      refine x_iconst (v := 0) rfl ki_0 ?_
      refine x_istoren (lsx9 := [(3, .int 0), (2, .int v2), (0, .ref 78), (1, .int a1)]) rfl rfl rfl ?_
      exact jX.sub (jsb_c rfl (jsb_c rfl (jsb_c rfl (jsb_c rfl jsb_n)))) (ct_X7_learn_r78_34 hD hQ  4 a1 v2 0 h (by have := jk_0; omega) (jr_of rfl (by omega)) (jr_of rfl (by omega)) (jr_of jk_0 (by omega)) J Sm)
    ·
      exact jX.sub jsb_n (ct_X7_learn_r78_31 hD hQ  h J Sm)
def fp_X8_put_r33_c4 : jFp := [(34, 0, 1200)]
set_option maxRecDepth 100000 in
set_option maxHeartbeats 4000000 in
theorem ct_X8_put_r33_c4_38 {Dy : jH → Prop} {h0 : jH} {Q : Option Value → jH → Prop} (hD : jDk Dy) (hQ : ∀ hx9, jJ jSgX Dy hx9 → jSm fp_X8_put_r33_c4 h0 hx9 → Q none hx9) : ∀ (h : jH), jJ jSgX Dy h → jSm fp_X8_put_r33_c4 h0 h → jX m_X8_put 1 0 0 38 [] [] h 0 0 Q := by
  intro  h    J Sm
  refine x_vret rfl rfl ?_
  exact hQ _ J Sm
set_option maxRecDepth 100000 in
set_option maxHeartbeats 4000000 in
theorem sf_X8_put_r33_c4 {Dy : jH → Prop} {h : jH} {Q : Option Value → jH → Prop} {a1 : Int32} {a3 : Int32} (y1 : 0 ≤ a1.toInt ∧ a1.toInt ≤ 199) (hD : jDk Dy) (J : jJ jSgX Dy h) (hQ : ∀ hx9, jJ jSgX Dy hx9 → jSm fp_X8_put_r33_c4 h hx9 → Q none hx9) : jC m_X8_put 1 0 0 [.ref 33, .int a1, .int 4, .int a3] h Q := by
  refine jC.of rfl k_X8_put rfl ?_
  have Sm := jSm_rf fp_X8_put_r33_c4 h
  have ea3 := jfull a3
  show jX m_X8_put 1 0 0 0 [(0, .ref 33), (1, .int a1), (2, .int 4), (3, .int a3)] [] _ 0 0 _
  refine x_iloadn (x := a1) rfl rfl ?_
  refine x_iflt (tgt := 38) rfl rfl (ti_lt rfl jk_0 (br_f (by omega) ?_))
  refine x_iloadn (x := a1) rfl rfl ?_
  refine x_aloadn (x := 33) rfl rfl ?_
  refine z_getI (N := 4) 8 3 rfl f_8_7 rfl J rfl sg_33_3_4_1_0_1 (fun v1 qv1 ev1 => ?_)
  refine x_icge (tgt := 38) rfl rfl (ti_ge rfl rfl ⟨fun c2 => ?_, fun c2 => ?_⟩)
  ·
    exact jX.sub jsb_n (ct_X8_put_r33_c4_38 hD hQ  h J Sm)
  ·
    refine x_iloadn (x := 4) rfl rfl ?_
    refine x_iflt (tgt := 38) rfl rfl (ti_lt jk_4 jk_0 (br_f (by omega) ?_))
    refine x_iloadn (x := 4) rfl rfl ?_
    refine x_aloadn (x := 33) rfl rfl ?_
    refine z_getC (N := 4) (v := 6) 8 0 rfl f_8_19 rfl J rfl sg_33_0_1_1_0_1 jk_6 ?_
    refine x_icge (tgt := 38) rfl rfl (ti_ge jk_4 jk_6 (br_f (by omega) ?_))
    refine x_aloadn (x := 33) rfl rfl ?_
    refine z_getR (N := 4) (b := 34) 8 2 rfl f_8_25 rfl J rfl 4226 ⟨rfl, rfl⟩ rfl ?_
    refine x_iloadn (x := a1) rfl rfl ?_
    refine x_aloadn (x := 33) rfl rfl ?_
    refine z_getC (N := 4) (v := 6) 8 0 rfl f_8_19 rfl J rfl sg_33_0_1_1_0_1 jk_6 ?_
    refine z_imul rfl rfl jk_6 (by omega) (fun v3 ev3 => ?_)
    refine x_iloadn (x := 4) rfl rfl ?_
    refine z_iadd rfl rfl jk_4 (by omega) (fun v4 ev4 => ?_)
    refine x_iloadn (x := a3) rfl rfl ?_
    refine z_iast (N := 1200) (l := 0) (u := 1200) (w := a3.toInt) rfl hD J Sm rfl rfl rfl (by omega) rfl (wr_34 (fun q1 q2 q3 q4 => by omega) (fun q1 q2 q3 q4 => by omega) (fun q1 q2 q3 q4 => by omega) (fun q1 q2 q3 q4 => by omega) (fun q1 q2 q3 q4 => by omega)) rfl (fun h w5 J Sm => ?_)
    exact jX.sub jsb_n (ct_X8_put_r33_c4_38 hD hQ  h J Sm)
def fp_X11_alter_r31 : jFp := [(31, 12, 13), (32, 19, 20), (34, 0, 1200), (79, 0, 600), (80, 0, 600), (81, 0, 600)]
set_option maxRecDepth 100000 in
set_option maxHeartbeats 4000000 in
theorem sf_X11_alter_r31 {Dy : jH → Prop} {h : jH} {Q : Option Value → jH → Prop} {a1 : Int32} {a2 : Int32} (hD : jDk Dy) (J : jJ jSgX Dy h) (hQ : ∀ (v : Int32) hx9, jJ jSgX Dy hx9 → jSm fp_X11_alter_r31 h hx9 → Q (some (.int v)) hx9) : jC m_X11_alter 3 0 0 [.ref 31, .int a1, .int a2] h Q := by
  refine jC.of rfl k_X11_alter rfl ?_
  have Sm := jSm_rf fp_X11_alter_r31 h
  have ea1 := jfull a1
  have ea2 := jfull a2
  show jX m_X11_alter 3 0 0 0 [(0, .ref 31), (1, .int a1), (2, .int a2)] [] _ 0 0 _
  refine x_iloadn (x := a2) rfl rfl ?_
  refine x_iconst (v := 1) rfl ki_1 ?_
  refine x_sipush (v := 255) rfl ks_255 ?_
  refine x_inst (N := m_X11_isWithin) (As := [.int a2, .int 1, .int 255]) (st := []) (dx9 := 1) (mc := 0) (ms := 0) (host := "") rfl t_X11_isWithin ⟨Or.inl q_11_202, s_X11_isWithin⟩ rfl (by decide) rfl rfl ⟨by decide, by decide⟩ (zc_X11_isWithin rfl jk_1 jk_255 (fun v1 ev1 => ?_))
  show jX m_X11_alter 3 0 0 8 [(0, .ref 31), (1, .int a1), (2, .int a2)] [.int v1] _ 0 0 _
  refine x_ifne (tgt := 17) rfl rfl (ti_ne rfl jk_0 ⟨fun c2 => ?_, fun c2 => ?_⟩)
  ·
    refine x_aloadn (x := 31) rfl rfl ?_
    refine x_iloadn (x := a1) rfl rfl ?_
    refine x_inv (N := m_X11_isLine) (As := [.int a1]) (b := 31) (st := []) (dx9 := 2) (mc := 0) (ms := 0) (host := "") 11 rfl t_X11_isLine ⟨Or.inl q_11_168, i_X11_isLine.1, i_X11_isLine.2⟩ ⟨by decide, rfl⟩ (congrArg Prod.fst (J.1.1 31 (11, 13) rfl)) rfl (by decide) rfl rfl ⟨by decide, by decide⟩ (jC.of rfl k_X11_isLine rfl ?_)
    show jX m_X11_isLine 2 0 0 0 [(0, .ref 31), (1, .int a1)] [] _ 0 0 _
    refine x_iloadn (x := a1) rfl rfl ?_
    refine x_iflt (tgt := 22) rfl rfl (ti_lt rfl jk_0 ⟨fun c3 => ?_, fun c3 => ?_⟩)
    ·
      refine x_iconst (v := 0) rfl ki_0 ?_
      refine x_zret rfl rfl (by decide) ?_
      show jX m_X11_alter 3 0 0 22 [(0, .ref 31), (1, .int a1), (2, .int a2)] [.int 0] _ 0 0 _
      refine x_ifne (tgt := 32) rfl rfl (ti_ne jk_0 jk_0 (bn_f (by omega) ?_))
      refine x_aloadn (x := 31) rfl rfl ?_
      refine x_bipush (v := (-2)) rfl kb_m2 ?_
      refine x_inv (N := m_X11_refuse) (As := [.int (-2)]) (b := 31) (st := []) (dx9 := 2) (mc := 0) (ms := 0) (host := "") 11 rfl t_X11_refuse ⟨Or.inl q_11_206, i_X11_refuse.1, i_X11_refuse.2⟩ ⟨by decide, rfl⟩ (congrArg Prod.fst (J.1.1 31 (11, 13) rfl)) rfl (by decide) rfl rfl ⟨by decide, by decide⟩ (jC.of rfl k_X11_refuse rfl ?_)
      show jX m_X11_refuse 2 0 0 0 [(0, .ref 31), (1, .int (-2))] [] _ 0 0 _
      refine x_aloadn (x := 31) rfl rfl ?_
      refine x_iloadn (x := (-2)) rfl rfl ?_
      refine z_putI (N := 13) (w := (-2)) 11 12 rfl f_11_94 rfl (jfin_no TX11 RX11 13 rfl rfl) hD J Sm rfl rfl jk_m2 (pw_31_12 (by omega)) rfl (fun h w4 J Sm => ?_)
      refine x_iloadn (x := (-2)) rfl rfl ?_
      refine x_iret rfl rfl ?_
      show jX m_X11_alter 3 0 0 31 [(0, .ref 31), (1, .int a1), (2, .int a2)] [.int (-2)] _ 0 0 _
      refine x_iret rfl rfl ?_
      exact hQ _ _ J Sm
    ·
      refine x_iloadn (x := a1) rfl rfl ?_
      refine x_aloadn (x := 31) rfl rfl ?_
      refine z_getR (N := 13) (b := 32) 11 0 rfl f_11_10 rfl J rfl 3968 ⟨rfl, rfl⟩ rfl ?_
      refine z_getR (N := 20) (b := 33) 1 0 rfl f_11_126 rfl J rfl 4096 ⟨rfl, rfl⟩ rfl ?_
      refine z_getI (N := 4) 8 3 rfl f_11_142 rfl J rfl sg_33_3_4_1_0_1 (fun v5 qv5 ev5 => ?_)
      refine x_icge (tgt := 22) rfl rfl (ti_ge rfl rfl ⟨fun c6 => ?_, fun c6 => ?_⟩)
      ·
        refine x_iconst (v := 0) rfl ki_0 ?_
        refine x_zret rfl rfl (by decide) ?_
        show jX m_X11_alter 3 0 0 22 [(0, .ref 31), (1, .int a1), (2, .int a2)] [.int 0] _ 0 0 _
        refine x_ifne (tgt := 32) rfl rfl (ti_ne jk_0 jk_0 (bn_f (by omega) ?_))
        refine x_aloadn (x := 31) rfl rfl ?_
        refine x_bipush (v := (-2)) rfl kb_m2 ?_
        refine x_inv (N := m_X11_refuse) (As := [.int (-2)]) (b := 31) (st := []) (dx9 := 2) (mc := 0) (ms := 0) (host := "") 11 rfl t_X11_refuse ⟨Or.inl q_11_206, i_X11_refuse.1, i_X11_refuse.2⟩ ⟨by decide, rfl⟩ (congrArg Prod.fst (J.1.1 31 (11, 13) rfl)) rfl (by decide) rfl rfl ⟨by decide, by decide⟩ (jC.of rfl k_X11_refuse rfl ?_)
        show jX m_X11_refuse 2 0 0 0 [(0, .ref 31), (1, .int (-2))] [] _ 0 0 _
        refine x_aloadn (x := 31) rfl rfl ?_
        refine x_iloadn (x := (-2)) rfl rfl ?_
        refine z_putI (N := 13) (w := (-2)) 11 12 rfl f_11_94 rfl (jfin_no TX11 RX11 13 rfl rfl) hD J Sm rfl rfl jk_m2 (pw_31_12 (by omega)) rfl (fun h w7 J Sm => ?_)
        refine x_iloadn (x := (-2)) rfl rfl ?_
        refine x_iret rfl rfl ?_
        show jX m_X11_alter 3 0 0 31 [(0, .ref 31), (1, .int a1), (2, .int a2)] [.int (-2)] _ 0 0 _
        refine x_iret rfl rfl ?_
        exact hQ _ _ J Sm
      ·
        refine x_iconst (v := 1) rfl ki_1 ?_
        refine x_goto (tgt := 23) rfl rfl ?_
        refine x_zret rfl rfl (by decide) ?_
        show jX m_X11_alter 3 0 0 22 [(0, .ref 31), (1, .int a1), (2, .int a2)] [.int 1] _ 0 0 _
        refine x_ifne (tgt := 32) rfl rfl (ti_ne jk_1 jk_0 (bn_t (by omega) ?_))
        refine x_aloadn (x := 31) rfl rfl ?_
        refine z_getR (N := 13) (b := 32) 11 0 rfl f_11_10 rfl J rfl 3968 ⟨rfl, rfl⟩ rfl ?_
        refine z_getR (N := 20) (b := 33) 1 0 rfl f_11_126 rfl J rfl 4096 ⟨rfl, rfl⟩ rfl ?_
        refine x_iloadn (x := a1) rfl rfl ?_
        refine x_iconst (v := 4) rfl ki_4 ?_
        refine x_inv (N := m_X8_at) (As := [.int a1, .int 4]) (b := 33) (st := []) (dx9 := 1) (mc := 0) (ms := 0) (host := "") 8 rfl t_X8_at ⟨Or.inl q_11_171, i_X8_at.1, i_X8_at.2⟩ ⟨by decide, rfl⟩ (congrArg Prod.fst (J.1.1 33 (8, 4) rfl)) rfl (by decide) rfl rfl ⟨by decide, by decide⟩ (sf_X8_at_r33_c4  hD J  (fun v9 h J S8 => ?_))
        have ev9 := jfull v9
        have Sm := jSm_tr rfl Sm S8
        show jX m_X11_alter 3 0 0 44 [(0, .ref 31), (1, .int a1), (2, .int a2)] [.int v9] _ 0 0 _
        refine x_iloadn (x := a2) rfl rfl ?_
        refine z_ixor0 rfl (fun v10 => ?_)
        have ev10 := jfull v10
        refine x_istoren (lsx9 := [(3, .int v10), (0, .ref 31), (1, .int a1), (2, .int a2)]) rfl rfl rfl ?_
        refine x_aloadn (x := 31) rfl rfl ?_
        refine z_getR (N := 13) (b := 32) 11 0 rfl f_11_10 rfl J rfl 3968 ⟨rfl, rfl⟩ rfl ?_
        refine z_getR (N := 20) (b := 33) 1 0 rfl f_11_126 rfl J rfl 4096 ⟨rfl, rfl⟩ rfl ?_
        refine x_iloadn (x := a1) rfl rfl ?_
        refine x_iconst (v := 4) rfl ki_4 ?_
        refine x_iloadn (x := v10) rfl rfl ?_
        refine x_inv (N := m_X8_put) (As := [.int a1, .int 4, .int v10]) (b := 33) (st := []) (dx9 := 1) (mc := 0) (ms := 0) (host := "") 8 rfl t_X8_put ⟨Or.inl q_11_518, i_X8_put.1, i_X8_put.2⟩ ⟨by decide, rfl⟩ (congrArg Prod.fst (J.1.1 33 (8, 4) rfl)) rfl (by decide) rfl rfl ⟨by decide, by decide⟩ (sf_X8_put_r33_c4 (jr_of rfl (by omega)) hD J  (fun h J S11 => ?_))
        have Sm := jSm_tr rfl Sm S11
        show jX m_X11_alter 3 0 0 60 [(3, .int v10), (0, .ref 31), (1, .int a1), (2, .int a2)] [] _ 0 0 _
        refine x_aloadn (x := 31) rfl rfl ?_
        refine z_getR (N := 13) (b := 78) 11 4 rfl f_11_41 rfl J rfl 3972 ⟨rfl, rfl⟩ rfl ?_
        refine x_iloadn (x := a1) rfl rfl ?_
        refine x_inv (N := m_X7_learn) (As := [.int a1]) (b := 78) (st := []) (dx9 := 2) (mc := 0) (ms := 0) (host := "") 7 rfl t_X7_learn ⟨Or.inl q_11_520, i_X7_learn.1, i_X7_learn.2⟩ ⟨by decide, rfl⟩ (congrArg Prod.fst (J.1.1 78 (7, 16) rfl)) rfl (by decide) rfl rfl ⟨by decide, by decide⟩ (sf_X7_learn_r78 (jr_of rfl (by omega)) hD J  (fun h J S12 => ?_))
        have Sm := jSm_tr rfl Sm S12
        show jX m_X11_alter 3 0 0 68 [(3, .int v10), (0, .ref 31), (1, .int a1), (2, .int a2)] [] _ 0 0 _
        refine x_aloadn (x := 31) rfl rfl ?_
        refine x_iloadn (x := v10) rfl rfl ?_
        refine x_inv (N := m_X11_accept) (As := [.int v10]) (b := 31) (st := []) (dx9 := 2) (mc := 0) (ms := 0) (host := "") 11 rfl t_X11_accept ⟨Or.inl q_11_165, i_X11_accept.1, i_X11_accept.2⟩ ⟨by decide, rfl⟩ (congrArg Prod.fst (J.1.1 31 (11, 13) rfl)) rfl (by decide) rfl rfl ⟨by decide, by decide⟩ (jC.of rfl k_X11_accept rfl ?_)
        show jX m_X11_accept 2 0 0 0 [(0, .ref 31), (1, .int v10)] [] _ 0 0 _
        refine x_aloadn (x := 31) rfl rfl ?_
        refine x_iconst (v := 0) rfl ki_0 ?_
        refine z_putI (N := 13) (w := 0) 11 12 rfl f_11_94 rfl (jfin_no TX11 RX11 13 rfl rfl) hD J Sm rfl rfl jk_0 (pw_31_12 (by omega)) rfl (fun h w13 J Sm => ?_)
        refine x_aloadn (x := 31) rfl rfl ?_
        refine z_getR (N := 13) (b := 32) 11 0 rfl f_11_10 rfl J rfl 3968 ⟨rfl, rfl⟩ rfl ?_
        refine x_dup rfl rfl ?_
        refine z_getI0 (N := 20) 1 19 rfl f_11_528 rfl J rfl (fun v14 qv14 => ?_)
        have ev14 := jfull v14
        refine x_iconst (v := 1) rfl ki_1 ?_
        refine z_iadd0 rfl (fun v15 => ?_)
        have ev15 := jfull v15
        refine z_putI (N := 20) (w := v15.toInt) 1 19 rfl f_11_528 rfl (jfin_no TX1 RX1 20 rfl rfl) hD J Sm rfl rfl rfl (pw_32_19 trivial) rfl (fun h w16 J Sm => ?_)
        refine x_iloadn (x := v10) rfl rfl ?_
        refine x_iret rfl rfl ?_
        show jX m_X11_alter 3 0 0 73 [(3, .int v10), (0, .ref 31), (1, .int a1), (2, .int a2)] [.int v10] _ 0 0 _
        refine x_iret rfl rfl ?_
        exact hQ _ _ J Sm
  ·
    refine x_aloadn (x := 31) rfl rfl ?_
    refine x_iconst (v := (-1)) rfl ki_m1 ?_
    refine x_inv (N := m_X11_refuse) (As := [.int (-1)]) (b := 31) (st := []) (dx9 := 2) (mc := 0) (ms := 0) (host := "") 11 rfl t_X11_refuse ⟨Or.inl q_11_206, i_X11_refuse.1, i_X11_refuse.2⟩ ⟨by decide, rfl⟩ (congrArg Prod.fst (J.1.1 31 (11, 13) rfl)) rfl (by decide) rfl rfl ⟨by decide, by decide⟩ (jC.of rfl k_X11_refuse rfl ?_)
    show jX m_X11_refuse 2 0 0 0 [(0, .ref 31), (1, .int (-1))] [] _ 0 0 _
    refine x_aloadn (x := 31) rfl rfl ?_
    refine x_iloadn (x := (-1)) rfl rfl ?_
    refine z_putI (N := 13) (w := (-1)) 11 12 rfl f_11_94 rfl (jfin_no TX11 RX11 13 rfl rfl) hD J Sm rfl rfl jk_m1 (pw_31_12 (by omega)) rfl (fun h w17 J Sm => ?_)
    refine x_iloadn (x := (-1)) rfl rfl ?_
    refine x_iret rfl rfl ?_
    show jX m_X11_alter 3 0 0 16 [(0, .ref 31), (1, .int a1), (2, .int a2)] [.int (-1)] _ 0 0 _
    refine x_iret rfl rfl ?_
    exact hQ _ _ J Sm
def fp_X8_put_r37_c0 : jFp := [(38, 0, 120)]
set_option maxRecDepth 100000 in
set_option maxHeartbeats 4000000 in
theorem ct_X8_put_r37_c0_38 {Dy : jH → Prop} {h0 : jH} {Q : Option Value → jH → Prop} (hD : jDk Dy) (hQ : ∀ hx9, jJ jSgX Dy hx9 → jSm fp_X8_put_r37_c0 h0 hx9 → Q none hx9) : ∀ (h : jH), jJ jSgX Dy h → jSm fp_X8_put_r37_c0 h0 h → jX m_X8_put 1 0 0 38 [] [] h 0 0 Q := by
  intro  h    J Sm
  refine x_vret rfl rfl ?_
  exact hQ _ J Sm
set_option maxRecDepth 100000 in
set_option maxHeartbeats 4000000 in
theorem sf_X8_put_r37_c0 {Dy : jH → Prop} {h : jH} {Q : Option Value → jH → Prop} {a1 : Int32} {a3 : Int32} (y1 : 0 ≤ a1.toInt ∧ a1.toInt ≤ 59) (y3 : 0 ≤ a3.toInt ∧ a3.toInt ≤ 599) (hD : jDk Dy) (J : jJ jSgX Dy h) (hQ : ∀ hx9, jJ jSgX Dy hx9 → jSm fp_X8_put_r37_c0 h hx9 → Q none hx9) : jC m_X8_put 1 0 0 [.ref 37, .int a1, .int 0, .int a3] h Q := by
  refine jC.of rfl k_X8_put rfl ?_
  have Sm := jSm_rf fp_X8_put_r37_c0 h
  show jX m_X8_put 1 0 0 0 [(0, .ref 37), (1, .int a1), (2, .int 0), (3, .int a3)] [] _ 0 0 _
  refine x_iloadn (x := a1) rfl rfl ?_
  refine x_iflt (tgt := 38) rfl rfl (ti_lt rfl jk_0 (br_f (by omega) ?_))
  refine x_iloadn (x := a1) rfl rfl ?_
  refine x_aloadn (x := 37) rfl rfl ?_
  refine z_getI (N := 4) 8 3 rfl f_8_7 rfl J rfl sg_37_3_4_1_0_1 (fun v1 qv1 ev1 => ?_)
  refine x_icge (tgt := 38) rfl rfl (ti_ge rfl rfl ⟨fun c2 => ?_, fun c2 => ?_⟩)
  ·
    exact jX.sub jsb_n (ct_X8_put_r37_c0_38 hD hQ  h J Sm)
  ·
    refine x_iloadn (x := 0) rfl rfl ?_
    refine x_iflt (tgt := 38) rfl rfl (ti_lt jk_0 jk_0 (br_f (by omega) ?_))
    refine x_iloadn (x := 0) rfl rfl ?_
    refine x_aloadn (x := 37) rfl rfl ?_
    refine z_getC (N := 4) (v := 2) 8 0 rfl f_8_19 rfl J rfl sg_37_0_1_1_0_1 jk_2 ?_
    refine x_icge (tgt := 38) rfl rfl (ti_ge jk_0 jk_2 (br_f (by omega) ?_))
    refine x_aloadn (x := 37) rfl rfl ?_
    refine z_getR (N := 4) (b := 38) 8 2 rfl f_8_25 rfl J rfl 4738 ⟨rfl, rfl⟩ rfl ?_
    refine x_iloadn (x := a1) rfl rfl ?_
    refine x_aloadn (x := 37) rfl rfl ?_
    refine z_getC (N := 4) (v := 2) 8 0 rfl f_8_19 rfl J rfl sg_37_0_1_1_0_1 jk_2 ?_
    refine z_imul rfl rfl jk_2 (by omega) (fun v3 ev3 => ?_)
    refine x_iloadn (x := 0) rfl rfl ?_
    refine z_iadd rfl rfl jk_0 (by omega) (fun v4 ev4 => ?_)
    refine x_iloadn (x := a3) rfl rfl ?_
    refine z_iast (N := 120) (l := 0) (u := 120) (w := a3.toInt) rfl hD J Sm rfl rfl rfl (by omega) rfl (wr_38 (fun q1 q2 q3 q4 => by omega) (fun q1 q2 q3 q4 => by omega)) rfl (fun h w5 J Sm => ?_)
    exact jX.sub jsb_n (ct_X8_put_r37_c0_38 hD hQ  h J Sm)
def fp_X8_put_r37_c1 : jFp := [(38, 0, 120)]
set_option maxRecDepth 100000 in
set_option maxHeartbeats 4000000 in
theorem ct_X8_put_r37_c1_38 {Dy : jH → Prop} {h0 : jH} {Q : Option Value → jH → Prop} (hD : jDk Dy) (hQ : ∀ hx9, jJ jSgX Dy hx9 → jSm fp_X8_put_r37_c1 h0 hx9 → Q none hx9) : ∀ (h : jH), jJ jSgX Dy h → jSm fp_X8_put_r37_c1 h0 h → jX m_X8_put 1 0 0 38 [] [] h 0 0 Q := by
  intro  h    J Sm
  refine x_vret rfl rfl ?_
  exact hQ _ J Sm
set_option maxRecDepth 100000 in
set_option maxHeartbeats 4000000 in
theorem sf_X8_put_r37_c1 {Dy : jH → Prop} {h : jH} {Q : Option Value → jH → Prop} {a1 : Int32} {a3 : Int32} (y1 : 0 ≤ a1.toInt ∧ a1.toInt ≤ 59) (y3 : 0 ≤ a3.toInt ∧ a3.toInt ≤ 599) (hD : jDk Dy) (J : jJ jSgX Dy h) (hQ : ∀ hx9, jJ jSgX Dy hx9 → jSm fp_X8_put_r37_c1 h hx9 → Q none hx9) : jC m_X8_put 1 0 0 [.ref 37, .int a1, .int 1, .int a3] h Q := by
  refine jC.of rfl k_X8_put rfl ?_
  have Sm := jSm_rf fp_X8_put_r37_c1 h
  show jX m_X8_put 1 0 0 0 [(0, .ref 37), (1, .int a1), (2, .int 1), (3, .int a3)] [] _ 0 0 _
  refine x_iloadn (x := a1) rfl rfl ?_
  refine x_iflt (tgt := 38) rfl rfl (ti_lt rfl jk_0 (br_f (by omega) ?_))
  refine x_iloadn (x := a1) rfl rfl ?_
  refine x_aloadn (x := 37) rfl rfl ?_
  refine z_getI (N := 4) 8 3 rfl f_8_7 rfl J rfl sg_37_3_4_1_0_1 (fun v1 qv1 ev1 => ?_)
  refine x_icge (tgt := 38) rfl rfl (ti_ge rfl rfl ⟨fun c2 => ?_, fun c2 => ?_⟩)
  ·
    exact jX.sub jsb_n (ct_X8_put_r37_c1_38 hD hQ  h J Sm)
  ·
    refine x_iloadn (x := 1) rfl rfl ?_
    refine x_iflt (tgt := 38) rfl rfl (ti_lt jk_1 jk_0 (br_f (by omega) ?_))
    refine x_iloadn (x := 1) rfl rfl ?_
    refine x_aloadn (x := 37) rfl rfl ?_
    refine z_getC (N := 4) (v := 2) 8 0 rfl f_8_19 rfl J rfl sg_37_0_1_1_0_1 jk_2 ?_
    refine x_icge (tgt := 38) rfl rfl (ti_ge jk_1 jk_2 (br_f (by omega) ?_))
    refine x_aloadn (x := 37) rfl rfl ?_
    refine z_getR (N := 4) (b := 38) 8 2 rfl f_8_25 rfl J rfl 4738 ⟨rfl, rfl⟩ rfl ?_
    refine x_iloadn (x := a1) rfl rfl ?_
    refine x_aloadn (x := 37) rfl rfl ?_
    refine z_getC (N := 4) (v := 2) 8 0 rfl f_8_19 rfl J rfl sg_37_0_1_1_0_1 jk_2 ?_
    refine z_imul rfl rfl jk_2 (by omega) (fun v3 ev3 => ?_)
    refine x_iloadn (x := 1) rfl rfl ?_
    refine z_iadd rfl rfl jk_1 (by omega) (fun v4 ev4 => ?_)
    refine x_iloadn (x := a3) rfl rfl ?_
    refine z_iast (N := 120) (l := 0) (u := 120) (w := a3.toInt) rfl hD J Sm rfl rfl rfl (by omega) rfl (wr_38 (fun q1 q2 q3 q4 => by omega) (fun q1 q2 q3 q4 => by omega)) rfl (fun h w5 J Sm => ?_)
    exact jX.sub jsb_n (ct_X8_put_r37_c1_38 hD hQ  h J Sm)
def fp_X8_put_r37_c2 : jFp := []
set_option maxRecDepth 100000 in
set_option maxHeartbeats 4000000 in
theorem ct_X8_put_r37_c2_38 {Dy : jH → Prop} {h0 : jH} {Q : Option Value → jH → Prop} (hD : jDk Dy) (hQ : ∀ hx9, jJ jSgX Dy hx9 → jSm fp_X8_put_r37_c2 h0 hx9 → Q none hx9) : ∀ (h : jH), jJ jSgX Dy h → jSm fp_X8_put_r37_c2 h0 h → jX m_X8_put 1 0 0 38 [] [] h 0 0 Q := by
  intro  h    J Sm
  refine x_vret rfl rfl ?_
  exact hQ _ J Sm
set_option maxRecDepth 100000 in
set_option maxHeartbeats 4000000 in
theorem sf_X8_put_r37_c2 {Dy : jH → Prop} {h : jH} {Q : Option Value → jH → Prop} {a1 : Int32} {a3 : Int32} (y1 : 0 ≤ a1.toInt ∧ a1.toInt ≤ 59) (y3 : 0 ≤ a3.toInt ∧ a3.toInt ≤ 0) (hD : jDk Dy) (J : jJ jSgX Dy h) (hQ : ∀ hx9, jJ jSgX Dy hx9 → jSm fp_X8_put_r37_c2 h hx9 → Q none hx9) : jC m_X8_put 1 0 0 [.ref 37, .int a1, .int 2, .int a3] h Q := by
  refine jC.of rfl k_X8_put rfl ?_
  have Sm := jSm_rf fp_X8_put_r37_c2 h
  show jX m_X8_put 1 0 0 0 [(0, .ref 37), (1, .int a1), (2, .int 2), (3, .int a3)] [] _ 0 0 _
  refine x_iloadn (x := a1) rfl rfl ?_
  refine x_iflt (tgt := 38) rfl rfl (ti_lt rfl jk_0 (br_f (by omega) ?_))
  refine x_iloadn (x := a1) rfl rfl ?_
  refine x_aloadn (x := 37) rfl rfl ?_
  refine z_getI (N := 4) 8 3 rfl f_8_7 rfl J rfl sg_37_3_4_1_0_1 (fun v1 qv1 ev1 => ?_)
  refine x_icge (tgt := 38) rfl rfl (ti_ge rfl rfl ⟨fun c2 => ?_, fun c2 => ?_⟩)
  ·
    exact jX.sub jsb_n (ct_X8_put_r37_c2_38 hD hQ  h J Sm)
  ·
    refine x_iloadn (x := 2) rfl rfl ?_
    refine x_iflt (tgt := 38) rfl rfl (ti_lt jk_2 jk_0 (br_f (by omega) ?_))
    refine x_iloadn (x := 2) rfl rfl ?_
    refine x_aloadn (x := 37) rfl rfl ?_
    refine z_getC (N := 4) (v := 2) 8 0 rfl f_8_19 rfl J rfl sg_37_0_1_1_0_1 jk_2 ?_
    refine x_icge (tgt := 38) rfl rfl (ti_ge jk_2 jk_2 (br_t (by omega) ?_))
    exact jX.sub jsb_n (ct_X8_put_r37_c2_38 hD hQ  h J Sm)
def fp_X8_put_r37_c3 : jFp := []
set_option maxRecDepth 100000 in
set_option maxHeartbeats 4000000 in
theorem ct_X8_put_r37_c3_38 {Dy : jH → Prop} {h0 : jH} {Q : Option Value → jH → Prop} (hD : jDk Dy) (hQ : ∀ hx9, jJ jSgX Dy hx9 → jSm fp_X8_put_r37_c3 h0 hx9 → Q none hx9) : ∀ (h : jH), jJ jSgX Dy h → jSm fp_X8_put_r37_c3 h0 h → jX m_X8_put 1 0 0 38 [] [] h 0 0 Q := by
  intro  h    J Sm
  refine x_vret rfl rfl ?_
  exact hQ _ J Sm
set_option maxRecDepth 100000 in
set_option maxHeartbeats 4000000 in
theorem sf_X8_put_r37_c3 {Dy : jH → Prop} {h : jH} {Q : Option Value → jH → Prop} {a1 : Int32} {a3 : Int32} (y1 : 0 ≤ a1.toInt ∧ a1.toInt ≤ 59) (y3 : 0 ≤ a3.toInt ∧ a3.toInt ≤ 0) (hD : jDk Dy) (J : jJ jSgX Dy h) (hQ : ∀ hx9, jJ jSgX Dy hx9 → jSm fp_X8_put_r37_c3 h hx9 → Q none hx9) : jC m_X8_put 1 0 0 [.ref 37, .int a1, .int 3, .int a3] h Q := by
  refine jC.of rfl k_X8_put rfl ?_
  have Sm := jSm_rf fp_X8_put_r37_c3 h
  show jX m_X8_put 1 0 0 0 [(0, .ref 37), (1, .int a1), (2, .int 3), (3, .int a3)] [] _ 0 0 _
  refine x_iloadn (x := a1) rfl rfl ?_
  refine x_iflt (tgt := 38) rfl rfl (ti_lt rfl jk_0 (br_f (by omega) ?_))
  refine x_iloadn (x := a1) rfl rfl ?_
  refine x_aloadn (x := 37) rfl rfl ?_
  refine z_getI (N := 4) 8 3 rfl f_8_7 rfl J rfl sg_37_3_4_1_0_1 (fun v1 qv1 ev1 => ?_)
  refine x_icge (tgt := 38) rfl rfl (ti_ge rfl rfl ⟨fun c2 => ?_, fun c2 => ?_⟩)
  ·
    exact jX.sub jsb_n (ct_X8_put_r37_c3_38 hD hQ  h J Sm)
  ·
    refine x_iloadn (x := 3) rfl rfl ?_
    refine x_iflt (tgt := 38) rfl rfl (ti_lt jk_3 jk_0 (br_f (by omega) ?_))
    refine x_iloadn (x := 3) rfl rfl ?_
    refine x_aloadn (x := 37) rfl rfl ?_
    refine z_getC (N := 4) (v := 2) 8 0 rfl f_8_19 rfl J rfl sg_37_0_1_1_0_1 jk_2 ?_
    refine x_icge (tgt := 38) rfl rfl (ti_ge jk_3 jk_2 (br_t (by omega) ?_))
    exact jX.sub jsb_n (ct_X8_put_r37_c3_38 hD hQ  h J Sm)
def fp_X8_put_r37_c4 : jFp := []
set_option maxRecDepth 100000 in
set_option maxHeartbeats 4000000 in
theorem ct_X8_put_r37_c4_38 {Dy : jH → Prop} {h0 : jH} {Q : Option Value → jH → Prop} (hD : jDk Dy) (hQ : ∀ hx9, jJ jSgX Dy hx9 → jSm fp_X8_put_r37_c4 h0 hx9 → Q none hx9) : ∀ (h : jH), jJ jSgX Dy h → jSm fp_X8_put_r37_c4 h0 h → jX m_X8_put 1 0 0 38 [] [] h 0 0 Q := by
  intro  h    J Sm
  refine x_vret rfl rfl ?_
  exact hQ _ J Sm
set_option maxRecDepth 100000 in
set_option maxHeartbeats 4000000 in
theorem sf_X8_put_r37_c4 {Dy : jH → Prop} {h : jH} {Q : Option Value → jH → Prop} {a1 : Int32} {a3 : Int32} (y1 : 0 ≤ a1.toInt ∧ a1.toInt ≤ 59) (y3 : 0 ≤ a3.toInt ∧ a3.toInt ≤ 0) (hD : jDk Dy) (J : jJ jSgX Dy h) (hQ : ∀ hx9, jJ jSgX Dy hx9 → jSm fp_X8_put_r37_c4 h hx9 → Q none hx9) : jC m_X8_put 1 0 0 [.ref 37, .int a1, .int 4, .int a3] h Q := by
  refine jC.of rfl k_X8_put rfl ?_
  have Sm := jSm_rf fp_X8_put_r37_c4 h
  show jX m_X8_put 1 0 0 0 [(0, .ref 37), (1, .int a1), (2, .int 4), (3, .int a3)] [] _ 0 0 _
  refine x_iloadn (x := a1) rfl rfl ?_
  refine x_iflt (tgt := 38) rfl rfl (ti_lt rfl jk_0 (br_f (by omega) ?_))
  refine x_iloadn (x := a1) rfl rfl ?_
  refine x_aloadn (x := 37) rfl rfl ?_
  refine z_getI (N := 4) 8 3 rfl f_8_7 rfl J rfl sg_37_3_4_1_0_1 (fun v1 qv1 ev1 => ?_)
  refine x_icge (tgt := 38) rfl rfl (ti_ge rfl rfl ⟨fun c2 => ?_, fun c2 => ?_⟩)
  ·
    exact jX.sub jsb_n (ct_X8_put_r37_c4_38 hD hQ  h J Sm)
  ·
    refine x_iloadn (x := 4) rfl rfl ?_
    refine x_iflt (tgt := 38) rfl rfl (ti_lt jk_4 jk_0 (br_f (by omega) ?_))
    refine x_iloadn (x := 4) rfl rfl ?_
    refine x_aloadn (x := 37) rfl rfl ?_
    refine z_getC (N := 4) (v := 2) 8 0 rfl f_8_19 rfl J rfl sg_37_0_1_1_0_1 jk_2 ?_
    refine x_icge (tgt := 38) rfl rfl (ti_ge jk_4 jk_2 (br_t (by omega) ?_))
    exact jX.sub jsb_n (ct_X8_put_r37_c4_38 hD hQ  h J Sm)
def fp_X8_put_r37_c5 : jFp := []
set_option maxRecDepth 100000 in
set_option maxHeartbeats 4000000 in
theorem ct_X8_put_r37_c5_38 {Dy : jH → Prop} {h0 : jH} {Q : Option Value → jH → Prop} (hD : jDk Dy) (hQ : ∀ hx9, jJ jSgX Dy hx9 → jSm fp_X8_put_r37_c5 h0 hx9 → Q none hx9) : ∀ (h : jH), jJ jSgX Dy h → jSm fp_X8_put_r37_c5 h0 h → jX m_X8_put 1 0 0 38 [] [] h 0 0 Q := by
  intro  h    J Sm
  refine x_vret rfl rfl ?_
  exact hQ _ J Sm
set_option maxRecDepth 100000 in
set_option maxHeartbeats 4000000 in
theorem sf_X8_put_r37_c5 {Dy : jH → Prop} {h : jH} {Q : Option Value → jH → Prop} {a1 : Int32} {a3 : Int32} (y1 : 0 ≤ a1.toInt ∧ a1.toInt ≤ 59) (y3 : 0 ≤ a3.toInt ∧ a3.toInt ≤ 0) (hD : jDk Dy) (J : jJ jSgX Dy h) (hQ : ∀ hx9, jJ jSgX Dy hx9 → jSm fp_X8_put_r37_c5 h hx9 → Q none hx9) : jC m_X8_put 1 0 0 [.ref 37, .int a1, .int 5, .int a3] h Q := by
  refine jC.of rfl k_X8_put rfl ?_
  have Sm := jSm_rf fp_X8_put_r37_c5 h
  show jX m_X8_put 1 0 0 0 [(0, .ref 37), (1, .int a1), (2, .int 5), (3, .int a3)] [] _ 0 0 _
  refine x_iloadn (x := a1) rfl rfl ?_
  refine x_iflt (tgt := 38) rfl rfl (ti_lt rfl jk_0 (br_f (by omega) ?_))
  refine x_iloadn (x := a1) rfl rfl ?_
  refine x_aloadn (x := 37) rfl rfl ?_
  refine z_getI (N := 4) 8 3 rfl f_8_7 rfl J rfl sg_37_3_4_1_0_1 (fun v1 qv1 ev1 => ?_)
  refine x_icge (tgt := 38) rfl rfl (ti_ge rfl rfl ⟨fun c2 => ?_, fun c2 => ?_⟩)
  ·
    exact jX.sub jsb_n (ct_X8_put_r37_c5_38 hD hQ  h J Sm)
  ·
    refine x_iloadn (x := 5) rfl rfl ?_
    refine x_iflt (tgt := 38) rfl rfl (ti_lt jk_5 jk_0 (br_f (by omega) ?_))
    refine x_iloadn (x := 5) rfl rfl ?_
    refine x_aloadn (x := 37) rfl rfl ?_
    refine z_getC (N := 4) (v := 2) 8 0 rfl f_8_19 rfl J rfl sg_37_0_1_1_0_1 jk_2 ?_
    refine x_icge (tgt := 38) rfl rfl (ti_ge jk_5 jk_2 (br_t (by omega) ?_))
    exact jX.sub jsb_n (ct_X8_put_r37_c5_38 hD hQ  h J Sm)
def fp_X8_add_r37 : jFp := [(37, 3, 4), (38, 0, 120)]
set_option maxRecDepth 100000 in
set_option maxHeartbeats 4000000 in
theorem sf_X8_add_r37 {Dy : jH → Prop} {h : jH} {Q : Option Value → jH → Prop} {a1 : Int32} {a2 : Int32} {a3 : Int32} {a4 : Int32} {a5 : Int32} {a6 : Int32} (y1 : 0 ≤ a1.toInt ∧ a1.toInt ≤ 599) (y2 : 0 ≤ a2.toInt ∧ a2.toInt ≤ 599) (y3 : 0 ≤ a3.toInt ∧ a3.toInt ≤ 0) (y4 : 0 ≤ a4.toInt ∧ a4.toInt ≤ 0) (y5 : 0 ≤ a5.toInt ∧ a5.toInt ≤ 0) (y6 : 0 ≤ a6.toInt ∧ a6.toInt ≤ 0) (hD : jDk Dy) (J : jJ jSgX Dy h) (hQ : ∀ hx9, jJ jSgX Dy hx9 → jSm fp_X8_add_r37 h hx9 → Q none hx9) : jC m_X8_add 2 0 0 [.ref 37, .int a1, .int a2, .int a3, .int a4, .int a5, .int a6] h Q := by
  refine jC.of rfl k_X8_add rfl ?_
  have Sm := jSm_rf fp_X8_add_r37 h
  show jX m_X8_add 2 0 0 0 [(0, .ref 37), (1, .int a1), (2, .int a2), (3, .int a3), (4, .int a4), (5, .int a5), (6, .int a6)] [] _ 0 0 _
  refine x_aloadn (x := 37) rfl rfl ?_
  refine z_getI (N := 4) 8 3 rfl f_8_7 rfl J rfl sg_37_3_4_1_0_1 (fun v1 qv1 ev1 => ?_)
  refine x_aloadn (x := 37) rfl rfl ?_
  refine z_getC (N := 4) (v := 60) 8 1 rfl f_8_22 rfl J rfl sg_37_1_2_1_0_1 jk_60 ?_
  refine x_iclt (tgt := 12) rfl rfl (ti_lt rfl jk_60 ⟨fun c2 => ?_, fun c2 => ?_⟩)
  ·
    refine x_aloadn (x := 37) rfl rfl ?_
    refine z_getM (N := 4) (v := v1) 8 3 rfl f_8_7 rfl J rfl qv1 ?_
    refine x_istore (lsx9 := [(7, .int v1), (0, .ref 37), (1, .int a1), (2, .int a2), (3, .int a3), (4, .int a4), (5, .int a5), (6, .int a6)]) rfl rfl rfl ?_
    refine x_aloadn (x := 37) rfl rfl ?_
    refine x_iload (x := v1) rfl rfl ?_
    refine x_iconst (v := 1) rfl ki_1 ?_
    refine z_iadd rfl rfl jk_1 (by omega) (fun v3 ev3 => ?_)
    refine z_putI (N := 4) (w := v3.toInt) 8 3 rfl f_8_7 rfl (jfin_no TX8 RX8 4 rfl rfl) hD J Sm rfl rfl rfl (pw_37_3 (by omega)) rfl (fun h w4 J Sm => ?_)
    refine x_aloadn (x := 37) rfl rfl ?_
    refine x_iload (x := v1) rfl rfl ?_
    refine x_iconst (v := 0) rfl ki_0 ?_
    refine x_iloadn (x := a1) rfl rfl ?_
    refine x_inv (N := m_X8_put) (As := [.int v1, .int 0, .int a1]) (b := 37) (st := []) (dx9 := 1) (mc := 0) (ms := 0) (host := "") 8 rfl t_X8_put ⟨Or.inl q_8_29, i_X8_put.1, i_X8_put.2⟩ ⟨by decide, rfl⟩ (congrArg Prod.fst (J.1.1 37 (8, 4) rfl)) rfl (by decide) rfl rfl ⟨by decide, by decide⟩ (sf_X8_put_r37_c0 (jr_of rfl (by omega)) (jr_of rfl (by omega)) hD J  (fun h J S5 => ?_))
    have Sm := jSm_tr rfl Sm S5
    show jX m_X8_add 2 0 0 34 [(7, .int v1), (0, .ref 37), (1, .int a1), (2, .int a2), (3, .int a3), (4, .int a4), (5, .int a5), (6, .int a6)] [] _ 0 0 _
    refine x_aloadn (x := 37) rfl rfl ?_
    refine x_iload (x := v1) rfl rfl ?_
    refine x_iconst (v := 1) rfl ki_1 ?_
    refine x_iloadn (x := a2) rfl rfl ?_
    refine x_inv (N := m_X8_put) (As := [.int v1, .int 1, .int a2]) (b := 37) (st := []) (dx9 := 1) (mc := 0) (ms := 0) (host := "") 8 rfl t_X8_put ⟨Or.inl q_8_29, i_X8_put.1, i_X8_put.2⟩ ⟨by decide, rfl⟩ (congrArg Prod.fst (J.1.1 37 (8, 4) rfl)) rfl (by decide) rfl rfl ⟨by decide, by decide⟩ (sf_X8_put_r37_c1 (jr_of rfl (by omega)) (jr_of rfl (by omega)) hD J  (fun h J S6 => ?_))
    have Sm := jSm_tr rfl Sm S6
    show jX m_X8_add 2 0 0 42 [(7, .int v1), (0, .ref 37), (1, .int a1), (2, .int a2), (3, .int a3), (4, .int a4), (5, .int a5), (6, .int a6)] [] _ 0 0 _
    refine x_aloadn (x := 37) rfl rfl ?_
    refine x_iload (x := v1) rfl rfl ?_
    refine x_iconst (v := 2) rfl ki_2 ?_
    refine x_iloadn (x := a3) rfl rfl ?_
    refine x_inv (N := m_X8_put) (As := [.int v1, .int 2, .int a3]) (b := 37) (st := []) (dx9 := 1) (mc := 0) (ms := 0) (host := "") 8 rfl t_X8_put ⟨Or.inl q_8_29, i_X8_put.1, i_X8_put.2⟩ ⟨by decide, rfl⟩ (congrArg Prod.fst (J.1.1 37 (8, 4) rfl)) rfl (by decide) rfl rfl ⟨by decide, by decide⟩ (sf_X8_put_r37_c2 (jr_of rfl (by omega)) (jr_of rfl (by omega)) hD J  (fun h J S7 => ?_))
    have Sm := jSm_tr rfl Sm S7
    show jX m_X8_add 2 0 0 50 [(7, .int v1), (0, .ref 37), (1, .int a1), (2, .int a2), (3, .int a3), (4, .int a4), (5, .int a5), (6, .int a6)] [] _ 0 0 _
    refine x_aloadn (x := 37) rfl rfl ?_
    refine x_iload (x := v1) rfl rfl ?_
    refine x_iconst (v := 3) rfl ki_3 ?_
    refine x_iload (x := a4) rfl rfl ?_
    refine x_inv (N := m_X8_put) (As := [.int v1, .int 3, .int a4]) (b := 37) (st := []) (dx9 := 1) (mc := 0) (ms := 0) (host := "") 8 rfl t_X8_put ⟨Or.inl q_8_29, i_X8_put.1, i_X8_put.2⟩ ⟨by decide, rfl⟩ (congrArg Prod.fst (J.1.1 37 (8, 4) rfl)) rfl (by decide) rfl rfl ⟨by decide, by decide⟩ (sf_X8_put_r37_c3 (jr_of rfl (by omega)) (jr_of rfl (by omega)) hD J  (fun h J S8 => ?_))
    have Sm := jSm_tr rfl Sm S8
    show jX m_X8_add 2 0 0 59 [(7, .int v1), (0, .ref 37), (1, .int a1), (2, .int a2), (3, .int a3), (4, .int a4), (5, .int a5), (6, .int a6)] [] _ 0 0 _
    refine x_aloadn (x := 37) rfl rfl ?_
    refine x_iload (x := v1) rfl rfl ?_
    refine x_iconst (v := 4) rfl ki_4 ?_
    refine x_iload (x := a5) rfl rfl ?_
    refine x_inv (N := m_X8_put) (As := [.int v1, .int 4, .int a5]) (b := 37) (st := []) (dx9 := 1) (mc := 0) (ms := 0) (host := "") 8 rfl t_X8_put ⟨Or.inl q_8_29, i_X8_put.1, i_X8_put.2⟩ ⟨by decide, rfl⟩ (congrArg Prod.fst (J.1.1 37 (8, 4) rfl)) rfl (by decide) rfl rfl ⟨by decide, by decide⟩ (sf_X8_put_r37_c4 (jr_of rfl (by omega)) (jr_of rfl (by omega)) hD J  (fun h J S9 => ?_))
    have Sm := jSm_tr rfl Sm S9
    show jX m_X8_add 2 0 0 68 [(7, .int v1), (0, .ref 37), (1, .int a1), (2, .int a2), (3, .int a3), (4, .int a4), (5, .int a5), (6, .int a6)] [] _ 0 0 _
    refine x_aloadn (x := 37) rfl rfl ?_
    refine x_iload (x := v1) rfl rfl ?_
    refine x_iconst (v := 5) rfl ki_5 ?_
    refine x_iload (x := a6) rfl rfl ?_
    refine x_inv (N := m_X8_put) (As := [.int v1, .int 5, .int a6]) (b := 37) (st := []) (dx9 := 1) (mc := 0) (ms := 0) (host := "") 8 rfl t_X8_put ⟨Or.inl q_8_29, i_X8_put.1, i_X8_put.2⟩ ⟨by decide, rfl⟩ (congrArg Prod.fst (J.1.1 37 (8, 4) rfl)) rfl (by decide) rfl rfl ⟨by decide, by decide⟩ (sf_X8_put_r37_c5 (jr_of rfl (by omega)) (jr_of rfl (by omega)) hD J  (fun h J S10 => ?_))
    have Sm := jSm_tr rfl Sm S10
    show jX m_X8_add 2 0 0 77 [(7, .int v1), (0, .ref 37), (1, .int a1), (2, .int a2), (3, .int a3), (4, .int a4), (5, .int a5), (6, .int a6)] [] _ 0 0 _
    refine x_vret rfl rfl ?_
    exact hQ _ J Sm
  ·
    refine x_vret rfl rfl ?_
    exact hQ _ J Sm
def fp_X8_isFull_r37 : jFp := []
set_option maxRecDepth 100000 in
set_option maxHeartbeats 4000000 in
theorem ct_X8_isFull_r37_200016 {Dy : jH → Prop} {h0 : jH} {Q : Option Value → jH → Prop} (hD : jDk Dy) (hQ : ∀ (v : Int32) hx9, 0 ≤ v.toInt ∧ v.toInt ≤ 1 → jJ jSgX Dy hx9 → jSm fp_X8_isFull_r37 h0 hx9 → Q (some (.int v)) hx9) : ∀ (h : jH), jJ jSgX Dy h → jSm fp_X8_isFull_r37 h0 h → jX m_X8_isFull 1 0 0 16 [] [.int 0] h 0 0 Q := by
  intro  h    J Sm
  refine x_zret rfl rfl (by decide) ?_
  exact hQ _ _ (jr_of jk_0 (by omega)) J Sm
set_option maxRecDepth 100000 in
set_option maxHeartbeats 4000000 in
theorem ct_X8_isFull_r37_300016 {Dy : jH → Prop} {h0 : jH} {Q : Option Value → jH → Prop} (hD : jDk Dy) (hQ : ∀ (v : Int32) hx9, 0 ≤ v.toInt ∧ v.toInt ≤ 1 → jJ jSgX Dy hx9 → jSm fp_X8_isFull_r37 h0 hx9 → Q (some (.int v)) hx9) : ∀ (h : jH), jJ jSgX Dy h → jSm fp_X8_isFull_r37 h0 h → jX m_X8_isFull 1 0 0 16 [] [.int 1] h 0 0 Q := by
  intro  h    J Sm
  refine x_zret rfl rfl (by decide) ?_
  exact hQ _ _ (jr_of jk_1 (by omega)) J Sm
set_option maxRecDepth 100000 in
set_option maxHeartbeats 4000000 in
theorem sf_X8_isFull_r37 {Dy : jH → Prop} {h : jH} {Q : Option Value → jH → Prop} (hD : jDk Dy) (J : jJ jSgX Dy h) (hQ : ∀ (v : Int32) hx9, 0 ≤ v.toInt ∧ v.toInt ≤ 1 → jJ jSgX Dy hx9 → jSm fp_X8_isFull_r37 h hx9 → Q (some (.int v)) hx9) : jC m_X8_isFull 1 0 0 [.ref 37] h Q := by
  refine jC.of rfl k_X8_isFull rfl ?_
  have Sm := jSm_rf fp_X8_isFull_r37 h
  show jX m_X8_isFull 1 0 0 0 [(0, .ref 37)] [] _ 0 0 _
  refine x_aloadn (x := 37) rfl rfl ?_
  refine z_getI (N := 4) 8 3 rfl f_8_7 rfl J rfl sg_37_3_4_1_0_1 (fun v1 qv1 ev1 => ?_)
  refine x_aloadn (x := 37) rfl rfl ?_
  refine z_getC (N := 4) (v := 60) 8 1 rfl f_8_22 rfl J rfl sg_37_1_2_1_0_1 jk_60 ?_
  refine x_iclt (tgt := 15) rfl rfl (ti_lt rfl jk_60 ⟨fun c2 => ?_, fun c2 => ?_⟩)
  ·
    refine x_iconst (v := 0) rfl ki_0 ?_
    exact jX.sub jsb_n (ct_X8_isFull_r37_200016 hD hQ  h J Sm)
  ·
    refine x_iconst (v := 1) rfl ki_1 ?_
    refine x_goto (tgt := 16) rfl rfl ?_
    exact jX.sub jsb_n (ct_X8_isFull_r37_300016 hD hQ  h J Sm)
def fp_X11_apart_r31 : jFp := [(31, 12, 13), (32, 19, 20), (37, 3, 4), (38, 0, 120)]
set_option maxRecDepth 100000 in
set_option maxHeartbeats 4000000 in
theorem ct_X11_apart_r31_22 {Dy : jH → Prop} {h0 : jH} {Q : Option Value → jH → Prop} (hD : jDk Dy) (hQ : ∀ (v : Int32) hx9, (-5) ≤ v.toInt ∧ v.toInt ≤ 0 → jJ jSgX Dy hx9 → jSm fp_X11_apart_r31 h0 hx9 → Q (some (.int v)) hx9) : ∀ (h : jH), jJ jSgX Dy h → jSm fp_X11_apart_r31 h0 h → jX m_X11_apart 3 0 0 22 [(0, .ref 31)] [] h 0 0 Q := by
  intro  h    J Sm
  refine x_aloadn (x := 31) rfl rfl ?_
  refine x_bipush (v := (-2)) rfl kb_m2 ?_
  refine x_inv (N := m_X11_refuse) (As := [.int (-2)]) (b := 31) (st := []) (dx9 := 2) (mc := 0) (ms := 0) (host := "") 11 rfl t_X11_refuse ⟨Or.inl q_11_206, i_X11_refuse.1, i_X11_refuse.2⟩ ⟨by decide, rfl⟩ (congrArg Prod.fst (J.1.1 31 (11, 13) rfl)) rfl (by decide) rfl rfl ⟨by decide, by decide⟩ (jC.of rfl k_X11_refuse rfl ?_)
  show jX m_X11_refuse 2 0 0 0 [(0, .ref 31), (1, .int (-2))] [] _ 0 0 _
  refine x_aloadn (x := 31) rfl rfl ?_
  refine x_iloadn (x := (-2)) rfl rfl ?_
  refine z_putI (N := 13) (w := (-2)) 11 12 rfl f_11_94 rfl (jfin_no TX11 RX11 13 rfl rfl) hD J Sm rfl rfl jk_m2 (pw_31_12 (by omega)) rfl (fun h w1 J Sm => ?_)
  refine x_iloadn (x := (-2)) rfl rfl ?_
  refine x_iret rfl rfl ?_
  show jX m_X11_apart 3 0 0 28 [(0, .ref 31)] [.int (-2)] _ 0 0 _
  refine x_iret rfl rfl ?_
  exact hQ _ _ (jr_of jk_m2 (by omega)) J Sm
set_option maxRecDepth 100000 in
set_option maxHeartbeats 4000000 in
theorem sf_X11_apart_r31 {Dy : jH → Prop} {h : jH} {Q : Option Value → jH → Prop} {a1 : Int32} {a2 : Int32} (hD : jDk Dy) (J : jJ jSgX Dy h) (hQ : ∀ (v : Int32) hx9, (-5) ≤ v.toInt ∧ v.toInt ≤ 0 → jJ jSgX Dy hx9 → jSm fp_X11_apart_r31 h hx9 → Q (some (.int v)) hx9) : jC m_X11_apart 3 0 0 [.ref 31, .int a1, .int a2] h Q := by
  refine jC.of rfl k_X11_apart rfl ?_
  have Sm := jSm_rf fp_X11_apart_r31 h
  have ea1 := jfull a1
  have ea2 := jfull a2
  show jX m_X11_apart 3 0 0 0 [(0, .ref 31), (1, .int a1), (2, .int a2)] [] _ 0 0 _
  refine x_aloadn (x := 31) rfl rfl ?_
  refine z_getR (N := 13) (b := 78) 11 4 rfl f_11_41 rfl J rfl 3972 ⟨rfl, rfl⟩ rfl ?_
  refine x_iloadn (x := a1) rfl rfl ?_
  refine x_inv (N := m_X7_isMention) (As := [.int a1]) (b := 78) (st := []) (dx9 := 2) (mc := 0) (ms := 0) (host := "") 7 rfl t_X7_isMention ⟨Or.inl q_11_187, i_X7_isMention.1, i_X7_isMention.2⟩ ⟨by decide, rfl⟩ (congrArg Prod.fst (J.1.1 78 (7, 16) rfl)) rfl (by decide) rfl rfl ⟨by decide, by decide⟩ (jC.of rfl k_X7_isMention rfl ?_)
  show jX m_X7_isMention 2 0 0 0 [(0, .ref 78), (1, .int a1)] [] _ 0 0 _
  refine x_iloadn (x := a1) rfl rfl ?_
  refine x_iflt (tgt := 41) rfl rfl (ti_lt rfl jk_0 ⟨fun c1 => ?_, fun c1 => ?_⟩)
  ·
    refine x_iconst (v := 0) rfl ki_0 ?_
    refine x_zret rfl rfl (by decide) ?_
    show jX m_X11_apart 3 0 0 8 [(0, .ref 31), (1, .int a1), (2, .int a2)] [.int 0] _ 0 0 _
    refine x_ifeq (tgt := 22) rfl rfl (ti_eq jk_0 jk_0 (br_t (by omega) ?_))
    exact jX.sub (jsb_c rfl jsb_n) (ct_X11_apart_r31_22 hD hQ  h J Sm)
  ·
    refine x_iloadn (x := a1) rfl rfl ?_
    refine x_sipush (v := 600) rfl ks_600 ?_
    refine x_icge (tgt := 41) rfl rfl (ti_ge rfl jk_600 ⟨fun c2 => ?_, fun c2 => ?_⟩)
    ·
      refine x_iconst (v := 0) rfl ki_0 ?_
      refine x_zret rfl rfl (by decide) ?_
      show jX m_X11_apart 3 0 0 8 [(0, .ref 31), (1, .int a1), (2, .int a2)] [.int 0] _ 0 0 _
      refine x_ifeq (tgt := 22) rfl rfl (ti_eq jk_0 jk_0 (br_t (by omega) ?_))
      exact jX.sub (jsb_c rfl jsb_n) (ct_X11_apart_r31_22 hD hQ  h J Sm)
    ·
      refine x_iloadn (x := a1) rfl rfl ?_
      refine x_iconst (v := 3) rfl ki_3 ?_
      refine z_idiv rfl rfl jk_3 (by omega) (by omega) (fun v3 ev3 => ?_)
      refine x_aloadn (x := 78) rfl rfl ?_
      refine z_getR (N := 16) (b := 32) 7 0 rfl f_7_55 rfl J rfl 9984 ⟨rfl, rfl⟩ rfl ?_
      refine z_getR (N := 20) (b := 33) 1 0 rfl f_7_63 rfl J rfl 4096 ⟨rfl, rfl⟩ rfl ?_
      refine z_getI (N := 4) 8 3 rfl f_7_85 rfl J rfl sg_33_3_4_1_0_1 (fun v4 qv4 ev4 => ?_)
      refine x_icge (tgt := 41) rfl rfl (ti_ge rfl rfl ⟨fun c5 => ?_, fun c5 => ?_⟩)
      ·
        refine x_iconst (v := 0) rfl ki_0 ?_
        refine x_zret rfl rfl (by decide) ?_
        show jX m_X11_apart 3 0 0 8 [(0, .ref 31), (1, .int a1), (2, .int a2)] [.int 0] _ 0 0 _
        refine x_ifeq (tgt := 22) rfl rfl (ti_eq jk_0 jk_0 (br_t (by omega) ?_))
        exact jX.sub (jsb_c rfl jsb_n) (ct_X11_apart_r31_22 hD hQ  h J Sm)
      ·
        refine x_aloadn (x := 78) rfl rfl ?_
        refine z_getR (N := 16) (b := 79) 7 7 rfl f_7_27 rfl J rfl 9991 ⟨rfl, rfl⟩ rfl ?_
        refine x_iloadn (x := a1) rfl rfl ?_
        refine z_iald (N := 600) rfl J rfl sg_79_0_600_1_0_1 rfl (by omega) (fun v6 qv6 ev6 => ?_)
        refine x_iconst (v := (-1)) rfl ki_m1 ?_
        refine x_iceq (tgt := 41) rfl rfl (ti_eq rfl jk_m1 ⟨fun c7 => ?_, fun c7 => ?_⟩)
        ·
          refine x_iconst (v := 0) rfl ki_0 ?_
          refine x_zret rfl rfl (by decide) ?_
          show jX m_X11_apart 3 0 0 8 [(0, .ref 31), (1, .int a1), (2, .int a2)] [.int 0] _ 0 0 _
          refine x_ifeq (tgt := 22) rfl rfl (ti_eq jk_0 jk_0 (br_t (by omega) ?_))
          exact jX.sub (jsb_c rfl jsb_n) (ct_X11_apart_r31_22 hD hQ  h J Sm)
        ·
          refine x_iconst (v := 1) rfl ki_1 ?_
          refine x_goto (tgt := 42) rfl rfl ?_
          refine x_zret rfl rfl (by decide) ?_
          show jX m_X11_apart 3 0 0 8 [(0, .ref 31), (1, .int a1), (2, .int a2)] [.int 1] _ 0 0 _
          refine x_ifeq (tgt := 22) rfl rfl (ti_eq jk_1 jk_0 (br_f (by omega) ?_))
          refine x_aloadn (x := 31) rfl rfl ?_
          refine z_getR (N := 13) (b := 78) 11 4 rfl f_11_41 rfl J rfl 3972 ⟨rfl, rfl⟩ rfl ?_
          refine x_iloadn (x := a2) rfl rfl ?_
          refine x_inv (N := m_X7_isMention) (As := [.int a2]) (b := 78) (st := []) (dx9 := 2) (mc := 0) (ms := 0) (host := "") 7 rfl t_X7_isMention ⟨Or.inl q_11_187, i_X7_isMention.1, i_X7_isMention.2⟩ ⟨by decide, rfl⟩ (congrArg Prod.fst (J.1.1 78 (7, 16) rfl)) rfl (by decide) rfl rfl ⟨by decide, by decide⟩ (jC.of rfl k_X7_isMention rfl ?_)
          show jX m_X7_isMention 2 0 0 0 [(0, .ref 78), (1, .int a2)] [] _ 0 0 _
          refine x_iloadn (x := a2) rfl rfl ?_
          refine x_iflt (tgt := 41) rfl rfl (ti_lt rfl jk_0 ⟨fun c8 => ?_, fun c8 => ?_⟩)
          ·
            refine x_iconst (v := 0) rfl ki_0 ?_
            refine x_zret rfl rfl (by decide) ?_
            show jX m_X11_apart 3 0 0 19 [(0, .ref 31), (1, .int a1), (2, .int a2)] [.int 0] _ 0 0 _
            refine x_ifne (tgt := 29) rfl rfl (ti_ne jk_0 jk_0 (bn_f (by omega) ?_))
            exact jX.sub (jsb_c rfl jsb_n) (ct_X11_apart_r31_22 hD hQ  h J Sm)
          ·
            refine x_iloadn (x := a2) rfl rfl ?_
            refine x_sipush (v := 600) rfl ks_600 ?_
            refine x_icge (tgt := 41) rfl rfl (ti_ge rfl jk_600 ⟨fun c9 => ?_, fun c9 => ?_⟩)
            ·
              refine x_iconst (v := 0) rfl ki_0 ?_
              refine x_zret rfl rfl (by decide) ?_
              show jX m_X11_apart 3 0 0 19 [(0, .ref 31), (1, .int a1), (2, .int a2)] [.int 0] _ 0 0 _
              refine x_ifne (tgt := 29) rfl rfl (ti_ne jk_0 jk_0 (bn_f (by omega) ?_))
              exact jX.sub (jsb_c rfl jsb_n) (ct_X11_apart_r31_22 hD hQ  h J Sm)
            ·
              refine x_iloadn (x := a2) rfl rfl ?_
              refine x_iconst (v := 3) rfl ki_3 ?_
              refine z_idiv rfl rfl jk_3 (by omega) (by omega) (fun v10 ev10 => ?_)
              refine x_aloadn (x := 78) rfl rfl ?_
              refine z_getR (N := 16) (b := 32) 7 0 rfl f_7_55 rfl J rfl 9984 ⟨rfl, rfl⟩ rfl ?_
              refine z_getR (N := 20) (b := 33) 1 0 rfl f_7_63 rfl J rfl 4096 ⟨rfl, rfl⟩ rfl ?_
              refine z_getM (N := 4) (v := v4) 8 3 rfl f_7_85 rfl J rfl qv4 ?_
              refine x_icge (tgt := 41) rfl rfl (ti_ge rfl rfl ⟨fun c11 => ?_, fun c11 => ?_⟩)
              ·
                refine x_iconst (v := 0) rfl ki_0 ?_
                refine x_zret rfl rfl (by decide) ?_
                show jX m_X11_apart 3 0 0 19 [(0, .ref 31), (1, .int a1), (2, .int a2)] [.int 0] _ 0 0 _
                refine x_ifne (tgt := 29) rfl rfl (ti_ne jk_0 jk_0 (bn_f (by omega) ?_))
                exact jX.sub (jsb_c rfl jsb_n) (ct_X11_apart_r31_22 hD hQ  h J Sm)
              ·
                refine x_aloadn (x := 78) rfl rfl ?_
                refine z_getR (N := 16) (b := 79) 7 7 rfl f_7_27 rfl J rfl 9991 ⟨rfl, rfl⟩ rfl ?_
                refine x_iloadn (x := a2) rfl rfl ?_
                refine z_iald (N := 600) rfl J rfl sg_79_0_600_1_0_1 rfl (by omega) (fun v12 qv12 ev12 => ?_)
                refine x_iconst (v := (-1)) rfl ki_m1 ?_
                refine x_iceq (tgt := 41) rfl rfl (ti_eq rfl jk_m1 ⟨fun c13 => ?_, fun c13 => ?_⟩)
                ·
                  refine x_iconst (v := 0) rfl ki_0 ?_
                  refine x_zret rfl rfl (by decide) ?_
                  show jX m_X11_apart 3 0 0 19 [(0, .ref 31), (1, .int a1), (2, .int a2)] [.int 0] _ 0 0 _
                  refine x_ifne (tgt := 29) rfl rfl (ti_ne jk_0 jk_0 (bn_f (by omega) ?_))
                  exact jX.sub (jsb_c rfl jsb_n) (ct_X11_apart_r31_22 hD hQ  h J Sm)
                ·
                  refine x_iconst (v := 1) rfl ki_1 ?_
                  refine x_goto (tgt := 42) rfl rfl ?_
                  refine x_zret rfl rfl (by decide) ?_
                  show jX m_X11_apart 3 0 0 19 [(0, .ref 31), (1, .int a1), (2, .int a2)] [.int 1] _ 0 0 _
                  refine x_ifne (tgt := 29) rfl rfl (ti_ne jk_1 jk_0 (bn_t (by omega) ?_))
                  refine x_iloadn (x := a1) rfl rfl ?_
                  refine x_iloadn (x := a2) rfl rfl ?_
                  refine x_icne (tgt := 41) rfl rfl (ti_ne rfl rfl ⟨fun c14 => ?_, fun c14 => ?_⟩)
                  ·
                    refine x_aloadn (x := 31) rfl rfl ?_
                    refine z_getR (N := 13) (b := 32) 11 0 rfl f_11_10 rfl J rfl 3968 ⟨rfl, rfl⟩ rfl ?_
                    refine z_getR (N := 20) (b := 37) 1 2 rfl f_11_230 rfl J rfl 4098 ⟨rfl, rfl⟩ rfl ?_
                    refine x_inv (N := m_X8_isFull) (As := []) (b := 37) (st := []) (dx9 := 1) (mc := 0) (ms := 0) (host := "") 8 rfl t_X8_isFull ⟨Or.inl q_11_130, i_X8_isFull.1, i_X8_isFull.2⟩ ⟨by decide, rfl⟩ (congrArg Prod.fst (J.1.1 37 (8, 4) rfl)) rfl (by decide) rfl rfl ⟨by decide, by decide⟩ (sf_X8_isFull_r37  hD J  (fun v16 h ev16 J S15 => ?_))
                    have Sm := jSm_tr rfl Sm S15
                    show jX m_X11_apart 3 0 0 51 [(0, .ref 31), (1, .int a1), (2, .int a2)] [.int v16] _ 0 0 _
                    refine x_ifeq (tgt := 61) rfl rfl (ti_eq rfl jk_0 ⟨fun c17 => ?_, fun c17 => ?_⟩)
                    ·
                      refine x_aloadn (x := 31) rfl rfl ?_
                      refine z_getR (N := 13) (b := 32) 11 0 rfl f_11_10 rfl J rfl 3968 ⟨rfl, rfl⟩ rfl ?_
                      refine z_getR (N := 20) (b := 37) 1 2 rfl f_11_230 rfl J rfl 4098 ⟨rfl, rfl⟩ rfl ?_
                      refine x_iloadn (x := a1) rfl rfl ?_
                      refine x_iloadn (x := a2) rfl rfl ?_
                      refine x_iconst (v := 0) rfl ki_0 ?_
                      refine x_iconst (v := 0) rfl ki_0 ?_
                      refine x_iconst (v := 0) rfl ki_0 ?_
                      refine x_iconst (v := 0) rfl ki_0 ?_
                      refine x_inv (N := m_X8_add) (As := [.int a1, .int a2, .int 0, .int 0, .int 0, .int 0]) (b := 37) (st := []) (dx9 := 2) (mc := 0) (ms := 0) (host := "") 8 rfl t_X8_add ⟨Or.inl q_11_145, i_X8_add.1, i_X8_add.2⟩ ⟨by decide, rfl⟩ (congrArg Prod.fst (J.1.1 37 (8, 4) rfl)) rfl (by decide) rfl rfl ⟨by decide, by decide⟩ (sf_X8_add_r37 (jr_of rfl (by omega)) (jr_of rfl (by omega)) (jr_of jk_0 (by omega)) (jr_of jk_0 (by omega)) (jr_of jk_0 (by omega)) (jr_of jk_0 (by omega)) hD J  (fun h J S18 => ?_))
                      have Sm := jSm_tr rfl Sm S18
                      show jX m_X11_apart 3 0 0 77 [(0, .ref 31), (1, .int a1), (2, .int a2)] [] _ 0 0 _
                      refine x_aloadn (x := 31) rfl rfl ?_
                      refine x_iconst (v := 0) rfl ki_0 ?_
                      refine x_inv (N := m_X11_accept) (As := [.int 0]) (b := 31) (st := []) (dx9 := 2) (mc := 0) (ms := 0) (host := "") 11 rfl t_X11_accept ⟨Or.inl q_11_165, i_X11_accept.1, i_X11_accept.2⟩ ⟨by decide, rfl⟩ (congrArg Prod.fst (J.1.1 31 (11, 13) rfl)) rfl (by decide) rfl rfl ⟨by decide, by decide⟩ (jC.of rfl k_X11_accept rfl ?_)
                      show jX m_X11_accept 2 0 0 0 [(0, .ref 31), (1, .int 0)] [] _ 0 0 _
                      refine x_aloadn (x := 31) rfl rfl ?_
                      refine x_iconst (v := 0) rfl ki_0 ?_
                      refine z_putI (N := 13) (w := 0) 11 12 rfl f_11_94 rfl (jfin_no TX11 RX11 13 rfl rfl) hD J Sm rfl rfl jk_0 (pw_31_12 (by omega)) rfl (fun h w19 J Sm => ?_)
                      refine x_aloadn (x := 31) rfl rfl ?_
                      refine z_getR (N := 13) (b := 32) 11 0 rfl f_11_10 rfl J rfl 3968 ⟨rfl, rfl⟩ rfl ?_
                      refine x_dup rfl rfl ?_
                      refine z_getI0 (N := 20) 1 19 rfl f_11_528 rfl J rfl (fun v20 qv20 => ?_)
                      have ev20 := jfull v20
                      refine x_iconst (v := 1) rfl ki_1 ?_
                      refine z_iadd0 rfl (fun v21 => ?_)
                      have ev21 := jfull v21
                      refine z_putI (N := 20) (w := v21.toInt) 1 19 rfl f_11_528 rfl (jfin_no TX1 RX1 20 rfl rfl) hD J Sm rfl rfl rfl (pw_32_19 trivial) rfl (fun h w22 J Sm => ?_)
                      refine x_iloadn (x := 0) rfl rfl ?_
                      refine x_iret rfl rfl ?_
                      show jX m_X11_apart 3 0 0 82 [(0, .ref 31), (1, .int a1), (2, .int a2)] [.int 0] _ 0 0 _
                      refine x_iret rfl rfl ?_
                      exact hQ _ _ (jr_of jk_0 (by omega)) J Sm
                    ·
                      refine x_aloadn (x := 31) rfl rfl ?_
                      refine x_bipush (v := (-5)) rfl kb_m5 ?_
                      refine x_inv (N := m_X11_refuse) (As := [.int (-5)]) (b := 31) (st := []) (dx9 := 2) (mc := 0) (ms := 0) (host := "") 11 rfl t_X11_refuse ⟨Or.inl q_11_206, i_X11_refuse.1, i_X11_refuse.2⟩ ⟨by decide, rfl⟩ (congrArg Prod.fst (J.1.1 31 (11, 13) rfl)) rfl (by decide) rfl rfl ⟨by decide, by decide⟩ (jC.of rfl k_X11_refuse rfl ?_)
                      show jX m_X11_refuse 2 0 0 0 [(0, .ref 31), (1, .int (-5))] [] _ 0 0 _
                      refine x_aloadn (x := 31) rfl rfl ?_
                      refine x_iloadn (x := (-5)) rfl rfl ?_
                      refine z_putI (N := 13) (w := (-5)) 11 12 rfl f_11_94 rfl (jfin_no TX11 RX11 13 rfl rfl) hD J Sm rfl rfl jk_m5 (pw_31_12 (by omega)) rfl (fun h w23 J Sm => ?_)
                      refine x_iloadn (x := (-5)) rfl rfl ?_
                      refine x_iret rfl rfl ?_
                      show jX m_X11_apart 3 0 0 60 [(0, .ref 31), (1, .int a1), (2, .int a2)] [.int (-5)] _ 0 0 _
                      refine x_iret rfl rfl ?_
                      exact hQ _ _ (jr_of jk_m5 (by omega)) J Sm
                  ·
                    refine x_aloadn (x := 31) rfl rfl ?_
                    refine x_bipush (v := (-3)) rfl kb_m3 ?_
                    refine x_inv (N := m_X11_refuse) (As := [.int (-3)]) (b := 31) (st := []) (dx9 := 2) (mc := 0) (ms := 0) (host := "") 11 rfl t_X11_refuse ⟨Or.inl q_11_206, i_X11_refuse.1, i_X11_refuse.2⟩ ⟨by decide, rfl⟩ (congrArg Prod.fst (J.1.1 31 (11, 13) rfl)) rfl (by decide) rfl rfl ⟨by decide, by decide⟩ (jC.of rfl k_X11_refuse rfl ?_)
                    show jX m_X11_refuse 2 0 0 0 [(0, .ref 31), (1, .int (-3))] [] _ 0 0 _
                    refine x_aloadn (x := 31) rfl rfl ?_
                    refine x_iloadn (x := (-3)) rfl rfl ?_
                    refine z_putI (N := 13) (w := (-3)) 11 12 rfl f_11_94 rfl (jfin_no TX11 RX11 13 rfl rfl) hD J Sm rfl rfl jk_m3 (pw_31_12 (by omega)) rfl (fun h w24 J Sm => ?_)
                    refine x_iloadn (x := (-3)) rfl rfl ?_
                    refine x_iret rfl rfl ?_
                    show jX m_X11_apart 3 0 0 40 [(0, .ref 31), (1, .int a1), (2, .int a2)] [.int (-3)] _ 0 0 _
                    refine x_iret rfl rfl ?_
                    exact hQ _ _ (jr_of jk_m3 (by omega)) J Sm
def fp_X8_put_r45_c0 : jFp := [(46, 0, 120)]
set_option maxRecDepth 100000 in
set_option maxHeartbeats 4000000 in
theorem ct_X8_put_r45_c0_38 {Dy : jH → Prop} {h0 : jH} {Q : Option Value → jH → Prop} (hD : jDk Dy) (hQ : ∀ hx9, jJ jSgX Dy hx9 → jSm fp_X8_put_r45_c0 h0 hx9 → Q none hx9) : ∀ (h : jH), jJ jSgX Dy h → jSm fp_X8_put_r45_c0 h0 h → jX m_X8_put 1 0 0 38 [] [] h 0 0 Q := by
  intro  h    J Sm
  refine x_vret rfl rfl ?_
  exact hQ _ J Sm
set_option maxRecDepth 100000 in
set_option maxHeartbeats 4000000 in
theorem sf_X8_put_r45_c0 {Dy : jH → Prop} {h : jH} {Q : Option Value → jH → Prop} {a1 : Int32} {a3 : Int32} (y1 : 0 ≤ a1.toInt ∧ a1.toInt ≤ 39) (y3 : 0 ≤ a3.toInt ∧ a3.toInt ≤ 146399) (hD : jDk Dy) (J : jJ jSgX Dy h) (hQ : ∀ hx9, jJ jSgX Dy hx9 → jSm fp_X8_put_r45_c0 h hx9 → Q none hx9) : jC m_X8_put 1 0 0 [.ref 45, .int a1, .int 0, .int a3] h Q := by
  refine jC.of rfl k_X8_put rfl ?_
  have Sm := jSm_rf fp_X8_put_r45_c0 h
  show jX m_X8_put 1 0 0 0 [(0, .ref 45), (1, .int a1), (2, .int 0), (3, .int a3)] [] _ 0 0 _
  refine x_iloadn (x := a1) rfl rfl ?_
  refine x_iflt (tgt := 38) rfl rfl (ti_lt rfl jk_0 (br_f (by omega) ?_))
  refine x_iloadn (x := a1) rfl rfl ?_
  refine x_aloadn (x := 45) rfl rfl ?_
  refine z_getI (N := 4) 8 3 rfl f_8_7 rfl J rfl sg_45_3_4_1_0_1 (fun v1 qv1 ev1 => ?_)
  refine x_icge (tgt := 38) rfl rfl (ti_ge rfl rfl ⟨fun c2 => ?_, fun c2 => ?_⟩)
  ·
    exact jX.sub jsb_n (ct_X8_put_r45_c0_38 hD hQ  h J Sm)
  ·
    refine x_iloadn (x := 0) rfl rfl ?_
    refine x_iflt (tgt := 38) rfl rfl (ti_lt jk_0 jk_0 (br_f (by omega) ?_))
    refine x_iloadn (x := 0) rfl rfl ?_
    refine x_aloadn (x := 45) rfl rfl ?_
    refine z_getC (N := 4) (v := 3) 8 0 rfl f_8_19 rfl J rfl sg_45_0_1_1_0_1 jk_3 ?_
    refine x_icge (tgt := 38) rfl rfl (ti_ge jk_0 jk_3 (br_f (by omega) ?_))
    refine x_aloadn (x := 45) rfl rfl ?_
    refine z_getR (N := 4) (b := 46) 8 2 rfl f_8_25 rfl J rfl 5762 ⟨rfl, rfl⟩ rfl ?_
    refine x_iloadn (x := a1) rfl rfl ?_
    refine x_aloadn (x := 45) rfl rfl ?_
    refine z_getC (N := 4) (v := 3) 8 0 rfl f_8_19 rfl J rfl sg_45_0_1_1_0_1 jk_3 ?_
    refine z_imul rfl rfl jk_3 (by omega) (fun v3 ev3 => ?_)
    refine x_iloadn (x := 0) rfl rfl ?_
    refine z_iadd rfl rfl jk_0 (by omega) (fun v4 ev4 => ?_)
    refine x_iloadn (x := a3) rfl rfl ?_
    refine z_iast (N := 120) (l := 0) (u := 120) (w := a3.toInt) rfl hD J Sm rfl rfl rfl (by omega) rfl (wr_46 (fun q1 q2 q3 q4 => by omega) (fun q1 q2 q3 q4 => by omega) (fun q1 q2 q3 q4 => by omega)) rfl (fun h w5 J Sm => ?_)
    exact jX.sub jsb_n (ct_X8_put_r45_c0_38 hD hQ  h J Sm)
def fp_X8_put_r45_c1 : jFp := [(46, 0, 120)]
set_option maxRecDepth 100000 in
set_option maxHeartbeats 4000000 in
theorem ct_X8_put_r45_c1_38 {Dy : jH → Prop} {h0 : jH} {Q : Option Value → jH → Prop} (hD : jDk Dy) (hQ : ∀ hx9, jJ jSgX Dy hx9 → jSm fp_X8_put_r45_c1 h0 hx9 → Q none hx9) : ∀ (h : jH), jJ jSgX Dy h → jSm fp_X8_put_r45_c1 h0 h → jX m_X8_put 1 0 0 38 [] [] h 0 0 Q := by
  intro  h    J Sm
  refine x_vret rfl rfl ?_
  exact hQ _ J Sm
set_option maxRecDepth 100000 in
set_option maxHeartbeats 4000000 in
theorem sf_X8_put_r45_c1 {Dy : jH → Prop} {h : jH} {Q : Option Value → jH → Prop} {a1 : Int32} {a3 : Int32} (y1 : 0 ≤ a1.toInt ∧ a1.toInt ≤ 39) (y3 : 0 ≤ a3.toInt ∧ a3.toInt ≤ 146399) (hD : jDk Dy) (J : jJ jSgX Dy h) (hQ : ∀ hx9, jJ jSgX Dy hx9 → jSm fp_X8_put_r45_c1 h hx9 → Q none hx9) : jC m_X8_put 1 0 0 [.ref 45, .int a1, .int 1, .int a3] h Q := by
  refine jC.of rfl k_X8_put rfl ?_
  have Sm := jSm_rf fp_X8_put_r45_c1 h
  show jX m_X8_put 1 0 0 0 [(0, .ref 45), (1, .int a1), (2, .int 1), (3, .int a3)] [] _ 0 0 _
  refine x_iloadn (x := a1) rfl rfl ?_
  refine x_iflt (tgt := 38) rfl rfl (ti_lt rfl jk_0 (br_f (by omega) ?_))
  refine x_iloadn (x := a1) rfl rfl ?_
  refine x_aloadn (x := 45) rfl rfl ?_
  refine z_getI (N := 4) 8 3 rfl f_8_7 rfl J rfl sg_45_3_4_1_0_1 (fun v1 qv1 ev1 => ?_)
  refine x_icge (tgt := 38) rfl rfl (ti_ge rfl rfl ⟨fun c2 => ?_, fun c2 => ?_⟩)
  ·
    exact jX.sub jsb_n (ct_X8_put_r45_c1_38 hD hQ  h J Sm)
  ·
    refine x_iloadn (x := 1) rfl rfl ?_
    refine x_iflt (tgt := 38) rfl rfl (ti_lt jk_1 jk_0 (br_f (by omega) ?_))
    refine x_iloadn (x := 1) rfl rfl ?_
    refine x_aloadn (x := 45) rfl rfl ?_
    refine z_getC (N := 4) (v := 3) 8 0 rfl f_8_19 rfl J rfl sg_45_0_1_1_0_1 jk_3 ?_
    refine x_icge (tgt := 38) rfl rfl (ti_ge jk_1 jk_3 (br_f (by omega) ?_))
    refine x_aloadn (x := 45) rfl rfl ?_
    refine z_getR (N := 4) (b := 46) 8 2 rfl f_8_25 rfl J rfl 5762 ⟨rfl, rfl⟩ rfl ?_
    refine x_iloadn (x := a1) rfl rfl ?_
    refine x_aloadn (x := 45) rfl rfl ?_
    refine z_getC (N := 4) (v := 3) 8 0 rfl f_8_19 rfl J rfl sg_45_0_1_1_0_1 jk_3 ?_
    refine z_imul rfl rfl jk_3 (by omega) (fun v3 ev3 => ?_)
    refine x_iloadn (x := 1) rfl rfl ?_
    refine z_iadd rfl rfl jk_1 (by omega) (fun v4 ev4 => ?_)
    refine x_iloadn (x := a3) rfl rfl ?_
    refine z_iast (N := 120) (l := 0) (u := 120) (w := a3.toInt) rfl hD J Sm rfl rfl rfl (by omega) rfl (wr_46 (fun q1 q2 q3 q4 => by omega) (fun q1 q2 q3 q4 => by omega) (fun q1 q2 q3 q4 => by omega)) rfl (fun h w5 J Sm => ?_)
    exact jX.sub jsb_n (ct_X8_put_r45_c1_38 hD hQ  h J Sm)
def fp_X8_put_r45_c2 : jFp := [(46, 0, 120)]
set_option maxRecDepth 100000 in
set_option maxHeartbeats 4000000 in
theorem ct_X8_put_r45_c2_38 {Dy : jH → Prop} {h0 : jH} {Q : Option Value → jH → Prop} (hD : jDk Dy) (hQ : ∀ hx9, jJ jSgX Dy hx9 → jSm fp_X8_put_r45_c2 h0 hx9 → Q none hx9) : ∀ (h : jH), jJ jSgX Dy h → jSm fp_X8_put_r45_c2 h0 h → jX m_X8_put 1 0 0 38 [] [] h 0 0 Q := by
  intro  h    J Sm
  refine x_vret rfl rfl ?_
  exact hQ _ J Sm
set_option maxRecDepth 100000 in
set_option maxHeartbeats 4000000 in
theorem sf_X8_put_r45_c2 {Dy : jH → Prop} {h : jH} {Q : Option Value → jH → Prop} {a1 : Int32} {a3 : Int32} (y1 : 0 ≤ a1.toInt ∧ a1.toInt ≤ 39) (y3 : 0 ≤ a3.toInt ∧ a3.toInt ≤ 199) (hD : jDk Dy) (J : jJ jSgX Dy h) (hQ : ∀ hx9, jJ jSgX Dy hx9 → jSm fp_X8_put_r45_c2 h hx9 → Q none hx9) : jC m_X8_put 1 0 0 [.ref 45, .int a1, .int 2, .int a3] h Q := by
  refine jC.of rfl k_X8_put rfl ?_
  have Sm := jSm_rf fp_X8_put_r45_c2 h
  show jX m_X8_put 1 0 0 0 [(0, .ref 45), (1, .int a1), (2, .int 2), (3, .int a3)] [] _ 0 0 _
  refine x_iloadn (x := a1) rfl rfl ?_
  refine x_iflt (tgt := 38) rfl rfl (ti_lt rfl jk_0 (br_f (by omega) ?_))
  refine x_iloadn (x := a1) rfl rfl ?_
  refine x_aloadn (x := 45) rfl rfl ?_
  refine z_getI (N := 4) 8 3 rfl f_8_7 rfl J rfl sg_45_3_4_1_0_1 (fun v1 qv1 ev1 => ?_)
  refine x_icge (tgt := 38) rfl rfl (ti_ge rfl rfl ⟨fun c2 => ?_, fun c2 => ?_⟩)
  ·
    exact jX.sub jsb_n (ct_X8_put_r45_c2_38 hD hQ  h J Sm)
  ·
    refine x_iloadn (x := 2) rfl rfl ?_
    refine x_iflt (tgt := 38) rfl rfl (ti_lt jk_2 jk_0 (br_f (by omega) ?_))
    refine x_iloadn (x := 2) rfl rfl ?_
    refine x_aloadn (x := 45) rfl rfl ?_
    refine z_getC (N := 4) (v := 3) 8 0 rfl f_8_19 rfl J rfl sg_45_0_1_1_0_1 jk_3 ?_
    refine x_icge (tgt := 38) rfl rfl (ti_ge jk_2 jk_3 (br_f (by omega) ?_))
    refine x_aloadn (x := 45) rfl rfl ?_
    refine z_getR (N := 4) (b := 46) 8 2 rfl f_8_25 rfl J rfl 5762 ⟨rfl, rfl⟩ rfl ?_
    refine x_iloadn (x := a1) rfl rfl ?_
    refine x_aloadn (x := 45) rfl rfl ?_
    refine z_getC (N := 4) (v := 3) 8 0 rfl f_8_19 rfl J rfl sg_45_0_1_1_0_1 jk_3 ?_
    refine z_imul rfl rfl jk_3 (by omega) (fun v3 ev3 => ?_)
    refine x_iloadn (x := 2) rfl rfl ?_
    refine z_iadd rfl rfl jk_2 (by omega) (fun v4 ev4 => ?_)
    refine x_iloadn (x := a3) rfl rfl ?_
    refine z_iast (N := 120) (l := 0) (u := 120) (w := a3.toInt) rfl hD J Sm rfl rfl rfl (by omega) rfl (wr_46 (fun q1 q2 q3 q4 => by omega) (fun q1 q2 q3 q4 => by omega) (fun q1 q2 q3 q4 => by omega)) rfl (fun h w5 J Sm => ?_)
    exact jX.sub jsb_n (ct_X8_put_r45_c2_38 hD hQ  h J Sm)
def fp_X8_put_r45_c3 : jFp := []
set_option maxRecDepth 100000 in
set_option maxHeartbeats 4000000 in
theorem ct_X8_put_r45_c3_38 {Dy : jH → Prop} {h0 : jH} {Q : Option Value → jH → Prop} (hD : jDk Dy) (hQ : ∀ hx9, jJ jSgX Dy hx9 → jSm fp_X8_put_r45_c3 h0 hx9 → Q none hx9) : ∀ (h : jH), jJ jSgX Dy h → jSm fp_X8_put_r45_c3 h0 h → jX m_X8_put 1 0 0 38 [] [] h 0 0 Q := by
  intro  h    J Sm
  refine x_vret rfl rfl ?_
  exact hQ _ J Sm
set_option maxRecDepth 100000 in
set_option maxHeartbeats 4000000 in
theorem sf_X8_put_r45_c3 {Dy : jH → Prop} {h : jH} {Q : Option Value → jH → Prop} {a1 : Int32} {a3 : Int32} (y1 : 0 ≤ a1.toInt ∧ a1.toInt ≤ 39) (y3 : 0 ≤ a3.toInt ∧ a3.toInt ≤ 0) (hD : jDk Dy) (J : jJ jSgX Dy h) (hQ : ∀ hx9, jJ jSgX Dy hx9 → jSm fp_X8_put_r45_c3 h hx9 → Q none hx9) : jC m_X8_put 1 0 0 [.ref 45, .int a1, .int 3, .int a3] h Q := by
  refine jC.of rfl k_X8_put rfl ?_
  have Sm := jSm_rf fp_X8_put_r45_c3 h
  show jX m_X8_put 1 0 0 0 [(0, .ref 45), (1, .int a1), (2, .int 3), (3, .int a3)] [] _ 0 0 _
  refine x_iloadn (x := a1) rfl rfl ?_
  refine x_iflt (tgt := 38) rfl rfl (ti_lt rfl jk_0 (br_f (by omega) ?_))
  refine x_iloadn (x := a1) rfl rfl ?_
  refine x_aloadn (x := 45) rfl rfl ?_
  refine z_getI (N := 4) 8 3 rfl f_8_7 rfl J rfl sg_45_3_4_1_0_1 (fun v1 qv1 ev1 => ?_)
  refine x_icge (tgt := 38) rfl rfl (ti_ge rfl rfl ⟨fun c2 => ?_, fun c2 => ?_⟩)
  ·
    exact jX.sub jsb_n (ct_X8_put_r45_c3_38 hD hQ  h J Sm)
  ·
    refine x_iloadn (x := 3) rfl rfl ?_
    refine x_iflt (tgt := 38) rfl rfl (ti_lt jk_3 jk_0 (br_f (by omega) ?_))
    refine x_iloadn (x := 3) rfl rfl ?_
    refine x_aloadn (x := 45) rfl rfl ?_
    refine z_getC (N := 4) (v := 3) 8 0 rfl f_8_19 rfl J rfl sg_45_0_1_1_0_1 jk_3 ?_
    refine x_icge (tgt := 38) rfl rfl (ti_ge jk_3 jk_3 (br_t (by omega) ?_))
    exact jX.sub jsb_n (ct_X8_put_r45_c3_38 hD hQ  h J Sm)
def fp_X8_put_r45_c4 : jFp := []
set_option maxRecDepth 100000 in
set_option maxHeartbeats 4000000 in
theorem ct_X8_put_r45_c4_38 {Dy : jH → Prop} {h0 : jH} {Q : Option Value → jH → Prop} (hD : jDk Dy) (hQ : ∀ hx9, jJ jSgX Dy hx9 → jSm fp_X8_put_r45_c4 h0 hx9 → Q none hx9) : ∀ (h : jH), jJ jSgX Dy h → jSm fp_X8_put_r45_c4 h0 h → jX m_X8_put 1 0 0 38 [] [] h 0 0 Q := by
  intro  h    J Sm
  refine x_vret rfl rfl ?_
  exact hQ _ J Sm
set_option maxRecDepth 100000 in
set_option maxHeartbeats 4000000 in
theorem sf_X8_put_r45_c4 {Dy : jH → Prop} {h : jH} {Q : Option Value → jH → Prop} {a1 : Int32} {a3 : Int32} (y1 : 0 ≤ a1.toInt ∧ a1.toInt ≤ 39) (y3 : 0 ≤ a3.toInt ∧ a3.toInt ≤ 0) (hD : jDk Dy) (J : jJ jSgX Dy h) (hQ : ∀ hx9, jJ jSgX Dy hx9 → jSm fp_X8_put_r45_c4 h hx9 → Q none hx9) : jC m_X8_put 1 0 0 [.ref 45, .int a1, .int 4, .int a3] h Q := by
  refine jC.of rfl k_X8_put rfl ?_
  have Sm := jSm_rf fp_X8_put_r45_c4 h
  show jX m_X8_put 1 0 0 0 [(0, .ref 45), (1, .int a1), (2, .int 4), (3, .int a3)] [] _ 0 0 _
  refine x_iloadn (x := a1) rfl rfl ?_
  refine x_iflt (tgt := 38) rfl rfl (ti_lt rfl jk_0 (br_f (by omega) ?_))
  refine x_iloadn (x := a1) rfl rfl ?_
  refine x_aloadn (x := 45) rfl rfl ?_
  refine z_getI (N := 4) 8 3 rfl f_8_7 rfl J rfl sg_45_3_4_1_0_1 (fun v1 qv1 ev1 => ?_)
  refine x_icge (tgt := 38) rfl rfl (ti_ge rfl rfl ⟨fun c2 => ?_, fun c2 => ?_⟩)
  ·
    exact jX.sub jsb_n (ct_X8_put_r45_c4_38 hD hQ  h J Sm)
  ·
    refine x_iloadn (x := 4) rfl rfl ?_
    refine x_iflt (tgt := 38) rfl rfl (ti_lt jk_4 jk_0 (br_f (by omega) ?_))
    refine x_iloadn (x := 4) rfl rfl ?_
    refine x_aloadn (x := 45) rfl rfl ?_
    refine z_getC (N := 4) (v := 3) 8 0 rfl f_8_19 rfl J rfl sg_45_0_1_1_0_1 jk_3 ?_
    refine x_icge (tgt := 38) rfl rfl (ti_ge jk_4 jk_3 (br_t (by omega) ?_))
    exact jX.sub jsb_n (ct_X8_put_r45_c4_38 hD hQ  h J Sm)
def fp_X8_put_r45_c5 : jFp := []
set_option maxRecDepth 100000 in
set_option maxHeartbeats 4000000 in
theorem ct_X8_put_r45_c5_38 {Dy : jH → Prop} {h0 : jH} {Q : Option Value → jH → Prop} (hD : jDk Dy) (hQ : ∀ hx9, jJ jSgX Dy hx9 → jSm fp_X8_put_r45_c5 h0 hx9 → Q none hx9) : ∀ (h : jH), jJ jSgX Dy h → jSm fp_X8_put_r45_c5 h0 h → jX m_X8_put 1 0 0 38 [] [] h 0 0 Q := by
  intro  h    J Sm
  refine x_vret rfl rfl ?_
  exact hQ _ J Sm
set_option maxRecDepth 100000 in
set_option maxHeartbeats 4000000 in
theorem sf_X8_put_r45_c5 {Dy : jH → Prop} {h : jH} {Q : Option Value → jH → Prop} {a1 : Int32} {a3 : Int32} (y1 : 0 ≤ a1.toInt ∧ a1.toInt ≤ 39) (y3 : 0 ≤ a3.toInt ∧ a3.toInt ≤ 0) (hD : jDk Dy) (J : jJ jSgX Dy h) (hQ : ∀ hx9, jJ jSgX Dy hx9 → jSm fp_X8_put_r45_c5 h hx9 → Q none hx9) : jC m_X8_put 1 0 0 [.ref 45, .int a1, .int 5, .int a3] h Q := by
  refine jC.of rfl k_X8_put rfl ?_
  have Sm := jSm_rf fp_X8_put_r45_c5 h
  show jX m_X8_put 1 0 0 0 [(0, .ref 45), (1, .int a1), (2, .int 5), (3, .int a3)] [] _ 0 0 _
  refine x_iloadn (x := a1) rfl rfl ?_
  refine x_iflt (tgt := 38) rfl rfl (ti_lt rfl jk_0 (br_f (by omega) ?_))
  refine x_iloadn (x := a1) rfl rfl ?_
  refine x_aloadn (x := 45) rfl rfl ?_
  refine z_getI (N := 4) 8 3 rfl f_8_7 rfl J rfl sg_45_3_4_1_0_1 (fun v1 qv1 ev1 => ?_)
  refine x_icge (tgt := 38) rfl rfl (ti_ge rfl rfl ⟨fun c2 => ?_, fun c2 => ?_⟩)
  ·
    exact jX.sub jsb_n (ct_X8_put_r45_c5_38 hD hQ  h J Sm)
  ·
    refine x_iloadn (x := 5) rfl rfl ?_
    refine x_iflt (tgt := 38) rfl rfl (ti_lt jk_5 jk_0 (br_f (by omega) ?_))
    refine x_iloadn (x := 5) rfl rfl ?_
    refine x_aloadn (x := 45) rfl rfl ?_
    refine z_getC (N := 4) (v := 3) 8 0 rfl f_8_19 rfl J rfl sg_45_0_1_1_0_1 jk_3 ?_
    refine x_icge (tgt := 38) rfl rfl (ti_ge jk_5 jk_3 (br_t (by omega) ?_))
    exact jX.sub jsb_n (ct_X8_put_r45_c5_38 hD hQ  h J Sm)
def fp_X8_add_r45 : jFp := [(45, 3, 4), (46, 0, 120)]
set_option maxRecDepth 100000 in
set_option maxHeartbeats 4000000 in
theorem sf_X8_add_r45 {Dy : jH → Prop} {h : jH} {Q : Option Value → jH → Prop} {a1 : Int32} {a2 : Int32} {a3 : Int32} {a4 : Int32} {a5 : Int32} {a6 : Int32} (y1 : 0 ≤ a1.toInt ∧ a1.toInt ≤ 146399) (y2 : 0 ≤ a2.toInt ∧ a2.toInt ≤ 146399) (y3 : 0 ≤ a3.toInt ∧ a3.toInt ≤ 199) (y4 : 0 ≤ a4.toInt ∧ a4.toInt ≤ 0) (y5 : 0 ≤ a5.toInt ∧ a5.toInt ≤ 0) (y6 : 0 ≤ a6.toInt ∧ a6.toInt ≤ 0) (hD : jDk Dy) (J : jJ jSgX Dy h) (hQ : ∀ hx9, jJ jSgX Dy hx9 → jSm fp_X8_add_r45 h hx9 → Q none hx9) : jC m_X8_add 2 0 0 [.ref 45, .int a1, .int a2, .int a3, .int a4, .int a5, .int a6] h Q := by
  refine jC.of rfl k_X8_add rfl ?_
  have Sm := jSm_rf fp_X8_add_r45 h
  show jX m_X8_add 2 0 0 0 [(0, .ref 45), (1, .int a1), (2, .int a2), (3, .int a3), (4, .int a4), (5, .int a5), (6, .int a6)] [] _ 0 0 _
  refine x_aloadn (x := 45) rfl rfl ?_
  refine z_getI (N := 4) 8 3 rfl f_8_7 rfl J rfl sg_45_3_4_1_0_1 (fun v1 qv1 ev1 => ?_)
  refine x_aloadn (x := 45) rfl rfl ?_
  refine z_getC (N := 4) (v := 40) 8 1 rfl f_8_22 rfl J rfl sg_45_1_2_1_0_1 jk_40 ?_
  refine x_iclt (tgt := 12) rfl rfl (ti_lt rfl jk_40 ⟨fun c2 => ?_, fun c2 => ?_⟩)
  ·
    refine x_aloadn (x := 45) rfl rfl ?_
    refine z_getM (N := 4) (v := v1) 8 3 rfl f_8_7 rfl J rfl qv1 ?_
    refine x_istore (lsx9 := [(7, .int v1), (0, .ref 45), (1, .int a1), (2, .int a2), (3, .int a3), (4, .int a4), (5, .int a5), (6, .int a6)]) rfl rfl rfl ?_
    refine x_aloadn (x := 45) rfl rfl ?_
    refine x_iload (x := v1) rfl rfl ?_
    refine x_iconst (v := 1) rfl ki_1 ?_
    refine z_iadd rfl rfl jk_1 (by omega) (fun v3 ev3 => ?_)
    refine z_putI (N := 4) (w := v3.toInt) 8 3 rfl f_8_7 rfl (jfin_no TX8 RX8 4 rfl rfl) hD J Sm rfl rfl rfl (pw_45_3 (by omega)) rfl (fun h w4 J Sm => ?_)
    refine x_aloadn (x := 45) rfl rfl ?_
    refine x_iload (x := v1) rfl rfl ?_
    refine x_iconst (v := 0) rfl ki_0 ?_
    refine x_iloadn (x := a1) rfl rfl ?_
    refine x_inv (N := m_X8_put) (As := [.int v1, .int 0, .int a1]) (b := 45) (st := []) (dx9 := 1) (mc := 0) (ms := 0) (host := "") 8 rfl t_X8_put ⟨Or.inl q_8_29, i_X8_put.1, i_X8_put.2⟩ ⟨by decide, rfl⟩ (congrArg Prod.fst (J.1.1 45 (8, 4) rfl)) rfl (by decide) rfl rfl ⟨by decide, by decide⟩ (sf_X8_put_r45_c0 (jr_of rfl (by omega)) (jr_of rfl (by omega)) hD J  (fun h J S5 => ?_))
    have Sm := jSm_tr rfl Sm S5
    show jX m_X8_add 2 0 0 34 [(7, .int v1), (0, .ref 45), (1, .int a1), (2, .int a2), (3, .int a3), (4, .int a4), (5, .int a5), (6, .int a6)] [] _ 0 0 _
    refine x_aloadn (x := 45) rfl rfl ?_
    refine x_iload (x := v1) rfl rfl ?_
    refine x_iconst (v := 1) rfl ki_1 ?_
    refine x_iloadn (x := a2) rfl rfl ?_
    refine x_inv (N := m_X8_put) (As := [.int v1, .int 1, .int a2]) (b := 45) (st := []) (dx9 := 1) (mc := 0) (ms := 0) (host := "") 8 rfl t_X8_put ⟨Or.inl q_8_29, i_X8_put.1, i_X8_put.2⟩ ⟨by decide, rfl⟩ (congrArg Prod.fst (J.1.1 45 (8, 4) rfl)) rfl (by decide) rfl rfl ⟨by decide, by decide⟩ (sf_X8_put_r45_c1 (jr_of rfl (by omega)) (jr_of rfl (by omega)) hD J  (fun h J S6 => ?_))
    have Sm := jSm_tr rfl Sm S6
    show jX m_X8_add 2 0 0 42 [(7, .int v1), (0, .ref 45), (1, .int a1), (2, .int a2), (3, .int a3), (4, .int a4), (5, .int a5), (6, .int a6)] [] _ 0 0 _
    refine x_aloadn (x := 45) rfl rfl ?_
    refine x_iload (x := v1) rfl rfl ?_
    refine x_iconst (v := 2) rfl ki_2 ?_
    refine x_iloadn (x := a3) rfl rfl ?_
    refine x_inv (N := m_X8_put) (As := [.int v1, .int 2, .int a3]) (b := 45) (st := []) (dx9 := 1) (mc := 0) (ms := 0) (host := "") 8 rfl t_X8_put ⟨Or.inl q_8_29, i_X8_put.1, i_X8_put.2⟩ ⟨by decide, rfl⟩ (congrArg Prod.fst (J.1.1 45 (8, 4) rfl)) rfl (by decide) rfl rfl ⟨by decide, by decide⟩ (sf_X8_put_r45_c2 (jr_of rfl (by omega)) (jr_of rfl (by omega)) hD J  (fun h J S7 => ?_))
    have Sm := jSm_tr rfl Sm S7
    show jX m_X8_add 2 0 0 50 [(7, .int v1), (0, .ref 45), (1, .int a1), (2, .int a2), (3, .int a3), (4, .int a4), (5, .int a5), (6, .int a6)] [] _ 0 0 _
    refine x_aloadn (x := 45) rfl rfl ?_
    refine x_iload (x := v1) rfl rfl ?_
    refine x_iconst (v := 3) rfl ki_3 ?_
    refine x_iload (x := a4) rfl rfl ?_
    refine x_inv (N := m_X8_put) (As := [.int v1, .int 3, .int a4]) (b := 45) (st := []) (dx9 := 1) (mc := 0) (ms := 0) (host := "") 8 rfl t_X8_put ⟨Or.inl q_8_29, i_X8_put.1, i_X8_put.2⟩ ⟨by decide, rfl⟩ (congrArg Prod.fst (J.1.1 45 (8, 4) rfl)) rfl (by decide) rfl rfl ⟨by decide, by decide⟩ (sf_X8_put_r45_c3 (jr_of rfl (by omega)) (jr_of rfl (by omega)) hD J  (fun h J S8 => ?_))
    have Sm := jSm_tr rfl Sm S8
    show jX m_X8_add 2 0 0 59 [(7, .int v1), (0, .ref 45), (1, .int a1), (2, .int a2), (3, .int a3), (4, .int a4), (5, .int a5), (6, .int a6)] [] _ 0 0 _
    refine x_aloadn (x := 45) rfl rfl ?_
    refine x_iload (x := v1) rfl rfl ?_
    refine x_iconst (v := 4) rfl ki_4 ?_
    refine x_iload (x := a5) rfl rfl ?_
    refine x_inv (N := m_X8_put) (As := [.int v1, .int 4, .int a5]) (b := 45) (st := []) (dx9 := 1) (mc := 0) (ms := 0) (host := "") 8 rfl t_X8_put ⟨Or.inl q_8_29, i_X8_put.1, i_X8_put.2⟩ ⟨by decide, rfl⟩ (congrArg Prod.fst (J.1.1 45 (8, 4) rfl)) rfl (by decide) rfl rfl ⟨by decide, by decide⟩ (sf_X8_put_r45_c4 (jr_of rfl (by omega)) (jr_of rfl (by omega)) hD J  (fun h J S9 => ?_))
    have Sm := jSm_tr rfl Sm S9
    show jX m_X8_add 2 0 0 68 [(7, .int v1), (0, .ref 45), (1, .int a1), (2, .int a2), (3, .int a3), (4, .int a4), (5, .int a5), (6, .int a6)] [] _ 0 0 _
    refine x_aloadn (x := 45) rfl rfl ?_
    refine x_iload (x := v1) rfl rfl ?_
    refine x_iconst (v := 5) rfl ki_5 ?_
    refine x_iload (x := a6) rfl rfl ?_
    refine x_inv (N := m_X8_put) (As := [.int v1, .int 5, .int a6]) (b := 45) (st := []) (dx9 := 1) (mc := 0) (ms := 0) (host := "") 8 rfl t_X8_put ⟨Or.inl q_8_29, i_X8_put.1, i_X8_put.2⟩ ⟨by decide, rfl⟩ (congrArg Prod.fst (J.1.1 45 (8, 4) rfl)) rfl (by decide) rfl rfl ⟨by decide, by decide⟩ (sf_X8_put_r45_c5 (jr_of rfl (by omega)) (jr_of rfl (by omega)) hD J  (fun h J S10 => ?_))
    have Sm := jSm_tr rfl Sm S10
    show jX m_X8_add 2 0 0 77 [(7, .int v1), (0, .ref 45), (1, .int a1), (2, .int a2), (3, .int a3), (4, .int a4), (5, .int a5), (6, .int a6)] [] _ 0 0 _
    refine x_vret rfl rfl ?_
    exact hQ _ J Sm
  ·
    refine x_vret rfl rfl ?_
    exact hQ _ J Sm
def fp_X8_isFull_r45 : jFp := []
set_option maxRecDepth 100000 in
set_option maxHeartbeats 4000000 in
theorem ct_X8_isFull_r45_200016 {Dy : jH → Prop} {h0 : jH} {Q : Option Value → jH → Prop} (hD : jDk Dy) (hQ : ∀ (v : Int32) hx9, 0 ≤ v.toInt ∧ v.toInt ≤ 1 → jJ jSgX Dy hx9 → jSm fp_X8_isFull_r45 h0 hx9 → Q (some (.int v)) hx9) : ∀ (h : jH), jJ jSgX Dy h → jSm fp_X8_isFull_r45 h0 h → jX m_X8_isFull 1 0 0 16 [] [.int 0] h 0 0 Q := by
  intro  h    J Sm
  refine x_zret rfl rfl (by decide) ?_
  exact hQ _ _ (jr_of jk_0 (by omega)) J Sm
set_option maxRecDepth 100000 in
set_option maxHeartbeats 4000000 in
theorem ct_X8_isFull_r45_300016 {Dy : jH → Prop} {h0 : jH} {Q : Option Value → jH → Prop} (hD : jDk Dy) (hQ : ∀ (v : Int32) hx9, 0 ≤ v.toInt ∧ v.toInt ≤ 1 → jJ jSgX Dy hx9 → jSm fp_X8_isFull_r45 h0 hx9 → Q (some (.int v)) hx9) : ∀ (h : jH), jJ jSgX Dy h → jSm fp_X8_isFull_r45 h0 h → jX m_X8_isFull 1 0 0 16 [] [.int 1] h 0 0 Q := by
  intro  h    J Sm
  refine x_zret rfl rfl (by decide) ?_
  exact hQ _ _ (jr_of jk_1 (by omega)) J Sm
set_option maxRecDepth 100000 in
set_option maxHeartbeats 4000000 in
theorem sf_X8_isFull_r45 {Dy : jH → Prop} {h : jH} {Q : Option Value → jH → Prop} (hD : jDk Dy) (J : jJ jSgX Dy h) (hQ : ∀ (v : Int32) hx9, 0 ≤ v.toInt ∧ v.toInt ≤ 1 → jJ jSgX Dy hx9 → jSm fp_X8_isFull_r45 h hx9 → Q (some (.int v)) hx9) : jC m_X8_isFull 1 0 0 [.ref 45] h Q := by
  refine jC.of rfl k_X8_isFull rfl ?_
  have Sm := jSm_rf fp_X8_isFull_r45 h
  show jX m_X8_isFull 1 0 0 0 [(0, .ref 45)] [] _ 0 0 _
  refine x_aloadn (x := 45) rfl rfl ?_
  refine z_getI (N := 4) 8 3 rfl f_8_7 rfl J rfl sg_45_3_4_1_0_1 (fun v1 qv1 ev1 => ?_)
  refine x_aloadn (x := 45) rfl rfl ?_
  refine z_getC (N := 4) (v := 40) 8 1 rfl f_8_22 rfl J rfl sg_45_1_2_1_0_1 jk_40 ?_
  refine x_iclt (tgt := 15) rfl rfl (ti_lt rfl jk_40 ⟨fun c2 => ?_, fun c2 => ?_⟩)
  ·
    refine x_iconst (v := 0) rfl ki_0 ?_
    exact jX.sub jsb_n (ct_X8_isFull_r45_200016 hD hQ  h J Sm)
  ·
    refine x_iconst (v := 1) rfl ki_1 ?_
    refine x_goto (tgt := 16) rfl rfl ?_
    exact jX.sub jsb_n (ct_X8_isFull_r45_300016 hD hQ  h J Sm)
def fp_X11_appeal_r31 : jFp := [(31, 12, 13), (32, 19, 20), (45, 3, 4), (46, 0, 120)]
set_option maxRecDepth 100000 in
set_option maxHeartbeats 4000000 in
theorem ct_X11_appeal_r31_14 {Dy : jH → Prop} {h0 : jH} {Q : Option Value → jH → Prop} (hD : jDk Dy) (hQ : ∀ (v : Int32) hx9, (-366) ≤ v.toInt ∧ v.toInt ≤ 40 → jJ jSgX Dy hx9 → jSm fp_X11_appeal_r31 h0 hx9 → Q (some (.int v)) hx9) : ∀ (h : jH), jJ jSgX Dy h → jSm fp_X11_appeal_r31 h0 h → jX m_X11_appeal 3 0 0 14 [(0, .ref 31)] [] h 0 0 Q := by
  intro  h    J Sm
  refine x_aloadn (x := 31) rfl rfl ?_
  refine x_iconst (v := (-1)) rfl ki_m1 ?_
  refine x_inv (N := m_X11_refuse) (As := [.int (-1)]) (b := 31) (st := []) (dx9 := 2) (mc := 0) (ms := 0) (host := "") 11 rfl t_X11_refuse ⟨Or.inl q_11_206, i_X11_refuse.1, i_X11_refuse.2⟩ ⟨by decide, rfl⟩ (congrArg Prod.fst (J.1.1 31 (11, 13) rfl)) rfl (by decide) rfl rfl ⟨by decide, by decide⟩ (jC.of rfl k_X11_refuse rfl ?_)
  show jX m_X11_refuse 2 0 0 0 [(0, .ref 31), (1, .int (-1))] [] _ 0 0 _
  refine x_aloadn (x := 31) rfl rfl ?_
  refine x_iloadn (x := (-1)) rfl rfl ?_
  refine z_putI (N := 13) (w := (-1)) 11 12 rfl f_11_94 rfl (jfin_no TX11 RX11 13 rfl rfl) hD J Sm rfl rfl jk_m1 (pw_31_12 (by omega)) rfl (fun h w1 J Sm => ?_)
  refine x_iloadn (x := (-1)) rfl rfl ?_
  refine x_iret rfl rfl ?_
  show jX m_X11_appeal 3 0 0 19 [(0, .ref 31)] [.int (-1)] _ 0 0 _
  refine x_iret rfl rfl ?_
  exact hQ _ _ (jr_of jk_m1 (by omega)) J Sm
set_option maxRecDepth 100000 in
set_option maxHeartbeats 4000000 in
theorem ct_X11_appeal_r31_44 {Dy : jH → Prop} {h0 : jH} {Q : Option Value → jH → Prop} (hD : jDk Dy) (hQ : ∀ (v : Int32) hx9, (-366) ≤ v.toInt ∧ v.toInt ≤ 40 → jJ jSgX Dy hx9 → jSm fp_X11_appeal_r31 h0 hx9 → Q (some (.int v)) hx9) : ∀ (h : jH), jJ jSgX Dy h → jSm fp_X11_appeal_r31 h0 h → jX m_X11_appeal 3 0 0 44 [(0, .ref 31)] [] h 0 0 Q := by
  intro  h    J Sm
  refine x_aloadn (x := 31) rfl rfl ?_
  refine x_bipush (v := (-2)) rfl kb_m2 ?_
  refine x_inv (N := m_X11_refuse) (As := [.int (-2)]) (b := 31) (st := []) (dx9 := 2) (mc := 0) (ms := 0) (host := "") 11 rfl t_X11_refuse ⟨Or.inl q_11_206, i_X11_refuse.1, i_X11_refuse.2⟩ ⟨by decide, rfl⟩ (congrArg Prod.fst (J.1.1 31 (11, 13) rfl)) rfl (by decide) rfl rfl ⟨by decide, by decide⟩ (jC.of rfl k_X11_refuse rfl ?_)
  show jX m_X11_refuse 2 0 0 0 [(0, .ref 31), (1, .int (-2))] [] _ 0 0 _
  refine x_aloadn (x := 31) rfl rfl ?_
  refine x_iloadn (x := (-2)) rfl rfl ?_
  refine z_putI (N := 13) (w := (-2)) 11 12 rfl f_11_94 rfl (jfin_no TX11 RX11 13 rfl rfl) hD J Sm rfl rfl jk_m2 (pw_31_12 (by omega)) rfl (fun h w1 J Sm => ?_)
  refine x_iloadn (x := (-2)) rfl rfl ?_
  refine x_iret rfl rfl ?_
  show jX m_X11_appeal 3 0 0 50 [(0, .ref 31)] [.int (-2)] _ 0 0 _
  refine x_iret rfl rfl ?_
  exact hQ _ _ (jr_of jk_m2 (by omega)) J Sm
set_option maxRecDepth 100000 in
set_option maxHeartbeats 4000000 in
theorem sf_X11_appeal_r31 {Dy : jH → Prop} {h : jH} {Q : Option Value → jH → Prop} {a1 : Int32} {a2 : Int32} {a3 : Int32} (hD : jDk Dy) (J : jJ jSgX Dy h) (hQ : ∀ (v : Int32) hx9, (-366) ≤ v.toInt ∧ v.toInt ≤ 40 → jJ jSgX Dy hx9 → jSm fp_X11_appeal_r31 h hx9 → Q (some (.int v)) hx9) : jC m_X11_appeal 3 0 0 [.ref 31, .int a1, .int a2, .int a3] h Q := by
  refine jC.of rfl k_X11_appeal rfl ?_
  have Sm := jSm_rf fp_X11_appeal_r31 h
  have ea1 := jfull a1
  have ea2 := jfull a2
  have ea3 := jfull a3
  show jX m_X11_appeal 3 0 0 0 [(0, .ref 31), (1, .int a1), (2, .int a2), (3, .int a3)] [] _ 0 0 _
  refine x_iloadn (x := a2) rfl rfl ?_
  refine x_inst (N := m_X11_isDay) (As := [.int a2]) (st := []) (dx9 := 1) (mc := 0) (ms := 0) (host := "") rfl t_X11_isDay ⟨Or.inl q_11_115, s_X11_isDay⟩ rfl (by decide) rfl rfl ⟨by decide, by decide⟩ (zc_X11_isDay rfl (fun v1 ev1 => ?_))
  show jX m_X11_appeal 3 0 0 4 [(0, .ref 31), (1, .int a1), (2, .int a2), (3, .int a3)] [.int v1] _ 0 0 _
  refine x_ifeq (tgt := 14) rfl rfl (ti_eq rfl jk_0 ⟨fun c2 => ?_, fun c2 => ?_⟩)
  ·
    exact jX.sub (jsb_c rfl jsb_n) (ct_X11_appeal_r31_14 hD hQ  h J Sm)
  ·
    refine x_iloadn (x := a3) rfl rfl ?_
    refine x_inst (N := m_X11_isDay) (As := [.int a3]) (st := []) (dx9 := 1) (mc := 0) (ms := 0) (host := "") rfl t_X11_isDay ⟨Or.inl q_11_115, s_X11_isDay⟩ rfl (by decide) rfl rfl ⟨by decide, by decide⟩ (zc_X11_isDay rfl (fun v3 ev3 => ?_))
    show jX m_X11_appeal 3 0 0 11 [(0, .ref 31), (1, .int a1), (2, .int a2), (3, .int a3)] [.int v3] _ 0 0 _
    refine x_ifne (tgt := 20) rfl rfl (ti_ne rfl jk_0 ⟨fun c4 => ?_, fun c4 => ?_⟩)
    ·
      refine x_aloadn (x := 31) rfl rfl ?_
      refine x_iloadn (x := a1) rfl rfl ?_
      refine x_inv (N := m_X11_isLine) (As := [.int a1]) (b := 31) (st := []) (dx9 := 2) (mc := 0) (ms := 0) (host := "") 11 rfl t_X11_isLine ⟨Or.inl q_11_168, i_X11_isLine.1, i_X11_isLine.2⟩ ⟨by decide, rfl⟩ (congrArg Prod.fst (J.1.1 31 (11, 13) rfl)) rfl (by decide) rfl rfl ⟨by decide, by decide⟩ (jC.of rfl k_X11_isLine rfl ?_)
      show jX m_X11_isLine 2 0 0 0 [(0, .ref 31), (1, .int a1)] [] _ 0 0 _
      refine x_iloadn (x := a1) rfl rfl ?_
      refine x_iflt (tgt := 22) rfl rfl (ti_lt rfl jk_0 ⟨fun c5 => ?_, fun c5 => ?_⟩)
      ·
        refine x_iconst (v := 0) rfl ki_0 ?_
        refine x_zret rfl rfl (by decide) ?_
        show jX m_X11_appeal 3 0 0 25 [(0, .ref 31), (1, .int a1), (2, .int a2), (3, .int a3)] [.int 0] _ 0 0 _
        refine x_ifeq (tgt := 44) rfl rfl (ti_eq jk_0 jk_0 (br_t (by omega) ?_))
        exact jX.sub (jsb_c rfl jsb_n) (ct_X11_appeal_r31_44 hD hQ  h J Sm)
      ·
        refine x_iloadn (x := a1) rfl rfl ?_
        refine x_aloadn (x := 31) rfl rfl ?_
        refine z_getR (N := 13) (b := 32) 11 0 rfl f_11_10 rfl J rfl 3968 ⟨rfl, rfl⟩ rfl ?_
        refine z_getR (N := 20) (b := 33) 1 0 rfl f_11_126 rfl J rfl 4096 ⟨rfl, rfl⟩ rfl ?_
        refine z_getI (N := 4) 8 3 rfl f_11_142 rfl J rfl sg_33_3_4_1_0_1 (fun v6 qv6 ev6 => ?_)
        refine x_icge (tgt := 22) rfl rfl (ti_ge rfl rfl ⟨fun c7 => ?_, fun c7 => ?_⟩)
        ·
          refine x_iconst (v := 0) rfl ki_0 ?_
          refine x_zret rfl rfl (by decide) ?_
          show jX m_X11_appeal 3 0 0 25 [(0, .ref 31), (1, .int a1), (2, .int a2), (3, .int a3)] [.int 0] _ 0 0 _
          refine x_ifeq (tgt := 44) rfl rfl (ti_eq jk_0 jk_0 (br_t (by omega) ?_))
          exact jX.sub (jsb_c rfl jsb_n) (ct_X11_appeal_r31_44 hD hQ  h J Sm)
        ·
          refine x_iconst (v := 1) rfl ki_1 ?_
          refine x_goto (tgt := 23) rfl rfl ?_
          refine x_zret rfl rfl (by decide) ?_
          show jX m_X11_appeal 3 0 0 25 [(0, .ref 31), (1, .int a1), (2, .int a2), (3, .int a3)] [.int 1] _ 0 0 _
          refine x_ifeq (tgt := 44) rfl rfl (ti_eq jk_1 jk_0 (br_f (by omega) ?_))
          refine x_aloadn (x := 31) rfl rfl ?_
          refine z_getR (N := 13) (b := 32) 11 0 rfl f_11_10 rfl J rfl 3968 ⟨rfl, rfl⟩ rfl ?_
          refine z_getR (N := 20) (b := 33) 1 0 rfl f_11_126 rfl J rfl 4096 ⟨rfl, rfl⟩ rfl ?_
          refine x_iloadn (x := a1) rfl rfl ?_
          refine x_iconst (v := 2) rfl ki_2 ?_
          refine x_inv (N := m_X8_at) (As := [.int a1, .int 2]) (b := 33) (st := []) (dx9 := 1) (mc := 0) (ms := 0) (host := "") 8 rfl t_X8_at ⟨Or.inl q_11_171, i_X8_at.1, i_X8_at.2⟩ ⟨by decide, rfl⟩ (congrArg Prod.fst (J.1.1 33 (8, 4) rfl)) rfl (by decide) rfl rfl ⟨by decide, by decide⟩ (sf_X8_at_r33_c2  hD J  (fun v9 h ev9 J S8 => ?_))
          have Sm := jSm_tr rfl Sm S8
          show jX m_X11_appeal 3 0 0 40 [(0, .ref 31), (1, .int a1), (2, .int a2), (3, .int a3)] [.int v9] _ 0 0 _
          refine x_iconst (v := 5) rfl ki_5 ?_
          refine x_iceq (tgt := 51) rfl rfl (ti_eq rfl jk_5 ⟨fun c10 => ?_, fun c10 => ?_⟩)
          ·
            refine x_iloadn (x := a2) rfl rfl ?_
            refine x_aloadn (x := 31) rfl rfl ?_
            refine z_getR (N := 13) (b := 32) 11 0 rfl f_11_10 rfl J rfl 3968 ⟨rfl, rfl⟩ rfl ?_
            refine z_getR (N := 20) (b := 33) 1 0 rfl f_11_126 rfl J rfl 4096 ⟨rfl, rfl⟩ rfl ?_
            refine x_iloadn (x := a1) rfl rfl ?_
            refine x_iconst (v := 1) rfl ki_1 ?_
            refine x_inv (N := m_X8_at) (As := [.int a1, .int 1]) (b := 33) (st := [.int a2]) (dx9 := 1) (mc := 0) (ms := 0) (host := "") 8 rfl t_X8_at ⟨Or.inl q_11_171, i_X8_at.1, i_X8_at.2⟩ ⟨by decide, rfl⟩ (congrArg Prod.fst (J.1.1 33 (8, 4) rfl)) rfl (by decide) rfl rfl ⟨by decide, by decide⟩ (sf_X8_at_r33_c1  hD J  (fun v12 h ev12 J S11 => ?_))
            have Sm := jSm_tr rfl Sm S11
            show jX m_X11_appeal 3 0 0 64 [(0, .ref 31), (1, .int a1), (2, .int a2), (3, .int a3)] [.int v12, .int a2] _ 0 0 _
            refine x_icge (tgt := 73) rfl rfl (ti_ge rfl rfl ⟨fun c13 => ?_, fun c13 => ?_⟩)
            ·
              refine x_aloadn (x := 31) rfl rfl ?_
              refine z_getR (N := 13) (b := 32) 11 0 rfl f_11_10 rfl J rfl 3968 ⟨rfl, rfl⟩ rfl ?_
              refine z_getR (N := 20) (b := 45) 1 6 rfl f_11_402 rfl J rfl 4102 ⟨rfl, rfl⟩ rfl ?_
              refine x_inv (N := m_X8_isFull) (As := []) (b := 45) (st := []) (dx9 := 1) (mc := 0) (ms := 0) (host := "") 8 rfl t_X8_isFull ⟨Or.inl q_11_130, i_X8_isFull.1, i_X8_isFull.2⟩ ⟨by decide, rfl⟩ (congrArg Prod.fst (J.1.1 45 (8, 4) rfl)) rfl (by decide) rfl rfl ⟨by decide, by decide⟩ (sf_X8_isFull_r45  hD J  (fun v15 h ev15 J S14 => ?_))
              have Sm := jSm_tr rfl Sm S14
              show jX m_X11_appeal 3 0 0 83 [(0, .ref 31), (1, .int a1), (2, .int a2), (3, .int a3)] [.int v15] _ 0 0 _
              refine x_ifeq (tgt := 93) rfl rfl (ti_eq rfl jk_0 ⟨fun c16 => ?_, fun c16 => ?_⟩)
              ·
                refine x_aloadn (x := 31) rfl rfl ?_
                refine z_getR (N := 13) (b := 32) 11 0 rfl f_11_10 rfl J rfl 3968 ⟨rfl, rfl⟩ rfl ?_
                refine z_getR (N := 20) (b := 45) 1 6 rfl f_11_402 rfl J rfl 4102 ⟨rfl, rfl⟩ rfl ?_
                refine x_iloadn (x := a3) rfl rfl ?_
                refine x_iloadn (x := a2) rfl rfl ?_
                refine x_iloadn (x := a1) rfl rfl ?_
                refine x_iconst (v := 0) rfl ki_0 ?_
                refine x_iconst (v := 0) rfl ki_0 ?_
                refine x_iconst (v := 0) rfl ki_0 ?_
                refine x_inv (N := m_X8_add) (As := [.int a3, .int a2, .int a1, .int 0, .int 0, .int 0]) (b := 45) (st := []) (dx9 := 2) (mc := 0) (ms := 0) (host := "") 8 rfl t_X8_add ⟨Or.inl q_11_145, i_X8_add.1, i_X8_add.2⟩ ⟨by decide, rfl⟩ (congrArg Prod.fst (J.1.1 45 (8, 4) rfl)) rfl (by decide) rfl rfl ⟨by decide, by decide⟩ (sf_X8_add_r45 (jr_of rfl (by omega)) (jr_of rfl (by omega)) (jr_of rfl (by omega)) (jr_of jk_0 (by omega)) (jr_of jk_0 (by omega)) (jr_of jk_0 (by omega)) hD J  (fun h J S17 => ?_))
                have Sm := jSm_tr rfl Sm S17
                show jX m_X11_appeal 3 0 0 109 [(0, .ref 31), (1, .int a1), (2, .int a2), (3, .int a3)] [] _ 0 0 _
                refine x_aloadn (x := 31) rfl rfl ?_
                refine x_aloadn (x := 31) rfl rfl ?_
                refine z_getR (N := 13) (b := 32) 11 0 rfl f_11_10 rfl J rfl 3968 ⟨rfl, rfl⟩ rfl ?_
                refine z_getR (N := 20) (b := 45) 1 6 rfl f_11_402 rfl J rfl 4102 ⟨rfl, rfl⟩ rfl ?_
                refine z_getI (N := 4) 8 3 rfl f_11_142 rfl J rfl sg_45_3_4_1_0_1 (fun v18 qv18 ev18 => ?_)
                refine x_inv (N := m_X11_accept) (As := [.int v18]) (b := 31) (st := []) (dx9 := 2) (mc := 0) (ms := 0) (host := "") 11 rfl t_X11_accept ⟨Or.inl q_11_165, i_X11_accept.1, i_X11_accept.2⟩ ⟨by decide, rfl⟩ (congrArg Prod.fst (J.1.1 31 (11, 13) rfl)) rfl (by decide) rfl rfl ⟨by decide, by decide⟩ (jC.of rfl k_X11_accept rfl ?_)
                show jX m_X11_accept 2 0 0 0 [(0, .ref 31), (1, .int v18)] [] _ 0 0 _
                refine x_aloadn (x := 31) rfl rfl ?_
                refine x_iconst (v := 0) rfl ki_0 ?_
                refine z_putI (N := 13) (w := 0) 11 12 rfl f_11_94 rfl (jfin_no TX11 RX11 13 rfl rfl) hD J Sm rfl rfl jk_0 (pw_31_12 (by omega)) rfl (fun h w19 J Sm => ?_)
                refine x_aloadn (x := 31) rfl rfl ?_
                refine z_getR (N := 13) (b := 32) 11 0 rfl f_11_10 rfl J rfl 3968 ⟨rfl, rfl⟩ rfl ?_
                refine x_dup rfl rfl ?_
                refine z_getI0 (N := 20) 1 19 rfl f_11_528 rfl J rfl (fun v20 qv20 => ?_)
                have ev20 := jfull v20
                refine x_iconst (v := 1) rfl ki_1 ?_
                refine z_iadd0 rfl (fun v21 => ?_)
                have ev21 := jfull v21
                refine z_putI (N := 20) (w := v21.toInt) 1 19 rfl f_11_528 rfl (jfin_no TX1 RX1 20 rfl rfl) hD J Sm rfl rfl rfl (pw_32_19 trivial) rfl (fun h w22 J Sm => ?_)
                refine x_iloadn (x := v18) rfl rfl ?_
                refine x_iret rfl rfl ?_
                show jX m_X11_appeal 3 0 0 123 [(0, .ref 31), (1, .int a1), (2, .int a2), (3, .int a3)] [.int v18] _ 0 0 _
                refine x_iret rfl rfl ?_
                exact hQ _ _ (jr_of rfl (by omega)) J Sm
              ·
                refine x_aloadn (x := 31) rfl rfl ?_
                refine x_bipush (v := (-5)) rfl kb_m5 ?_
                refine x_inv (N := m_X11_refuse) (As := [.int (-5)]) (b := 31) (st := []) (dx9 := 2) (mc := 0) (ms := 0) (host := "") 11 rfl t_X11_refuse ⟨Or.inl q_11_206, i_X11_refuse.1, i_X11_refuse.2⟩ ⟨by decide, rfl⟩ (congrArg Prod.fst (J.1.1 31 (11, 13) rfl)) rfl (by decide) rfl rfl ⟨by decide, by decide⟩ (jC.of rfl k_X11_refuse rfl ?_)
                show jX m_X11_refuse 2 0 0 0 [(0, .ref 31), (1, .int (-5))] [] _ 0 0 _
                refine x_aloadn (x := 31) rfl rfl ?_
                refine x_iloadn (x := (-5)) rfl rfl ?_
                refine z_putI (N := 13) (w := (-5)) 11 12 rfl f_11_94 rfl (jfin_no TX11 RX11 13 rfl rfl) hD J Sm rfl rfl jk_m5 (pw_31_12 (by omega)) rfl (fun h w23 J Sm => ?_)
                refine x_iloadn (x := (-5)) rfl rfl ?_
                refine x_iret rfl rfl ?_
                show jX m_X11_appeal 3 0 0 92 [(0, .ref 31), (1, .int a1), (2, .int a2), (3, .int a3)] [.int (-5)] _ 0 0 _
                refine x_iret rfl rfl ?_
                exact hQ _ _ (jr_of jk_m5 (by omega)) J Sm
            ·
              refine x_aloadn (x := 31) rfl rfl ?_
              refine x_iconst (v := (-1)) rfl ki_m1 ?_
              refine x_inv (N := m_X11_refuse) (As := [.int (-1)]) (b := 31) (st := []) (dx9 := 2) (mc := 0) (ms := 0) (host := "") 11 rfl t_X11_refuse ⟨Or.inl q_11_206, i_X11_refuse.1, i_X11_refuse.2⟩ ⟨by decide, rfl⟩ (congrArg Prod.fst (J.1.1 31 (11, 13) rfl)) rfl (by decide) rfl rfl ⟨by decide, by decide⟩ (jC.of rfl k_X11_refuse rfl ?_)
              show jX m_X11_refuse 2 0 0 0 [(0, .ref 31), (1, .int (-1))] [] _ 0 0 _
              refine x_aloadn (x := 31) rfl rfl ?_
              refine x_iloadn (x := (-1)) rfl rfl ?_
              refine z_putI (N := 13) (w := (-1)) 11 12 rfl f_11_94 rfl (jfin_no TX11 RX11 13 rfl rfl) hD J Sm rfl rfl jk_m1 (pw_31_12 (by omega)) rfl (fun h w24 J Sm => ?_)
              refine x_iloadn (x := (-1)) rfl rfl ?_
              refine x_iret rfl rfl ?_
              show jX m_X11_appeal 3 0 0 72 [(0, .ref 31), (1, .int a1), (2, .int a2), (3, .int a3)] [.int (-1)] _ 0 0 _
              refine x_iret rfl rfl ?_
              exact hQ _ _ (jr_of jk_m1 (by omega)) J Sm
          ·
            exact jX.sub (jsb_c rfl jsb_n) (ct_X11_appeal_r31_44 hD hQ  h J Sm)
    ·
      exact jX.sub (jsb_c rfl jsb_n) (ct_X11_appeal_r31_14 hD hQ  h J Sm)
def fp_X4_greatestRest_r107 : jFp := []
set_option maxRecDepth 100000 in
set_option maxHeartbeats 4000000 in
theorem ct_X4_greatestRest_r107_41 {Dy : jH → Prop} {h0 : jH} {Q : Option Value → jH → Prop} {R9 : Int} (hD : jDk Dy) (hQ : ∀ (v : Int32) hx9, (-1) ≤ v.toInt ∧ v.toInt ≤ 39 → jJ jSgX Dy hx9 → jSm fp_X4_greatestRest_r107 h0 hx9 → Q (some (.int v)) hx9) (k9 : ∀ (l1 : Int64) (l3 : Int32) (l4 : Int32) (h : jH), 40 - l4.toInt < R9 → (-1) ≤ l3.toInt ∧ l3.toInt ≤ 39 → 0 ≤ l4.toInt ∧ l4.toInt ≤ 40 → jJ jSgX Dy h → jSm fp_X4_greatestRest_r107 h0 h → jX m_X4_greatestRest 2 0 0 9 [(0, .ref 107), (1, .long l1), (3, .int l3), (4, .int l4)] [] h 0 0 Q) : ∀ (l1 : Int64) (l3 : Int32) (l4 : Int32) (h : jH), (-1) ≤ l3.toInt ∧ l3.toInt ≤ 39 → 0 ≤ l4.toInt ∧ l4.toInt ≤ 39 → 40 - l4.toInt ≤ R9 → jJ jSgX Dy h → jSm fp_X4_greatestRest_r107 h0 h → jX m_X4_greatestRest 2 0 0 41 [(0, .ref 107), (1, .long l1), (3, .int l3), (4, .int l4)] [] h 0 0 Q := by
  intro l1 l3 l4 h y0 y1  m9 J Sm
  have el1 := jfullL l1
  refine z_iinc (x := l4) (lsx9 := fun v1 => [(4, .int v1), (0, .ref 107), (1, .long l1), (3, .int l3)]) rfl rfl rfl jko_1 (by omega) rfl (fun _ => rfl) (fun v1 ev1 => ?_)
  refine x_goto (tgt := 9) rfl rfl ?_
  exact jX.sub (jsb_c rfl (jsb_c rfl (jsb_c rfl (jsb_c rfl jsb_n)))) (k9 l1 l3 v1 h (by omega) (jr_of rfl (by omega)) (jr_of rfl (by omega)) J Sm)
set_option maxRecDepth 100000 in
set_option maxHeartbeats 4000000 in
theorem ct_X4_greatestRest_r107_9 {Dy : jH → Prop} {h0 : jH} {Q : Option Value → jH → Prop} (hD : jDk Dy) (hQ : ∀ (v : Int32) hx9, (-1) ≤ v.toInt ∧ v.toInt ≤ 39 → jJ jSgX Dy hx9 → jSm fp_X4_greatestRest_r107 h0 hx9 → Q (some (.int v)) hx9) : ∀ r : Nat, ∀ (l1 : Int64) (l3 : Int32) (l4 : Int32) (h : jH), 40 - l4.toInt < (r : Int) → (-1) ≤ l3.toInt ∧ l3.toInt ≤ 39 → 0 ≤ l4.toInt ∧ l4.toInt ≤ 40 → jJ jSgX Dy h → jSm fp_X4_greatestRest_r107 h0 h → jX m_X4_greatestRest 2 0 0 9 [(0, .ref 107), (1, .long l1), (3, .int l3), (4, .int l4)] [] h 0 0 Q := by
  intro r
  induction r with
  | zero =>
    intro l1 l3 l4 h hm y0 y1   J Sm
    exfalso
    have el1 := jfullL l1
    omega
  | succ r ih =>
    intro l1 l3 l4 h hm y0 y1   J Sm
    have el1 := jfullL l1
    refine x_iload (x := l4) rfl rfl ?_
    refine x_aloadn (x := 107) rfl rfl ?_
    refine x_inv (N := m_X4_houses) (As := []) (b := 107) (st := [.int l4]) (dx9 := 1) (mc := 0) (ms := 0) (host := "") 4 rfl t_X4_houses ⟨Or.inl q_4_107, i_X4_houses.1, i_X4_houses.2⟩ ⟨by decide, rfl⟩ (congrArg Prod.fst (J.1.1 107 (4, 18) rfl)) rfl (by decide) rfl rfl ⟨by decide, by decide⟩ (jC.of rfl k_X4_houses rfl ?_)
    show jX m_X4_houses 1 0 0 0 [(0, .ref 107)] [] _ 0 0 _
    refine x_bipush (v := 40) rfl kb_40 ?_
    refine x_aloadn (x := 107) rfl rfl ?_
    refine z_getR (N := 18) (b := 32) 4 0 rfl f_4_59 rfl J rfl 13696 ⟨rfl, rfl⟩ rfl ?_
    refine z_getR (N := 20) (b := 49) 1 8 rfl f_4_71 rfl J rfl 4104 ⟨rfl, rfl⟩ rfl ?_
    refine z_getI (N := 4) 8 3 rfl f_4_77 rfl J rfl sg_49_3_4_1_0_1 (fun v1 qv1 ev1 => ?_)
    refine z_mmin rfl q_4_82 (by decide) rfl jk_40 rfl (fun v2 ev2 => ?_)
    refine x_iret rfl rfl ?_
    show jX m_X4_greatestRest 2 0 0 15 [(0, .ref 107), (1, .long l1), (3, .int l3), (4, .int l4)] [.int v2, .int l4] _ 0 0 _
    refine x_icge (tgt := 47) rfl rfl (ti_ge rfl rfl ⟨fun c3 => ?_, fun c3 => ?_⟩)
    ·
      refine x_iloadn (x := l3) rfl rfl ?_
      refine x_iret rfl rfl ?_
      exact hQ _ _ (jr_of rfl (by omega)) J Sm
    ·
      refine x_aloadn (x := 107) rfl rfl ?_
      refine z_getR (N := 18) (b := 110) 4 5 rfl f_4_18 rfl J rfl 13701 ⟨rfl, rfl⟩ rfl ?_
      refine x_iload (x := l4) rfl rfl ?_
      refine z_lald0 (N := 40) rfl J rfl rfl (by omega) (fun v4 => ?_)
      have ev4 := jfullL v4
      refine x_lloadn (x := l1) rfl rfl ?_
      refine z_lcmp rfl rfl rfl (fun v5 ev5 => ?_)
      refine x_ifle (tgt := 41) rfl rfl (ti_le rfl jk_0 ⟨fun c6 => ?_, fun c6 => ?_⟩)
      ·
        exact jX.sub (jsb_c rfl (jsb_c rfl (jsb_c rfl (jsb_c rfl jsb_n)))) (ct_X4_greatestRest_r107_41 hD hQ ih l1 l3 l4 h (jr_of rfl (by omega)) (jr_of rfl (by omega)) (by omega) J Sm)
      ·
        refine x_aloadn (x := 107) rfl rfl ?_
        refine z_getR (N := 18) (b := 110) 4 5 rfl f_4_18 rfl J rfl 13701 ⟨rfl, rfl⟩ rfl ?_
        refine x_iload (x := l4) rfl rfl ?_
        refine z_lald0 (N := 40) rfl J rfl rfl (by omega) (fun v7 => ?_)
        have ev7 := jfullL v7
        refine x_lstoren (lsx9 := [(1, .long v7), (0, .ref 107), (3, .int l3), (4, .int l4)]) rfl rfl rfl ?_
        refine x_iload (x := l4) rfl rfl ?_
        refine x_istoren (lsx9 := [(3, .int l4), (1, .long v7), (0, .ref 107), (4, .int l4)]) rfl rfl rfl ?_
        exact jX.sub (jsb_c rfl (jsb_c rfl (jsb_c rfl (jsb_c rfl jsb_n)))) (ct_X4_greatestRest_r107_41 hD hQ ih v7 l4 l4 h (jr_of rfl (by omega)) (jr_of rfl (by omega)) (by omega) J Sm)
set_option maxRecDepth 100000 in
set_option maxHeartbeats 4000000 in
theorem sf_X4_greatestRest_r107 {Dy : jH → Prop} {h : jH} {Q : Option Value → jH → Prop} (hD : jDk Dy) (J : jJ jSgX Dy h) (hQ : ∀ (v : Int32) hx9, (-1) ≤ v.toInt ∧ v.toInt ≤ 39 → jJ jSgX Dy hx9 → jSm fp_X4_greatestRest_r107 h hx9 → Q (some (.int v)) hx9) : jC m_X4_greatestRest 2 0 0 [.ref 107] h Q := by
  refine jC.of rfl k_X4_greatestRest rfl ?_
  have Sm := jSm_rf fp_X4_greatestRest_r107 h
  show jX m_X4_greatestRest 2 0 0 0 [(0, .ref 107)] [] _ 0 0 _
  refine x_ldc2 (v := (-1)) rfl z_4_137 ?_
  refine x_lstoren (lsx9 := [(1, .long (-1)), (0, .ref 107)]) rfl rfl rfl ?_
  refine x_iconst (v := (-1)) rfl ki_m1 ?_
  refine x_istoren (lsx9 := [(3, .int (-1)), (1, .long (-1)), (0, .ref 107)]) rfl rfl rfl ?_
  refine x_iconst (v := 0) rfl ki_0 ?_
  refine x_istore (lsx9 := [(4, .int 0), (3, .int (-1)), (1, .long (-1)), (0, .ref 107)]) rfl rfl rfl ?_
  exact jX.sub (jsb_c rfl (jsb_c rfl (jsb_c rfl (jsb_c rfl jsb_n)))) (ct_X4_greatestRest_r107_9 hD hQ  41 (-1) (-1) 0 h (by have := jk_0; omega) (jr_of jk_m1 (by omega)) (jr_of jk_0 (by omega)) J Sm)
def fp_X4_share_r107 : jFp := [(108, 0, 40), (110, 0, 40)]
set_option maxRecDepth 100000 in
set_option maxHeartbeats 4000000 in
theorem ct_X4_share_r107_175 {Dy : jH → Prop} {h0 : jH} {Q : Option Value → jH → Prop} (hD : jDk Dy) (hQ : ∀ hx9, jJ jSgX Dy hx9 → jSm fp_X4_share_r107 h0 hx9 → Q none hx9) : ∀ (h : jH), jJ jSgX Dy h → jSm fp_X4_share_r107 h0 h → jX m_X4_share 3 0 0 175 [] [] h 0 0 Q := by
  intro  h    J Sm
  refine x_vret rfl rfl ?_
  exact hQ _ J Sm
set_option maxRecDepth 100000 in
set_option maxHeartbeats 4000000 in
theorem ct_X4_share_r107_163 {Dy : jH → Prop} {h0 : jH} {Q : Option Value → jH → Prop} {R116 : Int} (hD : jDk Dy) (hQ : ∀ hx9, jJ jSgX Dy hx9 → jSm fp_X4_share_r107 h0 hx9 → Q none hx9) (k116 : ∀ (l4 : Int64) (l6 : Int32) (h : jH), 40 - l6.toInt < R116 → 0 ≤ l6.toInt ∧ l6.toInt ≤ 40 → jJ jSgX Dy h → jSm fp_X4_share_r107 h0 h → jX m_X4_share 3 0 0 116 [(0, .ref 107), (4, .long l4), (6, .int l6)] [] h 0 0 Q) : ∀ (l4 : Int64) (l6 : Int32) (h : jH), 1 ≤ l4.toInt ∧ l4.toInt ≤ 9223372036854775807 → 0 ≤ l6.toInt ∧ l6.toInt ≤ 39 → 40 - l6.toInt ≤ R116 → jJ jSgX Dy h → jSm fp_X4_share_r107 h0 h → jX m_X4_share 3 0 0 163 [(0, .ref 107), (4, .long l4), (6, .int l6)] [] h 0 0 Q := by
  intro l4 l6 h y0 y1  m116 J Sm
  refine x_lload (x := l4) rfl rfl ?_
  refine x_lconst (v := 1) rfl kl_1 ?_
  refine z_lsub rfl rfl jkl_1 (by omega) (fun v1 ev1 => ?_)
  refine x_lstore (lsx9 := [(4, .long v1), (0, .ref 107), (6, .int l6)]) rfl rfl rfl ?_
  refine z_iinc (x := l6) (lsx9 := fun v2 => [(6, .int v2), (4, .long v1), (0, .ref 107)]) rfl rfl rfl jko_1 (by omega) rfl (fun _ => rfl) (fun v2 ev2 => ?_)
  refine x_goto (tgt := 116) rfl rfl ?_
  exact jX.sub (jsb_c rfl (jsb_c rfl (jsb_c rfl jsb_n))) (k116 v1 v2 h (by omega) (jr_of rfl (by omega)) J Sm)
set_option maxRecDepth 100000 in
set_option maxHeartbeats 4000000 in
theorem ct_X4_share_r107_116 {Dy : jH → Prop} {h0 : jH} {Q : Option Value → jH → Prop} (hD : jDk Dy) (hQ : ∀ hx9, jJ jSgX Dy hx9 → jSm fp_X4_share_r107 h0 hx9 → Q none hx9) : ∀ r : Nat, ∀ (l4 : Int64) (l6 : Int32) (h : jH), 40 - l6.toInt < (r : Int) → 0 ≤ l6.toInt ∧ l6.toInt ≤ 40 → jJ jSgX Dy h → jSm fp_X4_share_r107 h0 h → jX m_X4_share 3 0 0 116 [(0, .ref 107), (4, .long l4), (6, .int l6)] [] h 0 0 Q := by
  intro r
  induction r with
  | zero =>
    intro l4 l6 h hm y0   J Sm
    exfalso
    have el4 := jfullL l4
    omega
  | succ r ih =>
    intro l4 l6 h hm y0   J Sm
    have el4 := jfullL l4
    refine x_iload (x := l6) rfl rfl ?_
    refine x_bipush (v := 40) rfl kb_40 ?_
    refine x_icge (tgt := 175) rfl rfl (ti_ge rfl jk_40 ⟨fun c1 => ?_, fun c1 => ?_⟩)
    ·
      exact jX.sub jsb_n (ct_X4_share_r107_175 hD hQ  h J Sm)
    ·
      refine x_lload (x := l4) rfl rfl ?_
      refine x_lconst (v := 0) rfl kl_0 ?_
      refine z_lcmp rfl rfl jkl_0 (fun v2 ev2 => ?_)
      refine x_ifle (tgt := 175) rfl rfl (ti_le rfl jk_0 ⟨fun c3 => ?_, fun c3 => ?_⟩)
      ·
        exact jX.sub jsb_n (ct_X4_share_r107_175 hD hQ  h J Sm)
      ·
        refine x_aloadn (x := 107) rfl rfl ?_
        refine x_inv (N := m_X4_greatestRest) (As := []) (b := 107) (st := []) (dx9 := 2) (mc := 0) (ms := 0) (host := "") 4 rfl t_X4_greatestRest ⟨Or.inl q_4_139, i_X4_greatestRest.1, i_X4_greatestRest.2⟩ ⟨by decide, rfl⟩ (congrArg Prod.fst (J.1.1 107 (4, 18) rfl)) rfl (by decide) rfl rfl ⟨by decide, by decide⟩ (sf_X4_greatestRest_r107  hD J  (fun v5 h ev5 J S4 => ?_))
        have Sm := jSm_tr rfl Sm S4
        show jX m_X4_share 3 0 0 134 [(0, .ref 107), (4, .long l4), (6, .int l6)] [.int v5] _ 0 0 _
        refine x_istore (lsx9 := [(7, .int v5), (0, .ref 107), (4, .long l4), (6, .int l6)]) rfl rfl rfl ?_
        refine x_iload (x := v5) rfl rfl ?_
        refine x_iconst (v := (-1)) rfl ki_m1 ?_
        refine x_iceq (tgt := 163) rfl rfl (ti_eq rfl jk_m1 ⟨fun c6 => ?_, fun c6 => ?_⟩)
        ·
          exact jX.sub (jsb_c rfl (jsb_c rfl (jsb_c rfl jsb_n))) (ct_X4_share_r107_163 hD hQ ih l4 l6 h (jr_ofl rfl (by omega)) (jr_of rfl (by omega)) (by omega) J Sm)
        ·
          refine x_aloadn (x := 107) rfl rfl ?_
          refine z_getR (N := 18) (b := 108) 4 3 rfl f_4_9 rfl J rfl 13699 ⟨rfl, rfl⟩ rfl ?_
          refine x_iload (x := v5) rfl rfl ?_
          refine x_dup2 rfl rfl rfl ?_
          refine z_iald0 (N := 40) rfl J rfl rfl (by omega) (fun v7 qv7 => ?_)
          have ev7 := jfull v7
          refine x_iconst (v := 1) rfl ki_1 ?_
          refine z_iadd0 rfl (fun v8 => ?_)
          have ev8 := jfull v8
          refine z_iast (N := 40) (l := 0) (u := 40) (w := v8.toInt) rfl hD J Sm rfl rfl rfl (by omega) rfl (wr_108) rfl (fun h w9 J Sm => ?_)
          refine x_aloadn (x := 107) rfl rfl ?_
          refine z_getR (N := 18) (b := 110) 4 5 rfl f_4_18 rfl J rfl 13701 ⟨rfl, rfl⟩ rfl ?_
          refine x_iload (x := v5) rfl rfl ?_
          refine x_ldc2 (v := (-1)) rfl z_4_137 ?_
          refine z_last (N := 40) (l := 0) (u := 40) rfl hD J Sm rfl rfl rfl (by omega) rfl (fun h w10 J Sm => ?_)
          exact jX.sub (jsb_c rfl (jsb_c rfl (jsb_c rfl jsb_n))) (ct_X4_share_r107_163 hD hQ ih l4 l6 h (jr_ofl rfl (by omega)) (jr_of rfl (by omega)) (by omega) J Sm)
set_option maxRecDepth 100000 in
set_option maxHeartbeats 4000000 in
theorem ct_X4_share_r107_93 {Dy : jH → Prop} {h0 : jH} {Q : Option Value → jH → Prop} {R17 : Int} (hD : jDk Dy) (hQ : ∀ hx9, jJ jSgX Dy hx9 → jSm fp_X4_share_r107 h0 hx9 → Q none hx9) (k17 : ∀ (l1 : Int32) (l2 : Int64) (l4 : Int64) (l6 : Int32) (h : jH), 40 - l6.toInt < R17 → 0 ≤ l1.toInt ∧ l1.toInt ≤ 1000000 → 0 ≤ l6.toInt ∧ l6.toInt ≤ 40 → jJ jSgX Dy h → jSm fp_X4_share_r107 h0 h → jX m_X4_share 3 0 0 17 [(0, .ref 107), (1, .int l1), (2, .long l2), (4, .long l4), (6, .int l6)] [] h 0 0 Q) : ∀ (l1 : Int32) (l2 : Int64) (l4 : Int64) (l6 : Int32) (s0 : Int64) (s1 : Int32) (h : jH), 0 ≤ l1.toInt ∧ l1.toInt ≤ 1000000 → 0 ≤ l6.toInt ∧ l6.toInt ≤ 39 → 0 ≤ s1.toInt ∧ s1.toInt ≤ 39 → l2.toInt ≠ 0 → 40 - l6.toInt ≤ R17 → jJ jSgX Dy h → jSm fp_X4_share_r107 h0 h → jX m_X4_share 3 0 0 93 [(0, .ref 107), (1, .int l1), (2, .long l2), (4, .long l4), (6, .int l6)] [.long s0, .int s1, .ref 110] h 0 0 Q := by
  intro l1 l2 l4 l6 s0 s1 h y0 y1 y2 y3  m17 J Sm
  have el2 := jfullL l2
  have el4 := jfullL l4
  have es0 := jfullL s0
  refine z_last (N := 40) (l := 0) (u := 40) rfl hD J Sm rfl rfl rfl (by omega) rfl (fun h w1 J Sm => ?_)
  refine x_lload (x := l4) rfl rfl ?_
  refine x_aloadn (x := 107) rfl rfl ?_
  refine z_getR (N := 18) (b := 108) 4 3 rfl f_4_9 rfl J rfl 13699 ⟨rfl, rfl⟩ rfl ?_
  refine x_iload (x := l6) rfl rfl ?_
  refine z_iald0 (N := 40) rfl J rfl rfl (by omega) (fun v2 qv2 => ?_)
  have ev2 := jfull v2
  refine z_i2l rfl rfl (fun v3 ev3 => ?_)
  refine z_lsub0 rfl (fun v4 => ?_)
  have ev4 := jfullL v4
  refine x_lstore (lsx9 := [(4, .long v4), (0, .ref 107), (1, .int l1), (2, .long l2), (6, .int l6)]) rfl rfl rfl ?_
  refine z_iinc (x := l6) (lsx9 := fun v5 => [(6, .int v5), (4, .long v4), (0, .ref 107), (1, .int l1), (2, .long l2)]) rfl rfl rfl jko_1 (by omega) rfl (fun _ => rfl) (fun v5 ev5 => ?_)
  refine x_goto (tgt := 17) rfl rfl ?_
  exact jX.sub (jsb_c rfl (jsb_c rfl (jsb_c rfl (jsb_c rfl (jsb_c rfl jsb_n))))) (k17 l1 l2 v4 v5 h (by omega) (jr_of rfl (by omega)) (jr_of rfl (by omega)) J Sm)
set_option maxRecDepth 100000 in
set_option maxHeartbeats 4000000 in
theorem ct_X4_share_r107_5000093 {Dy : jH → Prop} {h0 : jH} {Q : Option Value → jH → Prop} {R17 : Int} (hD : jDk Dy) (hQ : ∀ hx9, jJ jSgX Dy hx9 → jSm fp_X4_share_r107 h0 hx9 → Q none hx9) (k17 : ∀ (l1 : Int32) (l2 : Int64) (l4 : Int64) (l6 : Int32) (h : jH), 40 - l6.toInt < R17 → 0 ≤ l1.toInt ∧ l1.toInt ≤ 1000000 → 0 ≤ l6.toInt ∧ l6.toInt ≤ 40 → jJ jSgX Dy h → jSm fp_X4_share_r107 h0 h → jX m_X4_share 3 0 0 17 [(0, .ref 107), (1, .int l1), (2, .long l2), (4, .long l4), (6, .int l6)] [] h 0 0 Q) : ∀ (l1 : Int32) (l2 : Int64) (l4 : Int64) (l6 : Int32) (s1 : Int32) (h : jH), 0 ≤ l1.toInt ∧ l1.toInt ≤ 1000000 → 0 ≤ l6.toInt ∧ l6.toInt ≤ 39 → 0 ≤ s1.toInt ∧ s1.toInt ≤ 39 → 40 - l6.toInt ≤ R17 → jJ jSgX Dy h → jSm fp_X4_share_r107 h0 h → jX m_X4_share 3 0 0 93 [(0, .ref 107), (1, .int l1), (2, .long l2), (4, .long l4), (6, .int l6)] [.long (-1), .int s1, .ref 110] h 0 0 Q := by
  intro l1 l2 l4 l6 s1 h y0 y1 y2  m17 J Sm
  have el2 := jfullL l2
  have el4 := jfullL l4
  refine z_last (N := 40) (l := 0) (u := 40) rfl hD J Sm rfl rfl rfl (by omega) rfl (fun h w1 J Sm => ?_)
  refine x_lload (x := l4) rfl rfl ?_
  refine x_aloadn (x := 107) rfl rfl ?_
  refine z_getR (N := 18) (b := 108) 4 3 rfl f_4_9 rfl J rfl 13699 ⟨rfl, rfl⟩ rfl ?_
  refine x_iload (x := l6) rfl rfl ?_
  refine z_iald0 (N := 40) rfl J rfl rfl (by omega) (fun v2 qv2 => ?_)
  have ev2 := jfull v2
  refine z_i2l rfl rfl (fun v3 ev3 => ?_)
  refine z_lsub0 rfl (fun v4 => ?_)
  have ev4 := jfullL v4
  refine x_lstore (lsx9 := [(4, .long v4), (0, .ref 107), (1, .int l1), (2, .long l2), (6, .int l6)]) rfl rfl rfl ?_
  refine z_iinc (x := l6) (lsx9 := fun v5 => [(6, .int v5), (4, .long v4), (0, .ref 107), (1, .int l1), (2, .long l2)]) rfl rfl rfl jko_1 (by omega) rfl (fun _ => rfl) (fun v5 ev5 => ?_)
  refine x_goto (tgt := 17) rfl rfl ?_
  exact jX.sub (jsb_c rfl (jsb_c rfl (jsb_c rfl (jsb_c rfl (jsb_c rfl jsb_n))))) (k17 l1 l2 v4 v5 h (by omega) (jr_of rfl (by omega)) (jr_of rfl (by omega)) J Sm)
set_option maxRecDepth 100000 in
set_option maxHeartbeats 4000000 in
theorem ct_X4_share_r107_83 {Dy : jH → Prop} {h0 : jH} {Q : Option Value → jH → Prop} {R17 : Int} (hD : jDk Dy) (hQ : ∀ hx9, jJ jSgX Dy hx9 → jSm fp_X4_share_r107 h0 hx9 → Q none hx9) (k17 : ∀ (l1 : Int32) (l2 : Int64) (l4 : Int64) (l6 : Int32) (h : jH), 40 - l6.toInt < R17 → 0 ≤ l1.toInt ∧ l1.toInt ≤ 1000000 → 0 ≤ l6.toInt ∧ l6.toInt ≤ 40 → jJ jSgX Dy h → jSm fp_X4_share_r107 h0 h → jX m_X4_share 3 0 0 17 [(0, .ref 107), (1, .int l1), (2, .long l2), (4, .long l4), (6, .int l6)] [] h 0 0 Q) : ∀ (l1 : Int32) (l2 : Int64) (l4 : Int64) (l6 : Int32) (s0 : Int32) (h : jH), 0 ≤ l1.toInt ∧ l1.toInt ≤ 1000000 → 0 ≤ l6.toInt ∧ l6.toInt ≤ 39 → 0 ≤ s0.toInt ∧ s0.toInt ≤ 39 → 40 - l6.toInt ≤ R17 → jJ jSgX Dy h → jSm fp_X4_share_r107 h0 h → jX m_X4_share 3 0 0 83 [(0, .ref 107), (1, .int l1), (2, .long l2), (4, .long l4), (6, .int l6)] [.int s0, .ref 110] h 0 0 Q := by
  intro l1 l2 l4 l6 s0 h y0 y1 y2  m17 J Sm
  have el2 := jfullL l2
  have el4 := jfullL l4
  refine x_ldc2 (v := (-1)) rfl z_4_137 ?_
  refine x_goto (tgt := 93) rfl rfl ?_
  exact jX.sub (jsb_c rfl (jsb_c rfl (jsb_c rfl (jsb_c rfl (jsb_c rfl jsb_n))))) (ct_X4_share_r107_5000093 hD hQ k17 l1 l2 l4 l6 s0 h (jr_of rfl (by omega)) (jr_of rfl (by omega)) (jr_of rfl (by omega)) (by omega) J Sm)
set_option maxRecDepth 100000 in
set_option maxHeartbeats 4000000 in
theorem ct_X4_share_r107_60 {Dy : jH → Prop} {h0 : jH} {Q : Option Value → jH → Prop} {R17 : Int} (hD : jDk Dy) (hQ : ∀ hx9, jJ jSgX Dy hx9 → jSm fp_X4_share_r107 h0 hx9 → Q none hx9) (k17 : ∀ (l1 : Int32) (l2 : Int64) (l4 : Int64) (l6 : Int32) (h : jH), 40 - l6.toInt < R17 → 0 ≤ l1.toInt ∧ l1.toInt ≤ 1000000 → 0 ≤ l6.toInt ∧ l6.toInt ≤ 40 → jJ jSgX Dy h → jSm fp_X4_share_r107 h0 h → jX m_X4_share 3 0 0 17 [(0, .ref 107), (1, .int l1), (2, .long l2), (4, .long l4), (6, .int l6)] [] h 0 0 Q) : ∀ (l1 : Int32) (l2 : Int64) (l4 : Int64) (l6 : Int32) (l7 : Int64) (s0 : Int32) (s1 : Int32) (h : jH), 0 ≤ l1.toInt ∧ l1.toInt ≤ 1000000 → 0 ≤ l6.toInt ∧ l6.toInt ≤ 39 → 0 ≤ s1.toInt ∧ s1.toInt ≤ 39 → l2.toInt ≠ 0 → 40 - l6.toInt ≤ R17 → jJ jSgX Dy h → jSm fp_X4_share_r107 h0 h → jX m_X4_share 3 0 0 60 [(0, .ref 107), (1, .int l1), (2, .long l2), (4, .long l4), (6, .int l6), (7, .long l7)] [.int s0, .int s1, .ref 108] h 0 0 Q := by
  intro l1 l2 l4 l6 l7 s0 s1 h y0 y1 y2 y3  m17 J Sm
  have el2 := jfullL l2
  have el4 := jfullL l4
  have el7 := jfullL l7
  have es0 := jfull s0
  refine z_iast (N := 40) (l := 0) (u := 40) (w := s0.toInt) rfl hD J Sm rfl rfl rfl (by omega) rfl (wr_108) rfl (fun h w1 J Sm => ?_)
  refine x_aloadn (x := 107) rfl rfl ?_
  refine z_getR (N := 18) (b := 110) 4 5 rfl f_4_18 rfl J rfl 13701 ⟨rfl, rfl⟩ rfl ?_
  refine x_iload (x := l6) rfl rfl ?_
  refine x_lloadn (x := l2) rfl rfl ?_
  refine x_lconst (v := 0) rfl kl_0 ?_
  refine z_lcmp rfl rfl jkl_0 (fun v2 ev2 => ?_)
  refine x_ifeq (tgt := 83) rfl rfl (ti_eq rfl jk_0 ⟨fun c3 => ?_, fun c3 => ?_⟩)
  ·
    exact jX.sub (jsb_c rfl (jsb_c rfl (jsb_c rfl (jsb_c rfl (jsb_c rfl jsb_n))))) (ct_X4_share_r107_83 hD hQ k17 l1 l2 l4 l6 l6 h (jr_of rfl (by omega)) (jr_of rfl (by omega)) (jr_of rfl (by omega)) (by omega) J Sm)
  ·
    refine x_aloadn (x := 107) rfl rfl ?_
    refine z_getR (N := 18) (b := 109) 4 4 rfl f_4_15 rfl J rfl 13700 ⟨rfl, rfl⟩ rfl ?_
    refine x_iload (x := l6) rfl rfl ?_
    refine z_iald0 (N := 40) rfl J rfl rfl (by omega) (fun v4 qv4 => ?_)
    have ev4 := jfull v4
    refine x_ifne (tgt := 89) rfl rfl (ti_ne rfl jk_0 ⟨fun c5 => ?_, fun c5 => ?_⟩)
    ·
      refine x_lload (x := l7) rfl rfl ?_
      refine x_lloadn (x := l2) rfl rfl ?_
      refine z_lrem0 rfl rfl (by omega) (fun v6 => ?_)
      have ev6 := jfullL v6
      exact jX.sub (jsb_c rfl (jsb_c rfl (jsb_c rfl (jsb_c rfl (jsb_c rfl jsb_n))))) (ct_X4_share_r107_93 hD hQ k17 l1 l2 l4 l6 v6 l6 h (jr_of rfl (by omega)) (jr_of rfl (by omega)) (jr_of rfl (by omega)) (by omega) (by omega) J Sm)
    ·
      exact jX.sub (jsb_c rfl (jsb_c rfl (jsb_c rfl (jsb_c rfl (jsb_c rfl jsb_n))))) (ct_X4_share_r107_83 hD hQ k17 l1 l2 l4 l6 l6 h (jr_of rfl (by omega)) (jr_of rfl (by omega)) (jr_of rfl (by omega)) (by omega) J Sm)
set_option maxRecDepth 100000 in
set_option maxHeartbeats 4000000 in
theorem ct_X4_share_r107_200060 {Dy : jH → Prop} {h0 : jH} {Q : Option Value → jH → Prop} {R17 : Int} (hD : jDk Dy) (hQ : ∀ hx9, jJ jSgX Dy hx9 → jSm fp_X4_share_r107 h0 hx9 → Q none hx9) (k17 : ∀ (l1 : Int32) (l2 : Int64) (l4 : Int64) (l6 : Int32) (h : jH), 40 - l6.toInt < R17 → 0 ≤ l1.toInt ∧ l1.toInt ≤ 1000000 → 0 ≤ l6.toInt ∧ l6.toInt ≤ 40 → jJ jSgX Dy h → jSm fp_X4_share_r107 h0 h → jX m_X4_share 3 0 0 17 [(0, .ref 107), (1, .int l1), (2, .long l2), (4, .long l4), (6, .int l6)] [] h 0 0 Q) : ∀ (l1 : Int32) (l2 : Int64) (l4 : Int64) (l6 : Int32) (l7 : Int64) (s1 : Int32) (h : jH), 0 ≤ l1.toInt ∧ l1.toInt ≤ 1000000 → 0 ≤ l2.toInt ∧ l2.toInt ≤ 0 → 0 ≤ l6.toInt ∧ l6.toInt ≤ 39 → 0 ≤ s1.toInt ∧ s1.toInt ≤ 39 → 40 - l6.toInt ≤ R17 → jJ jSgX Dy h → jSm fp_X4_share_r107 h0 h → jX m_X4_share 3 0 0 60 [(0, .ref 107), (1, .int l1), (2, .long l2), (4, .long l4), (6, .int l6), (7, .long l7)] [.int 0, .int s1, .ref 108] h 0 0 Q := by
  intro l1 l2 l4 l6 l7 s1 h y0 y1 y2 y3  m17 J Sm
  have el4 := jfullL l4
  have el7 := jfullL l7
  refine z_iast (N := 40) (l := 0) (u := 40) (w := 0) rfl hD J Sm rfl rfl rfl (by omega) jk_0 (wr_108) rfl (fun h w1 J Sm => ?_)
  refine x_aloadn (x := 107) rfl rfl ?_
  refine z_getR (N := 18) (b := 110) 4 5 rfl f_4_18 rfl J rfl 13701 ⟨rfl, rfl⟩ rfl ?_
  refine x_iload (x := l6) rfl rfl ?_
  refine x_lloadn (x := l2) rfl rfl ?_
  refine x_lconst (v := 0) rfl kl_0 ?_
  refine z_lcmp rfl rfl jkl_0 (fun v2 ev2 => ?_)
  refine x_ifeq (tgt := 83) rfl rfl (ti_eq rfl jk_0 (br_t (by omega) ?_))
  exact jX.sub (jsb_c rfl (jsb_c rfl (jsb_c rfl (jsb_c rfl (jsb_c rfl jsb_n))))) (ct_X4_share_r107_83 hD hQ k17 l1 l2 l4 l6 l6 h (jr_of rfl (by omega)) (jr_of rfl (by omega)) (jr_of rfl (by omega)) (by omega) J Sm)
set_option maxRecDepth 100000 in
set_option maxHeartbeats 4000000 in
theorem ct_X4_share_r107_17 {Dy : jH → Prop} {h0 : jH} {Q : Option Value → jH → Prop} (hD : jDk Dy) (hQ : ∀ hx9, jJ jSgX Dy hx9 → jSm fp_X4_share_r107 h0 hx9 → Q none hx9) : ∀ r : Nat, ∀ (l1 : Int32) (l2 : Int64) (l4 : Int64) (l6 : Int32) (h : jH), 40 - l6.toInt < (r : Int) → 0 ≤ l1.toInt ∧ l1.toInt ≤ 1000000 → 0 ≤ l6.toInt ∧ l6.toInt ≤ 40 → jJ jSgX Dy h → jSm fp_X4_share_r107 h0 h → jX m_X4_share 3 0 0 17 [(0, .ref 107), (1, .int l1), (2, .long l2), (4, .long l4), (6, .int l6)] [] h 0 0 Q := by
  intro r
  induction r with
  | zero =>
    intro l1 l2 l4 l6 h hm y0 y1   J Sm
    exfalso
    have el2 := jfullL l2
    have el4 := jfullL l4
    omega
  | succ r ih =>
    intro l1 l2 l4 l6 h hm y0 y1   J Sm
    have el2 := jfullL l2
    have el4 := jfullL l4
    refine x_iload (x := l6) rfl rfl ?_
    refine x_aloadn (x := 107) rfl rfl ?_
    refine x_inv (N := m_X4_houses) (As := []) (b := 107) (st := [.int l6]) (dx9 := 2) (mc := 0) (ms := 0) (host := "") 4 rfl t_X4_houses ⟨Or.inl q_4_107, i_X4_houses.1, i_X4_houses.2⟩ ⟨by decide, rfl⟩ (congrArg Prod.fst (J.1.1 107 (4, 18) rfl)) rfl (by decide) rfl rfl ⟨by decide, by decide⟩ (jC.of rfl k_X4_houses rfl ?_)
    show jX m_X4_houses 2 0 0 0 [(0, .ref 107)] [] _ 0 0 _
    refine x_bipush (v := 40) rfl kb_40 ?_
    refine x_aloadn (x := 107) rfl rfl ?_
    refine z_getR (N := 18) (b := 32) 4 0 rfl f_4_59 rfl J rfl 13696 ⟨rfl, rfl⟩ rfl ?_
    refine z_getR (N := 20) (b := 49) 1 8 rfl f_4_71 rfl J rfl 4104 ⟨rfl, rfl⟩ rfl ?_
    refine z_getI (N := 4) 8 3 rfl f_4_77 rfl J rfl sg_49_3_4_1_0_1 (fun v1 qv1 ev1 => ?_)
    refine z_mmin rfl q_4_82 (by decide) rfl jk_40 rfl (fun v2 ev2 => ?_)
    refine x_iret rfl rfl ?_
    show jX m_X4_share 3 0 0 23 [(0, .ref 107), (1, .int l1), (2, .long l2), (4, .long l4), (6, .int l6)] [.int v2, .int l6] _ 0 0 _
    refine x_icge (tgt := 113) rfl rfl (ti_ge rfl rfl ⟨fun c3 => ?_, fun c3 => ?_⟩)
    ·
      refine x_iconst (v := 0) rfl ki_0 ?_
      refine x_istore (lsx9 := [(6, .int 0), (0, .ref 107), (1, .int l1), (2, .long l2), (4, .long l4)]) rfl rfl rfl ?_
      exact jX.sub (jsb_c rfl (jsb_c rfl (jsb_c rfl jsb_n))) (ct_X4_share_r107_116 hD hQ  41 l4 0 h (by have := jk_0; omega) (jr_of jk_0 (by omega)) J Sm)
    ·
      refine x_iloadn (x := l1) rfl rfl ?_
      refine z_i2l rfl rfl (fun v4 ev4 => ?_)
      refine x_aloadn (x := 107) rfl rfl ?_
      refine z_getR (N := 18) (b := 109) 4 4 rfl f_4_15 rfl J rfl 13700 ⟨rfl, rfl⟩ rfl ?_
      refine x_iload (x := l6) rfl rfl ?_
      refine z_iald0 (N := 40) rfl J rfl rfl (by omega) (fun v5 qv5 => ?_)
      have ev5 := jfull v5
      refine z_i2l rfl rfl (fun v6 ev6 => ?_)
      refine z_lmul0 rfl (fun v7 => ?_)
      have ev7 := jfullL v7
      refine x_lstore (lsx9 := [(7, .long v7), (0, .ref 107), (1, .int l1), (2, .long l2), (4, .long l4), (6, .int l6)]) rfl rfl rfl ?_
      refine x_aloadn (x := 107) rfl rfl ?_
      refine z_getR (N := 18) (b := 108) 4 3 rfl f_4_9 rfl J rfl 13699 ⟨rfl, rfl⟩ rfl ?_
      refine x_iload (x := l6) rfl rfl ?_
      refine x_lloadn (x := l2) rfl rfl ?_
      refine x_lconst (v := 0) rfl kl_0 ?_
      refine z_lcmp rfl rfl jkl_0 (fun v8 ev8 => ?_)
      refine x_ifne (tgt := 55) rfl rfl (ti_ne rfl jk_0 ⟨fun c9 => ?_, fun c9 => ?_⟩)
      ·
        refine x_lload (x := v7) rfl rfl ?_
        refine x_lloadn (x := l2) rfl rfl ?_
        refine z_ldiv0 rfl rfl (by omega) (fun v10 => ?_)
        have ev10 := jfullL v10
        refine z_l2i0 rfl (fun v11 => ?_)
        exact jX.sub (jsb_c rfl (jsb_c rfl (jsb_c rfl (jsb_c rfl (jsb_c rfl (jsb_c rfl jsb_n)))))) (ct_X4_share_r107_60 hD hQ ih l1 l2 l4 l6 v7 v11 l6 h (jr_of rfl (by omega)) (jr_of rfl (by omega)) (jr_of rfl (by omega)) (by omega) (by omega) J Sm)
      ·
        refine x_iconst (v := 0) rfl ki_0 ?_
        refine x_goto (tgt := 60) rfl rfl ?_
        exact jX.sub (jsb_c rfl (jsb_c rfl (jsb_c rfl (jsb_c rfl (jsb_c rfl (jsb_c rfl jsb_n)))))) (ct_X4_share_r107_200060 hD hQ ih l1 l2 l4 l6 v7 l6 h (jr_of rfl (by omega)) (jr_ofl rfl (by omega)) (jr_of rfl (by omega)) (jr_of rfl (by omega)) (by omega) J Sm)
set_option maxRecDepth 100000 in
set_option maxHeartbeats 4000000 in
theorem ct_X4_share_r107_12 {Dy : jH → Prop} {h0 : jH} {Q : Option Value → jH → Prop} (hD : jDk Dy) (hQ : ∀ hx9, jJ jSgX Dy hx9 → jSm fp_X4_share_r107 h0 hx9 → Q none hx9) : ∀ (l1 : Int32) (l2 : Int64) (s0 : Int64) (h : jH), 0 ≤ l1.toInt ∧ l1.toInt ≤ 1000000 → 0 ≤ s0.toInt ∧ s0.toInt ≤ 1000000 → l2.toInt ≠ 0 → jJ jSgX Dy h → jSm fp_X4_share_r107 h0 h → jX m_X4_share 3 0 0 12 [(0, .ref 107), (1, .int l1), (2, .long l2)] [.long s0] h 0 0 Q := by
  intro l1 l2 s0 h y0 y1 y2   J Sm
  have el2 := jfullL l2
  refine x_lstore (lsx9 := [(4, .long s0), (0, .ref 107), (1, .int l1), (2, .long l2)]) rfl rfl rfl ?_
  refine x_iconst (v := 0) rfl ki_0 ?_
  refine x_istore (lsx9 := [(6, .int 0), (4, .long s0), (0, .ref 107), (1, .int l1), (2, .long l2)]) rfl rfl rfl ?_
  exact jX.sub (jsb_c rfl (jsb_c rfl (jsb_c rfl (jsb_c rfl (jsb_c rfl jsb_n))))) (ct_X4_share_r107_17 hD hQ  41 l1 l2 s0 0 h (by have := jk_0; omega) (jr_of rfl (by omega)) (jr_of jk_0 (by omega)) J Sm)
set_option maxRecDepth 100000 in
set_option maxHeartbeats 4000000 in
theorem ct_X4_share_r107_5000012 {Dy : jH → Prop} {h0 : jH} {Q : Option Value → jH → Prop} (hD : jDk Dy) (hQ : ∀ hx9, jJ jSgX Dy hx9 → jSm fp_X4_share_r107 h0 hx9 → Q none hx9) : ∀ (l1 : Int32) (l2 : Int64) (h : jH), 0 ≤ l1.toInt ∧ l1.toInt ≤ 1000000 → 0 ≤ l2.toInt ∧ l2.toInt ≤ 0 → jJ jSgX Dy h → jSm fp_X4_share_r107 h0 h → jX m_X4_share 3 0 0 12 [(0, .ref 107), (1, .int l1), (2, .long l2)] [.long 0] h 0 0 Q := by
  intro l1 l2 h y0 y1   J Sm
  refine x_lstore (lsx9 := [(4, .long 0), (0, .ref 107), (1, .int l1), (2, .long l2)]) rfl rfl rfl ?_
  refine x_iconst (v := 0) rfl ki_0 ?_
  refine x_istore (lsx9 := [(6, .int 0), (4, .long 0), (0, .ref 107), (1, .int l1), (2, .long l2)]) rfl rfl rfl ?_
  exact jX.sub (jsb_c rfl (jsb_c rfl (jsb_c rfl (jsb_c rfl (jsb_c rfl jsb_n))))) (ct_X4_share_r107_17 hD hQ  41 l1 l2 0 0 h (by have := jk_0; omega) (jr_of rfl (by omega)) (jr_of jk_0 (by omega)) J Sm)
set_option maxRecDepth 100000 in
set_option maxHeartbeats 4000000 in
theorem sf_X4_share_r107 {Dy : jH → Prop} {h : jH} {Q : Option Value → jH → Prop} {a1 : Int32} {a2 : Int64} (y1 : 0 ≤ a1.toInt ∧ a1.toInt ≤ 1000000) (hD : jDk Dy) (J : jJ jSgX Dy h) (hQ : ∀ hx9, jJ jSgX Dy hx9 → jSm fp_X4_share_r107 h hx9 → Q none hx9) : jC m_X4_share 3 0 0 [.ref 107, .int a1, .long a2] h Q := by
  refine jC.of rfl k_X4_share rfl ?_
  have Sm := jSm_rf fp_X4_share_r107 h
  have ea2 := jfullL a2
  show jX m_X4_share 3 0 0 0 [(0, .ref 107), (1, .int a1), (2, .long a2)] [] _ 0 0 _
  refine x_lloadn (x := a2) rfl rfl ?_
  refine x_lconst (v := 0) rfl kl_0 ?_
  refine z_lcmp rfl rfl jkl_0 (fun v1 ev1 => ?_)
  refine x_ifne (tgt := 10) rfl rfl (ti_ne rfl jk_0 ⟨fun c2 => ?_, fun c2 => ?_⟩)
  ·
    refine x_iloadn (x := a1) rfl rfl ?_
    refine z_i2l rfl rfl (fun v3 ev3 => ?_)
    exact jX.sub (jsb_c rfl (jsb_c rfl (jsb_c rfl jsb_n))) (ct_X4_share_r107_12 hD hQ  a1 a2 v3 h (jr_of rfl (by omega)) (jr_ofl rfl (by omega)) (by omega) J Sm)
  ·
    refine x_lconst (v := 0) rfl kl_0 ?_
    refine x_goto (tgt := 12) rfl rfl ?_
    exact jX.sub (jsb_c rfl (jsb_c rfl (jsb_c rfl jsb_n))) (ct_X4_share_r107_5000012 hD hQ  a1 a2 h (jr_of rfl (by omega)) (jr_ofl rfl (by omega)) J Sm)
def fp_X8_at_r53_c1 : jFp := []
set_option maxRecDepth 100000 in
set_option maxHeartbeats 4000000 in
theorem ct_X8_at_r53_c1_24 {Dy : jH → Prop} {h0 : jH} {Q : Option Value → jH → Prop} (hD : jDk Dy) (hQ : ∀ (v : Int32) hx9, 0 ≤ v.toInt ∧ v.toInt ≤ 399 → jJ jSgX Dy hx9 → jSm fp_X8_at_r53_c1 h0 hx9 → Q (some (.int v)) hx9) : ∀ (h : jH), jJ jSgX Dy h → jSm fp_X8_at_r53_c1 h0 h → jX m_X8_at 1 0 0 24 [] [] h 0 0 Q := by
  intro  h    J Sm
  refine x_iconst (v := 0) rfl ki_0 ?_
  refine x_iret rfl rfl ?_
  exact hQ _ _ (jr_of jk_0 (by omega)) J Sm
set_option maxRecDepth 100000 in
set_option maxHeartbeats 4000000 in
theorem sf_X8_at_r53_c1 {Dy : jH → Prop} {h : jH} {Q : Option Value → jH → Prop} {a1 : Int32} (hD : jDk Dy) (J : jJ jSgX Dy h) (hQ : ∀ (v : Int32) hx9, 0 ≤ v.toInt ∧ v.toInt ≤ 399 → jJ jSgX Dy hx9 → jSm fp_X8_at_r53_c1 h hx9 → Q (some (.int v)) hx9) : jC m_X8_at 1 0 0 [.ref 53, .int a1, .int 1] h Q := by
  refine jC.of rfl k_X8_at rfl ?_
  have Sm := jSm_rf fp_X8_at_r53_c1 h
  have ea1 := jfull a1
  show jX m_X8_at 1 0 0 0 [(0, .ref 53), (1, .int a1), (2, .int 1)] [] _ 0 0 _
  refine x_iloadn (x := a1) rfl rfl ?_
  refine x_iflt (tgt := 24) rfl rfl (ti_lt rfl jk_0 ⟨fun c1 => ?_, fun c1 => ?_⟩)
  ·
    exact jX.sub jsb_n (ct_X8_at_r53_c1_24 hD hQ  h J Sm)
  ·
    refine x_iloadn (x := a1) rfl rfl ?_
    refine x_aloadn (x := 53) rfl rfl ?_
    refine z_getI (N := 4) 8 3 rfl f_8_7 rfl J rfl sg_53_3_4_1_0_1 (fun v2 qv2 ev2 => ?_)
    refine x_icge (tgt := 24) rfl rfl (ti_ge rfl rfl ⟨fun c3 => ?_, fun c3 => ?_⟩)
    ·
      exact jX.sub jsb_n (ct_X8_at_r53_c1_24 hD hQ  h J Sm)
    ·
      refine x_iloadn (x := 1) rfl rfl ?_
      refine x_iflt (tgt := 24) rfl rfl (ti_lt jk_1 jk_0 (br_f (by omega) ?_))
      refine x_iloadn (x := 1) rfl rfl ?_
      refine x_aloadn (x := 53) rfl rfl ?_
      refine z_getC (N := 4) (v := 4) 8 0 rfl f_8_19 rfl J rfl sg_53_0_1_1_0_1 jk_4 ?_
      refine x_iclt (tgt := 26) rfl rfl (ti_lt jk_1 jk_4 (br_t (by omega) ?_))
      refine x_aloadn (x := 53) rfl rfl ?_
      refine z_getR (N := 4) (b := 54) 8 2 rfl f_8_25 rfl J rfl 6786 ⟨rfl, rfl⟩ rfl ?_
      refine x_iloadn (x := a1) rfl rfl ?_
      refine x_aloadn (x := 53) rfl rfl ?_
      refine z_getC (N := 4) (v := 4) 8 0 rfl f_8_19 rfl J rfl sg_53_0_1_1_0_1 jk_4 ?_
      refine z_imul rfl rfl jk_4 (by omega) (fun v4 ev4 => ?_)
      refine x_iloadn (x := 1) rfl rfl ?_
      refine z_iadd rfl rfl jk_1 (by omega) (fun v5 ev5 => ?_)
      refine z_iald (N := 160) rfl J rfl sg_54_0_160_4_1_2 rfl (by omega) (fun v6 qv6 ev6 => ?_)
      refine x_iret rfl rfl ?_
      exact hQ _ _ (jr_of rfl (by omega)) J Sm
def fp_X8_at_r53_c2 : jFp := []
set_option maxRecDepth 100000 in
set_option maxHeartbeats 4000000 in
theorem ct_X8_at_r53_c2_24 {Dy : jH → Prop} {h0 : jH} {Q : Option Value → jH → Prop} (hD : jDk Dy) (hQ : ∀ (v : Int32) hx9, 0 ≤ v.toInt ∧ v.toInt ≤ 2 → jJ jSgX Dy hx9 → jSm fp_X8_at_r53_c2 h0 hx9 → Q (some (.int v)) hx9) : ∀ (h : jH), jJ jSgX Dy h → jSm fp_X8_at_r53_c2 h0 h → jX m_X8_at 1 0 0 24 [] [] h 0 0 Q := by
  intro  h    J Sm
  refine x_iconst (v := 0) rfl ki_0 ?_
  refine x_iret rfl rfl ?_
  exact hQ _ _ (jr_of jk_0 (by omega)) J Sm
set_option maxRecDepth 100000 in
set_option maxHeartbeats 4000000 in
theorem sf_X8_at_r53_c2 {Dy : jH → Prop} {h : jH} {Q : Option Value → jH → Prop} {a1 : Int32} (hD : jDk Dy) (J : jJ jSgX Dy h) (hQ : ∀ (v : Int32) hx9, 0 ≤ v.toInt ∧ v.toInt ≤ 2 → jJ jSgX Dy hx9 → jSm fp_X8_at_r53_c2 h hx9 → Q (some (.int v)) hx9) : jC m_X8_at 1 0 0 [.ref 53, .int a1, .int 2] h Q := by
  refine jC.of rfl k_X8_at rfl ?_
  have Sm := jSm_rf fp_X8_at_r53_c2 h
  have ea1 := jfull a1
  show jX m_X8_at 1 0 0 0 [(0, .ref 53), (1, .int a1), (2, .int 2)] [] _ 0 0 _
  refine x_iloadn (x := a1) rfl rfl ?_
  refine x_iflt (tgt := 24) rfl rfl (ti_lt rfl jk_0 ⟨fun c1 => ?_, fun c1 => ?_⟩)
  ·
    exact jX.sub jsb_n (ct_X8_at_r53_c2_24 hD hQ  h J Sm)
  ·
    refine x_iloadn (x := a1) rfl rfl ?_
    refine x_aloadn (x := 53) rfl rfl ?_
    refine z_getI (N := 4) 8 3 rfl f_8_7 rfl J rfl sg_53_3_4_1_0_1 (fun v2 qv2 ev2 => ?_)
    refine x_icge (tgt := 24) rfl rfl (ti_ge rfl rfl ⟨fun c3 => ?_, fun c3 => ?_⟩)
    ·
      exact jX.sub jsb_n (ct_X8_at_r53_c2_24 hD hQ  h J Sm)
    ·
      refine x_iloadn (x := 2) rfl rfl ?_
      refine x_iflt (tgt := 24) rfl rfl (ti_lt jk_2 jk_0 (br_f (by omega) ?_))
      refine x_iloadn (x := 2) rfl rfl ?_
      refine x_aloadn (x := 53) rfl rfl ?_
      refine z_getC (N := 4) (v := 4) 8 0 rfl f_8_19 rfl J rfl sg_53_0_1_1_0_1 jk_4 ?_
      refine x_iclt (tgt := 26) rfl rfl (ti_lt jk_2 jk_4 (br_t (by omega) ?_))
      refine x_aloadn (x := 53) rfl rfl ?_
      refine z_getR (N := 4) (b := 54) 8 2 rfl f_8_25 rfl J rfl 6786 ⟨rfl, rfl⟩ rfl ?_
      refine x_iloadn (x := a1) rfl rfl ?_
      refine x_aloadn (x := 53) rfl rfl ?_
      refine z_getC (N := 4) (v := 4) 8 0 rfl f_8_19 rfl J rfl sg_53_0_1_1_0_1 jk_4 ?_
      refine z_imul rfl rfl jk_4 (by omega) (fun v4 ev4 => ?_)
      refine x_iloadn (x := 2) rfl rfl ?_
      refine z_iadd rfl rfl jk_2 (by omega) (fun v5 ev5 => ?_)
      refine z_iald (N := 160) rfl J rfl sg_54_0_160_4_2_3 rfl (by omega) (fun v6 qv6 ev6 => ?_)
      refine x_iret rfl rfl ?_
      exact hQ _ _ (jr_of rfl (by omega)) J Sm
def fp_X8_at_r53_c3 : jFp := []
set_option maxRecDepth 100000 in
set_option maxHeartbeats 4000000 in
theorem ct_X8_at_r53_c3_24 {Dy : jH → Prop} {h0 : jH} {Q : Option Value → jH → Prop} (hD : jDk Dy) (hQ : ∀ (v : Int32) hx9, 0 ≤ v.toInt ∧ v.toInt ≤ 1000000 → jJ jSgX Dy hx9 → jSm fp_X8_at_r53_c3 h0 hx9 → Q (some (.int v)) hx9) : ∀ (h : jH), jJ jSgX Dy h → jSm fp_X8_at_r53_c3 h0 h → jX m_X8_at 1 0 0 24 [] [] h 0 0 Q := by
  intro  h    J Sm
  refine x_iconst (v := 0) rfl ki_0 ?_
  refine x_iret rfl rfl ?_
  exact hQ _ _ (jr_of jk_0 (by omega)) J Sm
set_option maxRecDepth 100000 in
set_option maxHeartbeats 4000000 in
theorem sf_X8_at_r53_c3 {Dy : jH → Prop} {h : jH} {Q : Option Value → jH → Prop} {a1 : Int32} (hD : jDk Dy) (J : jJ jSgX Dy h) (hQ : ∀ (v : Int32) hx9, 0 ≤ v.toInt ∧ v.toInt ≤ 1000000 → jJ jSgX Dy hx9 → jSm fp_X8_at_r53_c3 h hx9 → Q (some (.int v)) hx9) : jC m_X8_at 1 0 0 [.ref 53, .int a1, .int 3] h Q := by
  refine jC.of rfl k_X8_at rfl ?_
  have Sm := jSm_rf fp_X8_at_r53_c3 h
  have ea1 := jfull a1
  show jX m_X8_at 1 0 0 0 [(0, .ref 53), (1, .int a1), (2, .int 3)] [] _ 0 0 _
  refine x_iloadn (x := a1) rfl rfl ?_
  refine x_iflt (tgt := 24) rfl rfl (ti_lt rfl jk_0 ⟨fun c1 => ?_, fun c1 => ?_⟩)
  ·
    exact jX.sub jsb_n (ct_X8_at_r53_c3_24 hD hQ  h J Sm)
  ·
    refine x_iloadn (x := a1) rfl rfl ?_
    refine x_aloadn (x := 53) rfl rfl ?_
    refine z_getI (N := 4) 8 3 rfl f_8_7 rfl J rfl sg_53_3_4_1_0_1 (fun v2 qv2 ev2 => ?_)
    refine x_icge (tgt := 24) rfl rfl (ti_ge rfl rfl ⟨fun c3 => ?_, fun c3 => ?_⟩)
    ·
      exact jX.sub jsb_n (ct_X8_at_r53_c3_24 hD hQ  h J Sm)
    ·
      refine x_iloadn (x := 3) rfl rfl ?_
      refine x_iflt (tgt := 24) rfl rfl (ti_lt jk_3 jk_0 (br_f (by omega) ?_))
      refine x_iloadn (x := 3) rfl rfl ?_
      refine x_aloadn (x := 53) rfl rfl ?_
      refine z_getC (N := 4) (v := 4) 8 0 rfl f_8_19 rfl J rfl sg_53_0_1_1_0_1 jk_4 ?_
      refine x_iclt (tgt := 26) rfl rfl (ti_lt jk_3 jk_4 (br_t (by omega) ?_))
      refine x_aloadn (x := 53) rfl rfl ?_
      refine z_getR (N := 4) (b := 54) 8 2 rfl f_8_25 rfl J rfl 6786 ⟨rfl, rfl⟩ rfl ?_
      refine x_iloadn (x := a1) rfl rfl ?_
      refine x_aloadn (x := 53) rfl rfl ?_
      refine z_getC (N := 4) (v := 4) 8 0 rfl f_8_19 rfl J rfl sg_53_0_1_1_0_1 jk_4 ?_
      refine z_imul rfl rfl jk_4 (by omega) (fun v4 ev4 => ?_)
      refine x_iloadn (x := 3) rfl rfl ?_
      refine z_iadd rfl rfl jk_3 (by omega) (fun v5 ev5 => ?_)
      refine z_iald (N := 160) rfl J rfl sg_54_0_160_4_3_4 rfl (by omega) (fun v6 qv6 ev6 => ?_)
      refine x_iret rfl rfl ?_
      exact hQ _ _ (jr_of rfl (by omega)) J Sm
def fp_X4_partOut_r107 : jFp := [(85, 0, 4), (98, 10, 11), (98, 11, 12), (98, 12, 13), (98, 13, 14), (98, 14, 15), (98, 15, 16), (99, 0, 30), (100, 0, 30), (101, 0, 3), (102, 0, 40), (103, 0, 40), (104, 0, 40), (105, 0, 3), (106, 0, 100), (108, 0, 40), (109, 0, 40), (110, 0, 40), (111, 0, 3)]
set_option maxRecDepth 100000 in
set_option maxHeartbeats 4000000 in
theorem ct_X4_partOut_r107_269 {Dy : jH → Prop} {h0 : jH} {Q : Option Value → jH → Prop} {R198 : Int} (hD : jDk Dy) (hQ : ∀ hx9, jJ jSgX Dy hx9 → jSm fp_X4_partOut_r107 h0 hx9 → Q none hx9) (k198 : ∀ (l3 : Int32) (l7 : Int32) (g0 : Int32) (h : jH), 40 - l7.toInt < R198 → 0 ≤ l3.toInt ∧ l3.toInt ≤ 2 → 0 ≤ l7.toInt ∧ l7.toInt ≤ 40 → 0 ≤ g0.toInt ∧ g0.toInt ≤ 40 → jiv h 49 3 = g0 → jJ jSgX Dy h → jSm fp_X4_partOut_r107 h0 h → jX m_X4_partOut 7 0 0 198 [(0, .ref 107), (3, .int l3), (7, .int l7)] [] h 0 0 Q) : ∀ (l3 : Int32) (l7 : Int32) (g0 : Int32) (h : jH), 0 ≤ l3.toInt ∧ l3.toInt ≤ 2 → 0 ≤ l7.toInt ∧ l7.toInt ≤ 39 → 0 ≤ g0.toInt ∧ g0.toInt ≤ 40 → jiv h 49 3 = g0 → 40 - l7.toInt ≤ R198 → jJ jSgX Dy h → jSm fp_X4_partOut_r107 h0 h → jX m_X4_partOut 7 0 0 269 [(0, .ref 107), (3, .int l3), (7, .int l7)] [] h 0 0 Q := by
  intro l3 l7 g0 h y0 y1 y2 z0 m198 J Sm
  refine z_iinc (x := l7) (lsx9 := fun v1 => [(7, .int v1), (0, .ref 107), (3, .int l3)]) rfl rfl rfl jko_1 (by omega) rfl (fun _ => rfl) (fun v1 ev1 => ?_)
  refine x_goto (tgt := 198) rfl rfl ?_
  exact jX.sub (jsb_c rfl (jsb_c rfl (jsb_c rfl jsb_n))) (k198 l3 v1 g0 h (by omega) (jr_of rfl (by omega)) (jr_of rfl (by omega)) (jr_of rfl (by omega)) z0 J Sm)
set_option maxRecDepth 100000 in
set_option maxHeartbeats 4000000 in
theorem ct_X4_partOut_r107_198 {Dy : jH → Prop} {h0 : jH} {Q : Option Value → jH → Prop} (hD : jDk Dy) (hQ : ∀ hx9, jJ jSgX Dy hx9 → jSm fp_X4_partOut_r107 h0 hx9 → Q none hx9) : ∀ r : Nat, ∀ (l3 : Int32) (l7 : Int32) (g0 : Int32) (h : jH), 40 - l7.toInt < (r : Int) → 0 ≤ l3.toInt ∧ l3.toInt ≤ 2 → 0 ≤ l7.toInt ∧ l7.toInt ≤ 40 → 0 ≤ g0.toInt ∧ g0.toInt ≤ 40 → jiv h 49 3 = g0 → jJ jSgX Dy h → jSm fp_X4_partOut_r107 h0 h → jX m_X4_partOut 7 0 0 198 [(0, .ref 107), (3, .int l3), (7, .int l7)] [] h 0 0 Q := by
  intro r
  induction r with
  | zero =>
    intro l3 l7 g0 h hm y0 y1 y2 z0  J Sm
    exfalso
    omega
  | succ r ih =>
    intro l3 l7 g0 h hm y0 y1 y2 z0  J Sm
    refine x_iload (x := l7) rfl rfl ?_
    refine x_aloadn (x := 107) rfl rfl ?_
    refine x_inv (N := m_X4_houses) (As := []) (b := 107) (st := [.int l7]) (dx9 := 6) (mc := 0) (ms := 0) (host := "") 4 rfl t_X4_houses ⟨Or.inl q_4_107, i_X4_houses.1, i_X4_houses.2⟩ ⟨by decide, rfl⟩ (congrArg Prod.fst (J.1.1 107 (4, 18) rfl)) rfl (by decide) rfl rfl ⟨by decide, by decide⟩ (jC.of rfl k_X4_houses rfl ?_)
    show jX m_X4_houses 6 0 0 0 [(0, .ref 107)] [] _ 0 0 _
    refine x_bipush (v := 40) rfl kb_40 ?_
    refine x_aloadn (x := 107) rfl rfl ?_
    refine z_getR (N := 18) (b := 32) 4 0 rfl f_4_59 rfl J rfl 13696 ⟨rfl, rfl⟩ rfl ?_
    refine z_getR (N := 20) (b := 49) 1 8 rfl f_4_71 rfl J rfl 4104 ⟨rfl, rfl⟩ rfl ?_
    refine z_getM (N := 4) (v := g0) 8 3 rfl f_4_77 rfl J rfl z0 ?_
    refine z_mmin rfl q_4_82 (by decide) rfl jk_40 rfl (fun v1 ev1 => ?_)
    refine x_iret rfl rfl ?_
    show jX m_X4_partOut 7 0 0 204 [(0, .ref 107), (3, .int l3), (7, .int l7)] [.int v1, .int l7] _ 0 0 _
    refine x_icge (tgt := 275) rfl rfl (ti_ge rfl rfl ⟨fun c2 => ?_, fun c2 => ?_⟩)
    ·
      refine x_vret rfl rfl ?_
      exact hQ _ J Sm
    ·
      refine x_aloadn (x := 107) rfl rfl ?_
      refine z_getR (N := 18) (b := 108) 4 3 rfl f_4_9 rfl J rfl 13699 ⟨rfl, rfl⟩ rfl ?_
      refine x_iload (x := l7) rfl rfl ?_
      refine z_iald0 (N := 40) rfl J rfl rfl (by omega) (fun v3 qv3 => ?_)
      have ev3 := jfull v3
      refine x_ifle (tgt := 269) rfl rfl (ti_le rfl jk_0 ⟨fun c4 => ?_, fun c4 => ?_⟩)
      ·
        exact jX.sub (jsb_c rfl (jsb_c rfl (jsb_c rfl jsb_n))) (ct_X4_partOut_r107_269 hD hQ ih l3 l7 g0 h (jr_of rfl (by omega)) (jr_of rfl (by omega)) (jr_of rfl (by omega)) z0 (by omega) J Sm)
      ·
        refine x_aloadn (x := 107) rfl rfl ?_
        refine z_getR (N := 18) (b := 98) 4 2 rfl f_4_67 rfl J rfl 13698 ⟨rfl, rfl⟩ rfl ?_
        refine x_iconst (v := 2) rfl ki_2 ?_
        refine x_iloadn (x := l3) rfl rfl ?_
        refine x_aloadn (x := 107) rfl rfl ?_
        refine z_getR (N := 18) (b := 98) 4 2 rfl f_4_67 rfl J rfl 13698 ⟨rfl, rfl⟩ rfl ?_
        refine z_getR (N := 16) (b := 103) 0 6 rfl f_4_114 rfl J rfl 12550 ⟨rfl, rfl⟩ rfl ?_
        refine x_iload (x := l7) rfl rfl ?_
        refine z_iald (N := 40) rfl J rfl sg_103_0_40_1_0_1 rfl (by omega) (fun v5 qv5 ev5 => ?_)
        refine x_inv (N := m_X0_weigh) (As := [.int 2, .int l3, .int v5]) (b := 98) (st := []) (dx9 := 6) (mc := 0) (ms := 0) (host := "") 0 rfl t_X0_weigh ⟨Or.inl q_4_119, i_X0_weigh.1, i_X0_weigh.2⟩ ⟨by decide, rfl⟩ (congrArg Prod.fst (J.1.1 98 (0, 16) rfl)) rfl (by decide) rfl rfl ⟨by decide, by decide⟩ (sf_X0_weigh_r98 (jr_of jk_2 (by omega)) (jr_of rfl (by omega)) (jr_of rfl (by omega)) hD J  (fun v7 h ev7 J S6 => ?_))
        have Sm := jSm_tr rfl Sm S6
        show jX m_X4_partOut 7 0 0 236 [(0, .ref 107), (3, .int l3), (7, .int l7)] [.int v7] _ 0 0 _
        refine x_ifeq (tgt := 269) rfl rfl (ti_eq rfl jk_0 ⟨fun c8 => ?_, fun c8 => ?_⟩)
        ·
          exact jX.sub (jsb_c rfl (jsb_c rfl (jsb_c rfl jsb_n))) (ct_X4_partOut_r107_269 hD hQ ih l3 l7 g0 h (jr_of rfl (by omega)) (jr_of rfl (by omega)) (jr_of rfl (by omega)) (jmc S6 rfl z0) (by omega) J Sm)
        ·
          refine x_aloadn (x := 107) rfl rfl ?_
          refine z_getR (N := 18) (b := 108) 4 3 rfl f_4_9 rfl J rfl 13699 ⟨rfl, rfl⟩ rfl ?_
          refine x_iload (x := l7) rfl rfl ?_
          refine x_aloadn (x := 107) rfl rfl ?_
          refine z_getR (N := 18) (b := 108) 4 3 rfl f_4_9 rfl J rfl 13699 ⟨rfl, rfl⟩ rfl ?_
          refine x_iload (x := l7) rfl rfl ?_
          refine z_ialdM (N := 40) (v := v3) rfl J rfl rfl (by omega) (jmc S6 rfl qv3) ?_
          refine z_i2l rfl rfl (fun v9 ev9 => ?_)
          refine x_lconst (v := 0) rfl kl_0 ?_
          refine x_aloadn (x := 107) rfl rfl ?_
          refine z_getR (N := 18) (b := 98) 4 2 rfl f_4_67 rfl J rfl 13698 ⟨rfl, rfl⟩ rfl ?_
          refine z_getL0 (N := 16) 0 14 rfl f_4_127 rfl J rfl (fun v10 => ?_)
          have ev10 := jfullL v10
          refine z_lmax rfl q_4_131 (by decide) rfl jkl_0 rfl (fun v11 ev11 => ?_)
          refine z_lmin rfl q_4_135 (by decide) rfl rfl rfl (fun v12 ev12 => ?_)
          refine z_l2i rfl rfl (by omega) (fun v13 ev13 => ?_)
          refine z_iast (N := 40) (l := 0) (u := 40) (w := v13.toInt) rfl hD J Sm rfl rfl rfl (by omega) rfl (wr_108) rfl (fun h w14 J Sm => ?_)
          exact jX.sub (jsb_c rfl (jsb_c rfl (jsb_c rfl jsb_n))) (ct_X4_partOut_r107_269 hD hQ ih l3 l7 g0 h (jr_of rfl (by omega)) (jr_of rfl (by omega)) (jr_of rfl (by omega)) (jmo w14 rfl (jmc S6 rfl z0)) (by omega) J Sm)
set_option maxRecDepth 100000 in
set_option maxHeartbeats 4000000 in
theorem ct_X4_partOut_r107_200167 {Dy : jH → Prop} {h0 : jH} {Q : Option Value → jH → Prop} {R77 : Int} (hD : jDk Dy) (hQ : ∀ hx9, jJ jSgX Dy hx9 → jSm fp_X4_partOut_r107 h0 hx9 → Q none hx9) (k77 : ∀ (l3 : Int32) (l4 : Int32) (l5 : Int64) (l7 : Int32) (h : jH), 40 - l7.toInt < R77 → 0 ≤ l3.toInt ∧ l3.toInt ≤ 2 → 0 ≤ l4.toInt ∧ l4.toInt ≤ 1000000 → 0 ≤ l7.toInt ∧ l7.toInt ≤ 40 → jJ jSgX Dy h → jSm fp_X4_partOut_r107 h0 h → jX m_X4_partOut 7 0 0 77 [(0, .ref 107), (3, .int l3), (4, .int l4), (5, .long l5), (7, .int l7)] [] h 0 0 Q) : ∀ (l3 : Int32) (l4 : Int32) (l5 : Int64) (l7 : Int32) (s1 : Int32) (h : jH), 0 ≤ l3.toInt ∧ l3.toInt ≤ 2 → 0 ≤ l4.toInt ∧ l4.toInt ≤ 1000000 → 0 ≤ l7.toInt ∧ l7.toInt ≤ 39 → 0 ≤ s1.toInt ∧ s1.toInt ≤ 39 → 40 - l7.toInt ≤ R77 → jJ jSgX Dy h → jSm fp_X4_partOut_r107 h0 h → jX m_X4_partOut 7 0 0 167 [(0, .ref 107), (3, .int l3), (4, .int l4), (5, .long l5), (7, .int l7)] [.int 0, .int s1, .ref 109] h 0 0 Q := by
  intro l3 l4 l5 l7 s1 h y0 y1 y2 y3  m77 J Sm
  have el5 := jfullL l5
  refine z_iast (N := 40) (l := 0) (u := 40) (w := 0) rfl hD J Sm rfl rfl rfl (by omega) jk_0 (wr_109) rfl (fun h w1 J Sm => ?_)
  refine x_lload (x := l5) rfl rfl ?_
  refine x_aloadn (x := 107) rfl rfl ?_
  refine z_getR (N := 18) (b := 109) 4 4 rfl f_4_15 rfl J rfl 13700 ⟨rfl, rfl⟩ rfl ?_
  refine x_iload (x := l7) rfl rfl ?_
  refine z_iald0 (N := 40) rfl J rfl rfl (by omega) (fun v2 qv2 => ?_)
  have ev2 := jfull v2
  refine z_i2l rfl rfl (fun v3 ev3 => ?_)
  refine z_ladd0 rfl (fun v4 => ?_)
  have ev4 := jfullL v4
  refine x_lstore (lsx9 := [(5, .long v4), (0, .ref 107), (3, .int l3), (4, .int l4), (7, .int l7)]) rfl rfl rfl ?_
  refine z_iinc (x := l7) (lsx9 := fun v5 => [(7, .int v5), (5, .long v4), (0, .ref 107), (3, .int l3), (4, .int l4)]) rfl rfl rfl jko_1 (by omega) rfl (fun _ => rfl) (fun v5 ev5 => ?_)
  refine x_goto (tgt := 77) rfl rfl ?_
  exact jX.sub (jsb_c rfl (jsb_c rfl (jsb_c rfl (jsb_c rfl (jsb_c rfl jsb_n))))) (k77 l3 l4 v4 v5 h (by omega) (jr_of rfl (by omega)) (jr_of rfl (by omega)) (jr_of rfl (by omega)) J Sm)
set_option maxRecDepth 100000 in
set_option maxHeartbeats 4000000 in
theorem ct_X4_partOut_r107_167 {Dy : jH → Prop} {h0 : jH} {Q : Option Value → jH → Prop} {R77 : Int} (hD : jDk Dy) (hQ : ∀ hx9, jJ jSgX Dy hx9 → jSm fp_X4_partOut_r107 h0 hx9 → Q none hx9) (k77 : ∀ (l3 : Int32) (l4 : Int32) (l5 : Int64) (l7 : Int32) (h : jH), 40 - l7.toInt < R77 → 0 ≤ l3.toInt ∧ l3.toInt ≤ 2 → 0 ≤ l4.toInt ∧ l4.toInt ≤ 1000000 → 0 ≤ l7.toInt ∧ l7.toInt ≤ 40 → jJ jSgX Dy h → jSm fp_X4_partOut_r107 h0 h → jX m_X4_partOut 7 0 0 77 [(0, .ref 107), (3, .int l3), (4, .int l4), (5, .long l5), (7, .int l7)] [] h 0 0 Q) : ∀ (l3 : Int32) (l4 : Int32) (l5 : Int64) (l7 : Int32) (s0 : Int32) (s1 : Int32) (h : jH), 0 ≤ l3.toInt ∧ l3.toInt ≤ 2 → 0 ≤ l4.toInt ∧ l4.toInt ≤ 1000000 → 0 ≤ l7.toInt ∧ l7.toInt ≤ 39 → 0 ≤ s1.toInt ∧ s1.toInt ≤ 39 → 40 - l7.toInt ≤ R77 → jJ jSgX Dy h → jSm fp_X4_partOut_r107 h0 h → jX m_X4_partOut 7 0 0 167 [(0, .ref 107), (3, .int l3), (4, .int l4), (5, .long l5), (7, .int l7)] [.int s0, .int s1, .ref 109] h 0 0 Q := by
  intro l3 l4 l5 l7 s0 s1 h y0 y1 y2 y3  m77 J Sm
  have el5 := jfullL l5
  have es0 := jfull s0
  refine z_iast (N := 40) (l := 0) (u := 40) (w := s0.toInt) rfl hD J Sm rfl rfl rfl (by omega) rfl (wr_109) rfl (fun h w1 J Sm => ?_)
  refine x_lload (x := l5) rfl rfl ?_
  refine x_aloadn (x := 107) rfl rfl ?_
  refine z_getR (N := 18) (b := 109) 4 4 rfl f_4_15 rfl J rfl 13700 ⟨rfl, rfl⟩ rfl ?_
  refine x_iload (x := l7) rfl rfl ?_
  refine z_iald0 (N := 40) rfl J rfl rfl (by omega) (fun v2 qv2 => ?_)
  have ev2 := jfull v2
  refine z_i2l rfl rfl (fun v3 ev3 => ?_)
  refine z_ladd0 rfl (fun v4 => ?_)
  have ev4 := jfullL v4
  refine x_lstore (lsx9 := [(5, .long v4), (0, .ref 107), (3, .int l3), (4, .int l4), (7, .int l7)]) rfl rfl rfl ?_
  refine z_iinc (x := l7) (lsx9 := fun v5 => [(7, .int v5), (5, .long v4), (0, .ref 107), (3, .int l3), (4, .int l4)]) rfl rfl rfl jko_1 (by omega) rfl (fun _ => rfl) (fun v5 ev5 => ?_)
  refine x_goto (tgt := 77) rfl rfl ?_
  exact jX.sub (jsb_c rfl (jsb_c rfl (jsb_c rfl (jsb_c rfl (jsb_c rfl jsb_n))))) (k77 l3 l4 v4 v5 h (by omega) (jr_of rfl (by omega)) (jr_of rfl (by omega)) (jr_of rfl (by omega)) J Sm)
set_option maxRecDepth 100000 in
set_option maxHeartbeats 4000000 in
theorem ct_X4_partOut_r107_300140 {Dy : jH → Prop} {h0 : jH} {Q : Option Value → jH → Prop} {R77 : Int} (hD : jDk Dy) (hQ : ∀ hx9, jJ jSgX Dy hx9 → jSm fp_X4_partOut_r107 h0 hx9 → Q none hx9) (k77 : ∀ (l3 : Int32) (l4 : Int32) (l5 : Int64) (l7 : Int32) (h : jH), 40 - l7.toInt < R77 → 0 ≤ l3.toInt ∧ l3.toInt ≤ 2 → 0 ≤ l4.toInt ∧ l4.toInt ≤ 1000000 → 0 ≤ l7.toInt ∧ l7.toInt ≤ 40 → jJ jSgX Dy h → jSm fp_X4_partOut_r107 h0 h → jX m_X4_partOut 7 0 0 77 [(0, .ref 107), (3, .int l3), (4, .int l4), (5, .long l5), (7, .int l7)] [] h 0 0 Q) : ∀ (l3 : Int32) (l4 : Int32) (l5 : Int64) (l7 : Int32) (h : jH), 0 ≤ l3.toInt ∧ l3.toInt ≤ 2 → 0 ≤ l4.toInt ∧ l4.toInt ≤ 1000000 → 0 ≤ l7.toInt ∧ l7.toInt ≤ 39 → 40 - l7.toInt ≤ R77 → jJ jSgX Dy h → jSm fp_X4_partOut_r107 h0 h → jX m_X4_partOut 7 0 0 140 [(0, .ref 107), (3, .int l3), (4, .int l4), (5, .long l5), (7, .int l7)] [.int 1] h 0 0 Q := by
  intro l3 l4 l5 l7 h y0 y1 y2  m77 J Sm
  have el5 := jfullL l5
  refine x_istore (lsx9 := [(8, .int 1), (0, .ref 107), (3, .int l3), (4, .int l4), (5, .long l5), (7, .int l7)]) rfl rfl rfl ?_
  refine x_aloadn (x := 107) rfl rfl ?_
  refine z_getR (N := 18) (b := 109) 4 4 rfl f_4_15 rfl J rfl 13700 ⟨rfl, rfl⟩ rfl ?_
  refine x_iload (x := l7) rfl rfl ?_
  refine x_iload (x := 1) rfl rfl ?_
  refine x_ifeq (tgt := 166) rfl rfl (ti_eq jk_1 jk_0 (br_f (by omega) ?_))
  refine x_aloadn (x := 107) rfl rfl ?_
  refine z_getR (N := 18) (b := 98) 4 2 rfl f_4_67 rfl J rfl 13698 ⟨rfl, rfl⟩ rfl ?_
  refine z_getR (N := 16) (b := 102) 0 5 rfl f_4_111 rfl J rfl 12549 ⟨rfl, rfl⟩ rfl ?_
  refine x_iload (x := l7) rfl rfl ?_
  refine z_iald0 (N := 40) rfl J rfl rfl (by omega) (fun v1 qv1 => ?_)
  have ev1 := jfull v1
  refine x_goto (tgt := 167) rfl rfl ?_
  exact jX.sub (jsb_c rfl (jsb_c rfl (jsb_c rfl (jsb_c rfl (jsb_c rfl jsb_n))))) (ct_X4_partOut_r107_167 hD hQ k77 l3 l4 l5 l7 v1 l7 h (jr_of rfl (by omega)) (jr_of rfl (by omega)) (jr_of rfl (by omega)) (jr_of rfl (by omega)) (by omega) J Sm)
set_option maxRecDepth 100000 in
set_option maxHeartbeats 4000000 in
theorem ct_X4_partOut_r107_200140 {Dy : jH → Prop} {h0 : jH} {Q : Option Value → jH → Prop} {R77 : Int} (hD : jDk Dy) (hQ : ∀ hx9, jJ jSgX Dy hx9 → jSm fp_X4_partOut_r107 h0 hx9 → Q none hx9) (k77 : ∀ (l3 : Int32) (l4 : Int32) (l5 : Int64) (l7 : Int32) (h : jH), 40 - l7.toInt < R77 → 0 ≤ l3.toInt ∧ l3.toInt ≤ 2 → 0 ≤ l4.toInt ∧ l4.toInt ≤ 1000000 → 0 ≤ l7.toInt ∧ l7.toInt ≤ 40 → jJ jSgX Dy h → jSm fp_X4_partOut_r107 h0 h → jX m_X4_partOut 7 0 0 77 [(0, .ref 107), (3, .int l3), (4, .int l4), (5, .long l5), (7, .int l7)] [] h 0 0 Q) : ∀ (l3 : Int32) (l4 : Int32) (l5 : Int64) (l7 : Int32) (h : jH), 0 ≤ l3.toInt ∧ l3.toInt ≤ 2 → 0 ≤ l4.toInt ∧ l4.toInt ≤ 1000000 → 0 ≤ l7.toInt ∧ l7.toInt ≤ 39 → 40 - l7.toInt ≤ R77 → jJ jSgX Dy h → jSm fp_X4_partOut_r107 h0 h → jX m_X4_partOut 7 0 0 140 [(0, .ref 107), (3, .int l3), (4, .int l4), (5, .long l5), (7, .int l7)] [.int 0] h 0 0 Q := by
  intro l3 l4 l5 l7 h y0 y1 y2  m77 J Sm
  have el5 := jfullL l5
  refine x_istore (lsx9 := [(8, .int 0), (0, .ref 107), (3, .int l3), (4, .int l4), (5, .long l5), (7, .int l7)]) rfl rfl rfl ?_
  refine x_aloadn (x := 107) rfl rfl ?_
  refine z_getR (N := 18) (b := 109) 4 4 rfl f_4_15 rfl J rfl 13700 ⟨rfl, rfl⟩ rfl ?_
  refine x_iload (x := l7) rfl rfl ?_
  refine x_iload (x := 0) rfl rfl ?_
  refine x_ifeq (tgt := 166) rfl rfl (ti_eq jk_0 jk_0 (br_t (by omega) ?_))
  refine x_iconst (v := 0) rfl ki_0 ?_
  exact jX.sub (jsb_c rfl (jsb_c rfl (jsb_c rfl (jsb_c rfl (jsb_c rfl jsb_n))))) (ct_X4_partOut_r107_200167 hD hQ k77 l3 l4 l5 l7 l7 h (jr_of rfl (by omega)) (jr_of rfl (by omega)) (jr_of rfl (by omega)) (jr_of rfl (by omega)) (by omega) J Sm)
set_option maxRecDepth 100000 in
set_option maxHeartbeats 4000000 in
theorem ct_X4_partOut_r107_139 {Dy : jH → Prop} {h0 : jH} {Q : Option Value → jH → Prop} {R77 : Int} (hD : jDk Dy) (hQ : ∀ hx9, jJ jSgX Dy hx9 → jSm fp_X4_partOut_r107 h0 hx9 → Q none hx9) (k77 : ∀ (l3 : Int32) (l4 : Int32) (l5 : Int64) (l7 : Int32) (h : jH), 40 - l7.toInt < R77 → 0 ≤ l3.toInt ∧ l3.toInt ≤ 2 → 0 ≤ l4.toInt ∧ l4.toInt ≤ 1000000 → 0 ≤ l7.toInt ∧ l7.toInt ≤ 40 → jJ jSgX Dy h → jSm fp_X4_partOut_r107 h0 h → jX m_X4_partOut 7 0 0 77 [(0, .ref 107), (3, .int l3), (4, .int l4), (5, .long l5), (7, .int l7)] [] h 0 0 Q) : ∀ (l3 : Int32) (l4 : Int32) (l5 : Int64) (l7 : Int32) (h : jH), 0 ≤ l3.toInt ∧ l3.toInt ≤ 2 → 0 ≤ l4.toInt ∧ l4.toInt ≤ 1000000 → 0 ≤ l7.toInt ∧ l7.toInt ≤ 39 → 40 - l7.toInt ≤ R77 → jJ jSgX Dy h → jSm fp_X4_partOut_r107 h0 h → jX m_X4_partOut 7 0 0 139 [(0, .ref 107), (3, .int l3), (4, .int l4), (5, .long l5), (7, .int l7)] [] h 0 0 Q := by
  intro l3 l4 l5 l7 h y0 y1 y2  m77 J Sm
  have el5 := jfullL l5
  refine x_iconst (v := 0) rfl ki_0 ?_
  exact jX.sub (jsb_c rfl (jsb_c rfl (jsb_c rfl (jsb_c rfl (jsb_c rfl jsb_n))))) (ct_X4_partOut_r107_200140 hD hQ k77 l3 l4 l5 l7 h (jr_of rfl (by omega)) (jr_of rfl (by omega)) (jr_of rfl (by omega)) (by omega) J Sm)
set_option maxRecDepth 100000 in
set_option maxHeartbeats 4000000 in
theorem ct_X4_partOut_r107_77 {Dy : jH → Prop} {h0 : jH} {Q : Option Value → jH → Prop} (hD : jDk Dy) (hQ : ∀ hx9, jJ jSgX Dy hx9 → jSm fp_X4_partOut_r107 h0 hx9 → Q none hx9) : ∀ r : Nat, ∀ (l3 : Int32) (l4 : Int32) (l5 : Int64) (l7 : Int32) (h : jH), 40 - l7.toInt < (r : Int) → 0 ≤ l3.toInt ∧ l3.toInt ≤ 2 → 0 ≤ l4.toInt ∧ l4.toInt ≤ 1000000 → 0 ≤ l7.toInt ∧ l7.toInt ≤ 40 → jJ jSgX Dy h → jSm fp_X4_partOut_r107 h0 h → jX m_X4_partOut 7 0 0 77 [(0, .ref 107), (3, .int l3), (4, .int l4), (5, .long l5), (7, .int l7)] [] h 0 0 Q := by
  intro r
  induction r with
  | zero =>
    intro l3 l4 l5 l7 h hm y0 y1 y2   J Sm
    exfalso
    have el5 := jfullL l5
    omega
  | succ r ih =>
    intro l3 l4 l5 l7 h hm y0 y1 y2   J Sm
    have el5 := jfullL l5
    refine x_iload (x := l7) rfl rfl ?_
    refine x_aloadn (x := 107) rfl rfl ?_
    refine x_inv (N := m_X4_houses) (As := []) (b := 107) (st := [.int l7]) (dx9 := 6) (mc := 0) (ms := 0) (host := "") 4 rfl t_X4_houses ⟨Or.inl q_4_107, i_X4_houses.1, i_X4_houses.2⟩ ⟨by decide, rfl⟩ (congrArg Prod.fst (J.1.1 107 (4, 18) rfl)) rfl (by decide) rfl rfl ⟨by decide, by decide⟩ (jC.of rfl k_X4_houses rfl ?_)
    show jX m_X4_houses 6 0 0 0 [(0, .ref 107)] [] _ 0 0 _
    refine x_bipush (v := 40) rfl kb_40 ?_
    refine x_aloadn (x := 107) rfl rfl ?_
    refine z_getR (N := 18) (b := 32) 4 0 rfl f_4_59 rfl J rfl 13696 ⟨rfl, rfl⟩ rfl ?_
    refine z_getR (N := 20) (b := 49) 1 8 rfl f_4_71 rfl J rfl 4104 ⟨rfl, rfl⟩ rfl ?_
    refine z_getI (N := 4) 8 3 rfl f_4_77 rfl J rfl sg_49_3_4_1_0_1 (fun v1 qv1 ev1 => ?_)
    refine z_mmin rfl q_4_82 (by decide) rfl jk_40 rfl (fun v2 ev2 => ?_)
    refine x_iret rfl rfl ?_
    show jX m_X4_partOut 7 0 0 83 [(0, .ref 107), (3, .int l3), (4, .int l4), (5, .long l5), (7, .int l7)] [.int v2, .int l7] _ 0 0 _
    refine x_icge (tgt := 187) rfl rfl (ti_ge rfl rfl ⟨fun c3 => ?_, fun c3 => ?_⟩)
    ·
      refine x_aloadn (x := 107) rfl rfl ?_
      refine x_iload (x := l4) rfl rfl ?_
      refine x_lload (x := l5) rfl rfl ?_
      refine x_inv (N := m_X4_share) (As := [.int l4, .long l5]) (b := 107) (st := []) (dx9 := 3) (mc := 0) (ms := 0) (host := "") 4 rfl t_X4_share ⟨Or.inl q_4_123, i_X4_share.1, i_X4_share.2⟩ ⟨by decide, rfl⟩ (congrArg Prod.fst (J.1.1 107 (4, 18) rfl)) rfl (by decide) rfl rfl ⟨by decide, by decide⟩ (sf_X4_share_r107 (jr_of rfl (by omega)) hD J  (fun h J S4 => ?_))
      have Sm := jSm_tr rfl Sm S4
      show jX m_X4_partOut 7 0 0 195 [(0, .ref 107), (3, .int l3), (4, .int l4), (5, .long l5), (7, .int l7)] [] _ 0 0 _
      refine x_iconst (v := 0) rfl ki_0 ?_
      refine x_istore (lsx9 := [(7, .int 0), (0, .ref 107), (3, .int l3), (4, .int l4), (5, .long l5)]) rfl rfl rfl ?_
      exact jX.sub (jsb_c rfl (jsb_c rfl (jsb_c rfl jsb_n))) (ct_X4_partOut_r107_198 hD hQ  41 l3 0 v1 h (by have := jk_0; omega) (jr_of rfl (by omega)) (jr_of jk_0 (by omega)) (jr_of rfl (by omega)) (jmc S4 rfl qv1) J Sm)
    ·
      refine x_aloadn (x := 107) rfl rfl ?_
      refine z_getR (N := 18) (b := 98) 4 2 rfl f_4_67 rfl J rfl 13698 ⟨rfl, rfl⟩ rfl ?_
      refine z_getR (N := 16) (b := 102) 0 5 rfl f_4_111 rfl J rfl 12549 ⟨rfl, rfl⟩ rfl ?_
      refine x_iload (x := l7) rfl rfl ?_
      refine z_iald0 (N := 40) rfl J rfl rfl (by omega) (fun v5 qv5 => ?_)
      have ev5 := jfull v5
      refine x_ifle (tgt := 139) rfl rfl (ti_le rfl jk_0 ⟨fun c6 => ?_, fun c6 => ?_⟩)
      ·
        exact jX.sub (jsb_c rfl (jsb_c rfl (jsb_c rfl (jsb_c rfl (jsb_c rfl jsb_n))))) (ct_X4_partOut_r107_139 hD hQ ih l3 l4 l5 l7 h (jr_of rfl (by omega)) (jr_of rfl (by omega)) (jr_of rfl (by omega)) (by omega) J Sm)
      ·
        refine x_aloadn (x := 107) rfl rfl ?_
        refine z_getR (N := 18) (b := 98) 4 2 rfl f_4_67 rfl J rfl 13698 ⟨rfl, rfl⟩ rfl ?_
        refine z_getR (N := 16) (b := 103) 0 6 rfl f_4_114 rfl J rfl 12550 ⟨rfl, rfl⟩ rfl ?_
        refine x_iload (x := l7) rfl rfl ?_
        refine z_iald (N := 40) rfl J rfl sg_103_0_40_1_0_1 rfl (by omega) (fun v7 qv7 ev7 => ?_)
        refine x_iconst (v := (-1)) rfl ki_m1 ?_
        refine x_iceq (tgt := 139) rfl rfl (ti_eq rfl jk_m1 ⟨fun c8 => ?_, fun c8 => ?_⟩)
        ·
          exact jX.sub (jsb_c rfl (jsb_c rfl (jsb_c rfl (jsb_c rfl (jsb_c rfl jsb_n))))) (ct_X4_partOut_r107_139 hD hQ ih l3 l4 l5 l7 h (jr_of rfl (by omega)) (jr_of rfl (by omega)) (jr_of rfl (by omega)) (by omega) J Sm)
        ·
          refine x_aloadn (x := 107) rfl rfl ?_
          refine z_getR (N := 18) (b := 98) 4 2 rfl f_4_67 rfl J rfl 13698 ⟨rfl, rfl⟩ rfl ?_
          refine x_iconst (v := 1) rfl ki_1 ?_
          refine x_iloadn (x := l3) rfl rfl ?_
          refine x_aloadn (x := 107) rfl rfl ?_
          refine z_getR (N := 18) (b := 98) 4 2 rfl f_4_67 rfl J rfl 13698 ⟨rfl, rfl⟩ rfl ?_
          refine z_getR (N := 16) (b := 103) 0 6 rfl f_4_114 rfl J rfl 12550 ⟨rfl, rfl⟩ rfl ?_
          refine x_iload (x := l7) rfl rfl ?_
          refine z_ialdM (N := 40) (v := v7) rfl J rfl rfl (by omega) qv7 ?_
          refine x_inv (N := m_X0_weigh) (As := [.int 1, .int l3, .int v7]) (b := 98) (st := []) (dx9 := 6) (mc := 0) (ms := 0) (host := "") 0 rfl t_X0_weigh ⟨Or.inl q_4_119, i_X0_weigh.1, i_X0_weigh.2⟩ ⟨by decide, rfl⟩ (congrArg Prod.fst (J.1.1 98 (0, 16) rfl)) rfl (by decide) rfl rfl ⟨by decide, by decide⟩ (sf_X0_weigh_r98 (jr_of jk_1 (by omega)) (jr_of rfl (by omega)) (jr_of rfl (by omega)) hD J  (fun v10 h ev10 J S9 => ?_))
          have Sm := jSm_tr rfl Sm S9
          show jX m_X4_partOut 7 0 0 132 [(0, .ref 107), (3, .int l3), (4, .int l4), (5, .long l5), (7, .int l7)] [.int v10] _ 0 0 _
          refine x_ifne (tgt := 139) rfl rfl (ti_ne rfl jk_0 ⟨fun c11 => ?_, fun c11 => ?_⟩)
          ·
            exact jX.sub (jsb_c rfl (jsb_c rfl (jsb_c rfl (jsb_c rfl (jsb_c rfl jsb_n))))) (ct_X4_partOut_r107_139 hD hQ ih l3 l4 l5 l7 h (jr_of rfl (by omega)) (jr_of rfl (by omega)) (jr_of rfl (by omega)) (by omega) J Sm)
          ·
            refine x_iconst (v := 1) rfl ki_1 ?_
            refine x_goto (tgt := 140) rfl rfl ?_
            exact jX.sub (jsb_c rfl (jsb_c rfl (jsb_c rfl (jsb_c rfl (jsb_c rfl jsb_n))))) (ct_X4_partOut_r107_300140 hD hQ ih l3 l4 l5 l7 h (jr_of rfl (by omega)) (jr_of rfl (by omega)) (jr_of rfl (by omega)) (by omega) J Sm)
set_option maxRecDepth 100000 in
set_option maxHeartbeats 4000000 in
theorem sf_X4_partOut_r107 {Dy : jH → Prop} {h : jH} {Q : Option Value → jH → Prop} {a1 : Int32} {a2 : Int32} (y2 : 0 ≤ a2.toInt ∧ a2.toInt ≤ 146399) (hD : jDk Dy) (J : jJ jSgX Dy h) (hQ : ∀ hx9, jJ jSgX Dy hx9 → jSm fp_X4_partOut_r107 h hx9 → Q none hx9) : jC m_X4_partOut 7 0 0 [.ref 107, .int a1, .int a2] h Q := by
  refine jC.of rfl k_X4_partOut rfl ?_
  have Sm := jSm_rf fp_X4_partOut_r107 h
  have ea1 := jfull a1
  show jX m_X4_partOut 7 0 0 0 [(0, .ref 107), (1, .int a1), (2, .int a2)] [] _ 0 0 _
  refine x_aloadn (x := 107) rfl rfl ?_
  refine z_getR (N := 18) (b := 111) 4 6 rfl f_4_22 rfl J rfl 13702 ⟨rfl, rfl⟩ rfl ?_
  refine x_iloadn (x := a1) rfl rfl ?_
  refine x_iloadn (x := a2) rfl rfl ?_
  refine x_aloadn (x := 107) rfl rfl ?_
  refine z_getR (N := 18) (b := 32) 4 0 rfl f_4_59 rfl J rfl 13696 ⟨rfl, rfl⟩ rfl ?_
  refine z_getI0 (N := 20) 1 19 rfl f_4_88 rfl J rfl (fun v1 qv1 => ?_)
  have ev1 := jfull v1
  refine x_inst (N := m_X11_isFresh) (As := [.ref 111, .int a1, .int a2, .int v1]) (st := []) (dx9 := 6) (mc := 0) (ms := 0) (host := "ParishChest") rfl t_X11_isFresh ⟨Or.inr q_4_91, s_X11_isFresh⟩ rfl (by decide) rfl rfl ⟨by decide, by decide⟩ (jC.of rfl k_X11_isFresh rfl ?_)
  show jX m_X11_isFresh 6 0 0 0 [(0, .ref 111), (1, .int a1), (2, .int a2), (3, .int v1)] [] _ 0 0 _
  refine x_aloadn (x := 111) rfl rfl ?_
  refine z_alen (N := 3) (v := 3) rfl J rfl rfl (by decide) ?_
  refine x_iconst (v := 3) rfl ki_3 ?_
  refine x_icge (tgt := 8) rfl rfl (ti_ge jk_3 jk_3 (br_t (by omega) ?_))
  refine x_aloadn (x := 111) rfl rfl ?_
  refine x_iconst (v := 0) rfl ki_0 ?_
  refine z_iald0 (N := 3) rfl J rfl jk_0 (by omega) (fun v2 qv2 => ?_)
  have ev2 := jfull v2
  refine x_iloadn (x := a1) rfl rfl ?_
  refine x_icne (tgt := 33) rfl rfl (ti_ne rfl rfl ⟨fun c3 => ?_, fun c3 => ?_⟩)
  ·
    refine x_iconst (v := 0) rfl ki_0 ?_
    refine x_istore (lsx9 := [(4, .int 0), (0, .ref 111), (1, .int a1), (2, .int a2), (3, .int v1)]) rfl rfl rfl ?_
    refine x_aloadn (x := 111) rfl rfl ?_
    refine x_iconst (v := 0) rfl ki_0 ?_
    refine x_iloadn (x := a1) rfl rfl ?_
    refine z_iast (N := 3) (l := 0) (u := 3) (w := a1.toInt) rfl hD J Sm rfl rfl jk_0 (by omega) rfl (wr_111) rfl (fun h w4 J Sm => ?_)
    refine x_aloadn (x := 111) rfl rfl ?_
    refine x_iconst (v := 1) rfl ki_1 ?_
    refine x_iloadn (x := a2) rfl rfl ?_
    refine z_iast (N := 3) (l := 0) (u := 3) (w := a2.toInt) rfl hD J Sm rfl rfl jk_1 (by omega) rfl (wr_111) rfl (fun h w5 J Sm => ?_)
    refine x_aloadn (x := 111) rfl rfl ?_
    refine x_iconst (v := 2) rfl ki_2 ?_
    refine x_iloadn (x := v1) rfl rfl ?_
    refine z_iast (N := 3) (l := 0) (u := 3) (w := v1.toInt) rfl hD J Sm rfl rfl jk_2 (by omega) rfl (wr_111) rfl (fun h w6 J Sm => ?_)
    refine x_iload (x := 0) rfl rfl ?_
    refine x_zret rfl rfl (by decide) ?_
    show jX m_X4_partOut 7 0 0 16 [(0, .ref 107), (1, .int a1), (2, .int a2)] [.int 0] _ 0 0 _
    refine x_ifeq (tgt := 20) rfl rfl (ti_eq jk_0 jk_0 (br_t (by omega) ?_))
    refine x_aloadn (x := 107) rfl rfl ?_
    refine z_getR (N := 18) (b := 32) 4 0 rfl f_4_59 rfl J rfl 13696 ⟨rfl, rfl⟩ rfl ?_
    refine z_getR (N := 20) (b := 53) 1 10 rfl f_4_95 rfl J rfl 4106 ⟨rfl, rfl⟩ rfl ?_
    refine x_iloadn (x := a1) rfl rfl ?_
    refine x_iconst (v := 2) rfl ki_2 ?_
    refine x_inv (N := m_X8_at) (As := [.int a1, .int 2]) (b := 53) (st := []) (dx9 := 1) (mc := 0) (ms := 0) (host := "") 8 rfl t_X8_at ⟨Or.inl q_4_98, i_X8_at.1, i_X8_at.2⟩ ⟨by decide, rfl⟩ (congrArg Prod.fst (J.1.1 53 (8, 4) rfl)) rfl (by decide) rfl rfl ⟨by decide, by decide⟩ (sf_X8_at_r53_c2  hD J  (fun v8 h ev8 J S7 => ?_))
    have Sm := jSm_tr rfl Sm S7
    show jX m_X4_partOut 7 0 0 32 [(0, .ref 107), (1, .int a1), (2, .int a2)] [.int v8] _ 0 0 _
    refine x_istoren (lsx9 := [(3, .int v8), (0, .ref 107), (1, .int a1), (2, .int a2)]) rfl rfl rfl ?_
    refine x_aloadn (x := 107) rfl rfl ?_
    refine z_getR (N := 18) (b := 32) 4 0 rfl f_4_59 rfl J rfl 13696 ⟨rfl, rfl⟩ rfl ?_
    refine z_getR (N := 20) (b := 53) 1 10 rfl f_4_95 rfl J rfl 4106 ⟨rfl, rfl⟩ rfl ?_
    refine x_iloadn (x := a1) rfl rfl ?_
    refine x_iconst (v := 3) rfl ki_3 ?_
    refine x_inv (N := m_X8_at) (As := [.int a1, .int 3]) (b := 53) (st := []) (dx9 := 1) (mc := 0) (ms := 0) (host := "") 8 rfl t_X8_at ⟨Or.inl q_4_98, i_X8_at.1, i_X8_at.2⟩ ⟨by decide, rfl⟩ (congrArg Prod.fst (J.1.1 53 (8, 4) rfl)) rfl (by decide) rfl rfl ⟨by decide, by decide⟩ (sf_X8_at_r53_c3  hD J  (fun v10 h ev10 J S9 => ?_))
    have Sm := jSm_tr rfl Sm S9
    show jX m_X4_partOut 7 0 0 45 [(3, .int v8), (0, .ref 107), (1, .int a1), (2, .int a2)] [.int v10] _ 0 0 _
    refine x_istore (lsx9 := [(4, .int v10), (3, .int v8), (0, .ref 107), (1, .int a1), (2, .int a2)]) rfl rfl rfl ?_
    refine x_aloadn (x := 107) rfl rfl ?_
    refine z_getR (N := 18) (b := 98) 4 2 rfl f_4_67 rfl J rfl 13698 ⟨rfl, rfl⟩ rfl ?_
    refine x_aloadn (x := 107) rfl rfl ?_
    refine z_getR (N := 18) (b := 32) 4 0 rfl f_4_59 rfl J rfl 13696 ⟨rfl, rfl⟩ rfl ?_
    refine z_getR (N := 20) (b := 53) 1 10 rfl f_4_95 rfl J rfl 4106 ⟨rfl, rfl⟩ rfl ?_
    refine x_iloadn (x := a1) rfl rfl ?_
    refine x_iconst (v := 1) rfl ki_1 ?_
    refine x_inv (N := m_X8_at) (As := [.int a1, .int 1]) (b := 53) (st := [.ref 98]) (dx9 := 1) (mc := 0) (ms := 0) (host := "") 8 rfl t_X8_at ⟨Or.inl q_4_98, i_X8_at.1, i_X8_at.2⟩ ⟨by decide, rfl⟩ (congrArg Prod.fst (J.1.1 53 (8, 4) rfl)) rfl (by decide) rfl rfl ⟨by decide, by decide⟩ (sf_X8_at_r53_c1  hD J  (fun v12 h ev12 J S11 => ?_))
    have Sm := jSm_tr rfl Sm S11
    show jX m_X4_partOut 7 0 0 63 [(4, .int v10), (3, .int v8), (0, .ref 107), (1, .int a1), (2, .int a2)] [.int v12, .ref 98] _ 0 0 _
    refine x_sipush (v := 366) rfl ks_366 ?_
    refine z_imul rfl rfl jk_366 (by omega) (fun v13 ev13 => ?_)
    refine x_iloadn (x := a2) rfl rfl ?_
    refine x_inv (N := m_X0_turnTo) (As := [.int v13, .int a2]) (b := 98) (st := []) (dx9 := 6) (mc := 0) (ms := 0) (host := "") 0 rfl t_X0_turnTo ⟨Or.inl q_4_101, i_X0_turnTo.1, i_X0_turnTo.2⟩ ⟨by decide, rfl⟩ (congrArg Prod.fst (J.1.1 98 (0, 16) rfl)) rfl (by decide) rfl rfl ⟨by decide, by decide⟩ (jC.of rfl k_X0_turnTo rfl ?_)
    show jX m_X0_turnTo 6 0 0 0 [(0, .ref 98), (1, .int v13), (2, .int a2)] [] _ 0 0 _
    refine x_aloadn (x := 98) rfl rfl ?_
    refine x_iloadn (x := v13) rfl rfl ?_
    refine x_iloadn (x := a2) rfl rfl ?_
    refine x_inv (N := m_X0_readLaws) (As := [.int v13, .int a2]) (b := 98) (st := []) (dx9 := 3) (mc := 0) (ms := 0) (host := "") 0 rfl t_X0_readLaws ⟨Or.inl q_0_65, i_X0_readLaws.1, i_X0_readLaws.2⟩ ⟨by decide, rfl⟩ (congrArg Prod.fst (J.1.1 98 (0, 16) rfl)) rfl (by decide) rfl rfl ⟨by decide, by decide⟩ (sf_X0_readLaws_r98 (jr_of rfl (by omega)) (jr_of rfl (by omega)) hD J  (fun h J S14 => ?_))
    have Sm := jSm_tr rfl Sm S14
    show jX m_X0_turnTo 6 0 0 6 [(0, .ref 98), (1, .int v13), (2, .int a2)] [] _ 0 0 _
    refine x_aloadn (x := 98) rfl rfl ?_
    refine x_iloadn (x := v13) rfl rfl ?_
    refine x_iloadn (x := a2) rfl rfl ?_
    refine x_inv (N := m_X0_readHouses) (As := [.int v13, .int a2]) (b := 98) (st := []) (dx9 := 3) (mc := 0) (ms := 0) (host := "") 0 rfl t_X0_readHouses ⟨Or.inl q_0_69, i_X0_readHouses.1, i_X0_readHouses.2⟩ ⟨by decide, rfl⟩ (congrArg Prod.fst (J.1.1 98 (0, 16) rfl)) rfl (by decide) rfl rfl ⟨by decide, by decide⟩ (sf_X0_readHouses_r98 (jr_of rfl (by omega)) (jr_of rfl (by omega)) hD J  (fun h J S15 => ?_))
    have Sm := jSm_tr rfl Sm S15
    show jX m_X0_turnTo 6 0 0 12 [(0, .ref 98), (1, .int v13), (2, .int a2)] [] _ 0 0 _
    refine x_vret rfl rfl ?_
    show jX m_X4_partOut 7 0 0 71 [(4, .int v10), (3, .int v8), (0, .ref 107), (1, .int a1), (2, .int a2)] [] _ 0 0 _
    refine x_lconst (v := 0) rfl kl_0 ?_
    refine x_lstore (lsx9 := [(5, .long 0), (4, .int v10), (3, .int v8), (0, .ref 107), (1, .int a1), (2, .int a2)]) rfl rfl rfl ?_
    refine x_iconst (v := 0) rfl ki_0 ?_
    refine x_istore (lsx9 := [(7, .int 0), (5, .long 0), (4, .int v10), (3, .int v8), (0, .ref 107), (1, .int a1), (2, .int a2)]) rfl rfl rfl ?_
    exact jX.sub (jsb_c rfl (jsb_c rfl (jsb_c rfl (jsb_c rfl (jsb_c rfl jsb_n))))) (ct_X4_partOut_r107_77 hD hQ  41 v8 v10 0 0 h (by have := jk_0; omega) (jr_of rfl (by omega)) (jr_of rfl (by omega)) (jr_of jk_0 (by omega)) J Sm)
  ·
    refine x_aloadn (x := 111) rfl rfl ?_
    refine x_iconst (v := 1) rfl ki_1 ?_
    refine z_iald0 (N := 3) rfl J rfl jk_1 (by omega) (fun v16 qv16 => ?_)
    have ev16 := jfull v16
    refine x_iloadn (x := a2) rfl rfl ?_
    refine x_icne (tgt := 33) rfl rfl (ti_ne rfl rfl ⟨fun c17 => ?_, fun c17 => ?_⟩)
    ·
      refine x_iconst (v := 0) rfl ki_0 ?_
      refine x_istore (lsx9 := [(4, .int 0), (0, .ref 111), (1, .int a1), (2, .int a2), (3, .int v1)]) rfl rfl rfl ?_
      refine x_aloadn (x := 111) rfl rfl ?_
      refine x_iconst (v := 0) rfl ki_0 ?_
      refine x_iloadn (x := a1) rfl rfl ?_
      refine z_iast (N := 3) (l := 0) (u := 3) (w := a1.toInt) rfl hD J Sm rfl rfl jk_0 (by omega) rfl (wr_111) rfl (fun h w18 J Sm => ?_)
      refine x_aloadn (x := 111) rfl rfl ?_
      refine x_iconst (v := 1) rfl ki_1 ?_
      refine x_iloadn (x := a2) rfl rfl ?_
      refine z_iast (N := 3) (l := 0) (u := 3) (w := a2.toInt) rfl hD J Sm rfl rfl jk_1 (by omega) rfl (wr_111) rfl (fun h w19 J Sm => ?_)
      refine x_aloadn (x := 111) rfl rfl ?_
      refine x_iconst (v := 2) rfl ki_2 ?_
      refine x_iloadn (x := v1) rfl rfl ?_
      refine z_iast (N := 3) (l := 0) (u := 3) (w := v1.toInt) rfl hD J Sm rfl rfl jk_2 (by omega) rfl (wr_111) rfl (fun h w20 J Sm => ?_)
      refine x_iload (x := 0) rfl rfl ?_
      refine x_zret rfl rfl (by decide) ?_
      show jX m_X4_partOut 7 0 0 16 [(0, .ref 107), (1, .int a1), (2, .int a2)] [.int 0] _ 0 0 _
      refine x_ifeq (tgt := 20) rfl rfl (ti_eq jk_0 jk_0 (br_t (by omega) ?_))
      refine x_aloadn (x := 107) rfl rfl ?_
      refine z_getR (N := 18) (b := 32) 4 0 rfl f_4_59 rfl J rfl 13696 ⟨rfl, rfl⟩ rfl ?_
      refine z_getR (N := 20) (b := 53) 1 10 rfl f_4_95 rfl J rfl 4106 ⟨rfl, rfl⟩ rfl ?_
      refine x_iloadn (x := a1) rfl rfl ?_
      refine x_iconst (v := 2) rfl ki_2 ?_
      refine x_inv (N := m_X8_at) (As := [.int a1, .int 2]) (b := 53) (st := []) (dx9 := 1) (mc := 0) (ms := 0) (host := "") 8 rfl t_X8_at ⟨Or.inl q_4_98, i_X8_at.1, i_X8_at.2⟩ ⟨by decide, rfl⟩ (congrArg Prod.fst (J.1.1 53 (8, 4) rfl)) rfl (by decide) rfl rfl ⟨by decide, by decide⟩ (sf_X8_at_r53_c2  hD J  (fun v22 h ev22 J S21 => ?_))
      have Sm := jSm_tr rfl Sm S21
      show jX m_X4_partOut 7 0 0 32 [(0, .ref 107), (1, .int a1), (2, .int a2)] [.int v22] _ 0 0 _
      refine x_istoren (lsx9 := [(3, .int v22), (0, .ref 107), (1, .int a1), (2, .int a2)]) rfl rfl rfl ?_
      refine x_aloadn (x := 107) rfl rfl ?_
      refine z_getR (N := 18) (b := 32) 4 0 rfl f_4_59 rfl J rfl 13696 ⟨rfl, rfl⟩ rfl ?_
      refine z_getR (N := 20) (b := 53) 1 10 rfl f_4_95 rfl J rfl 4106 ⟨rfl, rfl⟩ rfl ?_
      refine x_iloadn (x := a1) rfl rfl ?_
      refine x_iconst (v := 3) rfl ki_3 ?_
      refine x_inv (N := m_X8_at) (As := [.int a1, .int 3]) (b := 53) (st := []) (dx9 := 1) (mc := 0) (ms := 0) (host := "") 8 rfl t_X8_at ⟨Or.inl q_4_98, i_X8_at.1, i_X8_at.2⟩ ⟨by decide, rfl⟩ (congrArg Prod.fst (J.1.1 53 (8, 4) rfl)) rfl (by decide) rfl rfl ⟨by decide, by decide⟩ (sf_X8_at_r53_c3  hD J  (fun v24 h ev24 J S23 => ?_))
      have Sm := jSm_tr rfl Sm S23
      show jX m_X4_partOut 7 0 0 45 [(3, .int v22), (0, .ref 107), (1, .int a1), (2, .int a2)] [.int v24] _ 0 0 _
      refine x_istore (lsx9 := [(4, .int v24), (3, .int v22), (0, .ref 107), (1, .int a1), (2, .int a2)]) rfl rfl rfl ?_
      refine x_aloadn (x := 107) rfl rfl ?_
      refine z_getR (N := 18) (b := 98) 4 2 rfl f_4_67 rfl J rfl 13698 ⟨rfl, rfl⟩ rfl ?_
      refine x_aloadn (x := 107) rfl rfl ?_
      refine z_getR (N := 18) (b := 32) 4 0 rfl f_4_59 rfl J rfl 13696 ⟨rfl, rfl⟩ rfl ?_
      refine z_getR (N := 20) (b := 53) 1 10 rfl f_4_95 rfl J rfl 4106 ⟨rfl, rfl⟩ rfl ?_
      refine x_iloadn (x := a1) rfl rfl ?_
      refine x_iconst (v := 1) rfl ki_1 ?_
      refine x_inv (N := m_X8_at) (As := [.int a1, .int 1]) (b := 53) (st := [.ref 98]) (dx9 := 1) (mc := 0) (ms := 0) (host := "") 8 rfl t_X8_at ⟨Or.inl q_4_98, i_X8_at.1, i_X8_at.2⟩ ⟨by decide, rfl⟩ (congrArg Prod.fst (J.1.1 53 (8, 4) rfl)) rfl (by decide) rfl rfl ⟨by decide, by decide⟩ (sf_X8_at_r53_c1  hD J  (fun v26 h ev26 J S25 => ?_))
      have Sm := jSm_tr rfl Sm S25
      show jX m_X4_partOut 7 0 0 63 [(4, .int v24), (3, .int v22), (0, .ref 107), (1, .int a1), (2, .int a2)] [.int v26, .ref 98] _ 0 0 _
      refine x_sipush (v := 366) rfl ks_366 ?_
      refine z_imul rfl rfl jk_366 (by omega) (fun v27 ev27 => ?_)
      refine x_iloadn (x := a2) rfl rfl ?_
      refine x_inv (N := m_X0_turnTo) (As := [.int v27, .int a2]) (b := 98) (st := []) (dx9 := 6) (mc := 0) (ms := 0) (host := "") 0 rfl t_X0_turnTo ⟨Or.inl q_4_101, i_X0_turnTo.1, i_X0_turnTo.2⟩ ⟨by decide, rfl⟩ (congrArg Prod.fst (J.1.1 98 (0, 16) rfl)) rfl (by decide) rfl rfl ⟨by decide, by decide⟩ (jC.of rfl k_X0_turnTo rfl ?_)
      show jX m_X0_turnTo 6 0 0 0 [(0, .ref 98), (1, .int v27), (2, .int a2)] [] _ 0 0 _
      refine x_aloadn (x := 98) rfl rfl ?_
      refine x_iloadn (x := v27) rfl rfl ?_
      refine x_iloadn (x := a2) rfl rfl ?_
      refine x_inv (N := m_X0_readLaws) (As := [.int v27, .int a2]) (b := 98) (st := []) (dx9 := 3) (mc := 0) (ms := 0) (host := "") 0 rfl t_X0_readLaws ⟨Or.inl q_0_65, i_X0_readLaws.1, i_X0_readLaws.2⟩ ⟨by decide, rfl⟩ (congrArg Prod.fst (J.1.1 98 (0, 16) rfl)) rfl (by decide) rfl rfl ⟨by decide, by decide⟩ (sf_X0_readLaws_r98 (jr_of rfl (by omega)) (jr_of rfl (by omega)) hD J  (fun h J S28 => ?_))
      have Sm := jSm_tr rfl Sm S28
      show jX m_X0_turnTo 6 0 0 6 [(0, .ref 98), (1, .int v27), (2, .int a2)] [] _ 0 0 _
      refine x_aloadn (x := 98) rfl rfl ?_
      refine x_iloadn (x := v27) rfl rfl ?_
      refine x_iloadn (x := a2) rfl rfl ?_
      refine x_inv (N := m_X0_readHouses) (As := [.int v27, .int a2]) (b := 98) (st := []) (dx9 := 3) (mc := 0) (ms := 0) (host := "") 0 rfl t_X0_readHouses ⟨Or.inl q_0_69, i_X0_readHouses.1, i_X0_readHouses.2⟩ ⟨by decide, rfl⟩ (congrArg Prod.fst (J.1.1 98 (0, 16) rfl)) rfl (by decide) rfl rfl ⟨by decide, by decide⟩ (sf_X0_readHouses_r98 (jr_of rfl (by omega)) (jr_of rfl (by omega)) hD J  (fun h J S29 => ?_))
      have Sm := jSm_tr rfl Sm S29
      show jX m_X0_turnTo 6 0 0 12 [(0, .ref 98), (1, .int v27), (2, .int a2)] [] _ 0 0 _
      refine x_vret rfl rfl ?_
      show jX m_X4_partOut 7 0 0 71 [(4, .int v24), (3, .int v22), (0, .ref 107), (1, .int a1), (2, .int a2)] [] _ 0 0 _
      refine x_lconst (v := 0) rfl kl_0 ?_
      refine x_lstore (lsx9 := [(5, .long 0), (4, .int v24), (3, .int v22), (0, .ref 107), (1, .int a1), (2, .int a2)]) rfl rfl rfl ?_
      refine x_iconst (v := 0) rfl ki_0 ?_
      refine x_istore (lsx9 := [(7, .int 0), (5, .long 0), (4, .int v24), (3, .int v22), (0, .ref 107), (1, .int a1), (2, .int a2)]) rfl rfl rfl ?_
      exact jX.sub (jsb_c rfl (jsb_c rfl (jsb_c rfl (jsb_c rfl (jsb_c rfl jsb_n))))) (ct_X4_partOut_r107_77 hD hQ  41 v22 v24 0 0 h (by have := jk_0; omega) (jr_of rfl (by omega)) (jr_of rfl (by omega)) (jr_of jk_0 (by omega)) J Sm)
    ·
      refine x_aloadn (x := 111) rfl rfl ?_
      refine x_iconst (v := 2) rfl ki_2 ?_
      refine z_iald0 (N := 3) rfl J rfl jk_2 (by omega) (fun v30 qv30 => ?_)
      have ev30 := jfull v30
      refine x_iloadn (x := v1) rfl rfl ?_
      refine x_icne (tgt := 33) rfl rfl (ti_ne rfl rfl ⟨fun c31 => ?_, fun c31 => ?_⟩)
      ·
        refine x_iconst (v := 0) rfl ki_0 ?_
        refine x_istore (lsx9 := [(4, .int 0), (0, .ref 111), (1, .int a1), (2, .int a2), (3, .int v1)]) rfl rfl rfl ?_
        refine x_aloadn (x := 111) rfl rfl ?_
        refine x_iconst (v := 0) rfl ki_0 ?_
        refine x_iloadn (x := a1) rfl rfl ?_
        refine z_iast (N := 3) (l := 0) (u := 3) (w := a1.toInt) rfl hD J Sm rfl rfl jk_0 (by omega) rfl (wr_111) rfl (fun h w32 J Sm => ?_)
        refine x_aloadn (x := 111) rfl rfl ?_
        refine x_iconst (v := 1) rfl ki_1 ?_
        refine x_iloadn (x := a2) rfl rfl ?_
        refine z_iast (N := 3) (l := 0) (u := 3) (w := a2.toInt) rfl hD J Sm rfl rfl jk_1 (by omega) rfl (wr_111) rfl (fun h w33 J Sm => ?_)
        refine x_aloadn (x := 111) rfl rfl ?_
        refine x_iconst (v := 2) rfl ki_2 ?_
        refine x_iloadn (x := v1) rfl rfl ?_
        refine z_iast (N := 3) (l := 0) (u := 3) (w := v1.toInt) rfl hD J Sm rfl rfl jk_2 (by omega) rfl (wr_111) rfl (fun h w34 J Sm => ?_)
        refine x_iload (x := 0) rfl rfl ?_
        refine x_zret rfl rfl (by decide) ?_
        show jX m_X4_partOut 7 0 0 16 [(0, .ref 107), (1, .int a1), (2, .int a2)] [.int 0] _ 0 0 _
        refine x_ifeq (tgt := 20) rfl rfl (ti_eq jk_0 jk_0 (br_t (by omega) ?_))
        refine x_aloadn (x := 107) rfl rfl ?_
        refine z_getR (N := 18) (b := 32) 4 0 rfl f_4_59 rfl J rfl 13696 ⟨rfl, rfl⟩ rfl ?_
        refine z_getR (N := 20) (b := 53) 1 10 rfl f_4_95 rfl J rfl 4106 ⟨rfl, rfl⟩ rfl ?_
        refine x_iloadn (x := a1) rfl rfl ?_
        refine x_iconst (v := 2) rfl ki_2 ?_
        refine x_inv (N := m_X8_at) (As := [.int a1, .int 2]) (b := 53) (st := []) (dx9 := 1) (mc := 0) (ms := 0) (host := "") 8 rfl t_X8_at ⟨Or.inl q_4_98, i_X8_at.1, i_X8_at.2⟩ ⟨by decide, rfl⟩ (congrArg Prod.fst (J.1.1 53 (8, 4) rfl)) rfl (by decide) rfl rfl ⟨by decide, by decide⟩ (sf_X8_at_r53_c2  hD J  (fun v36 h ev36 J S35 => ?_))
        have Sm := jSm_tr rfl Sm S35
        show jX m_X4_partOut 7 0 0 32 [(0, .ref 107), (1, .int a1), (2, .int a2)] [.int v36] _ 0 0 _
        refine x_istoren (lsx9 := [(3, .int v36), (0, .ref 107), (1, .int a1), (2, .int a2)]) rfl rfl rfl ?_
        refine x_aloadn (x := 107) rfl rfl ?_
        refine z_getR (N := 18) (b := 32) 4 0 rfl f_4_59 rfl J rfl 13696 ⟨rfl, rfl⟩ rfl ?_
        refine z_getR (N := 20) (b := 53) 1 10 rfl f_4_95 rfl J rfl 4106 ⟨rfl, rfl⟩ rfl ?_
        refine x_iloadn (x := a1) rfl rfl ?_
        refine x_iconst (v := 3) rfl ki_3 ?_
        refine x_inv (N := m_X8_at) (As := [.int a1, .int 3]) (b := 53) (st := []) (dx9 := 1) (mc := 0) (ms := 0) (host := "") 8 rfl t_X8_at ⟨Or.inl q_4_98, i_X8_at.1, i_X8_at.2⟩ ⟨by decide, rfl⟩ (congrArg Prod.fst (J.1.1 53 (8, 4) rfl)) rfl (by decide) rfl rfl ⟨by decide, by decide⟩ (sf_X8_at_r53_c3  hD J  (fun v38 h ev38 J S37 => ?_))
        have Sm := jSm_tr rfl Sm S37
        show jX m_X4_partOut 7 0 0 45 [(3, .int v36), (0, .ref 107), (1, .int a1), (2, .int a2)] [.int v38] _ 0 0 _
        refine x_istore (lsx9 := [(4, .int v38), (3, .int v36), (0, .ref 107), (1, .int a1), (2, .int a2)]) rfl rfl rfl ?_
        refine x_aloadn (x := 107) rfl rfl ?_
        refine z_getR (N := 18) (b := 98) 4 2 rfl f_4_67 rfl J rfl 13698 ⟨rfl, rfl⟩ rfl ?_
        refine x_aloadn (x := 107) rfl rfl ?_
        refine z_getR (N := 18) (b := 32) 4 0 rfl f_4_59 rfl J rfl 13696 ⟨rfl, rfl⟩ rfl ?_
        refine z_getR (N := 20) (b := 53) 1 10 rfl f_4_95 rfl J rfl 4106 ⟨rfl, rfl⟩ rfl ?_
        refine x_iloadn (x := a1) rfl rfl ?_
        refine x_iconst (v := 1) rfl ki_1 ?_
        refine x_inv (N := m_X8_at) (As := [.int a1, .int 1]) (b := 53) (st := [.ref 98]) (dx9 := 1) (mc := 0) (ms := 0) (host := "") 8 rfl t_X8_at ⟨Or.inl q_4_98, i_X8_at.1, i_X8_at.2⟩ ⟨by decide, rfl⟩ (congrArg Prod.fst (J.1.1 53 (8, 4) rfl)) rfl (by decide) rfl rfl ⟨by decide, by decide⟩ (sf_X8_at_r53_c1  hD J  (fun v40 h ev40 J S39 => ?_))
        have Sm := jSm_tr rfl Sm S39
        show jX m_X4_partOut 7 0 0 63 [(4, .int v38), (3, .int v36), (0, .ref 107), (1, .int a1), (2, .int a2)] [.int v40, .ref 98] _ 0 0 _
        refine x_sipush (v := 366) rfl ks_366 ?_
        refine z_imul rfl rfl jk_366 (by omega) (fun v41 ev41 => ?_)
        refine x_iloadn (x := a2) rfl rfl ?_
        refine x_inv (N := m_X0_turnTo) (As := [.int v41, .int a2]) (b := 98) (st := []) (dx9 := 6) (mc := 0) (ms := 0) (host := "") 0 rfl t_X0_turnTo ⟨Or.inl q_4_101, i_X0_turnTo.1, i_X0_turnTo.2⟩ ⟨by decide, rfl⟩ (congrArg Prod.fst (J.1.1 98 (0, 16) rfl)) rfl (by decide) rfl rfl ⟨by decide, by decide⟩ (jC.of rfl k_X0_turnTo rfl ?_)
        show jX m_X0_turnTo 6 0 0 0 [(0, .ref 98), (1, .int v41), (2, .int a2)] [] _ 0 0 _
        refine x_aloadn (x := 98) rfl rfl ?_
        refine x_iloadn (x := v41) rfl rfl ?_
        refine x_iloadn (x := a2) rfl rfl ?_
        refine x_inv (N := m_X0_readLaws) (As := [.int v41, .int a2]) (b := 98) (st := []) (dx9 := 3) (mc := 0) (ms := 0) (host := "") 0 rfl t_X0_readLaws ⟨Or.inl q_0_65, i_X0_readLaws.1, i_X0_readLaws.2⟩ ⟨by decide, rfl⟩ (congrArg Prod.fst (J.1.1 98 (0, 16) rfl)) rfl (by decide) rfl rfl ⟨by decide, by decide⟩ (sf_X0_readLaws_r98 (jr_of rfl (by omega)) (jr_of rfl (by omega)) hD J  (fun h J S42 => ?_))
        have Sm := jSm_tr rfl Sm S42
        show jX m_X0_turnTo 6 0 0 6 [(0, .ref 98), (1, .int v41), (2, .int a2)] [] _ 0 0 _
        refine x_aloadn (x := 98) rfl rfl ?_
        refine x_iloadn (x := v41) rfl rfl ?_
        refine x_iloadn (x := a2) rfl rfl ?_
        refine x_inv (N := m_X0_readHouses) (As := [.int v41, .int a2]) (b := 98) (st := []) (dx9 := 3) (mc := 0) (ms := 0) (host := "") 0 rfl t_X0_readHouses ⟨Or.inl q_0_69, i_X0_readHouses.1, i_X0_readHouses.2⟩ ⟨by decide, rfl⟩ (congrArg Prod.fst (J.1.1 98 (0, 16) rfl)) rfl (by decide) rfl rfl ⟨by decide, by decide⟩ (sf_X0_readHouses_r98 (jr_of rfl (by omega)) (jr_of rfl (by omega)) hD J  (fun h J S43 => ?_))
        have Sm := jSm_tr rfl Sm S43
        show jX m_X0_turnTo 6 0 0 12 [(0, .ref 98), (1, .int v41), (2, .int a2)] [] _ 0 0 _
        refine x_vret rfl rfl ?_
        show jX m_X4_partOut 7 0 0 71 [(4, .int v38), (3, .int v36), (0, .ref 107), (1, .int a1), (2, .int a2)] [] _ 0 0 _
        refine x_lconst (v := 0) rfl kl_0 ?_
        refine x_lstore (lsx9 := [(5, .long 0), (4, .int v38), (3, .int v36), (0, .ref 107), (1, .int a1), (2, .int a2)]) rfl rfl rfl ?_
        refine x_iconst (v := 0) rfl ki_0 ?_
        refine x_istore (lsx9 := [(7, .int 0), (5, .long 0), (4, .int v38), (3, .int v36), (0, .ref 107), (1, .int a1), (2, .int a2)]) rfl rfl rfl ?_
        exact jX.sub (jsb_c rfl (jsb_c rfl (jsb_c rfl (jsb_c rfl (jsb_c rfl jsb_n))))) (ct_X4_partOut_r107_77 hD hQ  41 v36 v38 0 0 h (by have := jk_0; omega) (jr_of rfl (by omega)) (jr_of rfl (by omega)) (jr_of jk_0 (by omega)) J Sm)
      ·
        refine x_iconst (v := 1) rfl ki_1 ?_
        refine x_goto (tgt := 34) rfl rfl ?_
        refine x_istore (lsx9 := [(4, .int 1), (0, .ref 111), (1, .int a1), (2, .int a2), (3, .int v1)]) rfl rfl rfl ?_
        refine x_aloadn (x := 111) rfl rfl ?_
        refine x_iconst (v := 0) rfl ki_0 ?_
        refine x_iloadn (x := a1) rfl rfl ?_
        refine z_iast (N := 3) (l := 0) (u := 3) (w := a1.toInt) rfl hD J Sm rfl rfl jk_0 (by omega) rfl (wr_111) rfl (fun h w44 J Sm => ?_)
        refine x_aloadn (x := 111) rfl rfl ?_
        refine x_iconst (v := 1) rfl ki_1 ?_
        refine x_iloadn (x := a2) rfl rfl ?_
        refine z_iast (N := 3) (l := 0) (u := 3) (w := a2.toInt) rfl hD J Sm rfl rfl jk_1 (by omega) rfl (wr_111) rfl (fun h w45 J Sm => ?_)
        refine x_aloadn (x := 111) rfl rfl ?_
        refine x_iconst (v := 2) rfl ki_2 ?_
        refine x_iloadn (x := v1) rfl rfl ?_
        refine z_iast (N := 3) (l := 0) (u := 3) (w := v1.toInt) rfl hD J Sm rfl rfl jk_2 (by omega) rfl (wr_111) rfl (fun h w46 J Sm => ?_)
        refine x_iload (x := 1) rfl rfl ?_
        refine x_zret rfl rfl (by decide) ?_
        show jX m_X4_partOut 7 0 0 16 [(0, .ref 107), (1, .int a1), (2, .int a2)] [.int 1] _ 0 0 _
        refine x_ifeq (tgt := 20) rfl rfl (ti_eq jk_1 jk_0 (br_f (by omega) ?_))
        refine x_vret rfl rfl ?_
        exact hQ _ J Sm
def fp_X8_at_r55_c1 : jFp := []
set_option maxRecDepth 100000 in
set_option maxHeartbeats 4000000 in
theorem ct_X8_at_r55_c1_24 {Dy : jH → Prop} {h0 : jH} {Q : Option Value → jH → Prop} (hD : jDk Dy) (hQ : ∀ (v : Int32) hx9, 0 ≤ v.toInt ∧ v.toInt ≤ 146399 → jJ jSgX Dy hx9 → jSm fp_X8_at_r55_c1 h0 hx9 → Q (some (.int v)) hx9) : ∀ (h : jH), jJ jSgX Dy h → jSm fp_X8_at_r55_c1 h0 h → jX m_X8_at 1 0 0 24 [] [] h 0 0 Q := by
  intro  h    J Sm
  refine x_iconst (v := 0) rfl ki_0 ?_
  refine x_iret rfl rfl ?_
  exact hQ _ _ (jr_of jk_0 (by omega)) J Sm
set_option maxRecDepth 100000 in
set_option maxHeartbeats 4000000 in
theorem sf_X8_at_r55_c1 {Dy : jH → Prop} {h : jH} {Q : Option Value → jH → Prop} {a1 : Int32} (y1 : 0 ≤ a1.toInt ∧ a1.toInt ≤ 99) (hD : jDk Dy) (J : jJ jSgX Dy h) (hQ : ∀ (v : Int32) hx9, 0 ≤ v.toInt ∧ v.toInt ≤ 146399 → jJ jSgX Dy hx9 → jSm fp_X8_at_r55_c1 h hx9 → Q (some (.int v)) hx9) : jC m_X8_at 1 0 0 [.ref 55, .int a1, .int 1] h Q := by
  refine jC.of rfl k_X8_at rfl ?_
  have Sm := jSm_rf fp_X8_at_r55_c1 h
  show jX m_X8_at 1 0 0 0 [(0, .ref 55), (1, .int a1), (2, .int 1)] [] _ 0 0 _
  refine x_iloadn (x := a1) rfl rfl ?_
  refine x_iflt (tgt := 24) rfl rfl (ti_lt rfl jk_0 (br_f (by omega) ?_))
  refine x_iloadn (x := a1) rfl rfl ?_
  refine x_aloadn (x := 55) rfl rfl ?_
  refine z_getI (N := 4) 8 3 rfl f_8_7 rfl J rfl sg_55_3_4_1_0_1 (fun v1 qv1 ev1 => ?_)
  refine x_icge (tgt := 24) rfl rfl (ti_ge rfl rfl ⟨fun c2 => ?_, fun c2 => ?_⟩)
  ·
    exact jX.sub jsb_n (ct_X8_at_r55_c1_24 hD hQ  h J Sm)
  ·
    refine x_iloadn (x := 1) rfl rfl ?_
    refine x_iflt (tgt := 24) rfl rfl (ti_lt jk_1 jk_0 (br_f (by omega) ?_))
    refine x_iloadn (x := 1) rfl rfl ?_
    refine x_aloadn (x := 55) rfl rfl ?_
    refine z_getC (N := 4) (v := 5) 8 0 rfl f_8_19 rfl J rfl sg_55_0_1_1_0_1 jk_5 ?_
    refine x_iclt (tgt := 26) rfl rfl (ti_lt jk_1 jk_5 (br_t (by omega) ?_))
    refine x_aloadn (x := 55) rfl rfl ?_
    refine z_getR (N := 4) (b := 56) 8 2 rfl f_8_25 rfl J rfl 7042 ⟨rfl, rfl⟩ rfl ?_
    refine x_iloadn (x := a1) rfl rfl ?_
    refine x_aloadn (x := 55) rfl rfl ?_
    refine z_getC (N := 4) (v := 5) 8 0 rfl f_8_19 rfl J rfl sg_55_0_1_1_0_1 jk_5 ?_
    refine z_imul rfl rfl jk_5 (by omega) (fun v3 ev3 => ?_)
    refine x_iloadn (x := 1) rfl rfl ?_
    refine z_iadd rfl rfl jk_1 (by omega) (fun v4 ev4 => ?_)
    refine z_iald (N := 500) rfl J rfl sg_56_0_500_5_1_2 rfl (by omega) (fun v5 qv5 ev5 => ?_)
    refine x_iret rfl rfl ?_
    exact hQ _ _ (jr_of rfl (by omega)) J Sm
def fp_X8_at_r55_c2 : jFp := []
set_option maxRecDepth 100000 in
set_option maxHeartbeats 4000000 in
theorem ct_X8_at_r55_c2_24 {Dy : jH → Prop} {h0 : jH} {Q : Option Value → jH → Prop} (hD : jDk Dy) (hQ : ∀ (v : Int32) hx9, 0 ≤ v.toInt ∧ v.toInt ≤ 39 → jJ jSgX Dy hx9 → jSm fp_X8_at_r55_c2 h0 hx9 → Q (some (.int v)) hx9) : ∀ (h : jH), jJ jSgX Dy h → jSm fp_X8_at_r55_c2 h0 h → jX m_X8_at 1 0 0 24 [] [] h 0 0 Q := by
  intro  h    J Sm
  refine x_iconst (v := 0) rfl ki_0 ?_
  refine x_iret rfl rfl ?_
  exact hQ _ _ (jr_of jk_0 (by omega)) J Sm
set_option maxRecDepth 100000 in
set_option maxHeartbeats 4000000 in
theorem sf_X8_at_r55_c2 {Dy : jH → Prop} {h : jH} {Q : Option Value → jH → Prop} {a1 : Int32} (y1 : 0 ≤ a1.toInt ∧ a1.toInt ≤ 99) (hD : jDk Dy) (J : jJ jSgX Dy h) (hQ : ∀ (v : Int32) hx9, 0 ≤ v.toInt ∧ v.toInt ≤ 39 → jJ jSgX Dy hx9 → jSm fp_X8_at_r55_c2 h hx9 → Q (some (.int v)) hx9) : jC m_X8_at 1 0 0 [.ref 55, .int a1, .int 2] h Q := by
  refine jC.of rfl k_X8_at rfl ?_
  have Sm := jSm_rf fp_X8_at_r55_c2 h
  show jX m_X8_at 1 0 0 0 [(0, .ref 55), (1, .int a1), (2, .int 2)] [] _ 0 0 _
  refine x_iloadn (x := a1) rfl rfl ?_
  refine x_iflt (tgt := 24) rfl rfl (ti_lt rfl jk_0 (br_f (by omega) ?_))
  refine x_iloadn (x := a1) rfl rfl ?_
  refine x_aloadn (x := 55) rfl rfl ?_
  refine z_getI (N := 4) 8 3 rfl f_8_7 rfl J rfl sg_55_3_4_1_0_1 (fun v1 qv1 ev1 => ?_)
  refine x_icge (tgt := 24) rfl rfl (ti_ge rfl rfl ⟨fun c2 => ?_, fun c2 => ?_⟩)
  ·
    exact jX.sub jsb_n (ct_X8_at_r55_c2_24 hD hQ  h J Sm)
  ·
    refine x_iloadn (x := 2) rfl rfl ?_
    refine x_iflt (tgt := 24) rfl rfl (ti_lt jk_2 jk_0 (br_f (by omega) ?_))
    refine x_iloadn (x := 2) rfl rfl ?_
    refine x_aloadn (x := 55) rfl rfl ?_
    refine z_getC (N := 4) (v := 5) 8 0 rfl f_8_19 rfl J rfl sg_55_0_1_1_0_1 jk_5 ?_
    refine x_iclt (tgt := 26) rfl rfl (ti_lt jk_2 jk_5 (br_t (by omega) ?_))
    refine x_aloadn (x := 55) rfl rfl ?_
    refine z_getR (N := 4) (b := 56) 8 2 rfl f_8_25 rfl J rfl 7042 ⟨rfl, rfl⟩ rfl ?_
    refine x_iloadn (x := a1) rfl rfl ?_
    refine x_aloadn (x := 55) rfl rfl ?_
    refine z_getC (N := 4) (v := 5) 8 0 rfl f_8_19 rfl J rfl sg_55_0_1_1_0_1 jk_5 ?_
    refine z_imul rfl rfl jk_5 (by omega) (fun v3 ev3 => ?_)
    refine x_iloadn (x := 2) rfl rfl ?_
    refine z_iadd rfl rfl jk_2 (by omega) (fun v4 ev4 => ?_)
    refine z_iald (N := 500) rfl J rfl sg_56_0_500_5_2_3 rfl (by omega) (fun v5 qv5 ev5 => ?_)
    refine x_iret rfl rfl ?_
    exact hQ _ _ (jr_of rfl (by omega)) J Sm
def fp_X8_at_r55_c3 : jFp := []
set_option maxRecDepth 100000 in
set_option maxHeartbeats 4000000 in
theorem ct_X8_at_r55_c3_24 {Dy : jH → Prop} {h0 : jH} {Q : Option Value → jH → Prop} (hD : jDk Dy) (hQ : ∀ (v : Int32) hx9, 0 ≤ v.toInt ∧ v.toInt ≤ 39 → jJ jSgX Dy hx9 → jSm fp_X8_at_r55_c3 h0 hx9 → Q (some (.int v)) hx9) : ∀ (h : jH), jJ jSgX Dy h → jSm fp_X8_at_r55_c3 h0 h → jX m_X8_at 1 0 0 24 [] [] h 0 0 Q := by
  intro  h    J Sm
  refine x_iconst (v := 0) rfl ki_0 ?_
  refine x_iret rfl rfl ?_
  exact hQ _ _ (jr_of jk_0 (by omega)) J Sm
set_option maxRecDepth 100000 in
set_option maxHeartbeats 4000000 in
theorem sf_X8_at_r55_c3 {Dy : jH → Prop} {h : jH} {Q : Option Value → jH → Prop} {a1 : Int32} (y1 : 0 ≤ a1.toInt ∧ a1.toInt ≤ 99) (hD : jDk Dy) (J : jJ jSgX Dy h) (hQ : ∀ (v : Int32) hx9, 0 ≤ v.toInt ∧ v.toInt ≤ 39 → jJ jSgX Dy hx9 → jSm fp_X8_at_r55_c3 h hx9 → Q (some (.int v)) hx9) : jC m_X8_at 1 0 0 [.ref 55, .int a1, .int 3] h Q := by
  refine jC.of rfl k_X8_at rfl ?_
  have Sm := jSm_rf fp_X8_at_r55_c3 h
  show jX m_X8_at 1 0 0 0 [(0, .ref 55), (1, .int a1), (2, .int 3)] [] _ 0 0 _
  refine x_iloadn (x := a1) rfl rfl ?_
  refine x_iflt (tgt := 24) rfl rfl (ti_lt rfl jk_0 (br_f (by omega) ?_))
  refine x_iloadn (x := a1) rfl rfl ?_
  refine x_aloadn (x := 55) rfl rfl ?_
  refine z_getI (N := 4) 8 3 rfl f_8_7 rfl J rfl sg_55_3_4_1_0_1 (fun v1 qv1 ev1 => ?_)
  refine x_icge (tgt := 24) rfl rfl (ti_ge rfl rfl ⟨fun c2 => ?_, fun c2 => ?_⟩)
  ·
    exact jX.sub jsb_n (ct_X8_at_r55_c3_24 hD hQ  h J Sm)
  ·
    refine x_iloadn (x := 3) rfl rfl ?_
    refine x_iflt (tgt := 24) rfl rfl (ti_lt jk_3 jk_0 (br_f (by omega) ?_))
    refine x_iloadn (x := 3) rfl rfl ?_
    refine x_aloadn (x := 55) rfl rfl ?_
    refine z_getC (N := 4) (v := 5) 8 0 rfl f_8_19 rfl J rfl sg_55_0_1_1_0_1 jk_5 ?_
    refine x_iclt (tgt := 26) rfl rfl (ti_lt jk_3 jk_5 (br_t (by omega) ?_))
    refine x_aloadn (x := 55) rfl rfl ?_
    refine z_getR (N := 4) (b := 56) 8 2 rfl f_8_25 rfl J rfl 7042 ⟨rfl, rfl⟩ rfl ?_
    refine x_iloadn (x := a1) rfl rfl ?_
    refine x_aloadn (x := 55) rfl rfl ?_
    refine z_getC (N := 4) (v := 5) 8 0 rfl f_8_19 rfl J rfl sg_55_0_1_1_0_1 jk_5 ?_
    refine z_imul rfl rfl jk_5 (by omega) (fun v3 ev3 => ?_)
    refine x_iloadn (x := 3) rfl rfl ?_
    refine z_iadd rfl rfl jk_3 (by omega) (fun v4 ev4 => ?_)
    refine z_iald (N := 500) rfl J rfl sg_56_0_500_5_3_4 rfl (by omega) (fun v5 qv5 ev5 => ?_)
    refine x_iret rfl rfl ?_
    exact hQ _ _ (jr_of rfl (by omega)) J Sm
def fp_X8_at_r55_c4 : jFp := []
set_option maxRecDepth 100000 in
set_option maxHeartbeats 4000000 in
theorem ct_X8_at_r55_c4_24 {Dy : jH → Prop} {h0 : jH} {Q : Option Value → jH → Prop} (hD : jDk Dy) (hQ : ∀ (v : Int32) hx9, 0 ≤ v.toInt ∧ v.toInt ≤ 1000000 → jJ jSgX Dy hx9 → jSm fp_X8_at_r55_c4 h0 hx9 → Q (some (.int v)) hx9) : ∀ (h : jH), jJ jSgX Dy h → jSm fp_X8_at_r55_c4 h0 h → jX m_X8_at 1 0 0 24 [] [] h 0 0 Q := by
  intro  h    J Sm
  refine x_iconst (v := 0) rfl ki_0 ?_
  refine x_iret rfl rfl ?_
  exact hQ _ _ (jr_of jk_0 (by omega)) J Sm
set_option maxRecDepth 100000 in
set_option maxHeartbeats 4000000 in
theorem sf_X8_at_r55_c4 {Dy : jH → Prop} {h : jH} {Q : Option Value → jH → Prop} {a1 : Int32} (y1 : 0 ≤ a1.toInt ∧ a1.toInt ≤ 99) (hD : jDk Dy) (J : jJ jSgX Dy h) (hQ : ∀ (v : Int32) hx9, 0 ≤ v.toInt ∧ v.toInt ≤ 1000000 → jJ jSgX Dy hx9 → jSm fp_X8_at_r55_c4 h hx9 → Q (some (.int v)) hx9) : jC m_X8_at 1 0 0 [.ref 55, .int a1, .int 4] h Q := by
  refine jC.of rfl k_X8_at rfl ?_
  have Sm := jSm_rf fp_X8_at_r55_c4 h
  show jX m_X8_at 1 0 0 0 [(0, .ref 55), (1, .int a1), (2, .int 4)] [] _ 0 0 _
  refine x_iloadn (x := a1) rfl rfl ?_
  refine x_iflt (tgt := 24) rfl rfl (ti_lt rfl jk_0 (br_f (by omega) ?_))
  refine x_iloadn (x := a1) rfl rfl ?_
  refine x_aloadn (x := 55) rfl rfl ?_
  refine z_getI (N := 4) 8 3 rfl f_8_7 rfl J rfl sg_55_3_4_1_0_1 (fun v1 qv1 ev1 => ?_)
  refine x_icge (tgt := 24) rfl rfl (ti_ge rfl rfl ⟨fun c2 => ?_, fun c2 => ?_⟩)
  ·
    exact jX.sub jsb_n (ct_X8_at_r55_c4_24 hD hQ  h J Sm)
  ·
    refine x_iloadn (x := 4) rfl rfl ?_
    refine x_iflt (tgt := 24) rfl rfl (ti_lt jk_4 jk_0 (br_f (by omega) ?_))
    refine x_iloadn (x := 4) rfl rfl ?_
    refine x_aloadn (x := 55) rfl rfl ?_
    refine z_getC (N := 4) (v := 5) 8 0 rfl f_8_19 rfl J rfl sg_55_0_1_1_0_1 jk_5 ?_
    refine x_iclt (tgt := 26) rfl rfl (ti_lt jk_4 jk_5 (br_t (by omega) ?_))
    refine x_aloadn (x := 55) rfl rfl ?_
    refine z_getR (N := 4) (b := 56) 8 2 rfl f_8_25 rfl J rfl 7042 ⟨rfl, rfl⟩ rfl ?_
    refine x_iloadn (x := a1) rfl rfl ?_
    refine x_aloadn (x := 55) rfl rfl ?_
    refine z_getC (N := 4) (v := 5) 8 0 rfl f_8_19 rfl J rfl sg_55_0_1_1_0_1 jk_5 ?_
    refine z_imul rfl rfl jk_5 (by omega) (fun v3 ev3 => ?_)
    refine x_iloadn (x := 4) rfl rfl ?_
    refine z_iadd rfl rfl jk_4 (by omega) (fun v4 ev4 => ?_)
    refine z_iald (N := 500) rfl J rfl sg_56_0_500_5_4_5 rfl (by omega) (fun v5 qv5 ev5 => ?_)
    refine x_iret rfl rfl ?_
    exact hQ _ _ (jr_of rfl (by omega)) J Sm
def fp_X8_isKnown_r53 : jFp := []
set_option maxRecDepth 100000 in
set_option maxHeartbeats 4000000 in
theorem ct_X8_isKnown_r53_200032 {Dy : jH → Prop} {h0 : jH} {Q : Option Value → jH → Prop} (hD : jDk Dy) (hQ : ∀ (v : Int32) hx9, 0 ≤ v.toInt ∧ v.toInt ≤ 1 → jJ jSgX Dy hx9 → jSm fp_X8_isKnown_r53 h0 hx9 → Q (some (.int v)) hx9) : ∀ (h : jH), jJ jSgX Dy h → jSm fp_X8_isKnown_r53 h0 h → jX m_X8_isKnown 1 0 0 32 [] [.int 0] h 0 0 Q := by
  intro  h    J Sm
  refine x_zret rfl rfl (by decide) ?_
  exact hQ _ _ (jr_of jk_0 (by omega)) J Sm
set_option maxRecDepth 100000 in
set_option maxHeartbeats 4000000 in
theorem ct_X8_isKnown_r53_300032 {Dy : jH → Prop} {h0 : jH} {Q : Option Value → jH → Prop} (hD : jDk Dy) (hQ : ∀ (v : Int32) hx9, 0 ≤ v.toInt ∧ v.toInt ≤ 1 → jJ jSgX Dy hx9 → jSm fp_X8_isKnown_r53 h0 hx9 → Q (some (.int v)) hx9) : ∀ (h : jH), jJ jSgX Dy h → jSm fp_X8_isKnown_r53 h0 h → jX m_X8_isKnown 1 0 0 32 [] [.int 1] h 0 0 Q := by
  intro  h    J Sm
  refine x_zret rfl rfl (by decide) ?_
  exact hQ _ _ (jr_of jk_1 (by omega)) J Sm
set_option maxRecDepth 100000 in
set_option maxHeartbeats 4000000 in
theorem ct_X8_isKnown_r53_31 {Dy : jH → Prop} {h0 : jH} {Q : Option Value → jH → Prop} (hD : jDk Dy) (hQ : ∀ (v : Int32) hx9, 0 ≤ v.toInt ∧ v.toInt ≤ 1 → jJ jSgX Dy hx9 → jSm fp_X8_isKnown_r53 h0 hx9 → Q (some (.int v)) hx9) : ∀ (h : jH), jJ jSgX Dy h → jSm fp_X8_isKnown_r53 h0 h → jX m_X8_isKnown 1 0 0 31 [] [] h 0 0 Q := by
  intro  h    J Sm
  refine x_iconst (v := 0) rfl ki_0 ?_
  exact jX.sub jsb_n (ct_X8_isKnown_r53_200032 hD hQ  h J Sm)
set_option maxRecDepth 100000 in
set_option maxHeartbeats 4000000 in
theorem sf_X8_isKnown_r53 {Dy : jH → Prop} {h : jH} {Q : Option Value → jH → Prop} {a1 : Int32} {a2 : Int32} (y2 : 0 ≤ a2.toInt ∧ a2.toInt ≤ 146399) (hD : jDk Dy) (J : jJ jSgX Dy h) (hQ : ∀ (v : Int32) hx9, 0 ≤ v.toInt ∧ v.toInt ≤ 1 → jJ jSgX Dy hx9 → jSm fp_X8_isKnown_r53 h hx9 → Q (some (.int v)) hx9) : jC m_X8_isKnown 1 0 0 [.ref 53, .int a1, .int a2] h Q := by
  refine jC.of rfl k_X8_isKnown rfl ?_
  have Sm := jSm_rf fp_X8_isKnown_r53 h
  have ea1 := jfull a1
  show jX m_X8_isKnown 1 0 0 0 [(0, .ref 53), (1, .int a1), (2, .int a2)] [] _ 0 0 _
  refine x_iloadn (x := a1) rfl rfl ?_
  refine x_iflt (tgt := 31) rfl rfl (ti_lt rfl jk_0 ⟨fun c1 => ?_, fun c1 => ?_⟩)
  ·
    exact jX.sub jsb_n (ct_X8_isKnown_r53_31 hD hQ  h J Sm)
  ·
    refine x_iloadn (x := a1) rfl rfl ?_
    refine x_aloadn (x := 53) rfl rfl ?_
    refine z_getI (N := 4) 8 3 rfl f_8_7 rfl J rfl sg_53_3_4_1_0_1 (fun v2 qv2 ev2 => ?_)
    refine x_icge (tgt := 31) rfl rfl (ti_ge rfl rfl ⟨fun c3 => ?_, fun c3 => ?_⟩)
    ·
      exact jX.sub jsb_n (ct_X8_isKnown_r53_31 hD hQ  h J Sm)
    ·
      refine x_aloadn (x := 53) rfl rfl ?_
      refine z_getR (N := 4) (b := 54) 8 2 rfl f_8_25 rfl J rfl 6786 ⟨rfl, rfl⟩ rfl ?_
      refine x_iloadn (x := a1) rfl rfl ?_
      refine x_aloadn (x := 53) rfl rfl ?_
      refine z_getC (N := 4) (v := 4) 8 0 rfl f_8_19 rfl J rfl sg_53_0_1_1_0_1 jk_4 ?_
      refine z_imul rfl rfl jk_4 (by omega) (fun v4 ev4 => ?_)
      refine z_iald (N := 160) rfl J rfl sg_54_0_160_4_0_1 rfl (by omega) (fun v5 qv5 ev5 => ?_)
      refine x_iloadn (x := a2) rfl rfl ?_
      refine x_icgt (tgt := 31) rfl rfl (ti_gt rfl rfl ⟨fun c6 => ?_, fun c6 => ?_⟩)
      ·
        exact jX.sub jsb_n (ct_X8_isKnown_r53_31 hD hQ  h J Sm)
      ·
        refine x_iconst (v := 1) rfl ki_1 ?_
        refine x_goto (tgt := 32) rfl rfl ?_
        exact jX.sub jsb_n (ct_X8_isKnown_r53_300032 hD hQ  h J Sm)
def fp_X8_isKnown_r55 : jFp := []
set_option maxRecDepth 100000 in
set_option maxHeartbeats 4000000 in
theorem ct_X8_isKnown_r55_300032 {Dy : jH → Prop} {h0 : jH} {Q : Option Value → jH → Prop} (hD : jDk Dy) (hQ : ∀ (v : Int32) hx9, 0 ≤ v.toInt ∧ v.toInt ≤ 1 → jJ jSgX Dy hx9 → jSm fp_X8_isKnown_r55 h0 hx9 → Q (some (.int v)) hx9) : ∀ (h : jH), jJ jSgX Dy h → jSm fp_X8_isKnown_r55 h0 h → jX m_X8_isKnown 1 0 0 32 [] [.int 1] h 0 0 Q := by
  intro  h    J Sm
  refine x_zret rfl rfl (by decide) ?_
  exact hQ _ _ (jr_of jk_1 (by omega)) J Sm
set_option maxRecDepth 100000 in
set_option maxHeartbeats 4000000 in
theorem ct_X8_isKnown_r55_200032 {Dy : jH → Prop} {h0 : jH} {Q : Option Value → jH → Prop} (hD : jDk Dy) (hQ : ∀ (v : Int32) hx9, 0 ≤ v.toInt ∧ v.toInt ≤ 1 → jJ jSgX Dy hx9 → jSm fp_X8_isKnown_r55 h0 hx9 → Q (some (.int v)) hx9) : ∀ (h : jH), jJ jSgX Dy h → jSm fp_X8_isKnown_r55 h0 h → jX m_X8_isKnown 1 0 0 32 [] [.int 0] h 0 0 Q := by
  intro  h    J Sm
  refine x_zret rfl rfl (by decide) ?_
  exact hQ _ _ (jr_of jk_0 (by omega)) J Sm
set_option maxRecDepth 100000 in
set_option maxHeartbeats 4000000 in
theorem ct_X8_isKnown_r55_31 {Dy : jH → Prop} {h0 : jH} {Q : Option Value → jH → Prop} (hD : jDk Dy) (hQ : ∀ (v : Int32) hx9, 0 ≤ v.toInt ∧ v.toInt ≤ 1 → jJ jSgX Dy hx9 → jSm fp_X8_isKnown_r55 h0 hx9 → Q (some (.int v)) hx9) : ∀ (h : jH), jJ jSgX Dy h → jSm fp_X8_isKnown_r55 h0 h → jX m_X8_isKnown 1 0 0 31 [] [] h 0 0 Q := by
  intro  h    J Sm
  refine x_iconst (v := 0) rfl ki_0 ?_
  exact jX.sub jsb_n (ct_X8_isKnown_r55_200032 hD hQ  h J Sm)
set_option maxRecDepth 100000 in
set_option maxHeartbeats 4000000 in
theorem sf_X8_isKnown_r55 {Dy : jH → Prop} {h : jH} {Q : Option Value → jH → Prop} {a1 : Int32} {a2 : Int32} (y1 : 0 ≤ a1.toInt ∧ a1.toInt ≤ 99) (y2 : 0 ≤ a2.toInt ∧ a2.toInt ≤ 146399) (hD : jDk Dy) (J : jJ jSgX Dy h) (hQ : ∀ (v : Int32) hx9, 0 ≤ v.toInt ∧ v.toInt ≤ 1 → jJ jSgX Dy hx9 → jSm fp_X8_isKnown_r55 h hx9 → Q (some (.int v)) hx9) : jC m_X8_isKnown 1 0 0 [.ref 55, .int a1, .int a2] h Q := by
  refine jC.of rfl k_X8_isKnown rfl ?_
  have Sm := jSm_rf fp_X8_isKnown_r55 h
  show jX m_X8_isKnown 1 0 0 0 [(0, .ref 55), (1, .int a1), (2, .int a2)] [] _ 0 0 _
  refine x_iloadn (x := a1) rfl rfl ?_
  refine x_iflt (tgt := 31) rfl rfl (ti_lt rfl jk_0 (br_f (by omega) ?_))
  refine x_iloadn (x := a1) rfl rfl ?_
  refine x_aloadn (x := 55) rfl rfl ?_
  refine z_getI (N := 4) 8 3 rfl f_8_7 rfl J rfl sg_55_3_4_1_0_1 (fun v1 qv1 ev1 => ?_)
  refine x_icge (tgt := 31) rfl rfl (ti_ge rfl rfl ⟨fun c2 => ?_, fun c2 => ?_⟩)
  ·
    exact jX.sub jsb_n (ct_X8_isKnown_r55_31 hD hQ  h J Sm)
  ·
    refine x_aloadn (x := 55) rfl rfl ?_
    refine z_getR (N := 4) (b := 56) 8 2 rfl f_8_25 rfl J rfl 7042 ⟨rfl, rfl⟩ rfl ?_
    refine x_iloadn (x := a1) rfl rfl ?_
    refine x_aloadn (x := 55) rfl rfl ?_
    refine z_getC (N := 4) (v := 5) 8 0 rfl f_8_19 rfl J rfl sg_55_0_1_1_0_1 jk_5 ?_
    refine z_imul rfl rfl jk_5 (by omega) (fun v3 ev3 => ?_)
    refine z_iald (N := 500) rfl J rfl sg_56_0_500_5_0_1 rfl (by omega) (fun v4 qv4 ev4 => ?_)
    refine x_iloadn (x := a2) rfl rfl ?_
    refine x_icgt (tgt := 31) rfl rfl (ti_gt rfl rfl ⟨fun c5 => ?_, fun c5 => ?_⟩)
    ·
      exact jX.sub jsb_n (ct_X8_isKnown_r55_31 hD hQ  h J Sm)
    ·
      refine x_iconst (v := 1) rfl ki_1 ?_
      refine x_goto (tgt := 32) rfl rfl ?_
      exact jX.sub jsb_n (ct_X8_isKnown_r55_300032 hD hQ  h J Sm)
def fp_X11_arrear_r31 : jFp := [(78, 13, 14), (82, 0, 600), (83, 0, 600), (84, 0, 200), (85, 0, 4), (86, 0, 3), (98, 10, 11), (98, 11, 12), (98, 12, 13), (98, 13, 14), (98, 14, 15), (98, 15, 16), (99, 0, 30), (100, 0, 30), (101, 0, 3), (102, 0, 40), (103, 0, 40), (104, 0, 40), (105, 0, 3), (106, 0, 100), (108, 0, 40), (109, 0, 40), (110, 0, 40), (111, 0, 3)]
set_option maxRecDepth 100000 in
set_option maxHeartbeats 4000000 in
theorem ct_X11_arrear_r31_39 {Dy : jH → Prop} {h0 : jH} {Q : Option Value → jH → Prop} (hD : jDk Dy) (hQ : ∀ (v : Int32) hx9, jJ jSgX Dy hx9 → jSm fp_X11_arrear_r31 h0 hx9 → Q (some (.int v)) hx9) : ∀ (h : jH), jJ jSgX Dy h → jSm fp_X11_arrear_r31 h0 h → jX m_X11_arrear 8 0 0 39 [] [] h 0 0 Q := by
  intro  h    J Sm
  refine x_ldcw (v := (-2000000000)) rfl z_11_455 ?_
  refine x_iret rfl rfl ?_
  exact hQ _ _ J Sm
set_option maxRecDepth 100000 in
set_option maxHeartbeats 4000000 in
theorem ct_X11_arrear_r31_177 {Dy : jH → Prop} {h0 : jH} {Q : Option Value → jH → Prop} {R76 : Int} (hD : jDk Dy) (hQ : ∀ (v : Int32) hx9, jJ jSgX Dy hx9 → jSm fp_X11_arrear_r31 h0 hx9 → Q (some (.int v)) hx9) (k76 : ∀ (l1 : Int32) (l2 : Int32) (l3 : Int32) (l4 : Int32) (l5 : Int32) (l6 : Int32) (h : jH), 100 - l6.toInt < R76 → 0 ≤ l2.toInt ∧ l2.toInt ≤ 39 → 0 ≤ l3.toInt ∧ l3.toInt ≤ 146399 → 0 ≤ l4.toInt ∧ l4.toInt ≤ 146399 → 0 ≤ l6.toInt ∧ l6.toInt ≤ 100 → jJ jSgX Dy h → jSm fp_X11_arrear_r31 h0 h → jX m_X11_arrear 8 0 0 76 [(0, .ref 31), (1, .int l1), (2, .int l2), (3, .int l3), (4, .int l4), (5, .int l5), (6, .int l6)] [] h 0 0 Q) : ∀ (l1 : Int32) (l2 : Int32) (l3 : Int32) (l4 : Int32) (l5 : Int32) (l6 : Int32) (h : jH), 0 ≤ l2.toInt ∧ l2.toInt ≤ 39 → 0 ≤ l3.toInt ∧ l3.toInt ≤ 146399 → 0 ≤ l4.toInt ∧ l4.toInt ≤ 146399 → 0 ≤ l6.toInt ∧ l6.toInt ≤ 99 → 100 - l6.toInt ≤ R76 → jJ jSgX Dy h → jSm fp_X11_arrear_r31 h0 h → jX m_X11_arrear 8 0 0 177 [(0, .ref 31), (1, .int l1), (2, .int l2), (3, .int l3), (4, .int l4), (5, .int l5), (6, .int l6)] [] h 0 0 Q := by
  intro l1 l2 l3 l4 l5 l6 h y0 y1 y2 y3  m76 J Sm
  have el1 := jfull l1
  have el5 := jfull l5
  refine z_iinc (x := l6) (lsx9 := fun v1 => [(6, .int v1), (0, .ref 31), (1, .int l1), (2, .int l2), (3, .int l3), (4, .int l4), (5, .int l5)]) rfl rfl rfl jko_1 (by omega) rfl (fun _ => rfl) (fun v1 ev1 => ?_)
  refine x_goto (tgt := 76) rfl rfl ?_
  exact jX.sub (jsb_c rfl (jsb_c rfl (jsb_c rfl (jsb_c rfl (jsb_c rfl (jsb_c rfl (jsb_c rfl jsb_n))))))) (k76 l1 l2 l3 l4 l5 v1 h (by omega) (jr_of rfl (by omega)) (jr_of rfl (by omega)) (jr_of rfl (by omega)) (jr_of rfl (by omega)) J Sm)
set_option maxRecDepth 100000 in
set_option maxHeartbeats 4000000 in
theorem ct_X11_arrear_r31_76 {Dy : jH → Prop} {h0 : jH} {Q : Option Value → jH → Prop} (hD : jDk Dy) (hQ : ∀ (v : Int32) hx9, jJ jSgX Dy hx9 → jSm fp_X11_arrear_r31 h0 hx9 → Q (some (.int v)) hx9) : ∀ r : Nat, ∀ (l1 : Int32) (l2 : Int32) (l3 : Int32) (l4 : Int32) (l5 : Int32) (l6 : Int32) (h : jH), 100 - l6.toInt < (r : Int) → 0 ≤ l2.toInt ∧ l2.toInt ≤ 39 → 0 ≤ l3.toInt ∧ l3.toInt ≤ 146399 → 0 ≤ l4.toInt ∧ l4.toInt ≤ 146399 → 0 ≤ l6.toInt ∧ l6.toInt ≤ 100 → jJ jSgX Dy h → jSm fp_X11_arrear_r31 h0 h → jX m_X11_arrear 8 0 0 76 [(0, .ref 31), (1, .int l1), (2, .int l2), (3, .int l3), (4, .int l4), (5, .int l5), (6, .int l6)] [] h 0 0 Q := by
  intro r
  induction r with
  | zero =>
    intro l1 l2 l3 l4 l5 l6 h hm y0 y1 y2 y3   J Sm
    exfalso
    have el1 := jfull l1
    have el5 := jfull l5
    omega
  | succ r ih =>
    intro l1 l2 l3 l4 l5 l6 h hm y0 y1 y2 y3   J Sm
    have el1 := jfull l1
    have el5 := jfull l5
    refine x_iload (x := l6) rfl rfl ?_
    refine x_aloadn (x := 31) rfl rfl ?_
    refine z_getR (N := 13) (b := 32) 11 0 rfl f_11_10 rfl J rfl 3968 ⟨rfl, rfl⟩ rfl ?_
    refine z_getR (N := 20) (b := 55) 1 11 rfl f_11_452 rfl J rfl 4107 ⟨rfl, rfl⟩ rfl ?_
    refine z_getI (N := 4) 8 3 rfl f_11_142 rfl J rfl sg_55_3_4_1_0_1 (fun v1 qv1 ev1 => ?_)
    refine x_icge (tgt := 183) rfl rfl (ti_ge rfl rfl ⟨fun c2 => ?_, fun c2 => ?_⟩)
    ·
      refine x_iload (x := l5) rfl rfl ?_
      refine x_iret rfl rfl ?_
      exact hQ _ _ J Sm
    ·
      refine x_aloadn (x := 31) rfl rfl ?_
      refine z_getR (N := 13) (b := 32) 11 0 rfl f_11_10 rfl J rfl 3968 ⟨rfl, rfl⟩ rfl ?_
      refine z_getR (N := 20) (b := 55) 1 11 rfl f_11_452 rfl J rfl 4107 ⟨rfl, rfl⟩ rfl ?_
      refine x_iload (x := l6) rfl rfl ?_
      refine x_iload (x := l4) rfl rfl ?_
      refine x_inv (N := m_X8_isKnown) (As := [.int l6, .int l4]) (b := 55) (st := []) (dx9 := 1) (mc := 0) (ms := 0) (host := "") 8 rfl t_X8_isKnown ⟨Or.inl q_11_440, i_X8_isKnown.1, i_X8_isKnown.2⟩ ⟨by decide, rfl⟩ (congrArg Prod.fst (J.1.1 55 (8, 4) rfl)) rfl (by decide) rfl rfl ⟨by decide, by decide⟩ (sf_X8_isKnown_r55 (jr_of rfl (by omega)) (jr_of rfl (by omega)) hD J  (fun v4 h ev4 J S3 => ?_))
      have Sm := jSm_tr rfl Sm S3
      show jX m_X11_arrear 8 0 0 105 [(0, .ref 31), (1, .int l1), (2, .int l2), (3, .int l3), (4, .int l4), (5, .int l5), (6, .int l6)] [.int v4] _ 0 0 _
      refine x_ifeq (tgt := 177) rfl rfl (ti_eq rfl jk_0 ⟨fun c5 => ?_, fun c5 => ?_⟩)
      ·
        exact jX.sub (jsb_c rfl (jsb_c rfl (jsb_c rfl (jsb_c rfl (jsb_c rfl (jsb_c rfl (jsb_c rfl jsb_n))))))) (ct_X11_arrear_r31_177 hD hQ ih l1 l2 l3 l4 l5 l6 h (jr_of rfl (by omega)) (jr_of rfl (by omega)) (jr_of rfl (by omega)) (jr_of rfl (by omega)) (by omega) J Sm)
      ·
        refine x_aloadn (x := 31) rfl rfl ?_
        refine z_getR (N := 13) (b := 32) 11 0 rfl f_11_10 rfl J rfl 3968 ⟨rfl, rfl⟩ rfl ?_
        refine z_getR (N := 20) (b := 55) 1 11 rfl f_11_452 rfl J rfl 4107 ⟨rfl, rfl⟩ rfl ?_
        refine x_iload (x := l6) rfl rfl ?_
        refine x_iconst (v := 1) rfl ki_1 ?_
        refine x_inv (N := m_X8_at) (As := [.int l6, .int 1]) (b := 55) (st := []) (dx9 := 1) (mc := 0) (ms := 0) (host := "") 8 rfl t_X8_at ⟨Or.inl q_11_171, i_X8_at.1, i_X8_at.2⟩ ⟨by decide, rfl⟩ (congrArg Prod.fst (J.1.1 55 (8, 4) rfl)) rfl (by decide) rfl rfl ⟨by decide, by decide⟩ (sf_X8_at_r55_c1 (jr_of rfl (by omega)) hD J  (fun v7 h ev7 J S6 => ?_))
        have Sm := jSm_tr rfl Sm S6
        show jX m_X11_arrear 8 0 0 121 [(0, .ref 31), (1, .int l1), (2, .int l2), (3, .int l3), (4, .int l4), (5, .int l5), (6, .int l6)] [.int v7] _ 0 0 _
        refine x_iloadn (x := l3) rfl rfl ?_
        refine x_icgt (tgt := 177) rfl rfl (ti_gt rfl rfl ⟨fun c8 => ?_, fun c8 => ?_⟩)
        ·
          exact jX.sub (jsb_c rfl (jsb_c rfl (jsb_c rfl (jsb_c rfl (jsb_c rfl (jsb_c rfl (jsb_c rfl jsb_n))))))) (ct_X11_arrear_r31_177 hD hQ ih l1 l2 l3 l4 l5 l6 h (jr_of rfl (by omega)) (jr_of rfl (by omega)) (jr_of rfl (by omega)) (jr_of rfl (by omega)) (by omega) J Sm)
        ·
          refine x_aloadn (x := 31) rfl rfl ?_
          refine z_getR (N := 13) (b := 32) 11 0 rfl f_11_10 rfl J rfl 3968 ⟨rfl, rfl⟩ rfl ?_
          refine z_getR (N := 20) (b := 55) 1 11 rfl f_11_452 rfl J rfl 4107 ⟨rfl, rfl⟩ rfl ?_
          refine x_iload (x := l6) rfl rfl ?_
          refine x_iconst (v := 2) rfl ki_2 ?_
          refine x_inv (N := m_X8_at) (As := [.int l6, .int 2]) (b := 55) (st := []) (dx9 := 1) (mc := 0) (ms := 0) (host := "") 8 rfl t_X8_at ⟨Or.inl q_11_171, i_X8_at.1, i_X8_at.2⟩ ⟨by decide, rfl⟩ (congrArg Prod.fst (J.1.1 55 (8, 4) rfl)) rfl (by decide) rfl rfl ⟨by decide, by decide⟩ (sf_X8_at_r55_c2 (jr_of rfl (by omega)) hD J  (fun v10 h ev10 J S9 => ?_))
          have Sm := jSm_tr rfl Sm S9
          show jX m_X11_arrear 8 0 0 138 [(0, .ref 31), (1, .int l1), (2, .int l2), (3, .int l3), (4, .int l4), (5, .int l5), (6, .int l6)] [.int v10] _ 0 0 _
          refine x_iloadn (x := l2) rfl rfl ?_
          refine x_icne (tgt := 177) rfl rfl (ti_ne rfl rfl ⟨fun c11 => ?_, fun c11 => ?_⟩)
          ·
            exact jX.sub (jsb_c rfl (jsb_c rfl (jsb_c rfl (jsb_c rfl (jsb_c rfl (jsb_c rfl (jsb_c rfl jsb_n))))))) (ct_X11_arrear_r31_177 hD hQ ih l1 l2 l3 l4 l5 l6 h (jr_of rfl (by omega)) (jr_of rfl (by omega)) (jr_of rfl (by omega)) (jr_of rfl (by omega)) (by omega) J Sm)
          ·
            refine x_aloadn (x := 31) rfl rfl ?_
            refine z_getR (N := 13) (b := 32) 11 0 rfl f_11_10 rfl J rfl 3968 ⟨rfl, rfl⟩ rfl ?_
            refine z_getR (N := 20) (b := 55) 1 11 rfl f_11_452 rfl J rfl 4107 ⟨rfl, rfl⟩ rfl ?_
            refine x_iload (x := l6) rfl rfl ?_
            refine x_iconst (v := 3) rfl ki_3 ?_
            refine x_inv (N := m_X8_at) (As := [.int l6, .int 3]) (b := 55) (st := []) (dx9 := 1) (mc := 0) (ms := 0) (host := "") 8 rfl t_X8_at ⟨Or.inl q_11_171, i_X8_at.1, i_X8_at.2⟩ ⟨by decide, rfl⟩ (congrArg Prod.fst (J.1.1 55 (8, 4) rfl)) rfl (by decide) rfl rfl ⟨by decide, by decide⟩ (sf_X8_at_r55_c3 (jr_of rfl (by omega)) hD J  (fun v13 h ev13 J S12 => ?_))
            have Sm := jSm_tr rfl Sm S12
            show jX m_X11_arrear 8 0 0 155 [(0, .ref 31), (1, .int l1), (2, .int l2), (3, .int l3), (4, .int l4), (5, .int l5), (6, .int l6)] [.int v13] _ 0 0 _
            refine x_iloadn (x := l1) rfl rfl ?_
            refine x_icne (tgt := 177) rfl rfl (ti_ne rfl rfl ⟨fun c14 => ?_, fun c14 => ?_⟩)
            ·
              exact jX.sub (jsb_c rfl (jsb_c rfl (jsb_c rfl (jsb_c rfl (jsb_c rfl (jsb_c rfl (jsb_c rfl jsb_n))))))) (ct_X11_arrear_r31_177 hD hQ ih l1 l2 l3 l4 l5 l6 h (jr_of rfl (by omega)) (jr_of rfl (by omega)) (jr_of rfl (by omega)) (jr_of rfl (by omega)) (by omega) J Sm)
            ·
              refine x_iload (x := l5) rfl rfl ?_
              refine x_aloadn (x := 31) rfl rfl ?_
              refine z_getR (N := 13) (b := 32) 11 0 rfl f_11_10 rfl J rfl 3968 ⟨rfl, rfl⟩ rfl ?_
              refine z_getR (N := 20) (b := 55) 1 11 rfl f_11_452 rfl J rfl 4107 ⟨rfl, rfl⟩ rfl ?_
              refine x_iload (x := l6) rfl rfl ?_
              refine x_iconst (v := 4) rfl ki_4 ?_
              refine x_inv (N := m_X8_at) (As := [.int l6, .int 4]) (b := 55) (st := [.int l5]) (dx9 := 1) (mc := 0) (ms := 0) (host := "") 8 rfl t_X8_at ⟨Or.inl q_11_171, i_X8_at.1, i_X8_at.2⟩ ⟨by decide, rfl⟩ (congrArg Prod.fst (J.1.1 55 (8, 4) rfl)) rfl (by decide) rfl rfl ⟨by decide, by decide⟩ (sf_X8_at_r55_c4 (jr_of rfl (by omega)) hD J  (fun v16 h ev16 J S15 => ?_))
              have Sm := jSm_tr rfl Sm S15
              show jX m_X11_arrear 8 0 0 174 [(0, .ref 31), (1, .int l1), (2, .int l2), (3, .int l3), (4, .int l4), (5, .int l5), (6, .int l6)] [.int v16, .int l5] _ 0 0 _
              refine z_isub0 rfl (fun v17 => ?_)
              have ev17 := jfull v17
              refine x_istore (lsx9 := [(5, .int v17), (0, .ref 31), (1, .int l1), (2, .int l2), (3, .int l3), (4, .int l4), (6, .int l6)]) rfl rfl rfl ?_
              exact jX.sub (jsb_c rfl (jsb_c rfl (jsb_c rfl (jsb_c rfl (jsb_c rfl (jsb_c rfl (jsb_c rfl jsb_n))))))) (ct_X11_arrear_r31_177 hD hQ ih l1 l2 l3 l4 v17 l6 h (jr_of rfl (by omega)) (jr_of rfl (by omega)) (jr_of rfl (by omega)) (jr_of rfl (by omega)) (by omega) J Sm)
set_option maxRecDepth 100000 in
set_option maxHeartbeats 4000000 in
theorem sf_X11_arrear_r31 {Dy : jH → Prop} {h : jH} {Q : Option Value → jH → Prop} {a1 : Int32} {a2 : Int32} {a3 : Int32} {a4 : Int32} (hD : jDk Dy) (J : jJ jSgX Dy h) (hQ : ∀ (v : Int32) hx9, jJ jSgX Dy hx9 → jSm fp_X11_arrear_r31 h hx9 → Q (some (.int v)) hx9) : jC m_X11_arrear 8 0 0 [.ref 31, .int a1, .int a2, .int a3, .int a4] h Q := by
  refine jC.of rfl k_X11_arrear rfl ?_
  have Sm := jSm_rf fp_X11_arrear_r31 h
  have ea1 := jfull a1
  have ea2 := jfull a2
  have ea3 := jfull a3
  have ea4 := jfull a4
  show jX m_X11_arrear 8 0 0 0 [(0, .ref 31), (1, .int a1), (2, .int a2), (3, .int a3), (4, .int a4)] [] _ 0 0 _
  refine x_iloadn (x := a3) rfl rfl ?_
  refine x_inst (N := m_X11_isDay) (As := [.int a3]) (st := []) (dx9 := 1) (mc := 0) (ms := 0) (host := "") rfl t_X11_isDay ⟨Or.inl q_11_115, s_X11_isDay⟩ rfl (by decide) rfl rfl ⟨by decide, by decide⟩ (zc_X11_isDay rfl (fun v1 ev1 => ?_))
  show jX m_X11_arrear 8 0 0 4 [(0, .ref 31), (1, .int a1), (2, .int a2), (3, .int a3), (4, .int a4)] [.int v1] _ 0 0 _
  refine x_ifeq (tgt := 39) rfl rfl (ti_eq rfl jk_0 ⟨fun c2 => ?_, fun c2 => ?_⟩)
  ·
    exact jX.sub jsb_n (ct_X11_arrear_r31_39 hD hQ  h J Sm)
  ·
    refine x_iload (x := a4) rfl rfl ?_
    refine x_inst (N := m_X11_isDay) (As := [.int a4]) (st := []) (dx9 := 1) (mc := 0) (ms := 0) (host := "") rfl t_X11_isDay ⟨Or.inl q_11_115, s_X11_isDay⟩ rfl (by decide) rfl rfl ⟨by decide, by decide⟩ (zc_X11_isDay rfl (fun v3 ev3 => ?_))
    show jX m_X11_arrear 8 0 0 12 [(0, .ref 31), (1, .int a1), (2, .int a2), (3, .int a3), (4, .int a4)] [.int v3] _ 0 0 _
    refine x_ifeq (tgt := 39) rfl rfl (ti_eq rfl jk_0 ⟨fun c4 => ?_, fun c4 => ?_⟩)
    ·
      exact jX.sub jsb_n (ct_X11_arrear_r31_39 hD hQ  h J Sm)
    ·
      refine x_aloadn (x := 31) rfl rfl ?_
      refine z_getR (N := 13) (b := 32) 11 0 rfl f_11_10 rfl J rfl 3968 ⟨rfl, rfl⟩ rfl ?_
      refine z_getR (N := 20) (b := 53) 1 10 rfl f_11_437 rfl J rfl 4106 ⟨rfl, rfl⟩ rfl ?_
      refine x_iloadn (x := a1) rfl rfl ?_
      refine x_iload (x := a4) rfl rfl ?_
      refine x_inv (N := m_X8_isKnown) (As := [.int a1, .int a4]) (b := 53) (st := []) (dx9 := 1) (mc := 0) (ms := 0) (host := "") 8 rfl t_X8_isKnown ⟨Or.inl q_11_440, i_X8_isKnown.1, i_X8_isKnown.2⟩ ⟨by decide, rfl⟩ (congrArg Prod.fst (J.1.1 53 (8, 4) rfl)) rfl (by decide) rfl rfl ⟨by decide, by decide⟩ (sf_X8_isKnown_r53 (jr_of rfl (by omega)) hD J  (fun v6 h ev6 J S5 => ?_))
      have Sm := jSm_tr rfl Sm S5
      show jX m_X11_arrear 8 0 0 28 [(0, .ref 31), (1, .int a1), (2, .int a2), (3, .int a3), (4, .int a4)] [.int v6] _ 0 0 _
      refine x_ifeq (tgt := 39) rfl rfl (ti_eq rfl jk_0 ⟨fun c7 => ?_, fun c7 => ?_⟩)
      ·
        exact jX.sub jsb_n (ct_X11_arrear_r31_39 hD hQ  h J Sm)
      ·
        refine x_aloadn (x := 31) rfl rfl ?_
        refine x_iloadn (x := a2) rfl rfl ?_
        refine x_inv (N := m_X11_isHolding) (As := [.int a2]) (b := 31) (st := []) (dx9 := 7) (mc := 0) (ms := 0) (host := "") 11 rfl t_X11_isHolding ⟨Or.inl q_11_415, i_X11_isHolding.1, i_X11_isHolding.2⟩ ⟨by decide, rfl⟩ (congrArg Prod.fst (J.1.1 31 (11, 13) rfl)) rfl (by decide) rfl rfl ⟨by decide, by decide⟩ (jC.of rfl k_X11_isHolding rfl ?_)
        show jX m_X11_isHolding 7 0 0 0 [(0, .ref 31), (1, .int a2)] [] _ 0 0 _
        refine x_iloadn (x := a2) rfl rfl ?_
        refine x_iflt (tgt := 28) rfl rfl (ti_lt rfl jk_0 ⟨fun c8 => ?_, fun c8 => ?_⟩)
        ·
          refine x_iconst (v := 0) rfl ki_0 ?_
          refine x_zret rfl rfl (by decide) ?_
          show jX m_X11_arrear 8 0 0 36 [(0, .ref 31), (1, .int a1), (2, .int a2), (3, .int a3), (4, .int a4)] [.int 0] _ 0 0 _
          refine x_ifne (tgt := 43) rfl rfl (ti_ne jk_0 jk_0 (bn_f (by omega) ?_))
          exact jX.sub jsb_n (ct_X11_arrear_r31_39 hD hQ  h J Sm)
        ·
          refine x_iloadn (x := a2) rfl rfl ?_
          refine x_aloadn (x := 31) rfl rfl ?_
          refine z_getR (N := 13) (b := 32) 11 0 rfl f_11_10 rfl J rfl 3968 ⟨rfl, rfl⟩ rfl ?_
          refine z_getR (N := 20) (b := 49) 1 8 rfl f_11_408 rfl J rfl 4104 ⟨rfl, rfl⟩ rfl ?_
          refine z_getI (N := 4) 8 3 rfl f_11_142 rfl J rfl sg_49_3_4_1_0_1 (fun v9 qv9 ev9 => ?_)
          refine x_icge (tgt := 28) rfl rfl (ti_ge rfl rfl ⟨fun c10 => ?_, fun c10 => ?_⟩)
          ·
            refine x_iconst (v := 0) rfl ki_0 ?_
            refine x_zret rfl rfl (by decide) ?_
            show jX m_X11_arrear 8 0 0 36 [(0, .ref 31), (1, .int a1), (2, .int a2), (3, .int a3), (4, .int a4)] [.int 0] _ 0 0 _
            refine x_ifne (tgt := 43) rfl rfl (ti_ne jk_0 jk_0 (bn_f (by omega) ?_))
            exact jX.sub jsb_n (ct_X11_arrear_r31_39 hD hQ  h J Sm)
          ·
            refine x_iloadn (x := a2) rfl rfl ?_
            refine x_bipush (v := 40) rfl kb_40 ?_
            refine x_icge (tgt := 28) rfl rfl (ti_ge rfl jk_40 (br_f (by omega) ?_))
            refine x_iconst (v := 1) rfl ki_1 ?_
            refine x_goto (tgt := 29) rfl rfl ?_
            refine x_zret rfl rfl (by decide) ?_
            show jX m_X11_arrear 8 0 0 36 [(0, .ref 31), (1, .int a1), (2, .int a2), (3, .int a3), (4, .int a4)] [.int 1] _ 0 0 _
            refine x_ifne (tgt := 43) rfl rfl (ti_ne jk_1 jk_0 (bn_t (by omega) ?_))
            refine x_aloadn (x := 31) rfl rfl ?_
            refine z_getR (N := 13) (b := 78) 11 4 rfl f_11_41 rfl J rfl 3972 ⟨rfl, rfl⟩ rfl ?_
            refine x_iload (x := a4) rfl rfl ?_
            refine x_inv (N := m_X7_asKnown) (As := [.int a4]) (b := 78) (st := []) (dx9 := 6) (mc := 0) (ms := 0) (host := "") 7 rfl t_X7_asKnown ⟨Or.inl q_11_240, i_X7_asKnown.1, i_X7_asKnown.2⟩ ⟨by decide, rfl⟩ (congrArg Prod.fst (J.1.1 78 (7, 16) rfl)) rfl (by decide) rfl rfl ⟨by decide, by decide⟩ (sf_X7_asKnown_r78 (jr_of rfl (by omega)) hD J  (fun h J S11 => ?_))
            have Sm := jSm_tr rfl Sm S11
            show jX m_X11_arrear 8 0 0 52 [(0, .ref 31), (1, .int a1), (2, .int a2), (3, .int a3), (4, .int a4)] [] _ 0 0 _
            refine x_aloadn (x := 31) rfl rfl ?_
            refine z_getR (N := 13) (b := 107) 11 8 rfl f_11_75 rfl J rfl 3976 ⟨rfl, rfl⟩ rfl ?_
            refine x_iloadn (x := a1) rfl rfl ?_
            refine x_iload (x := a4) rfl rfl ?_
            refine x_inv (N := m_X4_partOut) (As := [.int a1, .int a4]) (b := 107) (st := []) (dx9 := 7) (mc := 0) (ms := 0) (host := "") 4 rfl t_X4_partOut ⟨Or.inl q_11_443, i_X4_partOut.1, i_X4_partOut.2⟩ ⟨by decide, rfl⟩ (congrArg Prod.fst (J.1.1 107 (4, 18) rfl)) rfl (by decide) rfl rfl ⟨by decide, by decide⟩ (sf_X4_partOut_r107 (jr_of rfl (by omega)) hD J  (fun h J S12 => ?_))
            have Sm := jSm_tr rfl Sm S12
            show jX m_X11_arrear 8 0 0 62 [(0, .ref 31), (1, .int a1), (2, .int a2), (3, .int a3), (4, .int a4)] [] _ 0 0 _
            refine x_aloadn (x := 31) rfl rfl ?_
            refine z_getR (N := 13) (b := 107) 11 8 rfl f_11_75 rfl J rfl 3976 ⟨rfl, rfl⟩ rfl ?_
            refine z_getR (N := 18) (b := 108) 4 3 rfl f_11_449 rfl J rfl 13699 ⟨rfl, rfl⟩ rfl ?_
            refine x_iloadn (x := a2) rfl rfl ?_
            refine z_iald0 (N := 40) rfl J rfl rfl (by omega) (fun v13 qv13 => ?_)
            have ev13 := jfull v13
            refine x_istore (lsx9 := [(5, .int v13), (0, .ref 31), (1, .int a1), (2, .int a2), (3, .int a3), (4, .int a4)]) rfl rfl rfl ?_
            refine x_iconst (v := 0) rfl ki_0 ?_
            refine x_istore (lsx9 := [(6, .int 0), (5, .int v13), (0, .ref 31), (1, .int a1), (2, .int a2), (3, .int a3), (4, .int a4)]) rfl rfl rfl ?_
            exact jX.sub (jsb_c rfl (jsb_c rfl (jsb_c rfl (jsb_c rfl (jsb_c rfl (jsb_c rfl (jsb_c rfl jsb_n))))))) (ct_X11_arrear_r31_76 hD hQ  101 a1 a2 a3 a4 v13 0 h (by have := jk_0; omega) (jr_of rfl (by omega)) (jr_of rfl (by omega)) (jr_of rfl (by omega)) (jr_of jk_0 (by omega)) J Sm)
def fp_X8_at_r63_c0 : jFp := []
set_option maxRecDepth 100000 in
set_option maxHeartbeats 4000000 in
theorem ct_X8_at_r63_c0_24 {Dy : jH → Prop} {h0 : jH} {Q : Option Value → jH → Prop} (hD : jDk Dy) (hQ : ∀ (v : Int32) hx9, 0 ≤ v.toInt ∧ v.toInt ≤ 3 → jJ jSgX Dy hx9 → jSm fp_X8_at_r63_c0 h0 hx9 → Q (some (.int v)) hx9) : ∀ (h : jH), jJ jSgX Dy h → jSm fp_X8_at_r63_c0 h0 h → jX m_X8_at 1 0 0 24 [] [] h 0 0 Q := by
  intro  h    J Sm
  refine x_iconst (v := 0) rfl ki_0 ?_
  refine x_iret rfl rfl ?_
  exact hQ _ _ (jr_of jk_0 (by omega)) J Sm
set_option maxRecDepth 100000 in
set_option maxHeartbeats 4000000 in
theorem sf_X8_at_r63_c0 {Dy : jH → Prop} {h : jH} {Q : Option Value → jH → Prop} {a1 : Int32} (y1 : 0 ≤ a1.toInt ∧ a1.toInt ≤ 369) (hD : jDk Dy) (J : jJ jSgX Dy h) (hQ : ∀ (v : Int32) hx9, 0 ≤ v.toInt ∧ v.toInt ≤ 3 → jJ jSgX Dy hx9 → jSm fp_X8_at_r63_c0 h hx9 → Q (some (.int v)) hx9) : jC m_X8_at 1 0 0 [.ref 63, .int a1, .int 0] h Q := by
  refine jC.of rfl k_X8_at rfl ?_
  have Sm := jSm_rf fp_X8_at_r63_c0 h
  show jX m_X8_at 1 0 0 0 [(0, .ref 63), (1, .int a1), (2, .int 0)] [] _ 0 0 _
  refine x_iloadn (x := a1) rfl rfl ?_
  refine x_iflt (tgt := 24) rfl rfl (ti_lt rfl jk_0 (br_f (by omega) ?_))
  refine x_iloadn (x := a1) rfl rfl ?_
  refine x_aloadn (x := 63) rfl rfl ?_
  refine z_getI (N := 4) 8 3 rfl f_8_7 rfl J rfl sg_63_3_4_1_0_1 (fun v1 qv1 ev1 => ?_)
  refine x_icge (tgt := 24) rfl rfl (ti_ge rfl rfl ⟨fun c2 => ?_, fun c2 => ?_⟩)
  ·
    exact jX.sub jsb_n (ct_X8_at_r63_c0_24 hD hQ  h J Sm)
  ·
    refine x_iloadn (x := 0) rfl rfl ?_
    refine x_iflt (tgt := 24) rfl rfl (ti_lt jk_0 jk_0 (br_f (by omega) ?_))
    refine x_iloadn (x := 0) rfl rfl ?_
    refine x_aloadn (x := 63) rfl rfl ?_
    refine z_getC (N := 4) (v := 2) 8 0 rfl f_8_19 rfl J rfl sg_63_0_1_1_0_1 jk_2 ?_
    refine x_iclt (tgt := 26) rfl rfl (ti_lt jk_0 jk_2 (br_t (by omega) ?_))
    refine x_aloadn (x := 63) rfl rfl ?_
    refine z_getR (N := 4) (b := 64) 8 2 rfl f_8_25 rfl J rfl 8066 ⟨rfl, rfl⟩ rfl ?_
    refine x_iloadn (x := a1) rfl rfl ?_
    refine x_aloadn (x := 63) rfl rfl ?_
    refine z_getC (N := 4) (v := 2) 8 0 rfl f_8_19 rfl J rfl sg_63_0_1_1_0_1 jk_2 ?_
    refine z_imul rfl rfl jk_2 (by omega) (fun v3 ev3 => ?_)
    refine x_iloadn (x := 0) rfl rfl ?_
    refine z_iadd rfl rfl jk_0 (by omega) (fun v4 ev4 => ?_)
    refine z_iald (N := 740) rfl J rfl sg_64_0_740_2_0_1 rfl (by omega) (fun v5 qv5 ev5 => ?_)
    refine x_iret rfl rfl ?_
    exact hQ _ _ (jr_of rfl (by omega)) J Sm
def fp_X8_at_r63_c1 : jFp := []
set_option maxRecDepth 100000 in
set_option maxHeartbeats 4000000 in
theorem ct_X8_at_r63_c1_24 {Dy : jH → Prop} {h0 : jH} {Q : Option Value → jH → Prop} (hD : jDk Dy) (hQ : ∀ (v : Int32) hx9, 0 ≤ v.toInt ∧ v.toInt ≤ 200 → jJ jSgX Dy hx9 → jSm fp_X8_at_r63_c1 h0 hx9 → Q (some (.int v)) hx9) : ∀ (h : jH), jJ jSgX Dy h → jSm fp_X8_at_r63_c1 h0 h → jX m_X8_at 1 0 0 24 [] [] h 0 0 Q := by
  intro  h    J Sm
  refine x_iconst (v := 0) rfl ki_0 ?_
  refine x_iret rfl rfl ?_
  exact hQ _ _ (jr_of jk_0 (by omega)) J Sm
set_option maxRecDepth 100000 in
set_option maxHeartbeats 4000000 in
theorem sf_X8_at_r63_c1 {Dy : jH → Prop} {h : jH} {Q : Option Value → jH → Prop} {a1 : Int32} (y1 : 0 ≤ a1.toInt ∧ a1.toInt ≤ 369) (hD : jDk Dy) (J : jJ jSgX Dy h) (hQ : ∀ (v : Int32) hx9, 0 ≤ v.toInt ∧ v.toInt ≤ 200 → jJ jSgX Dy hx9 → jSm fp_X8_at_r63_c1 h hx9 → Q (some (.int v)) hx9) : jC m_X8_at 1 0 0 [.ref 63, .int a1, .int 1] h Q := by
  refine jC.of rfl k_X8_at rfl ?_
  have Sm := jSm_rf fp_X8_at_r63_c1 h
  show jX m_X8_at 1 0 0 0 [(0, .ref 63), (1, .int a1), (2, .int 1)] [] _ 0 0 _
  refine x_iloadn (x := a1) rfl rfl ?_
  refine x_iflt (tgt := 24) rfl rfl (ti_lt rfl jk_0 (br_f (by omega) ?_))
  refine x_iloadn (x := a1) rfl rfl ?_
  refine x_aloadn (x := 63) rfl rfl ?_
  refine z_getI (N := 4) 8 3 rfl f_8_7 rfl J rfl sg_63_3_4_1_0_1 (fun v1 qv1 ev1 => ?_)
  refine x_icge (tgt := 24) rfl rfl (ti_ge rfl rfl ⟨fun c2 => ?_, fun c2 => ?_⟩)
  ·
    exact jX.sub jsb_n (ct_X8_at_r63_c1_24 hD hQ  h J Sm)
  ·
    refine x_iloadn (x := 1) rfl rfl ?_
    refine x_iflt (tgt := 24) rfl rfl (ti_lt jk_1 jk_0 (br_f (by omega) ?_))
    refine x_iloadn (x := 1) rfl rfl ?_
    refine x_aloadn (x := 63) rfl rfl ?_
    refine z_getC (N := 4) (v := 2) 8 0 rfl f_8_19 rfl J rfl sg_63_0_1_1_0_1 jk_2 ?_
    refine x_iclt (tgt := 26) rfl rfl (ti_lt jk_1 jk_2 (br_t (by omega) ?_))
    refine x_aloadn (x := 63) rfl rfl ?_
    refine z_getR (N := 4) (b := 64) 8 2 rfl f_8_25 rfl J rfl 8066 ⟨rfl, rfl⟩ rfl ?_
    refine x_iloadn (x := a1) rfl rfl ?_
    refine x_aloadn (x := 63) rfl rfl ?_
    refine z_getC (N := 4) (v := 2) 8 0 rfl f_8_19 rfl J rfl sg_63_0_1_1_0_1 jk_2 ?_
    refine z_imul rfl rfl jk_2 (by omega) (fun v3 ev3 => ?_)
    refine x_iloadn (x := 1) rfl rfl ?_
    refine z_iadd rfl rfl jk_1 (by omega) (fun v4 ev4 => ?_)
    refine z_iald (N := 740) rfl J rfl sg_64_0_740_2_1_2 rfl (by omega) (fun v5 qv5 ev5 => ?_)
    refine x_iret rfl rfl ?_
    exact hQ _ _ (jr_of rfl (by omega)) J Sm
def fp_X11_as_r31 : jFp := []
set_option maxRecDepth 100000 in
set_option maxHeartbeats 4000000 in
theorem ct_X11_as_r31_10 {Dy : jH → Prop} {h0 : jH} {Q : Option Value → jH → Prop} (hD : jDk Dy) (hQ : ∀ (v : Int32) hx9, (-3) ≤ v.toInt ∧ v.toInt ≤ 200 → jJ jSgX Dy hx9 → jSm fp_X11_as_r31 h0 hx9 → Q (some (.int v)) hx9) : ∀ (h : jH), jJ jSgX Dy h → jSm fp_X11_as_r31 h0 h → jX m_X11_as 2 0 0 10 [] [] h 0 0 Q := by
  intro  h    J Sm
  refine x_iconst (v := (-1)) rfl ki_m1 ?_
  refine x_iret rfl rfl ?_
  exact hQ _ _ (jr_of jk_m1 (by omega)) J Sm
set_option maxRecDepth 100000 in
set_option maxHeartbeats 4000000 in
theorem ct_X11_as_r31_30 {Dy : jH → Prop} {h0 : jH} {Q : Option Value → jH → Prop} (hD : jDk Dy) (hQ : ∀ (v : Int32) hx9, (-3) ≤ v.toInt ∧ v.toInt ≤ 200 → jJ jSgX Dy hx9 → jSm fp_X11_as_r31 h0 hx9 → Q (some (.int v)) hx9) : ∀ (h : jH), jJ jSgX Dy h → jSm fp_X11_as_r31 h0 h → jX m_X11_as 2 0 0 30 [] [] h 0 0 Q := by
  intro  h    J Sm
  refine x_bipush (v := (-2)) rfl kb_m2 ?_
  refine x_iret rfl rfl ?_
  exact hQ _ _ (jr_of jk_m2 (by omega)) J Sm
set_option maxRecDepth 100000 in
set_option maxHeartbeats 4000000 in
theorem ct_X11_as_r31_127 {Dy : jH → Prop} {h0 : jH} {Q : Option Value → jH → Prop} (hD : jDk Dy) (hQ : ∀ (v : Int32) hx9, (-3) ≤ v.toInt ∧ v.toInt ≤ 200 → jJ jSgX Dy hx9 → jSm fp_X11_as_r31 h0 hx9 → Q (some (.int v)) hx9) : ∀ (s0 : Int32) (h : jH), (-3) ≤ s0.toInt ∧ s0.toInt ≤ 200 → jJ jSgX Dy h → jSm fp_X11_as_r31 h0 h → jX m_X11_as 2 0 0 127 [] [.int s0] h 0 0 Q := by
  intro s0 h y0   J Sm
  refine x_iret rfl rfl ?_
  exact hQ _ _ (jr_of rfl (by omega)) J Sm
set_option maxRecDepth 100000 in
set_option maxHeartbeats 4000000 in
theorem ct_X11_as_r31_120 {Dy : jH → Prop} {h0 : jH} {Q : Option Value → jH → Prop} (hD : jDk Dy) (hQ : ∀ (v : Int32) hx9, (-3) ≤ v.toInt ∧ v.toInt ≤ 200 → jJ jSgX Dy hx9 → jSm fp_X11_as_r31 h0 hx9 → Q (some (.int v)) hx9) : ∀ (l4 : Int32) (h : jH), 0 ≤ l4.toInt ∧ l4.toInt ≤ 200 → jJ jSgX Dy h → jSm fp_X11_as_r31 h0 h → jX m_X11_as 2 0 0 120 [(4, .int l4)] [] h 0 0 Q := by
  intro l4 h y0   J Sm
  refine x_iload (x := l4) rfl rfl ?_
  refine x_goto (tgt := 127) rfl rfl ?_
  exact jX.sub jsb_n (ct_X11_as_r31_127 hD hQ  l4 h (jr_of rfl (by omega)) J Sm)
set_option maxRecDepth 100000 in
set_option maxHeartbeats 4000000 in
theorem ct_X11_as_r31_125 {Dy : jH → Prop} {h0 : jH} {Q : Option Value → jH → Prop} (hD : jDk Dy) (hQ : ∀ (v : Int32) hx9, (-3) ≤ v.toInt ∧ v.toInt ≤ 200 → jJ jSgX Dy hx9 → jSm fp_X11_as_r31 h0 hx9 → Q (some (.int v)) hx9) : ∀ (h : jH), jJ jSgX Dy h → jSm fp_X11_as_r31 h0 h → jX m_X11_as 2 0 0 125 [] [] h 0 0 Q := by
  intro  h    J Sm
  refine x_bipush (v := (-3)) rfl kb_m3 ?_
  exact jX.sub jsb_n (ct_X11_as_r31_127 hD hQ  (-3) h (jr_of jk_m3 (by omega)) J Sm)
set_option maxRecDepth 100000 in
set_option maxHeartbeats 4000000 in
theorem ct_X11_as_r31_80 {Dy : jH → Prop} {h0 : jH} {Q : Option Value → jH → Prop} (hD : jDk Dy) (hQ : ∀ (v : Int32) hx9, (-3) ≤ v.toInt ∧ v.toInt ≤ 200 → jJ jSgX Dy hx9 → jSm fp_X11_as_r31 h0 hx9 → Q (some (.int v)) hx9) : ∀ (s0 : Int32) (h : jH), (-3) ≤ s0.toInt ∧ s0.toInt ≤ 200 → jJ jSgX Dy h → jSm fp_X11_as_r31 h0 h → jX m_X11_as 2 0 0 80 [] [.int s0] h 0 0 Q := by
  intro s0 h y0   J Sm
  refine x_iret rfl rfl ?_
  exact hQ _ _ (jr_of rfl (by omega)) J Sm
set_option maxRecDepth 100000 in
set_option maxHeartbeats 4000000 in
theorem sf_X11_as_r31 {Dy : jH → Prop} {h : jH} {Q : Option Value → jH → Prop} {a1 : Int32} {a2 : Int32} (hD : jDk Dy) (J : jJ jSgX Dy h) (hQ : ∀ (v : Int32) hx9, (-3) ≤ v.toInt ∧ v.toInt ≤ 200 → jJ jSgX Dy hx9 → jSm fp_X11_as_r31 h hx9 → Q (some (.int v)) hx9) : jC m_X11_as 2 0 0 [.ref 31, .int a1, .int a2] h Q := by
  refine jC.of rfl k_X11_as rfl ?_
  have Sm := jSm_rf fp_X11_as_r31 h
  have ea1 := jfull a1
  have ea2 := jfull a2
  show jX m_X11_as 2 0 0 0 [(0, .ref 31), (1, .int a1), (2, .int a2)] [] _ 0 0 _
  refine x_iloadn (x := a2) rfl rfl ?_
  refine x_iflt (tgt := 10) rfl rfl (ti_lt rfl jk_0 ⟨fun c1 => ?_, fun c1 => ?_⟩)
  ·
    exact jX.sub jsb_n (ct_X11_as_r31_10 hD hQ  h J Sm)
  ·
    refine x_iloadn (x := a2) rfl rfl ?_
    refine x_bipush (v := 9) rfl kb_9 ?_
    refine x_icle (tgt := 12) rfl rfl (ti_le rfl jk_9 ⟨fun c2 => ?_, fun c2 => ?_⟩)
    ·
      refine x_iloadn (x := a1) rfl rfl ?_
      refine x_iflt (tgt := 30) rfl rfl (ti_lt rfl jk_0 ⟨fun c3 => ?_, fun c3 => ?_⟩)
      ·
        exact jX.sub jsb_n (ct_X11_as_r31_30 hD hQ  h J Sm)
      ·
        refine x_iloadn (x := a1) rfl rfl ?_
        refine x_aloadn (x := 31) rfl rfl ?_
        refine z_getR (N := 13) (b := 32) 11 0 rfl f_11_10 rfl J rfl 3968 ⟨rfl, rfl⟩ rfl ?_
        refine z_getR (N := 20) (b := 63) 1 15 rfl f_11_159 rfl J rfl 4111 ⟨rfl, rfl⟩ rfl ?_
        refine z_getI (N := 4) 8 3 rfl f_11_142 rfl J rfl sg_63_3_4_1_0_1 (fun v4 qv4 ev4 => ?_)
        refine x_iclt (tgt := 33) rfl rfl (ti_lt rfl rfl ⟨fun c5 => ?_, fun c5 => ?_⟩)
        ·
          refine x_aloadn (x := 31) rfl rfl ?_
          refine z_getR (N := 13) (b := 32) 11 0 rfl f_11_10 rfl J rfl 3968 ⟨rfl, rfl⟩ rfl ?_
          refine z_getR (N := 20) (b := 63) 1 15 rfl f_11_159 rfl J rfl 4111 ⟨rfl, rfl⟩ rfl ?_
          refine x_iloadn (x := a1) rfl rfl ?_
          refine x_iconst (v := 0) rfl ki_0 ?_
          refine x_inv (N := m_X8_at) (As := [.int a1, .int 0]) (b := 63) (st := []) (dx9 := 1) (mc := 0) (ms := 0) (host := "") 8 rfl t_X8_at ⟨Or.inl q_11_171, i_X8_at.1, i_X8_at.2⟩ ⟨by decide, rfl⟩ (congrArg Prod.fst (J.1.1 63 (8, 4) rfl)) rfl (by decide) rfl rfl ⟨by decide, by decide⟩ (sf_X8_at_r63_c0 (jr_of rfl (by omega)) hD J  (fun v7 h ev7 J S6 => ?_))
          have Sm := jSm_tr rfl Sm S6
          show jX m_X11_as 2 0 0 45 [(0, .ref 31), (1, .int a1), (2, .int a2)] [.int v7] _ 0 0 _
          refine x_istoren (lsx9 := [(3, .int v7), (0, .ref 31), (1, .int a1), (2, .int a2)]) rfl rfl rfl ?_
          refine x_aloadn (x := 31) rfl rfl ?_
          refine z_getR (N := 13) (b := 32) 11 0 rfl f_11_10 rfl J rfl 3968 ⟨rfl, rfl⟩ rfl ?_
          refine z_getR (N := 20) (b := 63) 1 15 rfl f_11_159 rfl J rfl 4111 ⟨rfl, rfl⟩ rfl ?_
          refine x_iloadn (x := a1) rfl rfl ?_
          refine x_iconst (v := 1) rfl ki_1 ?_
          refine x_inv (N := m_X8_at) (As := [.int a1, .int 1]) (b := 63) (st := []) (dx9 := 1) (mc := 0) (ms := 0) (host := "") 8 rfl t_X8_at ⟨Or.inl q_11_171, i_X8_at.1, i_X8_at.2⟩ ⟨by decide, rfl⟩ (congrArg Prod.fst (J.1.1 63 (8, 4) rfl)) rfl (by decide) rfl rfl ⟨by decide, by decide⟩ (sf_X8_at_r63_c1 (jr_of rfl (by omega)) hD J  (fun v9 h ev9 J S8 => ?_))
          have Sm := jSm_tr rfl Sm S8
          show jX m_X11_as 2 0 0 58 [(3, .int v7), (0, .ref 31), (1, .int a1), (2, .int a2)] [.int v9] _ 0 0 _
          refine x_istore (lsx9 := [(4, .int v9), (3, .int v7), (0, .ref 31), (1, .int a1), (2, .int a2)]) rfl rfl rfl ?_
          refine x_iloadn (x := a2) rfl rfl ?_
          refine x_iconst (v := 5) rfl ki_5 ?_
          refine x_icle (tgt := 81) rfl rfl (ti_le rfl jk_5 ⟨fun c10 => ?_, fun c10 => ?_⟩)
          ·
            refine x_iloadn (x := v7) rfl rfl ?_
            refine x_ifeq (tgt := 88) rfl rfl (ti_eq rfl jk_0 ⟨fun c11 => ?_, fun c11 => ?_⟩)
            ·
              refine x_aloadn (x := 31) rfl rfl ?_
              refine z_getR (N := 13) (b := 32) 11 0 rfl f_11_10 rfl J rfl 3968 ⟨rfl, rfl⟩ rfl ?_
              refine z_getR (N := 20) (b := 33) 1 0 rfl f_11_126 rfl J rfl 4096 ⟨rfl, rfl⟩ rfl ?_
              refine x_iload (x := v9) rfl rfl ?_
              refine x_iconst (v := 2) rfl ki_2 ?_
              refine x_inv (N := m_X8_at) (As := [.int v9, .int 2]) (b := 33) (st := []) (dx9 := 1) (mc := 0) (ms := 0) (host := "") 8 rfl t_X8_at ⟨Or.inl q_11_171, i_X8_at.1, i_X8_at.2⟩ ⟨by decide, rfl⟩ (congrArg Prod.fst (J.1.1 33 (8, 4) rfl)) rfl (by decide) rfl rfl ⟨by decide, by decide⟩ (sf_X8_at_r33_c2  hD J  (fun v13 h ev13 J S12 => ?_))
              have Sm := jSm_tr rfl Sm S12
              show jX m_X11_as 2 0 0 101 [(4, .int v9), (3, .int v7), (0, .ref 31), (1, .int a1), (2, .int a2)] [.int v13] _ 0 0 _
              refine x_istore (lsx9 := [(5, .int v13), (4, .int v9), (3, .int v7), (0, .ref 31), (1, .int a1), (2, .int a2)]) rfl rfl rfl ?_
              refine x_iload (x := v13) rfl rfl ?_
              refine x_iloadn (x := a2) rfl rfl ?_
              refine x_iceq (tgt := 120) rfl rfl (ti_eq rfl rfl ⟨fun c14 => ?_, fun c14 => ?_⟩)
              ·
                exact jX.sub (jsb_c rfl jsb_n) (ct_X11_as_r31_120 hD hQ  v9 h (jr_of rfl (by omega)) J Sm)
              ·
                refine x_iloadn (x := a2) rfl rfl ?_
                refine x_iconst (v := 3) rfl ki_3 ?_
                refine x_icne (tgt := 125) rfl rfl (ti_ne rfl jk_3 ⟨fun c15 => ?_, fun c15 => ?_⟩)
                ·
                  exact jX.sub jsb_n (ct_X11_as_r31_125 hD hQ  h J Sm)
                ·
                  refine x_iload (x := v13) rfl rfl ?_
                  refine x_iconst (v := 4) rfl ki_4 ?_
                  refine x_icne (tgt := 125) rfl rfl (ti_ne rfl jk_4 ⟨fun c16 => ?_, fun c16 => ?_⟩)
                  ·
                    exact jX.sub jsb_n (ct_X11_as_r31_125 hD hQ  h J Sm)
                  ·
                    exact jX.sub (jsb_c rfl jsb_n) (ct_X11_as_r31_120 hD hQ  v9 h (jr_of rfl (by omega)) J Sm)
            ·
              refine x_bipush (v := (-3)) rfl kb_m3 ?_
              refine x_iret rfl rfl ?_
              exact hQ _ _ (jr_of jk_m3 (by omega)) J Sm
          ·
            refine x_iloadn (x := v7) rfl rfl ?_
            refine x_iloadn (x := a2) rfl rfl ?_
            refine x_bipush (v := 6) rfl kb_6 ?_
            refine z_isub rfl rfl jk_6 (by omega) (fun v17 ev17 => ?_)
            refine x_icne (tgt := 78) rfl rfl (ti_ne rfl rfl ⟨fun c18 => ?_, fun c18 => ?_⟩)
            ·
              refine x_bipush (v := (-3)) rfl kb_m3 ?_
              exact jX.sub jsb_n (ct_X11_as_r31_80 hD hQ  (-3) h (jr_of jk_m3 (by omega)) J Sm)
            ·
              refine x_iload (x := v9) rfl rfl ?_
              refine x_goto (tgt := 80) rfl rfl ?_
              exact jX.sub jsb_n (ct_X11_as_r31_80 hD hQ  v9 h (jr_of rfl (by omega)) J Sm)
        ·
          exact jX.sub jsb_n (ct_X11_as_r31_30 hD hQ  h J Sm)
    ·
      exact jX.sub jsb_n (ct_X11_as_r31_10 hD hQ  h J Sm)
def fp_X8_at_r35 : jFp := []
set_option maxRecDepth 100000 in
set_option maxHeartbeats 4000000 in
theorem ct_X8_at_r35_24 {Dy : jH → Prop} {h0 : jH} {Q : Option Value → jH → Prop} (hD : jDk Dy) (hQ : ∀ (v : Int32) hx9, jJ jSgX Dy hx9 → jSm fp_X8_at_r35 h0 hx9 → Q (some (.int v)) hx9) : ∀ (h : jH), jJ jSgX Dy h → jSm fp_X8_at_r35 h0 h → jX m_X8_at 1 0 0 24 [] [] h 0 0 Q := by
  intro  h    J Sm
  refine x_iconst (v := 0) rfl ki_0 ?_
  refine x_iret rfl rfl ?_
  exact hQ _ _ J Sm
set_option maxRecDepth 100000 in
set_option maxHeartbeats 4000000 in
theorem sf_X8_at_r35 {Dy : jH → Prop} {h : jH} {Q : Option Value → jH → Prop} {a1 : Int32} {a2 : Int32} (y1 : 0 ≤ a1.toInt ∧ a1.toInt ≤ 1199) (y2 : 2 ≤ a2.toInt ∧ a2.toInt ≤ 19) (hD : jDk Dy) (J : jJ jSgX Dy h) (hQ : ∀ (v : Int32) hx9, jJ jSgX Dy hx9 → jSm fp_X8_at_r35 h hx9 → Q (some (.int v)) hx9) : jC m_X8_at 1 0 0 [.ref 35, .int a1, .int a2] h Q := by
  refine jC.of rfl k_X8_at rfl ?_
  have Sm := jSm_rf fp_X8_at_r35 h
  show jX m_X8_at 1 0 0 0 [(0, .ref 35), (1, .int a1), (2, .int a2)] [] _ 0 0 _
  refine x_iloadn (x := a1) rfl rfl ?_
  refine x_iflt (tgt := 24) rfl rfl (ti_lt rfl jk_0 (br_f (by omega) ?_))
  refine x_iloadn (x := a1) rfl rfl ?_
  refine x_aloadn (x := 35) rfl rfl ?_
  refine z_getI (N := 4) 8 3 rfl f_8_7 rfl J rfl sg_35_3_4_1_0_1 (fun v1 qv1 ev1 => ?_)
  refine x_icge (tgt := 24) rfl rfl (ti_ge rfl rfl ⟨fun c2 => ?_, fun c2 => ?_⟩)
  ·
    exact jX.sub jsb_n (ct_X8_at_r35_24 hD hQ  h J Sm)
  ·
    refine x_iloadn (x := a2) rfl rfl ?_
    refine x_iflt (tgt := 24) rfl rfl (ti_lt rfl jk_0 (br_f (by omega) ?_))
    refine x_iloadn (x := a2) rfl rfl ?_
    refine x_aloadn (x := 35) rfl rfl ?_
    refine z_getC (N := 4) (v := 14) 8 0 rfl f_8_19 rfl J rfl sg_35_0_1_1_0_1 jk_14 ?_
    refine x_iclt (tgt := 26) rfl rfl (ti_lt rfl jk_14 ⟨fun c3 => ?_, fun c3 => ?_⟩)
    ·
      refine x_aloadn (x := 35) rfl rfl ?_
      refine z_getR (N := 4) (b := 36) 8 2 rfl f_8_25 rfl J rfl 4482 ⟨rfl, rfl⟩ rfl ?_
      refine x_iloadn (x := a1) rfl rfl ?_
      refine x_aloadn (x := 35) rfl rfl ?_
      refine z_getC (N := 4) (v := 14) 8 0 rfl f_8_19 rfl J rfl sg_35_0_1_1_0_1 jk_14 ?_
      refine z_imul rfl rfl jk_14 (by omega) (fun v4 ev4 => ?_)
      refine x_iloadn (x := a2) rfl rfl ?_
      refine z_iadd rfl rfl rfl (by omega) (fun v5 ev5 => ?_)
      refine z_iald0 (N := 16800) rfl J rfl rfl (by omega) (fun v6 qv6 => ?_)
      have ev6 := jfull v6
      refine x_iret rfl rfl ?_
      exact hQ _ _ J Sm
    ·
      exact jX.sub jsb_n (ct_X8_at_r35_24 hD hQ  h J Sm)
def fp_X5_pairAt_r70 : jFp := []
set_option maxRecDepth 100000 in
set_option maxHeartbeats 4000000 in
theorem ct_X5_pairAt_r70_112 {Dy : jH → Prop} {h0 : jH} {Q : Option Value → jH → Prop} {R3 : Int} (hD : jDk Dy) (hQ : ∀ (v : Int32) hx9, (-1) ≤ v.toInt ∧ v.toInt ≤ 1016 → jJ jSgX Dy hx9 → jSm fp_X5_pairAt_r70 h0 hx9 → Q (some (.int v)) hx9) (k3 : ∀ (l1 : Int32) (l2 : Int32) (l3 : Int32) (l4 : Int32) (l5 : Int32) (h : jH), 8 - l5.toInt < R3 → 0 ≤ l1.toInt ∧ l1.toInt ≤ 1199 → 0 ≤ l2.toInt ∧ l2.toInt ≤ 11 → 1 ≤ l3.toInt ∧ l3.toInt ≤ 12 → 0 ≤ l4.toInt ∧ l4.toInt ≤ 15 → 0 ≤ l5.toInt ∧ l5.toInt ≤ 8 → jJ jSgX Dy h → jSm fp_X5_pairAt_r70 h0 h → jX m_X5_pairAt 2 0 0 3 [(0, .ref 70), (1, .int l1), (2, .int l2), (3, .int l3), (4, .int l4), (5, .int l5)] [] h 0 0 Q) : ∀ (l1 : Int32) (l2 : Int32) (l3 : Int32) (l4 : Int32) (l5 : Int32) (l6 : Int32) (l8 : Int32) (h : jH), 0 ≤ l1.toInt ∧ l1.toInt ≤ 1199 → 0 ≤ l2.toInt ∧ l2.toInt ≤ 11 → 1 ≤ l3.toInt ∧ l3.toInt ≤ 12 → 0 ≤ l4.toInt ∧ l4.toInt ≤ 15 → 0 ≤ l5.toInt ∧ l5.toInt ≤ 7 → 0 ≤ l6.toInt ∧ l6.toInt ≤ 1016 → l6.toInt % 8 = 0 → 0 ≤ l8.toInt ∧ l8.toInt ≤ 1 → 8 - l5.toInt ≤ R3 → jJ jSgX Dy h → jSm fp_X5_pairAt_r70 h0 h → jX m_X5_pairAt 2 0 0 112 [(0, .ref 70), (1, .int l1), (2, .int l2), (3, .int l3), (4, .int l4), (5, .int l5), (6, .int l6), (8, .int l8)] [] h 0 0 Q := by
  intro l1 l2 l3 l4 l5 l6 l8 h y0 y1 y2 y3 y4 y5 y6 y7  m3 J Sm
  refine x_iload (x := l8) rfl rfl ?_
  refine x_ifeq (tgt := 120) rfl rfl (ti_eq rfl jk_0 ⟨fun c1 => ?_, fun c1 => ?_⟩)
  ·
    refine z_iinc (x := l5) (lsx9 := fun v2 => [(5, .int v2), (0, .ref 70), (1, .int l1), (2, .int l2), (3, .int l3), (4, .int l4), (6, .int l6), (8, .int l8)]) rfl rfl rfl jko_1 (by omega) rfl (fun _ => rfl) (fun v2 ev2 => ?_)
    refine x_goto (tgt := 3) rfl rfl ?_
    exact jX.sub (jsb_c rfl (jsb_c rfl (jsb_c rfl (jsb_c rfl (jsb_c rfl (jsb_c rfl jsb_n)))))) (k3 l1 l2 l3 l4 v2 h (by omega) (jr_of rfl (by omega)) (jr_of rfl (by omega)) (jr_of rfl (by omega)) (jr_of rfl (by omega)) (jr_of rfl (by omega)) J Sm)
  ·
    refine x_iload (x := l6) rfl rfl ?_
    refine x_iret rfl rfl ?_
    exact hQ _ _ (jr_of rfl (by omega)) J Sm
set_option maxRecDepth 100000 in
set_option maxHeartbeats 4000000 in
theorem ct_X5_pairAt_r70_200104 {Dy : jH → Prop} {h0 : jH} {Q : Option Value → jH → Prop} {R3 : Int} {R55 : Int} (hD : jDk Dy) (hQ : ∀ (v : Int32) hx9, (-1) ≤ v.toInt ∧ v.toInt ≤ 1016 → jJ jSgX Dy hx9 → jSm fp_X5_pairAt_r70 h0 hx9 → Q (some (.int v)) hx9) (k3 : ∀ (l1 : Int32) (l2 : Int32) (l3 : Int32) (l4 : Int32) (l5 : Int32) (h : jH), 8 - l5.toInt < R3 → 0 ≤ l1.toInt ∧ l1.toInt ≤ 1199 → 0 ≤ l2.toInt ∧ l2.toInt ≤ 11 → 1 ≤ l3.toInt ∧ l3.toInt ≤ 12 → 0 ≤ l4.toInt ∧ l4.toInt ≤ 15 → 0 ≤ l5.toInt ∧ l5.toInt ≤ 8 → jJ jSgX Dy h → jSm fp_X5_pairAt_r70 h0 h → jX m_X5_pairAt 2 0 0 3 [(0, .ref 70), (1, .int l1), (2, .int l2), (3, .int l3), (4, .int l4), (5, .int l5)] [] h 0 0 Q) (k55 : ∀ (l1 : Int32) (l2 : Int32) (l3 : Int32) (l4 : Int32) (l5 : Int32) (l6 : Int32) (l7 : Int32) (l8 : Int32) (l9 : Int32) (h : jH), 3 - l9.toInt < R55 → 0 ≤ l1.toInt ∧ l1.toInt ≤ 1199 → 0 ≤ l2.toInt ∧ l2.toInt ≤ 11 → 1 ≤ l3.toInt ∧ l3.toInt ≤ 12 → 0 ≤ l4.toInt ∧ l4.toInt ≤ 15 → 0 ≤ l5.toInt ∧ l5.toInt ≤ 7 → 0 ≤ l6.toInt ∧ l6.toInt ≤ 1016 → l6.toInt % 8 = 0 → (-400) ≤ l7.toInt ∧ l7.toInt ≤ 3 → 0 ≤ l8.toInt ∧ l8.toInt ≤ 1 → 0 ≤ l9.toInt ∧ l9.toInt ≤ 3 → 8 - l5.toInt ≤ R3 → jJ jSgX Dy h → jSm fp_X5_pairAt_r70 h0 h → jX m_X5_pairAt 2 0 0 55 [(0, .ref 70), (1, .int l1), (2, .int l2), (3, .int l3), (4, .int l4), (5, .int l5), (6, .int l6), (7, .int l7), (8, .int l8), (9, .int l9)] [] h 0 0 Q) : ∀ (l1 : Int32) (l2 : Int32) (l3 : Int32) (l4 : Int32) (l5 : Int32) (l6 : Int32) (l7 : Int32) (l9 : Int32) (h : jH), 0 ≤ l1.toInt ∧ l1.toInt ≤ 1199 → 0 ≤ l2.toInt ∧ l2.toInt ≤ 11 → 1 ≤ l3.toInt ∧ l3.toInt ≤ 12 → 0 ≤ l4.toInt ∧ l4.toInt ≤ 15 → 0 ≤ l5.toInt ∧ l5.toInt ≤ 7 → 0 ≤ l6.toInt ∧ l6.toInt ≤ 1016 → l6.toInt % 8 = 0 → 1 ≤ l7.toInt ∧ l7.toInt ≤ 3 → 0 ≤ l9.toInt ∧ l9.toInt ≤ 2 → 8 - l5.toInt ≤ R3 → 3 - l9.toInt ≤ R55 → jJ jSgX Dy h → jSm fp_X5_pairAt_r70 h0 h → jX m_X5_pairAt 2 0 0 104 [(0, .ref 70), (1, .int l1), (2, .int l2), (3, .int l3), (4, .int l4), (5, .int l5), (6, .int l6), (7, .int l7), (9, .int l9)] [.int 0] h 0 0 Q := by
  intro l1 l2 l3 l4 l5 l6 l7 l9 h y0 y1 y2 y3 y4 y5 y6 y7 y8  m3 m55 J Sm
  refine x_istore (lsx9 := [(8, .int 0), (0, .ref 70), (1, .int l1), (2, .int l2), (3, .int l3), (4, .int l4), (5, .int l5), (6, .int l6), (7, .int l7), (9, .int l9)]) rfl rfl rfl ?_
  refine z_iinc (x := l9) (lsx9 := fun v1 => [(9, .int v1), (8, .int 0), (0, .ref 70), (1, .int l1), (2, .int l2), (3, .int l3), (4, .int l4), (5, .int l5), (6, .int l6), (7, .int l7)]) rfl rfl rfl jko_1 (by omega) rfl (fun _ => rfl) (fun v1 ev1 => ?_)
  refine x_goto (tgt := 55) rfl rfl ?_
  exact jX.sub (jsb_c rfl (jsb_c rfl (jsb_c rfl (jsb_c rfl (jsb_c rfl (jsb_c rfl (jsb_c rfl (jsb_c rfl (jsb_c rfl (jsb_c rfl jsb_n)))))))))) (k55 l1 l2 l3 l4 l5 l6 l7 0 v1 h (by omega) (jr_of rfl (by omega)) (jr_of rfl (by omega)) (jr_of rfl (by omega)) (jr_of rfl (by omega)) (jr_of rfl (by omega)) (jr_of rfl (by omega)) (jr_mod rfl (by omega)) (jr_of rfl (by omega)) (jr_of jk_0 (by omega)) (jr_of rfl (by omega)) (by omega) J Sm)
set_option maxRecDepth 100000 in
set_option maxHeartbeats 4000000 in
theorem ct_X5_pairAt_r70_300104 {Dy : jH → Prop} {h0 : jH} {Q : Option Value → jH → Prop} {R3 : Int} {R55 : Int} (hD : jDk Dy) (hQ : ∀ (v : Int32) hx9, (-1) ≤ v.toInt ∧ v.toInt ≤ 1016 → jJ jSgX Dy hx9 → jSm fp_X5_pairAt_r70 h0 hx9 → Q (some (.int v)) hx9) (k3 : ∀ (l1 : Int32) (l2 : Int32) (l3 : Int32) (l4 : Int32) (l5 : Int32) (h : jH), 8 - l5.toInt < R3 → 0 ≤ l1.toInt ∧ l1.toInt ≤ 1199 → 0 ≤ l2.toInt ∧ l2.toInt ≤ 11 → 1 ≤ l3.toInt ∧ l3.toInt ≤ 12 → 0 ≤ l4.toInt ∧ l4.toInt ≤ 15 → 0 ≤ l5.toInt ∧ l5.toInt ≤ 8 → jJ jSgX Dy h → jSm fp_X5_pairAt_r70 h0 h → jX m_X5_pairAt 2 0 0 3 [(0, .ref 70), (1, .int l1), (2, .int l2), (3, .int l3), (4, .int l4), (5, .int l5)] [] h 0 0 Q) (k55 : ∀ (l1 : Int32) (l2 : Int32) (l3 : Int32) (l4 : Int32) (l5 : Int32) (l6 : Int32) (l7 : Int32) (l8 : Int32) (l9 : Int32) (h : jH), 3 - l9.toInt < R55 → 0 ≤ l1.toInt ∧ l1.toInt ≤ 1199 → 0 ≤ l2.toInt ∧ l2.toInt ≤ 11 → 1 ≤ l3.toInt ∧ l3.toInt ≤ 12 → 0 ≤ l4.toInt ∧ l4.toInt ≤ 15 → 0 ≤ l5.toInt ∧ l5.toInt ≤ 7 → 0 ≤ l6.toInt ∧ l6.toInt ≤ 1016 → l6.toInt % 8 = 0 → (-400) ≤ l7.toInt ∧ l7.toInt ≤ 3 → 0 ≤ l8.toInt ∧ l8.toInt ≤ 1 → 0 ≤ l9.toInt ∧ l9.toInt ≤ 3 → 8 - l5.toInt ≤ R3 → jJ jSgX Dy h → jSm fp_X5_pairAt_r70 h0 h → jX m_X5_pairAt 2 0 0 55 [(0, .ref 70), (1, .int l1), (2, .int l2), (3, .int l3), (4, .int l4), (5, .int l5), (6, .int l6), (7, .int l7), (8, .int l8), (9, .int l9)] [] h 0 0 Q) : ∀ (l1 : Int32) (l2 : Int32) (l3 : Int32) (l4 : Int32) (l5 : Int32) (l6 : Int32) (l7 : Int32) (l9 : Int32) (h : jH), 0 ≤ l1.toInt ∧ l1.toInt ≤ 1199 → 0 ≤ l2.toInt ∧ l2.toInt ≤ 11 → 1 ≤ l3.toInt ∧ l3.toInt ≤ 12 → 0 ≤ l4.toInt ∧ l4.toInt ≤ 15 → 0 ≤ l5.toInt ∧ l5.toInt ≤ 7 → 0 ≤ l6.toInt ∧ l6.toInt ≤ 1016 → l6.toInt % 8 = 0 → 1 ≤ l7.toInt ∧ l7.toInt ≤ 3 → 0 ≤ l9.toInt ∧ l9.toInt ≤ 2 → 8 - l5.toInt ≤ R3 → 3 - l9.toInt ≤ R55 → jJ jSgX Dy h → jSm fp_X5_pairAt_r70 h0 h → jX m_X5_pairAt 2 0 0 104 [(0, .ref 70), (1, .int l1), (2, .int l2), (3, .int l3), (4, .int l4), (5, .int l5), (6, .int l6), (7, .int l7), (9, .int l9)] [.int 1] h 0 0 Q := by
  intro l1 l2 l3 l4 l5 l6 l7 l9 h y0 y1 y2 y3 y4 y5 y6 y7 y8  m3 m55 J Sm
  refine x_istore (lsx9 := [(8, .int 1), (0, .ref 70), (1, .int l1), (2, .int l2), (3, .int l3), (4, .int l4), (5, .int l5), (6, .int l6), (7, .int l7), (9, .int l9)]) rfl rfl rfl ?_
  refine z_iinc (x := l9) (lsx9 := fun v1 => [(9, .int v1), (8, .int 1), (0, .ref 70), (1, .int l1), (2, .int l2), (3, .int l3), (4, .int l4), (5, .int l5), (6, .int l6), (7, .int l7)]) rfl rfl rfl jko_1 (by omega) rfl (fun _ => rfl) (fun v1 ev1 => ?_)
  refine x_goto (tgt := 55) rfl rfl ?_
  exact jX.sub (jsb_c rfl (jsb_c rfl (jsb_c rfl (jsb_c rfl (jsb_c rfl (jsb_c rfl (jsb_c rfl (jsb_c rfl (jsb_c rfl (jsb_c rfl jsb_n)))))))))) (k55 l1 l2 l3 l4 l5 l6 l7 1 v1 h (by omega) (jr_of rfl (by omega)) (jr_of rfl (by omega)) (jr_of rfl (by omega)) (jr_of rfl (by omega)) (jr_of rfl (by omega)) (jr_of rfl (by omega)) (jr_mod rfl (by omega)) (jr_of rfl (by omega)) (jr_of jk_1 (by omega)) (jr_of rfl (by omega)) (by omega) J Sm)
set_option maxRecDepth 100000 in
set_option maxHeartbeats 4000000 in
theorem ct_X5_pairAt_r70_55 {Dy : jH → Prop} {h0 : jH} {Q : Option Value → jH → Prop} {R3 : Int} (hD : jDk Dy) (hQ : ∀ (v : Int32) hx9, (-1) ≤ v.toInt ∧ v.toInt ≤ 1016 → jJ jSgX Dy hx9 → jSm fp_X5_pairAt_r70 h0 hx9 → Q (some (.int v)) hx9) (k3 : ∀ (l1 : Int32) (l2 : Int32) (l3 : Int32) (l4 : Int32) (l5 : Int32) (h : jH), 8 - l5.toInt < R3 → 0 ≤ l1.toInt ∧ l1.toInt ≤ 1199 → 0 ≤ l2.toInt ∧ l2.toInt ≤ 11 → 1 ≤ l3.toInt ∧ l3.toInt ≤ 12 → 0 ≤ l4.toInt ∧ l4.toInt ≤ 15 → 0 ≤ l5.toInt ∧ l5.toInt ≤ 8 → jJ jSgX Dy h → jSm fp_X5_pairAt_r70 h0 h → jX m_X5_pairAt 2 0 0 3 [(0, .ref 70), (1, .int l1), (2, .int l2), (3, .int l3), (4, .int l4), (5, .int l5)] [] h 0 0 Q) : ∀ r : Nat, ∀ (l1 : Int32) (l2 : Int32) (l3 : Int32) (l4 : Int32) (l5 : Int32) (l6 : Int32) (l7 : Int32) (l8 : Int32) (l9 : Int32) (h : jH), 3 - l9.toInt < (r : Int) → 0 ≤ l1.toInt ∧ l1.toInt ≤ 1199 → 0 ≤ l2.toInt ∧ l2.toInt ≤ 11 → 1 ≤ l3.toInt ∧ l3.toInt ≤ 12 → 0 ≤ l4.toInt ∧ l4.toInt ≤ 15 → 0 ≤ l5.toInt ∧ l5.toInt ≤ 7 → 0 ≤ l6.toInt ∧ l6.toInt ≤ 1016 → l6.toInt % 8 = 0 → (-400) ≤ l7.toInt ∧ l7.toInt ≤ 3 → 0 ≤ l8.toInt ∧ l8.toInt ≤ 1 → 0 ≤ l9.toInt ∧ l9.toInt ≤ 3 → 8 - l5.toInt ≤ R3 → jJ jSgX Dy h → jSm fp_X5_pairAt_r70 h0 h → jX m_X5_pairAt 2 0 0 55 [(0, .ref 70), (1, .int l1), (2, .int l2), (3, .int l3), (4, .int l4), (5, .int l5), (6, .int l6), (7, .int l7), (8, .int l8), (9, .int l9)] [] h 0 0 Q := by
  intro r
  induction r with
  | zero =>
    intro l1 l2 l3 l4 l5 l6 l7 l8 l9 h hm y0 y1 y2 y3 y4 y5 y6 y7 y8 y9  m3 J Sm
    exfalso
    omega
  | succ r ih =>
    intro l1 l2 l3 l4 l5 l6 l7 l8 l9 h hm y0 y1 y2 y3 y4 y5 y6 y7 y8 y9  m3 J Sm
    refine x_iload (x := l9) rfl rfl ?_
    refine x_iload (x := l7) rfl rfl ?_
    refine x_icge (tgt := 112) rfl rfl (ti_ge rfl rfl ⟨fun c1 => ?_, fun c1 => ?_⟩)
    ·
      exact jX.sub (jsb_c rfl (jsb_c rfl (jsb_c rfl (jsb_c rfl (jsb_c rfl (jsb_c rfl (jsb_c rfl (jsb_c rfl jsb_n)))))))) (ct_X5_pairAt_r70_112 hD hQ k3 l1 l2 l3 l4 l5 l6 l8 h (jr_of rfl (by omega)) (jr_of rfl (by omega)) (jr_of rfl (by omega)) (jr_of rfl (by omega)) (jr_of rfl (by omega)) (jr_of rfl (by omega)) (jr_mod rfl (by omega)) (jr_of rfl (by omega)) (by omega) J Sm)
    ·
      refine x_iload (x := l8) rfl rfl ?_
      refine x_ifeq (tgt := 112) rfl rfl (ti_eq rfl jk_0 ⟨fun c2 => ?_, fun c2 => ?_⟩)
      ·
        exact jX.sub (jsb_c rfl (jsb_c rfl (jsb_c rfl (jsb_c rfl (jsb_c rfl (jsb_c rfl (jsb_c rfl (jsb_c rfl jsb_n)))))))) (ct_X5_pairAt_r70_112 hD hQ k3 l1 l2 l3 l4 l5 l6 l8 h (jr_of rfl (by omega)) (jr_of rfl (by omega)) (jr_of rfl (by omega)) (jr_of rfl (by omega)) (jr_of rfl (by omega)) (jr_of rfl (by omega)) (jr_mod rfl (by omega)) (jr_of rfl (by omega)) (by omega) J Sm)
      ·
        refine x_aloadn (x := 70) rfl rfl ?_
        refine z_getR (N := 9) (b := 73) 5 4 rfl f_5_18 rfl J rfl 8964 ⟨rfl, rfl⟩ rfl ?_
        refine x_iload (x := l6) rfl rfl ?_
        refine x_iconst (v := 1) rfl ki_1 ?_
        refine z_iadd rfl rfl jk_1 (by omega) (fun v3 ev3 => ?_)
        refine x_iload (x := l9) rfl rfl ?_
        refine z_iadd rfl rfl rfl (by omega) (fun v4 ev4 => ?_)
        refine z_iald (N := 1024) rfl J rfl sg_73_0_1024_4_1_4 rfl (by omega) (fun v5 qv5 ev5 => ?_)
        refine x_aloadn (x := 70) rfl rfl ?_
        refine z_getR (N := 9) (b := 32) 5 0 rfl f_5_35 rfl J rfl 8960 ⟨rfl, rfl⟩ rfl ?_
        refine z_getR (N := 20) (b := 35) 1 1 rfl f_5_118 rfl J rfl 4097 ⟨rfl, rfl⟩ rfl ?_
        refine x_iloadn (x := l1) rfl rfl ?_
        refine x_iconst (v := 2) rfl ki_2 ?_
        refine x_iloadn (x := l2) rfl rfl ?_
        refine z_iadd rfl jk_2 rfl (by omega) (fun v6 ev6 => ?_)
        refine x_iload (x := l9) rfl rfl ?_
        refine z_iadd rfl rfl rfl (by omega) (fun v7 ev7 => ?_)
        refine x_inv (N := m_X8_at) (As := [.int l1, .int v7]) (b := 35) (st := [.int v5]) (dx9 := 1) (mc := 0) (ms := 0) (host := "") 8 rfl t_X8_at ⟨Or.inl q_5_108, i_X8_at.1, i_X8_at.2⟩ ⟨by decide, rfl⟩ (congrArg Prod.fst (J.1.1 35 (8, 4) rfl)) rfl (by decide) rfl rfl ⟨by decide, by decide⟩ (sf_X8_at_r35 (jr_of rfl (by omega)) (jr_of rfl (by omega)) hD J  (fun v9 h J S8 => ?_))
        have ev9 := jfull v9
        have Sm := jSm_tr rfl Sm S8
        show jX m_X5_pairAt 2 0 0 96 [(0, .ref 70), (1, .int l1), (2, .int l2), (3, .int l3), (4, .int l4), (5, .int l5), (6, .int l6), (7, .int l7), (8, .int l8), (9, .int l9)] [.int v9, .int v5] _ 0 0 _
        refine x_icne (tgt := 103) rfl rfl (ti_ne rfl rfl ⟨fun c10 => ?_, fun c10 => ?_⟩)
        ·
          refine x_iconst (v := 0) rfl ki_0 ?_
          exact jX.sub (jsb_c rfl (jsb_c rfl (jsb_c rfl (jsb_c rfl (jsb_c rfl (jsb_c rfl (jsb_c rfl (jsb_c rfl (jsb_c rfl jsb_n))))))))) (ct_X5_pairAt_r70_200104 hD hQ k3 ih l1 l2 l3 l4 l5 l6 l7 l9 h (jr_of rfl (by omega)) (jr_of rfl (by omega)) (jr_of rfl (by omega)) (jr_of rfl (by omega)) (jr_of rfl (by omega)) (jr_of rfl (by omega)) (jr_mod rfl (by omega)) (jr_of rfl (by omega)) (jr_of rfl (by omega)) (by omega) (by omega) J Sm)
        ·
          refine x_iconst (v := 1) rfl ki_1 ?_
          refine x_goto (tgt := 104) rfl rfl ?_
          exact jX.sub (jsb_c rfl (jsb_c rfl (jsb_c rfl (jsb_c rfl (jsb_c rfl (jsb_c rfl (jsb_c rfl (jsb_c rfl (jsb_c rfl jsb_n))))))))) (ct_X5_pairAt_r70_300104 hD hQ k3 ih l1 l2 l3 l4 l5 l6 l7 l9 h (jr_of rfl (by omega)) (jr_of rfl (by omega)) (jr_of rfl (by omega)) (jr_of rfl (by omega)) (jr_of rfl (by omega)) (jr_of rfl (by omega)) (jr_mod rfl (by omega)) (jr_of rfl (by omega)) (jr_of rfl (by omega)) (by omega) (by omega) J Sm)
set_option maxRecDepth 100000 in
set_option maxHeartbeats 4000000 in
theorem ct_X5_pairAt_r70_200050 {Dy : jH → Prop} {h0 : jH} {Q : Option Value → jH → Prop} {R3 : Int} (hD : jDk Dy) (hQ : ∀ (v : Int32) hx9, (-1) ≤ v.toInt ∧ v.toInt ≤ 1016 → jJ jSgX Dy hx9 → jSm fp_X5_pairAt_r70 h0 hx9 → Q (some (.int v)) hx9) (k3 : ∀ (l1 : Int32) (l2 : Int32) (l3 : Int32) (l4 : Int32) (l5 : Int32) (h : jH), 8 - l5.toInt < R3 → 0 ≤ l1.toInt ∧ l1.toInt ≤ 1199 → 0 ≤ l2.toInt ∧ l2.toInt ≤ 11 → 1 ≤ l3.toInt ∧ l3.toInt ≤ 12 → 0 ≤ l4.toInt ∧ l4.toInt ≤ 15 → 0 ≤ l5.toInt ∧ l5.toInt ≤ 8 → jJ jSgX Dy h → jSm fp_X5_pairAt_r70 h0 h → jX m_X5_pairAt 2 0 0 3 [(0, .ref 70), (1, .int l1), (2, .int l2), (3, .int l3), (4, .int l4), (5, .int l5)] [] h 0 0 Q) : ∀ (l1 : Int32) (l2 : Int32) (l3 : Int32) (l4 : Int32) (l5 : Int32) (l6 : Int32) (l7 : Int32) (h : jH), 0 ≤ l1.toInt ∧ l1.toInt ≤ 1199 → 0 ≤ l2.toInt ∧ l2.toInt ≤ 11 → 1 ≤ l3.toInt ∧ l3.toInt ≤ 12 → 0 ≤ l4.toInt ∧ l4.toInt ≤ 15 → 0 ≤ l5.toInt ∧ l5.toInt ≤ 7 → 0 ≤ l6.toInt ∧ l6.toInt ≤ 1016 → l6.toInt % 8 = 0 → (-9) ≤ l7.toInt ∧ l7.toInt ≤ 3 → 8 - l5.toInt ≤ R3 → jJ jSgX Dy h → jSm fp_X5_pairAt_r70 h0 h → jX m_X5_pairAt 2 0 0 50 [(0, .ref 70), (1, .int l1), (2, .int l2), (3, .int l3), (4, .int l4), (5, .int l5), (6, .int l6), (7, .int l7)] [.int 0] h 0 0 Q := by
  intro l1 l2 l3 l4 l5 l6 l7 h y0 y1 y2 y3 y4 y5 y6 y7  m3 J Sm
  refine x_istore (lsx9 := [(8, .int 0), (0, .ref 70), (1, .int l1), (2, .int l2), (3, .int l3), (4, .int l4), (5, .int l5), (6, .int l6), (7, .int l7)]) rfl rfl rfl ?_
  refine x_iconst (v := 0) rfl ki_0 ?_
  refine x_istore (lsx9 := [(9, .int 0), (8, .int 0), (0, .ref 70), (1, .int l1), (2, .int l2), (3, .int l3), (4, .int l4), (5, .int l5), (6, .int l6), (7, .int l7)]) rfl rfl rfl ?_
  exact jX.sub (jsb_c rfl (jsb_c rfl (jsb_c rfl (jsb_c rfl (jsb_c rfl (jsb_c rfl (jsb_c rfl (jsb_c rfl (jsb_c rfl (jsb_c rfl jsb_n)))))))))) (ct_X5_pairAt_r70_55 hD hQ k3 4 l1 l2 l3 l4 l5 l6 l7 0 0 h (by have := jk_0; omega) (jr_of rfl (by omega)) (jr_of rfl (by omega)) (jr_of rfl (by omega)) (jr_of rfl (by omega)) (jr_of rfl (by omega)) (jr_of rfl (by omega)) (jr_mod rfl (by omega)) (jr_of rfl (by omega)) (jr_of jk_0 (by omega)) (jr_of jk_0 (by omega)) (by omega) J Sm)
set_option maxRecDepth 100000 in
set_option maxHeartbeats 4000000 in
theorem ct_X5_pairAt_r70_300050 {Dy : jH → Prop} {h0 : jH} {Q : Option Value → jH → Prop} {R3 : Int} (hD : jDk Dy) (hQ : ∀ (v : Int32) hx9, (-1) ≤ v.toInt ∧ v.toInt ≤ 1016 → jJ jSgX Dy hx9 → jSm fp_X5_pairAt_r70 h0 hx9 → Q (some (.int v)) hx9) (k3 : ∀ (l1 : Int32) (l2 : Int32) (l3 : Int32) (l4 : Int32) (l5 : Int32) (h : jH), 8 - l5.toInt < R3 → 0 ≤ l1.toInt ∧ l1.toInt ≤ 1199 → 0 ≤ l2.toInt ∧ l2.toInt ≤ 11 → 1 ≤ l3.toInt ∧ l3.toInt ≤ 12 → 0 ≤ l4.toInt ∧ l4.toInt ≤ 15 → 0 ≤ l5.toInt ∧ l5.toInt ≤ 8 → jJ jSgX Dy h → jSm fp_X5_pairAt_r70 h0 h → jX m_X5_pairAt 2 0 0 3 [(0, .ref 70), (1, .int l1), (2, .int l2), (3, .int l3), (4, .int l4), (5, .int l5)] [] h 0 0 Q) : ∀ (l1 : Int32) (l2 : Int32) (l3 : Int32) (l4 : Int32) (l5 : Int32) (l6 : Int32) (l7 : Int32) (h : jH), 0 ≤ l1.toInt ∧ l1.toInt ≤ 1199 → 0 ≤ l2.toInt ∧ l2.toInt ≤ 11 → 1 ≤ l3.toInt ∧ l3.toInt ≤ 12 → 0 ≤ l4.toInt ∧ l4.toInt ≤ 15 → 0 ≤ l5.toInt ∧ l5.toInt ≤ 7 → 0 ≤ l6.toInt ∧ l6.toInt ≤ 1016 → l6.toInt % 8 = 0 → (-400) ≤ l7.toInt ∧ l7.toInt ≤ 3 → 8 - l5.toInt ≤ R3 → jJ jSgX Dy h → jSm fp_X5_pairAt_r70 h0 h → jX m_X5_pairAt 2 0 0 50 [(0, .ref 70), (1, .int l1), (2, .int l2), (3, .int l3), (4, .int l4), (5, .int l5), (6, .int l6), (7, .int l7)] [.int 1] h 0 0 Q := by
  intro l1 l2 l3 l4 l5 l6 l7 h y0 y1 y2 y3 y4 y5 y6 y7  m3 J Sm
  refine x_istore (lsx9 := [(8, .int 1), (0, .ref 70), (1, .int l1), (2, .int l2), (3, .int l3), (4, .int l4), (5, .int l5), (6, .int l6), (7, .int l7)]) rfl rfl rfl ?_
  refine x_iconst (v := 0) rfl ki_0 ?_
  refine x_istore (lsx9 := [(9, .int 0), (8, .int 1), (0, .ref 70), (1, .int l1), (2, .int l2), (3, .int l3), (4, .int l4), (5, .int l5), (6, .int l6), (7, .int l7)]) rfl rfl rfl ?_
  exact jX.sub (jsb_c rfl (jsb_c rfl (jsb_c rfl (jsb_c rfl (jsb_c rfl (jsb_c rfl (jsb_c rfl (jsb_c rfl (jsb_c rfl (jsb_c rfl jsb_n)))))))))) (ct_X5_pairAt_r70_55 hD hQ k3 4 l1 l2 l3 l4 l5 l6 l7 1 0 h (by have := jk_0; omega) (jr_of rfl (by omega)) (jr_of rfl (by omega)) (jr_of rfl (by omega)) (jr_of rfl (by omega)) (jr_of rfl (by omega)) (jr_of rfl (by omega)) (jr_mod rfl (by omega)) (jr_of rfl (by omega)) (jr_of jk_1 (by omega)) (jr_of jk_0 (by omega)) (by omega) J Sm)
set_option maxRecDepth 100000 in
set_option maxHeartbeats 4000000 in
theorem ct_X5_pairAt_r70_3 {Dy : jH → Prop} {h0 : jH} {Q : Option Value → jH → Prop} (hD : jDk Dy) (hQ : ∀ (v : Int32) hx9, (-1) ≤ v.toInt ∧ v.toInt ≤ 1016 → jJ jSgX Dy hx9 → jSm fp_X5_pairAt_r70 h0 hx9 → Q (some (.int v)) hx9) : ∀ r : Nat, ∀ (l1 : Int32) (l2 : Int32) (l3 : Int32) (l4 : Int32) (l5 : Int32) (h : jH), 8 - l5.toInt < (r : Int) → 0 ≤ l1.toInt ∧ l1.toInt ≤ 1199 → 0 ≤ l2.toInt ∧ l2.toInt ≤ 11 → 1 ≤ l3.toInt ∧ l3.toInt ≤ 12 → 0 ≤ l4.toInt ∧ l4.toInt ≤ 15 → 0 ≤ l5.toInt ∧ l5.toInt ≤ 8 → jJ jSgX Dy h → jSm fp_X5_pairAt_r70 h0 h → jX m_X5_pairAt 2 0 0 3 [(0, .ref 70), (1, .int l1), (2, .int l2), (3, .int l3), (4, .int l4), (5, .int l5)] [] h 0 0 Q := by
  intro r
  induction r with
  | zero =>
    intro l1 l2 l3 l4 l5 h hm y0 y1 y2 y3 y4   J Sm
    exfalso
    omega
  | succ r ih =>
    intro l1 l2 l3 l4 l5 h hm y0 y1 y2 y3 y4   J Sm
    refine x_iload (x := l5) rfl rfl ?_
    refine x_aloadn (x := 70) rfl rfl ?_
    refine z_getR (N := 9) (b := 74) 5 5 rfl f_5_21 rfl J rfl 8965 ⟨rfl, rfl⟩ rfl ?_
    refine x_iload (x := l4) rfl rfl ?_
    refine z_iald (N := 16) rfl J rfl sg_74_0_16_1_0_1 rfl (by omega) (fun v1 qv1 ev1 => ?_)
    refine x_icge (tgt := 126) rfl rfl (ti_ge rfl rfl ⟨fun c2 => ?_, fun c2 => ?_⟩)
    ·
      refine x_iconst (v := (-1)) rfl ki_m1 ?_
      refine x_iret rfl rfl ?_
      exact hQ _ _ (jr_of jk_m1 (by omega)) J Sm
    ·
      refine x_iload (x := l4) rfl rfl ?_
      refine x_bipush (v := 8) rfl kb_8 ?_
      refine z_imul rfl rfl jk_8 (by omega) (fun v3 ev3 => ?_)
      refine x_iload (x := l5) rfl rfl ?_
      refine z_iadd rfl rfl rfl (by omega) (fun v4 ev4 => ?_)
      refine x_bipush (v := 8) rfl kb_8 ?_
      refine z_imul rfl rfl jk_8 (by omega) (fun v5 ev5 => ?_)
      refine x_istore (lsx9 := [(6, .int v5), (0, .ref 70), (1, .int l1), (2, .int l2), (3, .int l3), (4, .int l4), (5, .int l5)]) rfl rfl rfl ?_
      refine x_aloadn (x := 70) rfl rfl ?_
      refine z_getR (N := 9) (b := 73) 5 4 rfl f_5_18 rfl J rfl 8964 ⟨rfl, rfl⟩ rfl ?_
      refine x_iload (x := v5) rfl rfl ?_
      refine z_iald (N := 1024) rfl J rfl sg_73_0_1024_4_0_1 rfl (by omega) (fun v6 qv6 ev6 => ?_)
      refine x_istore (lsx9 := [(7, .int v6), (6, .int v5), (0, .ref 70), (1, .int l1), (2, .int l2), (3, .int l3), (4, .int l4), (5, .int l5)]) rfl rfl rfl ?_
      refine x_iload (x := v6) rfl rfl ?_
      refine x_iloadn (x := l3) rfl rfl ?_
      refine x_iloadn (x := l2) rfl rfl ?_
      refine z_isub rfl rfl rfl (by omega) (fun v7 ev7 => ?_)
      refine x_icgt (tgt := 49) rfl rfl (ti_gt rfl rfl ⟨fun c8 => ?_, fun c8 => ?_⟩)
      ·
        refine x_iconst (v := 0) rfl ki_0 ?_
        exact jX.sub (jsb_c rfl (jsb_c rfl (jsb_c rfl (jsb_c rfl (jsb_c rfl (jsb_c rfl (jsb_c rfl (jsb_c rfl jsb_n)))))))) (ct_X5_pairAt_r70_200050 hD hQ ih l1 l2 l3 l4 l5 v5 v6 h (jr_of rfl (by omega)) (jr_of rfl (by omega)) (jr_of rfl (by omega)) (jr_of rfl (by omega)) (jr_of rfl (by omega)) (jr_of rfl (by omega)) (jr_mod rfl (by omega)) (jr_of rfl (by omega)) (by omega) J Sm)
      ·
        refine x_iconst (v := 1) rfl ki_1 ?_
        refine x_goto (tgt := 50) rfl rfl ?_
        exact jX.sub (jsb_c rfl (jsb_c rfl (jsb_c rfl (jsb_c rfl (jsb_c rfl (jsb_c rfl (jsb_c rfl (jsb_c rfl jsb_n)))))))) (ct_X5_pairAt_r70_300050 hD hQ ih l1 l2 l3 l4 l5 v5 v6 h (jr_of rfl (by omega)) (jr_of rfl (by omega)) (jr_of rfl (by omega)) (jr_of rfl (by omega)) (jr_of rfl (by omega)) (jr_of rfl (by omega)) (jr_mod rfl (by omega)) (jr_of rfl (by omega)) (by omega) J Sm)
set_option maxRecDepth 100000 in
set_option maxHeartbeats 4000000 in
theorem sf_X5_pairAt_r70 {Dy : jH → Prop} {h : jH} {Q : Option Value → jH → Prop} {a1 : Int32} {a2 : Int32} {a3 : Int32} {a4 : Int32} (y1 : 0 ≤ a1.toInt ∧ a1.toInt ≤ 1199) (y2 : 0 ≤ a2.toInt ∧ a2.toInt ≤ 11) (y3 : 1 ≤ a3.toInt ∧ a3.toInt ≤ 12) (y4 : 0 ≤ a4.toInt ∧ a4.toInt ≤ 15) (hD : jDk Dy) (J : jJ jSgX Dy h) (hQ : ∀ (v : Int32) hx9, (-1) ≤ v.toInt ∧ v.toInt ≤ 1016 → jJ jSgX Dy hx9 → jSm fp_X5_pairAt_r70 h hx9 → Q (some (.int v)) hx9) : jC m_X5_pairAt 2 0 0 [.ref 70, .int a1, .int a2, .int a3, .int a4] h Q := by
  refine jC.of rfl k_X5_pairAt rfl ?_
  have Sm := jSm_rf fp_X5_pairAt_r70 h
  show jX m_X5_pairAt 2 0 0 0 [(0, .ref 70), (1, .int a1), (2, .int a2), (3, .int a3), (4, .int a4)] [] _ 0 0 _
  refine x_iconst (v := 0) rfl ki_0 ?_
  refine x_istore (lsx9 := [(5, .int 0), (0, .ref 70), (1, .int a1), (2, .int a2), (3, .int a3), (4, .int a4)]) rfl rfl rfl ?_
  exact jX.sub (jsb_c rfl (jsb_c rfl (jsb_c rfl (jsb_c rfl (jsb_c rfl (jsb_c rfl jsb_n)))))) (ct_X5_pairAt_r70_3 hD hQ  9 a1 a2 a3 a4 0 h (by have := jk_0; omega) (jr_of rfl (by omega)) (jr_of rfl (by omega)) (jr_of rfl (by omega)) (jr_of rfl (by omega)) (jr_of jk_0 (by omega)) J Sm)
def fp_X8_at_r35_c0 : jFp := []
set_option maxRecDepth 100000 in
set_option maxHeartbeats 4000000 in
theorem ct_X8_at_r35_c0_24 {Dy : jH → Prop} {h0 : jH} {Q : Option Value → jH → Prop} (hD : jDk Dy) (hQ : ∀ (v : Int32) hx9, (-400) ≤ v.toInt ∧ v.toInt ≤ 12 → jJ jSgX Dy hx9 → jSm fp_X8_at_r35_c0 h0 hx9 → Q (some (.int v)) hx9) : ∀ (h : jH), jJ jSgX Dy h → jSm fp_X8_at_r35_c0 h0 h → jX m_X8_at 1 0 0 24 [] [] h 0 0 Q := by
  intro  h    J Sm
  refine x_iconst (v := 0) rfl ki_0 ?_
  refine x_iret rfl rfl ?_
  exact hQ _ _ (jr_of jk_0 (by omega)) J Sm
set_option maxRecDepth 100000 in
set_option maxHeartbeats 4000000 in
theorem sf_X8_at_r35_c0 {Dy : jH → Prop} {h : jH} {Q : Option Value → jH → Prop} {a1 : Int32} (y1 : 0 ≤ a1.toInt ∧ a1.toInt ≤ 1199) (hD : jDk Dy) (J : jJ jSgX Dy h) (hQ : ∀ (v : Int32) hx9, (-400) ≤ v.toInt ∧ v.toInt ≤ 12 → jJ jSgX Dy hx9 → jSm fp_X8_at_r35_c0 h hx9 → Q (some (.int v)) hx9) : jC m_X8_at 1 0 0 [.ref 35, .int a1, .int 0] h Q := by
  refine jC.of rfl k_X8_at rfl ?_
  have Sm := jSm_rf fp_X8_at_r35_c0 h
  show jX m_X8_at 1 0 0 0 [(0, .ref 35), (1, .int a1), (2, .int 0)] [] _ 0 0 _
  refine x_iloadn (x := a1) rfl rfl ?_
  refine x_iflt (tgt := 24) rfl rfl (ti_lt rfl jk_0 (br_f (by omega) ?_))
  refine x_iloadn (x := a1) rfl rfl ?_
  refine x_aloadn (x := 35) rfl rfl ?_
  refine z_getI (N := 4) 8 3 rfl f_8_7 rfl J rfl sg_35_3_4_1_0_1 (fun v1 qv1 ev1 => ?_)
  refine x_icge (tgt := 24) rfl rfl (ti_ge rfl rfl ⟨fun c2 => ?_, fun c2 => ?_⟩)
  ·
    exact jX.sub jsb_n (ct_X8_at_r35_c0_24 hD hQ  h J Sm)
  ·
    refine x_iloadn (x := 0) rfl rfl ?_
    refine x_iflt (tgt := 24) rfl rfl (ti_lt jk_0 jk_0 (br_f (by omega) ?_))
    refine x_iloadn (x := 0) rfl rfl ?_
    refine x_aloadn (x := 35) rfl rfl ?_
    refine z_getC (N := 4) (v := 14) 8 0 rfl f_8_19 rfl J rfl sg_35_0_1_1_0_1 jk_14 ?_
    refine x_iclt (tgt := 26) rfl rfl (ti_lt jk_0 jk_14 (br_t (by omega) ?_))
    refine x_aloadn (x := 35) rfl rfl ?_
    refine z_getR (N := 4) (b := 36) 8 2 rfl f_8_25 rfl J rfl 4482 ⟨rfl, rfl⟩ rfl ?_
    refine x_iloadn (x := a1) rfl rfl ?_
    refine x_aloadn (x := 35) rfl rfl ?_
    refine z_getC (N := 4) (v := 14) 8 0 rfl f_8_19 rfl J rfl sg_35_0_1_1_0_1 jk_14 ?_
    refine z_imul rfl rfl jk_14 (by omega) (fun v3 ev3 => ?_)
    refine x_iloadn (x := 0) rfl rfl ?_
    refine z_iadd rfl rfl jk_0 (by omega) (fun v4 ev4 => ?_)
    refine z_iald (N := 16800) rfl J rfl sg_36_0_16800_14_0_1 rfl (by omega) (fun v5 qv5 ev5 => ?_)
    refine x_iret rfl rfl ?_
    exact hQ _ _ (jr_of rfl (by omega)) J Sm
def fp_X8_at_r35_c1 : jFp := []
set_option maxRecDepth 100000 in
set_option maxHeartbeats 4000000 in
theorem ct_X8_at_r35_c1_24 {Dy : jH → Prop} {h0 : jH} {Q : Option Value → jH → Prop} (hD : jDk Dy) (hQ : ∀ (v : Int32) hx9, 0 ≤ v.toInt ∧ v.toInt ≤ 1 → jJ jSgX Dy hx9 → jSm fp_X8_at_r35_c1 h0 hx9 → Q (some (.int v)) hx9) : ∀ (h : jH), jJ jSgX Dy h → jSm fp_X8_at_r35_c1 h0 h → jX m_X8_at 1 0 0 24 [] [] h 0 0 Q := by
  intro  h    J Sm
  refine x_iconst (v := 0) rfl ki_0 ?_
  refine x_iret rfl rfl ?_
  exact hQ _ _ (jr_of jk_0 (by omega)) J Sm
set_option maxRecDepth 100000 in
set_option maxHeartbeats 4000000 in
theorem sf_X8_at_r35_c1 {Dy : jH → Prop} {h : jH} {Q : Option Value → jH → Prop} {a1 : Int32} (y1 : 0 ≤ a1.toInt ∧ a1.toInt ≤ 1199) (hD : jDk Dy) (J : jJ jSgX Dy h) (hQ : ∀ (v : Int32) hx9, 0 ≤ v.toInt ∧ v.toInt ≤ 1 → jJ jSgX Dy hx9 → jSm fp_X8_at_r35_c1 h hx9 → Q (some (.int v)) hx9) : jC m_X8_at 1 0 0 [.ref 35, .int a1, .int 1] h Q := by
  refine jC.of rfl k_X8_at rfl ?_
  have Sm := jSm_rf fp_X8_at_r35_c1 h
  show jX m_X8_at 1 0 0 0 [(0, .ref 35), (1, .int a1), (2, .int 1)] [] _ 0 0 _
  refine x_iloadn (x := a1) rfl rfl ?_
  refine x_iflt (tgt := 24) rfl rfl (ti_lt rfl jk_0 (br_f (by omega) ?_))
  refine x_iloadn (x := a1) rfl rfl ?_
  refine x_aloadn (x := 35) rfl rfl ?_
  refine z_getI (N := 4) 8 3 rfl f_8_7 rfl J rfl sg_35_3_4_1_0_1 (fun v1 qv1 ev1 => ?_)
  refine x_icge (tgt := 24) rfl rfl (ti_ge rfl rfl ⟨fun c2 => ?_, fun c2 => ?_⟩)
  ·
    exact jX.sub jsb_n (ct_X8_at_r35_c1_24 hD hQ  h J Sm)
  ·
    refine x_iloadn (x := 1) rfl rfl ?_
    refine x_iflt (tgt := 24) rfl rfl (ti_lt jk_1 jk_0 (br_f (by omega) ?_))
    refine x_iloadn (x := 1) rfl rfl ?_
    refine x_aloadn (x := 35) rfl rfl ?_
    refine z_getC (N := 4) (v := 14) 8 0 rfl f_8_19 rfl J rfl sg_35_0_1_1_0_1 jk_14 ?_
    refine x_iclt (tgt := 26) rfl rfl (ti_lt jk_1 jk_14 (br_t (by omega) ?_))
    refine x_aloadn (x := 35) rfl rfl ?_
    refine z_getR (N := 4) (b := 36) 8 2 rfl f_8_25 rfl J rfl 4482 ⟨rfl, rfl⟩ rfl ?_
    refine x_iloadn (x := a1) rfl rfl ?_
    refine x_aloadn (x := 35) rfl rfl ?_
    refine z_getC (N := 4) (v := 14) 8 0 rfl f_8_19 rfl J rfl sg_35_0_1_1_0_1 jk_14 ?_
    refine z_imul rfl rfl jk_14 (by omega) (fun v3 ev3 => ?_)
    refine x_iloadn (x := 1) rfl rfl ?_
    refine z_iadd rfl rfl jk_1 (by omega) (fun v4 ev4 => ?_)
    refine z_iald (N := 16800) rfl J rfl sg_36_0_16800_14_1_2 rfl (by omega) (fun v5 qv5 ev5 => ?_)
    refine x_iret rfl rfl ?_
    exact hQ _ _ (jr_of rfl (by omega)) J Sm
