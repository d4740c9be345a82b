def fp_X7_childOf_r78 : jFp := []
set_option maxRecDepth 100000 in
set_option maxHeartbeats 4000000 in
theorem ct_X7_childOf_r78_113 {Dy : jH → Prop} {h0 : jH} {Q : Option Value → jH → Prop} (hD : jDk Dy) (hQ : ∀ (v : Int32) hx9, (-1) ≤ v.toInt ∧ v.toInt ≤ 599 → jJ jSgX Dy hx9 → jSm fp_X7_childOf_r78 h0 hx9 → Q (some (.int v)) hx9) : ∀ (h : jH), jJ jSgX Dy h → jSm fp_X7_childOf_r78 h0 h → jX m_X7_childOf 3 0 0 113 [] [] h 0 0 Q := by
  intro  h    J Sm
  refine x_iconst (v := (-1)) rfl ki_m1 ?_
  refine x_iret rfl rfl ?_
  exact hQ _ _ (jr_of jk_m1 (by omega)) J Sm
set_option maxRecDepth 100000 in
set_option maxHeartbeats 4000000 in
theorem ct_X7_childOf_r78_107 {Dy : jH → Prop} {h0 : jH} {Q : Option Value → jH → Prop} {R5 : Int} (hD : jDk Dy) (hQ : ∀ (v : Int32) hx9, (-1) ≤ v.toInt ∧ v.toInt ≤ 599 → jJ jSgX Dy hx9 → jSm fp_X7_childOf_r78 h0 hx9 → Q (some (.int v)) hx9) (k5 : ∀ (l1 : Int32) (l2 : Int32) (l3 : Int32) (l4 : Int32) (h : jH), 600 - l4.toInt < R5 → 0 ≤ l1.toInt ∧ l1.toInt ≤ 599 → 0 ≤ l4.toInt ∧ l4.toInt ≤ 600 → l4.toInt % 3 = 0 → jJ jSgX Dy h → jSm fp_X7_childOf_r78 h0 h → jX m_X7_childOf 3 0 0 5 [(0, .ref 78), (1, .int l1), (2, .int l2), (3, .int l3), (4, .int l4)] [] h 0 0 Q) : ∀ (l1 : Int32) (l2 : Int32) (l3 : Int32) (l4 : Int32) (h : jH), 0 ≤ l1.toInt ∧ l1.toInt ≤ 599 → 0 ≤ l4.toInt ∧ l4.toInt ≤ 597 → l4.toInt % 3 = 0 → 600 - l4.toInt ≤ R5 → jJ jSgX Dy h → jSm fp_X7_childOf_r78 h0 h → jX m_X7_childOf 3 0 0 107 [(0, .ref 78), (1, .int l1), (2, .int l2), (3, .int l3), (4, .int l4)] [] h 0 0 Q := by
  intro l1 l2 l3 l4 h y0 y1 y2  m5 J Sm
  have el2 := jfull l2
  have el3 := jfull l3
  refine z_iinc (x := l4) (lsx9 := fun v1 => [(4, .int v1), (0, .ref 78), (1, .int l1), (2, .int l2), (3, .int l3)]) rfl rfl rfl jko_3 (by omega) rfl (fun _ => rfl) (fun v1 ev1 => ?_)
  refine x_goto (tgt := 5) rfl rfl ?_
  exact jX.sub (jsb_c rfl (jsb_c rfl (jsb_c rfl (jsb_c rfl (jsb_c rfl jsb_n))))) (k5 l1 l2 l3 v1 h (by omega) (jr_of rfl (by omega)) (jr_of rfl (by omega)) (jr_mod rfl (by omega)) J Sm)
set_option maxRecDepth 100000 in
set_option maxHeartbeats 4000000 in
theorem ct_X7_childOf_r78_79 {Dy : jH → Prop} {h0 : jH} {Q : Option Value → jH → Prop} {R5 : Int} (hD : jDk Dy) (hQ : ∀ (v : Int32) hx9, (-1) ≤ v.toInt ∧ v.toInt ≤ 599 → jJ jSgX Dy hx9 → jSm fp_X7_childOf_r78 h0 hx9 → Q (some (.int v)) hx9) (k5 : ∀ (l1 : Int32) (l2 : Int32) (l3 : Int32) (l4 : Int32) (h : jH), 600 - l4.toInt < R5 → 0 ≤ l1.toInt ∧ l1.toInt ≤ 599 → 0 ≤ l4.toInt ∧ l4.toInt ≤ 600 → l4.toInt % 3 = 0 → jJ jSgX Dy h → jSm fp_X7_childOf_r78 h0 h → jX m_X7_childOf 3 0 0 5 [(0, .ref 78), (1, .int l1), (2, .int l2), (3, .int l3), (4, .int l4)] [] h 0 0 Q) : ∀ (l1 : Int32) (l2 : Int32) (l3 : Int32) (l4 : Int32) (h : jH), 0 ≤ l1.toInt ∧ l1.toInt ≤ 599 → 0 ≤ l4.toInt ∧ l4.toInt ≤ 597 → l4.toInt % 3 = 0 → 600 - l4.toInt ≤ R5 → jJ jSgX Dy h → jSm fp_X7_childOf_r78 h0 h → jX m_X7_childOf 3 0 0 79 [(0, .ref 78), (1, .int l1), (2, .int l2), (3, .int l3), (4, .int l4)] [] h 0 0 Q := by
  intro l1 l2 l3 l4 h y0 y1 y2  m5 J Sm
  have el2 := jfull l2
  have el3 := jfull l3
  refine x_aloadn (x := 78) rfl rfl ?_
  refine z_getR (N := 16) (b := 70) 7 1 rfl f_7_59 rfl J rfl 9985 ⟨rfl, rfl⟩ rfl ?_
  refine x_iload (x := l4) rfl rfl ?_
  refine x_inv (N := m_X5_isNamed) (As := [.int l4]) (b := 70) (st := []) (dx9 := 2) (mc := 0) (ms := 0) (host := "") 5 rfl t_X5_isNamed ⟨Or.inl q_7_173, i_X5_isNamed.1, i_X5_isNamed.2⟩ ⟨by decide, rfl⟩ (congrArg Prod.fst (J.1.1 70 (5, 9) rfl)) rfl (by decide) rfl rfl ⟨by decide, by decide⟩ (jC.of rfl k_X5_isNamed rfl ?_)
  show jX m_X5_isNamed 2 0 0 0 [(0, .ref 70), (1, .int l4)] [] _ 0 0 _
  refine x_aloadn (x := 70) rfl rfl ?_
  refine x_iloadn (x := l4) rfl rfl ?_
  refine x_iconst (v := 0) rfl ki_0 ?_
  refine x_inv (N := m_X5_lengthOf) (As := [.int l4, .int 0]) (b := 70) (st := []) (dx9 := 1) (mc := 0) (ms := 0) (host := "") 5 rfl t_X5_lengthOf ⟨Or.inl q_5_133, i_X5_lengthOf.1, i_X5_lengthOf.2⟩ ⟨by decide, rfl⟩ (congrArg Prod.fst (J.1.1 70 (5, 9) rfl)) rfl (by decide) rfl rfl ⟨by decide, by decide⟩ (jC.of rfl k_X5_lengthOf rfl ?_)
  show jX m_X5_lengthOf 1 0 0 0 [(0, .ref 70), (1, .int l4), (2, .int 0)] [] _ 0 0 _
  refine x_iloadn (x := l4) rfl rfl ?_
  refine x_iconst (v := 2) rfl ki_2 ?_
  refine z_imul rfl rfl jk_2 (by omega) (fun v1 ev1 => ?_)
  refine x_iloadn (x := 0) rfl rfl ?_
  refine z_iadd rfl rfl jk_0 (by omega) (fun v2 ev2 => ?_)
  refine x_istoren (lsx9 := [(3, .int v2), (0, .ref 70), (1, .int l4), (2, .int 0)]) rfl rfl rfl ?_
  refine x_iloadn (x := v2) rfl rfl ?_
  refine x_iflt (tgt := 26) rfl rfl (ti_lt rfl jk_0 (br_f (by omega) ?_))
  refine x_iloadn (x := v2) rfl rfl ?_
  refine x_sipush (v := 1200) rfl ks_1200 ?_
  refine x_icge (tgt := 26) rfl rfl (ti_ge rfl jk_1200 (br_f (by omega) ?_))
  refine x_aloadn (x := 70) rfl rfl ?_
  refine z_getR (N := 9) (b := 76) 5 7 rfl f_5_28 rfl J rfl 8967 ⟨rfl, rfl⟩ rfl ?_
  refine x_iloadn (x := v2) rfl rfl ?_
  refine z_iald (N := 1200) rfl J rfl sg_76_0_1200_1_0_1 rfl (by omega) (fun v3 qv3 ev3 => ?_)
  refine x_goto (tgt := 27) rfl rfl ?_
  refine x_iret rfl rfl ?_
  show jX m_X5_isNamed 2 0 0 6 [(0, .ref 70), (1, .int l4)] [.int v3] _ 0 0 _
  refine x_ifge (tgt := 18) rfl rfl (ti_ge rfl jk_0 ⟨fun c4 => ?_, fun c4 => ?_⟩)
  ·
    refine x_iconst (v := 1) rfl ki_1 ?_
    refine x_goto (tgt := 23) rfl rfl ?_
    refine x_zret rfl rfl (by decide) ?_
    show jX m_X7_childOf 3 0 0 88 [(0, .ref 78), (1, .int l1), (2, .int l2), (3, .int l3), (4, .int l4)] [.int 1] _ 0 0 _
    refine x_ifeq (tgt := 107) rfl rfl (ti_eq jk_1 jk_0 (br_f (by omega) ?_))
    refine x_iloadn (x := l3) rfl rfl ?_
    refine x_iloadn (x := l2) rfl rfl ?_
    refine x_icne (tgt := 104) rfl rfl (ti_ne rfl rfl ⟨fun c5 => ?_, fun c5 => ?_⟩)
    ·
      refine z_iinc0 (x := l3) (lsx9 := fun v6 => [(3, .int v6), (0, .ref 78), (1, .int l1), (2, .int l2), (4, .int l4)]) rfl rfl rfl (fun _ => rfl) (fun v6 => ?_)
      have ev6 := jfull v6
      exact jX.sub (jsb_c rfl (jsb_c rfl (jsb_c rfl (jsb_c rfl (jsb_c rfl jsb_n))))) (ct_X7_childOf_r78_107 hD hQ k5 l1 l2 v6 l4 h (jr_of rfl (by omega)) (jr_of rfl (by omega)) (jr_mod rfl (by omega)) (by omega) J Sm)
    ·
      refine x_aloadn (x := 78) rfl rfl ?_
      refine z_getR (N := 16) (b := 82) 7 10 rfl f_7_37 rfl J rfl 9994 ⟨rfl, rfl⟩ rfl ?_
      refine x_iload (x := l4) rfl rfl ?_
      refine z_iald (N := 600) rfl J rfl sg_82_0_600_1_0_1 rfl (by omega) (fun v7 qv7 ev7 => ?_)
      refine x_iret rfl rfl ?_
      exact hQ _ _ (jr_of rfl (by omega)) J Sm
  ·
    refine x_aloadn (x := 70) rfl rfl ?_
    refine x_iloadn (x := l4) rfl rfl ?_
    refine x_iconst (v := 1) rfl ki_1 ?_
    refine x_inv (N := m_X5_lengthOf) (As := [.int l4, .int 1]) (b := 70) (st := []) (dx9 := 1) (mc := 0) (ms := 0) (host := "") 5 rfl t_X5_lengthOf ⟨Or.inl q_5_133, i_X5_lengthOf.1, i_X5_lengthOf.2⟩ ⟨by decide, rfl⟩ (congrArg Prod.fst (J.1.1 70 (5, 9) rfl)) rfl (by decide) rfl rfl ⟨by decide, by decide⟩ (jC.of rfl k_X5_lengthOf rfl ?_)
    show jX m_X5_lengthOf 1 0 0 0 [(0, .ref 70), (1, .int l4), (2, .int 1)] [] _ 0 0 _
    refine x_iloadn (x := l4) rfl rfl ?_
    refine x_iconst (v := 2) rfl ki_2 ?_
    refine z_imul rfl rfl jk_2 (by omega) (fun v8 ev8 => ?_)
    refine x_iloadn (x := 1) rfl rfl ?_
    refine z_iadd rfl rfl jk_1 (by omega) (fun v9 ev9 => ?_)
    refine x_istoren (lsx9 := [(3, .int v9), (0, .ref 70), (1, .int l4), (2, .int 1)]) rfl rfl rfl ?_
    refine x_iloadn (x := v9) rfl rfl ?_
    refine x_iflt (tgt := 26) rfl rfl (ti_lt rfl jk_0 (br_f (by omega) ?_))
    refine x_iloadn (x := v9) rfl rfl ?_
    refine x_sipush (v := 1200) rfl ks_1200 ?_
    refine x_icge (tgt := 26) rfl rfl (ti_ge rfl jk_1200 (br_f (by omega) ?_))
    refine x_aloadn (x := 70) rfl rfl ?_
    refine z_getR (N := 9) (b := 76) 5 7 rfl f_5_28 rfl J rfl 8967 ⟨rfl, rfl⟩ rfl ?_
    refine x_iloadn (x := v9) rfl rfl ?_
    refine z_iald (N := 1200) rfl J rfl sg_76_0_1200_1_0_1 rfl (by omega) (fun v10 qv10 ev10 => ?_)
    refine x_goto (tgt := 27) rfl rfl ?_
    refine x_iret rfl rfl ?_
    show jX m_X5_isNamed 2 0 0 15 [(0, .ref 70), (1, .int l4)] [.int v10] _ 0 0 _
    refine x_iflt (tgt := 22) rfl rfl (ti_lt rfl jk_0 ⟨fun c11 => ?_, fun c11 => ?_⟩)
    ·
      refine x_iconst (v := 0) rfl ki_0 ?_
      refine x_zret rfl rfl (by decide) ?_
      show jX m_X7_childOf 3 0 0 88 [(0, .ref 78), (1, .int l1), (2, .int l2), (3, .int l3), (4, .int l4)] [.int 0] _ 0 0 _
      refine x_ifeq (tgt := 107) rfl rfl (ti_eq jk_0 jk_0 (br_t (by omega) ?_))
      exact jX.sub (jsb_c rfl (jsb_c rfl (jsb_c rfl (jsb_c rfl (jsb_c rfl jsb_n))))) (ct_X7_childOf_r78_107 hD hQ k5 l1 l2 l3 l4 h (jr_of rfl (by omega)) (jr_of rfl (by omega)) (jr_mod rfl (by omega)) (by omega) J Sm)
    ·
      refine x_iconst (v := 1) rfl ki_1 ?_
      refine x_goto (tgt := 23) rfl rfl ?_
      refine x_zret rfl rfl (by decide) ?_
      show jX m_X7_childOf 3 0 0 88 [(0, .ref 78), (1, .int l1), (2, .int l2), (3, .int l3), (4, .int l4)] [.int 1] _ 0 0 _
      refine x_ifeq (tgt := 107) rfl rfl (ti_eq jk_1 jk_0 (br_f (by omega) ?_))
      refine x_iloadn (x := l3) rfl rfl ?_
      refine x_iloadn (x := l2) rfl rfl ?_
      refine x_icne (tgt := 104) rfl rfl (ti_ne rfl rfl ⟨fun c12 => ?_, fun c12 => ?_⟩)
      ·
        refine z_iinc0 (x := l3) (lsx9 := fun v13 => [(3, .int v13), (0, .ref 78), (1, .int l1), (2, .int l2), (4, .int l4)]) rfl rfl rfl (fun _ => rfl) (fun v13 => ?_)
        have ev13 := jfull v13
        exact jX.sub (jsb_c rfl (jsb_c rfl (jsb_c rfl (jsb_c rfl (jsb_c rfl jsb_n))))) (ct_X7_childOf_r78_107 hD hQ k5 l1 l2 v13 l4 h (jr_of rfl (by omega)) (jr_of rfl (by omega)) (jr_mod rfl (by omega)) (by omega) J Sm)
      ·
        refine x_aloadn (x := 78) rfl rfl ?_
        refine z_getR (N := 16) (b := 82) 7 10 rfl f_7_37 rfl J rfl 9994 ⟨rfl, rfl⟩ rfl ?_
        refine x_iload (x := l4) rfl rfl ?_
        refine z_iald (N := 600) rfl J rfl sg_82_0_600_1_0_1 rfl (by omega) (fun v14 qv14 ev14 => ?_)
        refine x_iret rfl rfl ?_
        exact hQ _ _ (jr_of rfl (by omega)) J Sm
set_option maxRecDepth 100000 in
set_option maxHeartbeats 4000000 in
theorem ct_X7_childOf_r78_5 {Dy : jH → Prop} {h0 : jH} {Q : Option Value → jH → Prop} (hD : jDk Dy) (hQ : ∀ (v : Int32) hx9, (-1) ≤ v.toInt ∧ v.toInt ≤ 599 → jJ jSgX Dy hx9 → jSm fp_X7_childOf_r78 h0 hx9 → Q (some (.int v)) hx9) : ∀ r : Nat, ∀ (l1 : Int32) (l2 : Int32) (l3 : Int32) (l4 : Int32) (h : jH), 600 - l4.toInt < (r : Int) → 0 ≤ l1.toInt ∧ l1.toInt ≤ 599 → 0 ≤ l4.toInt ∧ l4.toInt ≤ 600 → l4.toInt % 3 = 0 → jJ jSgX Dy h → jSm fp_X7_childOf_r78 h0 h → jX m_X7_childOf 3 0 0 5 [(0, .ref 78), (1, .int l1), (2, .int l2), (3, .int l3), (4, .int l4)] [] h 0 0 Q := by
  intro r
  induction r with
  | zero =>
    intro l1 l2 l3 l4 h hm y0 y1 y2   J Sm
    exfalso
    have el2 := jfull l2
    have el3 := jfull l3
    omega
  | succ r ih =>
    intro l1 l2 l3 l4 h hm y0 y1 y2   J Sm
    have el2 := jfull l2
    have el3 := jfull l3
    refine x_iload (x := l4) rfl rfl ?_
    refine x_aloadn (x := 78) rfl rfl ?_
    refine z_getR (N := 16) (b := 32) 7 0 rfl f_7_55 rfl J rfl 9984 ⟨rfl, rfl⟩ rfl ?_
    refine z_getR (N := 20) (b := 33) 1 0 rfl f_7_63 rfl J rfl 4096 ⟨rfl, rfl⟩ rfl ?_
    refine z_getI (N := 4) 8 3 rfl f_7_85 rfl J rfl sg_33_3_4_1_0_1 (fun v1 qv1 ev1 => ?_)
    refine x_iconst (v := 3) rfl ki_3 ?_
    refine z_imul rfl rfl jk_3 (by omega) (fun v2 ev2 => ?_)
    refine x_icge (tgt := 113) rfl rfl (ti_ge rfl rfl ⟨fun c3 => ?_, fun c3 => ?_⟩)
    ·
      exact jX.sub jsb_n (ct_X7_childOf_r78_113 hD hQ  h J Sm)
    ·
      refine x_iload (x := l4) rfl rfl ?_
      refine x_iconst (v := 2) rfl ki_2 ?_
      refine z_iadd rfl rfl jk_2 (by omega) (fun v4 ev4 => ?_)
      refine x_sipush (v := 600) rfl ks_600 ?_
      refine x_icge (tgt := 113) rfl rfl (ti_ge rfl jk_600 (br_f (by omega) ?_))
      refine x_aloadn (x := 78) rfl rfl ?_
      refine z_getR (N := 16) (b := 79) 7 7 rfl f_7_27 rfl J rfl 9991 ⟨rfl, rfl⟩ rfl ?_
      refine x_iload (x := l4) rfl rfl ?_
      refine z_iald (N := 600) rfl J rfl sg_79_0_600_1_0_1 rfl (by omega) (fun v5 qv5 ev5 => ?_)
      refine x_ifne (tgt := 107) rfl rfl (ti_ne rfl jk_0 ⟨fun c6 => ?_, fun c6 => ?_⟩)
      ·
        exact jX.sub (jsb_c rfl (jsb_c rfl (jsb_c rfl (jsb_c rfl (jsb_c rfl jsb_n))))) (ct_X7_childOf_r78_107 hD hQ ih l1 l2 l3 l4 h (jr_of rfl (by omega)) (jr_of rfl (by omega)) (jr_mod rfl (by omega)) (by omega) J Sm)
      ·
        refine x_aloadn (x := 78) rfl rfl ?_
        refine z_getR (N := 16) (b := 82) 7 10 rfl f_7_37 rfl J rfl 9994 ⟨rfl, rfl⟩ rfl ?_
        refine x_iload (x := l4) rfl rfl ?_
        refine z_iald (N := 600) rfl J rfl sg_82_0_600_1_0_1 rfl (by omega) (fun v7 qv7 ev7 => ?_)
        refine x_iconst (v := (-1)) rfl ki_m1 ?_
        refine x_iceq (tgt := 107) rfl rfl (ti_eq rfl jk_m1 ⟨fun c8 => ?_, fun c8 => ?_⟩)
        ·
          exact jX.sub (jsb_c rfl (jsb_c rfl (jsb_c rfl (jsb_c rfl (jsb_c rfl jsb_n))))) (ct_X7_childOf_r78_107 hD hQ ih l1 l2 l3 l4 h (jr_of rfl (by omega)) (jr_of rfl (by omega)) (jr_mod rfl (by omega)) (by omega) J Sm)
        ·
          refine x_aloadn (x := 78) rfl rfl ?_
          refine z_getR (N := 16) (b := 82) 7 10 rfl f_7_37 rfl J rfl 9994 ⟨rfl, rfl⟩ rfl ?_
          refine x_iload (x := l4) rfl rfl ?_
          refine x_iconst (v := 1) rfl ki_1 ?_
          refine z_iadd rfl rfl jk_1 (by omega) (fun v9 ev9 => ?_)
          refine z_iald (N := 600) rfl J rfl sg_82_0_600_1_0_1 rfl (by omega) (fun v10 qv10 ev10 => ?_)
          refine x_iloadn (x := l1) rfl rfl ?_
          refine x_iceq (tgt := 79) rfl rfl (ti_eq rfl rfl ⟨fun c11 => ?_, fun c11 => ?_⟩)
          ·
            exact jX.sub (jsb_c rfl (jsb_c rfl (jsb_c rfl (jsb_c rfl (jsb_c rfl jsb_n))))) (ct_X7_childOf_r78_79 hD hQ ih l1 l2 l3 l4 h (jr_of rfl (by omega)) (jr_of rfl (by omega)) (jr_mod rfl (by omega)) (by omega) J Sm)
          ·
            refine x_aloadn (x := 78) rfl rfl ?_
            refine z_getR (N := 16) (b := 82) 7 10 rfl f_7_37 rfl J rfl 9994 ⟨rfl, rfl⟩ rfl ?_
            refine x_iload (x := l4) rfl rfl ?_
            refine x_iconst (v := 2) rfl ki_2 ?_
            refine z_iadd rfl rfl jk_2 (by omega) (fun v12 ev12 => ?_)
            refine z_iald (N := 600) rfl J rfl sg_82_0_600_1_0_1 rfl (by omega) (fun v13 qv13 ev13 => ?_)
            refine x_iloadn (x := l1) rfl rfl ?_
            refine x_icne (tgt := 107) rfl rfl (ti_ne rfl rfl ⟨fun c14 => ?_, fun c14 => ?_⟩)
            ·
              exact jX.sub (jsb_c rfl (jsb_c rfl (jsb_c rfl (jsb_c rfl (jsb_c rfl jsb_n))))) (ct_X7_childOf_r78_107 hD hQ ih l1 l2 l3 l4 h (jr_of rfl (by omega)) (jr_of rfl (by omega)) (jr_mod rfl (by omega)) (by omega) J Sm)
            ·
              exact jX.sub (jsb_c rfl (jsb_c rfl (jsb_c rfl (jsb_c rfl (jsb_c rfl jsb_n))))) (ct_X7_childOf_r78_79 hD hQ ih l1 l2 l3 l4 h (jr_of rfl (by omega)) (jr_of rfl (by omega)) (jr_mod rfl (by omega)) (by omega) J Sm)
set_option maxRecDepth 100000 in
set_option maxHeartbeats 4000000 in
theorem sf_X7_childOf_r78 {Dy : jH → Prop} {h : jH} {Q : Option Value → jH → Prop} {a1 : Int32} {a2 : Int32} (y1 : 0 ≤ a1.toInt ∧ a1.toInt ≤ 599) (hD : jDk Dy) (J : jJ jSgX Dy h) (hQ : ∀ (v : Int32) hx9, (-1) ≤ v.toInt ∧ v.toInt ≤ 599 → jJ jSgX Dy hx9 → jSm fp_X7_childOf_r78 h hx9 → Q (some (.int v)) hx9) : jC m_X7_childOf 3 0 0 [.ref 78, .int a1, .int a2] h Q := by
  refine jC.of rfl k_X7_childOf rfl ?_
  have Sm := jSm_rf fp_X7_childOf_r78 h
  have ea2 := jfull a2
  show jX m_X7_childOf 3 0 0 0 [(0, .ref 78), (1, .int a1), (2, .int a2)] [] _ 0 0 _
  refine x_iconst (v := 0) rfl ki_0 ?_
  refine x_istoren (lsx9 := [(3, .int 0), (0, .ref 78), (1, .int a1), (2, .int a2)]) rfl rfl rfl ?_
  refine x_iconst (v := 0) rfl ki_0 ?_
  refine x_istore (lsx9 := [(4, .int 0), (3, .int 0), (0, .ref 78), (1, .int a1), (2, .int a2)]) rfl rfl rfl ?_
  exact jX.sub (jsb_c rfl (jsb_c rfl (jsb_c rfl (jsb_c rfl (jsb_c rfl jsb_n))))) (ct_X7_childOf_r78_5 hD hQ  601 a1 a2 0 0 h (by have := jk_0; omega) (jr_of rfl (by omega)) (jr_of jk_0 (by omega)) (jr_mod jk_0 (by omega)) J Sm)
def fp_X7_spouseOf_r78 : jFp := []
set_option maxRecDepth 100000 in
set_option maxHeartbeats 4000000 in
theorem ct_X7_spouseOf_r78_116 {Dy : jH → Prop} {h0 : jH} {Q : Option Value → jH → Prop} (hD : jDk Dy) (hQ : ∀ (v : Int32) hx9, (-1) ≤ v.toInt ∧ v.toInt ≤ 599 → jJ jSgX Dy hx9 → jSm fp_X7_spouseOf_r78 h0 hx9 → Q (some (.int v)) hx9) : ∀ (h : jH), jJ jSgX Dy h → jSm fp_X7_spouseOf_r78 h0 h → jX m_X7_spouseOf 4 0 0 116 [] [] h 0 0 Q := by
  intro  h    J Sm
  refine x_iconst (v := (-1)) rfl ki_m1 ?_
  refine x_iret rfl rfl ?_
  exact hQ _ _ (jr_of jk_m1 (by omega)) J Sm
set_option maxRecDepth 100000 in
set_option maxHeartbeats 4000000 in
theorem ct_X7_spouseOf_r78_110 {Dy : jH → Prop} {h0 : jH} {Q : Option Value → jH → Prop} {R5 : Int} (hD : jDk Dy) (hQ : ∀ (v : Int32) hx9, (-1) ≤ v.toInt ∧ v.toInt ≤ 599 → jJ jSgX Dy hx9 → jSm fp_X7_spouseOf_r78 h0 hx9 → Q (some (.int v)) hx9) (k5 : ∀ (l1 : Int32) (l2 : Int32) (l3 : Int32) (l4 : Int32) (h : jH), 600 - l4.toInt < R5 → 0 ≤ l1.toInt ∧ l1.toInt ≤ 599 → 0 ≤ l4.toInt ∧ l4.toInt ≤ 600 → l4.toInt % 3 = 0 → jJ jSgX Dy h → jSm fp_X7_spouseOf_r78 h0 h → jX m_X7_spouseOf 4 0 0 5 [(0, .ref 78), (1, .int l1), (2, .int l2), (3, .int l3), (4, .int l4)] [] h 0 0 Q) : ∀ (l1 : Int32) (l2 : Int32) (l3 : Int32) (l4 : Int32) (h : jH), 0 ≤ l1.toInt ∧ l1.toInt ≤ 599 → 0 ≤ l4.toInt ∧ l4.toInt ≤ 597 → l4.toInt % 3 = 0 → 600 - l4.toInt ≤ R5 → jJ jSgX Dy h → jSm fp_X7_spouseOf_r78 h0 h → jX m_X7_spouseOf 4 0 0 110 [(0, .ref 78), (1, .int l1), (2, .int l2), (3, .int l3), (4, .int l4)] [] h 0 0 Q := by
  intro l1 l2 l3 l4 h y0 y1 y2  m5 J Sm
  have el2 := jfull l2
  have el3 := jfull l3
  refine z_iinc (x := l4) (lsx9 := fun v1 => [(4, .int v1), (0, .ref 78), (1, .int l1), (2, .int l2), (3, .int l3)]) rfl rfl rfl jko_3 (by omega) rfl (fun _ => rfl) (fun v1 ev1 => ?_)
  refine x_goto (tgt := 5) rfl rfl ?_
  exact jX.sub (jsb_c rfl (jsb_c rfl (jsb_c rfl (jsb_c rfl (jsb_c rfl jsb_n))))) (k5 l1 l2 l3 v1 h (by omega) (jr_of rfl (by omega)) (jr_of rfl (by omega)) (jr_mod rfl (by omega)) J Sm)
set_option maxRecDepth 100000 in
set_option maxHeartbeats 4000000 in
theorem ct_X7_spouseOf_r78_88 {Dy : jH → Prop} {h0 : jH} {Q : Option Value → jH → Prop} {R5 : Int} (hD : jDk Dy) (hQ : ∀ (v : Int32) hx9, (-1) ≤ v.toInt ∧ v.toInt ≤ 599 → jJ jSgX Dy hx9 → jSm fp_X7_spouseOf_r78 h0 hx9 → Q (some (.int v)) hx9) (k5 : ∀ (l1 : Int32) (l2 : Int32) (l3 : Int32) (l4 : Int32) (h : jH), 600 - l4.toInt < R5 → 0 ≤ l1.toInt ∧ l1.toInt ≤ 599 → 0 ≤ l4.toInt ∧ l4.toInt ≤ 600 → l4.toInt % 3 = 0 → jJ jSgX Dy h → jSm fp_X7_spouseOf_r78 h0 h → jX m_X7_spouseOf 4 0 0 5 [(0, .ref 78), (1, .int l1), (2, .int l2), (3, .int l3), (4, .int l4)] [] h 0 0 Q) : ∀ (l1 : Int32) (l2 : Int32) (l3 : Int32) (l4 : Int32) (s0 : Int32) (g0 : Int32) (h : jH), 0 ≤ l1.toInt ∧ l1.toInt ≤ 599 → 0 ≤ l4.toInt ∧ l4.toInt ≤ 597 → l4.toInt % 3 = 0 → 0 ≤ s0.toInt ∧ s0.toInt ≤ 598 → 0 ≤ g0.toInt ∧ g0.toInt ≤ 200 → jiv h 33 3 = g0 → 600 - l4.toInt ≤ R5 → jJ jSgX Dy h → jSm fp_X7_spouseOf_r78 h0 h → jX m_X7_spouseOf 4 0 0 88 [(0, .ref 78), (1, .int l1), (2, .int l2), (3, .int l3), (4, .int l4)] [.int s0, .ref 78] h 0 0 Q := by
  intro l1 l2 l3 l4 s0 g0 h y0 y1 y2 y3 y4 z0 m5 J Sm
  have el2 := jfull l2
  have el3 := jfull l3
  refine x_inv (N := m_X7_namedSoul) (As := [.int s0]) (b := 78) (st := []) (dx9 := 3) (mc := 0) (ms := 0) (host := "") 7 rfl t_X7_namedSoul ⟨Or.inl q_7_179, i_X7_namedSoul.1, i_X7_namedSoul.2⟩ ⟨by decide, rfl⟩ (congrArg Prod.fst (J.1.1 78 (7, 16) rfl)) rfl (by decide) rfl rfl ⟨by decide, by decide⟩ (jC.of rfl k_X7_namedSoul rfl ?_)
  show jX m_X7_namedSoul 3 0 0 0 [(0, .ref 78), (1, .int s0)] [] _ 0 0 _
  refine x_aloadn (x := 78) rfl rfl ?_
  refine z_getR (N := 16) (b := 70) 7 1 rfl f_7_59 rfl J rfl 9985 ⟨rfl, rfl⟩ rfl ?_
  refine x_iloadn (x := s0) rfl rfl ?_
  refine x_inv (N := m_X5_isNamed) (As := [.int s0]) (b := 70) (st := []) (dx9 := 2) (mc := 0) (ms := 0) (host := "") 5 rfl t_X5_isNamed ⟨Or.inl q_7_173, i_X5_isNamed.1, i_X5_isNamed.2⟩ ⟨by decide, rfl⟩ (congrArg Prod.fst (J.1.1 70 (5, 9) rfl)) rfl (by decide) rfl rfl ⟨by decide, by decide⟩ (jC.of rfl k_X5_isNamed rfl ?_)
  show jX m_X5_isNamed 2 0 0 0 [(0, .ref 70), (1, .int s0)] [] _ 0 0 _
  refine x_aloadn (x := 70) rfl rfl ?_
  refine x_iloadn (x := s0) rfl rfl ?_
  refine x_iconst (v := 0) rfl ki_0 ?_
  refine x_inv (N := m_X5_lengthOf) (As := [.int s0, .int 0]) (b := 70) (st := []) (dx9 := 1) (mc := 0) (ms := 0) (host := "") 5 rfl t_X5_lengthOf ⟨Or.inl q_5_133, i_X5_lengthOf.1, i_X5_lengthOf.2⟩ ⟨by decide, rfl⟩ (congrArg Prod.fst (J.1.1 70 (5, 9) rfl)) rfl (by decide) rfl rfl ⟨by decide, by decide⟩ (jC.of rfl k_X5_lengthOf rfl ?_)
  show jX m_X5_lengthOf 1 0 0 0 [(0, .ref 70), (1, .int s0), (2, .int 0)] [] _ 0 0 _
  refine x_iloadn (x := s0) rfl rfl ?_
  refine x_iconst (v := 2) rfl ki_2 ?_
  refine z_imul rfl rfl jk_2 (by omega) (fun v1 ev1 => ?_)
  refine x_iloadn (x := 0) rfl rfl ?_
  refine z_iadd rfl rfl jk_0 (by omega) (fun v2 ev2 => ?_)
  refine x_istoren (lsx9 := [(3, .int v2), (0, .ref 70), (1, .int s0), (2, .int 0)]) rfl rfl rfl ?_
  refine x_iloadn (x := v2) rfl rfl ?_
  refine x_iflt (tgt := 26) rfl rfl (ti_lt rfl jk_0 (br_f (by omega) ?_))
  refine x_iloadn (x := v2) rfl rfl ?_
  refine x_sipush (v := 1200) rfl ks_1200 ?_
  refine x_icge (tgt := 26) rfl rfl (ti_ge rfl jk_1200 (br_f (by omega) ?_))
  refine x_aloadn (x := 70) rfl rfl ?_
  refine z_getR (N := 9) (b := 76) 5 7 rfl f_5_28 rfl J rfl 8967 ⟨rfl, rfl⟩ rfl ?_
  refine x_iloadn (x := v2) rfl rfl ?_
  refine z_iald (N := 1200) rfl J rfl sg_76_0_1200_1_0_1 rfl (by omega) (fun v3 qv3 ev3 => ?_)
  refine x_goto (tgt := 27) rfl rfl ?_
  refine x_iret rfl rfl ?_
  show jX m_X5_isNamed 2 0 0 6 [(0, .ref 70), (1, .int s0)] [.int v3] _ 0 0 _
  refine x_ifge (tgt := 18) rfl rfl (ti_ge rfl jk_0 ⟨fun c4 => ?_, fun c4 => ?_⟩)
  ·
    refine x_iconst (v := 1) rfl ki_1 ?_
    refine x_goto (tgt := 23) rfl rfl ?_
    refine x_zret rfl rfl (by decide) ?_
    show jX m_X7_namedSoul 3 0 0 8 [(0, .ref 78), (1, .int s0)] [.int 1] _ 0 0 _
    refine x_ifeq (tgt := 19) rfl rfl (ti_eq jk_1 jk_0 (br_f (by omega) ?_))
    refine x_aloadn (x := 78) rfl rfl ?_
    refine x_iloadn (x := s0) rfl rfl ?_
    refine x_inv (N := m_X7_soulAt) (As := [.int s0]) (b := 78) (st := []) (dx9 := 2) (mc := 0) (ms := 0) (host := "") 7 rfl t_X7_soulAt ⟨Or.inl q_7_153, i_X7_soulAt.1, i_X7_soulAt.2⟩ ⟨by decide, rfl⟩ (congrArg Prod.fst (J.1.1 78 (7, 16) rfl)) rfl (by decide) rfl rfl ⟨by decide, by decide⟩ (jC.of rfl k_X7_soulAt rfl ?_)
    show jX m_X7_soulAt 2 0 0 0 [(0, .ref 78), (1, .int s0)] [] _ 0 0 _
    refine x_iloadn (x := s0) rfl rfl ?_
    refine x_iflt (tgt := 36) rfl rfl (ti_lt rfl jk_0 (br_f (by omega) ?_))
    refine x_iloadn (x := s0) rfl rfl ?_
    refine x_sipush (v := 600) rfl ks_600 ?_
    refine x_icge (tgt := 36) rfl rfl (ti_ge rfl jk_600 (br_f (by omega) ?_))
    refine x_iloadn (x := s0) rfl rfl ?_
    refine x_iconst (v := 3) rfl ki_3 ?_
    refine z_idiv rfl rfl jk_3 (by omega) (by omega) (fun v5 ev5 => ?_)
    refine x_aloadn (x := 78) rfl rfl ?_
    refine z_getR (N := 16) (b := 32) 7 0 rfl f_7_55 rfl J rfl 9984 ⟨rfl, rfl⟩ rfl ?_
    refine z_getR (N := 20) (b := 33) 1 0 rfl f_7_63 rfl J rfl 4096 ⟨rfl, rfl⟩ rfl ?_
    refine z_getM (N := 4) (v := g0) 8 3 rfl f_7_85 rfl J rfl z0 ?_
    refine x_icge (tgt := 36) rfl rfl (ti_ge rfl rfl ⟨fun c6 => ?_, fun c6 => ?_⟩)
    ·
      refine x_iconst (v := (-1)) rfl ki_m1 ?_
      refine x_iret rfl rfl ?_
      show jX m_X7_namedSoul 3 0 0 16 [(0, .ref 78), (1, .int s0)] [.int (-1)] _ 0 0 _
      refine x_goto (tgt := 20) rfl rfl ?_
      refine x_iret rfl rfl ?_
      show jX m_X7_spouseOf 4 0 0 91 [(0, .ref 78), (1, .int l1), (2, .int l2), (3, .int l3), (4, .int l4)] [.int (-1)] _ 0 0 _
      refine x_istore (lsx9 := [(5, .int (-1)), (0, .ref 78), (1, .int l1), (2, .int l2), (3, .int l3), (4, .int l4)]) rfl rfl rfl ?_
      refine x_iload (x := (-1)) rfl rfl ?_
      refine x_iconst (v := (-1)) rfl ki_m1 ?_
      refine x_iceq (tgt := 110) rfl rfl (ti_eq jk_m1 jk_m1 (br_t (by omega) ?_))
      exact jX.sub (jsb_c rfl (jsb_c rfl (jsb_c rfl (jsb_c rfl (jsb_c rfl jsb_n))))) (ct_X7_spouseOf_r78_110 hD hQ k5 l1 l2 l3 l4 h (jr_of rfl (by omega)) (jr_of rfl (by omega)) (jr_mod rfl (by omega)) (by omega) J Sm)
    ·
      refine x_aloadn (x := 78) rfl rfl ?_
      refine z_getR (N := 16) (b := 82) 7 10 rfl f_7_37 rfl J rfl 9994 ⟨rfl, rfl⟩ rfl ?_
      refine x_iloadn (x := s0) rfl rfl ?_
      refine z_iald (N := 600) rfl J rfl sg_82_0_600_1_0_1 rfl (by omega) (fun v7 qv7 ev7 => ?_)
      refine x_goto (tgt := 37) rfl rfl ?_
      refine x_iret rfl rfl ?_
      show jX m_X7_namedSoul 3 0 0 16 [(0, .ref 78), (1, .int s0)] [.int v7] _ 0 0 _
      refine x_goto (tgt := 20) rfl rfl ?_
      refine x_iret rfl rfl ?_
      show jX m_X7_spouseOf 4 0 0 91 [(0, .ref 78), (1, .int l1), (2, .int l2), (3, .int l3), (4, .int l4)] [.int v7] _ 0 0 _
      refine x_istore (lsx9 := [(5, .int v7), (0, .ref 78), (1, .int l1), (2, .int l2), (3, .int l3), (4, .int l4)]) rfl rfl rfl ?_
      refine x_iload (x := v7) rfl rfl ?_
      refine x_iconst (v := (-1)) rfl ki_m1 ?_
      refine x_iceq (tgt := 110) rfl rfl (ti_eq rfl jk_m1 ⟨fun c8 => ?_, fun c8 => ?_⟩)
      ·
        exact jX.sub (jsb_c rfl (jsb_c rfl (jsb_c rfl (jsb_c rfl (jsb_c rfl jsb_n))))) (ct_X7_spouseOf_r78_110 hD hQ k5 l1 l2 l3 l4 h (jr_of rfl (by omega)) (jr_of rfl (by omega)) (jr_mod rfl (by omega)) (by omega) J Sm)
      ·
        refine x_iloadn (x := l3) rfl rfl ?_
        refine x_iloadn (x := l2) rfl rfl ?_
        refine x_icne (tgt := 107) rfl rfl (ti_ne rfl rfl ⟨fun c9 => ?_, fun c9 => ?_⟩)
        ·
          refine z_iinc0 (x := l3) (lsx9 := fun v10 => [(3, .int v10), (5, .int v7), (0, .ref 78), (1, .int l1), (2, .int l2), (4, .int l4)]) rfl rfl rfl (fun _ => rfl) (fun v10 => ?_)
          have ev10 := jfull v10
          exact jX.sub (jsb_c rfl (jsb_c rfl (jsb_c rfl (jsb_c rfl (jsb_c rfl jsb_n))))) (ct_X7_spouseOf_r78_110 hD hQ k5 l1 l2 v10 l4 h (jr_of rfl (by omega)) (jr_of rfl (by omega)) (jr_mod rfl (by omega)) (by omega) J Sm)
        ·
          refine x_iload (x := v7) rfl rfl ?_
          refine x_iret rfl rfl ?_
          exact hQ _ _ (jr_of rfl (by omega)) J Sm
  ·
    refine x_aloadn (x := 70) rfl rfl ?_
    refine x_iloadn (x := s0) rfl rfl ?_
    refine x_iconst (v := 1) rfl ki_1 ?_
    refine x_inv (N := m_X5_lengthOf) (As := [.int s0, .int 1]) (b := 70) (st := []) (dx9 := 1) (mc := 0) (ms := 0) (host := "") 5 rfl t_X5_lengthOf ⟨Or.inl q_5_133, i_X5_lengthOf.1, i_X5_lengthOf.2⟩ ⟨by decide, rfl⟩ (congrArg Prod.fst (J.1.1 70 (5, 9) rfl)) rfl (by decide) rfl rfl ⟨by decide, by decide⟩ (jC.of rfl k_X5_lengthOf rfl ?_)
    show jX m_X5_lengthOf 1 0 0 0 [(0, .ref 70), (1, .int s0), (2, .int 1)] [] _ 0 0 _
    refine x_iloadn (x := s0) rfl rfl ?_
    refine x_iconst (v := 2) rfl ki_2 ?_
    refine z_imul rfl rfl jk_2 (by omega) (fun v11 ev11 => ?_)
    refine x_iloadn (x := 1) rfl rfl ?_
    refine z_iadd rfl rfl jk_1 (by omega) (fun v12 ev12 => ?_)
    refine x_istoren (lsx9 := [(3, .int v12), (0, .ref 70), (1, .int s0), (2, .int 1)]) rfl rfl rfl ?_
    refine x_iloadn (x := v12) rfl rfl ?_
    refine x_iflt (tgt := 26) rfl rfl (ti_lt rfl jk_0 (br_f (by omega) ?_))
    refine x_iloadn (x := v12) rfl rfl ?_
    refine x_sipush (v := 1200) rfl ks_1200 ?_
    refine x_icge (tgt := 26) rfl rfl (ti_ge rfl jk_1200 (br_f (by omega) ?_))
    refine x_aloadn (x := 70) rfl rfl ?_
    refine z_getR (N := 9) (b := 76) 5 7 rfl f_5_28 rfl J rfl 8967 ⟨rfl, rfl⟩ rfl ?_
    refine x_iloadn (x := v12) rfl rfl ?_
    refine z_iald (N := 1200) rfl J rfl sg_76_0_1200_1_0_1 rfl (by omega) (fun v13 qv13 ev13 => ?_)
    refine x_goto (tgt := 27) rfl rfl ?_
    refine x_iret rfl rfl ?_
    show jX m_X5_isNamed 2 0 0 15 [(0, .ref 70), (1, .int s0)] [.int v13] _ 0 0 _
    refine x_iflt (tgt := 22) rfl rfl (ti_lt rfl jk_0 ⟨fun c14 => ?_, fun c14 => ?_⟩)
    ·
      refine x_iconst (v := 0) rfl ki_0 ?_
      refine x_zret rfl rfl (by decide) ?_
      show jX m_X7_namedSoul 3 0 0 8 [(0, .ref 78), (1, .int s0)] [.int 0] _ 0 0 _
      refine x_ifeq (tgt := 19) rfl rfl (ti_eq jk_0 jk_0 (br_t (by omega) ?_))
      refine x_iconst (v := (-1)) rfl ki_m1 ?_
      refine x_iret rfl rfl ?_
      show jX m_X7_spouseOf 4 0 0 91 [(0, .ref 78), (1, .int l1), (2, .int l2), (3, .int l3), (4, .int l4)] [.int (-1)] _ 0 0 _
      refine x_istore (lsx9 := [(5, .int (-1)), (0, .ref 78), (1, .int l1), (2, .int l2), (3, .int l3), (4, .int l4)]) rfl rfl rfl ?_
      refine x_iload (x := (-1)) rfl rfl ?_
      refine x_iconst (v := (-1)) rfl ki_m1 ?_
      refine x_iceq (tgt := 110) rfl rfl (ti_eq jk_m1 jk_m1 (br_t (by omega) ?_))
      exact jX.sub (jsb_c rfl (jsb_c rfl (jsb_c rfl (jsb_c rfl (jsb_c rfl jsb_n))))) (ct_X7_spouseOf_r78_110 hD hQ k5 l1 l2 l3 l4 h (jr_of rfl (by omega)) (jr_of rfl (by omega)) (jr_mod rfl (by omega)) (by omega) J Sm)
    ·
      refine x_iconst (v := 1) rfl ki_1 ?_
      refine x_goto (tgt := 23) rfl rfl ?_
      refine x_zret rfl rfl (by decide) ?_
      show jX m_X7_namedSoul 3 0 0 8 [(0, .ref 78), (1, .int s0)] [.int 1] _ 0 0 _
      refine x_ifeq (tgt := 19) rfl rfl (ti_eq jk_1 jk_0 (br_f (by omega) ?_))
      refine x_aloadn (x := 78) rfl rfl ?_
      refine x_iloadn (x := s0) rfl rfl ?_
      refine x_inv (N := m_X7_soulAt) (As := [.int s0]) (b := 78) (st := []) (dx9 := 2) (mc := 0) (ms := 0) (host := "") 7 rfl t_X7_soulAt ⟨Or.inl q_7_153, i_X7_soulAt.1, i_X7_soulAt.2⟩ ⟨by decide, rfl⟩ (congrArg Prod.fst (J.1.1 78 (7, 16) rfl)) rfl (by decide) rfl rfl ⟨by decide, by decide⟩ (jC.of rfl k_X7_soulAt rfl ?_)
      show jX m_X7_soulAt 2 0 0 0 [(0, .ref 78), (1, .int s0)] [] _ 0 0 _
      refine x_iloadn (x := s0) rfl rfl ?_
      refine x_iflt (tgt := 36) rfl rfl (ti_lt rfl jk_0 (br_f (by omega) ?_))
      refine x_iloadn (x := s0) rfl rfl ?_
      refine x_sipush (v := 600) rfl ks_600 ?_
      refine x_icge (tgt := 36) rfl rfl (ti_ge rfl jk_600 (br_f (by omega) ?_))
      refine x_iloadn (x := s0) rfl rfl ?_
      refine x_iconst (v := 3) rfl ki_3 ?_
      refine z_idiv rfl rfl jk_3 (by omega) (by omega) (fun v15 ev15 => ?_)
      refine x_aloadn (x := 78) rfl rfl ?_
      refine z_getR (N := 16) (b := 32) 7 0 rfl f_7_55 rfl J rfl 9984 ⟨rfl, rfl⟩ rfl ?_
      refine z_getR (N := 20) (b := 33) 1 0 rfl f_7_63 rfl J rfl 4096 ⟨rfl, rfl⟩ rfl ?_
      refine z_getM (N := 4) (v := g0) 8 3 rfl f_7_85 rfl J rfl z0 ?_
      refine x_icge (tgt := 36) rfl rfl (ti_ge rfl rfl ⟨fun c16 => ?_, fun c16 => ?_⟩)
      ·
        refine x_iconst (v := (-1)) rfl ki_m1 ?_
        refine x_iret rfl rfl ?_
        show jX m_X7_namedSoul 3 0 0 16 [(0, .ref 78), (1, .int s0)] [.int (-1)] _ 0 0 _
        refine x_goto (tgt := 20) rfl rfl ?_
        refine x_iret rfl rfl ?_
        show jX m_X7_spouseOf 4 0 0 91 [(0, .ref 78), (1, .int l1), (2, .int l2), (3, .int l3), (4, .int l4)] [.int (-1)] _ 0 0 _
        refine x_istore (lsx9 := [(5, .int (-1)), (0, .ref 78), (1, .int l1), (2, .int l2), (3, .int l3), (4, .int l4)]) rfl rfl rfl ?_
        refine x_iload (x := (-1)) rfl rfl ?_
        refine x_iconst (v := (-1)) rfl ki_m1 ?_
        refine x_iceq (tgt := 110) rfl rfl (ti_eq jk_m1 jk_m1 (br_t (by omega) ?_))
        exact jX.sub (jsb_c rfl (jsb_c rfl (jsb_c rfl (jsb_c rfl (jsb_c rfl jsb_n))))) (ct_X7_spouseOf_r78_110 hD hQ k5 l1 l2 l3 l4 h (jr_of rfl (by omega)) (jr_of rfl (by omega)) (jr_mod rfl (by omega)) (by omega) J Sm)
      ·
        refine x_aloadn (x := 78) rfl rfl ?_
        refine z_getR (N := 16) (b := 82) 7 10 rfl f_7_37 rfl J rfl 9994 ⟨rfl, rfl⟩ rfl ?_
        refine x_iloadn (x := s0) rfl rfl ?_
        refine z_iald (N := 600) rfl J rfl sg_82_0_600_1_0_1 rfl (by omega) (fun v17 qv17 ev17 => ?_)
        refine x_goto (tgt := 37) rfl rfl ?_
        refine x_iret rfl rfl ?_
        show jX m_X7_namedSoul 3 0 0 16 [(0, .ref 78), (1, .int s0)] [.int v17] _ 0 0 _
        refine x_goto (tgt := 20) rfl rfl ?_
        refine x_iret rfl rfl ?_
        show jX m_X7_spouseOf 4 0 0 91 [(0, .ref 78), (1, .int l1), (2, .int l2), (3, .int l3), (4, .int l4)] [.int v17] _ 0 0 _
        refine x_istore (lsx9 := [(5, .int v17), (0, .ref 78), (1, .int l1), (2, .int l2), (3, .int l3), (4, .int l4)]) rfl rfl rfl ?_
        refine x_iload (x := v17) rfl rfl ?_
        refine x_iconst (v := (-1)) rfl ki_m1 ?_
        refine x_iceq (tgt := 110) rfl rfl (ti_eq rfl jk_m1 ⟨fun c18 => ?_, fun c18 => ?_⟩)
        ·
          exact jX.sub (jsb_c rfl (jsb_c rfl (jsb_c rfl (jsb_c rfl (jsb_c rfl jsb_n))))) (ct_X7_spouseOf_r78_110 hD hQ k5 l1 l2 l3 l4 h (jr_of rfl (by omega)) (jr_of rfl (by omega)) (jr_mod rfl (by omega)) (by omega) J Sm)
        ·
          refine x_iloadn (x := l3) rfl rfl ?_
          refine x_iloadn (x := l2) rfl rfl ?_
          refine x_icne (tgt := 107) rfl rfl (ti_ne rfl rfl ⟨fun c19 => ?_, fun c19 => ?_⟩)
          ·
            refine z_iinc0 (x := l3) (lsx9 := fun v20 => [(3, .int v20), (5, .int v17), (0, .ref 78), (1, .int l1), (2, .int l2), (4, .int l4)]) rfl rfl rfl (fun _ => rfl) (fun v20 => ?_)
            have ev20 := jfull v20
            exact jX.sub (jsb_c rfl (jsb_c rfl (jsb_c rfl (jsb_c rfl (jsb_c rfl jsb_n))))) (ct_X7_spouseOf_r78_110 hD hQ k5 l1 l2 v20 l4 h (jr_of rfl (by omega)) (jr_of rfl (by omega)) (jr_mod rfl (by omega)) (by omega) J Sm)
          ·
            refine x_iload (x := v17) rfl rfl ?_
            refine x_iret rfl rfl ?_
            exact hQ _ _ (jr_of rfl (by omega)) J Sm
set_option maxRecDepth 100000 in
set_option maxHeartbeats 4000000 in
theorem ct_X7_spouseOf_r78_67 {Dy : jH → Prop} {h0 : jH} {Q : Option Value → jH → Prop} {R5 : Int} (hD : jDk Dy) (hQ : ∀ (v : Int32) hx9, (-1) ≤ v.toInt ∧ v.toInt ≤ 599 → jJ jSgX Dy hx9 → jSm fp_X7_spouseOf_r78 h0 hx9 → Q (some (.int v)) hx9) (k5 : ∀ (l1 : Int32) (l2 : Int32) (l3 : Int32) (l4 : Int32) (h : jH), 600 - l4.toInt < R5 → 0 ≤ l1.toInt ∧ l1.toInt ≤ 599 → 0 ≤ l4.toInt ∧ l4.toInt ≤ 600 → l4.toInt % 3 = 0 → jJ jSgX Dy h → jSm fp_X7_spouseOf_r78 h0 h → jX m_X7_spouseOf 4 0 0 5 [(0, .ref 78), (1, .int l1), (2, .int l2), (3, .int l3), (4, .int l4)] [] h 0 0 Q) : ∀ (l1 : Int32) (l2 : Int32) (l3 : Int32) (l4 : Int32) (g0 : Int32) (h : jH), 0 ≤ l1.toInt ∧ l1.toInt ≤ 599 → 0 ≤ l4.toInt ∧ l4.toInt ≤ 597 → l4.toInt % 3 = 0 → 0 ≤ g0.toInt ∧ g0.toInt ≤ 200 → jiv h 33 3 = g0 → 600 - l4.toInt ≤ R5 → jJ jSgX Dy h → jSm fp_X7_spouseOf_r78 h0 h → jX m_X7_spouseOf 4 0 0 67 [(0, .ref 78), (1, .int l1), (2, .int l2), (3, .int l3), (4, .int l4)] [] h 0 0 Q := by
  intro l1 l2 l3 l4 g0 h y0 y1 y2 y3 z0 m5 J Sm
  have el2 := jfull l2
  have el3 := jfull l3
  refine x_aloadn (x := 78) rfl rfl ?_
  refine x_aloadn (x := 78) rfl rfl ?_
  refine z_getR (N := 16) (b := 82) 7 10 rfl f_7_37 rfl J rfl 9994 ⟨rfl, rfl⟩ rfl ?_
  refine x_iload (x := l4) rfl rfl ?_
  refine z_iald (N := 600) rfl J rfl sg_82_0_600_1_0_1 rfl (by omega) (fun v1 qv1 ev1 => ?_)
  refine x_iloadn (x := l1) rfl rfl ?_
  refine x_icne (tgt := 86) rfl rfl (ti_ne rfl rfl ⟨fun c2 => ?_, fun c2 => ?_⟩)
  ·
    refine x_iload (x := l4) rfl rfl ?_
    exact jX.sub (jsb_c rfl (jsb_c rfl (jsb_c rfl (jsb_c rfl (jsb_c rfl jsb_n))))) (ct_X7_spouseOf_r78_88 hD hQ k5 l1 l2 l3 l4 l4 g0 h (jr_of rfl (by omega)) (jr_of rfl (by omega)) (jr_mod rfl (by omega)) (jr_of rfl (by omega)) (jr_of rfl (by omega)) z0 (by omega) J Sm)
  ·
    refine x_iload (x := l4) rfl rfl ?_
    refine x_iconst (v := 1) rfl ki_1 ?_
    refine z_iadd rfl rfl jk_1 (by omega) (fun v3 ev3 => ?_)
    refine x_goto (tgt := 88) rfl rfl ?_
    exact jX.sub (jsb_c rfl (jsb_c rfl (jsb_c rfl (jsb_c rfl (jsb_c rfl jsb_n))))) (ct_X7_spouseOf_r78_88 hD hQ k5 l1 l2 l3 l4 v3 g0 h (jr_of rfl (by omega)) (jr_of rfl (by omega)) (jr_mod rfl (by omega)) (jr_of rfl (by omega)) (jr_of rfl (by omega)) z0 (by omega) J Sm)
set_option maxRecDepth 100000 in
set_option maxHeartbeats 4000000 in
theorem ct_X7_spouseOf_r78_5 {Dy : jH → Prop} {h0 : jH} {Q : Option Value → jH → Prop} (hD : jDk Dy) (hQ : ∀ (v : Int32) hx9, (-1) ≤ v.toInt ∧ v.toInt ≤ 599 → jJ jSgX Dy hx9 → jSm fp_X7_spouseOf_r78 h0 hx9 → Q (some (.int v)) hx9) : ∀ r : Nat, ∀ (l1 : Int32) (l2 : Int32) (l3 : Int32) (l4 : Int32) (h : jH), 600 - l4.toInt < (r : Int) → 0 ≤ l1.toInt ∧ l1.toInt ≤ 599 → 0 ≤ l4.toInt ∧ l4.toInt ≤ 600 → l4.toInt % 3 = 0 → jJ jSgX Dy h → jSm fp_X7_spouseOf_r78 h0 h → jX m_X7_spouseOf 4 0 0 5 [(0, .ref 78), (1, .int l1), (2, .int l2), (3, .int l3), (4, .int l4)] [] h 0 0 Q := by
  intro r
  induction r with
  | zero =>
    intro l1 l2 l3 l4 h hm y0 y1 y2   J Sm
    exfalso
    have el2 := jfull l2
    have el3 := jfull l3
    omega
  | succ r ih =>
    intro l1 l2 l3 l4 h hm y0 y1 y2   J Sm
    have el2 := jfull l2
    have el3 := jfull l3
    refine x_iload (x := l4) rfl rfl ?_
    refine x_aloadn (x := 78) rfl rfl ?_
    refine z_getR (N := 16) (b := 32) 7 0 rfl f_7_55 rfl J rfl 9984 ⟨rfl, rfl⟩ rfl ?_
    refine z_getR (N := 20) (b := 33) 1 0 rfl f_7_63 rfl J rfl 4096 ⟨rfl, rfl⟩ rfl ?_
    refine z_getI (N := 4) 8 3 rfl f_7_85 rfl J rfl sg_33_3_4_1_0_1 (fun v1 qv1 ev1 => ?_)
    refine x_iconst (v := 3) rfl ki_3 ?_
    refine z_imul rfl rfl jk_3 (by omega) (fun v2 ev2 => ?_)
    refine x_icge (tgt := 116) rfl rfl (ti_ge rfl rfl ⟨fun c3 => ?_, fun c3 => ?_⟩)
    ·
      exact jX.sub jsb_n (ct_X7_spouseOf_r78_116 hD hQ  h J Sm)
    ·
      refine x_iload (x := l4) rfl rfl ?_
      refine x_iconst (v := 1) rfl ki_1 ?_
      refine z_iadd rfl rfl jk_1 (by omega) (fun v4 ev4 => ?_)
      refine x_sipush (v := 600) rfl ks_600 ?_
      refine x_icge (tgt := 116) rfl rfl (ti_ge rfl jk_600 (br_f (by omega) ?_))
      refine x_aloadn (x := 78) rfl rfl ?_
      refine z_getR (N := 16) (b := 79) 7 7 rfl f_7_27 rfl J rfl 9991 ⟨rfl, rfl⟩ rfl ?_
      refine x_iload (x := l4) rfl rfl ?_
      refine z_iald (N := 600) rfl J rfl sg_79_0_600_1_0_1 rfl (by omega) (fun v5 qv5 ev5 => ?_)
      refine x_iconst (v := 3) rfl ki_3 ?_
      refine x_icne (tgt := 110) rfl rfl (ti_ne rfl jk_3 ⟨fun c6 => ?_, fun c6 => ?_⟩)
      ·
        exact jX.sub (jsb_c rfl (jsb_c rfl (jsb_c rfl (jsb_c rfl (jsb_c rfl jsb_n))))) (ct_X7_spouseOf_r78_110 hD hQ ih l1 l2 l3 l4 h (jr_of rfl (by omega)) (jr_of rfl (by omega)) (jr_mod rfl (by omega)) (by omega) J Sm)
      ·
        refine x_aloadn (x := 78) rfl rfl ?_
        refine z_getR (N := 16) (b := 82) 7 10 rfl f_7_37 rfl J rfl 9994 ⟨rfl, rfl⟩ rfl ?_
        refine x_iload (x := l4) rfl rfl ?_
        refine z_iald (N := 600) rfl J rfl sg_82_0_600_1_0_1 rfl (by omega) (fun v7 qv7 ev7 => ?_)
        refine x_iloadn (x := l1) rfl rfl ?_
        refine x_iceq (tgt := 67) rfl rfl (ti_eq rfl rfl ⟨fun c8 => ?_, fun c8 => ?_⟩)
        ·
          exact jX.sub (jsb_c rfl (jsb_c rfl (jsb_c rfl (jsb_c rfl (jsb_c rfl jsb_n))))) (ct_X7_spouseOf_r78_67 hD hQ ih l1 l2 l3 l4 v1 h (jr_of rfl (by omega)) (jr_of rfl (by omega)) (jr_mod rfl (by omega)) (jr_of rfl (by omega)) qv1 (by omega) J Sm)
        ·
          refine x_aloadn (x := 78) rfl rfl ?_
          refine z_getR (N := 16) (b := 82) 7 10 rfl f_7_37 rfl J rfl 9994 ⟨rfl, rfl⟩ rfl ?_
          refine x_iload (x := l4) rfl rfl ?_
          refine x_iconst (v := 1) rfl ki_1 ?_
          refine z_iadd rfl rfl jk_1 (by omega) (fun v9 ev9 => ?_)
          refine z_iald (N := 600) rfl J rfl sg_82_0_600_1_0_1 rfl (by omega) (fun v10 qv10 ev10 => ?_)
          refine x_iloadn (x := l1) rfl rfl ?_
          refine x_icne (tgt := 110) rfl rfl (ti_ne rfl rfl ⟨fun c11 => ?_, fun c11 => ?_⟩)
          ·
            exact jX.sub (jsb_c rfl (jsb_c rfl (jsb_c rfl (jsb_c rfl (jsb_c rfl jsb_n))))) (ct_X7_spouseOf_r78_110 hD hQ ih l1 l2 l3 l4 h (jr_of rfl (by omega)) (jr_of rfl (by omega)) (jr_mod rfl (by omega)) (by omega) J Sm)
          ·
            exact jX.sub (jsb_c rfl (jsb_c rfl (jsb_c rfl (jsb_c rfl (jsb_c rfl jsb_n))))) (ct_X7_spouseOf_r78_67 hD hQ ih l1 l2 l3 l4 v1 h (jr_of rfl (by omega)) (jr_of rfl (by omega)) (jr_mod rfl (by omega)) (jr_of rfl (by omega)) qv1 (by omega) J Sm)
set_option maxRecDepth 100000 in
set_option maxHeartbeats 4000000 in
theorem sf_X7_spouseOf_r78 {Dy : jH → Prop} {h : jH} {Q : Option Value → jH → Prop} {a1 : Int32} {a2 : Int32} (y1 : 0 ≤ a1.toInt ∧ a1.toInt ≤ 599) (hD : jDk Dy) (J : jJ jSgX Dy h) (hQ : ∀ (v : Int32) hx9, (-1) ≤ v.toInt ∧ v.toInt ≤ 599 → jJ jSgX Dy hx9 → jSm fp_X7_spouseOf_r78 h hx9 → Q (some (.int v)) hx9) : jC m_X7_spouseOf 4 0 0 [.ref 78, .int a1, .int a2] h Q := by
  refine jC.of rfl k_X7_spouseOf rfl ?_
  have Sm := jSm_rf fp_X7_spouseOf_r78 h
  have ea2 := jfull a2
  show jX m_X7_spouseOf 4 0 0 0 [(0, .ref 78), (1, .int a1), (2, .int a2)] [] _ 0 0 _
  refine x_iconst (v := 0) rfl ki_0 ?_
  refine x_istoren (lsx9 := [(3, .int 0), (0, .ref 78), (1, .int a1), (2, .int a2)]) rfl rfl rfl ?_
  refine x_iconst (v := 0) rfl ki_0 ?_
  refine x_istore (lsx9 := [(4, .int 0), (3, .int 0), (0, .ref 78), (1, .int a1), (2, .int a2)]) rfl rfl rfl ?_
  exact jX.sub (jsb_c rfl (jsb_c rfl (jsb_c rfl (jsb_c rfl (jsb_c rfl jsb_n))))) (ct_X7_spouseOf_r78_5 hD hQ  601 a1 a2 0 0 h (by have := jk_0; omega) (jr_of rfl (by omega)) (jr_of jk_0 (by omega)) (jr_mod jk_0 (by omega)) J Sm)
def fp_X11_kin_r31 : jFp := [(78, 13, 14), (82, 0, 600), (83, 0, 600), (84, 0, 200), (86, 0, 3)]
set_option maxRecDepth 100000 in
set_option maxHeartbeats 4000000 in
theorem sf_X11_kin_r31 {Dy : jH → Prop} {h : jH} {Q : Option Value → jH → Prop} {a1 : Int32} {a2 : Int32} {a3 : Int32} {a4 : Int32} (hD : jDk Dy) (J : jJ jSgX Dy h) (hQ : ∀ (v : Int32) hx9, (-1) ≤ v.toInt ∧ v.toInt ≤ 599 → jJ jSgX Dy hx9 → jSm fp_X11_kin_r31 h hx9 → Q (some (.int v)) hx9) : jC m_X11_kin 8 0 0 [.ref 31, .int a1, .int a2, .int a3, .int a4] h Q := by
  refine jC.of rfl k_X11_kin rfl ?_
  have Sm := jSm_rf fp_X11_kin_r31 h
  have ea1 := jfull a1
  have ea2 := jfull a2
  have ea3 := jfull a3
  have ea4 := jfull a4
  show jX m_X11_kin 8 0 0 0 [(0, .ref 31), (1, .int a1), (2, .int a2), (3, .int a3), (4, .int a4)] [] _ 0 0 _
  refine x_aloadn (x := 31) rfl rfl ?_
  refine x_iloadn (x := a1) rfl rfl ?_
  refine x_iloadn (x := a2) rfl rfl ?_
  refine x_inv (N := m_X11_soulOn) (As := [.int a1, .int a2]) (b := 31) (st := []) (dx9 := 7) (mc := 0) (ms := 0) (host := "") 11 rfl t_X11_soulOn ⟨Or.inl q_11_234, i_X11_soulOn.1, i_X11_soulOn.2⟩ ⟨by decide, rfl⟩ (congrArg Prod.fst (J.1.1 31 (11, 13) rfl)) rfl (by decide) rfl rfl ⟨by decide, by decide⟩ (jC.of rfl k_X11_soulOn rfl ?_)
  show jX m_X11_soulOn 7 0 0 0 [(0, .ref 31), (1, .int a1), (2, .int a2)] [] _ 0 0 _
  refine x_iloadn (x := a2) rfl rfl ?_
  refine x_inst (N := m_X11_isDay) (As := [.int a2]) (st := []) (dx9 := 1) (mc := 0) (ms := 0) (host := "") rfl t_X11_isDay ⟨Or.inl q_11_115, s_X11_isDay⟩ rfl (by decide) rfl rfl ⟨by decide, by decide⟩ (zc_X11_isDay rfl (fun v1 ev1 => ?_))
  show jX m_X11_soulOn 7 0 0 4 [(0, .ref 31), (1, .int a1), (2, .int a2)] [.int v1] _ 0 0 _
  refine x_ifeq (tgt := 18) rfl rfl (ti_eq rfl jk_0 ⟨fun c2 => ?_, fun c2 => ?_⟩)
  ·
    refine x_iconst (v := (-1)) rfl ki_m1 ?_
    refine x_iret rfl rfl ?_
    show jX m_X11_kin 8 0 0 6 [(0, .ref 31), (1, .int a1), (2, .int a2), (3, .int a3), (4, .int a4)] [.int (-1)] _ 0 0 _
    refine x_istore (lsx9 := [(5, .int (-1)), (0, .ref 31), (1, .int a1), (2, .int a2), (3, .int a3), (4, .int a4)]) rfl rfl rfl ?_
    refine x_iload (x := (-1)) rfl rfl ?_
    refine x_iconst (v := (-1)) rfl ki_m1 ?_
    refine x_icne (tgt := 16) rfl rfl (ti_ne jk_m1 jk_m1 (bn_f (by omega) ?_))
    refine x_iconst (v := (-1)) rfl ki_m1 ?_
    refine x_iret rfl rfl ?_
    exact hQ _ _ (jr_of jk_m1 (by omega)) J Sm
  ·
    refine x_aloadn (x := 31) rfl rfl ?_
    refine z_getR (N := 13) (b := 78) 11 4 rfl f_11_41 rfl J rfl 3972 ⟨rfl, rfl⟩ rfl ?_
    refine x_iloadn (x := a1) rfl rfl ?_
    refine x_inv (N := m_X7_isMention) (As := [.int a1]) (b := 78) (st := []) (dx9 := 6) (mc := 0) (ms := 0) (host := "") 7 rfl t_X7_isMention ⟨Or.inl q_11_187, i_X7_isMention.1, i_X7_isMention.2⟩ ⟨by decide, rfl⟩ (congrArg Prod.fst (J.1.1 78 (7, 16) rfl)) rfl (by decide) rfl rfl ⟨by decide, by decide⟩ (jC.of rfl k_X7_isMention rfl ?_)
    show jX m_X7_isMention 6 0 0 0 [(0, .ref 78), (1, .int a1)] [] _ 0 0 _
    refine x_iloadn (x := a1) rfl rfl ?_
    refine x_iflt (tgt := 41) rfl rfl (ti_lt rfl jk_0 ⟨fun c3 => ?_, fun c3 => ?_⟩)
    ·
      refine x_iconst (v := 0) rfl ki_0 ?_
      refine x_zret rfl rfl (by decide) ?_
      show jX m_X11_soulOn 7 0 0 15 [(0, .ref 31), (1, .int a1), (2, .int a2)] [.int 0] _ 0 0 _
      refine x_ifne (tgt := 20) rfl rfl (ti_ne jk_0 jk_0 (bn_f (by omega) ?_))
      refine x_iconst (v := (-1)) rfl ki_m1 ?_
      refine x_iret rfl rfl ?_
      show jX m_X11_kin 8 0 0 6 [(0, .ref 31), (1, .int a1), (2, .int a2), (3, .int a3), (4, .int a4)] [.int (-1)] _ 0 0 _
      refine x_istore (lsx9 := [(5, .int (-1)), (0, .ref 31), (1, .int a1), (2, .int a2), (3, .int a3), (4, .int a4)]) rfl rfl rfl ?_
      refine x_iload (x := (-1)) rfl rfl ?_
      refine x_iconst (v := (-1)) rfl ki_m1 ?_
      refine x_icne (tgt := 16) rfl rfl (ti_ne jk_m1 jk_m1 (bn_f (by omega) ?_))
      refine x_iconst (v := (-1)) rfl ki_m1 ?_
      refine x_iret rfl rfl ?_
      exact hQ _ _ (jr_of jk_m1 (by omega)) J Sm
    ·
      refine x_iloadn (x := a1) rfl rfl ?_
      refine x_sipush (v := 600) rfl ks_600 ?_
      refine x_icge (tgt := 41) rfl rfl (ti_ge rfl jk_600 ⟨fun c4 => ?_, fun c4 => ?_⟩)
      ·
        refine x_iconst (v := 0) rfl ki_0 ?_
        refine x_zret rfl rfl (by decide) ?_
        show jX m_X11_soulOn 7 0 0 15 [(0, .ref 31), (1, .int a1), (2, .int a2)] [.int 0] _ 0 0 _
        refine x_ifne (tgt := 20) rfl rfl (ti_ne jk_0 jk_0 (bn_f (by omega) ?_))
        refine x_iconst (v := (-1)) rfl ki_m1 ?_
        refine x_iret rfl rfl ?_
        show jX m_X11_kin 8 0 0 6 [(0, .ref 31), (1, .int a1), (2, .int a2), (3, .int a3), (4, .int a4)] [.int (-1)] _ 0 0 _
        refine x_istore (lsx9 := [(5, .int (-1)), (0, .ref 31), (1, .int a1), (2, .int a2), (3, .int a3), (4, .int a4)]) rfl rfl rfl ?_
        refine x_iload (x := (-1)) rfl rfl ?_
        refine x_iconst (v := (-1)) rfl ki_m1 ?_
        refine x_icne (tgt := 16) rfl rfl (ti_ne jk_m1 jk_m1 (bn_f (by omega) ?_))
        refine x_iconst (v := (-1)) rfl ki_m1 ?_
        refine x_iret rfl rfl ?_
        exact hQ _ _ (jr_of jk_m1 (by omega)) J Sm
      ·
        refine x_iloadn (x := a1) rfl rfl ?_
        refine x_iconst (v := 3) rfl ki_3 ?_
        refine z_idiv rfl rfl jk_3 (by omega) (by omega) (fun v5 ev5 => ?_)
        refine x_aloadn (x := 78) rfl rfl ?_
        refine z_getR (N := 16) (b := 32) 7 0 rfl f_7_55 rfl J rfl 9984 ⟨rfl, rfl⟩ rfl ?_
        refine z_getR (N := 20) (b := 33) 1 0 rfl f_7_63 rfl J rfl 4096 ⟨rfl, rfl⟩ rfl ?_
        refine z_getI (N := 4) 8 3 rfl f_7_85 rfl J rfl sg_33_3_4_1_0_1 (fun v6 qv6 ev6 => ?_)
        refine x_icge (tgt := 41) rfl rfl (ti_ge rfl rfl ⟨fun c7 => ?_, fun c7 => ?_⟩)
        ·
          refine x_iconst (v := 0) rfl ki_0 ?_
          refine x_zret rfl rfl (by decide) ?_
          show jX m_X11_soulOn 7 0 0 15 [(0, .ref 31), (1, .int a1), (2, .int a2)] [.int 0] _ 0 0 _
          refine x_ifne (tgt := 20) rfl rfl (ti_ne jk_0 jk_0 (bn_f (by omega) ?_))
          refine x_iconst (v := (-1)) rfl ki_m1 ?_
          refine x_iret rfl rfl ?_
          show jX m_X11_kin 8 0 0 6 [(0, .ref 31), (1, .int a1), (2, .int a2), (3, .int a3), (4, .int a4)] [.int (-1)] _ 0 0 _
          refine x_istore (lsx9 := [(5, .int (-1)), (0, .ref 31), (1, .int a1), (2, .int a2), (3, .int a3), (4, .int a4)]) rfl rfl rfl ?_
          refine x_iload (x := (-1)) rfl rfl ?_
          refine x_iconst (v := (-1)) rfl ki_m1 ?_
          refine x_icne (tgt := 16) rfl rfl (ti_ne jk_m1 jk_m1 (bn_f (by omega) ?_))
          refine x_iconst (v := (-1)) rfl ki_m1 ?_
          refine x_iret rfl rfl ?_
          exact hQ _ _ (jr_of jk_m1 (by omega)) J Sm
        ·
          refine x_aloadn (x := 78) rfl rfl ?_
          refine z_getR (N := 16) (b := 79) 7 7 rfl f_7_27 rfl J rfl 9991 ⟨rfl, rfl⟩ rfl ?_
          refine x_iloadn (x := a1) rfl rfl ?_
          refine z_iald (N := 600) rfl J rfl sg_79_0_600_1_0_1 rfl (by omega) (fun v8 qv8 ev8 => ?_)
          refine x_iconst (v := (-1)) rfl ki_m1 ?_
          refine x_iceq (tgt := 41) rfl rfl (ti_eq rfl jk_m1 ⟨fun c9 => ?_, fun c9 => ?_⟩)
          ·
            refine x_iconst (v := 0) rfl ki_0 ?_
            refine x_zret rfl rfl (by decide) ?_
            show jX m_X11_soulOn 7 0 0 15 [(0, .ref 31), (1, .int a1), (2, .int a2)] [.int 0] _ 0 0 _
            refine x_ifne (tgt := 20) rfl rfl (ti_ne jk_0 jk_0 (bn_f (by omega) ?_))
            refine x_iconst (v := (-1)) rfl ki_m1 ?_
            refine x_iret rfl rfl ?_
            show jX m_X11_kin 8 0 0 6 [(0, .ref 31), (1, .int a1), (2, .int a2), (3, .int a3), (4, .int a4)] [.int (-1)] _ 0 0 _
            refine x_istore (lsx9 := [(5, .int (-1)), (0, .ref 31), (1, .int a1), (2, .int a2), (3, .int a3), (4, .int a4)]) rfl rfl rfl ?_
            refine x_iload (x := (-1)) rfl rfl ?_
            refine x_iconst (v := (-1)) rfl ki_m1 ?_
            refine x_icne (tgt := 16) rfl rfl (ti_ne jk_m1 jk_m1 (bn_f (by omega) ?_))
            refine x_iconst (v := (-1)) rfl ki_m1 ?_
            refine x_iret rfl rfl ?_
            exact hQ _ _ (jr_of jk_m1 (by omega)) J Sm
          ·
            refine x_iconst (v := 1) rfl ki_1 ?_
            refine x_goto (tgt := 42) rfl rfl ?_
            refine x_zret rfl rfl (by decide) ?_
            show jX m_X11_soulOn 7 0 0 15 [(0, .ref 31), (1, .int a1), (2, .int a2)] [.int 1] _ 0 0 _
            refine x_ifne (tgt := 20) rfl rfl (ti_ne jk_1 jk_0 (bn_t (by omega) ?_))
            refine x_aloadn (x := 31) rfl rfl ?_
            refine z_getR (N := 13) (b := 78) 11 4 rfl f_11_41 rfl J rfl 3972 ⟨rfl, rfl⟩ rfl ?_
            refine x_iloadn (x := a2) rfl rfl ?_
            refine x_inv (N := m_X7_asKnown) (As := [.int a2]) (b := 78) (st := []) (dx9 := 6) (mc := 0) (ms := 0) (host := "") 7 rfl t_X7_asKnown ⟨Or.inl q_11_240, i_X7_asKnown.1, i_X7_asKnown.2⟩ ⟨by decide, rfl⟩ (congrArg Prod.fst (J.1.1 78 (7, 16) rfl)) rfl (by decide) rfl rfl ⟨by decide, by decide⟩ (sf_X7_asKnown_r78 (jr_of rfl (by omega)) hD J  (fun h J S10 => ?_))
            have Sm := jSm_tr rfl Sm S10
            show jX m_X11_soulOn 7 0 0 28 [(0, .ref 31), (1, .int a1), (2, .int a2)] [] _ 0 0 _
            refine x_aloadn (x := 31) rfl rfl ?_
            refine z_getR (N := 13) (b := 78) 11 4 rfl f_11_41 rfl J rfl 3972 ⟨rfl, rfl⟩ rfl ?_
            refine z_getR (N := 16) (b := 82) 7 10 rfl f_11_537 rfl J rfl 9994 ⟨rfl, rfl⟩ rfl ?_
            refine x_iloadn (x := a1) rfl rfl ?_
            refine z_iald (N := 600) rfl J rfl sg_82_0_600_1_0_1 rfl (by omega) (fun v11 qv11 ev11 => ?_)
            refine x_iret rfl rfl ?_
            show jX m_X11_kin 8 0 0 6 [(0, .ref 31), (1, .int a1), (2, .int a2), (3, .int a3), (4, .int a4)] [.int v11] _ 0 0 _
            refine x_istore (lsx9 := [(5, .int v11), (0, .ref 31), (1, .int a1), (2, .int a2), (3, .int a3), (4, .int a4)]) rfl rfl rfl ?_
            refine x_iload (x := v11) rfl rfl ?_
            refine x_iconst (v := (-1)) rfl ki_m1 ?_
            refine x_icne (tgt := 16) rfl rfl (ti_ne rfl jk_m1 ⟨fun c12 => ?_, fun c12 => ?_⟩)
            ·
              refine x_iloadn (x := a3) rfl rfl ?_
              by_cases c13 : a3.toInt = 0
              ·
                refine x_tableIn (tgt := 48) 0 rfl c13 (by decide) (by decide) rfl rfl ?_
                refine x_aloadn (x := 31) rfl rfl ?_
                refine z_getR (N := 13) (b := 78) 11 4 rfl f_11_41 rfl J rfl 3972 ⟨rfl, rfl⟩ rfl ?_
                refine x_iload (x := v11) rfl rfl ?_
                refine x_iconst (v := 1) rfl ki_1 ?_
                refine x_inv (N := m_X7_parentOf) (As := [.int v11, .int 1]) (b := 78) (st := []) (dx9 := 7) (mc := 0) (ms := 0) (host := "") 7 rfl t_X7_parentOf ⟨Or.inl q_11_255, i_X7_parentOf.1, i_X7_parentOf.2⟩ ⟨by decide, rfl⟩ (congrArg Prod.fst (J.1.1 78 (7, 16) rfl)) rfl (by decide) rfl rfl ⟨by decide, by decide⟩ (jC.of rfl k_X7_parentOf rfl ?_)
                show jX m_X7_parentOf 7 0 0 0 [(0, .ref 78), (1, .int v11), (2, .int 1)] [] _ 0 0 _
                refine x_aloadn (x := 78) rfl rfl ?_
                refine x_iloadn (x := v11) rfl rfl ?_
                refine x_inv (N := m_X7_birthOf) (As := [.int v11]) (b := 78) (st := []) (dx9 := 1) (mc := 0) (ms := 0) (host := "") 7 rfl t_X7_birthOf ⟨Or.inl q_7_176, i_X7_birthOf.1, i_X7_birthOf.2⟩ ⟨by decide, rfl⟩ (congrArg Prod.fst (J.1.1 78 (7, 16) rfl)) rfl (by decide) rfl rfl ⟨by decide, by decide⟩ (sf_X7_birthOf_r78 (jr_of rfl (by omega)) hD J  (fun v15 h ev15 J S14 => ?_))
                have Sm := jSm_tr rfl Sm S14
                show jX m_X7_parentOf 7 0 0 5 [(0, .ref 78), (1, .int v11), (2, .int 1)] [.int v15] _ 0 0 _
                refine x_istoren (lsx9 := [(3, .int v15), (0, .ref 78), (1, .int v11), (2, .int 1)]) rfl rfl rfl ?_
                refine x_iloadn (x := v15) rfl rfl ?_
                refine x_iconst (v := (-1)) rfl ki_m1 ?_
                refine x_icne (tgt := 15) rfl rfl (ti_ne rfl jk_m1 ⟨fun c16 => ?_, fun c16 => ?_⟩)
                ·
                  refine x_aloadn (x := 78) rfl rfl ?_
                  refine x_iloadn (x := v15) rfl rfl ?_
                  refine x_iloadn (x := 1) rfl rfl ?_
                  refine z_iadd rfl rfl jk_1 (by omega) (fun v17 ev17 => ?_)
                  refine x_inv (N := m_X7_namedSoul) (As := [.int v17]) (b := 78) (st := []) (dx9 := 6) (mc := 0) (ms := 0) (host := "") 7 rfl t_X7_namedSoul ⟨Or.inl q_7_179, i_X7_namedSoul.1, i_X7_namedSoul.2⟩ ⟨by decide, rfl⟩ (congrArg Prod.fst (J.1.1 78 (7, 16) rfl)) rfl (by decide) rfl rfl ⟨by decide, by decide⟩ (jC.of rfl k_X7_namedSoul rfl ?_)
                  show jX m_X7_namedSoul 6 0 0 0 [(0, .ref 78), (1, .int v17)] [] _ 0 0 _
                  refine x_aloadn (x := 78) rfl rfl ?_
                  refine z_getR (N := 16) (b := 70) 7 1 rfl f_7_59 rfl J rfl 9985 ⟨rfl, rfl⟩ rfl ?_
                  refine x_iloadn (x := v17) rfl rfl ?_
                  refine x_inv (N := m_X5_isNamed) (As := [.int v17]) (b := 70) (st := []) (dx9 := 5) (mc := 0) (ms := 0) (host := "") 5 rfl t_X5_isNamed ⟨Or.inl q_7_173, i_X5_isNamed.1, i_X5_isNamed.2⟩ ⟨by decide, rfl⟩ (congrArg Prod.fst (J.1.1 70 (5, 9) rfl)) rfl (by decide) rfl rfl ⟨by decide, by decide⟩ (jC.of rfl k_X5_isNamed rfl ?_)
                  show jX m_X5_isNamed 5 0 0 0 [(0, .ref 70), (1, .int v17)] [] _ 0 0 _
                  refine x_aloadn (x := 70) rfl rfl ?_
                  refine x_iloadn (x := v17) rfl rfl ?_
                  refine x_iconst (v := 0) rfl ki_0 ?_
                  refine x_inv (N := m_X5_lengthOf) (As := [.int v17, .int 0]) (b := 70) (st := []) (dx9 := 4) (mc := 0) (ms := 0) (host := "") 5 rfl t_X5_lengthOf ⟨Or.inl q_5_133, i_X5_lengthOf.1, i_X5_lengthOf.2⟩ ⟨by decide, rfl⟩ (congrArg Prod.fst (J.1.1 70 (5, 9) rfl)) rfl (by decide) rfl rfl ⟨by decide, by decide⟩ (jC.of rfl k_X5_lengthOf rfl ?_)
                  show jX m_X5_lengthOf 4 0 0 0 [(0, .ref 70), (1, .int v17), (2, .int 0)] [] _ 0 0 _
                  refine x_iloadn (x := v17) rfl rfl ?_
                  refine x_iconst (v := 2) rfl ki_2 ?_
                  refine z_imul rfl rfl jk_2 (by omega) (fun v18 ev18 => ?_)
                  refine x_iloadn (x := 0) rfl rfl ?_
                  refine z_iadd rfl rfl jk_0 (by omega) (fun v19 ev19 => ?_)
                  refine x_istoren (lsx9 := [(3, .int v19), (0, .ref 70), (1, .int v17), (2, .int 0)]) rfl rfl rfl ?_
                  refine x_iloadn (x := v19) rfl rfl ?_
                  refine x_iflt (tgt := 26) rfl rfl (ti_lt rfl jk_0 (br_f (by omega) ?_))
                  refine x_iloadn (x := v19) rfl rfl ?_
                  refine x_sipush (v := 1200) rfl ks_1200 ?_
                  refine x_icge (tgt := 26) rfl rfl (ti_ge rfl jk_1200 ⟨fun c20 => ?_, fun c20 => ?_⟩)
                  ·
                    refine x_iconst (v := (-1)) rfl ki_m1 ?_
                    refine x_iret rfl rfl ?_
                    show jX m_X5_isNamed 5 0 0 6 [(0, .ref 70), (1, .int v17)] [.int (-1)] _ 0 0 _
                    refine x_ifge (tgt := 18) rfl rfl (ti_ge jk_m1 jk_0 (br_f (by omega) ?_))
                    refine x_aloadn (x := 70) rfl rfl ?_
                    refine x_iloadn (x := v17) rfl rfl ?_
                    refine x_iconst (v := 1) rfl ki_1 ?_
                    refine x_inv (N := m_X5_lengthOf) (As := [.int v17, .int 1]) (b := 70) (st := []) (dx9 := 4) (mc := 0) (ms := 0) (host := "") 5 rfl t_X5_lengthOf ⟨Or.inl q_5_133, i_X5_lengthOf.1, i_X5_lengthOf.2⟩ ⟨by decide, rfl⟩ (congrArg Prod.fst (J.1.1 70 (5, 9) rfl)) rfl (by decide) rfl rfl ⟨by decide, by decide⟩ (jC.of rfl k_X5_lengthOf rfl ?_)
                    show jX m_X5_lengthOf 4 0 0 0 [(0, .ref 70), (1, .int v17), (2, .int 1)] [] _ 0 0 _
                    refine x_iloadn (x := v17) rfl rfl ?_
                    refine x_iconst (v := 2) rfl ki_2 ?_
                    refine z_imul rfl rfl jk_2 (by omega) (fun v21 ev21 => ?_)
                    refine x_iloadn (x := 1) rfl rfl ?_
                    refine z_iadd rfl rfl jk_1 (by omega) (fun v22 ev22 => ?_)
                    refine x_istoren (lsx9 := [(3, .int v22), (0, .ref 70), (1, .int v17), (2, .int 1)]) rfl rfl rfl ?_
                    refine x_iloadn (x := v22) rfl rfl ?_
                    refine x_iflt (tgt := 26) rfl rfl (ti_lt rfl jk_0 (br_f (by omega) ?_))
                    refine x_iloadn (x := v22) rfl rfl ?_
                    refine x_sipush (v := 1200) rfl ks_1200 ?_
                    refine x_icge (tgt := 26) rfl rfl (ti_ge rfl jk_1200 ⟨fun c23 => ?_, fun c23 => ?_⟩)
                    ·
                      refine x_iconst (v := (-1)) rfl ki_m1 ?_
                      refine x_iret rfl rfl ?_
                      show jX m_X5_isNamed 5 0 0 15 [(0, .ref 70), (1, .int v17)] [.int (-1)] _ 0 0 _
                      refine x_iflt (tgt := 22) rfl rfl (ti_lt jk_m1 jk_0 (br_t (by omega) ?_))
                      refine x_iconst (v := 0) rfl ki_0 ?_
                      refine x_zret rfl rfl (by decide) ?_
                      show jX m_X7_namedSoul 6 0 0 8 [(0, .ref 78), (1, .int v17)] [.int 0] _ 0 0 _
                      refine x_ifeq (tgt := 19) rfl rfl (ti_eq jk_0 jk_0 (br_t (by omega) ?_))
                      refine x_iconst (v := (-1)) rfl ki_m1 ?_
                      refine x_iret rfl rfl ?_
                      show jX m_X7_parentOf 7 0 0 22 [(3, .int v15), (0, .ref 78), (1, .int v11), (2, .int 1)] [.int (-1)] _ 0 0 _
                      refine x_iret rfl rfl ?_
                      show jX m_X11_kin 8 0 0 58 [(5, .int v11), (0, .ref 31), (1, .int a1), (2, .int a2), (3, .int a3), (4, .int a4)] [.int (-1)] _ 0 0 _
                      refine x_iret rfl rfl ?_
                      exact hQ _ _ (jr_of jk_m1 (by omega)) J Sm
                    ·
                      refine x_aloadn (x := 70) rfl rfl ?_
                      refine z_getR (N := 9) (b := 76) 5 7 rfl f_5_28 rfl J rfl 8967 ⟨rfl, rfl⟩ rfl ?_
                      refine x_iloadn (x := v22) rfl rfl ?_
                      refine z_iald (N := 1200) rfl J rfl sg_76_0_1200_1_0_1 rfl (by omega) (fun v24 qv24 ev24 => ?_)
                      refine x_goto (tgt := 27) rfl rfl ?_
                      refine x_iret rfl rfl ?_
                      show jX m_X5_isNamed 5 0 0 15 [(0, .ref 70), (1, .int v17)] [.int v24] _ 0 0 _
                      refine x_iflt (tgt := 22) rfl rfl (ti_lt rfl jk_0 ⟨fun c25 => ?_, fun c25 => ?_⟩)
                      ·
                        refine x_iconst (v := 0) rfl ki_0 ?_
                        refine x_zret rfl rfl (by decide) ?_
                        show jX m_X7_namedSoul 6 0 0 8 [(0, .ref 78), (1, .int v17)] [.int 0] _ 0 0 _
                        refine x_ifeq (tgt := 19) rfl rfl (ti_eq jk_0 jk_0 (br_t (by omega) ?_))
                        refine x_iconst (v := (-1)) rfl ki_m1 ?_
                        refine x_iret rfl rfl ?_
                        show jX m_X7_parentOf 7 0 0 22 [(3, .int v15), (0, .ref 78), (1, .int v11), (2, .int 1)] [.int (-1)] _ 0 0 _
                        refine x_iret rfl rfl ?_
                        show jX m_X11_kin 8 0 0 58 [(5, .int v11), (0, .ref 31), (1, .int a1), (2, .int a2), (3, .int a3), (4, .int a4)] [.int (-1)] _ 0 0 _
                        refine x_iret rfl rfl ?_
                        exact hQ _ _ (jr_of jk_m1 (by omega)) J Sm
                      ·
                        refine x_iconst (v := 1) rfl ki_1 ?_
                        refine x_goto (tgt := 23) rfl rfl ?_
                        refine x_zret rfl rfl (by decide) ?_
                        show jX m_X7_namedSoul 6 0 0 8 [(0, .ref 78), (1, .int v17)] [.int 1] _ 0 0 _
                        refine x_ifeq (tgt := 19) rfl rfl (ti_eq jk_1 jk_0 (br_f (by omega) ?_))
                        refine x_aloadn (x := 78) rfl rfl ?_
                        refine x_iloadn (x := v17) rfl rfl ?_
                        refine x_inv (N := m_X7_soulAt) (As := [.int v17]) (b := 78) (st := []) (dx9 := 5) (mc := 0) (ms := 0) (host := "") 7 rfl t_X7_soulAt ⟨Or.inl q_7_153, i_X7_soulAt.1, i_X7_soulAt.2⟩ ⟨by decide, rfl⟩ (congrArg Prod.fst (J.1.1 78 (7, 16) rfl)) rfl (by decide) rfl rfl ⟨by decide, by decide⟩ (jC.of rfl k_X7_soulAt rfl ?_)
                        show jX m_X7_soulAt 5 0 0 0 [(0, .ref 78), (1, .int v17)] [] _ 0 0 _
                        refine x_iloadn (x := v17) rfl rfl ?_
                        refine x_iflt (tgt := 36) rfl rfl (ti_lt rfl jk_0 (br_f (by omega) ?_))
                        refine x_iloadn (x := v17) rfl rfl ?_
                        refine x_sipush (v := 600) rfl ks_600 ?_
                        refine x_icge (tgt := 36) rfl rfl (ti_ge rfl jk_600 ⟨fun c26 => ?_, fun c26 => ?_⟩)
                        ·
                          refine x_iconst (v := (-1)) rfl ki_m1 ?_
                          refine x_iret rfl rfl ?_
                          show jX m_X7_namedSoul 6 0 0 16 [(0, .ref 78), (1, .int v17)] [.int (-1)] _ 0 0 _
                          refine x_goto (tgt := 20) rfl rfl ?_
                          refine x_iret rfl rfl ?_
                          show jX m_X7_parentOf 7 0 0 22 [(3, .int v15), (0, .ref 78), (1, .int v11), (2, .int 1)] [.int (-1)] _ 0 0 _
                          refine x_iret rfl rfl ?_
                          show jX m_X11_kin 8 0 0 58 [(5, .int v11), (0, .ref 31), (1, .int a1), (2, .int a2), (3, .int a3), (4, .int a4)] [.int (-1)] _ 0 0 _
                          refine x_iret rfl rfl ?_
                          exact hQ _ _ (jr_of jk_m1 (by omega)) J Sm
                        ·
                          refine x_iloadn (x := v17) rfl rfl ?_
                          refine x_iconst (v := 3) rfl ki_3 ?_
                          refine z_idiv rfl rfl jk_3 (by omega) (by omega) (fun v27 ev27 => ?_)
                          refine x_aloadn (x := 78) rfl rfl ?_
                          refine z_getR (N := 16) (b := 32) 7 0 rfl f_7_55 rfl J rfl 9984 ⟨rfl, rfl⟩ rfl ?_
                          refine z_getR (N := 20) (b := 33) 1 0 rfl f_7_63 rfl J rfl 4096 ⟨rfl, rfl⟩ rfl ?_
                          refine z_getM (N := 4) (v := v6) 8 3 rfl f_7_85 rfl J rfl (jmc S14 rfl (jmc S10 rfl qv6)) ?_
                          refine x_icge (tgt := 36) rfl rfl (ti_ge rfl rfl ⟨fun c28 => ?_, fun c28 => ?_⟩)
                          ·
                            refine x_iconst (v := (-1)) rfl ki_m1 ?_
                            refine x_iret rfl rfl ?_
                            show jX m_X7_namedSoul 6 0 0 16 [(0, .ref 78), (1, .int v17)] [.int (-1)] _ 0 0 _
                            refine x_goto (tgt := 20) rfl rfl ?_
                            refine x_iret rfl rfl ?_
                            show jX m_X7_parentOf 7 0 0 22 [(3, .int v15), (0, .ref 78), (1, .int v11), (2, .int 1)] [.int (-1)] _ 0 0 _
                            refine x_iret rfl rfl ?_
                            show jX m_X11_kin 8 0 0 58 [(5, .int v11), (0, .ref 31), (1, .int a1), (2, .int a2), (3, .int a3), (4, .int a4)] [.int (-1)] _ 0 0 _
                            refine x_iret rfl rfl ?_
                            exact hQ _ _ (jr_of jk_m1 (by omega)) J Sm
                          ·
                            refine x_aloadn (x := 78) rfl rfl ?_
                            refine z_getR (N := 16) (b := 82) 7 10 rfl f_7_37 rfl J rfl 9994 ⟨rfl, rfl⟩ rfl ?_
                            refine x_iloadn (x := v17) rfl rfl ?_
                            refine z_iald (N := 600) rfl J rfl sg_82_0_600_1_0_1 rfl (by omega) (fun v29 qv29 ev29 => ?_)
                            refine x_goto (tgt := 37) rfl rfl ?_
                            refine x_iret rfl rfl ?_
                            show jX m_X7_namedSoul 6 0 0 16 [(0, .ref 78), (1, .int v17)] [.int v29] _ 0 0 _
                            refine x_goto (tgt := 20) rfl rfl ?_
                            refine x_iret rfl rfl ?_
                            show jX m_X7_parentOf 7 0 0 22 [(3, .int v15), (0, .ref 78), (1, .int v11), (2, .int 1)] [.int v29] _ 0 0 _
                            refine x_iret rfl rfl ?_
                            show jX m_X11_kin 8 0 0 58 [(5, .int v11), (0, .ref 31), (1, .int a1), (2, .int a2), (3, .int a3), (4, .int a4)] [.int v29] _ 0 0 _
                            refine x_iret rfl rfl ?_
                            exact hQ _ _ (jr_of rfl (by omega)) J Sm
                  ·
                    refine x_aloadn (x := 70) rfl rfl ?_
                    refine z_getR (N := 9) (b := 76) 5 7 rfl f_5_28 rfl J rfl 8967 ⟨rfl, rfl⟩ rfl ?_
                    refine x_iloadn (x := v19) rfl rfl ?_
                    refine z_iald (N := 1200) rfl J rfl sg_76_0_1200_1_0_1 rfl (by omega) (fun v30 qv30 ev30 => ?_)
                    refine x_goto (tgt := 27) rfl rfl ?_
                    refine x_iret rfl rfl ?_
                    show jX m_X5_isNamed 5 0 0 6 [(0, .ref 70), (1, .int v17)] [.int v30] _ 0 0 _
                    refine x_ifge (tgt := 18) rfl rfl (ti_ge rfl jk_0 ⟨fun c31 => ?_, fun c31 => ?_⟩)
                    ·
                      refine x_iconst (v := 1) rfl ki_1 ?_
                      refine x_goto (tgt := 23) rfl rfl ?_
                      refine x_zret rfl rfl (by decide) ?_
                      show jX m_X7_namedSoul 6 0 0 8 [(0, .ref 78), (1, .int v17)] [.int 1] _ 0 0 _
                      refine x_ifeq (tgt := 19) rfl rfl (ti_eq jk_1 jk_0 (br_f (by omega) ?_))
                      refine x_aloadn (x := 78) rfl rfl ?_
                      refine x_iloadn (x := v17) rfl rfl ?_
                      refine x_inv (N := m_X7_soulAt) (As := [.int v17]) (b := 78) (st := []) (dx9 := 5) (mc := 0) (ms := 0) (host := "") 7 rfl t_X7_soulAt ⟨Or.inl q_7_153, i_X7_soulAt.1, i_X7_soulAt.2⟩ ⟨by decide, rfl⟩ (congrArg Prod.fst (J.1.1 78 (7, 16) rfl)) rfl (by decide) rfl rfl ⟨by decide, by decide⟩ (jC.of rfl k_X7_soulAt rfl ?_)
                      show jX m_X7_soulAt 5 0 0 0 [(0, .ref 78), (1, .int v17)] [] _ 0 0 _
                      refine x_iloadn (x := v17) rfl rfl ?_
                      refine x_iflt (tgt := 36) rfl rfl (ti_lt rfl jk_0 (br_f (by omega) ?_))
                      refine x_iloadn (x := v17) rfl rfl ?_
                      refine x_sipush (v := 600) rfl ks_600 ?_
                      refine x_icge (tgt := 36) rfl rfl (ti_ge rfl jk_600 ⟨fun c32 => ?_, fun c32 => ?_⟩)
                      ·
                        refine x_iconst (v := (-1)) rfl ki_m1 ?_
                        refine x_iret rfl rfl ?_
                        show jX m_X7_namedSoul 6 0 0 16 [(0, .ref 78), (1, .int v17)] [.int (-1)] _ 0 0 _
                        refine x_goto (tgt := 20) rfl rfl ?_
                        refine x_iret rfl rfl ?_
                        show jX m_X7_parentOf 7 0 0 22 [(3, .int v15), (0, .ref 78), (1, .int v11), (2, .int 1)] [.int (-1)] _ 0 0 _
                        refine x_iret rfl rfl ?_
                        show jX m_X11_kin 8 0 0 58 [(5, .int v11), (0, .ref 31), (1, .int a1), (2, .int a2), (3, .int a3), (4, .int a4)] [.int (-1)] _ 0 0 _
                        refine x_iret rfl rfl ?_
                        exact hQ _ _ (jr_of jk_m1 (by omega)) J Sm
                      ·
                        refine x_iloadn (x := v17) rfl rfl ?_
                        refine x_iconst (v := 3) rfl ki_3 ?_
                        refine z_idiv rfl rfl jk_3 (by omega) (by omega) (fun v33 ev33 => ?_)
                        refine x_aloadn (x := 78) rfl rfl ?_
                        refine z_getR (N := 16) (b := 32) 7 0 rfl f_7_55 rfl J rfl 9984 ⟨rfl, rfl⟩ rfl ?_
                        refine z_getR (N := 20) (b := 33) 1 0 rfl f_7_63 rfl J rfl 4096 ⟨rfl, rfl⟩ rfl ?_
                        refine z_getM (N := 4) (v := v6) 8 3 rfl f_7_85 rfl J rfl (jmc S14 rfl (jmc S10 rfl qv6)) ?_
                        refine x_icge (tgt := 36) rfl rfl (ti_ge rfl rfl ⟨fun c34 => ?_, fun c34 => ?_⟩)
                        ·
                          refine x_iconst (v := (-1)) rfl ki_m1 ?_
                          refine x_iret rfl rfl ?_
                          show jX m_X7_namedSoul 6 0 0 16 [(0, .ref 78), (1, .int v17)] [.int (-1)] _ 0 0 _
                          refine x_goto (tgt := 20) rfl rfl ?_
                          refine x_iret rfl rfl ?_
                          show jX m_X7_parentOf 7 0 0 22 [(3, .int v15), (0, .ref 78), (1, .int v11), (2, .int 1)] [.int (-1)] _ 0 0 _
                          refine x_iret rfl rfl ?_
                          show jX m_X11_kin 8 0 0 58 [(5, .int v11), (0, .ref 31), (1, .int a1), (2, .int a2), (3, .int a3), (4, .int a4)] [.int (-1)] _ 0 0 _
                          refine x_iret rfl rfl ?_
                          exact hQ _ _ (jr_of jk_m1 (by omega)) J Sm
                        ·
                          refine x_aloadn (x := 78) rfl rfl ?_
                          refine z_getR (N := 16) (b := 82) 7 10 rfl f_7_37 rfl J rfl 9994 ⟨rfl, rfl⟩ rfl ?_
                          refine x_iloadn (x := v17) rfl rfl ?_
                          refine z_iald (N := 600) rfl J rfl sg_82_0_600_1_0_1 rfl (by omega) (fun v35 qv35 ev35 => ?_)
                          refine x_goto (tgt := 37) rfl rfl ?_
                          refine x_iret rfl rfl ?_
                          show jX m_X7_namedSoul 6 0 0 16 [(0, .ref 78), (1, .int v17)] [.int v35] _ 0 0 _
                          refine x_goto (tgt := 20) rfl rfl ?_
                          refine x_iret rfl rfl ?_
                          show jX m_X7_parentOf 7 0 0 22 [(3, .int v15), (0, .ref 78), (1, .int v11), (2, .int 1)] [.int v35] _ 0 0 _
                          refine x_iret rfl rfl ?_
                          show jX m_X11_kin 8 0 0 58 [(5, .int v11), (0, .ref 31), (1, .int a1), (2, .int a2), (3, .int a3), (4, .int a4)] [.int v35] _ 0 0 _
                          refine x_iret rfl rfl ?_
                          exact hQ _ _ (jr_of rfl (by omega)) J Sm
                    ·
                      refine x_aloadn (x := 70) rfl rfl ?_
                      refine x_iloadn (x := v17) rfl rfl ?_
                      refine x_iconst (v := 1) rfl ki_1 ?_
                      refine x_inv (N := m_X5_lengthOf) (As := [.int v17, .int 1]) (b := 70) (st := []) (dx9 := 4) (mc := 0) (ms := 0) (host := "") 5 rfl t_X5_lengthOf ⟨Or.inl q_5_133, i_X5_lengthOf.1, i_X5_lengthOf.2⟩ ⟨by decide, rfl⟩ (congrArg Prod.fst (J.1.1 70 (5, 9) rfl)) rfl (by decide) rfl rfl ⟨by decide, by decide⟩ (jC.of rfl k_X5_lengthOf rfl ?_)
                      show jX m_X5_lengthOf 4 0 0 0 [(0, .ref 70), (1, .int v17), (2, .int 1)] [] _ 0 0 _
                      refine x_iloadn (x := v17) rfl rfl ?_
                      refine x_iconst (v := 2) rfl ki_2 ?_
                      refine z_imul rfl rfl jk_2 (by omega) (fun v36 ev36 => ?_)
                      refine x_iloadn (x := 1) rfl rfl ?_
                      refine z_iadd rfl rfl jk_1 (by omega) (fun v37 ev37 => ?_)
                      refine x_istoren (lsx9 := [(3, .int v37), (0, .ref 70), (1, .int v17), (2, .int 1)]) rfl rfl rfl ?_
                      refine x_iloadn (x := v37) rfl rfl ?_
                      refine x_iflt (tgt := 26) rfl rfl (ti_lt rfl jk_0 (br_f (by omega) ?_))
                      refine x_iloadn (x := v37) rfl rfl ?_
                      refine x_sipush (v := 1200) rfl ks_1200 ?_
                      refine x_icge (tgt := 26) rfl rfl (ti_ge rfl jk_1200 ⟨fun c38 => ?_, fun c38 => ?_⟩)
                      ·
                        refine x_iconst (v := (-1)) rfl ki_m1 ?_
                        refine x_iret rfl rfl ?_
                        show jX m_X5_isNamed 5 0 0 15 [(0, .ref 70), (1, .int v17)] [.int (-1)] _ 0 0 _
                        refine x_iflt (tgt := 22) rfl rfl (ti_lt jk_m1 jk_0 (br_t (by omega) ?_))
                        refine x_iconst (v := 0) rfl ki_0 ?_
                        refine x_zret rfl rfl (by decide) ?_
                        show jX m_X7_namedSoul 6 0 0 8 [(0, .ref 78), (1, .int v17)] [.int 0] _ 0 0 _
                        refine x_ifeq (tgt := 19) rfl rfl (ti_eq jk_0 jk_0 (br_t (by omega) ?_))
                        refine x_iconst (v := (-1)) rfl ki_m1 ?_
                        refine x_iret rfl rfl ?_
                        show jX m_X7_parentOf 7 0 0 22 [(3, .int v15), (0, .ref 78), (1, .int v11), (2, .int 1)] [.int (-1)] _ 0 0 _
                        refine x_iret rfl rfl ?_
                        show jX m_X11_kin 8 0 0 58 [(5, .int v11), (0, .ref 31), (1, .int a1), (2, .int a2), (3, .int a3), (4, .int a4)] [.int (-1)] _ 0 0 _
                        refine x_iret rfl rfl ?_
                        exact hQ _ _ (jr_of jk_m1 (by omega)) J Sm
                      ·
                        refine x_aloadn (x := 70) rfl rfl ?_
                        refine z_getR (N := 9) (b := 76) 5 7 rfl f_5_28 rfl J rfl 8967 ⟨rfl, rfl⟩ rfl ?_
                        refine x_iloadn (x := v37) rfl rfl ?_
                        refine z_iald (N := 1200) rfl J rfl sg_76_0_1200_1_0_1 rfl (by omega) (fun v39 qv39 ev39 => ?_)
                        refine x_goto (tgt := 27) rfl rfl ?_
                        refine x_iret rfl rfl ?_
                        show jX m_X5_isNamed 5 0 0 15 [(0, .ref 70), (1, .int v17)] [.int v39] _ 0 0 _
                        refine x_iflt (tgt := 22) rfl rfl (ti_lt rfl jk_0 ⟨fun c40 => ?_, fun c40 => ?_⟩)
                        ·
                          refine x_iconst (v := 0) rfl ki_0 ?_
                          refine x_zret rfl rfl (by decide) ?_
                          show jX m_X7_namedSoul 6 0 0 8 [(0, .ref 78), (1, .int v17)] [.int 0] _ 0 0 _
                          refine x_ifeq (tgt := 19) rfl rfl (ti_eq jk_0 jk_0 (br_t (by omega) ?_))
                          refine x_iconst (v := (-1)) rfl ki_m1 ?_
                          refine x_iret rfl rfl ?_
                          show jX m_X7_parentOf 7 0 0 22 [(3, .int v15), (0, .ref 78), (1, .int v11), (2, .int 1)] [.int (-1)] _ 0 0 _
                          refine x_iret rfl rfl ?_
                          show jX m_X11_kin 8 0 0 58 [(5, .int v11), (0, .ref 31), (1, .int a1), (2, .int a2), (3, .int a3), (4, .int a4)] [.int (-1)] _ 0 0 _
                          refine x_iret rfl rfl ?_
                          exact hQ _ _ (jr_of jk_m1 (by omega)) J Sm
                        ·
                          refine x_iconst (v := 1) rfl ki_1 ?_
                          refine x_goto (tgt := 23) rfl rfl ?_
                          refine x_zret rfl rfl (by decide) ?_
                          show jX m_X7_namedSoul 6 0 0 8 [(0, .ref 78), (1, .int v17)] [.int 1] _ 0 0 _
                          refine x_ifeq (tgt := 19) rfl rfl (ti_eq jk_1 jk_0 (br_f (by omega) ?_))
                          refine x_aloadn (x := 78) rfl rfl ?_
                          refine x_iloadn (x := v17) rfl rfl ?_
                          refine x_inv (N := m_X7_soulAt) (As := [.int v17]) (b := 78) (st := []) (dx9 := 5) (mc := 0) (ms := 0) (host := "") 7 rfl t_X7_soulAt ⟨Or.inl q_7_153, i_X7_soulAt.1, i_X7_soulAt.2⟩ ⟨by decide, rfl⟩ (congrArg Prod.fst (J.1.1 78 (7, 16) rfl)) rfl (by decide) rfl rfl ⟨by decide, by decide⟩ (jC.of rfl k_X7_soulAt rfl ?_)
                          show jX m_X7_soulAt 5 0 0 0 [(0, .ref 78), (1, .int v17)] [] _ 0 0 _
                          refine x_iloadn (x := v17) rfl rfl ?_
                          refine x_iflt (tgt := 36) rfl rfl (ti_lt rfl jk_0 (br_f (by omega) ?_))
                          refine x_iloadn (x := v17) rfl rfl ?_
                          refine x_sipush (v := 600) rfl ks_600 ?_
                          refine x_icge (tgt := 36) rfl rfl (ti_ge rfl jk_600 ⟨fun c41 => ?_, fun c41 => ?_⟩)
                          ·
                            refine x_iconst (v := (-1)) rfl ki_m1 ?_
                            refine x_iret rfl rfl ?_
                            show jX m_X7_namedSoul 6 0 0 16 [(0, .ref 78), (1, .int v17)] [.int (-1)] _ 0 0 _
                            refine x_goto (tgt := 20) rfl rfl ?_
                            refine x_iret rfl rfl ?_
                            show jX m_X7_parentOf 7 0 0 22 [(3, .int v15), (0, .ref 78), (1, .int v11), (2, .int 1)] [.int (-1)] _ 0 0 _
                            refine x_iret rfl rfl ?_
                            show jX m_X11_kin 8 0 0 58 [(5, .int v11), (0, .ref 31), (1, .int a1), (2, .int a2), (3, .int a3), (4, .int a4)] [.int (-1)] _ 0 0 _
                            refine x_iret rfl rfl ?_
                            exact hQ _ _ (jr_of jk_m1 (by omega)) J Sm
                          ·
                            refine x_iloadn (x := v17) rfl rfl ?_
                            refine x_iconst (v := 3) rfl ki_3 ?_
                            refine z_idiv rfl rfl jk_3 (by omega) (by omega) (fun v42 ev42 => ?_)
                            refine x_aloadn (x := 78) rfl rfl ?_
                            refine z_getR (N := 16) (b := 32) 7 0 rfl f_7_55 rfl J rfl 9984 ⟨rfl, rfl⟩ rfl ?_
                            refine z_getR (N := 20) (b := 33) 1 0 rfl f_7_63 rfl J rfl 4096 ⟨rfl, rfl⟩ rfl ?_
                            refine z_getM (N := 4) (v := v6) 8 3 rfl f_7_85 rfl J rfl (jmc S14 rfl (jmc S10 rfl qv6)) ?_
                            refine x_icge (tgt := 36) rfl rfl (ti_ge rfl rfl ⟨fun c43 => ?_, fun c43 => ?_⟩)
                            ·
                              refine x_iconst (v := (-1)) rfl ki_m1 ?_
                              refine x_iret rfl rfl ?_
                              show jX m_X7_namedSoul 6 0 0 16 [(0, .ref 78), (1, .int v17)] [.int (-1)] _ 0 0 _
                              refine x_goto (tgt := 20) rfl rfl ?_
                              refine x_iret rfl rfl ?_
                              show jX m_X7_parentOf 7 0 0 22 [(3, .int v15), (0, .ref 78), (1, .int v11), (2, .int 1)] [.int (-1)] _ 0 0 _
                              refine x_iret rfl rfl ?_
                              show jX m_X11_kin 8 0 0 58 [(5, .int v11), (0, .ref 31), (1, .int a1), (2, .int a2), (3, .int a3), (4, .int a4)] [.int (-1)] _ 0 0 _
                              refine x_iret rfl rfl ?_
                              exact hQ _ _ (jr_of jk_m1 (by omega)) J Sm
                            ·
                              refine x_aloadn (x := 78) rfl rfl ?_
                              refine z_getR (N := 16) (b := 82) 7 10 rfl f_7_37 rfl J rfl 9994 ⟨rfl, rfl⟩ rfl ?_
                              refine x_iloadn (x := v17) rfl rfl ?_
                              refine z_iald (N := 600) rfl J rfl sg_82_0_600_1_0_1 rfl (by omega) (fun v44 qv44 ev44 => ?_)
                              refine x_goto (tgt := 37) rfl rfl ?_
                              refine x_iret rfl rfl ?_
                              show jX m_X7_namedSoul 6 0 0 16 [(0, .ref 78), (1, .int v17)] [.int v44] _ 0 0 _
                              refine x_goto (tgt := 20) rfl rfl ?_
                              refine x_iret rfl rfl ?_
                              show jX m_X7_parentOf 7 0 0 22 [(3, .int v15), (0, .ref 78), (1, .int v11), (2, .int 1)] [.int v44] _ 0 0 _
                              refine x_iret rfl rfl ?_
                              show jX m_X11_kin 8 0 0 58 [(5, .int v11), (0, .ref 31), (1, .int a1), (2, .int a2), (3, .int a3), (4, .int a4)] [.int v44] _ 0 0 _
                              refine x_iret rfl rfl ?_
                              exact hQ _ _ (jr_of rfl (by omega)) J Sm
                ·
                  refine x_iconst (v := (-1)) rfl ki_m1 ?_
                  refine x_goto (tgt := 22) rfl rfl ?_
                  refine x_iret rfl rfl ?_
                  show jX m_X11_kin 8 0 0 58 [(5, .int v11), (0, .ref 31), (1, .int a1), (2, .int a2), (3, .int a3), (4, .int a4)] [.int (-1)] _ 0 0 _
                  refine x_iret rfl rfl ?_
                  exact hQ _ _ (jr_of jk_m1 (by omega)) J Sm
              by_cases c45 : a3.toInt = 1
              ·
                refine x_tableIn (tgt := 59) 1 rfl c45 (by decide) (by decide) rfl rfl ?_
                refine x_aloadn (x := 31) rfl rfl ?_
                refine z_getR (N := 13) (b := 78) 11 4 rfl f_11_41 rfl J rfl 3972 ⟨rfl, rfl⟩ rfl ?_
                refine x_iload (x := v11) rfl rfl ?_
                refine x_iconst (v := 2) rfl ki_2 ?_
                refine x_inv (N := m_X7_parentOf) (As := [.int v11, .int 2]) (b := 78) (st := []) (dx9 := 7) (mc := 0) (ms := 0) (host := "") 7 rfl t_X7_parentOf ⟨Or.inl q_11_255, i_X7_parentOf.1, i_X7_parentOf.2⟩ ⟨by decide, rfl⟩ (congrArg Prod.fst (J.1.1 78 (7, 16) rfl)) rfl (by decide) rfl rfl ⟨by decide, by decide⟩ (jC.of rfl k_X7_parentOf rfl ?_)
                show jX m_X7_parentOf 7 0 0 0 [(0, .ref 78), (1, .int v11), (2, .int 2)] [] _ 0 0 _
                refine x_aloadn (x := 78) rfl rfl ?_
                refine x_iloadn (x := v11) rfl rfl ?_
                refine x_inv (N := m_X7_birthOf) (As := [.int v11]) (b := 78) (st := []) (dx9 := 1) (mc := 0) (ms := 0) (host := "") 7 rfl t_X7_birthOf ⟨Or.inl q_7_176, i_X7_birthOf.1, i_X7_birthOf.2⟩ ⟨by decide, rfl⟩ (congrArg Prod.fst (J.1.1 78 (7, 16) rfl)) rfl (by decide) rfl rfl ⟨by decide, by decide⟩ (sf_X7_birthOf_r78 (jr_of rfl (by omega)) hD J  (fun v47 h ev47 J S46 => ?_))
                have Sm := jSm_tr rfl Sm S46
                show jX m_X7_parentOf 7 0 0 5 [(0, .ref 78), (1, .int v11), (2, .int 2)] [.int v47] _ 0 0 _
                refine x_istoren (lsx9 := [(3, .int v47), (0, .ref 78), (1, .int v11), (2, .int 2)]) rfl rfl rfl ?_
                refine x_iloadn (x := v47) rfl rfl ?_
                refine x_iconst (v := (-1)) rfl ki_m1 ?_
                refine x_icne (tgt := 15) rfl rfl (ti_ne rfl jk_m1 ⟨fun c48 => ?_, fun c48 => ?_⟩)
                ·
                  refine x_aloadn (x := 78) rfl rfl ?_
                  refine x_iloadn (x := v47) rfl rfl ?_
                  refine x_iloadn (x := 2) rfl rfl ?_
                  refine z_iadd rfl rfl jk_2 (by omega) (fun v49 ev49 => ?_)
                  refine x_inv (N := m_X7_namedSoul) (As := [.int v49]) (b := 78) (st := []) (dx9 := 6) (mc := 0) (ms := 0) (host := "") 7 rfl t_X7_namedSoul ⟨Or.inl q_7_179, i_X7_namedSoul.1, i_X7_namedSoul.2⟩ ⟨by decide, rfl⟩ (congrArg Prod.fst (J.1.1 78 (7, 16) rfl)) rfl (by decide) rfl rfl ⟨by decide, by decide⟩ (jC.of rfl k_X7_namedSoul rfl ?_)
                  show jX m_X7_namedSoul 6 0 0 0 [(0, .ref 78), (1, .int v49)] [] _ 0 0 _
                  refine x_aloadn (x := 78) rfl rfl ?_
                  refine z_getR (N := 16) (b := 70) 7 1 rfl f_7_59 rfl J rfl 9985 ⟨rfl, rfl⟩ rfl ?_
                  refine x_iloadn (x := v49) rfl rfl ?_
                  refine x_inv (N := m_X5_isNamed) (As := [.int v49]) (b := 70) (st := []) (dx9 := 5) (mc := 0) (ms := 0) (host := "") 5 rfl t_X5_isNamed ⟨Or.inl q_7_173, i_X5_isNamed.1, i_X5_isNamed.2⟩ ⟨by decide, rfl⟩ (congrArg Prod.fst (J.1.1 70 (5, 9) rfl)) rfl (by decide) rfl rfl ⟨by decide, by decide⟩ (jC.of rfl k_X5_isNamed rfl ?_)
                  show jX m_X5_isNamed 5 0 0 0 [(0, .ref 70), (1, .int v49)] [] _ 0 0 _
                  refine x_aloadn (x := 70) rfl rfl ?_
                  refine x_iloadn (x := v49) rfl rfl ?_
                  refine x_iconst (v := 0) rfl ki_0 ?_
                  refine x_inv (N := m_X5_lengthOf) (As := [.int v49, .int 0]) (b := 70) (st := []) (dx9 := 4) (mc := 0) (ms := 0) (host := "") 5 rfl t_X5_lengthOf ⟨Or.inl q_5_133, i_X5_lengthOf.1, i_X5_lengthOf.2⟩ ⟨by decide, rfl⟩ (congrArg Prod.fst (J.1.1 70 (5, 9) rfl)) rfl (by decide) rfl rfl ⟨by decide, by decide⟩ (jC.of rfl k_X5_lengthOf rfl ?_)
                  show jX m_X5_lengthOf 4 0 0 0 [(0, .ref 70), (1, .int v49), (2, .int 0)] [] _ 0 0 _
                  refine x_iloadn (x := v49) rfl rfl ?_
                  refine x_iconst (v := 2) rfl ki_2 ?_
                  refine z_imul rfl rfl jk_2 (by omega) (fun v50 ev50 => ?_)
                  refine x_iloadn (x := 0) rfl rfl ?_
                  refine z_iadd rfl rfl jk_0 (by omega) (fun v51 ev51 => ?_)
                  refine x_istoren (lsx9 := [(3, .int v51), (0, .ref 70), (1, .int v49), (2, .int 0)]) rfl rfl rfl ?_
                  refine x_iloadn (x := v51) rfl rfl ?_
                  refine x_iflt (tgt := 26) rfl rfl (ti_lt rfl jk_0 (br_f (by omega) ?_))
                  refine x_iloadn (x := v51) rfl rfl ?_
                  refine x_sipush (v := 1200) rfl ks_1200 ?_
                  refine x_icge (tgt := 26) rfl rfl (ti_ge rfl jk_1200 ⟨fun c52 => ?_, fun c52 => ?_⟩)
                  ·
                    refine x_iconst (v := (-1)) rfl ki_m1 ?_
                    refine x_iret rfl rfl ?_
                    show jX m_X5_isNamed 5 0 0 6 [(0, .ref 70), (1, .int v49)] [.int (-1)] _ 0 0 _
                    refine x_ifge (tgt := 18) rfl rfl (ti_ge jk_m1 jk_0 (br_f (by omega) ?_))
                    refine x_aloadn (x := 70) rfl rfl ?_
                    refine x_iloadn (x := v49) rfl rfl ?_
                    refine x_iconst (v := 1) rfl ki_1 ?_
                    refine x_inv (N := m_X5_lengthOf) (As := [.int v49, .int 1]) (b := 70) (st := []) (dx9 := 4) (mc := 0) (ms := 0) (host := "") 5 rfl t_X5_lengthOf ⟨Or.inl q_5_133, i_X5_lengthOf.1, i_X5_lengthOf.2⟩ ⟨by decide, rfl⟩ (congrArg Prod.fst (J.1.1 70 (5, 9) rfl)) rfl (by decide) rfl rfl ⟨by decide, by decide⟩ (jC.of rfl k_X5_lengthOf rfl ?_)
                    show jX m_X5_lengthOf 4 0 0 0 [(0, .ref 70), (1, .int v49), (2, .int 1)] [] _ 0 0 _
                    refine x_iloadn (x := v49) rfl rfl ?_
                    refine x_iconst (v := 2) rfl ki_2 ?_
                    refine z_imul rfl rfl jk_2 (by omega) (fun v53 ev53 => ?_)
                    refine x_iloadn (x := 1) rfl rfl ?_
                    refine z_iadd rfl rfl jk_1 (by omega) (fun v54 ev54 => ?_)
                    refine x_istoren (lsx9 := [(3, .int v54), (0, .ref 70), (1, .int v49), (2, .int 1)]) rfl rfl rfl ?_
                    refine x_iloadn (x := v54) rfl rfl ?_
                    refine x_iflt (tgt := 26) rfl rfl (ti_lt rfl jk_0 (br_f (by omega) ?_))
                    refine x_iloadn (x := v54) rfl rfl ?_
                    refine x_sipush (v := 1200) rfl ks_1200 ?_
                    refine x_icge (tgt := 26) rfl rfl (ti_ge rfl jk_1200 ⟨fun c55 => ?_, fun c55 => ?_⟩)
                    ·
                      refine x_iconst (v := (-1)) rfl ki_m1 ?_
                      refine x_iret rfl rfl ?_
                      show jX m_X5_isNamed 5 0 0 15 [(0, .ref 70), (1, .int v49)] [.int (-1)] _ 0 0 _
                      refine x_iflt (tgt := 22) rfl rfl (ti_lt jk_m1 jk_0 (br_t (by omega) ?_))
                      refine x_iconst (v := 0) rfl ki_0 ?_
                      refine x_zret rfl rfl (by decide) ?_
                      show jX m_X7_namedSoul 6 0 0 8 [(0, .ref 78), (1, .int v49)] [.int 0] _ 0 0 _
                      refine x_ifeq (tgt := 19) rfl rfl (ti_eq jk_0 jk_0 (br_t (by omega) ?_))
                      refine x_iconst (v := (-1)) rfl ki_m1 ?_
                      refine x_iret rfl rfl ?_
                      show jX m_X7_parentOf 7 0 0 22 [(3, .int v47), (0, .ref 78), (1, .int v11), (2, .int 2)] [.int (-1)] _ 0 0 _
                      refine x_iret rfl rfl ?_
                      show jX m_X11_kin 8 0 0 69 [(5, .int v11), (0, .ref 31), (1, .int a1), (2, .int a2), (3, .int a3), (4, .int a4)] [.int (-1)] _ 0 0 _
                      refine x_iret rfl rfl ?_
                      exact hQ _ _ (jr_of jk_m1 (by omega)) J Sm
                    ·
                      refine x_aloadn (x := 70) rfl rfl ?_
                      refine z_getR (N := 9) (b := 76) 5 7 rfl f_5_28 rfl J rfl 8967 ⟨rfl, rfl⟩ rfl ?_
                      refine x_iloadn (x := v54) rfl rfl ?_
                      refine z_iald (N := 1200) rfl J rfl sg_76_0_1200_1_0_1 rfl (by omega) (fun v56 qv56 ev56 => ?_)
                      refine x_goto (tgt := 27) rfl rfl ?_
                      refine x_iret rfl rfl ?_
                      show jX m_X5_isNamed 5 0 0 15 [(0, .ref 70), (1, .int v49)] [.int v56] _ 0 0 _
                      refine x_iflt (tgt := 22) rfl rfl (ti_lt rfl jk_0 ⟨fun c57 => ?_, fun c57 => ?_⟩)
                      ·
                        refine x_iconst (v := 0) rfl ki_0 ?_
                        refine x_zret rfl rfl (by decide) ?_
                        show jX m_X7_namedSoul 6 0 0 8 [(0, .ref 78), (1, .int v49)] [.int 0] _ 0 0 _
                        refine x_ifeq (tgt := 19) rfl rfl (ti_eq jk_0 jk_0 (br_t (by omega) ?_))
                        refine x_iconst (v := (-1)) rfl ki_m1 ?_
                        refine x_iret rfl rfl ?_
                        show jX m_X7_parentOf 7 0 0 22 [(3, .int v47), (0, .ref 78), (1, .int v11), (2, .int 2)] [.int (-1)] _ 0 0 _
                        refine x_iret rfl rfl ?_
                        show jX m_X11_kin 8 0 0 69 [(5, .int v11), (0, .ref 31), (1, .int a1), (2, .int a2), (3, .int a3), (4, .int a4)] [.int (-1)] _ 0 0 _
                        refine x_iret rfl rfl ?_
                        exact hQ _ _ (jr_of jk_m1 (by omega)) J Sm
                      ·
                        refine x_iconst (v := 1) rfl ki_1 ?_
                        refine x_goto (tgt := 23) rfl rfl ?_
                        refine x_zret rfl rfl (by decide) ?_
                        show jX m_X7_namedSoul 6 0 0 8 [(0, .ref 78), (1, .int v49)] [.int 1] _ 0 0 _
                        refine x_ifeq (tgt := 19) rfl rfl (ti_eq jk_1 jk_0 (br_f (by omega) ?_))
                        refine x_aloadn (x := 78) rfl rfl ?_
                        refine x_iloadn (x := v49) rfl rfl ?_
                        refine x_inv (N := m_X7_soulAt) (As := [.int v49]) (b := 78) (st := []) (dx9 := 5) (mc := 0) (ms := 0) (host := "") 7 rfl t_X7_soulAt ⟨Or.inl q_7_153, i_X7_soulAt.1, i_X7_soulAt.2⟩ ⟨by decide, rfl⟩ (congrArg Prod.fst (J.1.1 78 (7, 16) rfl)) rfl (by decide) rfl rfl ⟨by decide, by decide⟩ (jC.of rfl k_X7_soulAt rfl ?_)
                        show jX m_X7_soulAt 5 0 0 0 [(0, .ref 78), (1, .int v49)] [] _ 0 0 _
                        refine x_iloadn (x := v49) rfl rfl ?_
                        refine x_iflt (tgt := 36) rfl rfl (ti_lt rfl jk_0 (br_f (by omega) ?_))
                        refine x_iloadn (x := v49) rfl rfl ?_
                        refine x_sipush (v := 600) rfl ks_600 ?_
                        refine x_icge (tgt := 36) rfl rfl (ti_ge rfl jk_600 ⟨fun c58 => ?_, fun c58 => ?_⟩)
                        ·
                          refine x_iconst (v := (-1)) rfl ki_m1 ?_
                          refine x_iret rfl rfl ?_
                          show jX m_X7_namedSoul 6 0 0 16 [(0, .ref 78), (1, .int v49)] [.int (-1)] _ 0 0 _
                          refine x_goto (tgt := 20) rfl rfl ?_
                          refine x_iret rfl rfl ?_
                          show jX m_X7_parentOf 7 0 0 22 [(3, .int v47), (0, .ref 78), (1, .int v11), (2, .int 2)] [.int (-1)] _ 0 0 _
                          refine x_iret rfl rfl ?_
                          show jX m_X11_kin 8 0 0 69 [(5, .int v11), (0, .ref 31), (1, .int a1), (2, .int a2), (3, .int a3), (4, .int a4)] [.int (-1)] _ 0 0 _
                          refine x_iret rfl rfl ?_
                          exact hQ _ _ (jr_of jk_m1 (by omega)) J Sm
                        ·
                          refine x_iloadn (x := v49) rfl rfl ?_
                          refine x_iconst (v := 3) rfl ki_3 ?_
                          refine z_idiv rfl rfl jk_3 (by omega) (by omega) (fun v59 ev59 => ?_)
                          refine x_aloadn (x := 78) rfl rfl ?_
                          refine z_getR (N := 16) (b := 32) 7 0 rfl f_7_55 rfl J rfl 9984 ⟨rfl, rfl⟩ rfl ?_
                          refine z_getR (N := 20) (b := 33) 1 0 rfl f_7_63 rfl J rfl 4096 ⟨rfl, rfl⟩ rfl ?_
                          refine z_getM (N := 4) (v := v6) 8 3 rfl f_7_85 rfl J rfl (jmc S46 rfl (jmc S10 rfl qv6)) ?_
                          refine x_icge (tgt := 36) rfl rfl (ti_ge rfl rfl ⟨fun c60 => ?_, fun c60 => ?_⟩)
                          ·
                            refine x_iconst (v := (-1)) rfl ki_m1 ?_
                            refine x_iret rfl rfl ?_
                            show jX m_X7_namedSoul 6 0 0 16 [(0, .ref 78), (1, .int v49)] [.int (-1)] _ 0 0 _
                            refine x_goto (tgt := 20) rfl rfl ?_
                            refine x_iret rfl rfl ?_
                            show jX m_X7_parentOf 7 0 0 22 [(3, .int v47), (0, .ref 78), (1, .int v11), (2, .int 2)] [.int (-1)] _ 0 0 _
                            refine x_iret rfl rfl ?_
                            show jX m_X11_kin 8 0 0 69 [(5, .int v11), (0, .ref 31), (1, .int a1), (2, .int a2), (3, .int a3), (4, .int a4)] [.int (-1)] _ 0 0 _
                            refine x_iret rfl rfl ?_
                            exact hQ _ _ (jr_of jk_m1 (by omega)) J Sm
                          ·
                            refine x_aloadn (x := 78) rfl rfl ?_
                            refine z_getR (N := 16) (b := 82) 7 10 rfl f_7_37 rfl J rfl 9994 ⟨rfl, rfl⟩ rfl ?_
                            refine x_iloadn (x := v49) rfl rfl ?_
                            refine z_iald (N := 600) rfl J rfl sg_82_0_600_1_0_1 rfl (by omega) (fun v61 qv61 ev61 => ?_)
                            refine x_goto (tgt := 37) rfl rfl ?_
                            refine x_iret rfl rfl ?_
                            show jX m_X7_namedSoul 6 0 0 16 [(0, .ref 78), (1, .int v49)] [.int v61] _ 0 0 _
                            refine x_goto (tgt := 20) rfl rfl ?_
                            refine x_iret rfl rfl ?_
                            show jX m_X7_parentOf 7 0 0 22 [(3, .int v47), (0, .ref 78), (1, .int v11), (2, .int 2)] [.int v61] _ 0 0 _
                            refine x_iret rfl rfl ?_
                            show jX m_X11_kin 8 0 0 69 [(5, .int v11), (0, .ref 31), (1, .int a1), (2, .int a2), (3, .int a3), (4, .int a4)] [.int v61] _ 0 0 _
                            refine x_iret rfl rfl ?_
                            exact hQ _ _ (jr_of rfl (by omega)) J Sm
                  ·
                    refine x_aloadn (x := 70) rfl rfl ?_
                    refine z_getR (N := 9) (b := 76) 5 7 rfl f_5_28 rfl J rfl 8967 ⟨rfl, rfl⟩ rfl ?_
                    refine x_iloadn (x := v51) rfl rfl ?_
                    refine z_iald (N := 1200) rfl J rfl sg_76_0_1200_1_0_1 rfl (by omega) (fun v62 qv62 ev62 => ?_)
                    refine x_goto (tgt := 27) rfl rfl ?_
                    refine x_iret rfl rfl ?_
                    show jX m_X5_isNamed 5 0 0 6 [(0, .ref 70), (1, .int v49)] [.int v62] _ 0 0 _
                    refine x_ifge (tgt := 18) rfl rfl (ti_ge rfl jk_0 ⟨fun c63 => ?_, fun c63 => ?_⟩)
                    ·
                      refine x_iconst (v := 1) rfl ki_1 ?_
                      refine x_goto (tgt := 23) rfl rfl ?_
                      refine x_zret rfl rfl (by decide) ?_
                      show jX m_X7_namedSoul 6 0 0 8 [(0, .ref 78), (1, .int v49)] [.int 1] _ 0 0 _
                      refine x_ifeq (tgt := 19) rfl rfl (ti_eq jk_1 jk_0 (br_f (by omega) ?_))
                      refine x_aloadn (x := 78) rfl rfl ?_
                      refine x_iloadn (x := v49) rfl rfl ?_
                      refine x_inv (N := m_X7_soulAt) (As := [.int v49]) (b := 78) (st := []) (dx9 := 5) (mc := 0) (ms := 0) (host := "") 7 rfl t_X7_soulAt ⟨Or.inl q_7_153, i_X7_soulAt.1, i_X7_soulAt.2⟩ ⟨by decide, rfl⟩ (congrArg Prod.fst (J.1.1 78 (7, 16) rfl)) rfl (by decide) rfl rfl ⟨by decide, by decide⟩ (jC.of rfl k_X7_soulAt rfl ?_)
                      show jX m_X7_soulAt 5 0 0 0 [(0, .ref 78), (1, .int v49)] [] _ 0 0 _
                      refine x_iloadn (x := v49) rfl rfl ?_
                      refine x_iflt (tgt := 36) rfl rfl (ti_lt rfl jk_0 (br_f (by omega) ?_))
                      refine x_iloadn (x := v49) rfl rfl ?_
                      refine x_sipush (v := 600) rfl ks_600 ?_
                      refine x_icge (tgt := 36) rfl rfl (ti_ge rfl jk_600 ⟨fun c64 => ?_, fun c64 => ?_⟩)
                      ·
                        refine x_iconst (v := (-1)) rfl ki_m1 ?_
                        refine x_iret rfl rfl ?_
                        show jX m_X7_namedSoul 6 0 0 16 [(0, .ref 78), (1, .int v49)] [.int (-1)] _ 0 0 _
                        refine x_goto (tgt := 20) rfl rfl ?_
                        refine x_iret rfl rfl ?_
                        show jX m_X7_parentOf 7 0 0 22 [(3, .int v47), (0, .ref 78), (1, .int v11), (2, .int 2)] [.int (-1)] _ 0 0 _
                        refine x_iret rfl rfl ?_
                        show jX m_X11_kin 8 0 0 69 [(5, .int v11), (0, .ref 31), (1, .int a1), (2, .int a2), (3, .int a3), (4, .int a4)] [.int (-1)] _ 0 0 _
                        refine x_iret rfl rfl ?_
                        exact hQ _ _ (jr_of jk_m1 (by omega)) J Sm
                      ·
                        refine x_iloadn (x := v49) rfl rfl ?_
                        refine x_iconst (v := 3) rfl ki_3 ?_
                        refine z_idiv rfl rfl jk_3 (by omega) (by omega) (fun v65 ev65 => ?_)
                        refine x_aloadn (x := 78) rfl rfl ?_
                        refine z_getR (N := 16) (b := 32) 7 0 rfl f_7_55 rfl J rfl 9984 ⟨rfl, rfl⟩ rfl ?_
                        refine z_getR (N := 20) (b := 33) 1 0 rfl f_7_63 rfl J rfl 4096 ⟨rfl, rfl⟩ rfl ?_
                        refine z_getM (N := 4) (v := v6) 8 3 rfl f_7_85 rfl J rfl (jmc S46 rfl (jmc S10 rfl qv6)) ?_
                        refine x_icge (tgt := 36) rfl rfl (ti_ge rfl rfl ⟨fun c66 => ?_, fun c66 => ?_⟩)
                        ·
                          refine x_iconst (v := (-1)) rfl ki_m1 ?_
                          refine x_iret rfl rfl ?_
                          show jX m_X7_namedSoul 6 0 0 16 [(0, .ref 78), (1, .int v49)] [.int (-1)] _ 0 0 _
                          refine x_goto (tgt := 20) rfl rfl ?_
                          refine x_iret rfl rfl ?_
                          show jX m_X7_parentOf 7 0 0 22 [(3, .int v47), (0, .ref 78), (1, .int v11), (2, .int 2)] [.int (-1)] _ 0 0 _
                          refine x_iret rfl rfl ?_
                          show jX m_X11_kin 8 0 0 69 [(5, .int v11), (0, .ref 31), (1, .int a1), (2, .int a2), (3, .int a3), (4, .int a4)] [.int (-1)] _ 0 0 _
                          refine x_iret rfl rfl ?_
                          exact hQ _ _ (jr_of jk_m1 (by omega)) J Sm
                        ·
                          refine x_aloadn (x := 78) rfl rfl ?_
                          refine z_getR (N := 16) (b := 82) 7 10 rfl f_7_37 rfl J rfl 9994 ⟨rfl, rfl⟩ rfl ?_
                          refine x_iloadn (x := v49) rfl rfl ?_
                          refine z_iald (N := 600) rfl J rfl sg_82_0_600_1_0_1 rfl (by omega) (fun v67 qv67 ev67 => ?_)
                          refine x_goto (tgt := 37) rfl rfl ?_
                          refine x_iret rfl rfl ?_
                          show jX m_X7_namedSoul 6 0 0 16 [(0, .ref 78), (1, .int v49)] [.int v67] _ 0 0 _
                          refine x_goto (tgt := 20) rfl rfl ?_
                          refine x_iret rfl rfl ?_
                          show jX m_X7_parentOf 7 0 0 22 [(3, .int v47), (0, .ref 78), (1, .int v11), (2, .int 2)] [.int v67] _ 0 0 _
                          refine x_iret rfl rfl ?_
                          show jX m_X11_kin 8 0 0 69 [(5, .int v11), (0, .ref 31), (1, .int a1), (2, .int a2), (3, .int a3), (4, .int a4)] [.int v67] _ 0 0 _
                          refine x_iret rfl rfl ?_
                          exact hQ _ _ (jr_of rfl (by omega)) J Sm
                    ·
                      refine x_aloadn (x := 70) rfl rfl ?_
                      refine x_iloadn (x := v49) rfl rfl ?_
                      refine x_iconst (v := 1) rfl ki_1 ?_
                      refine x_inv (N := m_X5_lengthOf) (As := [.int v49, .int 1]) (b := 70) (st := []) (dx9 := 4) (mc := 0) (ms := 0) (host := "") 5 rfl t_X5_lengthOf ⟨Or.inl q_5_133, i_X5_lengthOf.1, i_X5_lengthOf.2⟩ ⟨by decide, rfl⟩ (congrArg Prod.fst (J.1.1 70 (5, 9) rfl)) rfl (by decide) rfl rfl ⟨by decide, by decide⟩ (jC.of rfl k_X5_lengthOf rfl ?_)
                      show jX m_X5_lengthOf 4 0 0 0 [(0, .ref 70), (1, .int v49), (2, .int 1)] [] _ 0 0 _
                      refine x_iloadn (x := v49) rfl rfl ?_
                      refine x_iconst (v := 2) rfl ki_2 ?_
                      refine z_imul rfl rfl jk_2 (by omega) (fun v68 ev68 => ?_)
                      refine x_iloadn (x := 1) rfl rfl ?_
                      refine z_iadd rfl rfl jk_1 (by omega) (fun v69 ev69 => ?_)
                      refine x_istoren (lsx9 := [(3, .int v69), (0, .ref 70), (1, .int v49), (2, .int 1)]) rfl rfl rfl ?_
                      refine x_iloadn (x := v69) rfl rfl ?_
                      refine x_iflt (tgt := 26) rfl rfl (ti_lt rfl jk_0 (br_f (by omega) ?_))
                      refine x_iloadn (x := v69) rfl rfl ?_
                      refine x_sipush (v := 1200) rfl ks_1200 ?_
                      refine x_icge (tgt := 26) rfl rfl (ti_ge rfl jk_1200 ⟨fun c70 => ?_, fun c70 => ?_⟩)
                      ·
                        refine x_iconst (v := (-1)) rfl ki_m1 ?_
                        refine x_iret rfl rfl ?_
                        show jX m_X5_isNamed 5 0 0 15 [(0, .ref 70), (1, .int v49)] [.int (-1)] _ 0 0 _
                        refine x_iflt (tgt := 22) rfl rfl (ti_lt jk_m1 jk_0 (br_t (by omega) ?_))
                        refine x_iconst (v := 0) rfl ki_0 ?_
                        refine x_zret rfl rfl (by decide) ?_
                        show jX m_X7_namedSoul 6 0 0 8 [(0, .ref 78), (1, .int v49)] [.int 0] _ 0 0 _
                        refine x_ifeq (tgt := 19) rfl rfl (ti_eq jk_0 jk_0 (br_t (by omega) ?_))
                        refine x_iconst (v := (-1)) rfl ki_m1 ?_
                        refine x_iret rfl rfl ?_
                        show jX m_X7_parentOf 7 0 0 22 [(3, .int v47), (0, .ref 78), (1, .int v11), (2, .int 2)] [.int (-1)] _ 0 0 _
                        refine x_iret rfl rfl ?_
                        show jX m_X11_kin 8 0 0 69 [(5, .int v11), (0, .ref 31), (1, .int a1), (2, .int a2), (3, .int a3), (4, .int a4)] [.int (-1)] _ 0 0 _
                        refine x_iret rfl rfl ?_
                        exact hQ _ _ (jr_of jk_m1 (by omega)) J Sm
                      ·
                        refine x_aloadn (x := 70) rfl rfl ?_
                        refine z_getR (N := 9) (b := 76) 5 7 rfl f_5_28 rfl J rfl 8967 ⟨rfl, rfl⟩ rfl ?_
                        refine x_iloadn (x := v69) rfl rfl ?_
                        refine z_iald (N := 1200) rfl J rfl sg_76_0_1200_1_0_1 rfl (by omega) (fun v71 qv71 ev71 => ?_)
                        refine x_goto (tgt := 27) rfl rfl ?_
                        refine x_iret rfl rfl ?_
                        show jX m_X5_isNamed 5 0 0 15 [(0, .ref 70), (1, .int v49)] [.int v71] _ 0 0 _
                        refine x_iflt (tgt := 22) rfl rfl (ti_lt rfl jk_0 ⟨fun c72 => ?_, fun c72 => ?_⟩)
                        ·
                          refine x_iconst (v := 0) rfl ki_0 ?_
                          refine x_zret rfl rfl (by decide) ?_
                          show jX m_X7_namedSoul 6 0 0 8 [(0, .ref 78), (1, .int v49)] [.int 0] _ 0 0 _
                          refine x_ifeq (tgt := 19) rfl rfl (ti_eq jk_0 jk_0 (br_t (by omega) ?_))
                          refine x_iconst (v := (-1)) rfl ki_m1 ?_
                          refine x_iret rfl rfl ?_
                          show jX m_X7_parentOf 7 0 0 22 [(3, .int v47), (0, .ref 78), (1, .int v11), (2, .int 2)] [.int (-1)] _ 0 0 _
                          refine x_iret rfl rfl ?_
                          show jX m_X11_kin 8 0 0 69 [(5, .int v11), (0, .ref 31), (1, .int a1), (2, .int a2), (3, .int a3), (4, .int a4)] [.int (-1)] _ 0 0 _
                          refine x_iret rfl rfl ?_
                          exact hQ _ _ (jr_of jk_m1 (by omega)) J Sm
                        ·
                          refine x_iconst (v := 1) rfl ki_1 ?_
                          refine x_goto (tgt := 23) rfl rfl ?_
                          refine x_zret rfl rfl (by decide) ?_
                          show jX m_X7_namedSoul 6 0 0 8 [(0, .ref 78), (1, .int v49)] [.int 1] _ 0 0 _
                          refine x_ifeq (tgt := 19) rfl rfl (ti_eq jk_1 jk_0 (br_f (by omega) ?_))
                          refine x_aloadn (x := 78) rfl rfl ?_
                          refine x_iloadn (x := v49) rfl rfl ?_
                          refine x_inv (N := m_X7_soulAt) (As := [.int v49]) (b := 78) (st := []) (dx9 := 5) (mc := 0) (ms := 0) (host := "") 7 rfl t_X7_soulAt ⟨Or.inl q_7_153, i_X7_soulAt.1, i_X7_soulAt.2⟩ ⟨by decide, rfl⟩ (congrArg Prod.fst (J.1.1 78 (7, 16) rfl)) rfl (by decide) rfl rfl ⟨by decide, by decide⟩ (jC.of rfl k_X7_soulAt rfl ?_)
                          show jX m_X7_soulAt 5 0 0 0 [(0, .ref 78), (1, .int v49)] [] _ 0 0 _
                          refine x_iloadn (x := v49) rfl rfl ?_
                          refine x_iflt (tgt := 36) rfl rfl (ti_lt rfl jk_0 (br_f (by omega) ?_))
                          refine x_iloadn (x := v49) rfl rfl ?_
                          refine x_sipush (v := 600) rfl ks_600 ?_
                          refine x_icge (tgt := 36) rfl rfl (ti_ge rfl jk_600 ⟨fun c73 => ?_, fun c73 => ?_⟩)
                          ·
                            refine x_iconst (v := (-1)) rfl ki_m1 ?_
                            refine x_iret rfl rfl ?_
                            show jX m_X7_namedSoul 6 0 0 16 [(0, .ref 78), (1, .int v49)] [.int (-1)] _ 0 0 _
                            refine x_goto (tgt := 20) rfl rfl ?_
                            refine x_iret rfl rfl ?_
                            show jX m_X7_parentOf 7 0 0 22 [(3, .int v47), (0, .ref 78), (1, .int v11), (2, .int 2)] [.int (-1)] _ 0 0 _
                            refine x_iret rfl rfl ?_
                            show jX m_X11_kin 8 0 0 69 [(5, .int v11), (0, .ref 31), (1, .int a1), (2, .int a2), (3, .int a3), (4, .int a4)] [.int (-1)] _ 0 0 _
                            refine x_iret rfl rfl ?_
                            exact hQ _ _ (jr_of jk_m1 (by omega)) J Sm
                          ·
                            refine x_iloadn (x := v49) rfl rfl ?_
                            refine x_iconst (v := 3) rfl ki_3 ?_
                            refine z_idiv rfl rfl jk_3 (by omega) (by omega) (fun v74 ev74 => ?_)
                            refine x_aloadn (x := 78) rfl rfl ?_
                            refine z_getR (N := 16) (b := 32) 7 0 rfl f_7_55 rfl J rfl 9984 ⟨rfl, rfl⟩ rfl ?_
                            refine z_getR (N := 20) (b := 33) 1 0 rfl f_7_63 rfl J rfl 4096 ⟨rfl, rfl⟩ rfl ?_
                            refine z_getM (N := 4) (v := v6) 8 3 rfl f_7_85 rfl J rfl (jmc S46 rfl (jmc S10 rfl qv6)) ?_
                            refine x_icge (tgt := 36) rfl rfl (ti_ge rfl rfl ⟨fun c75 => ?_, fun c75 => ?_⟩)
                            ·
                              refine x_iconst (v := (-1)) rfl ki_m1 ?_
                              refine x_iret rfl rfl ?_
                              show jX m_X7_namedSoul 6 0 0 16 [(0, .ref 78), (1, .int v49)] [.int (-1)] _ 0 0 _
                              refine x_goto (tgt := 20) rfl rfl ?_
                              refine x_iret rfl rfl ?_
                              show jX m_X7_parentOf 7 0 0 22 [(3, .int v47), (0, .ref 78), (1, .int v11), (2, .int 2)] [.int (-1)] _ 0 0 _
                              refine x_iret rfl rfl ?_
                              show jX m_X11_kin 8 0 0 69 [(5, .int v11), (0, .ref 31), (1, .int a1), (2, .int a2), (3, .int a3), (4, .int a4)] [.int (-1)] _ 0 0 _
                              refine x_iret rfl rfl ?_
                              exact hQ _ _ (jr_of jk_m1 (by omega)) J Sm
                            ·
                              refine x_aloadn (x := 78) rfl rfl ?_
                              refine z_getR (N := 16) (b := 82) 7 10 rfl f_7_37 rfl J rfl 9994 ⟨rfl, rfl⟩ rfl ?_
                              refine x_iloadn (x := v49) rfl rfl ?_
                              refine z_iald (N := 600) rfl J rfl sg_82_0_600_1_0_1 rfl (by omega) (fun v76 qv76 ev76 => ?_)
                              refine x_goto (tgt := 37) rfl rfl ?_
                              refine x_iret rfl rfl ?_
                              show jX m_X7_namedSoul 6 0 0 16 [(0, .ref 78), (1, .int v49)] [.int v76] _ 0 0 _
                              refine x_goto (tgt := 20) rfl rfl ?_
                              refine x_iret rfl rfl ?_
                              show jX m_X7_parentOf 7 0 0 22 [(3, .int v47), (0, .ref 78), (1, .int v11), (2, .int 2)] [.int v76] _ 0 0 _
                              refine x_iret rfl rfl ?_
                              show jX m_X11_kin 8 0 0 69 [(5, .int v11), (0, .ref 31), (1, .int a1), (2, .int a2), (3, .int a3), (4, .int a4)] [.int v76] _ 0 0 _
                              refine x_iret rfl rfl ?_
                              exact hQ _ _ (jr_of rfl (by omega)) J Sm
                ·
                  refine x_iconst (v := (-1)) rfl ki_m1 ?_
                  refine x_goto (tgt := 22) rfl rfl ?_
                  refine x_iret rfl rfl ?_
                  show jX m_X11_kin 8 0 0 69 [(5, .int v11), (0, .ref 31), (1, .int a1), (2, .int a2), (3, .int a3), (4, .int a4)] [.int (-1)] _ 0 0 _
                  refine x_iret rfl rfl ?_
                  exact hQ _ _ (jr_of jk_m1 (by omega)) J Sm
              by_cases c77 : a3.toInt = 2
              ·
                refine x_tableIn (tgt := 70) 2 rfl c77 (by decide) (by decide) rfl rfl ?_
                refine x_aloadn (x := 31) rfl rfl ?_
                refine z_getR (N := 13) (b := 78) 11 4 rfl f_11_41 rfl J rfl 3972 ⟨rfl, rfl⟩ rfl ?_
                refine x_iload (x := v11) rfl rfl ?_
                refine x_iload (x := a4) rfl rfl ?_
                refine x_inv (N := m_X7_childOf) (As := [.int v11, .int a4]) (b := 78) (st := []) (dx9 := 3) (mc := 0) (ms := 0) (host := "") 7 rfl t_X7_childOf ⟨Or.inl q_11_258, i_X7_childOf.1, i_X7_childOf.2⟩ ⟨by decide, rfl⟩ (congrArg Prod.fst (J.1.1 78 (7, 16) rfl)) rfl (by decide) rfl rfl ⟨by decide, by decide⟩ (sf_X7_childOf_r78 (jr_of rfl (by omega)) hD J  (fun v79 h ev79 J S78 => ?_))
                have Sm := jSm_tr rfl Sm S78
                show jX m_X11_kin 8 0 0 81 [(5, .int v11), (0, .ref 31), (1, .int a1), (2, .int a2), (3, .int a3), (4, .int a4)] [.int v79] _ 0 0 _
                refine x_iret rfl rfl ?_
                exact hQ _ _ (jr_of rfl (by omega)) J Sm
              by_cases c80 : a3.toInt = 3
              ·
                refine x_tableIn (tgt := 82) 3 rfl c80 (by decide) (by decide) rfl rfl ?_
                refine x_aloadn (x := 31) rfl rfl ?_
                refine z_getR (N := 13) (b := 78) 11 4 rfl f_11_41 rfl J rfl 3972 ⟨rfl, rfl⟩ rfl ?_
                refine x_iload (x := v11) rfl rfl ?_
                refine x_iload (x := a4) rfl rfl ?_
                refine x_inv (N := m_X7_spouseOf) (As := [.int v11, .int a4]) (b := 78) (st := []) (dx9 := 4) (mc := 0) (ms := 0) (host := "") 7 rfl t_X7_spouseOf ⟨Or.inl q_11_261, i_X7_spouseOf.1, i_X7_spouseOf.2⟩ ⟨by decide, rfl⟩ (congrArg Prod.fst (J.1.1 78 (7, 16) rfl)) rfl (by decide) rfl rfl ⟨by decide, by decide⟩ (sf_X7_spouseOf_r78 (jr_of rfl (by omega)) hD J  (fun v82 h ev82 J S81 => ?_))
                have Sm := jSm_tr rfl Sm S81
                show jX m_X11_kin 8 0 0 93 [(5, .int v11), (0, .ref 31), (1, .int a1), (2, .int a2), (3, .int a3), (4, .int a4)] [.int v82] _ 0 0 _
                refine x_iret rfl rfl ?_
                exact hQ _ _ (jr_of rfl (by omega)) J Sm
              refine x_tableOut (tgt := 94) rfl (by omega) rfl ?_
              refine x_iconst (v := (-1)) rfl ki_m1 ?_
              refine x_iret rfl rfl ?_
              exact hQ _ _ (jr_of jk_m1 (by omega)) J Sm
            ·
              refine x_iconst (v := (-1)) rfl ki_m1 ?_
              refine x_iret rfl rfl ?_
              exact hQ _ _ (jr_of jk_m1 (by omega)) J Sm
def fp_X8_put_r53_c0 : jFp := [(54, 0, 160)]
set_option maxRecDepth 100000 in
set_option maxHeartbeats 4000000 in
theorem ct_X8_put_r53_c0_38 {Dy : jH → Prop} {h0 : jH} {Q : Option Value → jH → Prop} (hD : jDk Dy) (hQ : ∀ hx9, jJ jSgX Dy hx9 → jSm fp_X8_put_r53_c0 h0 hx9 → Q none hx9) : ∀ (h : jH), jJ jSgX Dy h → jSm fp_X8_put_r53_c0 h0 h → jX m_X8_put 1 0 0 38 [] [] h 0 0 Q := by
  intro  h    J Sm
  refine x_vret rfl rfl ?_
  exact hQ _ J Sm
set_option maxRecDepth 100000 in
set_option maxHeartbeats 4000000 in
theorem sf_X8_put_r53_c0 {Dy : jH → Prop} {h : jH} {Q : Option Value → jH → Prop} {a1 : Int32} {a3 : Int32} (y1 : 0 ≤ a1.toInt ∧ a1.toInt ≤ 39) (y3 : 0 ≤ a3.toInt ∧ a3.toInt ≤ 146399) (hD : jDk Dy) (J : jJ jSgX Dy h) (hQ : ∀ hx9, jJ jSgX Dy hx9 → jSm fp_X8_put_r53_c0 h hx9 → Q none hx9) : jC m_X8_put 1 0 0 [.ref 53, .int a1, .int 0, .int a3] h Q := by
  refine jC.of rfl k_X8_put rfl ?_
  have Sm := jSm_rf fp_X8_put_r53_c0 h
  show jX m_X8_put 1 0 0 0 [(0, .ref 53), (1, .int a1), (2, .int 0), (3, .int a3)] [] _ 0 0 _
  refine x_iloadn (x := a1) rfl rfl ?_
  refine x_iflt (tgt := 38) rfl rfl (ti_lt rfl jk_0 (br_f (by omega) ?_))
  refine x_iloadn (x := a1) rfl rfl ?_
  refine x_aloadn (x := 53) rfl rfl ?_
  refine z_getI (N := 4) 8 3 rfl f_8_7 rfl J rfl sg_53_3_4_1_0_1 (fun v1 qv1 ev1 => ?_)
  refine x_icge (tgt := 38) rfl rfl (ti_ge rfl rfl ⟨fun c2 => ?_, fun c2 => ?_⟩)
  ·
    exact jX.sub jsb_n (ct_X8_put_r53_c0_38 hD hQ  h J Sm)
  ·
    refine x_iloadn (x := 0) rfl rfl ?_
    refine x_iflt (tgt := 38) rfl rfl (ti_lt jk_0 jk_0 (br_f (by omega) ?_))
    refine x_iloadn (x := 0) rfl rfl ?_
    refine x_aloadn (x := 53) rfl rfl ?_
    refine z_getC (N := 4) (v := 4) 8 0 rfl f_8_19 rfl J rfl sg_53_0_1_1_0_1 jk_4 ?_
    refine x_icge (tgt := 38) rfl rfl (ti_ge jk_0 jk_4 (br_f (by omega) ?_))
    refine x_aloadn (x := 53) rfl rfl ?_
    refine z_getR (N := 4) (b := 54) 8 2 rfl f_8_25 rfl J rfl 6786 ⟨rfl, rfl⟩ rfl ?_
    refine x_iloadn (x := a1) rfl rfl ?_
    refine x_aloadn (x := 53) rfl rfl ?_
    refine z_getC (N := 4) (v := 4) 8 0 rfl f_8_19 rfl J rfl sg_53_0_1_1_0_1 jk_4 ?_
    refine z_imul rfl rfl jk_4 (by omega) (fun v3 ev3 => ?_)
    refine x_iloadn (x := 0) rfl rfl ?_
    refine z_iadd rfl rfl jk_0 (by omega) (fun v4 ev4 => ?_)
    refine x_iloadn (x := a3) rfl rfl ?_
    refine z_iast (N := 160) (l := 0) (u := 160) (w := a3.toInt) rfl hD J Sm rfl rfl rfl (by omega) rfl (wr_54 (fun q1 q2 q3 q4 => by omega) (fun q1 q2 q3 q4 => by omega) (fun q1 q2 q3 q4 => by omega) (fun q1 q2 q3 q4 => by omega)) rfl (fun h w5 J Sm => ?_)
    exact jX.sub jsb_n (ct_X8_put_r53_c0_38 hD hQ  h J Sm)
def fp_X8_put_r53_c1 : jFp := [(54, 0, 160)]
set_option maxRecDepth 100000 in
set_option maxHeartbeats 4000000 in
theorem ct_X8_put_r53_c1_38 {Dy : jH → Prop} {h0 : jH} {Q : Option Value → jH → Prop} (hD : jDk Dy) (hQ : ∀ hx9, jJ jSgX Dy hx9 → jSm fp_X8_put_r53_c1 h0 hx9 → Q none hx9) : ∀ (h : jH), jJ jSgX Dy h → jSm fp_X8_put_r53_c1 h0 h → jX m_X8_put 1 0 0 38 [] [] h 0 0 Q := by
  intro  h    J Sm
  refine x_vret rfl rfl ?_
  exact hQ _ J Sm
set_option maxRecDepth 100000 in
set_option maxHeartbeats 4000000 in
theorem sf_X8_put_r53_c1 {Dy : jH → Prop} {h : jH} {Q : Option Value → jH → Prop} {a1 : Int32} {a3 : Int32} (y1 : 0 ≤ a1.toInt ∧ a1.toInt ≤ 39) (y3 : 0 ≤ a3.toInt ∧ a3.toInt ≤ 399) (hD : jDk Dy) (J : jJ jSgX Dy h) (hQ : ∀ hx9, jJ jSgX Dy hx9 → jSm fp_X8_put_r53_c1 h hx9 → Q none hx9) : jC m_X8_put 1 0 0 [.ref 53, .int a1, .int 1, .int a3] h Q := by
  refine jC.of rfl k_X8_put rfl ?_
  have Sm := jSm_rf fp_X8_put_r53_c1 h
  show jX m_X8_put 1 0 0 0 [(0, .ref 53), (1, .int a1), (2, .int 1), (3, .int a3)] [] _ 0 0 _
  refine x_iloadn (x := a1) rfl rfl ?_
  refine x_iflt (tgt := 38) rfl rfl (ti_lt rfl jk_0 (br_f (by omega) ?_))
  refine x_iloadn (x := a1) rfl rfl ?_
  refine x_aloadn (x := 53) rfl rfl ?_
  refine z_getI (N := 4) 8 3 rfl f_8_7 rfl J rfl sg_53_3_4_1_0_1 (fun v1 qv1 ev1 => ?_)
  refine x_icge (tgt := 38) rfl rfl (ti_ge rfl rfl ⟨fun c2 => ?_, fun c2 => ?_⟩)
  ·
    exact jX.sub jsb_n (ct_X8_put_r53_c1_38 hD hQ  h J Sm)
  ·
    refine x_iloadn (x := 1) rfl rfl ?_
    refine x_iflt (tgt := 38) rfl rfl (ti_lt jk_1 jk_0 (br_f (by omega) ?_))
    refine x_iloadn (x := 1) rfl rfl ?_
    refine x_aloadn (x := 53) rfl rfl ?_
    refine z_getC (N := 4) (v := 4) 8 0 rfl f_8_19 rfl J rfl sg_53_0_1_1_0_1 jk_4 ?_
    refine x_icge (tgt := 38) rfl rfl (ti_ge jk_1 jk_4 (br_f (by omega) ?_))
    refine x_aloadn (x := 53) rfl rfl ?_
    refine z_getR (N := 4) (b := 54) 8 2 rfl f_8_25 rfl J rfl 6786 ⟨rfl, rfl⟩ rfl ?_
    refine x_iloadn (x := a1) rfl rfl ?_
    refine x_aloadn (x := 53) rfl rfl ?_
    refine z_getC (N := 4) (v := 4) 8 0 rfl f_8_19 rfl J rfl sg_53_0_1_1_0_1 jk_4 ?_
    refine z_imul rfl rfl jk_4 (by omega) (fun v3 ev3 => ?_)
    refine x_iloadn (x := 1) rfl rfl ?_
    refine z_iadd rfl rfl jk_1 (by omega) (fun v4 ev4 => ?_)
    refine x_iloadn (x := a3) rfl rfl ?_
    refine z_iast (N := 160) (l := 0) (u := 160) (w := a3.toInt) rfl hD J Sm rfl rfl rfl (by omega) rfl (wr_54 (fun q1 q2 q3 q4 => by omega) (fun q1 q2 q3 q4 => by omega) (fun q1 q2 q3 q4 => by omega) (fun q1 q2 q3 q4 => by omega)) rfl (fun h w5 J Sm => ?_)
    exact jX.sub jsb_n (ct_X8_put_r53_c1_38 hD hQ  h J Sm)
def fp_X8_put_r53_c2 : jFp := [(54, 0, 160)]
set_option maxRecDepth 100000 in
set_option maxHeartbeats 4000000 in
theorem ct_X8_put_r53_c2_38 {Dy : jH → Prop} {h0 : jH} {Q : Option Value → jH → Prop} (hD : jDk Dy) (hQ : ∀ hx9, jJ jSgX Dy hx9 → jSm fp_X8_put_r53_c2 h0 hx9 → Q none hx9) : ∀ (h : jH), jJ jSgX Dy h → jSm fp_X8_put_r53_c2 h0 h → jX m_X8_put 1 0 0 38 [] [] h 0 0 Q := by
  intro  h    J Sm
  refine x_vret rfl rfl ?_
  exact hQ _ J Sm
set_option maxRecDepth 100000 in
set_option maxHeartbeats 4000000 in
theorem sf_X8_put_r53_c2 {Dy : jH → Prop} {h : jH} {Q : Option Value → jH → Prop} {a1 : Int32} {a3 : Int32} (y1 : 0 ≤ a1.toInt ∧ a1.toInt ≤ 39) (y3 : 0 ≤ a3.toInt ∧ a3.toInt ≤ 2) (hD : jDk Dy) (J : jJ jSgX Dy h) (hQ : ∀ hx9, jJ jSgX Dy hx9 → jSm fp_X8_put_r53_c2 h hx9 → Q none hx9) : jC m_X8_put 1 0 0 [.ref 53, .int a1, .int 2, .int a3] h Q := by
  refine jC.of rfl k_X8_put rfl ?_
  have Sm := jSm_rf fp_X8_put_r53_c2 h
  show jX m_X8_put 1 0 0 0 [(0, .ref 53), (1, .int a1), (2, .int 2), (3, .int a3)] [] _ 0 0 _
  refine x_iloadn (x := a1) rfl rfl ?_
  refine x_iflt (tgt := 38) rfl rfl (ti_lt rfl jk_0 (br_f (by omega) ?_))
  refine x_iloadn (x := a1) rfl rfl ?_
  refine x_aloadn (x := 53) rfl rfl ?_
  refine z_getI (N := 4) 8 3 rfl f_8_7 rfl J rfl sg_53_3_4_1_0_1 (fun v1 qv1 ev1 => ?_)
  refine x_icge (tgt := 38) rfl rfl (ti_ge rfl rfl ⟨fun c2 => ?_, fun c2 => ?_⟩)
  ·
    exact jX.sub jsb_n (ct_X8_put_r53_c2_38 hD hQ  h J Sm)
  ·
    refine x_iloadn (x := 2) rfl rfl ?_
    refine x_iflt (tgt := 38) rfl rfl (ti_lt jk_2 jk_0 (br_f (by omega) ?_))
    refine x_iloadn (x := 2) rfl rfl ?_
    refine x_aloadn (x := 53) rfl rfl ?_
    refine z_getC (N := 4) (v := 4) 8 0 rfl f_8_19 rfl J rfl sg_53_0_1_1_0_1 jk_4 ?_
    refine x_icge (tgt := 38) rfl rfl (ti_ge jk_2 jk_4 (br_f (by omega) ?_))
    refine x_aloadn (x := 53) rfl rfl ?_
    refine z_getR (N := 4) (b := 54) 8 2 rfl f_8_25 rfl J rfl 6786 ⟨rfl, rfl⟩ rfl ?_
    refine x_iloadn (x := a1) rfl rfl ?_
    refine x_aloadn (x := 53) rfl rfl ?_
    refine z_getC (N := 4) (v := 4) 8 0 rfl f_8_19 rfl J rfl sg_53_0_1_1_0_1 jk_4 ?_
    refine z_imul rfl rfl jk_4 (by omega) (fun v3 ev3 => ?_)
    refine x_iloadn (x := 2) rfl rfl ?_
    refine z_iadd rfl rfl jk_2 (by omega) (fun v4 ev4 => ?_)
    refine x_iloadn (x := a3) rfl rfl ?_
    refine z_iast (N := 160) (l := 0) (u := 160) (w := a3.toInt) rfl hD J Sm rfl rfl rfl (by omega) rfl (wr_54 (fun q1 q2 q3 q4 => by omega) (fun q1 q2 q3 q4 => by omega) (fun q1 q2 q3 q4 => by omega) (fun q1 q2 q3 q4 => by omega)) rfl (fun h w5 J Sm => ?_)
    exact jX.sub jsb_n (ct_X8_put_r53_c2_38 hD hQ  h J Sm)
def fp_X8_put_r53_c3 : jFp := [(54, 0, 160)]
set_option maxRecDepth 100000 in
set_option maxHeartbeats 4000000 in
theorem ct_X8_put_r53_c3_38 {Dy : jH → Prop} {h0 : jH} {Q : Option Value → jH → Prop} (hD : jDk Dy) (hQ : ∀ hx9, jJ jSgX Dy hx9 → jSm fp_X8_put_r53_c3 h0 hx9 → Q none hx9) : ∀ (h : jH), jJ jSgX Dy h → jSm fp_X8_put_r53_c3 h0 h → jX m_X8_put 1 0 0 38 [] [] h 0 0 Q := by
  intro  h    J Sm
  refine x_vret rfl rfl ?_
  exact hQ _ J Sm
set_option maxRecDepth 100000 in
set_option maxHeartbeats 4000000 in
theorem sf_X8_put_r53_c3 {Dy : jH → Prop} {h : jH} {Q : Option Value → jH → Prop} {a1 : Int32} {a3 : Int32} (y1 : 0 ≤ a1.toInt ∧ a1.toInt ≤ 39) (y3 : 0 ≤ a3.toInt ∧ a3.toInt ≤ 1000000) (hD : jDk Dy) (J : jJ jSgX Dy h) (hQ : ∀ hx9, jJ jSgX Dy hx9 → jSm fp_X8_put_r53_c3 h hx9 → Q none hx9) : jC m_X8_put 1 0 0 [.ref 53, .int a1, .int 3, .int a3] h Q := by
  refine jC.of rfl k_X8_put rfl ?_
  have Sm := jSm_rf fp_X8_put_r53_c3 h
  show jX m_X8_put 1 0 0 0 [(0, .ref 53), (1, .int a1), (2, .int 3), (3, .int a3)] [] _ 0 0 _
  refine x_iloadn (x := a1) rfl rfl ?_
  refine x_iflt (tgt := 38) rfl rfl (ti_lt rfl jk_0 (br_f (by omega) ?_))
  refine x_iloadn (x := a1) rfl rfl ?_
  refine x_aloadn (x := 53) rfl rfl ?_
  refine z_getI (N := 4) 8 3 rfl f_8_7 rfl J rfl sg_53_3_4_1_0_1 (fun v1 qv1 ev1 => ?_)
  refine x_icge (tgt := 38) rfl rfl (ti_ge rfl rfl ⟨fun c2 => ?_, fun c2 => ?_⟩)
  ·
    exact jX.sub jsb_n (ct_X8_put_r53_c3_38 hD hQ  h J Sm)
  ·
    refine x_iloadn (x := 3) rfl rfl ?_
    refine x_iflt (tgt := 38) rfl rfl (ti_lt jk_3 jk_0 (br_f (by omega) ?_))
    refine x_iloadn (x := 3) rfl rfl ?_
    refine x_aloadn (x := 53) rfl rfl ?_
    refine z_getC (N := 4) (v := 4) 8 0 rfl f_8_19 rfl J rfl sg_53_0_1_1_0_1 jk_4 ?_
    refine x_icge (tgt := 38) rfl rfl (ti_ge jk_3 jk_4 (br_f (by omega) ?_))
    refine x_aloadn (x := 53) rfl rfl ?_
    refine z_getR (N := 4) (b := 54) 8 2 rfl f_8_25 rfl J rfl 6786 ⟨rfl, rfl⟩ rfl ?_
    refine x_iloadn (x := a1) rfl rfl ?_
    refine x_aloadn (x := 53) rfl rfl ?_
    refine z_getC (N := 4) (v := 4) 8 0 rfl f_8_19 rfl J rfl sg_53_0_1_1_0_1 jk_4 ?_
    refine z_imul rfl rfl jk_4 (by omega) (fun v3 ev3 => ?_)
    refine x_iloadn (x := 3) rfl rfl ?_
    refine z_iadd rfl rfl jk_3 (by omega) (fun v4 ev4 => ?_)
    refine x_iloadn (x := a3) rfl rfl ?_
    refine z_iast (N := 160) (l := 0) (u := 160) (w := a3.toInt) rfl hD J Sm rfl rfl rfl (by omega) rfl (wr_54 (fun q1 q2 q3 q4 => by omega) (fun q1 q2 q3 q4 => by omega) (fun q1 q2 q3 q4 => by omega) (fun q1 q2 q3 q4 => by omega)) rfl (fun h w5 J Sm => ?_)
    exact jX.sub jsb_n (ct_X8_put_r53_c3_38 hD hQ  h J Sm)
def fp_X8_put_r53_c4 : jFp := []
set_option maxRecDepth 100000 in
set_option maxHeartbeats 4000000 in
theorem ct_X8_put_r53_c4_38 {Dy : jH → Prop} {h0 : jH} {Q : Option Value → jH → Prop} (hD : jDk Dy) (hQ : ∀ hx9, jJ jSgX Dy hx9 → jSm fp_X8_put_r53_c4 h0 hx9 → Q none hx9) : ∀ (h : jH), jJ jSgX Dy h → jSm fp_X8_put_r53_c4 h0 h → jX m_X8_put 1 0 0 38 [] [] h 0 0 Q := by
  intro  h    J Sm
  refine x_vret rfl rfl ?_
  exact hQ _ J Sm
set_option maxRecDepth 100000 in
set_option maxHeartbeats 4000000 in
theorem sf_X8_put_r53_c4 {Dy : jH → Prop} {h : jH} {Q : Option Value → jH → Prop} {a1 : Int32} {a3 : Int32} (y1 : 0 ≤ a1.toInt ∧ a1.toInt ≤ 39) (y3 : 0 ≤ a3.toInt ∧ a3.toInt ≤ 0) (hD : jDk Dy) (J : jJ jSgX Dy h) (hQ : ∀ hx9, jJ jSgX Dy hx9 → jSm fp_X8_put_r53_c4 h hx9 → Q none hx9) : jC m_X8_put 1 0 0 [.ref 53, .int a1, .int 4, .int a3] h Q := by
  refine jC.of rfl k_X8_put rfl ?_
  have Sm := jSm_rf fp_X8_put_r53_c4 h
  show jX m_X8_put 1 0 0 0 [(0, .ref 53), (1, .int a1), (2, .int 4), (3, .int a3)] [] _ 0 0 _
  refine x_iloadn (x := a1) rfl rfl ?_
  refine x_iflt (tgt := 38) rfl rfl (ti_lt rfl jk_0 (br_f (by omega) ?_))
  refine x_iloadn (x := a1) rfl rfl ?_
  refine x_aloadn (x := 53) rfl rfl ?_
  refine z_getI (N := 4) 8 3 rfl f_8_7 rfl J rfl sg_53_3_4_1_0_1 (fun v1 qv1 ev1 => ?_)
  refine x_icge (tgt := 38) rfl rfl (ti_ge rfl rfl ⟨fun c2 => ?_, fun c2 => ?_⟩)
  ·
    exact jX.sub jsb_n (ct_X8_put_r53_c4_38 hD hQ  h J Sm)
  ·
    refine x_iloadn (x := 4) rfl rfl ?_
    refine x_iflt (tgt := 38) rfl rfl (ti_lt jk_4 jk_0 (br_f (by omega) ?_))
    refine x_iloadn (x := 4) rfl rfl ?_
    refine x_aloadn (x := 53) rfl rfl ?_
    refine z_getC (N := 4) (v := 4) 8 0 rfl f_8_19 rfl J rfl sg_53_0_1_1_0_1 jk_4 ?_
    refine x_icge (tgt := 38) rfl rfl (ti_ge jk_4 jk_4 (br_t (by omega) ?_))
    exact jX.sub jsb_n (ct_X8_put_r53_c4_38 hD hQ  h J Sm)
def fp_X8_put_r53_c5 : jFp := []
set_option maxRecDepth 100000 in
set_option maxHeartbeats 4000000 in
theorem ct_X8_put_r53_c5_38 {Dy : jH → Prop} {h0 : jH} {Q : Option Value → jH → Prop} (hD : jDk Dy) (hQ : ∀ hx9, jJ jSgX Dy hx9 → jSm fp_X8_put_r53_c5 h0 hx9 → Q none hx9) : ∀ (h : jH), jJ jSgX Dy h → jSm fp_X8_put_r53_c5 h0 h → jX m_X8_put 1 0 0 38 [] [] h 0 0 Q := by
  intro  h    J Sm
  refine x_vret rfl rfl ?_
  exact hQ _ J Sm
set_option maxRecDepth 100000 in
set_option maxHeartbeats 4000000 in
theorem sf_X8_put_r53_c5 {Dy : jH → Prop} {h : jH} {Q : Option Value → jH → Prop} {a1 : Int32} {a3 : Int32} (y1 : 0 ≤ a1.toInt ∧ a1.toInt ≤ 39) (y3 : 0 ≤ a3.toInt ∧ a3.toInt ≤ 0) (hD : jDk Dy) (J : jJ jSgX Dy h) (hQ : ∀ hx9, jJ jSgX Dy hx9 → jSm fp_X8_put_r53_c5 h hx9 → Q none hx9) : jC m_X8_put 1 0 0 [.ref 53, .int a1, .int 5, .int a3] h Q := by
  refine jC.of rfl k_X8_put rfl ?_
  have Sm := jSm_rf fp_X8_put_r53_c5 h
  show jX m_X8_put 1 0 0 0 [(0, .ref 53), (1, .int a1), (2, .int 5), (3, .int a3)] [] _ 0 0 _
  refine x_iloadn (x := a1) rfl rfl ?_
  refine x_iflt (tgt := 38) rfl rfl (ti_lt rfl jk_0 (br_f (by omega) ?_))
  refine x_iloadn (x := a1) rfl rfl ?_
  refine x_aloadn (x := 53) rfl rfl ?_
  refine z_getI (N := 4) 8 3 rfl f_8_7 rfl J rfl sg_53_3_4_1_0_1 (fun v1 qv1 ev1 => ?_)
  refine x_icge (tgt := 38) rfl rfl (ti_ge rfl rfl ⟨fun c2 => ?_, fun c2 => ?_⟩)
  ·
    exact jX.sub jsb_n (ct_X8_put_r53_c5_38 hD hQ  h J Sm)
  ·
    refine x_iloadn (x := 5) rfl rfl ?_
    refine x_iflt (tgt := 38) rfl rfl (ti_lt jk_5 jk_0 (br_f (by omega) ?_))
    refine x_iloadn (x := 5) rfl rfl ?_
    refine x_aloadn (x := 53) rfl rfl ?_
    refine z_getC (N := 4) (v := 4) 8 0 rfl f_8_19 rfl J rfl sg_53_0_1_1_0_1 jk_4 ?_
    refine x_icge (tgt := 38) rfl rfl (ti_ge jk_5 jk_4 (br_t (by omega) ?_))
    exact jX.sub jsb_n (ct_X8_put_r53_c5_38 hD hQ  h J Sm)
def fp_X8_add_r53 : jFp := [(53, 3, 4), (54, 0, 160)]
set_option maxRecDepth 100000 in
set_option maxHeartbeats 4000000 in
theorem sf_X8_add_r53 {Dy : jH → Prop} {h : jH} {Q : Option Value → jH → Prop} {a1 : Int32} {a2 : Int32} {a3 : Int32} {a4 : Int32} {a5 : Int32} {a6 : Int32} (y1 : 0 ≤ a1.toInt ∧ a1.toInt ≤ 146399) (y2 : 0 ≤ a2.toInt ∧ a2.toInt ≤ 399) (y3 : 0 ≤ a3.toInt ∧ a3.toInt ≤ 2) (y4 : 0 ≤ a4.toInt ∧ a4.toInt ≤ 1000000) (y5 : 0 ≤ a5.toInt ∧ a5.toInt ≤ 0) (y6 : 0 ≤ a6.toInt ∧ a6.toInt ≤ 0) (hD : jDk Dy) (J : jJ jSgX Dy h) (hQ : ∀ hx9, jJ jSgX Dy hx9 → jSm fp_X8_add_r53 h hx9 → Q none hx9) : jC m_X8_add 2 0 0 [.ref 53, .int a1, .int a2, .int a3, .int a4, .int a5, .int a6] h Q := by
  refine jC.of rfl k_X8_add rfl ?_
  have Sm := jSm_rf fp_X8_add_r53 h
  show jX m_X8_add 2 0 0 0 [(0, .ref 53), (1, .int a1), (2, .int a2), (3, .int a3), (4, .int a4), (5, .int a5), (6, .int a6)] [] _ 0 0 _
  refine x_aloadn (x := 53) rfl rfl ?_
  refine z_getI (N := 4) 8 3 rfl f_8_7 rfl J rfl sg_53_3_4_1_0_1 (fun v1 qv1 ev1 => ?_)
  refine x_aloadn (x := 53) rfl rfl ?_
  refine z_getC (N := 4) (v := 40) 8 1 rfl f_8_22 rfl J rfl sg_53_1_2_1_0_1 jk_40 ?_
  refine x_iclt (tgt := 12) rfl rfl (ti_lt rfl jk_40 ⟨fun c2 => ?_, fun c2 => ?_⟩)
  ·
    refine x_aloadn (x := 53) rfl rfl ?_
    refine z_getM (N := 4) (v := v1) 8 3 rfl f_8_7 rfl J rfl qv1 ?_
    refine x_istore (lsx9 := [(7, .int v1), (0, .ref 53), (1, .int a1), (2, .int a2), (3, .int a3), (4, .int a4), (5, .int a5), (6, .int a6)]) rfl rfl rfl ?_
    refine x_aloadn (x := 53) rfl rfl ?_
    refine x_iload (x := v1) rfl rfl ?_
    refine x_iconst (v := 1) rfl ki_1 ?_
    refine z_iadd rfl rfl jk_1 (by omega) (fun v3 ev3 => ?_)
    refine z_putI (N := 4) (w := v3.toInt) 8 3 rfl f_8_7 rfl (jfin_no TX8 RX8 4 rfl rfl) hD J Sm rfl rfl rfl (pw_53_3 (by omega)) rfl (fun h w4 J Sm => ?_)
    refine x_aloadn (x := 53) rfl rfl ?_
    refine x_iload (x := v1) rfl rfl ?_
    refine x_iconst (v := 0) rfl ki_0 ?_
    refine x_iloadn (x := a1) rfl rfl ?_
    refine x_inv (N := m_X8_put) (As := [.int v1, .int 0, .int a1]) (b := 53) (st := []) (dx9 := 1) (mc := 0) (ms := 0) (host := "") 8 rfl t_X8_put ⟨Or.inl q_8_29, i_X8_put.1, i_X8_put.2⟩ ⟨by decide, rfl⟩ (congrArg Prod.fst (J.1.1 53 (8, 4) rfl)) rfl (by decide) rfl rfl ⟨by decide, by decide⟩ (sf_X8_put_r53_c0 (jr_of rfl (by omega)) (jr_of rfl (by omega)) hD J  (fun h J S5 => ?_))
    have Sm := jSm_tr rfl Sm S5
    show jX m_X8_add 2 0 0 34 [(7, .int v1), (0, .ref 53), (1, .int a1), (2, .int a2), (3, .int a3), (4, .int a4), (5, .int a5), (6, .int a6)] [] _ 0 0 _
    refine x_aloadn (x := 53) rfl rfl ?_
    refine x_iload (x := v1) rfl rfl ?_
    refine x_iconst (v := 1) rfl ki_1 ?_
    refine x_iloadn (x := a2) rfl rfl ?_
    refine x_inv (N := m_X8_put) (As := [.int v1, .int 1, .int a2]) (b := 53) (st := []) (dx9 := 1) (mc := 0) (ms := 0) (host := "") 8 rfl t_X8_put ⟨Or.inl q_8_29, i_X8_put.1, i_X8_put.2⟩ ⟨by decide, rfl⟩ (congrArg Prod.fst (J.1.1 53 (8, 4) rfl)) rfl (by decide) rfl rfl ⟨by decide, by decide⟩ (sf_X8_put_r53_c1 (jr_of rfl (by omega)) (jr_of rfl (by omega)) hD J  (fun h J S6 => ?_))
    have Sm := jSm_tr rfl Sm S6
    show jX m_X8_add 2 0 0 42 [(7, .int v1), (0, .ref 53), (1, .int a1), (2, .int a2), (3, .int a3), (4, .int a4), (5, .int a5), (6, .int a6)] [] _ 0 0 _
    refine x_aloadn (x := 53) rfl rfl ?_
    refine x_iload (x := v1) rfl rfl ?_
    refine x_iconst (v := 2) rfl ki_2 ?_
    refine x_iloadn (x := a3) rfl rfl ?_
    refine x_inv (N := m_X8_put) (As := [.int v1, .int 2, .int a3]) (b := 53) (st := []) (dx9 := 1) (mc := 0) (ms := 0) (host := "") 8 rfl t_X8_put ⟨Or.inl q_8_29, i_X8_put.1, i_X8_put.2⟩ ⟨by decide, rfl⟩ (congrArg Prod.fst (J.1.1 53 (8, 4) rfl)) rfl (by decide) rfl rfl ⟨by decide, by decide⟩ (sf_X8_put_r53_c2 (jr_of rfl (by omega)) (jr_of rfl (by omega)) hD J  (fun h J S7 => ?_))
    have Sm := jSm_tr rfl Sm S7
    show jX m_X8_add 2 0 0 50 [(7, .int v1), (0, .ref 53), (1, .int a1), (2, .int a2), (3, .int a3), (4, .int a4), (5, .int a5), (6, .int a6)] [] _ 0 0 _
    refine x_aloadn (x := 53) rfl rfl ?_
    refine x_iload (x := v1) rfl rfl ?_
    refine x_iconst (v := 3) rfl ki_3 ?_
    refine x_iload (x := a4) rfl rfl ?_
    refine x_inv (N := m_X8_put) (As := [.int v1, .int 3, .int a4]) (b := 53) (st := []) (dx9 := 1) (mc := 0) (ms := 0) (host := "") 8 rfl t_X8_put ⟨Or.inl q_8_29, i_X8_put.1, i_X8_put.2⟩ ⟨by decide, rfl⟩ (congrArg Prod.fst (J.1.1 53 (8, 4) rfl)) rfl (by decide) rfl rfl ⟨by decide, by decide⟩ (sf_X8_put_r53_c3 (jr_of rfl (by omega)) (jr_of rfl (by omega)) hD J  (fun h J S8 => ?_))
    have Sm := jSm_tr rfl Sm S8
    show jX m_X8_add 2 0 0 59 [(7, .int v1), (0, .ref 53), (1, .int a1), (2, .int a2), (3, .int a3), (4, .int a4), (5, .int a5), (6, .int a6)] [] _ 0 0 _
    refine x_aloadn (x := 53) rfl rfl ?_
    refine x_iload (x := v1) rfl rfl ?_
    refine x_iconst (v := 4) rfl ki_4 ?_
    refine x_iload (x := a5) rfl rfl ?_
    refine x_inv (N := m_X8_put) (As := [.int v1, .int 4, .int a5]) (b := 53) (st := []) (dx9 := 1) (mc := 0) (ms := 0) (host := "") 8 rfl t_X8_put ⟨Or.inl q_8_29, i_X8_put.1, i_X8_put.2⟩ ⟨by decide, rfl⟩ (congrArg Prod.fst (J.1.1 53 (8, 4) rfl)) rfl (by decide) rfl rfl ⟨by decide, by decide⟩ (sf_X8_put_r53_c4 (jr_of rfl (by omega)) (jr_of rfl (by omega)) hD J  (fun h J S9 => ?_))
    have Sm := jSm_tr rfl Sm S9
    show jX m_X8_add 2 0 0 68 [(7, .int v1), (0, .ref 53), (1, .int a1), (2, .int a2), (3, .int a3), (4, .int a4), (5, .int a5), (6, .int a6)] [] _ 0 0 _
    refine x_aloadn (x := 53) rfl rfl ?_
    refine x_iload (x := v1) rfl rfl ?_
    refine x_iconst (v := 5) rfl ki_5 ?_
    refine x_iload (x := a6) rfl rfl ?_
    refine x_inv (N := m_X8_put) (As := [.int v1, .int 5, .int a6]) (b := 53) (st := []) (dx9 := 1) (mc := 0) (ms := 0) (host := "") 8 rfl t_X8_put ⟨Or.inl q_8_29, i_X8_put.1, i_X8_put.2⟩ ⟨by decide, rfl⟩ (congrArg Prod.fst (J.1.1 53 (8, 4) rfl)) rfl (by decide) rfl rfl ⟨by decide, by decide⟩ (sf_X8_put_r53_c5 (jr_of rfl (by omega)) (jr_of rfl (by omega)) hD J  (fun h J S10 => ?_))
    have Sm := jSm_tr rfl Sm S10
    show jX m_X8_add 2 0 0 77 [(7, .int v1), (0, .ref 53), (1, .int a1), (2, .int a2), (3, .int a3), (4, .int a4), (5, .int a5), (6, .int a6)] [] _ 0 0 _
    refine x_vret rfl rfl ?_
    exact hQ _ J Sm
  ·
    refine x_vret rfl rfl ?_
    exact hQ _ J Sm
def fp_X8_isFull_r53 : jFp := []
set_option maxRecDepth 100000 in
set_option maxHeartbeats 4000000 in
theorem ct_X8_isFull_r53_200016 {Dy : jH → Prop} {h0 : jH} {Q : Option Value → jH → Prop} (hD : jDk Dy) (hQ : ∀ (v : Int32) hx9, 0 ≤ v.toInt ∧ v.toInt ≤ 1 → jJ jSgX Dy hx9 → jSm fp_X8_isFull_r53 h0 hx9 → Q (some (.int v)) hx9) : ∀ (h : jH), jJ jSgX Dy h → jSm fp_X8_isFull_r53 h0 h → jX m_X8_isFull 1 0 0 16 [] [.int 0] h 0 0 Q := by
  intro  h    J Sm
  refine x_zret rfl rfl (by decide) ?_
  exact hQ _ _ (jr_of jk_0 (by omega)) J Sm
set_option maxRecDepth 100000 in
set_option maxHeartbeats 4000000 in
theorem ct_X8_isFull_r53_300016 {Dy : jH → Prop} {h0 : jH} {Q : Option Value → jH → Prop} (hD : jDk Dy) (hQ : ∀ (v : Int32) hx9, 0 ≤ v.toInt ∧ v.toInt ≤ 1 → jJ jSgX Dy hx9 → jSm fp_X8_isFull_r53 h0 hx9 → Q (some (.int v)) hx9) : ∀ (h : jH), jJ jSgX Dy h → jSm fp_X8_isFull_r53 h0 h → jX m_X8_isFull 1 0 0 16 [] [.int 1] h 0 0 Q := by
  intro  h    J Sm
  refine x_zret rfl rfl (by decide) ?_
  exact hQ _ _ (jr_of jk_1 (by omega)) J Sm
set_option maxRecDepth 100000 in
set_option maxHeartbeats 4000000 in
theorem sf_X8_isFull_r53 {Dy : jH → Prop} {h : jH} {Q : Option Value → jH → Prop} (hD : jDk Dy) (J : jJ jSgX Dy h) (hQ : ∀ (v : Int32) hx9, 0 ≤ v.toInt ∧ v.toInt ≤ 1 → jJ jSgX Dy hx9 → jSm fp_X8_isFull_r53 h hx9 → Q (some (.int v)) hx9) : jC m_X8_isFull 1 0 0 [.ref 53] h Q := by
  refine jC.of rfl k_X8_isFull rfl ?_
  have Sm := jSm_rf fp_X8_isFull_r53 h
  show jX m_X8_isFull 1 0 0 0 [(0, .ref 53)] [] _ 0 0 _
  refine x_aloadn (x := 53) rfl rfl ?_
  refine z_getI (N := 4) 8 3 rfl f_8_7 rfl J rfl sg_53_3_4_1_0_1 (fun v1 qv1 ev1 => ?_)
  refine x_aloadn (x := 53) rfl rfl ?_
  refine z_getC (N := 4) (v := 40) 8 1 rfl f_8_22 rfl J rfl sg_53_1_2_1_0_1 jk_40 ?_
  refine x_iclt (tgt := 15) rfl rfl (ti_lt rfl jk_40 ⟨fun c2 => ?_, fun c2 => ?_⟩)
  ·
    refine x_iconst (v := 0) rfl ki_0 ?_
    exact jX.sub jsb_n (ct_X8_isFull_r53_200016 hD hQ  h J Sm)
  ·
    refine x_iconst (v := 1) rfl ki_1 ?_
    refine x_goto (tgt := 16) rfl rfl ?_
    exact jX.sub jsb_n (ct_X8_isFull_r53_300016 hD hQ  h J Sm)
def fp_X11_levy_r31 : jFp := [(31, 12, 13), (32, 19, 20), (53, 3, 4), (54, 0, 160)]
set_option maxRecDepth 100000 in
set_option maxHeartbeats 4000000 in
theorem ct_X11_levy_r31_35 {Dy : jH → Prop} {h0 : jH} {Q : Option Value → jH → Prop} (hD : jDk Dy) (hQ : ∀ (v : Int32) hx9, (-366) ≤ v.toInt ∧ v.toInt ≤ 39 → jJ jSgX Dy hx9 → jSm fp_X11_levy_r31 h0 hx9 → Q (some (.int v)) hx9) : ∀ (h : jH), jJ jSgX Dy h → jSm fp_X11_levy_r31 h0 h → jX m_X11_levy 3 0 0 35 [(0, .ref 31)] [] h 0 0 Q := by
  intro  h    J Sm
  refine x_aloadn (x := 31) rfl rfl ?_
  refine x_iconst (v := (-1)) rfl ki_m1 ?_
  refine x_inv (N := m_X11_refuse) (As := [.int (-1)]) (b := 31) (st := []) (dx9 := 2) (mc := 0) (ms := 0) (host := "") 11 rfl t_X11_refuse ⟨Or.inl q_11_206, i_X11_refuse.1, i_X11_refuse.2⟩ ⟨by decide, rfl⟩ (congrArg Prod.fst (J.1.1 31 (11, 13) rfl)) rfl (by decide) rfl rfl ⟨by decide, by decide⟩ (jC.of rfl k_X11_refuse rfl ?_)
  show jX m_X11_refuse 2 0 0 0 [(0, .ref 31), (1, .int (-1))] [] _ 0 0 _
  refine x_aloadn (x := 31) rfl rfl ?_
  refine x_iloadn (x := (-1)) rfl rfl ?_
  refine z_putI (N := 13) (w := (-1)) 11 12 rfl f_11_94 rfl (jfin_no TX11 RX11 13 rfl rfl) hD J Sm rfl rfl jk_m1 (pw_31_12 (by omega)) rfl (fun h w1 J Sm => ?_)
  refine x_iloadn (x := (-1)) rfl rfl ?_
  refine x_iret rfl rfl ?_
  show jX m_X11_levy 3 0 0 40 [(0, .ref 31)] [.int (-1)] _ 0 0 _
  refine x_iret rfl rfl ?_
  exact hQ _ _ (jr_of jk_m1 (by omega)) J Sm
set_option maxRecDepth 100000 in
set_option maxHeartbeats 4000000 in
theorem sf_X11_levy_r31 {Dy : jH → Prop} {h : jH} {Q : Option Value → jH → Prop} {a1 : Int32} {a2 : Int32} {a3 : Int32} {a4 : Int32} (hD : jDk Dy) (J : jJ jSgX Dy h) (hQ : ∀ (v : Int32) hx9, (-366) ≤ v.toInt ∧ v.toInt ≤ 39 → jJ jSgX Dy hx9 → jSm fp_X11_levy_r31 h hx9 → Q (some (.int v)) hx9) : jC m_X11_levy 3 0 0 [.ref 31, .int a1, .int a2, .int a3, .int a4] h Q := by
  refine jC.of rfl k_X11_levy rfl ?_
  have Sm := jSm_rf fp_X11_levy_r31 h
  have ea1 := jfull a1
  have ea2 := jfull a2
  have ea3 := jfull a3
  have ea4 := jfull a4
  show jX m_X11_levy 3 0 0 0 [(0, .ref 31), (1, .int a1), (2, .int a2), (3, .int a3), (4, .int a4)] [] _ 0 0 _
  refine x_iloadn (x := a1) rfl rfl ?_
  refine x_iflt (tgt := 35) rfl rfl (ti_lt rfl jk_0 ⟨fun c1 => ?_, fun c1 => ?_⟩)
  ·
    exact jX.sub (jsb_c rfl jsb_n) (ct_X11_levy_r31_35 hD hQ  h J Sm)
  ·
    refine x_iloadn (x := a1) rfl rfl ?_
    refine x_iconst (v := 2) rfl ki_2 ?_
    refine x_icgt (tgt := 35) rfl rfl (ti_gt rfl jk_2 ⟨fun c2 => ?_, fun c2 => ?_⟩)
    ·
      exact jX.sub (jsb_c rfl jsb_n) (ct_X11_levy_r31_35 hD hQ  h J Sm)
    ·
      refine x_iloadn (x := a2) rfl rfl ?_
      refine x_inst (N := m_X11_isYear) (As := [.int a2]) (st := []) (dx9 := 1) (mc := 0) (ms := 0) (host := "") rfl t_X11_isYear ⟨Or.inl q_11_433, s_X11_isYear⟩ rfl (by decide) rfl rfl ⟨by decide, by decide⟩ (zc_X11_isYear rfl (fun v3 ev3 => ?_))
      show jX m_X11_levy 3 0 0 13 [(0, .ref 31), (1, .int a1), (2, .int a2), (3, .int a3), (4, .int a4)] [.int v3] _ 0 0 _
      refine x_ifeq (tgt := 35) rfl rfl (ti_eq rfl jk_0 ⟨fun c4 => ?_, fun c4 => ?_⟩)
      ·
        exact jX.sub (jsb_c rfl jsb_n) (ct_X11_levy_r31_35 hD hQ  h J Sm)
      ·
        refine x_iloadn (x := a3) rfl rfl ?_
        refine x_iconst (v := 0) rfl ki_0 ?_
        refine x_ldcw (v := 1000000) rfl z_11_436 ?_
        refine x_inst (N := m_X11_isWithin) (As := [.int a3, .int 0, .int 1000000]) (st := []) (dx9 := 1) (mc := 0) (ms := 0) (host := "") rfl t_X11_isWithin ⟨Or.inl q_11_202, s_X11_isWithin⟩ rfl (by decide) rfl rfl ⟨by decide, by decide⟩ (zc_X11_isWithin rfl jk_0 jk_1000000 (fun v5 ev5 => ?_))
        show jX m_X11_levy 3 0 0 24 [(0, .ref 31), (1, .int a1), (2, .int a2), (3, .int a3), (4, .int a4)] [.int v5] _ 0 0 _
        refine x_ifeq (tgt := 35) rfl rfl (ti_eq rfl jk_0 ⟨fun c6 => ?_, fun c6 => ?_⟩)
        ·
          exact jX.sub (jsb_c rfl jsb_n) (ct_X11_levy_r31_35 hD hQ  h J Sm)
        ·
          refine x_iload (x := a4) rfl rfl ?_
          refine x_inst (N := m_X11_isDay) (As := [.int a4]) (st := []) (dx9 := 1) (mc := 0) (ms := 0) (host := "") rfl t_X11_isDay ⟨Or.inl q_11_115, s_X11_isDay⟩ rfl (by decide) rfl rfl ⟨by decide, by decide⟩ (zc_X11_isDay rfl (fun v7 ev7 => ?_))
          show jX m_X11_levy 3 0 0 32 [(0, .ref 31), (1, .int a1), (2, .int a2), (3, .int a3), (4, .int a4)] [.int v7] _ 0 0 _
          refine x_ifne (tgt := 41) rfl rfl (ti_ne rfl jk_0 ⟨fun c8 => ?_, fun c8 => ?_⟩)
          ·
            refine x_aloadn (x := 31) rfl rfl ?_
            refine z_getR (N := 13) (b := 32) 11 0 rfl f_11_10 rfl J rfl 3968 ⟨rfl, rfl⟩ rfl ?_
            refine z_getR (N := 20) (b := 53) 1 10 rfl f_11_437 rfl J rfl 4106 ⟨rfl, rfl⟩ rfl ?_
            refine x_inv (N := m_X8_isFull) (As := []) (b := 53) (st := []) (dx9 := 1) (mc := 0) (ms := 0) (host := "") 8 rfl t_X8_isFull ⟨Or.inl q_11_130, i_X8_isFull.1, i_X8_isFull.2⟩ ⟨by decide, rfl⟩ (congrArg Prod.fst (J.1.1 53 (8, 4) rfl)) rfl (by decide) rfl rfl ⟨by decide, by decide⟩ (sf_X8_isFull_r53  hD J  (fun v10 h ev10 J S9 => ?_))
            have Sm := jSm_tr rfl Sm S9
            show jX m_X11_levy 3 0 0 51 [(0, .ref 31), (1, .int a1), (2, .int a2), (3, .int a3), (4, .int a4)] [.int v10] _ 0 0 _
            refine x_ifeq (tgt := 61) rfl rfl (ti_eq rfl jk_0 ⟨fun c11 => ?_, fun c11 => ?_⟩)
            ·
              refine x_aloadn (x := 31) rfl rfl ?_
              refine z_getR (N := 13) (b := 32) 11 0 rfl f_11_10 rfl J rfl 3968 ⟨rfl, rfl⟩ rfl ?_
              refine z_getR (N := 20) (b := 53) 1 10 rfl f_11_437 rfl J rfl 4106 ⟨rfl, rfl⟩ rfl ?_
              refine x_iload (x := a4) rfl rfl ?_
              refine x_iloadn (x := a2) rfl rfl ?_
              refine x_iloadn (x := a1) rfl rfl ?_
              refine x_iloadn (x := a3) rfl rfl ?_
              refine x_iconst (v := 0) rfl ki_0 ?_
              refine x_iconst (v := 0) rfl ki_0 ?_
              refine x_inv (N := m_X8_add) (As := [.int a4, .int a2, .int a1, .int a3, .int 0, .int 0]) (b := 53) (st := []) (dx9 := 2) (mc := 0) (ms := 0) (host := "") 8 rfl t_X8_add ⟨Or.inl q_11_145, i_X8_add.1, i_X8_add.2⟩ ⟨by decide, rfl⟩ (congrArg Prod.fst (J.1.1 53 (8, 4) rfl)) rfl (by decide) rfl rfl ⟨by decide, by decide⟩ (sf_X8_add_r53 (jr_of rfl (by omega)) (jr_of rfl (by omega)) (jr_of rfl (by omega)) (jr_of rfl (by omega)) (jr_of jk_0 (by omega)) (jr_of jk_0 (by omega)) hD J  (fun h J S12 => ?_))
              have Sm := jSm_tr rfl Sm S12
              show jX m_X11_levy 3 0 0 78 [(0, .ref 31), (1, .int a1), (2, .int a2), (3, .int a3), (4, .int a4)] [] _ 0 0 _
              refine x_aloadn (x := 31) rfl rfl ?_
              refine x_aloadn (x := 31) rfl rfl ?_
              refine z_getR (N := 13) (b := 32) 11 0 rfl f_11_10 rfl J rfl 3968 ⟨rfl, rfl⟩ rfl ?_
              refine z_getR (N := 20) (b := 53) 1 10 rfl f_11_437 rfl J rfl 4106 ⟨rfl, rfl⟩ rfl ?_
              refine z_getI (N := 4) 8 3 rfl f_11_142 rfl J rfl sg_53_3_4_1_0_1 (fun v13 qv13 ev13 => ?_)
              refine x_iconst (v := 1) rfl ki_1 ?_
              refine z_isub rfl rfl jk_1 (by omega) (fun v14 ev14 => ?_)
              refine x_inv (N := m_X11_accept) (As := [.int v14]) (b := 31) (st := []) (dx9 := 2) (mc := 0) (ms := 0) (host := "") 11 rfl t_X11_accept ⟨Or.inl q_11_165, i_X11_accept.1, i_X11_accept.2⟩ ⟨by decide, rfl⟩ (congrArg Prod.fst (J.1.1 31 (11, 13) rfl)) rfl (by decide) rfl rfl ⟨by decide, by decide⟩ (jC.of rfl k_X11_accept rfl ?_)
              show jX m_X11_accept 2 0 0 0 [(0, .ref 31), (1, .int v14)] [] _ 0 0 _
              refine x_aloadn (x := 31) rfl rfl ?_
              refine x_iconst (v := 0) rfl ki_0 ?_
              refine z_putI (N := 13) (w := 0) 11 12 rfl f_11_94 rfl (jfin_no TX11 RX11 13 rfl rfl) hD J Sm rfl rfl jk_0 (pw_31_12 (by omega)) rfl (fun h w15 J Sm => ?_)
              refine x_aloadn (x := 31) rfl rfl ?_
              refine z_getR (N := 13) (b := 32) 11 0 rfl f_11_10 rfl J rfl 3968 ⟨rfl, rfl⟩ rfl ?_
              refine x_dup rfl rfl ?_
              refine z_getI0 (N := 20) 1 19 rfl f_11_528 rfl J rfl (fun v16 qv16 => ?_)
              have ev16 := jfull v16
              refine x_iconst (v := 1) rfl ki_1 ?_
              refine z_iadd0 rfl (fun v17 => ?_)
              have ev17 := jfull v17
              refine z_putI (N := 20) (w := v17.toInt) 1 19 rfl f_11_528 rfl (jfin_no TX1 RX1 20 rfl rfl) hD J Sm rfl rfl rfl (pw_32_19 trivial) rfl (fun h w18 J Sm => ?_)
              refine x_iloadn (x := v14) rfl rfl ?_
              refine x_iret rfl rfl ?_
              show jX m_X11_levy 3 0 0 94 [(0, .ref 31), (1, .int a1), (2, .int a2), (3, .int a3), (4, .int a4)] [.int v14] _ 0 0 _
              refine x_iret rfl rfl ?_
              exact hQ _ _ (jr_of rfl (by omega)) J Sm
            ·
              refine x_aloadn (x := 31) rfl rfl ?_
              refine x_bipush (v := (-5)) rfl kb_m5 ?_
              refine x_inv (N := m_X11_refuse) (As := [.int (-5)]) (b := 31) (st := []) (dx9 := 2) (mc := 0) (ms := 0) (host := "") 11 rfl t_X11_refuse ⟨Or.inl q_11_206, i_X11_refuse.1, i_X11_refuse.2⟩ ⟨by decide, rfl⟩ (congrArg Prod.fst (J.1.1 31 (11, 13) rfl)) rfl (by decide) rfl rfl ⟨by decide, by decide⟩ (jC.of rfl k_X11_refuse rfl ?_)
              show jX m_X11_refuse 2 0 0 0 [(0, .ref 31), (1, .int (-5))] [] _ 0 0 _
              refine x_aloadn (x := 31) rfl rfl ?_
              refine x_iloadn (x := (-5)) rfl rfl ?_
              refine z_putI (N := 13) (w := (-5)) 11 12 rfl f_11_94 rfl (jfin_no TX11 RX11 13 rfl rfl) hD J Sm rfl rfl jk_m5 (pw_31_12 (by omega)) rfl (fun h w19 J Sm => ?_)
              refine x_iloadn (x := (-5)) rfl rfl ?_
              refine x_iret rfl rfl ?_
              show jX m_X11_levy 3 0 0 60 [(0, .ref 31), (1, .int a1), (2, .int a2), (3, .int a3), (4, .int a4)] [.int (-5)] _ 0 0 _
              refine x_iret rfl rfl ?_
              exact hQ _ _ (jr_of jk_m5 (by omega)) J Sm
          ·
            exact jX.sub (jsb_c rfl jsb_n) (ct_X11_levy_r31_35 hD hQ  h J Sm)
def fp_X9_isSign_r68 : jFp := []
set_option maxRecDepth 100000 in
set_option maxHeartbeats 4000000 in
theorem ct_X9_isSign_r68_300026 {Dy : jH → Prop} {h0 : jH} {Q : Option Value → jH → Prop} (hD : jDk Dy) (hQ : ∀ (v : Int32) hx9, 0 ≤ v.toInt ∧ v.toInt ≤ 1 → jJ jSgX Dy hx9 → jSm fp_X9_isSign_r68 h0 hx9 → ∀ u0 u1 : Int32, jiv hx9 68 5 = u0 → jiv hx9 68 3 = u1 → (u0.toInt ≠ 3 ∨ u1.toInt ≤ 399) → Q (some (.int v)) hx9) : ∀ (g0 : Int32) (g1 : Int32) (h : jH), 0 ≤ g0.toInt ∧ g0.toInt ≤ 399 → 3 ≤ g1.toInt ∧ g1.toInt ≤ 3 → (g1.toInt ≠ 3 ∨ g0.toInt ≤ 399) → jiv h 68 3 = g0 → jiv h 68 5 = g1 → jJ jSgX Dy h → jSm fp_X9_isSign_r68 h0 h → jX m_X9_isSign 1 0 0 26 [] [.int 1] h 0 0 Q := by
  intro g0 g1 h y0 y1 y2 z0 z1  J Sm
  refine x_zret rfl rfl (by decide) ?_
  exact hQ _ _ (jr_of jk_1 (by omega)) J Sm _ _ z1 z0 (by omega)
set_option maxRecDepth 100000 in
set_option maxHeartbeats 4000000 in
theorem ct_X9_isSign_r68_200026 {Dy : jH → Prop} {h0 : jH} {Q : Option Value → jH → Prop} (hD : jDk Dy) (hQ : ∀ (v : Int32) hx9, 0 ≤ v.toInt ∧ v.toInt ≤ 1 → jJ jSgX Dy hx9 → jSm fp_X9_isSign_r68 h0 hx9 → ∀ u0 u1 : Int32, jiv hx9 68 5 = u0 → jiv hx9 68 3 = u1 → (u0.toInt ≠ 3 ∨ u1.toInt ≤ 399) → Q (some (.int v)) hx9) : ∀ (g0 : Int32) (g1 : Int32) (h : jH), 0 ≤ g0.toInt ∧ g0.toInt ≤ 400 → 0 ≤ g1.toInt ∧ g1.toInt ≤ 3 → (g1.toInt ≠ 3 ∨ g0.toInt ≤ 399) → jiv h 68 3 = g0 → jiv h 68 5 = g1 → jJ jSgX Dy h → jSm fp_X9_isSign_r68 h0 h → jX m_X9_isSign 1 0 0 26 [] [.int 0] h 0 0 Q := by
  intro g0 g1 h y0 y1 y2 z0 z1  J Sm
  refine x_zret rfl rfl (by decide) ?_
  exact hQ _ _ (jr_of jk_0 (by omega)) J Sm _ _ z1 z0 (by omega)
set_option maxRecDepth 100000 in
set_option maxHeartbeats 4000000 in
theorem ct_X9_isSign_r68_25 {Dy : jH → Prop} {h0 : jH} {Q : Option Value → jH → Prop} (hD : jDk Dy) (hQ : ∀ (v : Int32) hx9, 0 ≤ v.toInt ∧ v.toInt ≤ 1 → jJ jSgX Dy hx9 → jSm fp_X9_isSign_r68 h0 hx9 → ∀ u0 u1 : Int32, jiv hx9 68 5 = u0 → jiv hx9 68 3 = u1 → (u0.toInt ≠ 3 ∨ u1.toInt ≤ 399) → Q (some (.int v)) hx9) : ∀ (g0 : Int32) (g1 : Int32) (h : jH), 0 ≤ g0.toInt ∧ g0.toInt ≤ 400 → 0 ≤ g1.toInt ∧ g1.toInt ≤ 3 → (g1.toInt ≠ 3 ∨ g0.toInt ≤ 399) → jiv h 68 3 = g0 → jiv h 68 5 = g1 → jJ jSgX Dy h → jSm fp_X9_isSign_r68 h0 h → jX m_X9_isSign 1 0 0 25 [] [] h 0 0 Q := by
  intro g0 g1 h y0 y1 y2 z0 z1  J Sm
  refine x_iconst (v := 0) rfl ki_0 ?_
  exact jX.sub jsb_n (ct_X9_isSign_r68_200026 hD hQ  g0 g1 h (jr_of rfl (by omega)) (jr_of rfl (by omega)) (by omega) z0 z1 J Sm)
set_option maxRecDepth 100000 in
set_option maxHeartbeats 4000000 in
theorem sf_X9_isSign_r68 {Dy : jH → Prop} {h : jH} {Q : Option Value → jH → Prop} {a1 : Int32} (y1 : 40 ≤ a1.toInt ∧ a1.toInt ≤ 99) (hD : jDk Dy) (J : jJ jSgX Dy h) {p0 p1 : Int32} (zp0 : jiv h 68 5 = p0) (zp1 : jiv h 68 3 = p1) (rl_p0 : (p0.toInt ≠ 3 ∨ p1.toInt ≤ 399)) (hQ : ∀ (v : Int32) hx9, 0 ≤ v.toInt ∧ v.toInt ≤ 1 → jJ jSgX Dy hx9 → jSm fp_X9_isSign_r68 h hx9 → ∀ u0 u1 : Int32, jiv hx9 68 5 = u0 → jiv hx9 68 3 = u1 → (u0.toInt ≠ 3 ∨ u1.toInt ≤ 399) → Q (some (.int v)) hx9) : jC m_X9_isSign 1 0 0 [.ref 68, .int a1] h Q := by
  refine jC.of rfl k_X9_isSign rfl ?_
  have Sm := jSm_rf fp_X9_isSign_r68 h
  have ep0 := (show 0 ≤ p0.toInt ∧ p0.toInt ≤ 3 from zp0 ▸ jrg_f J sg_68_5_6_1_0_1)
  have ep1 := (show 0 ≤ p1.toInt ∧ p1.toInt ≤ 400 from zp1 ▸ jrg_f J sg_68_3_4_1_0_1)
  show jX m_X9_isSign 1 0 0 0 [(0, .ref 68), (1, .int a1)] [] _ 0 0 _
  refine x_aloadn (x := 68) rfl rfl ?_
  refine z_getM (N := 6) (v := p0) 9 5 rfl f_9_28 rfl J rfl zp0 ?_
  refine x_iconst (v := 3) rfl ki_3 ?_
  refine x_icne (tgt := 25) rfl rfl (ti_ne rfl jk_3 ⟨fun c1 => ?_, fun c1 => ?_⟩)
  ·
    exact jX.sub jsb_n (ct_X9_isSign_r68_25 hD hQ  p1 p0 h (jr_of rfl (by omega)) (jr_of rfl (by omega)) (by omega) zp1 zp0 J Sm)
  ·
    refine x_aloadn (x := 68) rfl rfl ?_
    refine z_getR (N := 6) (b := 69) 9 0 rfl f_9_11 rfl J rfl 8704 ⟨rfl, rfl⟩ rfl ?_
    refine x_aloadn (x := 68) rfl rfl ?_
    refine z_getM (N := 6) (v := p1) 9 3 rfl f_9_22 rfl J rfl zp1 ?_
    refine z_iald (N := 400) rfl J rfl sg_69_0_400_1_0_1 rfl (by omega) (fun v2 qv2 ev2 => ?_)
    refine x_iloadn (x := a1) rfl rfl ?_
    refine x_icne (tgt := 25) rfl rfl (ti_ne rfl rfl ⟨fun c3 => ?_, fun c3 => ?_⟩)
    ·
      exact jX.sub jsb_n (ct_X9_isSign_r68_25 hD hQ  p1 p0 h (jr_of rfl (by omega)) (jr_of rfl (by omega)) (by omega) zp1 zp0 J Sm)
    ·
      refine x_iconst (v := 1) rfl ki_1 ?_
      refine x_goto (tgt := 26) rfl rfl ?_
      exact jX.sub jsb_n (ct_X9_isSign_r68_300026 hD hQ  p1 p0 h (jr_of rfl (by omega)) (jr_of rfl (by omega)) (by omega) zp1 zp0 J Sm)
def fp_X9_step_r68 : jFp := [(68, 3, 4), (68, 4, 5), (68, 5, 6)]
set_option maxRecDepth 100000 in
set_option maxHeartbeats 4000000 in
theorem ct_X9_step_r68_148 {Dy : jH → Prop} {h0 : jH} {Q : Option Value → jH → Prop} (hD : jDk Dy) (hQ : ∀ hx9, jJ jSgX Dy hx9 → jSm fp_X9_step_r68 h0 hx9 → ∀ u0 u1 : Int32, jiv hx9 68 5 = u0 → jiv hx9 68 3 = u1 → (u0.toInt ≠ 3 ∨ u1.toInt ≤ 399) → Q none hx9) : ∀ (g0 : Int32) (g1 : Int32) (h : jH), 0 ≤ g0.toInt ∧ g0.toInt ≤ 399 → 1 ≤ g1.toInt ∧ g1.toInt ≤ 3 → jiv h 68 3 = g0 → jiv h 68 5 = g1 → jJ jSgX Dy h → jSm fp_X9_step_r68 h0 h → jX m_X9_step 2 0 0 148 [] [] h 0 0 Q := by
  intro g0 g1 h y0 y1 z0 z1  J Sm
  refine x_vret rfl rfl ?_
  exact hQ _ J Sm _ _ z1 z0 (by omega)
set_option maxRecDepth 100000 in
set_option maxHeartbeats 4000000 in
theorem ct_X9_step_r68_97 {Dy : jH → Prop} {h0 : jH} {Q : Option Value → jH → Prop} (hD : jDk Dy) (hQ : ∀ hx9, jJ jSgX Dy hx9 → jSm fp_X9_step_r68 h0 hx9 → ∀ u0 u1 : Int32, jiv hx9 68 5 = u0 → jiv hx9 68 3 = u1 → (u0.toInt ≠ 3 ∨ u1.toInt ≤ 399) → Q none hx9) : ∀ r : Nat, ∀ (g0 : Int32) (g1 : Int32) (g2 : Int32) (g3 : Int32) (h : jH), 400 - g2.toInt < (r : Int) → 1 ≤ g0.toInt ∧ g0.toInt ≤ 400 → 0 ≤ g1.toInt ∧ g1.toInt ≤ 399 → 1 ≤ g2.toInt ∧ g2.toInt ≤ 400 → 1 ≤ g3.toInt ∧ g3.toInt ≤ 3 → jiv h 68 1 = g0 → jiv h 68 3 = g1 → jiv h 68 4 = g2 → jiv h 68 5 = g3 → jJ jSgX Dy h → jSm fp_X9_step_r68 h0 h → jX m_X9_step 2 0 0 97 [(0, .ref 68)] [] h 0 0 Q := by
  intro r
  induction r with
  | zero =>
    intro g0 g1 g2 g3 h hm y0 y1 y2 y3 z0 z1 z2 z3  J Sm
    exfalso
    omega
  | succ r ih =>
    intro g0 g1 g2 g3 h hm y0 y1 y2 y3 z0 z1 z2 z3  J Sm
    refine x_aloadn (x := 68) rfl rfl ?_
    refine z_getM (N := 6) (v := g3) 9 5 rfl f_9_28 rfl J rfl z3 ?_
    refine x_iconst (v := 3) rfl ki_3 ?_
    refine x_iceq (tgt := 148) rfl rfl (ti_eq rfl jk_3 ⟨fun c1 => ?_, fun c1 => ?_⟩)
    ·
      exact jX.sub jsb_n (ct_X9_step_r68_148 hD hQ  g1 g3 h (jr_of rfl (by omega)) (jr_of rfl (by omega)) z1 z3 J Sm)
    ·
      refine x_aloadn (x := 68) rfl rfl ?_
      refine z_getM (N := 6) (v := g2) 9 4 rfl f_9_25 rfl J rfl z2 ?_
      refine x_aloadn (x := 68) rfl rfl ?_
      refine z_getM (N := 6) (v := g0) 9 1 rfl f_9_15 rfl J rfl z0 ?_
      refine x_icge (tgt := 148) rfl rfl (ti_ge rfl rfl ⟨fun c2 => ?_, fun c2 => ?_⟩)
      ·
        exact jX.sub jsb_n (ct_X9_step_r68_148 hD hQ  g1 g3 h (jr_of rfl (by omega)) (jr_of rfl (by omega)) z1 z3 J Sm)
      ·
        refine x_aloadn (x := 68) rfl rfl ?_
        refine z_getR (N := 6) (b := 69) 9 0 rfl f_9_11 rfl J rfl 8704 ⟨rfl, rfl⟩ rfl ?_
        refine x_aloadn (x := 68) rfl rfl ?_
        refine z_getM (N := 6) (v := g2) 9 4 rfl f_9_25 rfl J rfl z2 ?_
        refine z_iald (N := 400) rfl J rfl sg_69_0_400_1_0_1 rfl (by omega) (fun v3 qv3 ev3 => ?_)
        refine x_inst (N := m_X9_sortOf) (As := [.int v3]) (st := []) (dx9 := 1) (mc := 0) (ms := 0) (host := "") rfl t_X9_sortOf ⟨Or.inl q_9_34, s_X9_sortOf⟩ rfl (by decide) rfl rfl ⟨by decide, by decide⟩ (jC.of rfl k_X9_sortOf rfl ?_)
        show jX m_X9_sortOf 1 0 0 0 [(0, .int v3)] [] _ 0 0 _
        refine x_iloadn (x := v3) rfl rfl ?_
        refine x_bipush (v := 97) rfl kb_97 ?_
        refine x_iclt (tgt := 14) rfl rfl (ti_lt rfl jk_97 ⟨fun c4 => ?_, fun c4 => ?_⟩)
        ·
          refine x_iloadn (x := v3) rfl rfl ?_
          refine x_bipush (v := 48) rfl kb_48 ?_
          refine x_iclt (tgt := 30) rfl rfl (ti_lt rfl jk_48 ⟨fun c5 => ?_, fun c5 => ?_⟩)
          ·
            refine x_iconst (v := 3) rfl ki_3 ?_
            refine x_iret rfl rfl ?_
            show jX m_X9_step 2 0 0 128 [(0, .ref 68)] [.int 3] _ 0 0 _
            refine x_aloadn (x := 68) rfl rfl ?_
            refine z_getM (N := 6) (v := g3) 9 5 rfl f_9_28 rfl J rfl z3 ?_
            refine x_icne (tgt := 148) rfl rfl (ti_ne jk_3 rfl (bn_t (by omega) ?_))
            exact jX.sub jsb_n (ct_X9_step_r68_148 hD hQ  g1 g3 h (jr_of rfl (by omega)) (jr_of rfl (by omega)) z1 z3 J Sm)
          ·
            refine x_iloadn (x := v3) rfl rfl ?_
            refine x_bipush (v := 57) rfl kb_57 ?_
            refine x_icgt (tgt := 30) rfl rfl (ti_gt rfl jk_57 ⟨fun c6 => ?_, fun c6 => ?_⟩)
            ·
              refine x_iconst (v := 3) rfl ki_3 ?_
              refine x_iret rfl rfl ?_
              show jX m_X9_step 2 0 0 128 [(0, .ref 68)] [.int 3] _ 0 0 _
              refine x_aloadn (x := 68) rfl rfl ?_
              refine z_getM (N := 6) (v := g3) 9 5 rfl f_9_28 rfl J rfl z3 ?_
              refine x_icne (tgt := 148) rfl rfl (ti_ne jk_3 rfl (bn_t (by omega) ?_))
              exact jX.sub jsb_n (ct_X9_step_r68_148 hD hQ  g1 g3 h (jr_of rfl (by omega)) (jr_of rfl (by omega)) z1 z3 J Sm)
            ·
              refine x_iconst (v := 2) rfl ki_2 ?_
              refine x_goto (tgt := 31) rfl rfl ?_
              refine x_iret rfl rfl ?_
              show jX m_X9_step 2 0 0 128 [(0, .ref 68)] [.int 2] _ 0 0 _
              refine x_aloadn (x := 68) rfl rfl ?_
              refine z_getM (N := 6) (v := g3) 9 5 rfl f_9_28 rfl J rfl z3 ?_
              refine x_icne (tgt := 148) rfl rfl (ti_ne jk_2 rfl ⟨fun c7 => ?_, fun c7 => ?_⟩)
              ·
                exact jX.sub jsb_n (ct_X9_step_r68_148 hD hQ  g1 g3 h (jr_of rfl (by omega)) (jr_of rfl (by omega)) z1 z3 J Sm)
              ·
                refine x_aloadn (x := 68) rfl rfl ?_
                refine x_dup rfl rfl ?_
                refine z_getM (N := 6) (v := g2) 9 4 rfl f_9_25 rfl J rfl z2 ?_
                refine x_iconst (v := 1) rfl ki_1 ?_
                refine z_iadd rfl rfl jk_1 (by omega) (fun v8 ev8 => ?_)
                refine z_putI (N := 6) (w := v8.toInt) 9 4 rfl f_9_25 rfl (jfin_no TX9 RX9 6 rfl rfl) hD J Sm rfl rfl rfl (pw_68_4 (by omega)) rfl (fun h w9 J Sm => ?_)
                refine x_goto (tgt := 97) rfl rfl ?_
                exact jX.sub (jsb_c rfl jsb_n) (ih g0 g1 v8 g3 h (by omega) (jr_of rfl (by omega)) (jr_of rfl (by omega)) (jr_of rfl (by omega)) (jr_of rfl (by omega)) (jmo w9 rfl z0) (jmo w9 rfl z1) (jmw w9) (jmo w9 rfl z3) J Sm)
        ·
          refine x_iloadn (x := v3) rfl rfl ?_
          refine x_bipush (v := 122) rfl kb_122 ?_
          refine x_icgt (tgt := 14) rfl rfl (ti_gt rfl jk_122 ⟨fun c10 => ?_, fun c10 => ?_⟩)
          ·
            refine x_iloadn (x := v3) rfl rfl ?_
            refine x_bipush (v := 48) rfl kb_48 ?_
            refine x_iclt (tgt := 30) rfl rfl (ti_lt rfl jk_48 (br_f (by omega) ?_))
            refine x_iloadn (x := v3) rfl rfl ?_
            refine x_bipush (v := 57) rfl kb_57 ?_
            refine x_icgt (tgt := 30) rfl rfl (ti_gt rfl jk_57 (br_t (by omega) ?_))
            refine x_iconst (v := 3) rfl ki_3 ?_
            refine x_iret rfl rfl ?_
            show jX m_X9_step 2 0 0 128 [(0, .ref 68)] [.int 3] _ 0 0 _
            refine x_aloadn (x := 68) rfl rfl ?_
            refine z_getM (N := 6) (v := g3) 9 5 rfl f_9_28 rfl J rfl z3 ?_
            refine x_icne (tgt := 148) rfl rfl (ti_ne jk_3 rfl (bn_t (by omega) ?_))
            exact jX.sub jsb_n (ct_X9_step_r68_148 hD hQ  g1 g3 h (jr_of rfl (by omega)) (jr_of rfl (by omega)) z1 z3 J Sm)
          ·
            refine x_iconst (v := 1) rfl ki_1 ?_
            refine x_iret rfl rfl ?_
            show jX m_X9_step 2 0 0 128 [(0, .ref 68)] [.int 1] _ 0 0 _
            refine x_aloadn (x := 68) rfl rfl ?_
            refine z_getM (N := 6) (v := g3) 9 5 rfl f_9_28 rfl J rfl z3 ?_
            refine x_icne (tgt := 148) rfl rfl (ti_ne jk_1 rfl ⟨fun c11 => ?_, fun c11 => ?_⟩)
            ·
              exact jX.sub jsb_n (ct_X9_step_r68_148 hD hQ  g1 g3 h (jr_of rfl (by omega)) (jr_of rfl (by omega)) z1 z3 J Sm)
            ·
              refine x_aloadn (x := 68) rfl rfl ?_
              refine x_dup rfl rfl ?_
              refine z_getM (N := 6) (v := g2) 9 4 rfl f_9_25 rfl J rfl z2 ?_
              refine x_iconst (v := 1) rfl ki_1 ?_
              refine z_iadd rfl rfl jk_1 (by omega) (fun v12 ev12 => ?_)
              refine z_putI (N := 6) (w := v12.toInt) 9 4 rfl f_9_25 rfl (jfin_no TX9 RX9 6 rfl rfl) hD J Sm rfl rfl rfl (pw_68_4 (by omega)) rfl (fun h w13 J Sm => ?_)
              refine x_goto (tgt := 97) rfl rfl ?_
              exact jX.sub (jsb_c rfl jsb_n) (ih g0 g1 v12 g3 h (by omega) (jr_of rfl (by omega)) (jr_of rfl (by omega)) (jr_of rfl (by omega)) (jr_of rfl (by omega)) (jmo w13 rfl z0) (jmo w13 rfl z1) (jmw w13) (jmo w13 rfl z3) J Sm)
set_option maxRecDepth 100000 in
set_option maxHeartbeats 4000000 in
theorem ct_X9_step_r68_46 {Dy : jH → Prop} {h0 : jH} {Q : Option Value → jH → Prop} (hD : jDk Dy) (hQ : ∀ hx9, jJ jSgX Dy hx9 → jSm fp_X9_step_r68 h0 hx9 → ∀ u0 u1 : Int32, jiv hx9 68 5 = u0 → jiv hx9 68 3 = u1 → (u0.toInt ≠ 3 ∨ u1.toInt ≤ 399) → Q none hx9) : ∀ (g0 : Int32) (g1 : Int32) (g2 : Int32) (h : jH), 0 ≤ g0.toInt ∧ g0.toInt ≤ 400 → 0 ≤ g1.toInt ∧ g1.toInt ≤ 400 → 0 ≤ g2.toInt ∧ g2.toInt ≤ 3 → jiv h 68 1 = g0 → jiv h 68 3 = g1 → jiv h 68 5 = g2 → jJ jSgX Dy h → jSm fp_X9_step_r68 h0 h → jX m_X9_step 2 0 0 46 [(0, .ref 68)] [] h 0 0 Q := by
  intro g0 g1 g2 h y0 y1 y2 z0 z1 z2  J Sm
  refine x_aloadn (x := 68) rfl rfl ?_
  refine x_aloadn (x := 68) rfl rfl ?_
  refine z_getM (N := 6) (v := g1) 9 3 rfl f_9_22 rfl J rfl z1 ?_
  refine z_putI (N := 6) (w := g1.toInt) 9 4 rfl f_9_25 rfl (jfin_no TX9 RX9 6 rfl rfl) hD J Sm rfl rfl rfl (pw_68_4 (by omega)) rfl (fun h w1 J Sm => ?_)
  refine x_aloadn (x := 68) rfl rfl ?_
  refine z_getM (N := 6) (v := g1) 9 3 rfl f_9_22 rfl J rfl (jmo w1 rfl z1) ?_
  refine x_aloadn (x := 68) rfl rfl ?_
  refine z_getM (N := 6) (v := g0) 9 1 rfl f_9_15 rfl J rfl (jmo w1 rfl z0) ?_
  refine x_iclt (tgt := 71) rfl rfl (ti_lt rfl rfl ⟨fun c2 => ?_, fun c2 => ?_⟩)
  ·
    refine x_aloadn (x := 68) rfl rfl ?_
    refine x_aloadn (x := 68) rfl rfl ?_
    refine z_getR (N := 6) (b := 69) 9 0 rfl f_9_11 rfl J rfl 8704 ⟨rfl, rfl⟩ rfl ?_
    refine x_aloadn (x := 68) rfl rfl ?_
    refine z_getM (N := 6) (v := g1) 9 3 rfl f_9_22 rfl J rfl (jmo w1 rfl z1) ?_
    refine z_iald (N := 400) rfl J rfl sg_69_0_400_1_0_1 rfl (by omega) (fun v3 qv3 ev3 => ?_)
    refine x_inst (N := m_X9_sortOf) (As := [.int v3]) (st := [.ref 68]) (dx9 := 1) (mc := 0) (ms := 0) (host := "") rfl t_X9_sortOf ⟨Or.inl q_9_34, s_X9_sortOf⟩ rfl (by decide) rfl rfl ⟨by decide, by decide⟩ (jC.of rfl k_X9_sortOf rfl ?_)
    show jX m_X9_sortOf 1 0 0 0 [(0, .int v3)] [] _ 0 0 _
    refine x_iloadn (x := v3) rfl rfl ?_
    refine x_bipush (v := 97) rfl kb_97 ?_
    refine x_iclt (tgt := 14) rfl rfl (ti_lt rfl jk_97 ⟨fun c4 => ?_, fun c4 => ?_⟩)
    ·
      refine x_iloadn (x := v3) rfl rfl ?_
      refine x_bipush (v := 48) rfl kb_48 ?_
      refine x_iclt (tgt := 30) rfl rfl (ti_lt rfl jk_48 ⟨fun c5 => ?_, fun c5 => ?_⟩)
      ·
        refine x_iconst (v := 3) rfl ki_3 ?_
        refine x_iret rfl rfl ?_
        show jX m_X9_step 2 0 0 84 [(0, .ref 68)] [.int 3, .ref 68] _ 0 0 _
        refine z_putI (N := 6) (w := 3) 9 5 rfl f_9_28 rfl (jfin_no TX9 RX9 6 rfl rfl) hD J Sm rfl rfl jk_3 (pw_68_5 (by omega)) rfl (fun h w6 J Sm => ?_)
        refine x_aloadn (x := 68) rfl rfl ?_
        refine x_aloadn (x := 68) rfl rfl ?_
        refine z_getM (N := 6) (v := g1) 9 3 rfl f_9_22 rfl J rfl (jmo w6 rfl (jmo w1 rfl z1)) ?_
        refine x_iconst (v := 1) rfl ki_1 ?_
        refine z_iadd rfl rfl jk_1 (by omega) (fun v7 ev7 => ?_)
        refine z_putI (N := 6) (w := v7.toInt) 9 4 rfl f_9_25 rfl (jfin_no TX9 RX9 6 rfl rfl) hD J Sm rfl rfl rfl (pw_68_4 (by omega)) rfl (fun h w8 J Sm => ?_)
        exact jX.sub (jsb_c rfl jsb_n) (ct_X9_step_r68_97 hD hQ  400 g0 g1 v7 3 h (by omega) (jr_of rfl (by omega)) (jr_of rfl (by omega)) (jr_of rfl (by omega)) (jr_of jk_3 (by omega)) (jmo w8 rfl (jmo w6 rfl (jmo w1 rfl z0))) (jmo w8 rfl (jmo w6 rfl (jmo w1 rfl z1))) (jmw w8) (jmo w8 rfl (jmw w6)) J Sm)
      ·
        refine x_iloadn (x := v3) rfl rfl ?_
        refine x_bipush (v := 57) rfl kb_57 ?_
        refine x_icgt (tgt := 30) rfl rfl (ti_gt rfl jk_57 ⟨fun c9 => ?_, fun c9 => ?_⟩)
        ·
          refine x_iconst (v := 3) rfl ki_3 ?_
          refine x_iret rfl rfl ?_
          show jX m_X9_step 2 0 0 84 [(0, .ref 68)] [.int 3, .ref 68] _ 0 0 _
          refine z_putI (N := 6) (w := 3) 9 5 rfl f_9_28 rfl (jfin_no TX9 RX9 6 rfl rfl) hD J Sm rfl rfl jk_3 (pw_68_5 (by omega)) rfl (fun h w10 J Sm => ?_)
          refine x_aloadn (x := 68) rfl rfl ?_
          refine x_aloadn (x := 68) rfl rfl ?_
          refine z_getM (N := 6) (v := g1) 9 3 rfl f_9_22 rfl J rfl (jmo w10 rfl (jmo w1 rfl z1)) ?_
          refine x_iconst (v := 1) rfl ki_1 ?_
          refine z_iadd rfl rfl jk_1 (by omega) (fun v11 ev11 => ?_)
          refine z_putI (N := 6) (w := v11.toInt) 9 4 rfl f_9_25 rfl (jfin_no TX9 RX9 6 rfl rfl) hD J Sm rfl rfl rfl (pw_68_4 (by omega)) rfl (fun h w12 J Sm => ?_)
          exact jX.sub (jsb_c rfl jsb_n) (ct_X9_step_r68_97 hD hQ  400 g0 g1 v11 3 h (by omega) (jr_of rfl (by omega)) (jr_of rfl (by omega)) (jr_of rfl (by omega)) (jr_of jk_3 (by omega)) (jmo w12 rfl (jmo w10 rfl (jmo w1 rfl z0))) (jmo w12 rfl (jmo w10 rfl (jmo w1 rfl z1))) (jmw w12) (jmo w12 rfl (jmw w10)) J Sm)
        ·
          refine x_iconst (v := 2) rfl ki_2 ?_
          refine x_goto (tgt := 31) rfl rfl ?_
          refine x_iret rfl rfl ?_
          show jX m_X9_step 2 0 0 84 [(0, .ref 68)] [.int 2, .ref 68] _ 0 0 _
          refine z_putI (N := 6) (w := 2) 9 5 rfl f_9_28 rfl (jfin_no TX9 RX9 6 rfl rfl) hD J Sm rfl rfl jk_2 (pw_68_5 (by omega)) rfl (fun h w13 J Sm => ?_)
          refine x_aloadn (x := 68) rfl rfl ?_
          refine x_aloadn (x := 68) rfl rfl ?_
          refine z_getM (N := 6) (v := g1) 9 3 rfl f_9_22 rfl J rfl (jmo w13 rfl (jmo w1 rfl z1)) ?_
          refine x_iconst (v := 1) rfl ki_1 ?_
          refine z_iadd rfl rfl jk_1 (by omega) (fun v14 ev14 => ?_)
          refine z_putI (N := 6) (w := v14.toInt) 9 4 rfl f_9_25 rfl (jfin_no TX9 RX9 6 rfl rfl) hD J Sm rfl rfl rfl (pw_68_4 (by omega)) rfl (fun h w15 J Sm => ?_)
          exact jX.sub (jsb_c rfl jsb_n) (ct_X9_step_r68_97 hD hQ  400 g0 g1 v14 2 h (by omega) (jr_of rfl (by omega)) (jr_of rfl (by omega)) (jr_of rfl (by omega)) (jr_of jk_2 (by omega)) (jmo w15 rfl (jmo w13 rfl (jmo w1 rfl z0))) (jmo w15 rfl (jmo w13 rfl (jmo w1 rfl z1))) (jmw w15) (jmo w15 rfl (jmw w13)) J Sm)
    ·
      refine x_iloadn (x := v3) rfl rfl ?_
      refine x_bipush (v := 122) rfl kb_122 ?_
      refine x_icgt (tgt := 14) rfl rfl (ti_gt rfl jk_122 ⟨fun c16 => ?_, fun c16 => ?_⟩)
      ·
        refine x_iloadn (x := v3) rfl rfl ?_
        refine x_bipush (v := 48) rfl kb_48 ?_
        refine x_iclt (tgt := 30) rfl rfl (ti_lt rfl jk_48 (br_f (by omega) ?_))
        refine x_iloadn (x := v3) rfl rfl ?_
        refine x_bipush (v := 57) rfl kb_57 ?_
        refine x_icgt (tgt := 30) rfl rfl (ti_gt rfl jk_57 (br_t (by omega) ?_))
        refine x_iconst (v := 3) rfl ki_3 ?_
        refine x_iret rfl rfl ?_
        show jX m_X9_step 2 0 0 84 [(0, .ref 68)] [.int 3, .ref 68] _ 0 0 _
        refine z_putI (N := 6) (w := 3) 9 5 rfl f_9_28 rfl (jfin_no TX9 RX9 6 rfl rfl) hD J Sm rfl rfl jk_3 (pw_68_5 (by omega)) rfl (fun h w17 J Sm => ?_)
        refine x_aloadn (x := 68) rfl rfl ?_
        refine x_aloadn (x := 68) rfl rfl ?_
        refine z_getM (N := 6) (v := g1) 9 3 rfl f_9_22 rfl J rfl (jmo w17 rfl (jmo w1 rfl z1)) ?_
        refine x_iconst (v := 1) rfl ki_1 ?_
        refine z_iadd rfl rfl jk_1 (by omega) (fun v18 ev18 => ?_)
        refine z_putI (N := 6) (w := v18.toInt) 9 4 rfl f_9_25 rfl (jfin_no TX9 RX9 6 rfl rfl) hD J Sm rfl rfl rfl (pw_68_4 (by omega)) rfl (fun h w19 J Sm => ?_)
        exact jX.sub (jsb_c rfl jsb_n) (ct_X9_step_r68_97 hD hQ  400 g0 g1 v18 3 h (by omega) (jr_of rfl (by omega)) (jr_of rfl (by omega)) (jr_of rfl (by omega)) (jr_of jk_3 (by omega)) (jmo w19 rfl (jmo w17 rfl (jmo w1 rfl z0))) (jmo w19 rfl (jmo w17 rfl (jmo w1 rfl z1))) (jmw w19) (jmo w19 rfl (jmw w17)) J Sm)
      ·
        refine x_iconst (v := 1) rfl ki_1 ?_
        refine x_iret rfl rfl ?_
        show jX m_X9_step 2 0 0 84 [(0, .ref 68)] [.int 1, .ref 68] _ 0 0 _
        refine z_putI (N := 6) (w := 1) 9 5 rfl f_9_28 rfl (jfin_no TX9 RX9 6 rfl rfl) hD J Sm rfl rfl jk_1 (pw_68_5 (by omega)) rfl (fun h w20 J Sm => ?_)
        refine x_aloadn (x := 68) rfl rfl ?_
        refine x_aloadn (x := 68) rfl rfl ?_
        refine z_getM (N := 6) (v := g1) 9 3 rfl f_9_22 rfl J rfl (jmo w20 rfl (jmo w1 rfl z1)) ?_
        refine x_iconst (v := 1) rfl ki_1 ?_
        refine z_iadd rfl rfl jk_1 (by omega) (fun v21 ev21 => ?_)
        refine z_putI (N := 6) (w := v21.toInt) 9 4 rfl f_9_25 rfl (jfin_no TX9 RX9 6 rfl rfl) hD J Sm rfl rfl rfl (pw_68_4 (by omega)) rfl (fun h w22 J Sm => ?_)
        exact jX.sub (jsb_c rfl jsb_n) (ct_X9_step_r68_97 hD hQ  400 g0 g1 v21 1 h (by omega) (jr_of rfl (by omega)) (jr_of rfl (by omega)) (jr_of rfl (by omega)) (jr_of jk_1 (by omega)) (jmo w22 rfl (jmo w20 rfl (jmo w1 rfl z0))) (jmo w22 rfl (jmo w20 rfl (jmo w1 rfl z1))) (jmw w22) (jmo w22 rfl (jmw w20)) J Sm)
  ·
    refine x_aloadn (x := 68) rfl rfl ?_
    refine x_iconst (v := 0) rfl ki_0 ?_
    refine z_putI (N := 6) (w := 0) 9 5 rfl f_9_28 rfl (jfin_no TX9 RX9 6 rfl rfl) hD J Sm rfl rfl jk_0 (pw_68_5 (by omega)) rfl (fun h w23 J Sm => ?_)
    refine x_vret rfl rfl ?_
    exact hQ _ J Sm _ _ (jmw w23) (jmo w23 rfl (jmo w1 rfl z1)) (by have := jk_0; omega)
set_option maxRecDepth 100000 in
set_option maxHeartbeats 4000000 in
theorem ct_X9_step_r68_8 {Dy : jH → Prop} {h0 : jH} {Q : Option Value → jH → Prop} (hD : jDk Dy) (hQ : ∀ hx9, jJ jSgX Dy hx9 → jSm fp_X9_step_r68 h0 hx9 → ∀ u0 u1 : Int32, jiv hx9 68 5 = u0 → jiv hx9 68 3 = u1 → (u0.toInt ≠ 3 ∨ u1.toInt ≤ 399) → Q none hx9) : ∀ r : Nat, ∀ (g0 : Int32) (g1 : Int32) (h : jH), 400 - g0.toInt < (r : Int) → 0 ≤ g0.toInt ∧ g0.toInt ≤ 400 → 0 ≤ g1.toInt ∧ g1.toInt ≤ 3 → jiv h 68 3 = g0 → jiv h 68 5 = g1 → jJ jSgX Dy h → jSm fp_X9_step_r68 h0 h → jX m_X9_step 2 0 0 8 [(0, .ref 68)] [] h 0 0 Q := by
  intro r
  induction r with
  | zero =>
    intro g0 g1 h hm y0 y1 z0 z1  J Sm
    exfalso
    omega
  | succ r ih =>
    intro g0 g1 h hm y0 y1 z0 z1  J Sm
    refine x_aloadn (x := 68) rfl rfl ?_
    refine z_getM (N := 6) (v := g0) 9 3 rfl f_9_22 rfl J rfl z0 ?_
    refine x_aloadn (x := 68) rfl rfl ?_
    refine z_getI (N := 6) 9 1 rfl f_9_15 rfl J rfl sg_68_1_2_1_0_1 (fun v1 qv1 ev1 => ?_)
    refine x_icge (tgt := 46) rfl rfl (ti_ge rfl rfl ⟨fun c2 => ?_, fun c2 => ?_⟩)
    ·
      exact jX.sub (jsb_c rfl jsb_n) (ct_X9_step_r68_46 hD hQ  v1 g0 g1 h (jr_of rfl (by omega)) (jr_of rfl (by omega)) (jr_of rfl (by omega)) qv1 z0 z1 J Sm)
    ·
      refine x_aloadn (x := 68) rfl rfl ?_
      refine z_getR (N := 6) (b := 69) 9 0 rfl f_9_11 rfl J rfl 8704 ⟨rfl, rfl⟩ rfl ?_
      refine x_aloadn (x := 68) rfl rfl ?_
      refine z_getM (N := 6) (v := g0) 9 3 rfl f_9_22 rfl J rfl z0 ?_
      refine z_iald (N := 400) rfl J rfl sg_69_0_400_1_0_1 rfl (by omega) (fun v3 qv3 ev3 => ?_)
      refine x_bipush (v := 32) rfl kb_32 ?_
      refine x_icne (tgt := 46) rfl rfl (ti_ne rfl jk_32 ⟨fun c4 => ?_, fun c4 => ?_⟩)
      ·
        exact jX.sub (jsb_c rfl jsb_n) (ct_X9_step_r68_46 hD hQ  v1 g0 g1 h (jr_of rfl (by omega)) (jr_of rfl (by omega)) (jr_of rfl (by omega)) qv1 z0 z1 J Sm)
      ·
        refine x_aloadn (x := 68) rfl rfl ?_
        refine x_dup rfl rfl ?_
        refine z_getM (N := 6) (v := g0) 9 3 rfl f_9_22 rfl J rfl z0 ?_
        refine x_iconst (v := 1) rfl ki_1 ?_
        refine z_iadd rfl rfl jk_1 (by omega) (fun v5 ev5 => ?_)
        refine z_putI (N := 6) (w := v5.toInt) 9 3 rfl f_9_22 rfl (jfin_no TX9 RX9 6 rfl rfl) hD J Sm rfl rfl rfl (pw_68_3 (by omega)) rfl (fun h w6 J Sm => ?_)
        refine x_goto (tgt := 8) rfl rfl ?_
        exact jX.sub (jsb_c rfl jsb_n) (ih v5 g1 h (by omega) (jr_of rfl (by omega)) (jr_of rfl (by omega)) (jmw w6) (jmo w6 rfl z1) J Sm)
set_option maxRecDepth 100000 in
set_option maxHeartbeats 4000000 in
theorem sf_X9_step_r68 {Dy : jH → Prop} {h : jH} {Q : Option Value → jH → Prop} (hD : jDk Dy) (J : jJ jSgX Dy h) {p0 p1 : Int32} (zp0 : jiv h 68 5 = p0) (zp1 : jiv h 68 3 = p1) (rl_p0 : (p0.toInt ≠ 3 ∨ p1.toInt ≤ 399)) (hQ : ∀ hx9, jJ jSgX Dy hx9 → jSm fp_X9_step_r68 h hx9 → ∀ u0 u1 : Int32, jiv hx9 68 5 = u0 → jiv hx9 68 3 = u1 → (u0.toInt ≠ 3 ∨ u1.toInt ≤ 399) → Q none hx9) : jC m_X9_step 2 0 0 [.ref 68] h Q := by
  refine jC.of rfl k_X9_step rfl ?_
  have Sm := jSm_rf fp_X9_step_r68 h
  have ep0 := (show 0 ≤ p0.toInt ∧ p0.toInt ≤ 3 from zp0 ▸ jrg_f J sg_68_5_6_1_0_1)
  have ep1 := (show 0 ≤ p1.toInt ∧ p1.toInt ≤ 400 from zp1 ▸ jrg_f J sg_68_3_4_1_0_1)
  show jX m_X9_step 2 0 0 0 [(0, .ref 68)] [] _ 0 0 _
  refine x_aloadn (x := 68) rfl rfl ?_
  refine x_aloadn (x := 68) rfl rfl ?_
  refine z_getI (N := 6) 9 4 rfl f_9_25 rfl J rfl sg_68_4_5_1_0_1 (fun v1 qv1 ev1 => ?_)
  refine z_putI (N := 6) (w := v1.toInt) 9 3 rfl f_9_22 rfl (jfin_no TX9 RX9 6 rfl rfl) hD J Sm rfl rfl rfl (pw_68_3 (by omega)) rfl (fun h w2 J Sm => ?_)
  exact jX.sub (jsb_c rfl jsb_n) (ct_X9_step_r68_8 hD hQ  401 v1 p0 h (by omega) (jr_of rfl (by omega)) (jr_of rfl (by omega)) (jmw w2) (jmo w2 rfl zp0) J Sm)
def fp_X5_readName_r70 : jFp := [(68, 2, 3), (68, 3, 4), (68, 4, 5), (68, 5, 6), (71, 0, 84)]
set_option maxRecDepth 100000 in
set_option maxHeartbeats 4000000 in
theorem ct_X5_readName_r70_73 {Dy : jH → Prop} {h0 : jH} {Q : Option Value → jH → Prop} (hD : jDk Dy) (hQ : ∀ (v : Int32) hx9, 0 ≤ v.toInt ∧ v.toInt ≤ 1 → jJ jSgX Dy hx9 → jSm fp_X5_readName_r70 h0 hx9 → ∀ u0 u1 : Int32, jiv hx9 68 5 = u0 → jiv hx9 68 3 = u1 → (u0.toInt ≠ 3 ∨ u1.toInt ≤ 399) → Q (some (.int v)) hx9) : ∀ (g0 : Int32) (g1 : Int32) (h : jH), 0 ≤ g0.toInt ∧ g0.toInt ≤ 400 → 0 ≤ g1.toInt ∧ g1.toInt ≤ 3 → (g1.toInt ≠ 3 ∨ g0.toInt ≤ 399) → jiv h 68 3 = g0 → jiv h 68 5 = g1 → jJ jSgX Dy h → jSm fp_X5_readName_r70 h0 h → jX m_X5_readName 3 0 0 73 [(0, .ref 70)] [] h 0 0 Q := by
  intro g0 g1 h y0 y1 y2 z0 z1  J Sm
  refine x_aloadn (x := 70) rfl rfl ?_
  refine z_getR (N := 9) (b := 68) 5 1 rfl f_5_39 rfl J rfl 8961 ⟨rfl, rfl⟩ rfl ?_
  refine x_inv (N := m_X9_blame) (As := []) (b := 68) (st := []) (dx9 := 2) (mc := 0) (ms := 0) (host := "") 9 rfl t_X9_blame ⟨Or.inl q_5_64, i_X9_blame.1, i_X9_blame.2⟩ ⟨by decide, rfl⟩ (congrArg Prod.fst (J.1.1 68 (9, 6) rfl)) rfl (by decide) rfl rfl ⟨by decide, by decide⟩ (jC.of rfl k_X9_blame rfl ?_)
  show jX m_X9_blame 2 0 0 0 [(0, .ref 68)] [] _ 0 0 _
  refine x_aloadn (x := 68) rfl rfl ?_
  refine x_aloadn (x := 68) rfl rfl ?_
  refine z_getM (N := 6) (v := g0) 9 3 rfl f_9_22 rfl J rfl z0 ?_
  refine z_putI (N := 6) (w := g0.toInt) 9 2 rfl f_9_19 rfl (jfin_no TX9 RX9 6 rfl rfl) hD J Sm rfl rfl rfl (pw_68_2 (by omega)) rfl (fun h w1 J Sm => ?_)
  refine x_iconst (v := 0) rfl ki_0 ?_
  refine x_zret rfl rfl (by decide) ?_
  show jX m_X5_readName 3 0 0 80 [(0, .ref 70)] [.int 0] _ 0 0 _
  refine x_zret rfl rfl (by decide) ?_
  exact hQ _ _ (jr_of jk_0 (by omega)) J Sm _ _ (jmo w1 rfl z1) (jmo w1 rfl z0) (by omega)
set_option maxRecDepth 100000 in
set_option maxHeartbeats 4000000 in
theorem ct_X5_readName_r70_200188 {Dy : jH → Prop} {h0 : jH} {Q : Option Value → jH → Prop} (hD : jDk Dy) (hQ : ∀ (v : Int32) hx9, 0 ≤ v.toInt ∧ v.toInt ≤ 1 → jJ jSgX Dy hx9 → jSm fp_X5_readName_r70 h0 hx9 → ∀ u0 u1 : Int32, jiv hx9 68 5 = u0 → jiv hx9 68 3 = u1 → (u0.toInt ≠ 3 ∨ u1.toInt ≤ 399) → Q (some (.int v)) hx9) : ∀ (s1 : Int32) (g0 : Int32) (g1 : Int32) (h : jH), 1 ≤ s1.toInt ∧ s1.toInt ≤ 71 → s1.toInt % 14 = 1 → 0 ≤ g0.toInt ∧ g0.toInt ≤ 400 → 0 ≤ g1.toInt ∧ g1.toInt ≤ 3 → (g1.toInt ≠ 3 ∨ g0.toInt ≤ 399) → jiv h 68 3 = g0 → jiv h 68 5 = g1 → jJ jSgX Dy h → jSm fp_X5_readName_r70 h0 h → jX m_X5_readName 3 0 0 188 [] [.int 0, .int s1, .ref 71] h 0 0 Q := by
  intro s1 g0 g1 h y0 y1 y2 y3 y4 z0 z1  J Sm
  refine z_iast (N := 84) (l := 0) (u := 84) (w := 0) rfl hD J Sm rfl rfl rfl (by omega) jk_0 (wr_71 (fun q1 q2 q3 q4 => by omega) (fun q1 q2 q3 q4 => by omega) (fun q1 q2 q3 q4 => by omega) (fun q1 q2 q3 q4 => by omega)) rfl (fun h w1 J Sm => ?_)
  refine x_iconst (v := 1) rfl ki_1 ?_
  refine x_zret rfl rfl (by decide) ?_
  exact hQ _ _ (jr_of jk_1 (by omega)) J Sm _ _ (jmo w1 rfl z1) (jmo w1 rfl z0) (by omega)
set_option maxRecDepth 100000 in
set_option maxHeartbeats 4000000 in
theorem ct_X5_readName_r70_300188 {Dy : jH → Prop} {h0 : jH} {Q : Option Value → jH → Prop} (hD : jDk Dy) (hQ : ∀ (v : Int32) hx9, 0 ≤ v.toInt ∧ v.toInt ≤ 1 → jJ jSgX Dy hx9 → jSm fp_X5_readName_r70 h0 hx9 → ∀ u0 u1 : Int32, jiv hx9 68 5 = u0 → jiv hx9 68 3 = u1 → (u0.toInt ≠ 3 ∨ u1.toInt ≤ 399) → Q (some (.int v)) hx9) : ∀ (s1 : Int32) (g0 : Int32) (g1 : Int32) (h : jH), 1 ≤ s1.toInt ∧ s1.toInt ≤ 71 → s1.toInt % 14 = 1 → 0 ≤ g0.toInt ∧ g0.toInt ≤ 400 → 0 ≤ g1.toInt ∧ g1.toInt ≤ 3 → (g1.toInt ≠ 3 ∨ g0.toInt ≤ 399) → jiv h 68 3 = g0 → jiv h 68 5 = g1 → jJ jSgX Dy h → jSm fp_X5_readName_r70 h0 h → jX m_X5_readName 3 0 0 188 [] [.int 1, .int s1, .ref 71] h 0 0 Q := by
  intro s1 g0 g1 h y0 y1 y2 y3 y4 z0 z1  J Sm
  refine z_iast (N := 84) (l := 0) (u := 84) (w := 1) rfl hD J Sm rfl rfl rfl (by omega) jk_1 (wr_71 (fun q1 q2 q3 q4 => by omega) (fun q1 q2 q3 q4 => by omega) (fun q1 q2 q3 q4 => by omega) (fun q1 q2 q3 q4 => by omega)) rfl (fun h w1 J Sm => ?_)
  refine x_iconst (v := 1) rfl ki_1 ?_
  refine x_zret rfl rfl (by decide) ?_
  exact hQ _ _ (jr_of jk_1 (by omega)) J Sm _ _ (jmo w1 rfl z1) (jmo w1 rfl z0) (by omega)
set_option maxRecDepth 100000 in
set_option maxHeartbeats 4000000 in
theorem ct_X5_readName_r70_172 {Dy : jH → Prop} {h0 : jH} {Q : Option Value → jH → Prop} (hD : jDk Dy) (hQ : ∀ (v : Int32) hx9, 0 ≤ v.toInt ∧ v.toInt ≤ 1 → jJ jSgX Dy hx9 → jSm fp_X5_readName_r70 h0 hx9 → ∀ u0 u1 : Int32, jiv hx9 68 5 = u0 → jiv hx9 68 3 = u1 → (u0.toInt ≠ 3 ∨ u1.toInt ≤ 399) → Q (some (.int v)) hx9) : ∀ (l1 : Int32) (l3 : Int32) (g0 : Int32) (g1 : Int32) (h : jH), 0 ≤ l1.toInt ∧ l1.toInt ≤ 70 → l1.toInt % 14 = 0 → 0 ≤ l3.toInt ∧ l3.toInt ≤ 1 → 0 ≤ g0.toInt ∧ g0.toInt ≤ 400 → 0 ≤ g1.toInt ∧ g1.toInt ≤ 3 → (g1.toInt ≠ 3 ∨ g0.toInt ≤ 399) → jiv h 68 3 = g0 → jiv h 68 5 = g1 → jJ jSgX Dy h → jSm fp_X5_readName_r70 h0 h → jX m_X5_readName 3 0 0 172 [(0, .ref 70), (1, .int l1), (3, .int l3)] [] h 0 0 Q := by
  intro l1 l3 g0 g1 h y0 y1 y2 y3 y4 y5 z0 z1  J Sm
  refine x_aloadn (x := 70) rfl rfl ?_
  refine z_getR (N := 9) (b := 71) 5 2 rfl f_5_9 rfl J rfl 8962 ⟨rfl, rfl⟩ rfl ?_
  refine x_iloadn (x := l1) rfl rfl ?_
  refine x_iconst (v := 1) rfl ki_1 ?_
  refine z_iadd rfl rfl jk_1 (by omega) (fun v1 ev1 => ?_)
  refine x_iloadn (x := l3) rfl rfl ?_
  refine x_ifeq (tgt := 187) rfl rfl (ti_eq rfl jk_0 ⟨fun c2 => ?_, fun c2 => ?_⟩)
  ·
    refine x_iconst (v := 0) rfl ki_0 ?_
    exact jX.sub jsb_n (ct_X5_readName_r70_200188 hD hQ  v1 g0 g1 h (jr_of rfl (by omega)) (jr_mod rfl (by omega)) (jr_of rfl (by omega)) (jr_of rfl (by omega)) (by omega) z0 z1 J Sm)
  ·
    refine x_iconst (v := 1) rfl ki_1 ?_
    refine x_goto (tgt := 188) rfl rfl ?_
    exact jX.sub jsb_n (ct_X5_readName_r70_300188 hD hQ  v1 g0 g1 h (jr_of rfl (by omega)) (jr_mod rfl (by omega)) (jr_of rfl (by omega)) (jr_of rfl (by omega)) (by omega) z0 z1 J Sm)
set_option maxRecDepth 100000 in
set_option maxHeartbeats 4000000 in
theorem ct_X5_readName_r70_200143 {Dy : jH → Prop} {h0 : jH} {Q : Option Value → jH → Prop} (hD : jDk Dy) (hQ : ∀ (v : Int32) hx9, 0 ≤ v.toInt ∧ v.toInt ≤ 1 → jJ jSgX Dy hx9 → jSm fp_X5_readName_r70 h0 hx9 → ∀ u0 u1 : Int32, jiv hx9 68 5 = u0 → jiv hx9 68 3 = u1 → (u0.toInt ≠ 3 ∨ u1.toInt ≤ 399) → Q (some (.int v)) hx9) : ∀ (l1 : Int32) (g0 : Int32) (g1 : Int32) (h : jH), 0 ≤ l1.toInt ∧ l1.toInt ≤ 70 → l1.toInt % 14 = 0 → 0 ≤ g0.toInt ∧ g0.toInt ≤ 400 → 1 ≤ g1.toInt ∧ g1.toInt ≤ 1 → (g1.toInt ≠ 3 ∨ g0.toInt ≤ 399) → jiv h 68 3 = g0 → jiv h 68 5 = g1 → jJ jSgX Dy h → jSm fp_X5_readName_r70 h0 h → jX m_X5_readName 3 0 0 143 [(0, .ref 70), (1, .int l1)] [.int 0] h 0 0 Q := by
  intro l1 g0 g1 h y0 y1 y2 y3 y4 z0 z1  J Sm
  refine x_istoren (lsx9 := [(3, .int 0), (0, .ref 70), (1, .int l1)]) rfl rfl rfl ?_
  refine x_aloadn (x := 70) rfl rfl ?_
  refine z_getR (N := 9) (b := 68) 5 1 rfl f_5_39 rfl J rfl 8961 ⟨rfl, rfl⟩ rfl ?_
  refine x_inv (N := m_X9_step) (As := []) (b := 68) (st := []) (dx9 := 2) (mc := 0) (ms := 0) (host := "") 9 rfl t_X9_step ⟨Or.inl q_5_67, i_X9_step.1, i_X9_step.2⟩ ⟨by decide, rfl⟩ (congrArg Prod.fst (J.1.1 68 (9, 6) rfl)) rfl (by decide) rfl rfl ⟨by decide, by decide⟩ (sf_X9_step_r68  hD J z1 z0 (by omega)  (fun h J S1 u2 u3 qu2 qu3 ru2 => ?_))
  have Sm := jSm_tr rfl Sm S1
  have eu2 := (show 0 ≤ u2.toInt ∧ u2.toInt ≤ 3 from qu2 ▸ jrg_f J sg_68_5_6_1_0_1)
  have eu3 := (show 0 ≤ u3.toInt ∧ u3.toInt ≤ 400 from qu3 ▸ jrg_f J sg_68_3_4_1_0_1)
  show jX m_X5_readName 3 0 0 151 [(3, .int 0), (0, .ref 70), (1, .int l1)] [] _ 0 0 _
  refine x_aloadn (x := 70) rfl rfl ?_
  refine z_getR (N := 9) (b := 68) 5 1 rfl f_5_39 rfl J rfl 8961 ⟨rfl, rfl⟩ rfl ?_
  refine x_bipush (v := 45) rfl kb_45 ?_
  refine x_inv (N := m_X9_isSign) (As := [.int 45]) (b := 68) (st := []) (dx9 := 1) (mc := 0) (ms := 0) (host := "") 9 rfl t_X9_isSign ⟨Or.inl q_5_48, i_X9_isSign.1, i_X9_isSign.2⟩ ⟨by decide, rfl⟩ (congrArg Prod.fst (J.1.1 68 (9, 6) rfl)) rfl (by decide) rfl rfl ⟨by decide, by decide⟩ (sf_X9_isSign_r68 (jr_of jk_45 (by omega)) hD J qu2 qu3 (by omega)  (fun v7 h ev7 J S4 u5 u6 qu5 qu6 ru5 => ?_))
  have Sm := jSm_tr rfl Sm S4
  have eu5 := (show 0 ≤ u5.toInt ∧ u5.toInt ≤ 3 from qu5 ▸ jrg_f J sg_68_5_6_1_0_1)
  have eu6 := (show 0 ≤ u6.toInt ∧ u6.toInt ≤ 400 from qu6 ▸ jrg_f J sg_68_3_4_1_0_1)
  show jX m_X5_readName 3 0 0 160 [(3, .int 0), (0, .ref 70), (1, .int l1)] [.int v7] _ 0 0 _
  refine x_ifeq (tgt := 172) rfl rfl (ti_eq rfl jk_0 ⟨fun c8 => ?_, fun c8 => ?_⟩)
  ·
    exact jX.sub (jsb_c rfl (jsb_c rfl (jsb_c rfl jsb_n))) (ct_X5_readName_r70_172 hD hQ  l1 0 u6 u5 h (jr_of rfl (by omega)) (jr_mod rfl (by omega)) (jr_of jk_0 (by omega)) (jr_of rfl (by omega)) (jr_of rfl (by omega)) (by omega) qu6 qu5 J Sm)
  ·
    refine x_iconst (v := 1) rfl ki_1 ?_
    refine x_istoren (lsx9 := [(3, .int 1), (0, .ref 70), (1, .int l1)]) rfl rfl rfl ?_
    refine x_aloadn (x := 70) rfl rfl ?_
    refine z_getR (N := 9) (b := 68) 5 1 rfl f_5_39 rfl J rfl 8961 ⟨rfl, rfl⟩ rfl ?_
    refine x_inv (N := m_X9_step) (As := []) (b := 68) (st := []) (dx9 := 2) (mc := 0) (ms := 0) (host := "") 9 rfl t_X9_step ⟨Or.inl q_5_67, i_X9_step.1, i_X9_step.2⟩ ⟨by decide, rfl⟩ (congrArg Prod.fst (J.1.1 68 (9, 6) rfl)) rfl (by decide) rfl rfl ⟨by decide, by decide⟩ (sf_X9_step_r68  hD J qu5 qu6 (by omega)  (fun h J S9 u10 u11 qu10 qu11 ru10 => ?_))
    have Sm := jSm_tr rfl Sm S9
    have eu10 := (show 0 ≤ u10.toInt ∧ u10.toInt ≤ 3 from qu10 ▸ jrg_f J sg_68_5_6_1_0_1)
    have eu11 := (show 0 ≤ u11.toInt ∧ u11.toInt ≤ 400 from qu11 ▸ jrg_f J sg_68_3_4_1_0_1)
    show jX m_X5_readName 3 0 0 172 [(3, .int 1), (0, .ref 70), (1, .int l1)] [] _ 0 0 _
    exact jX.sub (jsb_c rfl (jsb_c rfl (jsb_c rfl jsb_n))) (ct_X5_readName_r70_172 hD hQ  l1 1 u11 u10 h (jr_of rfl (by omega)) (jr_mod rfl (by omega)) (jr_of jk_1 (by omega)) (jr_of rfl (by omega)) (jr_of rfl (by omega)) (by omega) qu11 qu10 J Sm)
set_option maxRecDepth 100000 in
set_option maxHeartbeats 4000000 in
theorem ct_X5_readName_r70_300143 {Dy : jH → Prop} {h0 : jH} {Q : Option Value → jH → Prop} (hD : jDk Dy) (hQ : ∀ (v : Int32) hx9, 0 ≤ v.toInt ∧ v.toInt ≤ 1 → jJ jSgX Dy hx9 → jSm fp_X5_readName_r70 h0 hx9 → ∀ u0 u1 : Int32, jiv hx9 68 5 = u0 → jiv hx9 68 3 = u1 → (u0.toInt ≠ 3 ∨ u1.toInt ≤ 399) → Q (some (.int v)) hx9) : ∀ (l1 : Int32) (g0 : Int32) (g1 : Int32) (h : jH), 0 ≤ l1.toInt ∧ l1.toInt ≤ 70 → l1.toInt % 14 = 0 → 0 ≤ g0.toInt ∧ g0.toInt ≤ 400 → 1 ≤ g1.toInt ∧ g1.toInt ≤ 1 → (g1.toInt ≠ 3 ∨ g0.toInt ≤ 399) → jiv h 68 3 = g0 → jiv h 68 5 = g1 → jJ jSgX Dy h → jSm fp_X5_readName_r70 h0 h → jX m_X5_readName 3 0 0 143 [(0, .ref 70), (1, .int l1)] [.int 1] h 0 0 Q := by
  intro l1 g0 g1 h y0 y1 y2 y3 y4 z0 z1  J Sm
  refine x_istoren (lsx9 := [(3, .int 1), (0, .ref 70), (1, .int l1)]) rfl rfl rfl ?_
  refine x_aloadn (x := 70) rfl rfl ?_
  refine z_getR (N := 9) (b := 68) 5 1 rfl f_5_39 rfl J rfl 8961 ⟨rfl, rfl⟩ rfl ?_
  refine x_inv (N := m_X9_step) (As := []) (b := 68) (st := []) (dx9 := 2) (mc := 0) (ms := 0) (host := "") 9 rfl t_X9_step ⟨Or.inl q_5_67, i_X9_step.1, i_X9_step.2⟩ ⟨by decide, rfl⟩ (congrArg Prod.fst (J.1.1 68 (9, 6) rfl)) rfl (by decide) rfl rfl ⟨by decide, by decide⟩ (sf_X9_step_r68  hD J z1 z0 (by omega)  (fun h J S1 u2 u3 qu2 qu3 ru2 => ?_))
  have Sm := jSm_tr rfl Sm S1
  have eu2 := (show 0 ≤ u2.toInt ∧ u2.toInt ≤ 3 from qu2 ▸ jrg_f J sg_68_5_6_1_0_1)
  have eu3 := (show 0 ≤ u3.toInt ∧ u3.toInt ≤ 400 from qu3 ▸ jrg_f J sg_68_3_4_1_0_1)
  show jX m_X5_readName 3 0 0 151 [(3, .int 1), (0, .ref 70), (1, .int l1)] [] _ 0 0 _
  refine x_aloadn (x := 70) rfl rfl ?_
  refine z_getR (N := 9) (b := 68) 5 1 rfl f_5_39 rfl J rfl 8961 ⟨rfl, rfl⟩ rfl ?_
  refine x_bipush (v := 45) rfl kb_45 ?_
  refine x_inv (N := m_X9_isSign) (As := [.int 45]) (b := 68) (st := []) (dx9 := 1) (mc := 0) (ms := 0) (host := "") 9 rfl t_X9_isSign ⟨Or.inl q_5_48, i_X9_isSign.1, i_X9_isSign.2⟩ ⟨by decide, rfl⟩ (congrArg Prod.fst (J.1.1 68 (9, 6) rfl)) rfl (by decide) rfl rfl ⟨by decide, by decide⟩ (sf_X9_isSign_r68 (jr_of jk_45 (by omega)) hD J qu2 qu3 (by omega)  (fun v7 h ev7 J S4 u5 u6 qu5 qu6 ru5 => ?_))
  have Sm := jSm_tr rfl Sm S4
  have eu5 := (show 0 ≤ u5.toInt ∧ u5.toInt ≤ 3 from qu5 ▸ jrg_f J sg_68_5_6_1_0_1)
  have eu6 := (show 0 ≤ u6.toInt ∧ u6.toInt ≤ 400 from qu6 ▸ jrg_f J sg_68_3_4_1_0_1)
  show jX m_X5_readName 3 0 0 160 [(3, .int 1), (0, .ref 70), (1, .int l1)] [.int v7] _ 0 0 _
  refine x_ifeq (tgt := 172) rfl rfl (ti_eq rfl jk_0 ⟨fun c8 => ?_, fun c8 => ?_⟩)
  ·
    exact jX.sub (jsb_c rfl (jsb_c rfl (jsb_c rfl jsb_n))) (ct_X5_readName_r70_172 hD hQ  l1 1 u6 u5 h (jr_of rfl (by omega)) (jr_mod rfl (by omega)) (jr_of jk_1 (by omega)) (jr_of rfl (by omega)) (jr_of rfl (by omega)) (by omega) qu6 qu5 J Sm)
  ·
    refine x_iconst (v := 1) rfl ki_1 ?_
    refine x_istoren (lsx9 := [(3, .int 1), (0, .ref 70), (1, .int l1)]) rfl rfl rfl ?_
    refine x_aloadn (x := 70) rfl rfl ?_
    refine z_getR (N := 9) (b := 68) 5 1 rfl f_5_39 rfl J rfl 8961 ⟨rfl, rfl⟩ rfl ?_
    refine x_inv (N := m_X9_step) (As := []) (b := 68) (st := []) (dx9 := 2) (mc := 0) (ms := 0) (host := "") 9 rfl t_X9_step ⟨Or.inl q_5_67, i_X9_step.1, i_X9_step.2⟩ ⟨by decide, rfl⟩ (congrArg Prod.fst (J.1.1 68 (9, 6) rfl)) rfl (by decide) rfl rfl ⟨by decide, by decide⟩ (sf_X9_step_r68  hD J qu5 qu6 (by omega)  (fun h J S9 u10 u11 qu10 qu11 ru10 => ?_))
    have Sm := jSm_tr rfl Sm S9
    have eu10 := (show 0 ≤ u10.toInt ∧ u10.toInt ≤ 3 from qu10 ▸ jrg_f J sg_68_5_6_1_0_1)
    have eu11 := (show 0 ≤ u11.toInt ∧ u11.toInt ≤ 400 from qu11 ▸ jrg_f J sg_68_3_4_1_0_1)
    show jX m_X5_readName 3 0 0 172 [(3, .int 1), (0, .ref 70), (1, .int l1)] [] _ 0 0 _
    exact jX.sub (jsb_c rfl (jsb_c rfl (jsb_c rfl jsb_n))) (ct_X5_readName_r70_172 hD hQ  l1 1 u11 u10 h (jr_of rfl (by omega)) (jr_mod rfl (by omega)) (jr_of jk_1 (by omega)) (jr_of rfl (by omega)) (jr_of rfl (by omega)) (by omega) qu11 qu10 J Sm)
set_option maxRecDepth 100000 in
set_option maxHeartbeats 4000000 in
theorem ct_X5_readName_r70_92 {Dy : jH → Prop} {h0 : jH} {Q : Option Value → jH → Prop} (hD : jDk Dy) (hQ : ∀ (v : Int32) hx9, 0 ≤ v.toInt ∧ v.toInt ≤ 1 → jJ jSgX Dy hx9 → jSm fp_X5_readName_r70 h0 hx9 → ∀ u0 u1 : Int32, jiv hx9 68 5 = u0 → jiv hx9 68 3 = u1 → (u0.toInt ≠ 3 ∨ u1.toInt ≤ 399) → Q (some (.int v)) hx9) : ∀ r : Nat, ∀ (l1 : Int32) (l2 : Int32) (l3 : Int32) (g0 : Int32) (g1 : Int32) (g2 : Int32) (h : jH), 12 - l3.toInt < (r : Int) → 0 ≤ l1.toInt ∧ l1.toInt ≤ 70 → l1.toInt % 14 = 0 → (-400) ≤ l2.toInt ∧ l2.toInt ≤ 12 → 0 ≤ l3.toInt ∧ l3.toInt ≤ 12 → 0 ≤ g0.toInt ∧ g0.toInt ≤ 400 → 0 ≤ g1.toInt ∧ g1.toInt ≤ 400 → 1 ≤ g2.toInt ∧ g2.toInt ≤ 1 → (g2.toInt ≠ 3 ∨ g0.toInt ≤ 399) → jiv h 68 3 = g0 → jiv h 68 4 = g1 → jiv h 68 5 = g2 → jJ jSgX Dy h → jSm fp_X5_readName_r70 h0 h → jX m_X5_readName 3 0 0 92 [(0, .ref 70), (1, .int l1), (2, .int l2), (3, .int l3)] [] h 0 0 Q := by
  intro r
  induction r with
  | zero =>
    intro l1 l2 l3 g0 g1 g2 h hm y0 y1 y2 y3 y4 y5 y6 y7 z0 z1 z2  J Sm
    exfalso
    omega
  | succ r ih =>
    intro l1 l2 l3 g0 g1 g2 h hm y0 y1 y2 y3 y4 y5 y6 y7 z0 z1 z2  J Sm
    refine x_iloadn (x := l3) rfl rfl ?_
    refine x_iloadn (x := l2) rfl rfl ?_
    refine x_icge (tgt := 121) rfl rfl (ti_ge rfl rfl ⟨fun c1 => ?_, fun c1 => ?_⟩)
    ·
      refine x_aloadn (x := 70) rfl rfl ?_
      refine z_getR (N := 9) (b := 68) 5 1 rfl f_5_39 rfl J rfl 8961 ⟨rfl, rfl⟩ rfl ?_
      refine z_getM (N := 6) (v := g1) 9 4 rfl f_5_83 rfl J rfl z1 ?_
      refine x_aloadn (x := 70) rfl rfl ?_
      refine z_getR (N := 9) (b := 68) 5 1 rfl f_5_39 rfl J rfl 8961 ⟨rfl, rfl⟩ rfl ?_
      refine z_getI (N := 6) 9 1 rfl f_5_87 rfl J rfl sg_68_1_2_1_0_1 (fun v2 qv2 ev2 => ?_)
      refine x_icne (tgt := 142) rfl rfl (ti_ne rfl rfl ⟨fun c3 => ?_, fun c3 => ?_⟩)
      ·
        refine x_iconst (v := 0) rfl ki_0 ?_
        exact jX.sub (jsb_c rfl (jsb_c rfl jsb_n)) (ct_X5_readName_r70_200143 hD hQ  l1 g0 g2 h (jr_of rfl (by omega)) (jr_mod rfl (by omega)) (jr_of rfl (by omega)) (jr_of rfl (by omega)) (by omega) z0 z2 J Sm)
      ·
        refine x_iconst (v := 1) rfl ki_1 ?_
        refine x_goto (tgt := 143) rfl rfl ?_
        exact jX.sub (jsb_c rfl (jsb_c rfl jsb_n)) (ct_X5_readName_r70_300143 hD hQ  l1 g0 g2 h (jr_of rfl (by omega)) (jr_mod rfl (by omega)) (jr_of rfl (by omega)) (jr_of rfl (by omega)) (by omega) z0 z2 J Sm)
    ·
      refine x_aloadn (x := 70) rfl rfl ?_
      refine z_getR (N := 9) (b := 71) 5 2 rfl f_5_9 rfl J rfl 8962 ⟨rfl, rfl⟩ rfl ?_
      refine x_iloadn (x := l1) rfl rfl ?_
      refine x_iconst (v := 2) rfl ki_2 ?_
      refine z_iadd rfl rfl jk_2 (by omega) (fun v4 ev4 => ?_)
      refine x_iloadn (x := l3) rfl rfl ?_
      refine z_iadd rfl rfl rfl (by omega) (fun v5 ev5 => ?_)
      refine x_aloadn (x := 70) rfl rfl ?_
      refine z_getR (N := 9) (b := 68) 5 1 rfl f_5_39 rfl J rfl 8961 ⟨rfl, rfl⟩ rfl ?_
      refine x_iloadn (x := l3) rfl rfl ?_
      refine x_inv (N := m_X9_letter) (As := [.int l3]) (b := 68) (st := [.int v5, .ref 71]) (dx9 := 2) (mc := 0) (ms := 0) (host := "") 9 rfl t_X9_letter ⟨Or.inl q_5_79, i_X9_letter.1, i_X9_letter.2⟩ ⟨by decide, rfl⟩ (congrArg Prod.fst (J.1.1 68 (9, 6) rfl)) rfl (by decide) rfl rfl ⟨by decide, by decide⟩ (jC.of rfl k_X9_letter rfl ?_)
      show jX m_X9_letter 2 0 0 0 [(0, .ref 68), (1, .int l3)] [] _ 0 0 _
      refine x_iloadn (x := l3) rfl rfl ?_
      refine x_iflt (tgt := 31) rfl rfl (ti_lt rfl jk_0 (br_f (by omega) ?_))
      refine x_iloadn (x := l3) rfl rfl ?_
      refine x_aloadn (x := 68) rfl rfl ?_
      refine z_getM (N := 6) (v := g1) 9 4 rfl f_9_25 rfl J rfl z1 ?_
      refine x_aloadn (x := 68) rfl rfl ?_
      refine z_getM (N := 6) (v := g0) 9 3 rfl f_9_22 rfl J rfl z0 ?_
      refine z_isub rfl rfl rfl (by omega) (fun v6 ev6 => ?_)
      refine x_icge (tgt := 31) rfl rfl (ti_ge rfl rfl ⟨fun c7 => ?_, fun c7 => ?_⟩)
      ·
        refine x_iconst (v := 0) rfl ki_0 ?_
        refine x_iret rfl rfl ?_
        show jX m_X5_readName 3 0 0 114 [(0, .ref 70), (1, .int l1), (2, .int l2), (3, .int l3)] [.int 0, .int v5, .ref 71] _ 0 0 _
        refine z_iast (N := 84) (l := 0) (u := 84) (w := 0) rfl hD J Sm rfl rfl rfl (by omega) jk_0 (wr_71 (fun q1 q2 q3 q4 => by omega) (fun q1 q2 q3 q4 => by omega) (fun q1 q2 q3 q4 => by omega) (fun q1 q2 q3 q4 => by omega)) rfl (fun h w8 J Sm => ?_)
        refine z_iinc (x := l3) (lsx9 := fun v9 => [(3, .int v9), (0, .ref 70), (1, .int l1), (2, .int l2)]) rfl rfl rfl jko_1 (by omega) rfl (fun _ => rfl) (fun v9 ev9 => ?_)
        refine x_goto (tgt := 92) rfl rfl ?_
        exact jX.sub (jsb_c rfl (jsb_c rfl (jsb_c rfl (jsb_c rfl jsb_n)))) (ih l1 l2 v9 g0 g1 g2 h (by omega) (jr_of rfl (by omega)) (jr_mod rfl (by omega)) (jr_of rfl (by omega)) (jr_of rfl (by omega)) (jr_of rfl (by omega)) (jr_of rfl (by omega)) (jr_of rfl (by omega)) (by omega) (jmo w8 rfl z0) (jmo w8 rfl z1) (jmo w8 rfl z2) J Sm)
      ·
        refine x_aloadn (x := 68) rfl rfl ?_
        refine z_getR (N := 6) (b := 69) 9 0 rfl f_9_11 rfl J rfl 8704 ⟨rfl, rfl⟩ rfl ?_
        refine x_aloadn (x := 68) rfl rfl ?_
        refine z_getM (N := 6) (v := g0) 9 3 rfl f_9_22 rfl J rfl z0 ?_
        refine x_iloadn (x := l3) rfl rfl ?_
        refine z_iadd rfl rfl rfl (by omega) (fun v10 ev10 => ?_)
        refine z_iald (N := 400) rfl J rfl sg_69_0_400_1_0_1 rfl (by omega) (fun v11 qv11 ev11 => ?_)
        refine x_goto (tgt := 32) rfl rfl ?_
        refine x_iret rfl rfl ?_
        show jX m_X5_readName 3 0 0 114 [(0, .ref 70), (1, .int l1), (2, .int l2), (3, .int l3)] [.int v11, .int v5, .ref 71] _ 0 0 _
        refine z_iast (N := 84) (l := 0) (u := 84) (w := v11.toInt) rfl hD J Sm rfl rfl rfl (by omega) rfl (wr_71 (fun q1 q2 q3 q4 => by omega) (fun q1 q2 q3 q4 => by omega) (fun q1 q2 q3 q4 => by omega) (fun q1 q2 q3 q4 => by omega)) rfl (fun h w12 J Sm => ?_)
        refine z_iinc (x := l3) (lsx9 := fun v13 => [(3, .int v13), (0, .ref 70), (1, .int l1), (2, .int l2)]) rfl rfl rfl jko_1 (by omega) rfl (fun _ => rfl) (fun v13 ev13 => ?_)
        refine x_goto (tgt := 92) rfl rfl ?_
        exact jX.sub (jsb_c rfl (jsb_c rfl (jsb_c rfl (jsb_c rfl jsb_n)))) (ih l1 l2 v13 g0 g1 g2 h (by omega) (jr_of rfl (by omega)) (jr_mod rfl (by omega)) (jr_of rfl (by omega)) (jr_of rfl (by omega)) (jr_of rfl (by omega)) (jr_of rfl (by omega)) (jr_of rfl (by omega)) (by omega) (jmo w12 rfl z0) (jmo w12 rfl z1) (jmo w12 rfl z2) J Sm)
set_option maxRecDepth 100000 in
set_option maxHeartbeats 4000000 in
theorem sf_X5_readName_r70 {Dy : jH → Prop} {h : jH} {Q : Option Value → jH → Prop} {a1 : Int32} (y1 : 0 ≤ a1.toInt ∧ a1.toInt ≤ 70) (ym1 : a1.toInt % 14 = 0) (hD : jDk Dy) (J : jJ jSgX Dy h) {p0 p1 : Int32} (zp0 : jiv h 68 5 = p0) (zp1 : jiv h 68 3 = p1) (rl_p0 : (p0.toInt ≠ 3 ∨ p1.toInt ≤ 399)) (hQ : ∀ (v : Int32) hx9, 0 ≤ v.toInt ∧ v.toInt ≤ 1 → jJ jSgX Dy hx9 → jSm fp_X5_readName_r70 h hx9 → ∀ u0 u1 : Int32, jiv hx9 68 5 = u0 → jiv hx9 68 3 = u1 → (u0.toInt ≠ 3 ∨ u1.toInt ≤ 399) → Q (some (.int v)) hx9) : jC m_X5_readName 3 0 0 [.ref 70, .int a1] h Q := by
  refine jC.of rfl k_X5_readName rfl ?_
  have Sm := jSm_rf fp_X5_readName_r70 h
  have ep0 := (show 0 ≤ p0.toInt ∧ p0.toInt ≤ 3 from zp0 ▸ jrg_f J sg_68_5_6_1_0_1)
  have ep1 := (show 0 ≤ p1.toInt ∧ p1.toInt ≤ 400 from zp1 ▸ jrg_f J sg_68_3_4_1_0_1)
  show jX m_X5_readName 3 0 0 0 [(0, .ref 70), (1, .int a1)] [] _ 0 0 _
  refine x_aloadn (x := 70) rfl rfl ?_
  refine z_getR (N := 9) (b := 68) 5 1 rfl f_5_39 rfl J rfl 8961 ⟨rfl, rfl⟩ rfl ?_
  refine x_inv (N := m_X9_isEnd) (As := []) (b := 68) (st := []) (dx9 := 2) (mc := 0) (ms := 0) (host := "") 9 rfl t_X9_isEnd ⟨Or.inl q_5_60, i_X9_isEnd.1, i_X9_isEnd.2⟩ ⟨by decide, rfl⟩ (congrArg Prod.fst (J.1.1 68 (9, 6) rfl)) rfl (by decide) rfl rfl ⟨by decide, by decide⟩ (jC.of rfl k_X9_isEnd rfl ?_)
  show jX m_X9_isEnd 2 0 0 0 [(0, .ref 68)] [] _ 0 0 _
  refine x_aloadn (x := 68) rfl rfl ?_
  refine z_getM (N := 6) (v := p0) 9 5 rfl f_9_28 rfl J rfl zp0 ?_
  refine x_ifne (tgt := 11) rfl rfl (ti_ne rfl jk_0 ⟨fun c1 => ?_, fun c1 => ?_⟩)
  ·
    refine x_iconst (v := 0) rfl ki_0 ?_
    refine x_zret rfl rfl (by decide) ?_
    show jX m_X5_readName 3 0 0 7 [(0, .ref 70), (1, .int a1)] [.int 0] _ 0 0 _
    refine x_ifeq (tgt := 12) rfl rfl (ti_eq jk_0 jk_0 (br_t (by omega) ?_))
    refine x_aloadn (x := 70) rfl rfl ?_
    refine z_getR (N := 9) (b := 68) 5 1 rfl f_5_39 rfl J rfl 8961 ⟨rfl, rfl⟩ rfl ?_
    refine x_bipush (v := 63) rfl kb_63 ?_
    refine x_inv (N := m_X9_isSign) (As := [.int 63]) (b := 68) (st := []) (dx9 := 1) (mc := 0) (ms := 0) (host := "") 9 rfl t_X9_isSign ⟨Or.inl q_5_48, i_X9_isSign.1, i_X9_isSign.2⟩ ⟨by decide, rfl⟩ (congrArg Prod.fst (J.1.1 68 (9, 6) rfl)) rfl (by decide) rfl rfl ⟨by decide, by decide⟩ (sf_X9_isSign_r68 (jr_of jk_63 (by omega)) hD J zp0 zp1 (by omega)  (fun v5 h ev5 J S2 u3 u4 qu3 qu4 ru3 => ?_))
    have Sm := jSm_tr rfl Sm S2
    have eu3 := (show 0 ≤ u3.toInt ∧ u3.toInt ≤ 3 from qu3 ▸ jrg_f J sg_68_5_6_1_0_1)
    have eu4 := (show 0 ≤ u4.toInt ∧ u4.toInt ≤ 400 from qu4 ▸ jrg_f J sg_68_3_4_1_0_1)
    show jX m_X5_readName 3 0 0 21 [(0, .ref 70), (1, .int a1)] [.int v5] _ 0 0 _
    refine x_ifeq (tgt := 33) rfl rfl (ti_eq rfl jk_0 ⟨fun c6 => ?_, fun c6 => ?_⟩)
    ·
      refine x_aloadn (x := 70) rfl rfl ?_
      refine z_getR (N := 9) (b := 68) 5 1 rfl f_5_39 rfl J rfl 8961 ⟨rfl, rfl⟩ rfl ?_
      refine x_inv (N := m_X9_size) (As := []) (b := 68) (st := []) (dx9 := 2) (mc := 0) (ms := 0) (host := "") 9 rfl t_X9_size ⟨Or.inl q_5_73, i_X9_size.1, i_X9_size.2⟩ ⟨by decide, rfl⟩ (congrArg Prod.fst (J.1.1 68 (9, 6) rfl)) rfl (by decide) rfl rfl ⟨by decide, by decide⟩ (jC.of rfl k_X9_size rfl ?_)
      show jX m_X9_size 2 0 0 0 [(0, .ref 68)] [] _ 0 0 _
      refine x_aloadn (x := 68) rfl rfl ?_
      refine z_getI (N := 6) 9 4 rfl f_9_25 rfl J rfl sg_68_4_5_1_0_1 (fun v7 qv7 ev7 => ?_)
      refine x_aloadn (x := 68) rfl rfl ?_
      refine z_getM (N := 6) (v := u4) 9 3 rfl f_9_22 rfl J rfl qu4 ?_
      refine z_isub rfl rfl rfl (by omega) (fun v8 ev8 => ?_)
      refine x_iret rfl rfl ?_
      show jX m_X5_readName 3 0 0 40 [(0, .ref 70), (1, .int a1)] [.int v8] _ 0 0 _
      refine x_istoren (lsx9 := [(2, .int v8), (0, .ref 70), (1, .int a1)]) rfl rfl rfl ?_
      refine x_aloadn (x := 70) rfl rfl ?_
      refine z_getR (N := 9) (b := 68) 5 1 rfl f_5_39 rfl J rfl 8961 ⟨rfl, rfl⟩ rfl ?_
      refine x_inv (N := m_X9_isLetters) (As := []) (b := 68) (st := []) (dx9 := 2) (mc := 0) (ms := 0) (host := "") 9 rfl t_X9_isLetters ⟨Or.inl q_5_76, i_X9_isLetters.1, i_X9_isLetters.2⟩ ⟨by decide, rfl⟩ (congrArg Prod.fst (J.1.1 68 (9, 6) rfl)) rfl (by decide) rfl rfl ⟨by decide, by decide⟩ (jC.of rfl k_X9_isLetters rfl ?_)
      show jX m_X9_isLetters 2 0 0 0 [(0, .ref 68)] [] _ 0 0 _
      refine x_aloadn (x := 68) rfl rfl ?_
      refine z_getM (N := 6) (v := u3) 9 5 rfl f_9_28 rfl J rfl qu3 ?_
      refine x_iconst (v := 1) rfl ki_1 ?_
      refine x_icne (tgt := 12) rfl rfl (ti_ne rfl jk_1 ⟨fun c9 => ?_, fun c9 => ?_⟩)
      ·
        refine x_iconst (v := 0) rfl ki_0 ?_
        refine x_zret rfl rfl (by decide) ?_
        show jX m_X5_readName 3 0 0 48 [(2, .int v8), (0, .ref 70), (1, .int a1)] [.int 0] _ 0 0 _
        refine x_ifeq (tgt := 73) rfl rfl (ti_eq jk_0 jk_0 (br_t (by omega) ?_))
        exact jX.sub (jsb_c rfl jsb_n) (ct_X5_readName_r70_73 hD hQ  u4 u3 h (jr_of rfl (by omega)) (jr_of rfl (by omega)) (by omega) qu4 qu3 J Sm)
      ·
        refine x_iconst (v := 1) rfl ki_1 ?_
        refine x_goto (tgt := 13) rfl rfl ?_
        refine x_zret rfl rfl (by decide) ?_
        show jX m_X5_readName 3 0 0 48 [(2, .int v8), (0, .ref 70), (1, .int a1)] [.int 1] _ 0 0 _
        refine x_ifeq (tgt := 73) rfl rfl (ti_eq jk_1 jk_0 (br_f (by omega) ?_))
        refine x_iloadn (x := v8) rfl rfl ?_
        refine x_bipush (v := 12) rfl kb_12 ?_
        refine x_icgt (tgt := 73) rfl rfl (ti_gt rfl jk_12 ⟨fun c10 => ?_, fun c10 => ?_⟩)
        ·
          exact jX.sub (jsb_c rfl jsb_n) (ct_X5_readName_r70_73 hD hQ  u4 u3 h (jr_of rfl (by omega)) (jr_of rfl (by omega)) (by omega) qu4 qu3 J Sm)
        ·
          refine x_iloadn (x := a1) rfl rfl ?_
          refine x_iflt (tgt := 73) rfl rfl (ti_lt rfl jk_0 (br_f (by omega) ?_))
          refine x_iloadn (x := a1) rfl rfl ?_
          refine x_aloadn (x := 70) rfl rfl ?_
          refine z_getR (N := 9) (b := 71) 5 2 rfl f_5_9 rfl J rfl 8962 ⟨rfl, rfl⟩ rfl ?_
          refine z_alen (N := 84) (v := 84) rfl J rfl rfl (by decide) ?_
          refine x_bipush (v := 14) rfl kb_14 ?_
          refine y_isub (v := 70) rfl (by decide) ?_
          refine x_icle (tgt := 81) rfl rfl (ti_le rfl jk_70 (br_t (by omega) ?_))
          refine x_aloadn (x := 70) rfl rfl ?_
          refine z_getR (N := 9) (b := 71) 5 2 rfl f_5_9 rfl J rfl 8962 ⟨rfl, rfl⟩ rfl ?_
          refine x_iloadn (x := a1) rfl rfl ?_
          refine x_iconst (v := 0) rfl ki_0 ?_
          refine z_iadd rfl rfl jk_0 (by omega) (fun v11 ev11 => ?_)
          refine x_iloadn (x := v8) rfl rfl ?_
          refine z_iast (N := 84) (l := 0) (u := 84) (w := v8.toInt) rfl hD J Sm rfl rfl rfl (by omega) rfl (wr_71 (fun q1 q2 q3 q4 => by omega) (fun q1 q2 q3 q4 => by omega) (fun q1 q2 q3 q4 => by omega) (fun q1 q2 q3 q4 => by omega)) rfl (fun h w12 J Sm => ?_)
          refine x_iconst (v := 0) rfl ki_0 ?_
          refine x_istoren (lsx9 := [(3, .int 0), (2, .int v8), (0, .ref 70), (1, .int a1)]) rfl rfl rfl ?_
          exact jX.sub (jsb_c rfl (jsb_c rfl (jsb_c rfl (jsb_c rfl jsb_n)))) (ct_X5_readName_r70_92 hD hQ  13 a1 v8 0 u4 v7 u3 h (by have := jk_0; omega) (jr_of rfl (by omega)) (jr_mod rfl (by omega)) (jr_of rfl (by omega)) (jr_of jk_0 (by omega)) (jr_of rfl (by omega)) (jr_of rfl (by omega)) (jr_of rfl (by omega)) (by omega) (jmo w12 rfl qu4) (jmo w12 rfl qv7) (jmo w12 rfl qu3) J Sm)
    ·
      refine x_aloadn (x := 70) rfl rfl ?_
      refine z_getR (N := 9) (b := 68) 5 1 rfl f_5_39 rfl J rfl 8961 ⟨rfl, rfl⟩ rfl ?_
      refine x_inv (N := m_X9_step) (As := []) (b := 68) (st := []) (dx9 := 2) (mc := 0) (ms := 0) (host := "") 9 rfl t_X9_step ⟨Or.inl q_5_67, i_X9_step.1, i_X9_step.2⟩ ⟨by decide, rfl⟩ (congrArg Prod.fst (J.1.1 68 (9, 6) rfl)) rfl (by decide) rfl rfl ⟨by decide, by decide⟩ (sf_X9_step_r68  hD J qu3 qu4 (by omega)  (fun h J S13 u14 u15 qu14 qu15 ru14 => ?_))
      have Sm := jSm_tr rfl Sm S13
      have eu14 := (show 0 ≤ u14.toInt ∧ u14.toInt ≤ 3 from qu14 ▸ jrg_f J sg_68_5_6_1_0_1)
      have eu15 := (show 0 ≤ u15.toInt ∧ u15.toInt ≤ 400 from qu15 ▸ jrg_f J sg_68_3_4_1_0_1)
      show jX m_X5_readName 3 0 0 31 [(0, .ref 70), (1, .int a1)] [] _ 0 0 _
      refine x_iconst (v := 1) rfl ki_1 ?_
      refine x_zret rfl rfl (by decide) ?_
      exact hQ _ _ (jr_of jk_1 (by omega)) J Sm _ _ qu14 qu15 (by omega)
  ·
    refine x_iconst (v := 1) rfl ki_1 ?_
    refine x_goto (tgt := 12) rfl rfl ?_
    refine x_zret rfl rfl (by decide) ?_
    show jX m_X5_readName 3 0 0 7 [(0, .ref 70), (1, .int a1)] [.int 1] _ 0 0 _
    refine x_ifeq (tgt := 12) rfl rfl (ti_eq jk_1 jk_0 (br_f (by omega) ?_))
    refine x_iconst (v := 1) rfl ki_1 ?_
    refine x_zret rfl rfl (by decide) ?_
    exact hQ _ _ (jr_of jk_1 (by omega)) J Sm _ _ zp0 zp1 (by omega)
def fp_X5_readLine_r70 : jFp := [(68, 2, 3), (68, 3, 4), (68, 4, 5), (68, 5, 6), (71, 0, 84)]
set_option maxRecDepth 100000 in
set_option maxHeartbeats 4000000 in
theorem ct_X5_readLine_r70_113 {Dy : jH → Prop} {h0 : jH} {Q : Option Value → jH → Prop} (hD : jDk Dy) (hQ : ∀ (v : Int32) hx9, (-1) ≤ v.toInt ∧ v.toInt ≤ 1 → jJ jSgX Dy hx9 → jSm fp_X5_readLine_r70 h0 hx9 → ∀ u0 u1 : Int32, jiv hx9 68 5 = u0 → jiv hx9 68 3 = u1 → (u0.toInt ≠ 3 ∨ u1.toInt ≤ 399) → Q (some (.int v)) hx9) : ∀ (g0 : Int32) (g1 : Int32) (h : jH), 0 ≤ g0.toInt ∧ g0.toInt ≤ 400 → 0 ≤ g1.toInt ∧ g1.toInt ≤ 3 → (g1.toInt ≠ 3 ∨ g0.toInt ≤ 399) → jiv h 68 3 = g0 → jiv h 68 5 = g1 → jJ jSgX Dy h → jSm fp_X5_readLine_r70 h0 h → jX m_X5_readLine 5 0 0 113 [(0, .ref 70)] [] h 0 0 Q := by
  intro g0 g1 h y0 y1 y2 z0 z1  J Sm
  refine x_aloadn (x := 70) rfl rfl ?_
  refine z_getR (N := 9) (b := 68) 5 1 rfl f_5_39 rfl J rfl 8961 ⟨rfl, rfl⟩ rfl ?_
  refine x_inv (N := m_X9_blame) (As := []) (b := 68) (st := []) (dx9 := 4) (mc := 0) (ms := 0) (host := "") 9 rfl t_X9_blame ⟨Or.inl q_5_64, i_X9_blame.1, i_X9_blame.2⟩ ⟨by decide, rfl⟩ (congrArg Prod.fst (J.1.1 68 (9, 6) rfl)) rfl (by decide) rfl rfl ⟨by decide, by decide⟩ (jC.of rfl k_X9_blame rfl ?_)
  show jX m_X9_blame 4 0 0 0 [(0, .ref 68)] [] _ 0 0 _
  refine x_aloadn (x := 68) rfl rfl ?_
  refine x_aloadn (x := 68) rfl rfl ?_
  refine z_getM (N := 6) (v := g0) 9 3 rfl f_9_22 rfl J rfl z0 ?_
  refine z_putI (N := 6) (w := g0.toInt) 9 2 rfl f_9_19 rfl (jfin_no TX9 RX9 6 rfl rfl) hD J Sm rfl rfl rfl (pw_68_2 (by omega)) rfl (fun h w1 J Sm => ?_)
  refine x_iconst (v := 0) rfl ki_0 ?_
  refine x_zret rfl rfl (by decide) ?_
  show jX m_X5_readLine 5 0 0 120 [(0, .ref 70)] [.int 0] _ 0 0 _
  refine x_pop rfl rfl ?_
  refine x_iconst (v := (-1)) rfl ki_m1 ?_
  refine x_iret rfl rfl ?_
  exact hQ _ _ (jr_of jk_m1 (by omega)) J Sm _ _ (jmo w1 rfl z1) (jmo w1 rfl z0) (by omega)
set_option maxRecDepth 100000 in
set_option maxHeartbeats 4000000 in
theorem ct_X5_readLine_r70_50 {Dy : jH → Prop} {h0 : jH} {Q : Option Value → jH → Prop} (hD : jDk Dy) (hQ : ∀ (v : Int32) hx9, (-1) ≤ v.toInt ∧ v.toInt ≤ 1 → jJ jSgX Dy hx9 → jSm fp_X5_readLine_r70 h0 hx9 → ∀ u0 u1 : Int32, jiv hx9 68 5 = u0 → jiv hx9 68 3 = u1 → (u0.toInt ≠ 3 ∨ u1.toInt ≤ 399) → Q (some (.int v)) hx9) : ∀ r : Nat, ∀ (l1 : Int32) (l2 : Int32) (g0 : Int32) (g1 : Int32) (h : jH), 2 - l2.toInt < (r : Int) → 1 ≤ l1.toInt ∧ l1.toInt ≤ 3 → 0 ≤ l2.toInt ∧ l2.toInt ≤ 2 → 0 ≤ g0.toInt ∧ g0.toInt ≤ 400 → 0 ≤ g1.toInt ∧ g1.toInt ≤ 3 → (g1.toInt ≠ 3 ∨ g0.toInt ≤ 399) → jiv h 68 3 = g0 → jiv h 68 5 = g1 → jJ jSgX Dy h → jSm fp_X5_readLine_r70 h0 h → jX m_X5_readLine 5 0 0 50 [(0, .ref 70), (1, .int l1), (2, .int l2)] [] h 0 0 Q := by
  intro r
  induction r with
  | zero =>
    intro l1 l2 g0 g1 h hm y0 y1 y2 y3 y4 z0 z1  J Sm
    exfalso
    omega
  | succ r ih =>
    intro l1 l2 g0 g1 h hm y0 y1 y2 y3 y4 z0 z1  J Sm
    refine x_iloadn (x := l2) rfl rfl ?_
    refine x_iloadn (x := l1) rfl rfl ?_
    refine x_icge (tgt := 136) rfl rfl (ti_ge rfl rfl ⟨fun c1 => ?_, fun c1 => ?_⟩)
    ·
      refine x_iconst (v := (-1)) rfl ki_m1 ?_
      refine x_iret rfl rfl ?_
      exact hQ _ _ (jr_of jk_m1 (by omega)) J Sm _ _ z1 z0 (by omega)
    ·
      refine x_aloadn (x := 70) rfl rfl ?_
      refine x_iloadn (x := l2) rfl rfl ?_
      refine x_inv (N := m_X5_readRole) (As := [.int l2]) (b := 70) (st := []) (dx9 := 4) (mc := 0) (ms := 0) (host := "") 5 rfl t_X5_readRole ⟨Or.inl q_5_56, i_X5_readRole.1, i_X5_readRole.2⟩ ⟨by decide, rfl⟩ (congrArg Prod.fst (J.1.1 70 (5, 9) rfl)) rfl (by decide) rfl rfl ⟨by decide, by decide⟩ (jC.of rfl k_X5_readRole rfl ?_)
      show jX m_X5_readRole 4 0 0 0 [(0, .ref 70), (1, .int l2)] [] _ 0 0 _
      refine x_aloadn (x := 70) rfl rfl ?_
      refine z_getR (N := 9) (b := 68) 5 1 rfl f_5_39 rfl J rfl 8961 ⟨rfl, rfl⟩ rfl ?_
      refine x_bipush (v := 63) rfl kb_63 ?_
      refine x_inv (N := m_X9_isSign) (As := [.int 63]) (b := 68) (st := []) (dx9 := 1) (mc := 0) (ms := 0) (host := "") 9 rfl t_X9_isSign ⟨Or.inl q_5_48, i_X9_isSign.1, i_X9_isSign.2⟩ ⟨by decide, rfl⟩ (congrArg Prod.fst (J.1.1 68 (9, 6) rfl)) rfl (by decide) rfl rfl ⟨by decide, by decide⟩ (sf_X9_isSign_r68 (jr_of jk_63 (by omega)) hD J z1 z0 (by omega)  (fun v5 h ev5 J S2 u3 u4 qu3 qu4 ru3 => ?_))
      have Sm := jSm_tr rfl Sm S2
      have eu3 := (show 0 ≤ u3.toInt ∧ u3.toInt ≤ 3 from qu3 ▸ jrg_f J sg_68_5_6_1_0_1)
      have eu4 := (show 0 ≤ u4.toInt ∧ u4.toInt ≤ 400 from qu4 ▸ jrg_f J sg_68_3_4_1_0_1)
      show jX m_X5_readRole 4 0 0 9 [(0, .ref 70), (1, .int l2)] [.int v5] _ 0 0 _
      refine x_istoren (lsx9 := [(2, .int v5), (0, .ref 70), (1, .int l2)]) rfl rfl rfl ?_
      refine x_aloadn (x := 70) rfl rfl ?_
      refine x_iloadn (x := l2) rfl rfl ?_
      refine x_iconst (v := 2) rfl ki_2 ?_
      refine z_imul rfl rfl jk_2 (by omega) (fun v6 ev6 => ?_)
      refine x_bipush (v := 14) rfl kb_14 ?_
      refine z_imul rfl rfl jk_14 (by omega) (fun v7 ev7 => ?_)
      refine x_inv (N := m_X5_readName) (As := [.int v7]) (b := 70) (st := []) (dx9 := 3) (mc := 0) (ms := 0) (host := "") 5 rfl t_X5_readName ⟨Or.inl q_5_70, i_X5_readName.1, i_X5_readName.2⟩ ⟨by decide, rfl⟩ (congrArg Prod.fst (J.1.1 70 (5, 9) rfl)) rfl (by decide) rfl rfl ⟨by decide, by decide⟩ (sf_X5_readName_r70 (jr_of rfl (by omega)) (jr_mod rfl (by omega)) hD J qu3 qu4 (by omega)  (fun v11 h ev11 J S8 u9 u10 qu9 qu10 ru9 => ?_))
      have Sm := jSm_tr rfl Sm S8
      have eu9 := (show 0 ≤ u9.toInt ∧ u9.toInt ≤ 3 from qu9 ▸ jrg_f J sg_68_5_6_1_0_1)
      have eu10 := (show 0 ≤ u10.toInt ∧ u10.toInt ≤ 400 from qu10 ▸ jrg_f J sg_68_3_4_1_0_1)
      show jX m_X5_readRole 4 0 0 20 [(2, .int v5), (0, .ref 70), (1, .int l2)] [.int v11] _ 0 0 _
      refine x_ifne (tgt := 25) rfl rfl (ti_ne rfl jk_0 ⟨fun c12 => ?_, fun c12 => ?_⟩)
      ·
        refine x_iloadn (x := v5) rfl rfl ?_
        refine x_ifeq (tgt := 55) rfl rfl (ti_eq rfl jk_0 ⟨fun c13 => ?_, fun c13 => ?_⟩)
        ·
          refine x_aloadn (x := 70) rfl rfl ?_
          refine x_iloadn (x := l2) rfl rfl ?_
          refine x_iconst (v := 2) rfl ki_2 ?_
          refine z_imul rfl rfl jk_2 (by omega) (fun v14 ev14 => ?_)
          refine x_iconst (v := 1) rfl ki_1 ?_
          refine z_iadd rfl rfl jk_1 (by omega) (fun v15 ev15 => ?_)
          refine x_bipush (v := 14) rfl kb_14 ?_
          refine z_imul rfl rfl jk_14 (by omega) (fun v16 ev16 => ?_)
          refine x_inv (N := m_X5_readName) (As := [.int v16]) (b := 70) (st := []) (dx9 := 3) (mc := 0) (ms := 0) (host := "") 5 rfl t_X5_readName ⟨Or.inl q_5_70, i_X5_readName.1, i_X5_readName.2⟩ ⟨by decide, rfl⟩ (congrArg Prod.fst (J.1.1 70 (5, 9) rfl)) rfl (by decide) rfl rfl ⟨by decide, by decide⟩ (sf_X5_readName_r70 (jr_of rfl (by omega)) (jr_mod rfl (by omega)) hD J qu9 qu10 (by omega)  (fun v20 h ev20 J S17 u18 u19 qu18 qu19 ru18 => ?_))
          have Sm := jSm_tr rfl Sm S17
          have eu18 := (show 0 ≤ u18.toInt ∧ u18.toInt ≤ 3 from qu18 ▸ jrg_f J sg_68_5_6_1_0_1)
          have eu19 := (show 0 ≤ u19.toInt ∧ u19.toInt ≤ 400 from qu19 ▸ jrg_f J sg_68_3_4_1_0_1)
          show jX m_X5_readRole 4 0 0 67 [(2, .int v5), (0, .ref 70), (1, .int l2)] [.int v20] _ 0 0 _
          refine x_zret rfl rfl (jz01 (by omega)) ?_
          show jX m_X5_readLine 5 0 0 60 [(0, .ref 70), (1, .int l1), (2, .int l2)] [.int v20] _ 0 0 _
          refine x_ifne (tgt := 65) rfl rfl (ti_ne rfl jk_0 ⟨fun c21 => ?_, fun c21 => ?_⟩)
          ·
            refine x_aloadn (x := 70) rfl rfl ?_
            refine z_getR (N := 9) (b := 68) 5 1 rfl f_5_39 rfl J rfl 8961 ⟨rfl, rfl⟩ rfl ?_
            refine x_inv (N := m_X9_isEnd) (As := []) (b := 68) (st := []) (dx9 := 4) (mc := 0) (ms := 0) (host := "") 9 rfl t_X9_isEnd ⟨Or.inl q_5_60, i_X9_isEnd.1, i_X9_isEnd.2⟩ ⟨by decide, rfl⟩ (congrArg Prod.fst (J.1.1 68 (9, 6) rfl)) rfl (by decide) rfl rfl ⟨by decide, by decide⟩ (jC.of rfl k_X9_isEnd rfl ?_)
            show jX m_X9_isEnd 4 0 0 0 [(0, .ref 68)] [] _ 0 0 _
            refine x_aloadn (x := 68) rfl rfl ?_
            refine z_getM (N := 6) (v := u18) 9 5 rfl f_9_28 rfl J rfl qu18 ?_
            refine x_ifne (tgt := 11) rfl rfl (ti_ne rfl jk_0 ⟨fun c22 => ?_, fun c22 => ?_⟩)
            ·
              refine x_iconst (v := 0) rfl ki_0 ?_
              refine x_zret rfl rfl (by decide) ?_
              show jX m_X5_readLine 5 0 0 72 [(0, .ref 70), (1, .int l1), (2, .int l2)] [.int 0] _ 0 0 _
              refine x_ifeq (tgt := 77) rfl rfl (ti_eq jk_0 jk_0 (br_t (by omega) ?_))
              refine x_aloadn (x := 70) rfl rfl ?_
              refine z_getR (N := 9) (b := 68) 5 1 rfl f_5_39 rfl J rfl 8961 ⟨rfl, rfl⟩ rfl ?_
              refine x_bipush (v := 46) rfl kb_46 ?_
              refine x_inv (N := m_X9_isSign) (As := [.int 46]) (b := 68) (st := []) (dx9 := 1) (mc := 0) (ms := 0) (host := "") 9 rfl t_X9_isSign ⟨Or.inl q_5_48, i_X9_isSign.1, i_X9_isSign.2⟩ ⟨by decide, rfl⟩ (congrArg Prod.fst (J.1.1 68 (9, 6) rfl)) rfl (by decide) rfl rfl ⟨by decide, by decide⟩ (sf_X9_isSign_r68 (jr_of jk_46 (by omega)) hD J qu18 qu19 (by omega)  (fun v26 h ev26 J S23 u24 u25 qu24 qu25 ru24 => ?_))
              have Sm := jSm_tr rfl Sm S23
              have eu24 := (show 0 ≤ u24.toInt ∧ u24.toInt ≤ 3 from qu24 ▸ jrg_f J sg_68_5_6_1_0_1)
              have eu25 := (show 0 ≤ u25.toInt ∧ u25.toInt ≤ 400 from qu25 ▸ jrg_f J sg_68_3_4_1_0_1)
              show jX m_X5_readLine 5 0 0 86 [(0, .ref 70), (1, .int l1), (2, .int l2)] [.int v26] _ 0 0 _
              refine x_ifeq (tgt := 94) rfl rfl (ti_eq rfl jk_0 ⟨fun c27 => ?_, fun c27 => ?_⟩)
              ·
                refine x_aloadn (x := 70) rfl rfl ?_
                refine z_getR (N := 9) (b := 68) 5 1 rfl f_5_39 rfl J rfl 8961 ⟨rfl, rfl⟩ rfl ?_
                refine x_bipush (v := 44) rfl kb_44 ?_
                refine x_inv (N := m_X9_isSign) (As := [.int 44]) (b := 68) (st := []) (dx9 := 1) (mc := 0) (ms := 0) (host := "") 9 rfl t_X9_isSign ⟨Or.inl q_5_48, i_X9_isSign.1, i_X9_isSign.2⟩ ⟨by decide, rfl⟩ (congrArg Prod.fst (J.1.1 68 (9, 6) rfl)) rfl (by decide) rfl rfl ⟨by decide, by decide⟩ (sf_X9_isSign_r68 (jr_of jk_44 (by omega)) hD J qu24 qu25 (by omega)  (fun v31 h ev31 J S28 u29 u30 qu29 qu30 ru29 => ?_))
                have Sm := jSm_tr rfl Sm S28
                have eu29 := (show 0 ≤ u29.toInt ∧ u29.toInt ≤ 3 from qu29 ▸ jrg_f J sg_68_5_6_1_0_1)
                have eu30 := (show 0 ≤ u30.toInt ∧ u30.toInt ≤ 400 from qu30 ▸ jrg_f J sg_68_3_4_1_0_1)
                show jX m_X5_readLine 5 0 0 103 [(0, .ref 70), (1, .int l1), (2, .int l2)] [.int v31] _ 0 0 _
                refine x_ifeq (tgt := 113) rfl rfl (ti_eq rfl jk_0 ⟨fun c32 => ?_, fun c32 => ?_⟩)
                ·
                  exact jX.sub (jsb_c rfl jsb_n) (ct_X5_readLine_r70_113 hD hQ  u30 u29 h (jr_of rfl (by omega)) (jr_of rfl (by omega)) (by omega) qu30 qu29 J Sm)
                ·
                  refine x_iloadn (x := l2) rfl rfl ?_
                  refine x_iconst (v := 1) rfl ki_1 ?_
                  refine z_iadd rfl rfl jk_1 (by omega) (fun v33 ev33 => ?_)
                  refine x_iloadn (x := l1) rfl rfl ?_
                  refine x_iclt (tgt := 123) rfl rfl (ti_lt rfl rfl ⟨fun c34 => ?_, fun c34 => ?_⟩)
                  ·
                    refine x_aloadn (x := 70) rfl rfl ?_
                    refine z_getR (N := 9) (b := 68) 5 1 rfl f_5_39 rfl J rfl 8961 ⟨rfl, rfl⟩ rfl ?_
                    refine x_inv (N := m_X9_step) (As := []) (b := 68) (st := []) (dx9 := 2) (mc := 0) (ms := 0) (host := "") 9 rfl t_X9_step ⟨Or.inl q_5_67, i_X9_step.1, i_X9_step.2⟩ ⟨by decide, rfl⟩ (congrArg Prod.fst (J.1.1 68 (9, 6) rfl)) rfl (by decide) rfl rfl ⟨by decide, by decide⟩ (sf_X9_step_r68  hD J qu29 qu30 (by omega)  (fun h J S35 u36 u37 qu36 qu37 ru36 => ?_))
                    have Sm := jSm_tr rfl Sm S35
                    have eu36 := (show 0 ≤ u36.toInt ∧ u36.toInt ≤ 3 from qu36 ▸ jrg_f J sg_68_5_6_1_0_1)
                    have eu37 := (show 0 ≤ u37.toInt ∧ u37.toInt ≤ 400 from qu37 ▸ jrg_f J sg_68_3_4_1_0_1)
                    show jX m_X5_readLine 5 0 0 130 [(0, .ref 70), (1, .int l1), (2, .int l2)] [] _ 0 0 _
                    refine z_iinc (x := l2) (lsx9 := fun v38 => [(2, .int v38), (0, .ref 70), (1, .int l1)]) rfl rfl rfl jko_1 (by omega) rfl (fun _ => rfl) (fun v38 ev38 => ?_)
                    refine x_goto (tgt := 50) rfl rfl ?_
                    exact jX.sub (jsb_c rfl (jsb_c rfl (jsb_c rfl jsb_n))) (ih l1 v38 u37 u36 h (by omega) (jr_of rfl (by omega)) (jr_of rfl (by omega)) (jr_of rfl (by omega)) (jr_of rfl (by omega)) (by omega) qu37 qu36 J Sm)
                  ·
                    exact jX.sub (jsb_c rfl jsb_n) (ct_X5_readLine_r70_113 hD hQ  u30 u29 h (jr_of rfl (by omega)) (jr_of rfl (by omega)) (by omega) qu30 qu29 J Sm)
              ·
                refine x_aloadn (x := 70) rfl rfl ?_
                refine x_inv (N := m_X5_readStop) (As := []) (b := 70) (st := []) (dx9 := 4) (mc := 0) (ms := 0) (host := "") 5 rfl t_X5_readStop ⟨Or.inl q_5_52, i_X5_readStop.1, i_X5_readStop.2⟩ ⟨by decide, rfl⟩ (congrArg Prod.fst (J.1.1 70 (5, 9) rfl)) rfl (by decide) rfl rfl ⟨by decide, by decide⟩ (jC.of rfl k_X5_readStop rfl ?_)
                show jX m_X5_readStop 4 0 0 0 [(0, .ref 70)] [] _ 0 0 _
                refine x_aloadn (x := 70) rfl rfl ?_
                refine z_getR (N := 9) (b := 68) 5 1 rfl f_5_39 rfl J rfl 8961 ⟨rfl, rfl⟩ rfl ?_
                refine x_inv (N := m_X9_step) (As := []) (b := 68) (st := []) (dx9 := 2) (mc := 0) (ms := 0) (host := "") 9 rfl t_X9_step ⟨Or.inl q_5_67, i_X9_step.1, i_X9_step.2⟩ ⟨by decide, rfl⟩ (congrArg Prod.fst (J.1.1 68 (9, 6) rfl)) rfl (by decide) rfl rfl ⟨by decide, by decide⟩ (sf_X9_step_r68  hD J qu24 qu25 (by omega)  (fun h J S39 u40 u41 qu40 qu41 ru40 => ?_))
                have Sm := jSm_tr rfl Sm S39
                have eu40 := (show 0 ≤ u40.toInt ∧ u40.toInt ≤ 3 from qu40 ▸ jrg_f J sg_68_5_6_1_0_1)
                have eu41 := (show 0 ≤ u41.toInt ∧ u41.toInt ≤ 400 from qu41 ▸ jrg_f J sg_68_3_4_1_0_1)
                show jX m_X5_readStop 4 0 0 7 [(0, .ref 70)] [] _ 0 0 _
                refine x_aloadn (x := 70) rfl rfl ?_
                refine z_getR (N := 9) (b := 68) 5 1 rfl f_5_39 rfl J rfl 8961 ⟨rfl, rfl⟩ rfl ?_
                refine x_inv (N := m_X9_isEnd) (As := []) (b := 68) (st := []) (dx9 := 3) (mc := 0) (ms := 0) (host := "") 9 rfl t_X9_isEnd ⟨Or.inl q_5_60, i_X9_isEnd.1, i_X9_isEnd.2⟩ ⟨by decide, rfl⟩ (congrArg Prod.fst (J.1.1 68 (9, 6) rfl)) rfl (by decide) rfl rfl ⟨by decide, by decide⟩ (jC.of rfl k_X9_isEnd rfl ?_)
                show jX m_X9_isEnd 3 0 0 0 [(0, .ref 68)] [] _ 0 0 _
                refine x_aloadn (x := 68) rfl rfl ?_
                refine z_getM (N := 6) (v := u40) 9 5 rfl f_9_28 rfl J rfl qu40 ?_
                refine x_ifne (tgt := 11) rfl rfl (ti_ne rfl jk_0 ⟨fun c42 => ?_, fun c42 => ?_⟩)
                ·
                  refine x_iconst (v := 0) rfl ki_0 ?_
                  refine x_zret rfl rfl (by decide) ?_
                  show jX m_X5_readStop 4 0 0 14 [(0, .ref 70)] [.int 0] _ 0 0 _
                  refine x_ifeq (tgt := 19) rfl rfl (ti_eq jk_0 jk_0 (br_t (by omega) ?_))
                  refine x_aloadn (x := 70) rfl rfl ?_
                  refine z_getR (N := 9) (b := 68) 5 1 rfl f_5_39 rfl J rfl 8961 ⟨rfl, rfl⟩ rfl ?_
                  refine x_inv (N := m_X9_blame) (As := []) (b := 68) (st := []) (dx9 := 3) (mc := 0) (ms := 0) (host := "") 9 rfl t_X9_blame ⟨Or.inl q_5_64, i_X9_blame.1, i_X9_blame.2⟩ ⟨by decide, rfl⟩ (congrArg Prod.fst (J.1.1 68 (9, 6) rfl)) rfl (by decide) rfl rfl ⟨by decide, by decide⟩ (jC.of rfl k_X9_blame rfl ?_)
                  show jX m_X9_blame 3 0 0 0 [(0, .ref 68)] [] _ 0 0 _
                  refine x_aloadn (x := 68) rfl rfl ?_
                  refine x_aloadn (x := 68) rfl rfl ?_
                  refine z_getM (N := 6) (v := u41) 9 3 rfl f_9_22 rfl J rfl qu41 ?_
                  refine z_putI (N := 6) (w := u41.toInt) 9 2 rfl f_9_19 rfl (jfin_no TX9 RX9 6 rfl rfl) hD J Sm rfl rfl rfl (pw_68_2 (by omega)) rfl (fun h w43 J Sm => ?_)
                  refine x_iconst (v := 0) rfl ki_0 ?_
                  refine x_zret rfl rfl (by decide) ?_
                  show jX m_X5_readStop 4 0 0 26 [(0, .ref 70)] [.int 0] _ 0 0 _
                  refine x_pop rfl rfl ?_
                  refine x_iconst (v := (-1)) rfl ki_m1 ?_
                  refine x_iret rfl rfl ?_
                  show jX m_X5_readLine 5 0 0 93 [(0, .ref 70), (1, .int l1), (2, .int l2)] [.int (-1)] _ 0 0 _
                  refine x_iret rfl rfl ?_
                  exact hQ _ _ (jr_of jk_m1 (by omega)) J Sm _ _ (jmo w43 rfl qu40) (jmo w43 rfl qu41) (by omega)
                ·
                  refine x_iconst (v := 1) rfl ki_1 ?_
                  refine x_goto (tgt := 12) rfl rfl ?_
                  refine x_zret rfl rfl (by decide) ?_
                  show jX m_X5_readStop 4 0 0 14 [(0, .ref 70)] [.int 1] _ 0 0 _
                  refine x_ifeq (tgt := 19) rfl rfl (ti_eq jk_1 jk_0 (br_f (by omega) ?_))
                  refine x_iconst (v := 0) rfl ki_0 ?_
                  refine x_iret rfl rfl ?_
                  show jX m_X5_readLine 5 0 0 93 [(0, .ref 70), (1, .int l1), (2, .int l2)] [.int 0] _ 0 0 _
                  refine x_iret rfl rfl ?_
                  exact hQ _ _ (jr_of jk_0 (by omega)) J Sm _ _ qu40 qu41 (by omega)
            ·
              refine x_iconst (v := 1) rfl ki_1 ?_
              refine x_goto (tgt := 12) rfl rfl ?_
              refine x_zret rfl rfl (by decide) ?_
              show jX m_X5_readLine 5 0 0 72 [(0, .ref 70), (1, .int l1), (2, .int l2)] [.int 1] _ 0 0 _
              refine x_ifeq (tgt := 77) rfl rfl (ti_eq jk_1 jk_0 (br_f (by omega) ?_))
              refine x_iconst (v := 1) rfl ki_1 ?_
              refine x_iret rfl rfl ?_
              exact hQ _ _ (jr_of jk_1 (by omega)) J Sm _ _ qu18 qu19 (by omega)
          ·
            refine x_iconst (v := (-1)) rfl ki_m1 ?_
            refine x_iret rfl rfl ?_
            exact hQ _ _ (jr_of jk_m1 (by omega)) J Sm _ _ qu18 qu19 (by omega)
        ·
          refine x_aloadn (x := 70) rfl rfl ?_
          refine z_getR (N := 9) (b := 68) 5 1 rfl f_5_39 rfl J rfl 8961 ⟨rfl, rfl⟩ rfl ?_
          refine x_bipush (v := 44) rfl kb_44 ?_
          refine x_inv (N := m_X9_isSign) (As := [.int 44]) (b := 68) (st := []) (dx9 := 1) (mc := 0) (ms := 0) (host := "") 9 rfl t_X9_isSign ⟨Or.inl q_5_48, i_X9_isSign.1, i_X9_isSign.2⟩ ⟨by decide, rfl⟩ (congrArg Prod.fst (J.1.1 68 (9, 6) rfl)) rfl (by decide) rfl rfl ⟨by decide, by decide⟩ (sf_X9_isSign_r68 (jr_of jk_44 (by omega)) hD J qu9 qu10 (by omega)  (fun v47 h ev47 J S44 u45 u46 qu45 qu46 ru45 => ?_))
          have Sm := jSm_tr rfl Sm S44
          have eu45 := (show 0 ≤ u45.toInt ∧ u45.toInt ≤ 3 from qu45 ▸ jrg_f J sg_68_5_6_1_0_1)
          have eu46 := (show 0 ≤ u46.toInt ∧ u46.toInt ≤ 400 from qu46 ▸ jrg_f J sg_68_3_4_1_0_1)
          show jX m_X5_readRole 4 0 0 38 [(2, .int v5), (0, .ref 70), (1, .int l2)] [.int v47] _ 0 0 _
          refine x_ifne (tgt := 53) rfl rfl (ti_ne rfl jk_0 ⟨fun c48 => ?_, fun c48 => ?_⟩)
          ·
            refine x_iconst (v := 1) rfl ki_1 ?_
            refine x_zret rfl rfl (by decide) ?_
            show jX m_X5_readLine 5 0 0 60 [(0, .ref 70), (1, .int l1), (2, .int l2)] [.int 1] _ 0 0 _
            refine x_ifne (tgt := 65) rfl rfl (ti_ne jk_1 jk_0 (bn_t (by omega) ?_))
            refine x_aloadn (x := 70) rfl rfl ?_
            refine z_getR (N := 9) (b := 68) 5 1 rfl f_5_39 rfl J rfl 8961 ⟨rfl, rfl⟩ rfl ?_
            refine x_inv (N := m_X9_isEnd) (As := []) (b := 68) (st := []) (dx9 := 4) (mc := 0) (ms := 0) (host := "") 9 rfl t_X9_isEnd ⟨Or.inl q_5_60, i_X9_isEnd.1, i_X9_isEnd.2⟩ ⟨by decide, rfl⟩ (congrArg Prod.fst (J.1.1 68 (9, 6) rfl)) rfl (by decide) rfl rfl ⟨by decide, by decide⟩ (jC.of rfl k_X9_isEnd rfl ?_)
            show jX m_X9_isEnd 4 0 0 0 [(0, .ref 68)] [] _ 0 0 _
            refine x_aloadn (x := 68) rfl rfl ?_
            refine z_getM (N := 6) (v := u45) 9 5 rfl f_9_28 rfl J rfl qu45 ?_
            refine x_ifne (tgt := 11) rfl rfl (ti_ne rfl jk_0 ⟨fun c49 => ?_, fun c49 => ?_⟩)
            ·
              refine x_iconst (v := 0) rfl ki_0 ?_
              refine x_zret rfl rfl (by decide) ?_
              show jX m_X5_readLine 5 0 0 72 [(0, .ref 70), (1, .int l1), (2, .int l2)] [.int 0] _ 0 0 _
              refine x_ifeq (tgt := 77) rfl rfl (ti_eq jk_0 jk_0 (br_t (by omega) ?_))
              refine x_aloadn (x := 70) rfl rfl ?_
              refine z_getR (N := 9) (b := 68) 5 1 rfl f_5_39 rfl J rfl 8961 ⟨rfl, rfl⟩ rfl ?_
              refine x_bipush (v := 46) rfl kb_46 ?_
              refine x_inv (N := m_X9_isSign) (As := [.int 46]) (b := 68) (st := []) (dx9 := 1) (mc := 0) (ms := 0) (host := "") 9 rfl t_X9_isSign ⟨Or.inl q_5_48, i_X9_isSign.1, i_X9_isSign.2⟩ ⟨by decide, rfl⟩ (congrArg Prod.fst (J.1.1 68 (9, 6) rfl)) rfl (by decide) rfl rfl ⟨by decide, by decide⟩ (sf_X9_isSign_r68 (jr_of jk_46 (by omega)) hD J qu45 qu46 (by omega)  (fun v53 h ev53 J S50 u51 u52 qu51 qu52 ru51 => ?_))
              have Sm := jSm_tr rfl Sm S50
              have eu51 := (show 0 ≤ u51.toInt ∧ u51.toInt ≤ 3 from qu51 ▸ jrg_f J sg_68_5_6_1_0_1)
              have eu52 := (show 0 ≤ u52.toInt ∧ u52.toInt ≤ 400 from qu52 ▸ jrg_f J sg_68_3_4_1_0_1)
              show jX m_X5_readLine 5 0 0 86 [(0, .ref 70), (1, .int l1), (2, .int l2)] [.int v53] _ 0 0 _
              refine x_ifeq (tgt := 94) rfl rfl (ti_eq rfl jk_0 ⟨fun c54 => ?_, fun c54 => ?_⟩)
              ·
                refine x_aloadn (x := 70) rfl rfl ?_
                refine z_getR (N := 9) (b := 68) 5 1 rfl f_5_39 rfl J rfl 8961 ⟨rfl, rfl⟩ rfl ?_
                refine x_bipush (v := 44) rfl kb_44 ?_
                refine x_inv (N := m_X9_isSign) (As := [.int 44]) (b := 68) (st := []) (dx9 := 1) (mc := 0) (ms := 0) (host := "") 9 rfl t_X9_isSign ⟨Or.inl q_5_48, i_X9_isSign.1, i_X9_isSign.2⟩ ⟨by decide, rfl⟩ (congrArg Prod.fst (J.1.1 68 (9, 6) rfl)) rfl (by decide) rfl rfl ⟨by decide, by decide⟩ (sf_X9_isSign_r68 (jr_of jk_44 (by omega)) hD J qu51 qu52 (by omega)  (fun v58 h ev58 J S55 u56 u57 qu56 qu57 ru56 => ?_))
                have Sm := jSm_tr rfl Sm S55
                have eu56 := (show 0 ≤ u56.toInt ∧ u56.toInt ≤ 3 from qu56 ▸ jrg_f J sg_68_5_6_1_0_1)
                have eu57 := (show 0 ≤ u57.toInt ∧ u57.toInt ≤ 400 from qu57 ▸ jrg_f J sg_68_3_4_1_0_1)
                show jX m_X5_readLine 5 0 0 103 [(0, .ref 70), (1, .int l1), (2, .int l2)] [.int v58] _ 0 0 _
                refine x_ifeq (tgt := 113) rfl rfl (ti_eq rfl jk_0 ⟨fun c59 => ?_, fun c59 => ?_⟩)
                ·
                  exact jX.sub (jsb_c rfl jsb_n) (ct_X5_readLine_r70_113 hD hQ  u57 u56 h (jr_of rfl (by omega)) (jr_of rfl (by omega)) (by omega) qu57 qu56 J Sm)
                ·
                  refine x_iloadn (x := l2) rfl rfl ?_
                  refine x_iconst (v := 1) rfl ki_1 ?_
                  refine z_iadd rfl rfl jk_1 (by omega) (fun v60 ev60 => ?_)
                  refine x_iloadn (x := l1) rfl rfl ?_
                  refine x_iclt (tgt := 123) rfl rfl (ti_lt rfl rfl ⟨fun c61 => ?_, fun c61 => ?_⟩)
                  ·
                    refine x_aloadn (x := 70) rfl rfl ?_
                    refine z_getR (N := 9) (b := 68) 5 1 rfl f_5_39 rfl J rfl 8961 ⟨rfl, rfl⟩ rfl ?_
                    refine x_inv (N := m_X9_step) (As := []) (b := 68) (st := []) (dx9 := 2) (mc := 0) (ms := 0) (host := "") 9 rfl t_X9_step ⟨Or.inl q_5_67, i_X9_step.1, i_X9_step.2⟩ ⟨by decide, rfl⟩ (congrArg Prod.fst (J.1.1 68 (9, 6) rfl)) rfl (by decide) rfl rfl ⟨by decide, by decide⟩ (sf_X9_step_r68  hD J qu56 qu57 (by omega)  (fun h J S62 u63 u64 qu63 qu64 ru63 => ?_))
                    have Sm := jSm_tr rfl Sm S62
                    have eu63 := (show 0 ≤ u63.toInt ∧ u63.toInt ≤ 3 from qu63 ▸ jrg_f J sg_68_5_6_1_0_1)
                    have eu64 := (show 0 ≤ u64.toInt ∧ u64.toInt ≤ 400 from qu64 ▸ jrg_f J sg_68_3_4_1_0_1)
                    show jX m_X5_readLine 5 0 0 130 [(0, .ref 70), (1, .int l1), (2, .int l2)] [] _ 0 0 _
                    refine z_iinc (x := l2) (lsx9 := fun v65 => [(2, .int v65), (0, .ref 70), (1, .int l1)]) rfl rfl rfl jko_1 (by omega) rfl (fun _ => rfl) (fun v65 ev65 => ?_)
                    refine x_goto (tgt := 50) rfl rfl ?_
                    exact jX.sub (jsb_c rfl (jsb_c rfl (jsb_c rfl jsb_n))) (ih l1 v65 u64 u63 h (by omega) (jr_of rfl (by omega)) (jr_of rfl (by omega)) (jr_of rfl (by omega)) (jr_of rfl (by omega)) (by omega) qu64 qu63 J Sm)
                  ·
                    exact jX.sub (jsb_c rfl jsb_n) (ct_X5_readLine_r70_113 hD hQ  u57 u56 h (jr_of rfl (by omega)) (jr_of rfl (by omega)) (by omega) qu57 qu56 J Sm)
              ·
                refine x_aloadn (x := 70) rfl rfl ?_
                refine x_inv (N := m_X5_readStop) (As := []) (b := 70) (st := []) (dx9 := 4) (mc := 0) (ms := 0) (host := "") 5 rfl t_X5_readStop ⟨Or.inl q_5_52, i_X5_readStop.1, i_X5_readStop.2⟩ ⟨by decide, rfl⟩ (congrArg Prod.fst (J.1.1 70 (5, 9) rfl)) rfl (by decide) rfl rfl ⟨by decide, by decide⟩ (jC.of rfl k_X5_readStop rfl ?_)
                show jX m_X5_readStop 4 0 0 0 [(0, .ref 70)] [] _ 0 0 _
                refine x_aloadn (x := 70) rfl rfl ?_
                refine z_getR (N := 9) (b := 68) 5 1 rfl f_5_39 rfl J rfl 8961 ⟨rfl, rfl⟩ rfl ?_
                refine x_inv (N := m_X9_step) (As := []) (b := 68) (st := []) (dx9 := 2) (mc := 0) (ms := 0) (host := "") 9 rfl t_X9_step ⟨Or.inl q_5_67, i_X9_step.1, i_X9_step.2⟩ ⟨by decide, rfl⟩ (congrArg Prod.fst (J.1.1 68 (9, 6) rfl)) rfl (by decide) rfl rfl ⟨by decide, by decide⟩ (sf_X9_step_r68  hD J qu51 qu52 (by omega)  (fun h J S66 u67 u68 qu67 qu68 ru67 => ?_))
                have Sm := jSm_tr rfl Sm S66
                have eu67 := (show 0 ≤ u67.toInt ∧ u67.toInt ≤ 3 from qu67 ▸ jrg_f J sg_68_5_6_1_0_1)
                have eu68 := (show 0 ≤ u68.toInt ∧ u68.toInt ≤ 400 from qu68 ▸ jrg_f J sg_68_3_4_1_0_1)
                show jX m_X5_readStop 4 0 0 7 [(0, .ref 70)] [] _ 0 0 _
                refine x_aloadn (x := 70) rfl rfl ?_
                refine z_getR (N := 9) (b := 68) 5 1 rfl f_5_39 rfl J rfl 8961 ⟨rfl, rfl⟩ rfl ?_
                refine x_inv (N := m_X9_isEnd) (As := []) (b := 68) (st := []) (dx9 := 3) (mc := 0) (ms := 0) (host := "") 9 rfl t_X9_isEnd ⟨Or.inl q_5_60, i_X9_isEnd.1, i_X9_isEnd.2⟩ ⟨by decide, rfl⟩ (congrArg Prod.fst (J.1.1 68 (9, 6) rfl)) rfl (by decide) rfl rfl ⟨by decide, by decide⟩ (jC.of rfl k_X9_isEnd rfl ?_)
                show jX m_X9_isEnd 3 0 0 0 [(0, .ref 68)] [] _ 0 0 _
                refine x_aloadn (x := 68) rfl rfl ?_
                refine z_getM (N := 6) (v := u67) 9 5 rfl f_9_28 rfl J rfl qu67 ?_
                refine x_ifne (tgt := 11) rfl rfl (ti_ne rfl jk_0 ⟨fun c69 => ?_, fun c69 => ?_⟩)
                ·
                  refine x_iconst (v := 0) rfl ki_0 ?_
                  refine x_zret rfl rfl (by decide) ?_
                  show jX m_X5_readStop 4 0 0 14 [(0, .ref 70)] [.int 0] _ 0 0 _
                  refine x_ifeq (tgt := 19) rfl rfl (ti_eq jk_0 jk_0 (br_t (by omega) ?_))
                  refine x_aloadn (x := 70) rfl rfl ?_
                  refine z_getR (N := 9) (b := 68) 5 1 rfl f_5_39 rfl J rfl 8961 ⟨rfl, rfl⟩ rfl ?_
                  refine x_inv (N := m_X9_blame) (As := []) (b := 68) (st := []) (dx9 := 3) (mc := 0) (ms := 0) (host := "") 9 rfl t_X9_blame ⟨Or.inl q_5_64, i_X9_blame.1, i_X9_blame.2⟩ ⟨by decide, rfl⟩ (congrArg Prod.fst (J.1.1 68 (9, 6) rfl)) rfl (by decide) rfl rfl ⟨by decide, by decide⟩ (jC.of rfl k_X9_blame rfl ?_)
                  show jX m_X9_blame 3 0 0 0 [(0, .ref 68)] [] _ 0 0 _
                  refine x_aloadn (x := 68) rfl rfl ?_
                  refine x_aloadn (x := 68) rfl rfl ?_
                  refine z_getM (N := 6) (v := u68) 9 3 rfl f_9_22 rfl J rfl qu68 ?_
                  refine z_putI (N := 6) (w := u68.toInt) 9 2 rfl f_9_19 rfl (jfin_no TX9 RX9 6 rfl rfl) hD J Sm rfl rfl rfl (pw_68_2 (by omega)) rfl (fun h w70 J Sm => ?_)
                  refine x_iconst (v := 0) rfl ki_0 ?_
                  refine x_zret rfl rfl (by decide) ?_
                  show jX m_X5_readStop 4 0 0 26 [(0, .ref 70)] [.int 0] _ 0 0 _
                  refine x_pop rfl rfl ?_
                  refine x_iconst (v := (-1)) rfl ki_m1 ?_
                  refine x_iret rfl rfl ?_
                  show jX m_X5_readLine 5 0 0 93 [(0, .ref 70), (1, .int l1), (2, .int l2)] [.int (-1)] _ 0 0 _
                  refine x_iret rfl rfl ?_
                  exact hQ _ _ (jr_of jk_m1 (by omega)) J Sm _ _ (jmo w70 rfl qu67) (jmo w70 rfl qu68) (by omega)
                ·
                  refine x_iconst (v := 1) rfl ki_1 ?_
                  refine x_goto (tgt := 12) rfl rfl ?_
                  refine x_zret rfl rfl (by decide) ?_
                  show jX m_X5_readStop 4 0 0 14 [(0, .ref 70)] [.int 1] _ 0 0 _
                  refine x_ifeq (tgt := 19) rfl rfl (ti_eq jk_1 jk_0 (br_f (by omega) ?_))
                  refine x_iconst (v := 0) rfl ki_0 ?_
                  refine x_iret rfl rfl ?_
                  show jX m_X5_readLine 5 0 0 93 [(0, .ref 70), (1, .int l1), (2, .int l2)] [.int 0] _ 0 0 _
                  refine x_iret rfl rfl ?_
                  exact hQ _ _ (jr_of jk_0 (by omega)) J Sm _ _ qu67 qu68 (by omega)
            ·
              refine x_iconst (v := 1) rfl ki_1 ?_
              refine x_goto (tgt := 12) rfl rfl ?_
              refine x_zret rfl rfl (by decide) ?_
              show jX m_X5_readLine 5 0 0 72 [(0, .ref 70), (1, .int l1), (2, .int l2)] [.int 1] _ 0 0 _
              refine x_ifeq (tgt := 77) rfl rfl (ti_eq jk_1 jk_0 (br_f (by omega) ?_))
              refine x_iconst (v := 1) rfl ki_1 ?_
              refine x_iret rfl rfl ?_
              exact hQ _ _ (jr_of jk_1 (by omega)) J Sm _ _ qu45 qu46 (by omega)
          ·
            refine x_aloadn (x := 70) rfl rfl ?_
            refine z_getR (N := 9) (b := 68) 5 1 rfl f_5_39 rfl J rfl 8961 ⟨rfl, rfl⟩ rfl ?_
            refine x_bipush (v := 46) rfl kb_46 ?_
            refine x_inv (N := m_X9_isSign) (As := [.int 46]) (b := 68) (st := []) (dx9 := 1) (mc := 0) (ms := 0) (host := "") 9 rfl t_X9_isSign ⟨Or.inl q_5_48, i_X9_isSign.1, i_X9_isSign.2⟩ ⟨by decide, rfl⟩ (congrArg Prod.fst (J.1.1 68 (9, 6) rfl)) rfl (by decide) rfl rfl ⟨by decide, by decide⟩ (sf_X9_isSign_r68 (jr_of jk_46 (by omega)) hD J qu45 qu46 (by omega)  (fun v74 h ev74 J S71 u72 u73 qu72 qu73 ru72 => ?_))
            have Sm := jSm_tr rfl Sm S71
            have eu72 := (show 0 ≤ u72.toInt ∧ u72.toInt ≤ 3 from qu72 ▸ jrg_f J sg_68_5_6_1_0_1)
            have eu73 := (show 0 ≤ u73.toInt ∧ u73.toInt ≤ 400 from qu73 ▸ jrg_f J sg_68_3_4_1_0_1)
            show jX m_X5_readRole 4 0 0 50 [(2, .int v5), (0, .ref 70), (1, .int l2)] [.int v74] _ 0 0 _
            refine x_ifeq (tgt := 55) rfl rfl (ti_eq rfl jk_0 ⟨fun c75 => ?_, fun c75 => ?_⟩)
            ·
              refine x_aloadn (x := 70) rfl rfl ?_
              refine x_iloadn (x := l2) rfl rfl ?_
              refine x_iconst (v := 2) rfl ki_2 ?_
              refine z_imul rfl rfl jk_2 (by omega) (fun v76 ev76 => ?_)
              refine x_iconst (v := 1) rfl ki_1 ?_
              refine z_iadd rfl rfl jk_1 (by omega) (fun v77 ev77 => ?_)
              refine x_bipush (v := 14) rfl kb_14 ?_
              refine z_imul rfl rfl jk_14 (by omega) (fun v78 ev78 => ?_)
              refine x_inv (N := m_X5_readName) (As := [.int v78]) (b := 70) (st := []) (dx9 := 3) (mc := 0) (ms := 0) (host := "") 5 rfl t_X5_readName ⟨Or.inl q_5_70, i_X5_readName.1, i_X5_readName.2⟩ ⟨by decide, rfl⟩ (congrArg Prod.fst (J.1.1 70 (5, 9) rfl)) rfl (by decide) rfl rfl ⟨by decide, by decide⟩ (sf_X5_readName_r70 (jr_of rfl (by omega)) (jr_mod rfl (by omega)) hD J qu72 qu73 (by omega)  (fun v82 h ev82 J S79 u80 u81 qu80 qu81 ru80 => ?_))
              have Sm := jSm_tr rfl Sm S79
              have eu80 := (show 0 ≤ u80.toInt ∧ u80.toInt ≤ 3 from qu80 ▸ jrg_f J sg_68_5_6_1_0_1)
              have eu81 := (show 0 ≤ u81.toInt ∧ u81.toInt ≤ 400 from qu81 ▸ jrg_f J sg_68_3_4_1_0_1)
              show jX m_X5_readRole 4 0 0 67 [(2, .int v5), (0, .ref 70), (1, .int l2)] [.int v82] _ 0 0 _
              refine x_zret rfl rfl (jz01 (by omega)) ?_
              show jX m_X5_readLine 5 0 0 60 [(0, .ref 70), (1, .int l1), (2, .int l2)] [.int v82] _ 0 0 _
              refine x_ifne (tgt := 65) rfl rfl (ti_ne rfl jk_0 ⟨fun c83 => ?_, fun c83 => ?_⟩)
              ·
                refine x_aloadn (x := 70) rfl rfl ?_
                refine z_getR (N := 9) (b := 68) 5 1 rfl f_5_39 rfl J rfl 8961 ⟨rfl, rfl⟩ rfl ?_
                refine x_inv (N := m_X9_isEnd) (As := []) (b := 68) (st := []) (dx9 := 4) (mc := 0) (ms := 0) (host := "") 9 rfl t_X9_isEnd ⟨Or.inl q_5_60, i_X9_isEnd.1, i_X9_isEnd.2⟩ ⟨by decide, rfl⟩ (congrArg Prod.fst (J.1.1 68 (9, 6) rfl)) rfl (by decide) rfl rfl ⟨by decide, by decide⟩ (jC.of rfl k_X9_isEnd rfl ?_)
                show jX m_X9_isEnd 4 0 0 0 [(0, .ref 68)] [] _ 0 0 _
                refine x_aloadn (x := 68) rfl rfl ?_
                refine z_getM (N := 6) (v := u80) 9 5 rfl f_9_28 rfl J rfl qu80 ?_
                refine x_ifne (tgt := 11) rfl rfl (ti_ne rfl jk_0 ⟨fun c84 => ?_, fun c84 => ?_⟩)
                ·
                  refine x_iconst (v := 0) rfl ki_0 ?_
                  refine x_zret rfl rfl (by decide) ?_
                  show jX m_X5_readLine 5 0 0 72 [(0, .ref 70), (1, .int l1), (2, .int l2)] [.int 0] _ 0 0 _
                  refine x_ifeq (tgt := 77) rfl rfl (ti_eq jk_0 jk_0 (br_t (by omega) ?_))
                  refine x_aloadn (x := 70) rfl rfl ?_
                  refine z_getR (N := 9) (b := 68) 5 1 rfl f_5_39 rfl J rfl 8961 ⟨rfl, rfl⟩ rfl ?_
                  refine x_bipush (v := 46) rfl kb_46 ?_
                  refine x_inv (N := m_X9_isSign) (As := [.int 46]) (b := 68) (st := []) (dx9 := 1) (mc := 0) (ms := 0) (host := "") 9 rfl t_X9_isSign ⟨Or.inl q_5_48, i_X9_isSign.1, i_X9_isSign.2⟩ ⟨by decide, rfl⟩ (congrArg Prod.fst (J.1.1 68 (9, 6) rfl)) rfl (by decide) rfl rfl ⟨by decide, by decide⟩ (sf_X9_isSign_r68 (jr_of jk_46 (by omega)) hD J qu80 qu81 (by omega)  (fun v88 h ev88 J S85 u86 u87 qu86 qu87 ru86 => ?_))
                  have Sm := jSm_tr rfl Sm S85
                  have eu86 := (show 0 ≤ u86.toInt ∧ u86.toInt ≤ 3 from qu86 ▸ jrg_f J sg_68_5_6_1_0_1)
                  have eu87 := (show 0 ≤ u87.toInt ∧ u87.toInt ≤ 400 from qu87 ▸ jrg_f J sg_68_3_4_1_0_1)
                  show jX m_X5_readLine 5 0 0 86 [(0, .ref 70), (1, .int l1), (2, .int l2)] [.int v88] _ 0 0 _
                  refine x_ifeq (tgt := 94) rfl rfl (ti_eq rfl jk_0 ⟨fun c89 => ?_, fun c89 => ?_⟩)
                  ·
                    refine x_aloadn (x := 70) rfl rfl ?_
                    refine z_getR (N := 9) (b := 68) 5 1 rfl f_5_39 rfl J rfl 8961 ⟨rfl, rfl⟩ rfl ?_
                    refine x_bipush (v := 44) rfl kb_44 ?_
                    refine x_inv (N := m_X9_isSign) (As := [.int 44]) (b := 68) (st := []) (dx9 := 1) (mc := 0) (ms := 0) (host := "") 9 rfl t_X9_isSign ⟨Or.inl q_5_48, i_X9_isSign.1, i_X9_isSign.2⟩ ⟨by decide, rfl⟩ (congrArg Prod.fst (J.1.1 68 (9, 6) rfl)) rfl (by decide) rfl rfl ⟨by decide, by decide⟩ (sf_X9_isSign_r68 (jr_of jk_44 (by omega)) hD J qu86 qu87 (by omega)  (fun v93 h ev93 J S90 u91 u92 qu91 qu92 ru91 => ?_))
                    have Sm := jSm_tr rfl Sm S90
                    have eu91 := (show 0 ≤ u91.toInt ∧ u91.toInt ≤ 3 from qu91 ▸ jrg_f J sg_68_5_6_1_0_1)
                    have eu92 := (show 0 ≤ u92.toInt ∧ u92.toInt ≤ 400 from qu92 ▸ jrg_f J sg_68_3_4_1_0_1)
                    show jX m_X5_readLine 5 0 0 103 [(0, .ref 70), (1, .int l1), (2, .int l2)] [.int v93] _ 0 0 _
                    refine x_ifeq (tgt := 113) rfl rfl (ti_eq rfl jk_0 ⟨fun c94 => ?_, fun c94 => ?_⟩)
                    ·
                      exact jX.sub (jsb_c rfl jsb_n) (ct_X5_readLine_r70_113 hD hQ  u92 u91 h (jr_of rfl (by omega)) (jr_of rfl (by omega)) (by omega) qu92 qu91 J Sm)
                    ·
                      refine x_iloadn (x := l2) rfl rfl ?_
                      refine x_iconst (v := 1) rfl ki_1 ?_
                      refine z_iadd rfl rfl jk_1 (by omega) (fun v95 ev95 => ?_)
                      refine x_iloadn (x := l1) rfl rfl ?_
                      refine x_iclt (tgt := 123) rfl rfl (ti_lt rfl rfl ⟨fun c96 => ?_, fun c96 => ?_⟩)
                      ·
                        refine x_aloadn (x := 70) rfl rfl ?_
                        refine z_getR (N := 9) (b := 68) 5 1 rfl f_5_39 rfl J rfl 8961 ⟨rfl, rfl⟩ rfl ?_
                        refine x_inv (N := m_X9_step) (As := []) (b := 68) (st := []) (dx9 := 2) (mc := 0) (ms := 0) (host := "") 9 rfl t_X9_step ⟨Or.inl q_5_67, i_X9_step.1, i_X9_step.2⟩ ⟨by decide, rfl⟩ (congrArg Prod.fst (J.1.1 68 (9, 6) rfl)) rfl (by decide) rfl rfl ⟨by decide, by decide⟩ (sf_X9_step_r68  hD J qu91 qu92 (by omega)  (fun h J S97 u98 u99 qu98 qu99 ru98 => ?_))
                        have Sm := jSm_tr rfl Sm S97
                        have eu98 := (show 0 ≤ u98.toInt ∧ u98.toInt ≤ 3 from qu98 ▸ jrg_f J sg_68_5_6_1_0_1)
                        have eu99 := (show 0 ≤ u99.toInt ∧ u99.toInt ≤ 400 from qu99 ▸ jrg_f J sg_68_3_4_1_0_1)
                        show jX m_X5_readLine 5 0 0 130 [(0, .ref 70), (1, .int l1), (2, .int l2)] [] _ 0 0 _
                        refine z_iinc (x := l2) (lsx9 := fun v100 => [(2, .int v100), (0, .ref 70), (1, .int l1)]) rfl rfl rfl jko_1 (by omega) rfl (fun _ => rfl) (fun v100 ev100 => ?_)
                        refine x_goto (tgt := 50) rfl rfl ?_
                        exact jX.sub (jsb_c rfl (jsb_c rfl (jsb_c rfl jsb_n))) (ih l1 v100 u99 u98 h (by omega) (jr_of rfl (by omega)) (jr_of rfl (by omega)) (jr_of rfl (by omega)) (jr_of rfl (by omega)) (by omega) qu99 qu98 J Sm)
                      ·
                        exact jX.sub (jsb_c rfl jsb_n) (ct_X5_readLine_r70_113 hD hQ  u92 u91 h (jr_of rfl (by omega)) (jr_of rfl (by omega)) (by omega) qu92 qu91 J Sm)
                  ·
                    refine x_aloadn (x := 70) rfl rfl ?_
                    refine x_inv (N := m_X5_readStop) (As := []) (b := 70) (st := []) (dx9 := 4) (mc := 0) (ms := 0) (host := "") 5 rfl t_X5_readStop ⟨Or.inl q_5_52, i_X5_readStop.1, i_X5_readStop.2⟩ ⟨by decide, rfl⟩ (congrArg Prod.fst (J.1.1 70 (5, 9) rfl)) rfl (by decide) rfl rfl ⟨by decide, by decide⟩ (jC.of rfl k_X5_readStop rfl ?_)
                    show jX m_X5_readStop 4 0 0 0 [(0, .ref 70)] [] _ 0 0 _
                    refine x_aloadn (x := 70) rfl rfl ?_
                    refine z_getR (N := 9) (b := 68) 5 1 rfl f_5_39 rfl J rfl 8961 ⟨rfl, rfl⟩ rfl ?_
                    refine x_inv (N := m_X9_step) (As := []) (b := 68) (st := []) (dx9 := 2) (mc := 0) (ms := 0) (host := "") 9 rfl t_X9_step ⟨Or.inl q_5_67, i_X9_step.1, i_X9_step.2⟩ ⟨by decide, rfl⟩ (congrArg Prod.fst (J.1.1 68 (9, 6) rfl)) rfl (by decide) rfl rfl ⟨by decide, by decide⟩ (sf_X9_step_r68  hD J qu86 qu87 (by omega)  (fun h J S101 u102 u103 qu102 qu103 ru102 => ?_))
                    have Sm := jSm_tr rfl Sm S101
                    have eu102 := (show 0 ≤ u102.toInt ∧ u102.toInt ≤ 3 from qu102 ▸ jrg_f J sg_68_5_6_1_0_1)
                    have eu103 := (show 0 ≤ u103.toInt ∧ u103.toInt ≤ 400 from qu103 ▸ jrg_f J sg_68_3_4_1_0_1)
                    show jX m_X5_readStop 4 0 0 7 [(0, .ref 70)] [] _ 0 0 _
                    refine x_aloadn (x := 70) rfl rfl ?_
                    refine z_getR (N := 9) (b := 68) 5 1 rfl f_5_39 rfl J rfl 8961 ⟨rfl, rfl⟩ rfl ?_
                    refine x_inv (N := m_X9_isEnd) (As := []) (b := 68) (st := []) (dx9 := 3) (mc := 0) (ms := 0) (host := "") 9 rfl t_X9_isEnd ⟨Or.inl q_5_60, i_X9_isEnd.1, i_X9_isEnd.2⟩ ⟨by decide, rfl⟩ (congrArg Prod.fst (J.1.1 68 (9, 6) rfl)) rfl (by decide) rfl rfl ⟨by decide, by decide⟩ (jC.of rfl k_X9_isEnd rfl ?_)
                    show jX m_X9_isEnd 3 0 0 0 [(0, .ref 68)] [] _ 0 0 _
                    refine x_aloadn (x := 68) rfl rfl ?_
                    refine z_getM (N := 6) (v := u102) 9 5 rfl f_9_28 rfl J rfl qu102 ?_
                    refine x_ifne (tgt := 11) rfl rfl (ti_ne rfl jk_0 ⟨fun c104 => ?_, fun c104 => ?_⟩)
                    ·
                      refine x_iconst (v := 0) rfl ki_0 ?_
                      refine x_zret rfl rfl (by decide) ?_
                      show jX m_X5_readStop 4 0 0 14 [(0, .ref 70)] [.int 0] _ 0 0 _
                      refine x_ifeq (tgt := 19) rfl rfl (ti_eq jk_0 jk_0 (br_t (by omega) ?_))
                      refine x_aloadn (x := 70) rfl rfl ?_
                      refine z_getR (N := 9) (b := 68) 5 1 rfl f_5_39 rfl J rfl 8961 ⟨rfl, rfl⟩ rfl ?_
                      refine x_inv (N := m_X9_blame) (As := []) (b := 68) (st := []) (dx9 := 3) (mc := 0) (ms := 0) (host := "") 9 rfl t_X9_blame ⟨Or.inl q_5_64, i_X9_blame.1, i_X9_blame.2⟩ ⟨by decide, rfl⟩ (congrArg Prod.fst (J.1.1 68 (9, 6) rfl)) rfl (by decide) rfl rfl ⟨by decide, by decide⟩ (jC.of rfl k_X9_blame rfl ?_)
                      show jX m_X9_blame 3 0 0 0 [(0, .ref 68)] [] _ 0 0 _
                      refine x_aloadn (x := 68) rfl rfl ?_
                      refine x_aloadn (x := 68) rfl rfl ?_
                      refine z_getM (N := 6) (v := u103) 9 3 rfl f_9_22 rfl J rfl qu103 ?_
                      refine z_putI (N := 6) (w := u103.toInt) 9 2 rfl f_9_19 rfl (jfin_no TX9 RX9 6 rfl rfl) hD J Sm rfl rfl rfl (pw_68_2 (by omega)) rfl (fun h w105 J Sm => ?_)
                      refine x_iconst (v := 0) rfl ki_0 ?_
                      refine x_zret rfl rfl (by decide) ?_
                      show jX m_X5_readStop 4 0 0 26 [(0, .ref 70)] [.int 0] _ 0 0 _
                      refine x_pop rfl rfl ?_
                      refine x_iconst (v := (-1)) rfl ki_m1 ?_
                      refine x_iret rfl rfl ?_
                      show jX m_X5_readLine 5 0 0 93 [(0, .ref 70), (1, .int l1), (2, .int l2)] [.int (-1)] _ 0 0 _
                      refine x_iret rfl rfl ?_
                      exact hQ _ _ (jr_of jk_m1 (by omega)) J Sm _ _ (jmo w105 rfl qu102) (jmo w105 rfl qu103) (by omega)
                    ·
                      refine x_iconst (v := 1) rfl ki_1 ?_
                      refine x_goto (tgt := 12) rfl rfl ?_
                      refine x_zret rfl rfl (by decide) ?_
                      show jX m_X5_readStop 4 0 0 14 [(0, .ref 70)] [.int 1] _ 0 0 _
                      refine x_ifeq (tgt := 19) rfl rfl (ti_eq jk_1 jk_0 (br_f (by omega) ?_))
                      refine x_iconst (v := 0) rfl ki_0 ?_
                      refine x_iret rfl rfl ?_
                      show jX m_X5_readLine 5 0 0 93 [(0, .ref 70), (1, .int l1), (2, .int l2)] [.int 0] _ 0 0 _
                      refine x_iret rfl rfl ?_
                      exact hQ _ _ (jr_of jk_0 (by omega)) J Sm _ _ qu102 qu103 (by omega)
                ·
                  refine x_iconst (v := 1) rfl ki_1 ?_
                  refine x_goto (tgt := 12) rfl rfl ?_
                  refine x_zret rfl rfl (by decide) ?_
                  show jX m_X5_readLine 5 0 0 72 [(0, .ref 70), (1, .int l1), (2, .int l2)] [.int 1] _ 0 0 _
                  refine x_ifeq (tgt := 77) rfl rfl (ti_eq jk_1 jk_0 (br_f (by omega) ?_))
                  refine x_iconst (v := 1) rfl ki_1 ?_
                  refine x_iret rfl rfl ?_
                  exact hQ _ _ (jr_of jk_1 (by omega)) J Sm _ _ qu80 qu81 (by omega)
              ·
                refine x_iconst (v := (-1)) rfl ki_m1 ?_
                refine x_iret rfl rfl ?_
                exact hQ _ _ (jr_of jk_m1 (by omega)) J Sm _ _ qu80 qu81 (by omega)
            ·
              refine x_iconst (v := 1) rfl ki_1 ?_
              refine x_zret rfl rfl (by decide) ?_
              show jX m_X5_readLine 5 0 0 60 [(0, .ref 70), (1, .int l1), (2, .int l2)] [.int 1] _ 0 0 _
              refine x_ifne (tgt := 65) rfl rfl (ti_ne jk_1 jk_0 (bn_t (by omega) ?_))
              refine x_aloadn (x := 70) rfl rfl ?_
              refine z_getR (N := 9) (b := 68) 5 1 rfl f_5_39 rfl J rfl 8961 ⟨rfl, rfl⟩ rfl ?_
              refine x_inv (N := m_X9_isEnd) (As := []) (b := 68) (st := []) (dx9 := 4) (mc := 0) (ms := 0) (host := "") 9 rfl t_X9_isEnd ⟨Or.inl q_5_60, i_X9_isEnd.1, i_X9_isEnd.2⟩ ⟨by decide, rfl⟩ (congrArg Prod.fst (J.1.1 68 (9, 6) rfl)) rfl (by decide) rfl rfl ⟨by decide, by decide⟩ (jC.of rfl k_X9_isEnd rfl ?_)
              show jX m_X9_isEnd 4 0 0 0 [(0, .ref 68)] [] _ 0 0 _
              refine x_aloadn (x := 68) rfl rfl ?_
              refine z_getM (N := 6) (v := u72) 9 5 rfl f_9_28 rfl J rfl qu72 ?_
              refine x_ifne (tgt := 11) rfl rfl (ti_ne rfl jk_0 ⟨fun c106 => ?_, fun c106 => ?_⟩)
              ·
                refine x_iconst (v := 0) rfl ki_0 ?_
                refine x_zret rfl rfl (by decide) ?_
                show jX m_X5_readLine 5 0 0 72 [(0, .ref 70), (1, .int l1), (2, .int l2)] [.int 0] _ 0 0 _
                refine x_ifeq (tgt := 77) rfl rfl (ti_eq jk_0 jk_0 (br_t (by omega) ?_))
                refine x_aloadn (x := 70) rfl rfl ?_
                refine z_getR (N := 9) (b := 68) 5 1 rfl f_5_39 rfl J rfl 8961 ⟨rfl, rfl⟩ rfl ?_
                refine x_bipush (v := 46) rfl kb_46 ?_
                refine x_inv (N := m_X9_isSign) (As := [.int 46]) (b := 68) (st := []) (dx9 := 1) (mc := 0) (ms := 0) (host := "") 9 rfl t_X9_isSign ⟨Or.inl q_5_48, i_X9_isSign.1, i_X9_isSign.2⟩ ⟨by decide, rfl⟩ (congrArg Prod.fst (J.1.1 68 (9, 6) rfl)) rfl (by decide) rfl rfl ⟨by decide, by decide⟩ (sf_X9_isSign_r68 (jr_of jk_46 (by omega)) hD J qu72 qu73 (by omega)  (fun v110 h ev110 J S107 u108 u109 qu108 qu109 ru108 => ?_))
                have Sm := jSm_tr rfl Sm S107
                have eu108 := (show 0 ≤ u108.toInt ∧ u108.toInt ≤ 3 from qu108 ▸ jrg_f J sg_68_5_6_1_0_1)
                have eu109 := (show 0 ≤ u109.toInt ∧ u109.toInt ≤ 400 from qu109 ▸ jrg_f J sg_68_3_4_1_0_1)
                show jX m_X5_readLine 5 0 0 86 [(0, .ref 70), (1, .int l1), (2, .int l2)] [.int v110] _ 0 0 _
                refine x_ifeq (tgt := 94) rfl rfl (ti_eq rfl jk_0 ⟨fun c111 => ?_, fun c111 => ?_⟩)
                ·
                  refine x_aloadn (x := 70) rfl rfl ?_
                  refine z_getR (N := 9) (b := 68) 5 1 rfl f_5_39 rfl J rfl 8961 ⟨rfl, rfl⟩ rfl ?_
                  refine x_bipush (v := 44) rfl kb_44 ?_
                  refine x_inv (N := m_X9_isSign) (As := [.int 44]) (b := 68) (st := []) (dx9 := 1) (mc := 0) (ms := 0) (host := "") 9 rfl t_X9_isSign ⟨Or.inl q_5_48, i_X9_isSign.1, i_X9_isSign.2⟩ ⟨by decide, rfl⟩ (congrArg Prod.fst (J.1.1 68 (9, 6) rfl)) rfl (by decide) rfl rfl ⟨by decide, by decide⟩ (sf_X9_isSign_r68 (jr_of jk_44 (by omega)) hD J qu108 qu109 (by omega)  (fun v115 h ev115 J S112 u113 u114 qu113 qu114 ru113 => ?_))
                  have Sm := jSm_tr rfl Sm S112
                  have eu113 := (show 0 ≤ u113.toInt ∧ u113.toInt ≤ 3 from qu113 ▸ jrg_f J sg_68_5_6_1_0_1)
                  have eu114 := (show 0 ≤ u114.toInt ∧ u114.toInt ≤ 400 from qu114 ▸ jrg_f J sg_68_3_4_1_0_1)
                  show jX m_X5_readLine 5 0 0 103 [(0, .ref 70), (1, .int l1), (2, .int l2)] [.int v115] _ 0 0 _
                  refine x_ifeq (tgt := 113) rfl rfl (ti_eq rfl jk_0 ⟨fun c116 => ?_, fun c116 => ?_⟩)
                  ·
                    exact jX.sub (jsb_c rfl jsb_n) (ct_X5_readLine_r70_113 hD hQ  u114 u113 h (jr_of rfl (by omega)) (jr_of rfl (by omega)) (by omega) qu114 qu113 J Sm)
                  ·
                    refine x_iloadn (x := l2) rfl rfl ?_
                    refine x_iconst (v := 1) rfl ki_1 ?_
                    refine z_iadd rfl rfl jk_1 (by omega) (fun v117 ev117 => ?_)
                    refine x_iloadn (x := l1) rfl rfl ?_
                    refine x_iclt (tgt := 123) rfl rfl (ti_lt rfl rfl ⟨fun c118 => ?_, fun c118 => ?_⟩)
                    ·
                      refine x_aloadn (x := 70) rfl rfl ?_
                      refine z_getR (N := 9) (b := 68) 5 1 rfl f_5_39 rfl J rfl 8961 ⟨rfl, rfl⟩ rfl ?_
                      refine x_inv (N := m_X9_step) (As := []) (b := 68) (st := []) (dx9 := 2) (mc := 0) (ms := 0) (host := "") 9 rfl t_X9_step ⟨Or.inl q_5_67, i_X9_step.1, i_X9_step.2⟩ ⟨by decide, rfl⟩ (congrArg Prod.fst (J.1.1 68 (9, 6) rfl)) rfl (by decide) rfl rfl ⟨by decide, by decide⟩ (sf_X9_step_r68  hD J qu113 qu114 (by omega)  (fun h J S119 u120 u121 qu120 qu121 ru120 => ?_))
                      have Sm := jSm_tr rfl Sm S119
                      have eu120 := (show 0 ≤ u120.toInt ∧ u120.toInt ≤ 3 from qu120 ▸ jrg_f J sg_68_5_6_1_0_1)
                      have eu121 := (show 0 ≤ u121.toInt ∧ u121.toInt ≤ 400 from qu121 ▸ jrg_f J sg_68_3_4_1_0_1)
                      show jX m_X5_readLine 5 0 0 130 [(0, .ref 70), (1, .int l1), (2, .int l2)] [] _ 0 0 _
                      refine z_iinc (x := l2) (lsx9 := fun v122 => [(2, .int v122), (0, .ref 70), (1, .int l1)]) rfl rfl rfl jko_1 (by omega) rfl (fun _ => rfl) (fun v122 ev122 => ?_)
                      refine x_goto (tgt := 50) rfl rfl ?_
                      exact jX.sub (jsb_c rfl (jsb_c rfl (jsb_c rfl jsb_n))) (ih l1 v122 u121 u120 h (by omega) (jr_of rfl (by omega)) (jr_of rfl (by omega)) (jr_of rfl (by omega)) (jr_of rfl (by omega)) (by omega) qu121 qu120 J Sm)
                    ·
                      exact jX.sub (jsb_c rfl jsb_n) (ct_X5_readLine_r70_113 hD hQ  u114 u113 h (jr_of rfl (by omega)) (jr_of rfl (by omega)) (by omega) qu114 qu113 J Sm)
                ·
                  refine x_aloadn (x := 70) rfl rfl ?_
                  refine x_inv (N := m_X5_readStop) (As := []) (b := 70) (st := []) (dx9 := 4) (mc := 0) (ms := 0) (host := "") 5 rfl t_X5_readStop ⟨Or.inl q_5_52, i_X5_readStop.1, i_X5_readStop.2⟩ ⟨by decide, rfl⟩ (congrArg Prod.fst (J.1.1 70 (5, 9) rfl)) rfl (by decide) rfl rfl ⟨by decide, by decide⟩ (jC.of rfl k_X5_readStop rfl ?_)
                  show jX m_X5_readStop 4 0 0 0 [(0, .ref 70)] [] _ 0 0 _
                  refine x_aloadn (x := 70) rfl rfl ?_
                  refine z_getR (N := 9) (b := 68) 5 1 rfl f_5_39 rfl J rfl 8961 ⟨rfl, rfl⟩ rfl ?_
                  refine x_inv (N := m_X9_step) (As := []) (b := 68) (st := []) (dx9 := 2) (mc := 0) (ms := 0) (host := "") 9 rfl t_X9_step ⟨Or.inl q_5_67, i_X9_step.1, i_X9_step.2⟩ ⟨by decide, rfl⟩ (congrArg Prod.fst (J.1.1 68 (9, 6) rfl)) rfl (by decide) rfl rfl ⟨by decide, by decide⟩ (sf_X9_step_r68  hD J qu108 qu109 (by omega)  (fun h J S123 u124 u125 qu124 qu125 ru124 => ?_))
                  have Sm := jSm_tr rfl Sm S123
                  have eu124 := (show 0 ≤ u124.toInt ∧ u124.toInt ≤ 3 from qu124 ▸ jrg_f J sg_68_5_6_1_0_1)
                  have eu125 := (show 0 ≤ u125.toInt ∧ u125.toInt ≤ 400 from qu125 ▸ jrg_f J sg_68_3_4_1_0_1)
                  show jX m_X5_readStop 4 0 0 7 [(0, .ref 70)] [] _ 0 0 _
                  refine x_aloadn (x := 70) rfl rfl ?_
                  refine z_getR (N := 9) (b := 68) 5 1 rfl f_5_39 rfl J rfl 8961 ⟨rfl, rfl⟩ rfl ?_
                  refine x_inv (N := m_X9_isEnd) (As := []) (b := 68) (st := []) (dx9 := 3) (mc := 0) (ms := 0) (host := "") 9 rfl t_X9_isEnd ⟨Or.inl q_5_60, i_X9_isEnd.1, i_X9_isEnd.2⟩ ⟨by decide, rfl⟩ (congrArg Prod.fst (J.1.1 68 (9, 6) rfl)) rfl (by decide) rfl rfl ⟨by decide, by decide⟩ (jC.of rfl k_X9_isEnd rfl ?_)
                  show jX m_X9_isEnd 3 0 0 0 [(0, .ref 68)] [] _ 0 0 _
                  refine x_aloadn (x := 68) rfl rfl ?_
                  refine z_getM (N := 6) (v := u124) 9 5 rfl f_9_28 rfl J rfl qu124 ?_
                  refine x_ifne (tgt := 11) rfl rfl (ti_ne rfl jk_0 ⟨fun c126 => ?_, fun c126 => ?_⟩)
                  ·
                    refine x_iconst (v := 0) rfl ki_0 ?_
                    refine x_zret rfl rfl (by decide) ?_
                    show jX m_X5_readStop 4 0 0 14 [(0, .ref 70)] [.int 0] _ 0 0 _
                    refine x_ifeq (tgt := 19) rfl rfl (ti_eq jk_0 jk_0 (br_t (by omega) ?_))
                    refine x_aloadn (x := 70) rfl rfl ?_
                    refine z_getR (N := 9) (b := 68) 5 1 rfl f_5_39 rfl J rfl 8961 ⟨rfl, rfl⟩ rfl ?_
                    refine x_inv (N := m_X9_blame) (As := []) (b := 68) (st := []) (dx9 := 3) (mc := 0) (ms := 0) (host := "") 9 rfl t_X9_blame ⟨Or.inl q_5_64, i_X9_blame.1, i_X9_blame.2⟩ ⟨by decide, rfl⟩ (congrArg Prod.fst (J.1.1 68 (9, 6) rfl)) rfl (by decide) rfl rfl ⟨by decide, by decide⟩ (jC.of rfl k_X9_blame rfl ?_)
                    show jX m_X9_blame 3 0 0 0 [(0, .ref 68)] [] _ 0 0 _
                    refine x_aloadn (x := 68) rfl rfl ?_
                    refine x_aloadn (x := 68) rfl rfl ?_
                    refine z_getM (N := 6) (v := u125) 9 3 rfl f_9_22 rfl J rfl qu125 ?_
                    refine z_putI (N := 6) (w := u125.toInt) 9 2 rfl f_9_19 rfl (jfin_no TX9 RX9 6 rfl rfl) hD J Sm rfl rfl rfl (pw_68_2 (by omega)) rfl (fun h w127 J Sm => ?_)
                    refine x_iconst (v := 0) rfl ki_0 ?_
                    refine x_zret rfl rfl (by decide) ?_
                    show jX m_X5_readStop 4 0 0 26 [(0, .ref 70)] [.int 0] _ 0 0 _
                    refine x_pop rfl rfl ?_
                    refine x_iconst (v := (-1)) rfl ki_m1 ?_
                    refine x_iret rfl rfl ?_
                    show jX m_X5_readLine 5 0 0 93 [(0, .ref 70), (1, .int l1), (2, .int l2)] [.int (-1)] _ 0 0 _
                    refine x_iret rfl rfl ?_
                    exact hQ _ _ (jr_of jk_m1 (by omega)) J Sm _ _ (jmo w127 rfl qu124) (jmo w127 rfl qu125) (by omega)
                  ·
                    refine x_iconst (v := 1) rfl ki_1 ?_
                    refine x_goto (tgt := 12) rfl rfl ?_
                    refine x_zret rfl rfl (by decide) ?_
                    show jX m_X5_readStop 4 0 0 14 [(0, .ref 70)] [.int 1] _ 0 0 _
                    refine x_ifeq (tgt := 19) rfl rfl (ti_eq jk_1 jk_0 (br_f (by omega) ?_))
                    refine x_iconst (v := 0) rfl ki_0 ?_
                    refine x_iret rfl rfl ?_
                    show jX m_X5_readLine 5 0 0 93 [(0, .ref 70), (1, .int l1), (2, .int l2)] [.int 0] _ 0 0 _
                    refine x_iret rfl rfl ?_
                    exact hQ _ _ (jr_of jk_0 (by omega)) J Sm _ _ qu124 qu125 (by omega)
              ·
                refine x_iconst (v := 1) rfl ki_1 ?_
                refine x_goto (tgt := 12) rfl rfl ?_
                refine x_zret rfl rfl (by decide) ?_
                show jX m_X5_readLine 5 0 0 72 [(0, .ref 70), (1, .int l1), (2, .int l2)] [.int 1] _ 0 0 _
                refine x_ifeq (tgt := 77) rfl rfl (ti_eq jk_1 jk_0 (br_f (by omega) ?_))
                refine x_iconst (v := 1) rfl ki_1 ?_
                refine x_iret rfl rfl ?_
                exact hQ _ _ (jr_of jk_1 (by omega)) J Sm _ _ qu72 qu73 (by omega)
      ·
        refine x_iconst (v := 0) rfl ki_0 ?_
        refine x_zret rfl rfl (by decide) ?_
        show jX m_X5_readLine 5 0 0 60 [(0, .ref 70), (1, .int l1), (2, .int l2)] [.int 0] _ 0 0 _
        refine x_ifne (tgt := 65) rfl rfl (ti_ne jk_0 jk_0 (bn_f (by omega) ?_))
        refine x_iconst (v := (-1)) rfl ki_m1 ?_
        refine x_iret rfl rfl ?_
        exact hQ _ _ (jr_of jk_m1 (by omega)) J Sm _ _ qu9 qu10 (by omega)
set_option maxRecDepth 100000 in
set_option maxHeartbeats 4000000 in
theorem ct_X5_readLine_r70_2 {Dy : jH → Prop} {h0 : jH} {Q : Option Value → jH → Prop} (hD : jDk Dy) (hQ : ∀ (v : Int32) hx9, (-1) ≤ v.toInt ∧ v.toInt ≤ 1 → jJ jSgX Dy hx9 → jSm fp_X5_readLine_r70 h0 hx9 → ∀ u0 u1 : Int32, jiv hx9 68 5 = u0 → jiv hx9 68 3 = u1 → (u0.toInt ≠ 3 ∨ u1.toInt ≤ 399) → Q (some (.int v)) hx9) : ∀ r : Nat, ∀ (l1 : Int32) (l2 : Int32) (g0 : Int32) (g1 : Int32) (h : jH), 84 - l2.toInt < (r : Int) → 1 ≤ l1.toInt ∧ l1.toInt ≤ 3 → 0 ≤ l2.toInt ∧ l2.toInt ≤ 84 → 0 ≤ g0.toInt ∧ g0.toInt ≤ 400 → 0 ≤ g1.toInt ∧ g1.toInt ≤ 3 → (g1.toInt ≠ 3 ∨ g0.toInt ≤ 399) → jiv h 68 3 = g0 → jiv h 68 5 = g1 → jJ jSgX Dy h → jSm fp_X5_readLine_r70 h0 h → jX m_X5_readLine 5 0 0 2 [(0, .ref 70), (1, .int l1), (2, .int l2)] [] h 0 0 Q := by
  intro r
  induction r with
  | zero =>
    intro l1 l2 g0 g1 h hm y0 y1 y2 y3 y4 z0 z1  J Sm
    exfalso
    omega
  | succ r ih =>
    intro l1 l2 g0 g1 h hm y0 y1 y2 y3 y4 z0 z1  J Sm
    refine x_iloadn (x := l2) rfl rfl ?_
    refine x_aloadn (x := 70) rfl rfl ?_
    refine z_getR (N := 9) (b := 71) 5 2 rfl f_5_9 rfl J rfl 8962 ⟨rfl, rfl⟩ rfl ?_
    refine z_alen (N := 84) (v := 84) rfl J rfl rfl (by decide) ?_
    refine x_icge (tgt := 24) rfl rfl (ti_ge rfl jk_84 ⟨fun c1 => ?_, fun c1 => ?_⟩)
    ·
      refine x_aloadn (x := 70) rfl rfl ?_
      refine z_getR (N := 9) (b := 68) 5 1 rfl f_5_39 rfl J rfl 8961 ⟨rfl, rfl⟩ rfl ?_
      refine x_inv (N := m_X9_begin) (As := []) (b := 68) (st := []) (dx9 := 4) (mc := 0) (ms := 0) (host := "") 9 rfl t_X9_begin ⟨Or.inl q_5_43, i_X9_begin.1, i_X9_begin.2⟩ ⟨by decide, rfl⟩ (congrArg Prod.fst (J.1.1 68 (9, 6) rfl)) rfl (by decide) rfl rfl ⟨by decide, by decide⟩ (jC.of rfl k_X9_begin rfl ?_)
      show jX m_X9_begin 4 0 0 0 [(0, .ref 68)] [] _ 0 0 _
      refine x_aloadn (x := 68) rfl rfl ?_
      refine x_iconst (v := (-1)) rfl ki_m1 ?_
      refine z_putI (N := 6) (w := (-1)) 9 2 rfl f_9_19 rfl (jfin_no TX9 RX9 6 rfl rfl) hD J Sm rfl rfl jk_m1 (pw_68_2 (by omega)) rfl (fun h w2 J Sm => ?_)
      refine x_aloadn (x := 68) rfl rfl ?_
      refine x_iconst (v := 0) rfl ki_0 ?_
      refine z_putI (N := 6) (w := 0) 9 4 rfl f_9_25 rfl (jfin_no TX9 RX9 6 rfl rfl) hD J Sm rfl rfl jk_0 (pw_68_4 (by omega)) rfl (fun h w3 J Sm => ?_)
      refine x_aloadn (x := 68) rfl rfl ?_
      refine x_inv (N := m_X9_step) (As := []) (b := 68) (st := []) (dx9 := 2) (mc := 0) (ms := 0) (host := "") 9 rfl t_X9_step ⟨Or.inl q_9_31, i_X9_step.1, i_X9_step.2⟩ ⟨by decide, rfl⟩ (congrArg Prod.fst (J.1.1 68 (9, 6) rfl)) rfl (by decide) rfl rfl ⟨by decide, by decide⟩ (sf_X9_step_r68  hD J (jmo w3 rfl (jmo w2 rfl z1)) (jmo w3 rfl (jmo w2 rfl z0)) (by omega)  (fun h J S4 u5 u6 qu5 qu6 ru5 => ?_))
      have Sm := jSm_tr rfl Sm S4
      have eu5 := (show 0 ≤ u5.toInt ∧ u5.toInt ≤ 3 from qu5 ▸ jrg_f J sg_68_5_6_1_0_1)
      have eu6 := (show 0 ≤ u6.toInt ∧ u6.toInt ≤ 400 from qu6 ▸ jrg_f J sg_68_3_4_1_0_1)
      show jX m_X9_begin 4 0 0 14 [(0, .ref 68)] [] _ 0 0 _
      refine x_vret rfl rfl ?_
      show jX m_X5_readLine 5 0 0 31 [(0, .ref 70), (1, .int l1), (2, .int l2)] [] _ 0 0 _
      refine x_aloadn (x := 70) rfl rfl ?_
      refine z_getR (N := 9) (b := 68) 5 1 rfl f_5_39 rfl J rfl 8961 ⟨rfl, rfl⟩ rfl ?_
      refine x_bipush (v := 46) rfl kb_46 ?_
      refine x_inv (N := m_X9_isSign) (As := [.int 46]) (b := 68) (st := []) (dx9 := 1) (mc := 0) (ms := 0) (host := "") 9 rfl t_X9_isSign ⟨Or.inl q_5_48, i_X9_isSign.1, i_X9_isSign.2⟩ ⟨by decide, rfl⟩ (congrArg Prod.fst (J.1.1 68 (9, 6) rfl)) rfl (by decide) rfl rfl ⟨by decide, by decide⟩ (sf_X9_isSign_r68 (jr_of jk_46 (by omega)) hD J qu5 qu6 (by omega)  (fun v10 h ev10 J S7 u8 u9 qu8 qu9 ru8 => ?_))
      have Sm := jSm_tr rfl Sm S7
      have eu8 := (show 0 ≤ u8.toInt ∧ u8.toInt ≤ 3 from qu8 ▸ jrg_f J sg_68_5_6_1_0_1)
      have eu9 := (show 0 ≤ u9.toInt ∧ u9.toInt ≤ 400 from qu9 ▸ jrg_f J sg_68_3_4_1_0_1)
      show jX m_X5_readLine 5 0 0 40 [(0, .ref 70), (1, .int l1), (2, .int l2)] [.int v10] _ 0 0 _
      refine x_ifeq (tgt := 48) rfl rfl (ti_eq rfl jk_0 ⟨fun c11 => ?_, fun c11 => ?_⟩)
      ·
        refine x_iconst (v := 0) rfl ki_0 ?_
        refine x_istoren (lsx9 := [(2, .int 0), (0, .ref 70), (1, .int l1)]) rfl rfl rfl ?_
        exact jX.sub (jsb_c rfl (jsb_c rfl (jsb_c rfl jsb_n))) (ct_X5_readLine_r70_50 hD hQ  3 l1 0 u9 u8 h (by have := jk_0; omega) (jr_of rfl (by omega)) (jr_of jk_0 (by omega)) (jr_of rfl (by omega)) (jr_of rfl (by omega)) (by omega) qu9 qu8 J Sm)
      ·
        refine x_aloadn (x := 70) rfl rfl ?_
        refine x_inv (N := m_X5_readStop) (As := []) (b := 70) (st := []) (dx9 := 4) (mc := 0) (ms := 0) (host := "") 5 rfl t_X5_readStop ⟨Or.inl q_5_52, i_X5_readStop.1, i_X5_readStop.2⟩ ⟨by decide, rfl⟩ (congrArg Prod.fst (J.1.1 70 (5, 9) rfl)) rfl (by decide) rfl rfl ⟨by decide, by decide⟩ (jC.of rfl k_X5_readStop rfl ?_)
        show jX m_X5_readStop 4 0 0 0 [(0, .ref 70)] [] _ 0 0 _
        refine x_aloadn (x := 70) rfl rfl ?_
        refine z_getR (N := 9) (b := 68) 5 1 rfl f_5_39 rfl J rfl 8961 ⟨rfl, rfl⟩ rfl ?_
        refine x_inv (N := m_X9_step) (As := []) (b := 68) (st := []) (dx9 := 2) (mc := 0) (ms := 0) (host := "") 9 rfl t_X9_step ⟨Or.inl q_5_67, i_X9_step.1, i_X9_step.2⟩ ⟨by decide, rfl⟩ (congrArg Prod.fst (J.1.1 68 (9, 6) rfl)) rfl (by decide) rfl rfl ⟨by decide, by decide⟩ (sf_X9_step_r68  hD J qu8 qu9 (by omega)  (fun h J S12 u13 u14 qu13 qu14 ru13 => ?_))
        have Sm := jSm_tr rfl Sm S12
        have eu13 := (show 0 ≤ u13.toInt ∧ u13.toInt ≤ 3 from qu13 ▸ jrg_f J sg_68_5_6_1_0_1)
        have eu14 := (show 0 ≤ u14.toInt ∧ u14.toInt ≤ 400 from qu14 ▸ jrg_f J sg_68_3_4_1_0_1)
        show jX m_X5_readStop 4 0 0 7 [(0, .ref 70)] [] _ 0 0 _
        refine x_aloadn (x := 70) rfl rfl ?_
        refine z_getR (N := 9) (b := 68) 5 1 rfl f_5_39 rfl J rfl 8961 ⟨rfl, rfl⟩ rfl ?_
        refine x_inv (N := m_X9_isEnd) (As := []) (b := 68) (st := []) (dx9 := 3) (mc := 0) (ms := 0) (host := "") 9 rfl t_X9_isEnd ⟨Or.inl q_5_60, i_X9_isEnd.1, i_X9_isEnd.2⟩ ⟨by decide, rfl⟩ (congrArg Prod.fst (J.1.1 68 (9, 6) rfl)) rfl (by decide) rfl rfl ⟨by decide, by decide⟩ (jC.of rfl k_X9_isEnd rfl ?_)
        show jX m_X9_isEnd 3 0 0 0 [(0, .ref 68)] [] _ 0 0 _
        refine x_aloadn (x := 68) rfl rfl ?_
        refine z_getM (N := 6) (v := u13) 9 5 rfl f_9_28 rfl J rfl qu13 ?_
        refine x_ifne (tgt := 11) rfl rfl (ti_ne rfl jk_0 ⟨fun c15 => ?_, fun c15 => ?_⟩)
        ·
          refine x_iconst (v := 0) rfl ki_0 ?_
          refine x_zret rfl rfl (by decide) ?_
          show jX m_X5_readStop 4 0 0 14 [(0, .ref 70)] [.int 0] _ 0 0 _
          refine x_ifeq (tgt := 19) rfl rfl (ti_eq jk_0 jk_0 (br_t (by omega) ?_))
          refine x_aloadn (x := 70) rfl rfl ?_
          refine z_getR (N := 9) (b := 68) 5 1 rfl f_5_39 rfl J rfl 8961 ⟨rfl, rfl⟩ rfl ?_
          refine x_inv (N := m_X9_blame) (As := []) (b := 68) (st := []) (dx9 := 3) (mc := 0) (ms := 0) (host := "") 9 rfl t_X9_blame ⟨Or.inl q_5_64, i_X9_blame.1, i_X9_blame.2⟩ ⟨by decide, rfl⟩ (congrArg Prod.fst (J.1.1 68 (9, 6) rfl)) rfl (by decide) rfl rfl ⟨by decide, by decide⟩ (jC.of rfl k_X9_blame rfl ?_)
          show jX m_X9_blame 3 0 0 0 [(0, .ref 68)] [] _ 0 0 _
          refine x_aloadn (x := 68) rfl rfl ?_
          refine x_aloadn (x := 68) rfl rfl ?_
          refine z_getM (N := 6) (v := u14) 9 3 rfl f_9_22 rfl J rfl qu14 ?_
          refine z_putI (N := 6) (w := u14.toInt) 9 2 rfl f_9_19 rfl (jfin_no TX9 RX9 6 rfl rfl) hD J Sm rfl rfl rfl (pw_68_2 (by omega)) rfl (fun h w16 J Sm => ?_)
          refine x_iconst (v := 0) rfl ki_0 ?_
          refine x_zret rfl rfl (by decide) ?_
          show jX m_X5_readStop 4 0 0 26 [(0, .ref 70)] [.int 0] _ 0 0 _
          refine x_pop rfl rfl ?_
          refine x_iconst (v := (-1)) rfl ki_m1 ?_
          refine x_iret rfl rfl ?_
          show jX m_X5_readLine 5 0 0 47 [(0, .ref 70), (1, .int l1), (2, .int l2)] [.int (-1)] _ 0 0 _
          refine x_iret rfl rfl ?_
          exact hQ _ _ (jr_of jk_m1 (by omega)) J Sm _ _ (jmo w16 rfl qu13) (jmo w16 rfl qu14) (by omega)
        ·
          refine x_iconst (v := 1) rfl ki_1 ?_
          refine x_goto (tgt := 12) rfl rfl ?_
          refine x_zret rfl rfl (by decide) ?_
          show jX m_X5_readStop 4 0 0 14 [(0, .ref 70)] [.int 1] _ 0 0 _
          refine x_ifeq (tgt := 19) rfl rfl (ti_eq jk_1 jk_0 (br_f (by omega) ?_))
          refine x_iconst (v := 0) rfl ki_0 ?_
          refine x_iret rfl rfl ?_
          show jX m_X5_readLine 5 0 0 47 [(0, .ref 70), (1, .int l1), (2, .int l2)] [.int 0] _ 0 0 _
          refine x_iret rfl rfl ?_
          exact hQ _ _ (jr_of jk_0 (by omega)) J Sm _ _ qu13 qu14 (by omega)
    ·
      refine x_aloadn (x := 70) rfl rfl ?_
      refine z_getR (N := 9) (b := 71) 5 2 rfl f_5_9 rfl J rfl 8962 ⟨rfl, rfl⟩ rfl ?_
      refine x_iloadn (x := l2) rfl rfl ?_
      refine x_iconst (v := 0) rfl ki_0 ?_
      refine z_iast (N := 84) (l := 0) (u := 84) (w := 0) rfl hD J Sm rfl rfl rfl (by omega) jk_0 (wr_71 (fun q1 q2 q3 q4 => by omega) (fun q1 q2 q3 q4 => by omega) (fun q1 q2 q3 q4 => by omega) (fun q1 q2 q3 q4 => by omega)) rfl (fun h w17 J Sm => ?_)
      refine z_iinc (x := l2) (lsx9 := fun v18 => [(2, .int v18), (0, .ref 70), (1, .int l1)]) rfl rfl rfl jko_1 (by omega) rfl (fun _ => rfl) (fun v18 ev18 => ?_)
      refine x_goto (tgt := 2) rfl rfl ?_
      exact jX.sub (jsb_c rfl (jsb_c rfl (jsb_c rfl jsb_n))) (ih l1 v18 g0 g1 h (by omega) (jr_of rfl (by omega)) (jr_of rfl (by omega)) (jr_of rfl (by omega)) (jr_of rfl (by omega)) (by omega) (jmo w17 rfl z0) (jmo w17 rfl z1) J Sm)
set_option maxRecDepth 100000 in
set_option maxHeartbeats 4000000 in
theorem sf_X5_readLine_r70 {Dy : jH → Prop} {h : jH} {Q : Option Value → jH → Prop} {a1 : Int32} (y1 : 1 ≤ a1.toInt ∧ a1.toInt ≤ 3) (hD : jDk Dy) (J : jJ jSgX Dy h) {p0 p1 : Int32} (zp0 : jiv h 68 5 = p0) (zp1 : jiv h 68 3 = p1) (rl_p0 : (p0.toInt ≠ 3 ∨ p1.toInt ≤ 399)) (hQ : ∀ (v : Int32) hx9, (-1) ≤ v.toInt ∧ v.toInt ≤ 1 → jJ jSgX Dy hx9 → jSm fp_X5_readLine_r70 h hx9 → ∀ u0 u1 : Int32, jiv hx9 68 5 = u0 → jiv hx9 68 3 = u1 → (u0.toInt ≠ 3 ∨ u1.toInt ≤ 399) → Q (some (.int v)) hx9) : jC m_X5_readLine 5 0 0 [.ref 70, .int a1] h Q := by
  refine jC.of rfl k_X5_readLine rfl ?_
  have Sm := jSm_rf fp_X5_readLine_r70 h
  have ep0 := (show 0 ≤ p0.toInt ∧ p0.toInt ≤ 3 from zp0 ▸ jrg_f J sg_68_5_6_1_0_1)
  have ep1 := (show 0 ≤ p1.toInt ∧ p1.toInt ≤ 400 from zp1 ▸ jrg_f J sg_68_3_4_1_0_1)
  show jX m_X5_readLine 5 0 0 0 [(0, .ref 70), (1, .int a1)] [] _ 0 0 _
  refine x_iconst (v := 0) rfl ki_0 ?_
  refine x_istoren (lsx9 := [(2, .int 0), (0, .ref 70), (1, .int a1)]) rfl rfl rfl ?_
  exact jX.sub (jsb_c rfl (jsb_c rfl (jsb_c rfl jsb_n))) (ct_X5_readLine_r70_2 hD hQ  85 a1 0 p1 p0 h (by have := jk_0; omega) (jr_of rfl (by omega)) (jr_of jk_0 (by omega)) (jr_of rfl (by omega)) (jr_of rfl (by omega)) (by omega) zp1 zp0 J Sm)
def fp_X8_put_r33_c0 : jFp := [(34, 0, 1200)]
set_option maxRecDepth 100000 in
set_option maxHeartbeats 4000000 in
theorem ct_X8_put_r33_c0_38 {Dy : jH → Prop} {h0 : jH} {Q : Option Value → jH → Prop} (hD : jDk Dy) (hQ : ∀ hx9, jJ jSgX Dy hx9 → jSm fp_X8_put_r33_c0 h0 hx9 → Q none hx9) : ∀ (h : jH), jJ jSgX Dy h → jSm fp_X8_put_r33_c0 h0 h → jX m_X8_put 1 0 0 38 [] [] h 0 0 Q := by
  intro  h    J Sm
  refine x_vret rfl rfl ?_
  exact hQ _ J Sm
set_option maxRecDepth 100000 in
set_option maxHeartbeats 4000000 in
theorem sf_X8_put_r33_c0 {Dy : jH → Prop} {h : jH} {Q : Option Value → jH → Prop} {a1 : Int32} {a3 : Int32} (y1 : 0 ≤ a1.toInt ∧ a1.toInt ≤ 199) (y3 : 0 ≤ a3.toInt ∧ a3.toInt ≤ 146399) (hD : jDk Dy) (J : jJ jSgX Dy h) (hQ : ∀ hx9, jJ jSgX Dy hx9 → jSm fp_X8_put_r33_c0 h hx9 → Q none hx9) : jC m_X8_put 1 0 0 [.ref 33, .int a1, .int 0, .int a3] h Q := by
  refine jC.of rfl k_X8_put rfl ?_
  have Sm := jSm_rf fp_X8_put_r33_c0 h
  show jX m_X8_put 1 0 0 0 [(0, .ref 33), (1, .int a1), (2, .int 0), (3, .int a3)] [] _ 0 0 _
  refine x_iloadn (x := a1) rfl rfl ?_
  refine x_iflt (tgt := 38) rfl rfl (ti_lt rfl jk_0 (br_f (by omega) ?_))
  refine x_iloadn (x := a1) rfl rfl ?_
  refine x_aloadn (x := 33) rfl rfl ?_
  refine z_getI (N := 4) 8 3 rfl f_8_7 rfl J rfl sg_33_3_4_1_0_1 (fun v1 qv1 ev1 => ?_)
  refine x_icge (tgt := 38) rfl rfl (ti_ge rfl rfl ⟨fun c2 => ?_, fun c2 => ?_⟩)
  ·
    exact jX.sub jsb_n (ct_X8_put_r33_c0_38 hD hQ  h J Sm)
  ·
    refine x_iloadn (x := 0) rfl rfl ?_
    refine x_iflt (tgt := 38) rfl rfl (ti_lt jk_0 jk_0 (br_f (by omega) ?_))
    refine x_iloadn (x := 0) rfl rfl ?_
    refine x_aloadn (x := 33) rfl rfl ?_
    refine z_getC (N := 4) (v := 6) 8 0 rfl f_8_19 rfl J rfl sg_33_0_1_1_0_1 jk_6 ?_
    refine x_icge (tgt := 38) rfl rfl (ti_ge jk_0 jk_6 (br_f (by omega) ?_))
    refine x_aloadn (x := 33) rfl rfl ?_
    refine z_getR (N := 4) (b := 34) 8 2 rfl f_8_25 rfl J rfl 4226 ⟨rfl, rfl⟩ rfl ?_
    refine x_iloadn (x := a1) rfl rfl ?_
    refine x_aloadn (x := 33) rfl rfl ?_
    refine z_getC (N := 4) (v := 6) 8 0 rfl f_8_19 rfl J rfl sg_33_0_1_1_0_1 jk_6 ?_
    refine z_imul rfl rfl jk_6 (by omega) (fun v3 ev3 => ?_)
    refine x_iloadn (x := 0) rfl rfl ?_
    refine z_iadd rfl rfl jk_0 (by omega) (fun v4 ev4 => ?_)
    refine x_iloadn (x := a3) rfl rfl ?_
    refine z_iast (N := 1200) (l := 0) (u := 1200) (w := a3.toInt) rfl hD J Sm rfl rfl rfl (by omega) rfl (wr_34 (fun q1 q2 q3 q4 => by omega) (fun q1 q2 q3 q4 => by omega) (fun q1 q2 q3 q4 => by omega) (fun q1 q2 q3 q4 => by omega) (fun q1 q2 q3 q4 => by omega)) rfl (fun h w5 J Sm => ?_)
    exact jX.sub jsb_n (ct_X8_put_r33_c0_38 hD hQ  h J Sm)
def fp_X8_put_r33_c1 : jFp := [(34, 0, 1200)]
set_option maxRecDepth 100000 in
set_option maxHeartbeats 4000000 in
theorem ct_X8_put_r33_c1_38 {Dy : jH → Prop} {h0 : jH} {Q : Option Value → jH → Prop} (hD : jDk Dy) (hQ : ∀ hx9, jJ jSgX Dy hx9 → jSm fp_X8_put_r33_c1 h0 hx9 → Q none hx9) : ∀ (h : jH), jJ jSgX Dy h → jSm fp_X8_put_r33_c1 h0 h → jX m_X8_put 1 0 0 38 [] [] h 0 0 Q := by
  intro  h    J Sm
  refine x_vret rfl rfl ?_
  exact hQ _ J Sm
set_option maxRecDepth 100000 in
set_option maxHeartbeats 4000000 in
theorem sf_X8_put_r33_c1 {Dy : jH → Prop} {h : jH} {Q : Option Value → jH → Prop} {a1 : Int32} {a3 : Int32} (y1 : 0 ≤ a1.toInt ∧ a1.toInt ≤ 199) (y3 : 0 ≤ a3.toInt ∧ a3.toInt ≤ 146399) (hD : jDk Dy) (J : jJ jSgX Dy h) (hQ : ∀ hx9, jJ jSgX Dy hx9 → jSm fp_X8_put_r33_c1 h hx9 → Q none hx9) : jC m_X8_put 1 0 0 [.ref 33, .int a1, .int 1, .int a3] h Q := by
  refine jC.of rfl k_X8_put rfl ?_
  have Sm := jSm_rf fp_X8_put_r33_c1 h
  show jX m_X8_put 1 0 0 0 [(0, .ref 33), (1, .int a1), (2, .int 1), (3, .int a3)] [] _ 0 0 _
  refine x_iloadn (x := a1) rfl rfl ?_
  refine x_iflt (tgt := 38) rfl rfl (ti_lt rfl jk_0 (br_f (by omega) ?_))
  refine x_iloadn (x := a1) rfl rfl ?_
  refine x_aloadn (x := 33) rfl rfl ?_
  refine z_getI (N := 4) 8 3 rfl f_8_7 rfl J rfl sg_33_3_4_1_0_1 (fun v1 qv1 ev1 => ?_)
  refine x_icge (tgt := 38) rfl rfl (ti_ge rfl rfl ⟨fun c2 => ?_, fun c2 => ?_⟩)
  ·
    exact jX.sub jsb_n (ct_X8_put_r33_c1_38 hD hQ  h J Sm)
  ·
    refine x_iloadn (x := 1) rfl rfl ?_
    refine x_iflt (tgt := 38) rfl rfl (ti_lt jk_1 jk_0 (br_f (by omega) ?_))
    refine x_iloadn (x := 1) rfl rfl ?_
    refine x_aloadn (x := 33) rfl rfl ?_
    refine z_getC (N := 4) (v := 6) 8 0 rfl f_8_19 rfl J rfl sg_33_0_1_1_0_1 jk_6 ?_
    refine x_icge (tgt := 38) rfl rfl (ti_ge jk_1 jk_6 (br_f (by omega) ?_))
    refine x_aloadn (x := 33) rfl rfl ?_
    refine z_getR (N := 4) (b := 34) 8 2 rfl f_8_25 rfl J rfl 4226 ⟨rfl, rfl⟩ rfl ?_
    refine x_iloadn (x := a1) rfl rfl ?_
    refine x_aloadn (x := 33) rfl rfl ?_
    refine z_getC (N := 4) (v := 6) 8 0 rfl f_8_19 rfl J rfl sg_33_0_1_1_0_1 jk_6 ?_
    refine z_imul rfl rfl jk_6 (by omega) (fun v3 ev3 => ?_)
    refine x_iloadn (x := 1) rfl rfl ?_
    refine z_iadd rfl rfl jk_1 (by omega) (fun v4 ev4 => ?_)
    refine x_iloadn (x := a3) rfl rfl ?_
    refine z_iast (N := 1200) (l := 0) (u := 1200) (w := a3.toInt) rfl hD J Sm rfl rfl rfl (by omega) rfl (wr_34 (fun q1 q2 q3 q4 => by omega) (fun q1 q2 q3 q4 => by omega) (fun q1 q2 q3 q4 => by omega) (fun q1 q2 q3 q4 => by omega) (fun q1 q2 q3 q4 => by omega)) rfl (fun h w5 J Sm => ?_)
    exact jX.sub jsb_n (ct_X8_put_r33_c1_38 hD hQ  h J Sm)
def fp_X8_put_r33_c2 : jFp := [(34, 0, 1200)]
set_option maxRecDepth 100000 in
set_option maxHeartbeats 4000000 in
theorem ct_X8_put_r33_c2_38 {Dy : jH → Prop} {h0 : jH} {Q : Option Value → jH → Prop} (hD : jDk Dy) (hQ : ∀ hx9, jJ jSgX Dy hx9 → jSm fp_X8_put_r33_c2 h0 hx9 → Q none hx9) : ∀ (h : jH), jJ jSgX Dy h → jSm fp_X8_put_r33_c2 h0 h → jX m_X8_put 1 0 0 38 [] [] h 0 0 Q := by
  intro  h    J Sm
  refine x_vret rfl rfl ?_
  exact hQ _ J Sm
set_option maxRecDepth 100000 in
set_option maxHeartbeats 4000000 in
theorem sf_X8_put_r33_c2 {Dy : jH → Prop} {h : jH} {Q : Option Value → jH → Prop} {a1 : Int32} {a3 : Int32} (y1 : 0 ≤ a1.toInt ∧ a1.toInt ≤ 199) (y3 : 0 ≤ a3.toInt ∧ a3.toInt ≤ 5) (hD : jDk Dy) (J : jJ jSgX Dy h) (hQ : ∀ hx9, jJ jSgX Dy hx9 → jSm fp_X8_put_r33_c2 h hx9 → Q none hx9) : jC m_X8_put 1 0 0 [.ref 33, .int a1, .int 2, .int a3] h Q := by
  refine jC.of rfl k_X8_put rfl ?_
  have Sm := jSm_rf fp_X8_put_r33_c2 h
  show jX m_X8_put 1 0 0 0 [(0, .ref 33), (1, .int a1), (2, .int 2), (3, .int a3)] [] _ 0 0 _
  refine x_iloadn (x := a1) rfl rfl ?_
  refine x_iflt (tgt := 38) rfl rfl (ti_lt rfl jk_0 (br_f (by omega) ?_))
  refine x_iloadn (x := a1) rfl rfl ?_
  refine x_aloadn (x := 33) rfl rfl ?_
  refine z_getI (N := 4) 8 3 rfl f_8_7 rfl J rfl sg_33_3_4_1_0_1 (fun v1 qv1 ev1 => ?_)
  refine x_icge (tgt := 38) rfl rfl (ti_ge rfl rfl ⟨fun c2 => ?_, fun c2 => ?_⟩)
  ·
    exact jX.sub jsb_n (ct_X8_put_r33_c2_38 hD hQ  h J Sm)
  ·
    refine x_iloadn (x := 2) rfl rfl ?_
    refine x_iflt (tgt := 38) rfl rfl (ti_lt jk_2 jk_0 (br_f (by omega) ?_))
    refine x_iloadn (x := 2) rfl rfl ?_
    refine x_aloadn (x := 33) rfl rfl ?_
    refine z_getC (N := 4) (v := 6) 8 0 rfl f_8_19 rfl J rfl sg_33_0_1_1_0_1 jk_6 ?_
    refine x_icge (tgt := 38) rfl rfl (ti_ge jk_2 jk_6 (br_f (by omega) ?_))
    refine x_aloadn (x := 33) rfl rfl ?_
    refine z_getR (N := 4) (b := 34) 8 2 rfl f_8_25 rfl J rfl 4226 ⟨rfl, rfl⟩ rfl ?_
    refine x_iloadn (x := a1) rfl rfl ?_
    refine x_aloadn (x := 33) rfl rfl ?_
    refine z_getC (N := 4) (v := 6) 8 0 rfl f_8_19 rfl J rfl sg_33_0_1_1_0_1 jk_6 ?_
    refine z_imul rfl rfl jk_6 (by omega) (fun v3 ev3 => ?_)
    refine x_iloadn (x := 2) rfl rfl ?_
    refine z_iadd rfl rfl jk_2 (by omega) (fun v4 ev4 => ?_)
    refine x_iloadn (x := a3) rfl rfl ?_
    refine z_iast (N := 1200) (l := 0) (u := 1200) (w := a3.toInt) rfl hD J Sm rfl rfl rfl (by omega) rfl (wr_34 (fun q1 q2 q3 q4 => by omega) (fun q1 q2 q3 q4 => by omega) (fun q1 q2 q3 q4 => by omega) (fun q1 q2 q3 q4 => by omega) (fun q1 q2 q3 q4 => by omega)) rfl (fun h w5 J Sm => ?_)
    exact jX.sub jsb_n (ct_X8_put_r33_c2_38 hD hQ  h J Sm)
def fp_X8_put_r33_c3 : jFp := [(34, 0, 1200)]
set_option maxRecDepth 100000 in
set_option maxHeartbeats 4000000 in
theorem ct_X8_put_r33_c3_38 {Dy : jH → Prop} {h0 : jH} {Q : Option Value → jH → Prop} (hD : jDk Dy) (hQ : ∀ hx9, jJ jSgX Dy hx9 → jSm fp_X8_put_r33_c3 h0 hx9 → Q none hx9) : ∀ (h : jH), jJ jSgX Dy h → jSm fp_X8_put_r33_c3 h0 h → jX m_X8_put 1 0 0 38 [] [] h 0 0 Q := by
  intro  h    J Sm
  refine x_vret rfl rfl ?_
  exact hQ _ J Sm
set_option maxRecDepth 100000 in
set_option maxHeartbeats 4000000 in
theorem sf_X8_put_r33_c3 {Dy : jH → Prop} {h : jH} {Q : Option Value → jH → Prop} {a1 : Int32} {a3 : Int32} (y1 : 0 ≤ a1.toInt ∧ a1.toInt ≤ 199) (y3 : 0 ≤ a3.toInt ∧ a3.toInt ≤ 15) (hD : jDk Dy) (J : jJ jSgX Dy h) (hQ : ∀ hx9, jJ jSgX Dy hx9 → jSm fp_X8_put_r33_c3 h hx9 → Q none hx9) : jC m_X8_put 1 0 0 [.ref 33, .int a1, .int 3, .int a3] h Q := by
  refine jC.of rfl k_X8_put rfl ?_
  have Sm := jSm_rf fp_X8_put_r33_c3 h
  show jX m_X8_put 1 0 0 0 [(0, .ref 33), (1, .int a1), (2, .int 3), (3, .int a3)] [] _ 0 0 _
  refine x_iloadn (x := a1) rfl rfl ?_
  refine x_iflt (tgt := 38) rfl rfl (ti_lt rfl jk_0 (br_f (by omega) ?_))
  refine x_iloadn (x := a1) rfl rfl ?_
  refine x_aloadn (x := 33) rfl rfl ?_
  refine z_getI (N := 4) 8 3 rfl f_8_7 rfl J rfl sg_33_3_4_1_0_1 (fun v1 qv1 ev1 => ?_)
  refine x_icge (tgt := 38) rfl rfl (ti_ge rfl rfl ⟨fun c2 => ?_, fun c2 => ?_⟩)
  ·
    exact jX.sub jsb_n (ct_X8_put_r33_c3_38 hD hQ  h J Sm)
  ·
    refine x_iloadn (x := 3) rfl rfl ?_
    refine x_iflt (tgt := 38) rfl rfl (ti_lt jk_3 jk_0 (br_f (by omega) ?_))
    refine x_iloadn (x := 3) rfl rfl ?_
    refine x_aloadn (x := 33) rfl rfl ?_
    refine z_getC (N := 4) (v := 6) 8 0 rfl f_8_19 rfl J rfl sg_33_0_1_1_0_1 jk_6 ?_
    refine x_icge (tgt := 38) rfl rfl (ti_ge jk_3 jk_6 (br_f (by omega) ?_))
    refine x_aloadn (x := 33) rfl rfl ?_
    refine z_getR (N := 4) (b := 34) 8 2 rfl f_8_25 rfl J rfl 4226 ⟨rfl, rfl⟩ rfl ?_
    refine x_iloadn (x := a1) rfl rfl ?_
    refine x_aloadn (x := 33) rfl rfl ?_
    refine z_getC (N := 4) (v := 6) 8 0 rfl f_8_19 rfl J rfl sg_33_0_1_1_0_1 jk_6 ?_
    refine z_imul rfl rfl jk_6 (by omega) (fun v3 ev3 => ?_)
    refine x_iloadn (x := 3) rfl rfl ?_
    refine z_iadd rfl rfl jk_3 (by omega) (fun v4 ev4 => ?_)
    refine x_iloadn (x := a3) rfl rfl ?_
    refine z_iast (N := 1200) (l := 0) (u := 1200) (w := a3.toInt) rfl hD J Sm rfl rfl rfl (by omega) rfl (wr_34 (fun q1 q2 q3 q4 => by omega) (fun q1 q2 q3 q4 => by omega) (fun q1 q2 q3 q4 => by omega) (fun q1 q2 q3 q4 => by omega) (fun q1 q2 q3 q4 => by omega)) rfl (fun h w5 J Sm => ?_)
    exact jX.sub jsb_n (ct_X8_put_r33_c3_38 hD hQ  h J Sm)
def fp_X8_put_r33_c5 : jFp := [(34, 0, 1200)]
set_option maxRecDepth 100000 in
set_option maxHeartbeats 4000000 in
theorem ct_X8_put_r33_c5_38 {Dy : jH → Prop} {h0 : jH} {Q : Option Value → jH → Prop} (hD : jDk Dy) (hQ : ∀ hx9, jJ jSgX Dy hx9 → jSm fp_X8_put_r33_c5 h0 hx9 → Q none hx9) : ∀ (h : jH), jJ jSgX Dy h → jSm fp_X8_put_r33_c5 h0 h → jX m_X8_put 1 0 0 38 [] [] h 0 0 Q := by
  intro  h    J Sm
  refine x_vret rfl rfl ?_
  exact hQ _ J Sm
set_option maxRecDepth 100000 in
set_option maxHeartbeats 4000000 in
theorem sf_X8_put_r33_c5 {Dy : jH → Prop} {h : jH} {Q : Option Value → jH → Prop} {a1 : Int32} {a3 : Int32} (y1 : 0 ≤ a1.toInt ∧ a1.toInt ≤ 199) (y3 : 0 ≤ a3.toInt ∧ a3.toInt ≤ 1) (hD : jDk Dy) (J : jJ jSgX Dy h) (hQ : ∀ hx9, jJ jSgX Dy hx9 → jSm fp_X8_put_r33_c5 h hx9 → Q none hx9) : jC m_X8_put 1 0 0 [.ref 33, .int a1, .int 5, .int a3] h Q := by
  refine jC.of rfl k_X8_put rfl ?_
  have Sm := jSm_rf fp_X8_put_r33_c5 h
  show jX m_X8_put 1 0 0 0 [(0, .ref 33), (1, .int a1), (2, .int 5), (3, .int a3)] [] _ 0 0 _
  refine x_iloadn (x := a1) rfl rfl ?_
  refine x_iflt (tgt := 38) rfl rfl (ti_lt rfl jk_0 (br_f (by omega) ?_))
  refine x_iloadn (x := a1) rfl rfl ?_
  refine x_aloadn (x := 33) rfl rfl ?_
  refine z_getI (N := 4) 8 3 rfl f_8_7 rfl J rfl sg_33_3_4_1_0_1 (fun v1 qv1 ev1 => ?_)
  refine x_icge (tgt := 38) rfl rfl (ti_ge rfl rfl ⟨fun c2 => ?_, fun c2 => ?_⟩)
  ·
    exact jX.sub jsb_n (ct_X8_put_r33_c5_38 hD hQ  h J Sm)
  ·
    refine x_iloadn (x := 5) rfl rfl ?_
    refine x_iflt (tgt := 38) rfl rfl (ti_lt jk_5 jk_0 (br_f (by omega) ?_))
    refine x_iloadn (x := 5) rfl rfl ?_
    refine x_aloadn (x := 33) rfl rfl ?_
    refine z_getC (N := 4) (v := 6) 8 0 rfl f_8_19 rfl J rfl sg_33_0_1_1_0_1 jk_6 ?_
    refine x_icge (tgt := 38) rfl rfl (ti_ge jk_5 jk_6 (br_f (by omega) ?_))
    refine x_aloadn (x := 33) rfl rfl ?_
    refine z_getR (N := 4) (b := 34) 8 2 rfl f_8_25 rfl J rfl 4226 ⟨rfl, rfl⟩ rfl ?_
    refine x_iloadn (x := a1) rfl rfl ?_
    refine x_aloadn (x := 33) rfl rfl ?_
    refine z_getC (N := 4) (v := 6) 8 0 rfl f_8_19 rfl J rfl sg_33_0_1_1_0_1 jk_6 ?_
    refine z_imul rfl rfl jk_6 (by omega) (fun v3 ev3 => ?_)
    refine x_iloadn (x := 5) rfl rfl ?_
    refine z_iadd rfl rfl jk_5 (by omega) (fun v4 ev4 => ?_)
    refine x_iloadn (x := a3) rfl rfl ?_
    refine z_iast (N := 1200) (l := 0) (u := 1200) (w := a3.toInt) rfl hD J Sm rfl rfl rfl (by omega) rfl (wr_34 (fun q1 q2 q3 q4 => by omega) (fun q1 q2 q3 q4 => by omega) (fun q1 q2 q3 q4 => by omega) (fun q1 q2 q3 q4 => by omega) (fun q1 q2 q3 q4 => by omega)) rfl (fun h w5 J Sm => ?_)
    exact jX.sub jsb_n (ct_X8_put_r33_c5_38 hD hQ  h J Sm)
def fp_X8_add_r33 : jFp := [(33, 3, 4), (34, 0, 1200)]
set_option maxRecDepth 100000 in
set_option maxHeartbeats 4000000 in
theorem sf_X8_add_r33 {Dy : jH → Prop} {h : jH} {Q : Option Value → jH → Prop} {a1 : Int32} {a2 : Int32} {a3 : Int32} {a4 : Int32} {a5 : Int32} {a6 : Int32} (y1 : 0 ≤ a1.toInt ∧ a1.toInt ≤ 146399) (y2 : 0 ≤ a2.toInt ∧ a2.toInt ≤ 146399) (y3 : 0 ≤ a3.toInt ∧ a3.toInt ≤ 5) (y4 : 0 ≤ a4.toInt ∧ a4.toInt ≤ 15) (y5 : (-1) ≤ a5.toInt ∧ a5.toInt ≤ 100000) (y6 : 0 ≤ a6.toInt ∧ a6.toInt ≤ 1) (hD : jDk Dy) (J : jJ jSgX Dy h) (hQ : ∀ hx9, jJ jSgX Dy hx9 → jSm fp_X8_add_r33 h hx9 → Q none hx9) : jC m_X8_add 2 0 0 [.ref 33, .int a1, .int a2, .int a3, .int a4, .int a5, .int a6] h Q := by
  refine jC.of rfl k_X8_add rfl ?_
  have Sm := jSm_rf fp_X8_add_r33 h
  show jX m_X8_add 2 0 0 0 [(0, .ref 33), (1, .int a1), (2, .int a2), (3, .int a3), (4, .int a4), (5, .int a5), (6, .int a6)] [] _ 0 0 _
  refine x_aloadn (x := 33) rfl rfl ?_
  refine z_getI (N := 4) 8 3 rfl f_8_7 rfl J rfl sg_33_3_4_1_0_1 (fun v1 qv1 ev1 => ?_)
  refine x_aloadn (x := 33) rfl rfl ?_
  refine z_getC (N := 4) (v := 200) 8 1 rfl f_8_22 rfl J rfl sg_33_1_2_1_0_1 jk_200 ?_
  refine x_iclt (tgt := 12) rfl rfl (ti_lt rfl jk_200 ⟨fun c2 => ?_, fun c2 => ?_⟩)
  ·
    refine x_aloadn (x := 33) rfl rfl ?_
    refine z_getM (N := 4) (v := v1) 8 3 rfl f_8_7 rfl J rfl qv1 ?_
    refine x_istore (lsx9 := [(7, .int v1), (0, .ref 33), (1, .int a1), (2, .int a2), (3, .int a3), (4, .int a4), (5, .int a5), (6, .int a6)]) rfl rfl rfl ?_
    refine x_aloadn (x := 33) rfl rfl ?_
    refine x_iload (x := v1) rfl rfl ?_
    refine x_iconst (v := 1) rfl ki_1 ?_
    refine z_iadd rfl rfl jk_1 (by omega) (fun v3 ev3 => ?_)
    refine z_putI (N := 4) (w := v3.toInt) 8 3 rfl f_8_7 rfl (jfin_no TX8 RX8 4 rfl rfl) hD J Sm rfl rfl rfl (pw_33_3 (by omega)) rfl (fun h w4 J Sm => ?_)
    refine x_aloadn (x := 33) rfl rfl ?_
    refine x_iload (x := v1) rfl rfl ?_
    refine x_iconst (v := 0) rfl ki_0 ?_
    refine x_iloadn (x := a1) rfl rfl ?_
    refine x_inv (N := m_X8_put) (As := [.int v1, .int 0, .int a1]) (b := 33) (st := []) (dx9 := 1) (mc := 0) (ms := 0) (host := "") 8 rfl t_X8_put ⟨Or.inl q_8_29, i_X8_put.1, i_X8_put.2⟩ ⟨by decide, rfl⟩ (congrArg Prod.fst (J.1.1 33 (8, 4) rfl)) rfl (by decide) rfl rfl ⟨by decide, by decide⟩ (sf_X8_put_r33_c0 (jr_of rfl (by omega)) (jr_of rfl (by omega)) hD J  (fun h J S5 => ?_))
    have Sm := jSm_tr rfl Sm S5
    show jX m_X8_add 2 0 0 34 [(7, .int v1), (0, .ref 33), (1, .int a1), (2, .int a2), (3, .int a3), (4, .int a4), (5, .int a5), (6, .int a6)] [] _ 0 0 _
    refine x_aloadn (x := 33) rfl rfl ?_
    refine x_iload (x := v1) rfl rfl ?_
    refine x_iconst (v := 1) rfl ki_1 ?_
    refine x_iloadn (x := a2) rfl rfl ?_
    refine x_inv (N := m_X8_put) (As := [.int v1, .int 1, .int a2]) (b := 33) (st := []) (dx9 := 1) (mc := 0) (ms := 0) (host := "") 8 rfl t_X8_put ⟨Or.inl q_8_29, i_X8_put.1, i_X8_put.2⟩ ⟨by decide, rfl⟩ (congrArg Prod.fst (J.1.1 33 (8, 4) rfl)) rfl (by decide) rfl rfl ⟨by decide, by decide⟩ (sf_X8_put_r33_c1 (jr_of rfl (by omega)) (jr_of rfl (by omega)) hD J  (fun h J S6 => ?_))
    have Sm := jSm_tr rfl Sm S6
    show jX m_X8_add 2 0 0 42 [(7, .int v1), (0, .ref 33), (1, .int a1), (2, .int a2), (3, .int a3), (4, .int a4), (5, .int a5), (6, .int a6)] [] _ 0 0 _
    refine x_aloadn (x := 33) rfl rfl ?_
    refine x_iload (x := v1) rfl rfl ?_
    refine x_iconst (v := 2) rfl ki_2 ?_
    refine x_iloadn (x := a3) rfl rfl ?_
    refine x_inv (N := m_X8_put) (As := [.int v1, .int 2, .int a3]) (b := 33) (st := []) (dx9 := 1) (mc := 0) (ms := 0) (host := "") 8 rfl t_X8_put ⟨Or.inl q_8_29, i_X8_put.1, i_X8_put.2⟩ ⟨by decide, rfl⟩ (congrArg Prod.fst (J.1.1 33 (8, 4) rfl)) rfl (by decide) rfl rfl ⟨by decide, by decide⟩ (sf_X8_put_r33_c2 (jr_of rfl (by omega)) (jr_of rfl (by omega)) hD J  (fun h J S7 => ?_))
    have Sm := jSm_tr rfl Sm S7
    show jX m_X8_add 2 0 0 50 [(7, .int v1), (0, .ref 33), (1, .int a1), (2, .int a2), (3, .int a3), (4, .int a4), (5, .int a5), (6, .int a6)] [] _ 0 0 _
    refine x_aloadn (x := 33) rfl rfl ?_
    refine x_iload (x := v1) rfl rfl ?_
    refine x_iconst (v := 3) rfl ki_3 ?_
    refine x_iload (x := a4) rfl rfl ?_
    refine x_inv (N := m_X8_put) (As := [.int v1, .int 3, .int a4]) (b := 33) (st := []) (dx9 := 1) (mc := 0) (ms := 0) (host := "") 8 rfl t_X8_put ⟨Or.inl q_8_29, i_X8_put.1, i_X8_put.2⟩ ⟨by decide, rfl⟩ (congrArg Prod.fst (J.1.1 33 (8, 4) rfl)) rfl (by decide) rfl rfl ⟨by decide, by decide⟩ (sf_X8_put_r33_c3 (jr_of rfl (by omega)) (jr_of rfl (by omega)) hD J  (fun h J S8 => ?_))
    have Sm := jSm_tr rfl Sm S8
    show jX m_X8_add 2 0 0 59 [(7, .int v1), (0, .ref 33), (1, .int a1), (2, .int a2), (3, .int a3), (4, .int a4), (5, .int a5), (6, .int a6)] [] _ 0 0 _
    refine x_aloadn (x := 33) rfl rfl ?_
    refine x_iload (x := v1) rfl rfl ?_
    refine x_iconst (v := 4) rfl ki_4 ?_
    refine x_iload (x := a5) rfl rfl ?_
    refine x_inv (N := m_X8_put) (As := [.int v1, .int 4, .int a5]) (b := 33) (st := []) (dx9 := 1) (mc := 0) (ms := 0) (host := "") 8 rfl t_X8_put ⟨Or.inl q_8_29, i_X8_put.1, i_X8_put.2⟩ ⟨by decide, rfl⟩ (congrArg Prod.fst (J.1.1 33 (8, 4) rfl)) rfl (by decide) rfl rfl ⟨by decide, by decide⟩ (sf_X8_put_r33_c4 (jr_of rfl (by omega)) hD J  (fun h J S9 => ?_))
    have Sm := jSm_tr rfl Sm S9
    show jX m_X8_add 2 0 0 68 [(7, .int v1), (0, .ref 33), (1, .int a1), (2, .int a2), (3, .int a3), (4, .int a4), (5, .int a5), (6, .int a6)] [] _ 0 0 _
    refine x_aloadn (x := 33) rfl rfl ?_
    refine x_iload (x := v1) rfl rfl ?_
    refine x_iconst (v := 5) rfl ki_5 ?_
    refine x_iload (x := a6) rfl rfl ?_
    refine x_inv (N := m_X8_put) (As := [.int v1, .int 5, .int a6]) (b := 33) (st := []) (dx9 := 1) (mc := 0) (ms := 0) (host := "") 8 rfl t_X8_put ⟨Or.inl q_8_29, i_X8_put.1, i_X8_put.2⟩ ⟨by decide, rfl⟩ (congrArg Prod.fst (J.1.1 33 (8, 4) rfl)) rfl (by decide) rfl rfl ⟨by decide, by decide⟩ (sf_X8_put_r33_c5 (jr_of rfl (by omega)) (jr_of rfl (by omega)) hD J  (fun h J S10 => ?_))
    have Sm := jSm_tr rfl Sm S10
    show jX m_X8_add 2 0 0 77 [(7, .int v1), (0, .ref 33), (1, .int a1), (2, .int a2), (3, .int a3), (4, .int a4), (5, .int a5), (6, .int a6)] [] _ 0 0 _
    refine x_vret rfl rfl ?_
    exact hQ _ J Sm
  ·
    refine x_vret rfl rfl ?_
    exact hQ _ J Sm
def fp_X8_addFrom_r35_r71 : jFp := [(35, 3, 4), (36, 0, 16800)]
set_option maxRecDepth 100000 in
set_option maxHeartbeats 4000000 in
theorem ct_X8_addFrom_r35_r71_58 {Dy : jH → Prop} {h0 : jH} {Q : Option Value → jH → Prop} (hD : jDk Dy) (hQ : ∀ hx9, jJ jSgX Dy hx9 → jSm fp_X8_addFrom_r35_r71 h0 hx9 → Q none hx9) : ∀ (h : jH), jJ jSgX Dy h → jSm fp_X8_addFrom_r35_r71 h0 h → jX m_X8_addFrom 2 0 0 58 [] [] h 0 0 Q := by
  intro  h    J Sm
  refine x_vret rfl rfl ?_
  exact hQ _ J Sm
set_option maxRecDepth 100000 in
set_option maxHeartbeats 4000000 in
theorem sf_X8_addFrom_r35_r71 {Dy : jH → Prop} {h : jH} {Q : Option Value → jH → Prop} {a1 : Int32} (y1 : 0 ≤ a1.toInt ∧ a1.toInt ≤ 70) (ym1 : a1.toInt % 14 = 0) (hD : jDk Dy) (J : jJ jSgX Dy h) (hQ : ∀ hx9, jJ jSgX Dy hx9 → jSm fp_X8_addFrom_r35_r71 h hx9 → Q none hx9) : jC m_X8_addFrom 2 0 0 [.ref 35, .ref 71, .int a1] h Q := by
  refine jC.of rfl k_X8_addFrom rfl ?_
  have Sm := jSm_rf fp_X8_addFrom_r35_r71 h
  show jX m_X8_addFrom 2 0 0 0 [(0, .ref 35), (1, .ref 71), (2, .int a1)] [] _ 0 0 _
  refine x_aloadn (x := 35) rfl rfl ?_
  refine z_getI (N := 4) 8 3 rfl f_8_7 rfl J rfl sg_35_3_4_1_0_1 (fun v1 qv1 ev1 => ?_)
  refine x_aloadn (x := 35) rfl rfl ?_
  refine z_getC (N := 4) (v := 1200) 8 1 rfl f_8_22 rfl J rfl sg_35_1_2_1_0_1 jk_1200 ?_
  refine x_icge (tgt := 58) rfl rfl (ti_ge rfl jk_1200 ⟨fun c2 => ?_, fun c2 => ?_⟩)
  ·
    exact jX.sub jsb_n (ct_X8_addFrom_r35_r71_58 hD hQ  h J Sm)
  ·
    refine x_iloadn (x := a1) rfl rfl ?_
    refine x_iflt (tgt := 58) rfl rfl (ti_lt rfl jk_0 (br_f (by omega) ?_))
    refine x_iloadn (x := a1) rfl rfl ?_
    refine x_aloadn (x := 71) rfl rfl ?_
    refine z_alen (N := 84) (v := 84) rfl J rfl rfl (by decide) ?_
    refine x_aloadn (x := 35) rfl rfl ?_
    refine z_getC (N := 4) (v := 14) 8 0 rfl f_8_19 rfl J rfl sg_35_0_1_1_0_1 jk_14 ?_
    refine y_isub (v := 70) rfl (by decide) ?_
    refine x_icgt (tgt := 58) rfl rfl (ti_gt rfl jk_70 (br_f (by omega) ?_))
    refine x_aloadn (x := 71) rfl rfl ?_
    refine x_iloadn (x := a1) rfl rfl ?_
    refine x_aloadn (x := 35) rfl rfl ?_
    refine z_getR (N := 4) (b := 36) 8 2 rfl f_8_25 rfl J rfl 4482 ⟨rfl, rfl⟩ rfl ?_
    refine x_aloadn (x := 35) rfl rfl ?_
    refine z_getM (N := 4) (v := v1) 8 3 rfl f_8_7 rfl J rfl qv1 ?_
    refine x_aloadn (x := 35) rfl rfl ?_
    refine z_getC (N := 4) (v := 14) 8 0 rfl f_8_19 rfl J rfl sg_35_0_1_1_0_1 jk_14 ?_
    refine z_imul rfl rfl jk_14 (by omega) (fun v3 ev3 => ?_)
    refine x_aloadn (x := 35) rfl rfl ?_
    refine z_getC (N := 4) (v := 14) 8 0 rfl f_8_19 rfl J rfl sg_35_0_1_1_0_1 jk_14 ?_
    refine z_cpi (N1 := 84) (N2 := 16800) rfl ⟨q_8_33, jcp_w⟩ (by decide) rfl hD J Sm rfl rfl rfl rfl rfl rfl jk_14 (by omega) (cp_36 (fun k k1 k2 k3 => by have k4 := k3.1; have k5 := k3.2.1; have k6 := k3.2.2; simp only at k4 k5 k6; exact jcp_in J sg_71_0_84_14_0_1 rfl (by omega) (by decide)) (fun k k1 k2 k3 => by have k4 := k3.1; have k5 := k3.2.1; have k6 := k3.2.2; simp only at k4 k5 k6; exact jcp_in J sg_71_0_84_14_1_2 rfl (by omega) (by decide)) (fun k k1 k2 k3 => by have k4 := k3.1; have k5 := k3.2.1; have k6 := k3.2.2; simp only at k4 k5 k6; exact jcp_in J sg_71_0_84_14_2_14 rfl (by omega) (by decide)) (fun k k1 k2 k3 => by have k4 := k3.1; have k5 := k3.2.1; have k6 := k3.2.2; simp only at k4 k5 k6; exact jcp_in J sg_71_0_84_14_2_14 rfl (by omega) (by decide)) (fun k k1 k2 k3 => by have k4 := k3.1; have k5 := k3.2.1; have k6 := k3.2.2; simp only at k4 k5 k6; exact jcp_in J sg_71_0_84_14_2_14 rfl (by omega) (by decide)) (fun k k1 k2 k3 => by have k4 := k3.1; have k5 := k3.2.1; have k6 := k3.2.2; simp only at k4 k5 k6; exact jcp_in J sg_71_0_84_14_2_14 rfl (by omega) (by decide)) (fun k k1 k2 k3 => by have k4 := k3.1; have k5 := k3.2.1; have k6 := k3.2.2; simp only at k4 k5 k6; exact jcp_in J sg_71_0_84_14_2_14 rfl (by omega) (by decide)) (fun k k1 k2 k3 => by have k4 := k3.1; have k5 := k3.2.1; have k6 := k3.2.2; simp only at k4 k5 k6; exact jcp_in J sg_71_0_84_14_2_14 rfl (by omega) (by decide)) (fun k k1 k2 k3 => by have k4 := k3.1; have k5 := k3.2.1; have k6 := k3.2.2; simp only at k4 k5 k6; exact jcp_in J sg_71_0_84_14_2_14 rfl (by omega) (by decide)) (fun k k1 k2 k3 => by have k4 := k3.1; have k5 := k3.2.1; have k6 := k3.2.2; simp only at k4 k5 k6; exact jcp_in J sg_71_0_84_14_2_14 rfl (by omega) (by decide)) (fun k k1 k2 k3 => by have k4 := k3.1; have k5 := k3.2.1; have k6 := k3.2.2; simp only at k4 k5 k6; exact jcp_in J sg_71_0_84_14_2_14 rfl (by omega) (by decide)) (fun k k1 k2 k3 => by have k4 := k3.1; have k5 := k3.2.1; have k6 := k3.2.2; simp only at k4 k5 k6; exact jcp_in J sg_71_0_84_14_2_14 rfl (by omega) (by decide)) (fun k k1 k2 k3 => by have k4 := k3.1; have k5 := k3.2.1; have k6 := k3.2.2; simp only at k4 k5 k6; exact jcp_in J sg_71_0_84_14_2_14 rfl (by omega) (by decide)) (fun k k1 k2 k3 => by have k4 := k3.1; have k5 := k3.2.1; have k6 := k3.2.2; simp only at k4 k5 k6; exact jcp_in J sg_71_0_84_14_2_14 rfl (by omega) (by decide))) rfl (fun h w4 J Sm => ?_)
    refine x_aloadn (x := 35) rfl rfl ?_
    refine x_dup rfl rfl ?_
    refine z_getM (N := 4) (v := v1) 8 3 rfl f_8_7 rfl J rfl (jmk w4 rfl qv1) ?_
    refine x_iconst (v := 1) rfl ki_1 ?_
    refine z_iadd rfl rfl jk_1 (by omega) (fun v5 ev5 => ?_)
    refine z_putI (N := 4) (w := v5.toInt) 8 3 rfl f_8_7 rfl (jfin_no TX8 RX8 4 rfl rfl) hD J Sm rfl rfl rfl (pw_35_3 (by omega)) rfl (fun h w6 J Sm => ?_)
    exact jX.sub jsb_n (ct_X8_addFrom_r35_r71_58 hD hQ  h J Sm)
def fp_X8_isFull_r33 : jFp := []
set_option maxRecDepth 100000 in
set_option maxHeartbeats 4000000 in
theorem ct_X8_isFull_r33_200016 {Dy : jH → Prop} {h0 : jH} {Q : Option Value → jH → Prop} (hD : jDk Dy) (hQ : ∀ (v : Int32) hx9, 0 ≤ v.toInt ∧ v.toInt ≤ 1 → jJ jSgX Dy hx9 → jSm fp_X8_isFull_r33 h0 hx9 → Q (some (.int v)) hx9) : ∀ (h : jH), jJ jSgX Dy h → jSm fp_X8_isFull_r33 h0 h → jX m_X8_isFull 1 0 0 16 [] [.int 0] h 0 0 Q := by
  intro  h    J Sm
  refine x_zret rfl rfl (by decide) ?_
  exact hQ _ _ (jr_of jk_0 (by omega)) J Sm
set_option maxRecDepth 100000 in
set_option maxHeartbeats 4000000 in
theorem ct_X8_isFull_r33_300016 {Dy : jH → Prop} {h0 : jH} {Q : Option Value → jH → Prop} (hD : jDk Dy) (hQ : ∀ (v : Int32) hx9, 0 ≤ v.toInt ∧ v.toInt ≤ 1 → jJ jSgX Dy hx9 → jSm fp_X8_isFull_r33 h0 hx9 → Q (some (.int v)) hx9) : ∀ (h : jH), jJ jSgX Dy h → jSm fp_X8_isFull_r33 h0 h → jX m_X8_isFull 1 0 0 16 [] [.int 1] h 0 0 Q := by
  intro  h    J Sm
  refine x_zret rfl rfl (by decide) ?_
  exact hQ _ _ (jr_of jk_1 (by omega)) J Sm
set_option maxRecDepth 100000 in
set_option maxHeartbeats 4000000 in
theorem sf_X8_isFull_r33 {Dy : jH → Prop} {h : jH} {Q : Option Value → jH → Prop} (hD : jDk Dy) (J : jJ jSgX Dy h) (hQ : ∀ (v : Int32) hx9, 0 ≤ v.toInt ∧ v.toInt ≤ 1 → jJ jSgX Dy hx9 → jSm fp_X8_isFull_r33 h hx9 → Q (some (.int v)) hx9) : jC m_X8_isFull 1 0 0 [.ref 33] h Q := by
  refine jC.of rfl k_X8_isFull rfl ?_
  have Sm := jSm_rf fp_X8_isFull_r33 h
  show jX m_X8_isFull 1 0 0 0 [(0, .ref 33)] [] _ 0 0 _
  refine x_aloadn (x := 33) rfl rfl ?_
  refine z_getI (N := 4) 8 3 rfl f_8_7 rfl J rfl sg_33_3_4_1_0_1 (fun v1 qv1 ev1 => ?_)
  refine x_aloadn (x := 33) rfl rfl ?_
  refine z_getC (N := 4) (v := 200) 8 1 rfl f_8_22 rfl J rfl sg_33_1_2_1_0_1 jk_200 ?_
  refine x_iclt (tgt := 15) rfl rfl (ti_lt rfl jk_200 ⟨fun c2 => ?_, fun c2 => ?_⟩)
  ·
    refine x_iconst (v := 0) rfl ki_0 ?_
    exact jX.sub jsb_n (ct_X8_isFull_r33_200016 hD hQ  h J Sm)
  ·
    refine x_iconst (v := 1) rfl ki_1 ?_
    refine x_goto (tgt := 16) rfl rfl ?_
    exact jX.sub jsb_n (ct_X8_isFull_r33_300016 hD hQ  h J Sm)
def fp_X11_line_r31 : jFp := [(31, 12, 13), (32, 19, 20), (33, 3, 4), (34, 0, 1200), (35, 3, 4), (36, 0, 16800), (63, 3, 4), (64, 0, 740), (68, 1, 2), (68, 2, 3), (68, 3, 4), (68, 4, 5), (68, 5, 6), (71, 0, 84), (75, 0, 43200), (76, 0, 1200), (77, 0, 1200), (79, 0, 600), (80, 0, 600), (81, 0, 600)]
set_option maxRecDepth 100000 in
set_option maxHeartbeats 4000000 in
theorem ct_X11_line_r31_41 {Dy : jH → Prop} {h0 : jH} {Q : Option Value → jH → Prop} (hD : jDk Dy) (hQ : ∀ (v : Int32) hx9, (-6) ≤ v.toInt ∧ v.toInt ≤ 200 → jJ jSgX Dy hx9 → jSm fp_X11_line_r31 h0 hx9 → ∀ u0 u1 : Int32, jiv hx9 68 5 = u0 → jiv hx9 68 3 = u1 → (u0.toInt ≠ 3 ∨ u1.toInt ≤ 399) → Q (some (.int v)) hx9) : ∀ (g0 : Int32) (g1 : Int32) (h : jH), 0 ≤ g0.toInt ∧ g0.toInt ≤ 400 → 0 ≤ g1.toInt ∧ g1.toInt ≤ 3 → (g1.toInt ≠ 3 ∨ g0.toInt ≤ 399) → jiv h 68 3 = g0 → jiv h 68 5 = g1 → jJ jSgX Dy h → jSm fp_X11_line_r31 h0 h → jX m_X11_line 6 0 0 41 [(0, .ref 31)] [] h 0 0 Q := by
  intro g0 g1 h y0 y1 y2 z0 z1  J Sm
  refine x_aloadn (x := 31) rfl rfl ?_
  refine x_iconst (v := (-1)) rfl ki_m1 ?_
  refine x_inv (N := m_X11_refuseTape) (As := [.int (-1)]) (b := 31) (st := []) (dx9 := 5) (mc := 0) (ms := 0) (host := "") 11 rfl t_X11_refuseTape ⟨Or.inl q_11_122, i_X11_refuseTape.1, i_X11_refuseTape.2⟩ ⟨by decide, rfl⟩ (congrArg Prod.fst (J.1.1 31 (11, 13) rfl)) rfl (by decide) rfl rfl ⟨by decide, by decide⟩ (jC.of rfl k_X11_refuseTape rfl ?_)
  show jX m_X11_refuseTape 5 0 0 0 [(0, .ref 31), (1, .int (-1))] [] _ 0 0 _
  refine x_aloadn (x := 31) rfl rfl ?_
  refine z_getR (N := 13) (b := 68) 11 2 rfl f_11_23 rfl J rfl 3970 ⟨rfl, rfl⟩ rfl ?_
  refine x_iconst (v := 0) rfl ki_0 ?_
  refine z_putI (N := 6) (w := 0) 9 1 rfl f_11_106 rfl (jfin_no TX9 RX9 6 rfl rfl) hD J Sm rfl rfl jk_0 (pw_68_1 (by omega)) rfl (fun h w1 J Sm => ?_)
  refine x_aloadn (x := 31) rfl rfl ?_
  refine x_iloadn (x := (-1)) rfl rfl ?_
  refine x_inv (N := m_X11_refuse) (As := [.int (-1)]) (b := 31) (st := []) (dx9 := 4) (mc := 0) (ms := 0) (host := "") 11 rfl t_X11_refuse ⟨Or.inl q_11_206, i_X11_refuse.1, i_X11_refuse.2⟩ ⟨by decide, rfl⟩ (congrArg Prod.fst (J.1.1 31 (11, 13) rfl)) rfl (by decide) rfl rfl ⟨by decide, by decide⟩ (jC.of rfl k_X11_refuse rfl ?_)
  show jX m_X11_refuse 4 0 0 0 [(0, .ref 31), (1, .int (-1))] [] _ 0 0 _
  refine x_aloadn (x := 31) rfl rfl ?_
  refine x_iloadn (x := (-1)) rfl rfl ?_
  refine z_putI (N := 13) (w := (-1)) 11 12 rfl f_11_94 rfl (jfin_no TX11 RX11 13 rfl rfl) hD J Sm rfl rfl jk_m1 (pw_31_12 (by omega)) rfl (fun h w2 J Sm => ?_)
  refine x_iloadn (x := (-1)) rfl rfl ?_
  refine x_iret rfl rfl ?_
  show jX m_X11_refuseTape 5 0 0 13 [(0, .ref 31), (1, .int (-1))] [.int (-1)] _ 0 0 _
  refine x_iret rfl rfl ?_
  show jX m_X11_line 6 0 0 46 [(0, .ref 31)] [.int (-1)] _ 0 0 _
  refine x_iret rfl rfl ?_
  exact hQ _ _ (jr_of jk_m1 (by omega)) J Sm _ _ (jmo w2 rfl (jmo w1 rfl z1)) (jmo w2 rfl (jmo w1 rfl z0)) (by omega)
set_option maxRecDepth 100000 in
set_option maxHeartbeats 4000000 in
theorem ct_X11_line_r31_136 {Dy : jH → Prop} {h0 : jH} {Q : Option Value → jH → Prop} (hD : jDk Dy) (hQ : ∀ (v : Int32) hx9, (-6) ≤ v.toInt ∧ v.toInt ≤ 200 → jJ jSgX Dy hx9 → jSm fp_X11_line_r31 h0 hx9 → ∀ u0 u1 : Int32, jiv hx9 68 5 = u0 → jiv hx9 68 3 = u1 → (u0.toInt ≠ 3 ∨ u1.toInt ≤ 399) → Q (some (.int v)) hx9) : ∀ r : Nat, ∀ (l7 : Int32) (l8 : Int32) (g0 : Int32) (g1 : Int32) (h : jH), 6 - l8.toInt < (r : Int) → 0 ≤ l7.toInt ∧ l7.toInt ≤ 200 → 0 ≤ l8.toInt ∧ l8.toInt ≤ 6 → 0 ≤ g0.toInt ∧ g0.toInt ≤ 400 → 0 ≤ g1.toInt ∧ g1.toInt ≤ 3 → (g1.toInt ≠ 3 ∨ g0.toInt ≤ 399) → jiv h 68 3 = g0 → jiv h 68 5 = g1 → jJ jSgX Dy h → jSm fp_X11_line_r31 h0 h → jX m_X11_line 6 0 0 136 [(0, .ref 31), (7, .int l7), (8, .int l8)] [] h 0 0 Q := by
  intro r
  induction r with
  | zero =>
    intro l7 l8 g0 g1 h hm y0 y1 y2 y3 y4 z0 z1  J Sm
    exfalso
    omega
  | succ r ih =>
    intro l7 l8 g0 g1 h hm y0 y1 y2 y3 y4 z0 z1  J Sm
    refine x_iload (x := l8) rfl rfl ?_
    refine x_bipush (v := 6) rfl kb_6 ?_
    refine x_icge (tgt := 171) rfl rfl (ti_ge rfl jk_6 ⟨fun c1 => ?_, fun c1 => ?_⟩)
    ·
      refine x_aloadn (x := 31) rfl rfl ?_
      refine z_getR (N := 13) (b := 32) 11 0 rfl f_11_10 rfl J rfl 3968 ⟨rfl, rfl⟩ rfl ?_
      refine z_getR (N := 20) (b := 63) 1 15 rfl f_11_159 rfl J rfl 4111 ⟨rfl, rfl⟩ rfl ?_
      refine x_iconst (v := 0) rfl ki_0 ?_
      refine x_iload (x := l7) rfl rfl ?_
      refine x_iconst (v := 0) rfl ki_0 ?_
      refine x_iconst (v := 0) rfl ki_0 ?_
      refine x_iconst (v := 0) rfl ki_0 ?_
      refine x_iconst (v := 0) rfl ki_0 ?_
      refine x_inv (N := m_X8_add) (As := [.int 0, .int l7, .int 0, .int 0, .int 0, .int 0]) (b := 63) (st := []) (dx9 := 2) (mc := 0) (ms := 0) (host := "") 8 rfl t_X8_add ⟨Or.inl q_11_145, i_X8_add.1, i_X8_add.2⟩ ⟨by decide, rfl⟩ (congrArg Prod.fst (J.1.1 63 (8, 4) rfl)) rfl (by decide) rfl rfl ⟨by decide, by decide⟩ (sf_X8_add_r63 (jr_of jk_0 (by omega)) (jr_of rfl (by omega)) (jr_of jk_0 (by omega)) (jr_of jk_0 (by omega)) (jr_of jk_0 (by omega)) (jr_of jk_0 (by omega)) hD J  (fun h J S2 => ?_))
      have Sm := jSm_tr rfl Sm S2
      show jX m_X11_line 6 0 0 188 [(0, .ref 31), (7, .int l7), (8, .int l8)] [] _ 0 0 _
      refine x_aloadn (x := 31) rfl rfl ?_
      refine x_iload (x := l7) rfl rfl ?_
      refine x_inv (N := m_X11_learn) (As := [.int l7]) (b := 31) (st := []) (dx9 := 5) (mc := 0) (ms := 0) (host := "") 11 rfl t_X11_learn ⟨Or.inl q_11_162, i_X11_learn.1, i_X11_learn.2⟩ ⟨by decide, rfl⟩ (congrArg Prod.fst (J.1.1 31 (11, 13) rfl)) rfl (by decide) rfl rfl ⟨by decide, by decide⟩ (jC.of rfl k_X11_learn rfl ?_)
      show jX m_X11_learn 5 0 0 0 [(0, .ref 31), (1, .int l7)] [] _ 0 0 _
      refine x_aloadn (x := 31) rfl rfl ?_
      refine z_getR (N := 13) (b := 70) 11 3 rfl f_11_32 rfl J rfl 3971 ⟨rfl, rfl⟩ rfl ?_
      refine x_iloadn (x := l7) rfl rfl ?_
      refine x_inv (N := m_X5_learn) (As := [.int l7]) (b := 70) (st := []) (dx9 := 4) (mc := 0) (ms := 0) (host := "") 5 rfl t_X5_learn ⟨Or.inl q_11_186, i_X5_learn.1, i_X5_learn.2⟩ ⟨by decide, rfl⟩ (congrArg Prod.fst (J.1.1 70 (5, 9) rfl)) rfl (by decide) rfl rfl ⟨by decide, by decide⟩ (sf_X5_learn_r70 (jr_of rfl (by omega)) hD J  (fun h J S3 => ?_))
      have Sm := jSm_tr rfl Sm S3
      show jX m_X11_learn 5 0 0 8 [(0, .ref 31), (1, .int l7)] [] _ 0 0 _
      refine x_aloadn (x := 31) rfl rfl ?_
      refine z_getR (N := 13) (b := 78) 11 4 rfl f_11_41 rfl J rfl 3972 ⟨rfl, rfl⟩ rfl ?_
      refine x_iloadn (x := l7) rfl rfl ?_
      refine x_inv (N := m_X7_learn) (As := [.int l7]) (b := 78) (st := []) (dx9 := 2) (mc := 0) (ms := 0) (host := "") 7 rfl t_X7_learn ⟨Or.inl q_11_520, i_X7_learn.1, i_X7_learn.2⟩ ⟨by decide, rfl⟩ (congrArg Prod.fst (J.1.1 78 (7, 16) rfl)) rfl (by decide) rfl rfl ⟨by decide, by decide⟩ (sf_X7_learn_r78 (jr_of rfl (by omega)) hD J  (fun h J S4 => ?_))
      have Sm := jSm_tr rfl Sm S4
      show jX m_X11_learn 5 0 0 16 [(0, .ref 31), (1, .int l7)] [] _ 0 0 _
      refine x_vret rfl rfl ?_
      show jX m_X11_line 6 0 0 194 [(0, .ref 31), (7, .int l7), (8, .int l8)] [] _ 0 0 _
      refine x_aloadn (x := 31) rfl rfl ?_
      refine x_iload (x := l7) rfl rfl ?_
      refine x_inv (N := m_X11_accept) (As := [.int l7]) (b := 31) (st := []) (dx9 := 5) (mc := 0) (ms := 0) (host := "") 11 rfl t_X11_accept ⟨Or.inl q_11_165, i_X11_accept.1, i_X11_accept.2⟩ ⟨by decide, rfl⟩ (congrArg Prod.fst (J.1.1 31 (11, 13) rfl)) rfl (by decide) rfl rfl ⟨by decide, by decide⟩ (jC.of rfl k_X11_accept rfl ?_)
      show jX m_X11_accept 5 0 0 0 [(0, .ref 31), (1, .int l7)] [] _ 0 0 _
      refine x_aloadn (x := 31) rfl rfl ?_
      refine x_iconst (v := 0) rfl ki_0 ?_
      refine z_putI (N := 13) (w := 0) 11 12 rfl f_11_94 rfl (jfin_no TX11 RX11 13 rfl rfl) hD J Sm rfl rfl jk_0 (pw_31_12 (by omega)) rfl (fun h w5 J Sm => ?_)
      refine x_aloadn (x := 31) rfl rfl ?_
      refine z_getR (N := 13) (b := 32) 11 0 rfl f_11_10 rfl J rfl 3968 ⟨rfl, rfl⟩ rfl ?_
      refine x_dup rfl rfl ?_
      refine z_getI0 (N := 20) 1 19 rfl f_11_528 rfl J rfl (fun v6 qv6 => ?_)
      have ev6 := jfull v6
      refine x_iconst (v := 1) rfl ki_1 ?_
      refine z_iadd0 rfl (fun v7 => ?_)
      have ev7 := jfull v7
      refine z_putI (N := 20) (w := v7.toInt) 1 19 rfl f_11_528 rfl (jfin_no TX1 RX1 20 rfl rfl) hD J Sm rfl rfl rfl (pw_32_19 trivial) rfl (fun h w8 J Sm => ?_)
      refine x_iloadn (x := l7) rfl rfl ?_
      refine x_iret rfl rfl ?_
      show jX m_X11_line 6 0 0 200 [(0, .ref 31), (7, .int l7), (8, .int l8)] [.int l7] _ 0 0 _
      refine x_iret rfl rfl ?_
      exact hQ _ _ (jr_of rfl (by omega)) J Sm _ _ (jmo w8 rfl (jmo w5 rfl (jmc S4 rfl (jmc S3 rfl (jmc S2 rfl z1))))) (jmo w8 rfl (jmo w5 rfl (jmc S4 rfl (jmc S3 rfl (jmc S2 rfl z0))))) (by omega)
    ·
      refine x_aloadn (x := 31) rfl rfl ?_
      refine z_getR (N := 13) (b := 32) 11 0 rfl f_11_10 rfl J rfl 3968 ⟨rfl, rfl⟩ rfl ?_
      refine z_getR (N := 20) (b := 35) 1 1 rfl f_11_149 rfl J rfl 4097 ⟨rfl, rfl⟩ rfl ?_
      refine x_aloadn (x := 31) rfl rfl ?_
      refine z_getR (N := 13) (b := 70) 11 3 rfl f_11_32 rfl J rfl 3971 ⟨rfl, rfl⟩ rfl ?_
      refine z_getR (N := 9) (b := 71) 5 2 rfl f_11_152 rfl J rfl 8962 ⟨rfl, rfl⟩ rfl ?_
      refine x_iload (x := l8) rfl rfl ?_
      refine x_bipush (v := 14) rfl kb_14 ?_
      refine z_imul rfl rfl jk_14 (by omega) (fun v9 ev9 => ?_)
      refine x_inv (N := m_X8_addFrom) (As := [.ref 71, .int v9]) (b := 35) (st := []) (dx9 := 2) (mc := 0) (ms := 0) (host := "") 8 rfl t_X8_addFrom ⟨Or.inl q_11_155, i_X8_addFrom.1, i_X8_addFrom.2⟩ ⟨by decide, rfl⟩ (congrArg Prod.fst (J.1.1 35 (8, 4) rfl)) rfl (by decide) rfl rfl ⟨by decide, by decide⟩ (sf_X8_addFrom_r35_r71 (jr_of rfl (by omega)) (jr_mod rfl (by omega)) hD J  (fun h J S10 => ?_))
      have Sm := jSm_tr rfl Sm S10
      show jX m_X11_line 6 0 0 165 [(0, .ref 31), (7, .int l7), (8, .int l8)] [] _ 0 0 _
      refine z_iinc (x := l8) (lsx9 := fun v11 => [(8, .int v11), (0, .ref 31), (7, .int l7)]) rfl rfl rfl jko_1 (by omega) rfl (fun _ => rfl) (fun v11 ev11 => ?_)
      refine x_goto (tgt := 136) rfl rfl ?_
      exact jX.sub (jsb_c rfl (jsb_c rfl (jsb_c rfl jsb_n))) (ih l7 v11 g0 g1 h (by omega) (jr_of rfl (by omega)) (jr_of rfl (by omega)) (jr_of rfl (by omega)) (jr_of rfl (by omega)) (by omega) (jmc S10 rfl z0) (jmc S10 rfl z1) J Sm)
set_option maxRecDepth 100000 in
set_option maxHeartbeats 4000000 in
theorem sf_X11_line_r31 {Dy : jH → Prop} {h : jH} {Q : Option Value → jH → Prop} {a1 : Int32} {a2 : Int32} {a3 : Int32} {a4 : Int32} {a5 : Int32} (hD : jDk Dy) (J : jJ jSgX Dy h) {p0 p1 : Int32} (zp0 : jiv h 68 5 = p0) (zp1 : jiv h 68 3 = p1) (rl_p0 : (p0.toInt ≠ 3 ∨ p1.toInt ≤ 399)) (hQ : ∀ (v : Int32) hx9, (-6) ≤ v.toInt ∧ v.toInt ≤ 200 → jJ jSgX Dy hx9 → jSm fp_X11_line_r31 h hx9 → ∀ u0 u1 : Int32, jiv hx9 68 5 = u0 → jiv hx9 68 3 = u1 → (u0.toInt ≠ 3 ∨ u1.toInt ≤ 399) → Q (some (.int v)) hx9) : jC m_X11_line 6 0 0 [.ref 31, .int a1, .int a2, .int a3, .int a4, .int a5] h Q := by
  refine jC.of rfl k_X11_line rfl ?_
  have Sm := jSm_rf fp_X11_line_r31 h
  have ep0 := (show 0 ≤ p0.toInt ∧ p0.toInt ≤ 3 from zp0 ▸ jrg_f J sg_68_5_6_1_0_1)
  have ep1 := (show 0 ≤ p1.toInt ∧ p1.toInt ≤ 400 from zp1 ▸ jrg_f J sg_68_3_4_1_0_1)
  have ea1 := jfull a1
  have ea2 := jfull a2
  have ea3 := jfull a3
  have ea4 := jfull a4
  have ea5 := jfull a5
  show jX m_X11_line 6 0 0 0 [(0, .ref 31), (1, .int a1), (2, .int a2), (3, .int a3), (4, .int a4), (5, .int a5)] [] _ 0 0 _
  refine x_iloadn (x := a1) rfl rfl ?_
  refine x_inst (N := m_X11_isBook) (As := [.int a1]) (st := []) (dx9 := 1) (mc := 0) (ms := 0) (host := "") rfl t_X11_isBook ⟨Or.inl q_11_112, s_X11_isBook⟩ rfl (by decide) rfl rfl ⟨by decide, by decide⟩ (zc_X11_isBook rfl (fun v1 ev1 => ?_))
  show jX m_X11_line 6 0 0 4 [(0, .ref 31), (1, .int a1), (2, .int a2), (3, .int a3), (4, .int a4), (5, .int a5)] [.int v1] _ 0 0 _
  refine x_ifeq (tgt := 41) rfl rfl (ti_eq rfl jk_0 ⟨fun c2 => ?_, fun c2 => ?_⟩)
  ·
    exact jX.sub (jsb_c rfl jsb_n) (ct_X11_line_r31_41 hD hQ  p1 p0 h (jr_of rfl (by omega)) (jr_of rfl (by omega)) (by omega) zp1 zp0 J Sm)
  ·
    refine x_iloadn (x := a2) rfl rfl ?_
    refine x_iflt (tgt := 41) rfl rfl (ti_lt rfl jk_0 ⟨fun c3 => ?_, fun c3 => ?_⟩)
    ·
      exact jX.sub (jsb_c rfl jsb_n) (ct_X11_line_r31_41 hD hQ  p1 p0 h (jr_of rfl (by omega)) (jr_of rfl (by omega)) (by omega) zp1 zp0 J Sm)
    ·
      refine x_iloadn (x := a2) rfl rfl ?_
      refine x_bipush (v := 15) rfl kb_15 ?_
      refine x_icgt (tgt := 41) rfl rfl (ti_gt rfl jk_15 ⟨fun c4 => ?_, fun c4 => ?_⟩)
      ·
        exact jX.sub (jsb_c rfl jsb_n) (ct_X11_line_r31_41 hD hQ  p1 p0 h (jr_of rfl (by omega)) (jr_of rfl (by omega)) (by omega) zp1 zp0 J Sm)
      ·
        refine x_iloadn (x := a3) rfl rfl ?_
        refine x_inst (N := m_X11_isDay) (As := [.int a3]) (st := []) (dx9 := 1) (mc := 0) (ms := 0) (host := "") rfl t_X11_isDay ⟨Or.inl q_11_115, s_X11_isDay⟩ rfl (by decide) rfl rfl ⟨by decide, by decide⟩ (zc_X11_isDay rfl (fun v5 ev5 => ?_))
        show jX m_X11_line 6 0 0 21 [(0, .ref 31), (1, .int a1), (2, .int a2), (3, .int a3), (4, .int a4), (5, .int a5)] [.int v5] _ 0 0 _
        refine x_ifeq (tgt := 41) rfl rfl (ti_eq rfl jk_0 ⟨fun c6 => ?_, fun c6 => ?_⟩)
        ·
          exact jX.sub (jsb_c rfl jsb_n) (ct_X11_line_r31_41 hD hQ  p1 p0 h (jr_of rfl (by omega)) (jr_of rfl (by omega)) (by omega) zp1 zp0 J Sm)
        ·
          refine x_iload (x := a4) rfl rfl ?_
          refine x_inst (N := m_X11_isDay) (As := [.int a4]) (st := []) (dx9 := 1) (mc := 0) (ms := 0) (host := "") rfl t_X11_isDay ⟨Or.inl q_11_115, s_X11_isDay⟩ rfl (by decide) rfl rfl ⟨by decide, by decide⟩ (zc_X11_isDay rfl (fun v7 ev7 => ?_))
          show jX m_X11_line 6 0 0 29 [(0, .ref 31), (1, .int a1), (2, .int a2), (3, .int a3), (4, .int a4), (5, .int a5)] [.int v7] _ 0 0 _
          refine x_ifeq (tgt := 41) rfl rfl (ti_eq rfl jk_0 ⟨fun c8 => ?_, fun c8 => ?_⟩)
          ·
            exact jX.sub (jsb_c rfl jsb_n) (ct_X11_line_r31_41 hD hQ  p1 p0 h (jr_of rfl (by omega)) (jr_of rfl (by omega)) (by omega) zp1 zp0 J Sm)
          ·
            refine x_iloadn (x := a1) rfl rfl ?_
            refine x_iload (x := a5) rfl rfl ?_
            refine x_inst (N := m_X11_fitsBook) (As := [.int a1, .int a5]) (st := []) (dx9 := 5) (mc := 0) (ms := 0) (host := "") rfl t_X11_fitsBook ⟨Or.inl q_11_118, s_X11_fitsBook⟩ rfl (by decide) rfl rfl ⟨by decide, by decide⟩ (jC.of rfl k_X11_fitsBook rfl ?_)
            show jX m_X11_fitsBook 5 0 0 0 [(0, .int a1), (1, .int a5)] [] _ 0 0 _
            refine x_iloadn (x := a1) rfl rfl ?_
            by_cases c9 : a1.toInt = 2
            ·
              refine x_tableIn (tgt := 32) 2 rfl c9 (by decide) (by decide) rfl rfl ?_
              refine x_iloadn (x := a5) rfl rfl ?_
              refine x_iconst (v := (-1)) rfl ki_m1 ?_
              refine x_bipush (v := 120) rfl kb_120 ?_
              refine x_inst (N := m_X11_isWithin) (As := [.int a5, .int (-1), .int 120]) (st := []) (dx9 := 1) (mc := 0) (ms := 0) (host := "") rfl t_X11_isWithin ⟨Or.inl q_11_202, s_X11_isWithin⟩ rfl (by decide) rfl rfl ⟨by decide, by decide⟩ (zc_X11_isWithin rfl jk_m1 jk_120 (fun v10 ev10 => ?_))
              show jX m_X11_fitsBook 5 0 0 39 [(0, .int a1), (1, .int a5)] [.int v10] _ 0 0 _
              refine x_zret rfl rfl (jz01 (by omega)) ?_
              show jX m_X11_line 6 0 0 38 [(0, .ref 31), (1, .int a1), (2, .int a2), (3, .int a3), (4, .int a4), (5, .int a5)] [.int v10] _ 0 0 _
              refine x_ifne (tgt := 47) rfl rfl (ti_ne rfl jk_0 ⟨fun c11 => ?_, fun c11 => ?_⟩)
              ·
                refine x_aloadn (x := 31) rfl rfl ?_
                refine z_getR (N := 13) (b := 32) 11 0 rfl f_11_10 rfl J rfl 3968 ⟨rfl, rfl⟩ rfl ?_
                refine z_getR (N := 20) (b := 33) 1 0 rfl f_11_126 rfl J rfl 4096 ⟨rfl, rfl⟩ rfl ?_
                refine x_inv (N := m_X8_isFull) (As := []) (b := 33) (st := []) (dx9 := 1) (mc := 0) (ms := 0) (host := "") 8 rfl t_X8_isFull ⟨Or.inl q_11_130, i_X8_isFull.1, i_X8_isFull.2⟩ ⟨by decide, rfl⟩ (congrArg Prod.fst (J.1.1 33 (8, 4) rfl)) rfl (by decide) rfl rfl ⟨by decide, by decide⟩ (sf_X8_isFull_r33  hD J  (fun v13 h ev13 J S12 => ?_))
                have Sm := jSm_tr rfl Sm S12
                show jX m_X11_line 6 0 0 57 [(0, .ref 31), (1, .int a1), (2, .int a2), (3, .int a3), (4, .int a4), (5, .int a5)] [.int v13] _ 0 0 _
                refine x_ifeq (tgt := 67) rfl rfl (ti_eq rfl jk_0 ⟨fun c14 => ?_, fun c14 => ?_⟩)
                ·
                  refine x_aloadn (x := 31) rfl rfl ?_
                  refine z_getR (N := 13) (b := 70) 11 3 rfl f_11_32 rfl J rfl 3971 ⟨rfl, rfl⟩ rfl ?_
                  refine x_gets jst_1 rfl (by decide +kernel) u_11_136 ?_
                  show jX m_X11_line 6 0 0 74 [(0, .ref 31), (1, .int a1), (2, .int a2), (3, .int a3), (4, .int a4), (5, .int a5)] [.ref 1, .ref 70] _ 0 0 _
                  refine x_iloadn (x := a1) rfl rfl ?_
                  refine z_iald (N := 6) rfl J rfl sg_1_0_6_1_0_1 rfl (by omega) (fun v15 qv15 ev15 => ?_)
                  refine x_inv (N := m_X5_readLine) (As := [.int v15]) (b := 70) (st := []) (dx9 := 5) (mc := 0) (ms := 0) (host := "") 5 rfl t_X5_readLine ⟨Or.inl q_11_139, i_X5_readLine.1, i_X5_readLine.2⟩ ⟨by decide, rfl⟩ (congrArg Prod.fst (J.1.1 70 (5, 9) rfl)) rfl (by decide) rfl rfl ⟨by decide, by decide⟩ (sf_X5_readLine_r70 (jr_of rfl (by omega)) hD J (jmc S12 rfl zp0) (jmc S12 rfl zp1) (by omega)  (fun v19 h ev19 J S16 u17 u18 qu17 qu18 ru17 => ?_))
                  have Sm := jSm_tr rfl Sm S16
                  have eu17 := (show 0 ≤ u17.toInt ∧ u17.toInt ≤ 3 from qu17 ▸ jrg_f J sg_68_5_6_1_0_1)
                  have eu18 := (show 0 ≤ u18.toInt ∧ u18.toInt ≤ 400 from qu18 ▸ jrg_f J sg_68_3_4_1_0_1)
                  show jX m_X11_line 6 0 0 79 [(0, .ref 31), (1, .int a1), (2, .int a2), (3, .int a3), (4, .int a4), (5, .int a5)] [.int v19] _ 0 0 _
                  refine x_istore (lsx9 := [(6, .int v19), (0, .ref 31), (1, .int a1), (2, .int a2), (3, .int a3), (4, .int a4), (5, .int a5)]) rfl rfl rfl ?_
                  refine x_iload (x := v19) rfl rfl ?_
                  refine x_iconst (v := (-1)) rfl ki_m1 ?_
                  refine x_icne (tgt := 94) rfl rfl (ti_ne rfl jk_m1 ⟨fun c20 => ?_, fun c20 => ?_⟩)
                  ·
                    refine x_aloadn (x := 31) rfl rfl ?_
                    refine z_getR (N := 13) (b := 68) 11 2 rfl f_11_23 rfl J rfl 3970 ⟨rfl, rfl⟩ rfl ?_
                    refine x_iconst (v := 0) rfl ki_0 ?_
                    refine z_putI (N := 6) (w := 0) 9 1 rfl f_11_106 rfl (jfin_no TX9 RX9 6 rfl rfl) hD J Sm rfl rfl jk_0 (pw_68_1 (by omega)) rfl (fun h w21 J Sm => ?_)
                    refine x_aloadn (x := 31) rfl rfl ?_
                    refine z_getR (N := 13) (b := 32) 11 0 rfl f_11_10 rfl J rfl 3968 ⟨rfl, rfl⟩ rfl ?_
                    refine z_getR (N := 20) (b := 33) 1 0 rfl f_11_126 rfl J rfl 4096 ⟨rfl, rfl⟩ rfl ?_
                    refine z_getI (N := 4) 8 3 rfl f_11_142 rfl J rfl sg_33_3_4_1_0_1 (fun v22 qv22 ev22 => ?_)
                    refine x_istore (lsx9 := [(7, .int v22), (6, .int v19), (0, .ref 31), (1, .int a1), (2, .int a2), (3, .int a3), (4, .int a4), (5, .int a5)]) rfl rfl rfl ?_
                    refine x_aloadn (x := 31) rfl rfl ?_
                    refine z_getR (N := 13) (b := 32) 11 0 rfl f_11_10 rfl J rfl 3968 ⟨rfl, rfl⟩ rfl ?_
                    refine z_getR (N := 20) (b := 33) 1 0 rfl f_11_126 rfl J rfl 4096 ⟨rfl, rfl⟩ rfl ?_
                    refine x_iload (x := a4) rfl rfl ?_
                    refine x_iloadn (x := a3) rfl rfl ?_
                    refine x_iloadn (x := a1) rfl rfl ?_
                    refine x_iloadn (x := a2) rfl rfl ?_
                    refine x_iload (x := a5) rfl rfl ?_
                    refine x_iload (x := v19) rfl rfl ?_
                    refine x_inv (N := m_X8_add) (As := [.int a4, .int a3, .int a1, .int a2, .int a5, .int v19]) (b := 33) (st := []) (dx9 := 2) (mc := 0) (ms := 0) (host := "") 8 rfl t_X8_add ⟨Or.inl q_11_145, i_X8_add.1, i_X8_add.2⟩ ⟨by decide, rfl⟩ (congrArg Prod.fst (J.1.1 33 (8, 4) rfl)) rfl (by decide) rfl rfl ⟨by decide, by decide⟩ (sf_X8_add_r33 (jr_of rfl (by omega)) (jr_of rfl (by omega)) (jr_of rfl (by omega)) (jr_of rfl (by omega)) (jr_of rfl (by omega)) (jr_of rfl (by omega)) hD J  (fun h J S23 => ?_))
                    have Sm := jSm_tr rfl Sm S23
                    show jX m_X11_line 6 0 0 133 [(7, .int v22), (6, .int v19), (0, .ref 31), (1, .int a1), (2, .int a2), (3, .int a3), (4, .int a4), (5, .int a5)] [] _ 0 0 _
                    refine x_iconst (v := 0) rfl ki_0 ?_
                    refine x_istore (lsx9 := [(8, .int 0), (7, .int v22), (6, .int v19), (0, .ref 31), (1, .int a1), (2, .int a2), (3, .int a3), (4, .int a4), (5, .int a5)]) rfl rfl rfl ?_
                    exact jX.sub (jsb_c rfl (jsb_c rfl (jsb_c rfl jsb_n))) (ct_X11_line_r31_136 hD hQ  7 v22 0 u18 u17 h (by have := jk_0; omega) (jr_of rfl (by omega)) (jr_of jk_0 (by omega)) (jr_of rfl (by omega)) (jr_of rfl (by omega)) (by omega) (jmc S23 rfl (jmo w21 rfl qu18)) (jmc S23 rfl (jmo w21 rfl qu17)) J Sm)
                  ·
                    refine x_aloadn (x := 31) rfl rfl ?_
                    refine x_bipush (v := (-6)) rfl kb_m6 ?_
                    refine x_inv (N := m_X11_refuseTape) (As := [.int (-6)]) (b := 31) (st := []) (dx9 := 5) (mc := 0) (ms := 0) (host := "") 11 rfl t_X11_refuseTape ⟨Or.inl q_11_122, i_X11_refuseTape.1, i_X11_refuseTape.2⟩ ⟨by decide, rfl⟩ (congrArg Prod.fst (J.1.1 31 (11, 13) rfl)) rfl (by decide) rfl rfl ⟨by decide, by decide⟩ (jC.of rfl k_X11_refuseTape rfl ?_)
                    show jX m_X11_refuseTape 5 0 0 0 [(0, .ref 31), (1, .int (-6))] [] _ 0 0 _
                    refine x_aloadn (x := 31) rfl rfl ?_
                    refine z_getR (N := 13) (b := 68) 11 2 rfl f_11_23 rfl J rfl 3970 ⟨rfl, rfl⟩ rfl ?_
                    refine x_iconst (v := 0) rfl ki_0 ?_
                    refine z_putI (N := 6) (w := 0) 9 1 rfl f_11_106 rfl (jfin_no TX9 RX9 6 rfl rfl) hD J Sm rfl rfl jk_0 (pw_68_1 (by omega)) rfl (fun h w24 J Sm => ?_)
                    refine x_aloadn (x := 31) rfl rfl ?_
                    refine x_iloadn (x := (-6)) rfl rfl ?_
                    refine x_inv (N := m_X11_refuse) (As := [.int (-6)]) (b := 31) (st := []) (dx9 := 4) (mc := 0) (ms := 0) (host := "") 11 rfl t_X11_refuse ⟨Or.inl q_11_206, i_X11_refuse.1, i_X11_refuse.2⟩ ⟨by decide, rfl⟩ (congrArg Prod.fst (J.1.1 31 (11, 13) rfl)) rfl (by decide) rfl rfl ⟨by decide, by decide⟩ (jC.of rfl k_X11_refuse rfl ?_)
                    show jX m_X11_refuse 4 0 0 0 [(0, .ref 31), (1, .int (-6))] [] _ 0 0 _
                    refine x_aloadn (x := 31) rfl rfl ?_
                    refine x_iloadn (x := (-6)) rfl rfl ?_
                    refine z_putI (N := 13) (w := (-6)) 11 12 rfl f_11_94 rfl (jfin_no TX11 RX11 13 rfl rfl) hD J Sm rfl rfl jk_m6 (pw_31_12 (by omega)) rfl (fun h w25 J Sm => ?_)
                    refine x_iloadn (x := (-6)) rfl rfl ?_
                    refine x_iret rfl rfl ?_
                    show jX m_X11_refuseTape 5 0 0 13 [(0, .ref 31), (1, .int (-6))] [.int (-6)] _ 0 0 _
                    refine x_iret rfl rfl ?_
                    show jX m_X11_line 6 0 0 93 [(6, .int v19), (0, .ref 31), (1, .int a1), (2, .int a2), (3, .int a3), (4, .int a4), (5, .int a5)] [.int (-6)] _ 0 0 _
                    refine x_iret rfl rfl ?_
                    exact hQ _ _ (jr_of jk_m6 (by omega)) J Sm _ _ (jmo w25 rfl (jmo w24 rfl qu17)) (jmo w25 rfl (jmo w24 rfl qu18)) (by omega)
                ·
                  refine x_aloadn (x := 31) rfl rfl ?_
                  refine x_bipush (v := (-5)) rfl kb_m5 ?_
                  refine x_inv (N := m_X11_refuseTape) (As := [.int (-5)]) (b := 31) (st := []) (dx9 := 5) (mc := 0) (ms := 0) (host := "") 11 rfl t_X11_refuseTape ⟨Or.inl q_11_122, i_X11_refuseTape.1, i_X11_refuseTape.2⟩ ⟨by decide, rfl⟩ (congrArg Prod.fst (J.1.1 31 (11, 13) rfl)) rfl (by decide) rfl rfl ⟨by decide, by decide⟩ (jC.of rfl k_X11_refuseTape rfl ?_)
                  show jX m_X11_refuseTape 5 0 0 0 [(0, .ref 31), (1, .int (-5))] [] _ 0 0 _
                  refine x_aloadn (x := 31) rfl rfl ?_
                  refine z_getR (N := 13) (b := 68) 11 2 rfl f_11_23 rfl J rfl 3970 ⟨rfl, rfl⟩ rfl ?_
                  refine x_iconst (v := 0) rfl ki_0 ?_
                  refine z_putI (N := 6) (w := 0) 9 1 rfl f_11_106 rfl (jfin_no TX9 RX9 6 rfl rfl) hD J Sm rfl rfl jk_0 (pw_68_1 (by omega)) rfl (fun h w26 J Sm => ?_)
                  refine x_aloadn (x := 31) rfl rfl ?_
                  refine x_iloadn (x := (-5)) rfl rfl ?_
                  refine x_inv (N := m_X11_refuse) (As := [.int (-5)]) (b := 31) (st := []) (dx9 := 4) (mc := 0) (ms := 0) (host := "") 11 rfl t_X11_refuse ⟨Or.inl q_11_206, i_X11_refuse.1, i_X11_refuse.2⟩ ⟨by decide, rfl⟩ (congrArg Prod.fst (J.1.1 31 (11, 13) rfl)) rfl (by decide) rfl rfl ⟨by decide, by decide⟩ (jC.of rfl k_X11_refuse rfl ?_)
                  show jX m_X11_refuse 4 0 0 0 [(0, .ref 31), (1, .int (-5))] [] _ 0 0 _
                  refine x_aloadn (x := 31) rfl rfl ?_
                  refine x_iloadn (x := (-5)) rfl rfl ?_
                  refine z_putI (N := 13) (w := (-5)) 11 12 rfl f_11_94 rfl (jfin_no TX11 RX11 13 rfl rfl) hD J Sm rfl rfl jk_m5 (pw_31_12 (by omega)) rfl (fun h w27 J Sm => ?_)
                  refine x_iloadn (x := (-5)) rfl rfl ?_
                  refine x_iret rfl rfl ?_
                  show jX m_X11_refuseTape 5 0 0 13 [(0, .ref 31), (1, .int (-5))] [.int (-5)] _ 0 0 _
                  refine x_iret rfl rfl ?_
                  show jX m_X11_line 6 0 0 66 [(0, .ref 31), (1, .int a1), (2, .int a2), (3, .int a3), (4, .int a4), (5, .int a5)] [.int (-5)] _ 0 0 _
                  refine x_iret rfl rfl ?_
                  exact hQ _ _ (jr_of jk_m5 (by omega)) J Sm _ _ (jmo w27 rfl (jmo w26 rfl (jmc S12 rfl zp0))) (jmo w27 rfl (jmo w26 rfl (jmc S12 rfl zp1))) (by omega)
              ·
                exact jX.sub (jsb_c rfl jsb_n) (ct_X11_line_r31_41 hD hQ  p1 p0 h (jr_of rfl (by omega)) (jr_of rfl (by omega)) (by omega) zp1 zp0 J Sm)
            by_cases c28 : a1.toInt = 3
            ·
              refine x_tableIn (tgt := 40) 3 rfl c28 (by decide) (by decide) rfl rfl ?_
              refine x_iloadn (x := a5) rfl rfl ?_
              refine x_iconst (v := 0) rfl ki_0 ?_
              refine x_ldcw (v := 100000) rfl z_11_531 ?_
              refine x_inst (N := m_X11_isWithin) (As := [.int a5, .int 0, .int 100000]) (st := []) (dx9 := 1) (mc := 0) (ms := 0) (host := "") rfl t_X11_isWithin ⟨Or.inl q_11_202, s_X11_isWithin⟩ rfl (by decide) rfl rfl ⟨by decide, by decide⟩ (zc_X11_isWithin rfl jk_0 jk_100000 (fun v29 ev29 => ?_))
              show jX m_X11_fitsBook 5 0 0 48 [(0, .int a1), (1, .int a5)] [.int v29] _ 0 0 _
              refine x_zret rfl rfl (jz01 (by omega)) ?_
              show jX m_X11_line 6 0 0 38 [(0, .ref 31), (1, .int a1), (2, .int a2), (3, .int a3), (4, .int a4), (5, .int a5)] [.int v29] _ 0 0 _
              refine x_ifne (tgt := 47) rfl rfl (ti_ne rfl jk_0 ⟨fun c30 => ?_, fun c30 => ?_⟩)
              ·
                refine x_aloadn (x := 31) rfl rfl ?_
                refine z_getR (N := 13) (b := 32) 11 0 rfl f_11_10 rfl J rfl 3968 ⟨rfl, rfl⟩ rfl ?_
                refine z_getR (N := 20) (b := 33) 1 0 rfl f_11_126 rfl J rfl 4096 ⟨rfl, rfl⟩ rfl ?_
                refine x_inv (N := m_X8_isFull) (As := []) (b := 33) (st := []) (dx9 := 1) (mc := 0) (ms := 0) (host := "") 8 rfl t_X8_isFull ⟨Or.inl q_11_130, i_X8_isFull.1, i_X8_isFull.2⟩ ⟨by decide, rfl⟩ (congrArg Prod.fst (J.1.1 33 (8, 4) rfl)) rfl (by decide) rfl rfl ⟨by decide, by decide⟩ (sf_X8_isFull_r33  hD J  (fun v32 h ev32 J S31 => ?_))
                have Sm := jSm_tr rfl Sm S31
                show jX m_X11_line 6 0 0 57 [(0, .ref 31), (1, .int a1), (2, .int a2), (3, .int a3), (4, .int a4), (5, .int a5)] [.int v32] _ 0 0 _
                refine x_ifeq (tgt := 67) rfl rfl (ti_eq rfl jk_0 ⟨fun c33 => ?_, fun c33 => ?_⟩)
                ·
                  refine x_aloadn (x := 31) rfl rfl ?_
                  refine z_getR (N := 13) (b := 70) 11 3 rfl f_11_32 rfl J rfl 3971 ⟨rfl, rfl⟩ rfl ?_
                  refine x_gets jst_1 rfl (by decide +kernel) u_11_136 ?_
                  show jX m_X11_line 6 0 0 74 [(0, .ref 31), (1, .int a1), (2, .int a2), (3, .int a3), (4, .int a4), (5, .int a5)] [.ref 1, .ref 70] _ 0 0 _
                  refine x_iloadn (x := a1) rfl rfl ?_
                  refine z_iald (N := 6) rfl J rfl sg_1_0_6_1_0_1 rfl (by omega) (fun v34 qv34 ev34 => ?_)
                  refine x_inv (N := m_X5_readLine) (As := [.int v34]) (b := 70) (st := []) (dx9 := 5) (mc := 0) (ms := 0) (host := "") 5 rfl t_X5_readLine ⟨Or.inl q_11_139, i_X5_readLine.1, i_X5_readLine.2⟩ ⟨by decide, rfl⟩ (congrArg Prod.fst (J.1.1 70 (5, 9) rfl)) rfl (by decide) rfl rfl ⟨by decide, by decide⟩ (sf_X5_readLine_r70 (jr_of rfl (by omega)) hD J (jmc S31 rfl zp0) (jmc S31 rfl zp1) (by omega)  (fun v38 h ev38 J S35 u36 u37 qu36 qu37 ru36 => ?_))
                  have Sm := jSm_tr rfl Sm S35
                  have eu36 := (show 0 ≤ u36.toInt ∧ u36.toInt ≤ 3 from qu36 ▸ jrg_f J sg_68_5_6_1_0_1)
                  have eu37 := (show 0 ≤ u37.toInt ∧ u37.toInt ≤ 400 from qu37 ▸ jrg_f J sg_68_3_4_1_0_1)
                  show jX m_X11_line 6 0 0 79 [(0, .ref 31), (1, .int a1), (2, .int a2), (3, .int a3), (4, .int a4), (5, .int a5)] [.int v38] _ 0 0 _
                  refine x_istore (lsx9 := [(6, .int v38), (0, .ref 31), (1, .int a1), (2, .int a2), (3, .int a3), (4, .int a4), (5, .int a5)]) rfl rfl rfl ?_
                  refine x_iload (x := v38) rfl rfl ?_
                  refine x_iconst (v := (-1)) rfl ki_m1 ?_
                  refine x_icne (tgt := 94) rfl rfl (ti_ne rfl jk_m1 ⟨fun c39 => ?_, fun c39 => ?_⟩)
                  ·
                    refine x_aloadn (x := 31) rfl rfl ?_
                    refine z_getR (N := 13) (b := 68) 11 2 rfl f_11_23 rfl J rfl 3970 ⟨rfl, rfl⟩ rfl ?_
                    refine x_iconst (v := 0) rfl ki_0 ?_
                    refine z_putI (N := 6) (w := 0) 9 1 rfl f_11_106 rfl (jfin_no TX9 RX9 6 rfl rfl) hD J Sm rfl rfl jk_0 (pw_68_1 (by omega)) rfl (fun h w40 J Sm => ?_)
                    refine x_aloadn (x := 31) rfl rfl ?_
                    refine z_getR (N := 13) (b := 32) 11 0 rfl f_11_10 rfl J rfl 3968 ⟨rfl, rfl⟩ rfl ?_
                    refine z_getR (N := 20) (b := 33) 1 0 rfl f_11_126 rfl J rfl 4096 ⟨rfl, rfl⟩ rfl ?_
                    refine z_getI (N := 4) 8 3 rfl f_11_142 rfl J rfl sg_33_3_4_1_0_1 (fun v41 qv41 ev41 => ?_)
                    refine x_istore (lsx9 := [(7, .int v41), (6, .int v38), (0, .ref 31), (1, .int a1), (2, .int a2), (3, .int a3), (4, .int a4), (5, .int a5)]) rfl rfl rfl ?_
                    refine x_aloadn (x := 31) rfl rfl ?_
                    refine z_getR (N := 13) (b := 32) 11 0 rfl f_11_10 rfl J rfl 3968 ⟨rfl, rfl⟩ rfl ?_
                    refine z_getR (N := 20) (b := 33) 1 0 rfl f_11_126 rfl J rfl 4096 ⟨rfl, rfl⟩ rfl ?_
                    refine x_iload (x := a4) rfl rfl ?_
                    refine x_iloadn (x := a3) rfl rfl ?_
                    refine x_iloadn (x := a1) rfl rfl ?_
                    refine x_iloadn (x := a2) rfl rfl ?_
                    refine x_iload (x := a5) rfl rfl ?_
                    refine x_iload (x := v38) rfl rfl ?_
                    refine x_inv (N := m_X8_add) (As := [.int a4, .int a3, .int a1, .int a2, .int a5, .int v38]) (b := 33) (st := []) (dx9 := 2) (mc := 0) (ms := 0) (host := "") 8 rfl t_X8_add ⟨Or.inl q_11_145, i_X8_add.1, i_X8_add.2⟩ ⟨by decide, rfl⟩ (congrArg Prod.fst (J.1.1 33 (8, 4) rfl)) rfl (by decide) rfl rfl ⟨by decide, by decide⟩ (sf_X8_add_r33 (jr_of rfl (by omega)) (jr_of rfl (by omega)) (jr_of rfl (by omega)) (jr_of rfl (by omega)) (jr_of rfl (by omega)) (jr_of rfl (by omega)) hD J  (fun h J S42 => ?_))
                    have Sm := jSm_tr rfl Sm S42
                    show jX m_X11_line 6 0 0 133 [(7, .int v41), (6, .int v38), (0, .ref 31), (1, .int a1), (2, .int a2), (3, .int a3), (4, .int a4), (5, .int a5)] [] _ 0 0 _
                    refine x_iconst (v := 0) rfl ki_0 ?_
                    refine x_istore (lsx9 := [(8, .int 0), (7, .int v41), (6, .int v38), (0, .ref 31), (1, .int a1), (2, .int a2), (3, .int a3), (4, .int a4), (5, .int a5)]) rfl rfl rfl ?_
                    exact jX.sub (jsb_c rfl (jsb_c rfl (jsb_c rfl jsb_n))) (ct_X11_line_r31_136 hD hQ  7 v41 0 u37 u36 h (by have := jk_0; omega) (jr_of rfl (by omega)) (jr_of jk_0 (by omega)) (jr_of rfl (by omega)) (jr_of rfl (by omega)) (by omega) (jmc S42 rfl (jmo w40 rfl qu37)) (jmc S42 rfl (jmo w40 rfl qu36)) J Sm)
                  ·
                    refine x_aloadn (x := 31) rfl rfl ?_
                    refine x_bipush (v := (-6)) rfl kb_m6 ?_
                    refine x_inv (N := m_X11_refuseTape) (As := [.int (-6)]) (b := 31) (st := []) (dx9 := 5) (mc := 0) (ms := 0) (host := "") 11 rfl t_X11_refuseTape ⟨Or.inl q_11_122, i_X11_refuseTape.1, i_X11_refuseTape.2⟩ ⟨by decide, rfl⟩ (congrArg Prod.fst (J.1.1 31 (11, 13) rfl)) rfl (by decide) rfl rfl ⟨by decide, by decide⟩ (jC.of rfl k_X11_refuseTape rfl ?_)
                    show jX m_X11_refuseTape 5 0 0 0 [(0, .ref 31), (1, .int (-6))] [] _ 0 0 _
                    refine x_aloadn (x := 31) rfl rfl ?_
                    refine z_getR (N := 13) (b := 68) 11 2 rfl f_11_23 rfl J rfl 3970 ⟨rfl, rfl⟩ rfl ?_
                    refine x_iconst (v := 0) rfl ki_0 ?_
                    refine z_putI (N := 6) (w := 0) 9 1 rfl f_11_106 rfl (jfin_no TX9 RX9 6 rfl rfl) hD J Sm rfl rfl jk_0 (pw_68_1 (by omega)) rfl (fun h w43 J Sm => ?_)
                    refine x_aloadn (x := 31) rfl rfl ?_
                    refine x_iloadn (x := (-6)) rfl rfl ?_
                    refine x_inv (N := m_X11_refuse) (As := [.int (-6)]) (b := 31) (st := []) (dx9 := 4) (mc := 0) (ms := 0) (host := "") 11 rfl t_X11_refuse ⟨Or.inl q_11_206, i_X11_refuse.1, i_X11_refuse.2⟩ ⟨by decide, rfl⟩ (congrArg Prod.fst (J.1.1 31 (11, 13) rfl)) rfl (by decide) rfl rfl ⟨by decide, by decide⟩ (jC.of rfl k_X11_refuse rfl ?_)
                    show jX m_X11_refuse 4 0 0 0 [(0, .ref 31), (1, .int (-6))] [] _ 0 0 _
                    refine x_aloadn (x := 31) rfl rfl ?_
                    refine x_iloadn (x := (-6)) rfl rfl ?_
                    refine z_putI (N := 13) (w := (-6)) 11 12 rfl f_11_94 rfl (jfin_no TX11 RX11 13 rfl rfl) hD J Sm rfl rfl jk_m6 (pw_31_12 (by omega)) rfl (fun h w44 J Sm => ?_)
                    refine x_iloadn (x := (-6)) rfl rfl ?_
                    refine x_iret rfl rfl ?_
                    show jX m_X11_refuseTape 5 0 0 13 [(0, .ref 31), (1, .int (-6))] [.int (-6)] _ 0 0 _
                    refine x_iret rfl rfl ?_
                    show jX m_X11_line 6 0 0 93 [(6, .int v38), (0, .ref 31), (1, .int a1), (2, .int a2), (3, .int a3), (4, .int a4), (5, .int a5)] [.int (-6)] _ 0 0 _
                    refine x_iret rfl rfl ?_
                    exact hQ _ _ (jr_of jk_m6 (by omega)) J Sm _ _ (jmo w44 rfl (jmo w43 rfl qu36)) (jmo w44 rfl (jmo w43 rfl qu37)) (by omega)
                ·
                  refine x_aloadn (x := 31) rfl rfl ?_
                  refine x_bipush (v := (-5)) rfl kb_m5 ?_
                  refine x_inv (N := m_X11_refuseTape) (As := [.int (-5)]) (b := 31) (st := []) (dx9 := 5) (mc := 0) (ms := 0) (host := "") 11 rfl t_X11_refuseTape ⟨Or.inl q_11_122, i_X11_refuseTape.1, i_X11_refuseTape.2⟩ ⟨by decide, rfl⟩ (congrArg Prod.fst (J.1.1 31 (11, 13) rfl)) rfl (by decide) rfl rfl ⟨by decide, by decide⟩ (jC.of rfl k_X11_refuseTape rfl ?_)
                  show jX m_X11_refuseTape 5 0 0 0 [(0, .ref 31), (1, .int (-5))] [] _ 0 0 _
                  refine x_aloadn (x := 31) rfl rfl ?_
                  refine z_getR (N := 13) (b := 68) 11 2 rfl f_11_23 rfl J rfl 3970 ⟨rfl, rfl⟩ rfl ?_
                  refine x_iconst (v := 0) rfl ki_0 ?_
                  refine z_putI (N := 6) (w := 0) 9 1 rfl f_11_106 rfl (jfin_no TX9 RX9 6 rfl rfl) hD J Sm rfl rfl jk_0 (pw_68_1 (by omega)) rfl (fun h w45 J Sm => ?_)
                  refine x_aloadn (x := 31) rfl rfl ?_
                  refine x_iloadn (x := (-5)) rfl rfl ?_
                  refine x_inv (N := m_X11_refuse) (As := [.int (-5)]) (b := 31) (st := []) (dx9 := 4) (mc := 0) (ms := 0) (host := "") 11 rfl t_X11_refuse ⟨Or.inl q_11_206, i_X11_refuse.1, i_X11_refuse.2⟩ ⟨by decide, rfl⟩ (congrArg Prod.fst (J.1.1 31 (11, 13) rfl)) rfl (by decide) rfl rfl ⟨by decide, by decide⟩ (jC.of rfl k_X11_refuse rfl ?_)
                  show jX m_X11_refuse 4 0 0 0 [(0, .ref 31), (1, .int (-5))] [] _ 0 0 _
                  refine x_aloadn (x := 31) rfl rfl ?_
                  refine x_iloadn (x := (-5)) rfl rfl ?_
                  refine z_putI (N := 13) (w := (-5)) 11 12 rfl f_11_94 rfl (jfin_no TX11 RX11 13 rfl rfl) hD J Sm rfl rfl jk_m5 (pw_31_12 (by omega)) rfl (fun h w46 J Sm => ?_)
                  refine x_iloadn (x := (-5)) rfl rfl ?_
                  refine x_iret rfl rfl ?_
                  show jX m_X11_refuseTape 5 0 0 13 [(0, .ref 31), (1, .int (-5))] [.int (-5)] _ 0 0 _
                  refine x_iret rfl rfl ?_
                  show jX m_X11_line 6 0 0 66 [(0, .ref 31), (1, .int a1), (2, .int a2), (3, .int a3), (4, .int a4), (5, .int a5)] [.int (-5)] _ 0 0 _
                  refine x_iret rfl rfl ?_
                  exact hQ _ _ (jr_of jk_m5 (by omega)) J Sm _ _ (jmo w46 rfl (jmo w45 rfl (jmc S31 rfl zp0))) (jmo w46 rfl (jmo w45 rfl (jmc S31 rfl zp1))) (by omega)
              ·
                exact jX.sub (jsb_c rfl jsb_n) (ct_X11_line_r31_41 hD hQ  p1 p0 h (jr_of rfl (by omega)) (jr_of rfl (by omega)) (by omega) zp1 zp0 J Sm)
            by_cases c47 : a1.toInt = 4
            ·
              refine x_tableIn (tgt := 40) 4 rfl c47 (by decide) (by decide) rfl rfl ?_
              refine x_iloadn (x := a5) rfl rfl ?_
              refine x_iconst (v := 0) rfl ki_0 ?_
              refine x_ldcw (v := 100000) rfl z_11_531 ?_
              refine x_inst (N := m_X11_isWithin) (As := [.int a5, .int 0, .int 100000]) (st := []) (dx9 := 1) (mc := 0) (ms := 0) (host := "") rfl t_X11_isWithin ⟨Or.inl q_11_202, s_X11_isWithin⟩ rfl (by decide) rfl rfl ⟨by decide, by decide⟩ (zc_X11_isWithin rfl jk_0 jk_100000 (fun v48 ev48 => ?_))
              show jX m_X11_fitsBook 5 0 0 48 [(0, .int a1), (1, .int a5)] [.int v48] _ 0 0 _
              refine x_zret rfl rfl (jz01 (by omega)) ?_
              show jX m_X11_line 6 0 0 38 [(0, .ref 31), (1, .int a1), (2, .int a2), (3, .int a3), (4, .int a4), (5, .int a5)] [.int v48] _ 0 0 _
              refine x_ifne (tgt := 47) rfl rfl (ti_ne rfl jk_0 ⟨fun c49 => ?_, fun c49 => ?_⟩)
              ·
                refine x_aloadn (x := 31) rfl rfl ?_
                refine z_getR (N := 13) (b := 32) 11 0 rfl f_11_10 rfl J rfl 3968 ⟨rfl, rfl⟩ rfl ?_
                refine z_getR (N := 20) (b := 33) 1 0 rfl f_11_126 rfl J rfl 4096 ⟨rfl, rfl⟩ rfl ?_
                refine x_inv (N := m_X8_isFull) (As := []) (b := 33) (st := []) (dx9 := 1) (mc := 0) (ms := 0) (host := "") 8 rfl t_X8_isFull ⟨Or.inl q_11_130, i_X8_isFull.1, i_X8_isFull.2⟩ ⟨by decide, rfl⟩ (congrArg Prod.fst (J.1.1 33 (8, 4) rfl)) rfl (by decide) rfl rfl ⟨by decide, by decide⟩ (sf_X8_isFull_r33  hD J  (fun v51 h ev51 J S50 => ?_))
                have Sm := jSm_tr rfl Sm S50
                show jX m_X11_line 6 0 0 57 [(0, .ref 31), (1, .int a1), (2, .int a2), (3, .int a3), (4, .int a4), (5, .int a5)] [.int v51] _ 0 0 _
                refine x_ifeq (tgt := 67) rfl rfl (ti_eq rfl jk_0 ⟨fun c52 => ?_, fun c52 => ?_⟩)
                ·
                  refine x_aloadn (x := 31) rfl rfl ?_
                  refine z_getR (N := 13) (b := 70) 11 3 rfl f_11_32 rfl J rfl 3971 ⟨rfl, rfl⟩ rfl ?_
                  refine x_gets jst_1 rfl (by decide +kernel) u_11_136 ?_
                  show jX m_X11_line 6 0 0 74 [(0, .ref 31), (1, .int a1), (2, .int a2), (3, .int a3), (4, .int a4), (5, .int a5)] [.ref 1, .ref 70] _ 0 0 _
                  refine x_iloadn (x := a1) rfl rfl ?_
                  refine z_iald (N := 6) rfl J rfl sg_1_0_6_1_0_1 rfl (by omega) (fun v53 qv53 ev53 => ?_)
                  refine x_inv (N := m_X5_readLine) (As := [.int v53]) (b := 70) (st := []) (dx9 := 5) (mc := 0) (ms := 0) (host := "") 5 rfl t_X5_readLine ⟨Or.inl q_11_139, i_X5_readLine.1, i_X5_readLine.2⟩ ⟨by decide, rfl⟩ (congrArg Prod.fst (J.1.1 70 (5, 9) rfl)) rfl (by decide) rfl rfl ⟨by decide, by decide⟩ (sf_X5_readLine_r70 (jr_of rfl (by omega)) hD J (jmc S50 rfl zp0) (jmc S50 rfl zp1) (by omega)  (fun v57 h ev57 J S54 u55 u56 qu55 qu56 ru55 => ?_))
                  have Sm := jSm_tr rfl Sm S54
                  have eu55 := (show 0 ≤ u55.toInt ∧ u55.toInt ≤ 3 from qu55 ▸ jrg_f J sg_68_5_6_1_0_1)
                  have eu56 := (show 0 ≤ u56.toInt ∧ u56.toInt ≤ 400 from qu56 ▸ jrg_f J sg_68_3_4_1_0_1)
                  show jX m_X11_line 6 0 0 79 [(0, .ref 31), (1, .int a1), (2, .int a2), (3, .int a3), (4, .int a4), (5, .int a5)] [.int v57] _ 0 0 _
                  refine x_istore (lsx9 := [(6, .int v57), (0, .ref 31), (1, .int a1), (2, .int a2), (3, .int a3), (4, .int a4), (5, .int a5)]) rfl rfl rfl ?_
                  refine x_iload (x := v57) rfl rfl ?_
                  refine x_iconst (v := (-1)) rfl ki_m1 ?_
                  refine x_icne (tgt := 94) rfl rfl (ti_ne rfl jk_m1 ⟨fun c58 => ?_, fun c58 => ?_⟩)
                  ·
                    refine x_aloadn (x := 31) rfl rfl ?_
                    refine z_getR (N := 13) (b := 68) 11 2 rfl f_11_23 rfl J rfl 3970 ⟨rfl, rfl⟩ rfl ?_
                    refine x_iconst (v := 0) rfl ki_0 ?_
                    refine z_putI (N := 6) (w := 0) 9 1 rfl f_11_106 rfl (jfin_no TX9 RX9 6 rfl rfl) hD J Sm rfl rfl jk_0 (pw_68_1 (by omega)) rfl (fun h w59 J Sm => ?_)
                    refine x_aloadn (x := 31) rfl rfl ?_
                    refine z_getR (N := 13) (b := 32) 11 0 rfl f_11_10 rfl J rfl 3968 ⟨rfl, rfl⟩ rfl ?_
                    refine z_getR (N := 20) (b := 33) 1 0 rfl f_11_126 rfl J rfl 4096 ⟨rfl, rfl⟩ rfl ?_
                    refine z_getI (N := 4) 8 3 rfl f_11_142 rfl J rfl sg_33_3_4_1_0_1 (fun v60 qv60 ev60 => ?_)
                    refine x_istore (lsx9 := [(7, .int v60), (6, .int v57), (0, .ref 31), (1, .int a1), (2, .int a2), (3, .int a3), (4, .int a4), (5, .int a5)]) rfl rfl rfl ?_
                    refine x_aloadn (x := 31) rfl rfl ?_
                    refine z_getR (N := 13) (b := 32) 11 0 rfl f_11_10 rfl J rfl 3968 ⟨rfl, rfl⟩ rfl ?_
                    refine z_getR (N := 20) (b := 33) 1 0 rfl f_11_126 rfl J rfl 4096 ⟨rfl, rfl⟩ rfl ?_
                    refine x_iload (x := a4) rfl rfl ?_
                    refine x_iloadn (x := a3) rfl rfl ?_
                    refine x_iloadn (x := a1) rfl rfl ?_
                    refine x_iloadn (x := a2) rfl rfl ?_
                    refine x_iload (x := a5) rfl rfl ?_
                    refine x_iload (x := v57) rfl rfl ?_
                    refine x_inv (N := m_X8_add) (As := [.int a4, .int a3, .int a1, .int a2, .int a5, .int v57]) (b := 33) (st := []) (dx9 := 2) (mc := 0) (ms := 0) (host := "") 8 rfl t_X8_add ⟨Or.inl q_11_145, i_X8_add.1, i_X8_add.2⟩ ⟨by decide, rfl⟩ (congrArg Prod.fst (J.1.1 33 (8, 4) rfl)) rfl (by decide) rfl rfl ⟨by decide, by decide⟩ (sf_X8_add_r33 (jr_of rfl (by omega)) (jr_of rfl (by omega)) (jr_of rfl (by omega)) (jr_of rfl (by omega)) (jr_of rfl (by omega)) (jr_of rfl (by omega)) hD J  (fun h J S61 => ?_))
                    have Sm := jSm_tr rfl Sm S61
                    show jX m_X11_line 6 0 0 133 [(7, .int v60), (6, .int v57), (0, .ref 31), (1, .int a1), (2, .int a2), (3, .int a3), (4, .int a4), (5, .int a5)] [] _ 0 0 _
                    refine x_iconst (v := 0) rfl ki_0 ?_
                    refine x_istore (lsx9 := [(8, .int 0), (7, .int v60), (6, .int v57), (0, .ref 31), (1, .int a1), (2, .int a2), (3, .int a3), (4, .int a4), (5, .int a5)]) rfl rfl rfl ?_
                    exact jX.sub (jsb_c rfl (jsb_c rfl (jsb_c rfl jsb_n))) (ct_X11_line_r31_136 hD hQ  7 v60 0 u56 u55 h (by have := jk_0; omega) (jr_of rfl (by omega)) (jr_of jk_0 (by omega)) (jr_of rfl (by omega)) (jr_of rfl (by omega)) (by omega) (jmc S61 rfl (jmo w59 rfl qu56)) (jmc S61 rfl (jmo w59 rfl qu55)) J Sm)
                  ·
                    refine x_aloadn (x := 31) rfl rfl ?_
                    refine x_bipush (v := (-6)) rfl kb_m6 ?_
                    refine x_inv (N := m_X11_refuseTape) (As := [.int (-6)]) (b := 31) (st := []) (dx9 := 5) (mc := 0) (ms := 0) (host := "") 11 rfl t_X11_refuseTape ⟨Or.inl q_11_122, i_X11_refuseTape.1, i_X11_refuseTape.2⟩ ⟨by decide, rfl⟩ (congrArg Prod.fst (J.1.1 31 (11, 13) rfl)) rfl (by decide) rfl rfl ⟨by decide, by decide⟩ (jC.of rfl k_X11_refuseTape rfl ?_)
                    show jX m_X11_refuseTape 5 0 0 0 [(0, .ref 31), (1, .int (-6))] [] _ 0 0 _
                    refine x_aloadn (x := 31) rfl rfl ?_
                    refine z_getR (N := 13) (b := 68) 11 2 rfl f_11_23 rfl J rfl 3970 ⟨rfl, rfl⟩ rfl ?_
                    refine x_iconst (v := 0) rfl ki_0 ?_
                    refine z_putI (N := 6) (w := 0) 9 1 rfl f_11_106 rfl (jfin_no TX9 RX9 6 rfl rfl) hD J Sm rfl rfl jk_0 (pw_68_1 (by omega)) rfl (fun h w62 J Sm => ?_)
                    refine x_aloadn (x := 31) rfl rfl ?_
                    refine x_iloadn (x := (-6)) rfl rfl ?_
                    refine x_inv (N := m_X11_refuse) (As := [.int (-6)]) (b := 31) (st := []) (dx9 := 4) (mc := 0) (ms := 0) (host := "") 11 rfl t_X11_refuse ⟨Or.inl q_11_206, i_X11_refuse.1, i_X11_refuse.2⟩ ⟨by decide, rfl⟩ (congrArg Prod.fst (J.1.1 31 (11, 13) rfl)) rfl (by decide) rfl rfl ⟨by decide, by decide⟩ (jC.of rfl k_X11_refuse rfl ?_)
                    show jX m_X11_refuse 4 0 0 0 [(0, .ref 31), (1, .int (-6))] [] _ 0 0 _
                    refine x_aloadn (x := 31) rfl rfl ?_
                    refine x_iloadn (x := (-6)) rfl rfl ?_
                    refine z_putI (N := 13) (w := (-6)) 11 12 rfl f_11_94 rfl (jfin_no TX11 RX11 13 rfl rfl) hD J Sm rfl rfl jk_m6 (pw_31_12 (by omega)) rfl (fun h w63 J Sm => ?_)
                    refine x_iloadn (x := (-6)) rfl rfl ?_
                    refine x_iret rfl rfl ?_
                    show jX m_X11_refuseTape 5 0 0 13 [(0, .ref 31), (1, .int (-6))] [.int (-6)] _ 0 0 _
                    refine x_iret rfl rfl ?_
                    show jX m_X11_line 6 0 0 93 [(6, .int v57), (0, .ref 31), (1, .int a1), (2, .int a2), (3, .int a3), (4, .int a4), (5, .int a5)] [.int (-6)] _ 0 0 _
                    refine x_iret rfl rfl ?_
                    exact hQ _ _ (jr_of jk_m6 (by omega)) J Sm _ _ (jmo w63 rfl (jmo w62 rfl qu55)) (jmo w63 rfl (jmo w62 rfl qu56)) (by omega)
                ·
                  refine x_aloadn (x := 31) rfl rfl ?_
                  refine x_bipush (v := (-5)) rfl kb_m5 ?_
                  refine x_inv (N := m_X11_refuseTape) (As := [.int (-5)]) (b := 31) (st := []) (dx9 := 5) (mc := 0) (ms := 0) (host := "") 11 rfl t_X11_refuseTape ⟨Or.inl q_11_122, i_X11_refuseTape.1, i_X11_refuseTape.2⟩ ⟨by decide, rfl⟩ (congrArg Prod.fst (J.1.1 31 (11, 13) rfl)) rfl (by decide) rfl rfl ⟨by decide, by decide⟩ (jC.of rfl k_X11_refuseTape rfl ?_)
                  show jX m_X11_refuseTape 5 0 0 0 [(0, .ref 31), (1, .int (-5))] [] _ 0 0 _
                  refine x_aloadn (x := 31) rfl rfl ?_
                  refine z_getR (N := 13) (b := 68) 11 2 rfl f_11_23 rfl J rfl 3970 ⟨rfl, rfl⟩ rfl ?_
                  refine x_iconst (v := 0) rfl ki_0 ?_
                  refine z_putI (N := 6) (w := 0) 9 1 rfl f_11_106 rfl (jfin_no TX9 RX9 6 rfl rfl) hD J Sm rfl rfl jk_0 (pw_68_1 (by omega)) rfl (fun h w64 J Sm => ?_)
                  refine x_aloadn (x := 31) rfl rfl ?_
                  refine x_iloadn (x := (-5)) rfl rfl ?_
                  refine x_inv (N := m_X11_refuse) (As := [.int (-5)]) (b := 31) (st := []) (dx9 := 4) (mc := 0) (ms := 0) (host := "") 11 rfl t_X11_refuse ⟨Or.inl q_11_206, i_X11_refuse.1, i_X11_refuse.2⟩ ⟨by decide, rfl⟩ (congrArg Prod.fst (J.1.1 31 (11, 13) rfl)) rfl (by decide) rfl rfl ⟨by decide, by decide⟩ (jC.of rfl k_X11_refuse rfl ?_)
                  show jX m_X11_refuse 4 0 0 0 [(0, .ref 31), (1, .int (-5))] [] _ 0 0 _
                  refine x_aloadn (x := 31) rfl rfl ?_
                  refine x_iloadn (x := (-5)) rfl rfl ?_
                  refine z_putI (N := 13) (w := (-5)) 11 12 rfl f_11_94 rfl (jfin_no TX11 RX11 13 rfl rfl) hD J Sm rfl rfl jk_m5 (pw_31_12 (by omega)) rfl (fun h w65 J Sm => ?_)
                  refine x_iloadn (x := (-5)) rfl rfl ?_
                  refine x_iret rfl rfl ?_
                  show jX m_X11_refuseTape 5 0 0 13 [(0, .ref 31), (1, .int (-5))] [.int (-5)] _ 0 0 _
                  refine x_iret rfl rfl ?_
                  show jX m_X11_line 6 0 0 66 [(0, .ref 31), (1, .int a1), (2, .int a2), (3, .int a3), (4, .int a4), (5, .int a5)] [.int (-5)] _ 0 0 _
                  refine x_iret rfl rfl ?_
                  exact hQ _ _ (jr_of jk_m5 (by omega)) J Sm _ _ (jmo w65 rfl (jmo w64 rfl (jmc S50 rfl zp0))) (jmo w65 rfl (jmo w64 rfl (jmc S50 rfl zp1))) (by omega)
              ·
                exact jX.sub (jsb_c rfl jsb_n) (ct_X11_line_r31_41 hD hQ  p1 p0 h (jr_of rfl (by omega)) (jr_of rfl (by omega)) (by omega) zp1 zp0 J Sm)
            by_cases c66 : a1.toInt = 5
            ·
              refine x_tableIn (tgt := 49) 5 rfl c66 (by decide) (by decide) rfl rfl ?_
              refine x_iloadn (x := a5) rfl rfl ?_
              refine x_iconst (v := 1) rfl ki_1 ?_
              refine x_bipush (v := 11) rfl kb_11 ?_
              refine x_inst (N := m_X11_isWithin) (As := [.int a5, .int 1, .int 11]) (st := []) (dx9 := 1) (mc := 0) (ms := 0) (host := "") rfl t_X11_isWithin ⟨Or.inl q_11_202, s_X11_isWithin⟩ rfl (by decide) rfl rfl ⟨by decide, by decide⟩ (zc_X11_isWithin rfl jk_1 jk_11 (fun v67 ev67 => ?_))
              show jX m_X11_fitsBook 5 0 0 56 [(0, .int a1), (1, .int a5)] [.int v67] _ 0 0 _
              refine x_zret rfl rfl (jz01 (by omega)) ?_
              show jX m_X11_line 6 0 0 38 [(0, .ref 31), (1, .int a1), (2, .int a2), (3, .int a3), (4, .int a4), (5, .int a5)] [.int v67] _ 0 0 _
              refine x_ifne (tgt := 47) rfl rfl (ti_ne rfl jk_0 ⟨fun c68 => ?_, fun c68 => ?_⟩)
              ·
                refine x_aloadn (x := 31) rfl rfl ?_
                refine z_getR (N := 13) (b := 32) 11 0 rfl f_11_10 rfl J rfl 3968 ⟨rfl, rfl⟩ rfl ?_
                refine z_getR (N := 20) (b := 33) 1 0 rfl f_11_126 rfl J rfl 4096 ⟨rfl, rfl⟩ rfl ?_
                refine x_inv (N := m_X8_isFull) (As := []) (b := 33) (st := []) (dx9 := 1) (mc := 0) (ms := 0) (host := "") 8 rfl t_X8_isFull ⟨Or.inl q_11_130, i_X8_isFull.1, i_X8_isFull.2⟩ ⟨by decide, rfl⟩ (congrArg Prod.fst (J.1.1 33 (8, 4) rfl)) rfl (by decide) rfl rfl ⟨by decide, by decide⟩ (sf_X8_isFull_r33  hD J  (fun v70 h ev70 J S69 => ?_))
                have Sm := jSm_tr rfl Sm S69
                show jX m_X11_line 6 0 0 57 [(0, .ref 31), (1, .int a1), (2, .int a2), (3, .int a3), (4, .int a4), (5, .int a5)] [.int v70] _ 0 0 _
                refine x_ifeq (tgt := 67) rfl rfl (ti_eq rfl jk_0 ⟨fun c71 => ?_, fun c71 => ?_⟩)
                ·
                  refine x_aloadn (x := 31) rfl rfl ?_
                  refine z_getR (N := 13) (b := 70) 11 3 rfl f_11_32 rfl J rfl 3971 ⟨rfl, rfl⟩ rfl ?_
                  refine x_gets jst_1 rfl (by decide +kernel) u_11_136 ?_
                  show jX m_X11_line 6 0 0 74 [(0, .ref 31), (1, .int a1), (2, .int a2), (3, .int a3), (4, .int a4), (5, .int a5)] [.ref 1, .ref 70] _ 0 0 _
                  refine x_iloadn (x := a1) rfl rfl ?_
                  refine z_iald (N := 6) rfl J rfl sg_1_0_6_1_0_1 rfl (by omega) (fun v72 qv72 ev72 => ?_)
                  refine x_inv (N := m_X5_readLine) (As := [.int v72]) (b := 70) (st := []) (dx9 := 5) (mc := 0) (ms := 0) (host := "") 5 rfl t_X5_readLine ⟨Or.inl q_11_139, i_X5_readLine.1, i_X5_readLine.2⟩ ⟨by decide, rfl⟩ (congrArg Prod.fst (J.1.1 70 (5, 9) rfl)) rfl (by decide) rfl rfl ⟨by decide, by decide⟩ (sf_X5_readLine_r70 (jr_of rfl (by omega)) hD J (jmc S69 rfl zp0) (jmc S69 rfl zp1) (by omega)  (fun v76 h ev76 J S73 u74 u75 qu74 qu75 ru74 => ?_))
                  have Sm := jSm_tr rfl Sm S73
                  have eu74 := (show 0 ≤ u74.toInt ∧ u74.toInt ≤ 3 from qu74 ▸ jrg_f J sg_68_5_6_1_0_1)
                  have eu75 := (show 0 ≤ u75.toInt ∧ u75.toInt ≤ 400 from qu75 ▸ jrg_f J sg_68_3_4_1_0_1)
                  show jX m_X11_line 6 0 0 79 [(0, .ref 31), (1, .int a1), (2, .int a2), (3, .int a3), (4, .int a4), (5, .int a5)] [.int v76] _ 0 0 _
                  refine x_istore (lsx9 := [(6, .int v76), (0, .ref 31), (1, .int a1), (2, .int a2), (3, .int a3), (4, .int a4), (5, .int a5)]) rfl rfl rfl ?_
                  refine x_iload (x := v76) rfl rfl ?_
                  refine x_iconst (v := (-1)) rfl ki_m1 ?_
                  refine x_icne (tgt := 94) rfl rfl (ti_ne rfl jk_m1 ⟨fun c77 => ?_, fun c77 => ?_⟩)
                  ·
                    refine x_aloadn (x := 31) rfl rfl ?_
                    refine z_getR (N := 13) (b := 68) 11 2 rfl f_11_23 rfl J rfl 3970 ⟨rfl, rfl⟩ rfl ?_
                    refine x_iconst (v := 0) rfl ki_0 ?_
                    refine z_putI (N := 6) (w := 0) 9 1 rfl f_11_106 rfl (jfin_no TX9 RX9 6 rfl rfl) hD J Sm rfl rfl jk_0 (pw_68_1 (by omega)) rfl (fun h w78 J Sm => ?_)
                    refine x_aloadn (x := 31) rfl rfl ?_
                    refine z_getR (N := 13) (b := 32) 11 0 rfl f_11_10 rfl J rfl 3968 ⟨rfl, rfl⟩ rfl ?_
                    refine z_getR (N := 20) (b := 33) 1 0 rfl f_11_126 rfl J rfl 4096 ⟨rfl, rfl⟩ rfl ?_
                    refine z_getI (N := 4) 8 3 rfl f_11_142 rfl J rfl sg_33_3_4_1_0_1 (fun v79 qv79 ev79 => ?_)
                    refine x_istore (lsx9 := [(7, .int v79), (6, .int v76), (0, .ref 31), (1, .int a1), (2, .int a2), (3, .int a3), (4, .int a4), (5, .int a5)]) rfl rfl rfl ?_
                    refine x_aloadn (x := 31) rfl rfl ?_
                    refine z_getR (N := 13) (b := 32) 11 0 rfl f_11_10 rfl J rfl 3968 ⟨rfl, rfl⟩ rfl ?_
                    refine z_getR (N := 20) (b := 33) 1 0 rfl f_11_126 rfl J rfl 4096 ⟨rfl, rfl⟩ rfl ?_
                    refine x_iload (x := a4) rfl rfl ?_
                    refine x_iloadn (x := a3) rfl rfl ?_
                    refine x_iloadn (x := a1) rfl rfl ?_
                    refine x_iloadn (x := a2) rfl rfl ?_
                    refine x_iload (x := a5) rfl rfl ?_
                    refine x_iload (x := v76) rfl rfl ?_
                    refine x_inv (N := m_X8_add) (As := [.int a4, .int a3, .int a1, .int a2, .int a5, .int v76]) (b := 33) (st := []) (dx9 := 2) (mc := 0) (ms := 0) (host := "") 8 rfl t_X8_add ⟨Or.inl q_11_145, i_X8_add.1, i_X8_add.2⟩ ⟨by decide, rfl⟩ (congrArg Prod.fst (J.1.1 33 (8, 4) rfl)) rfl (by decide) rfl rfl ⟨by decide, by decide⟩ (sf_X8_add_r33 (jr_of rfl (by omega)) (jr_of rfl (by omega)) (jr_of rfl (by omega)) (jr_of rfl (by omega)) (jr_of rfl (by omega)) (jr_of rfl (by omega)) hD J  (fun h J S80 => ?_))
                    have Sm := jSm_tr rfl Sm S80
                    show jX m_X11_line 6 0 0 133 [(7, .int v79), (6, .int v76), (0, .ref 31), (1, .int a1), (2, .int a2), (3, .int a3), (4, .int a4), (5, .int a5)] [] _ 0 0 _
                    refine x_iconst (v := 0) rfl ki_0 ?_
                    refine x_istore (lsx9 := [(8, .int 0), (7, .int v79), (6, .int v76), (0, .ref 31), (1, .int a1), (2, .int a2), (3, .int a3), (4, .int a4), (5, .int a5)]) rfl rfl rfl ?_
                    exact jX.sub (jsb_c rfl (jsb_c rfl (jsb_c rfl jsb_n))) (ct_X11_line_r31_136 hD hQ  7 v79 0 u75 u74 h (by have := jk_0; omega) (jr_of rfl (by omega)) (jr_of jk_0 (by omega)) (jr_of rfl (by omega)) (jr_of rfl (by omega)) (by omega) (jmc S80 rfl (jmo w78 rfl qu75)) (jmc S80 rfl (jmo w78 rfl qu74)) J Sm)
                  ·
                    refine x_aloadn (x := 31) rfl rfl ?_
                    refine x_bipush (v := (-6)) rfl kb_m6 ?_
                    refine x_inv (N := m_X11_refuseTape) (As := [.int (-6)]) (b := 31) (st := []) (dx9 := 5) (mc := 0) (ms := 0) (host := "") 11 rfl t_X11_refuseTape ⟨Or.inl q_11_122, i_X11_refuseTape.1, i_X11_refuseTape.2⟩ ⟨by decide, rfl⟩ (congrArg Prod.fst (J.1.1 31 (11, 13) rfl)) rfl (by decide) rfl rfl ⟨by decide, by decide⟩ (jC.of rfl k_X11_refuseTape rfl ?_)
                    show jX m_X11_refuseTape 5 0 0 0 [(0, .ref 31), (1, .int (-6))] [] _ 0 0 _
                    refine x_aloadn (x := 31) rfl rfl ?_
                    refine z_getR (N := 13) (b := 68) 11 2 rfl f_11_23 rfl J rfl 3970 ⟨rfl, rfl⟩ rfl ?_
                    refine x_iconst (v := 0) rfl ki_0 ?_
                    refine z_putI (N := 6) (w := 0) 9 1 rfl f_11_106 rfl (jfin_no TX9 RX9 6 rfl rfl) hD J Sm rfl rfl jk_0 (pw_68_1 (by omega)) rfl (fun h w81 J Sm => ?_)
                    refine x_aloadn (x := 31) rfl rfl ?_
                    refine x_iloadn (x := (-6)) rfl rfl ?_
                    refine x_inv (N := m_X11_refuse) (As := [.int (-6)]) (b := 31) (st := []) (dx9 := 4) (mc := 0) (ms := 0) (host := "") 11 rfl t_X11_refuse ⟨Or.inl q_11_206, i_X11_refuse.1, i_X11_refuse.2⟩ ⟨by decide, rfl⟩ (congrArg Prod.fst (J.1.1 31 (11, 13) rfl)) rfl (by decide) rfl rfl ⟨by decide, by decide⟩ (jC.of rfl k_X11_refuse rfl ?_)
                    show jX m_X11_refuse 4 0 0 0 [(0, .ref 31), (1, .int (-6))] [] _ 0 0 _
                    refine x_aloadn (x := 31) rfl rfl ?_
                    refine x_iloadn (x := (-6)) rfl rfl ?_
                    refine z_putI (N := 13) (w := (-6)) 11 12 rfl f_11_94 rfl (jfin_no TX11 RX11 13 rfl rfl) hD J Sm rfl rfl jk_m6 (pw_31_12 (by omega)) rfl (fun h w82 J Sm => ?_)
                    refine x_iloadn (x := (-6)) rfl rfl ?_
                    refine x_iret rfl rfl ?_
                    show jX m_X11_refuseTape 5 0 0 13 [(0, .ref 31), (1, .int (-6))] [.int (-6)] _ 0 0 _
                    refine x_iret rfl rfl ?_
                    show jX m_X11_line 6 0 0 93 [(6, .int v76), (0, .ref 31), (1, .int a1), (2, .int a2), (3, .int a3), (4, .int a4), (5, .int a5)] [.int (-6)] _ 0 0 _
                    refine x_iret rfl rfl ?_
                    exact hQ _ _ (jr_of jk_m6 (by omega)) J Sm _ _ (jmo w82 rfl (jmo w81 rfl qu74)) (jmo w82 rfl (jmo w81 rfl qu75)) (by omega)
                ·
                  refine x_aloadn (x := 31) rfl rfl ?_
                  refine x_bipush (v := (-5)) rfl kb_m5 ?_
                  refine x_inv (N := m_X11_refuseTape) (As := [.int (-5)]) (b := 31) (st := []) (dx9 := 5) (mc := 0) (ms := 0) (host := "") 11 rfl t_X11_refuseTape ⟨Or.inl q_11_122, i_X11_refuseTape.1, i_X11_refuseTape.2⟩ ⟨by decide, rfl⟩ (congrArg Prod.fst (J.1.1 31 (11, 13) rfl)) rfl (by decide) rfl rfl ⟨by decide, by decide⟩ (jC.of rfl k_X11_refuseTape rfl ?_)
                  show jX m_X11_refuseTape 5 0 0 0 [(0, .ref 31), (1, .int (-5))] [] _ 0 0 _
                  refine x_aloadn (x := 31) rfl rfl ?_
                  refine z_getR (N := 13) (b := 68) 11 2 rfl f_11_23 rfl J rfl 3970 ⟨rfl, rfl⟩ rfl ?_
                  refine x_iconst (v := 0) rfl ki_0 ?_
                  refine z_putI (N := 6) (w := 0) 9 1 rfl f_11_106 rfl (jfin_no TX9 RX9 6 rfl rfl) hD J Sm rfl rfl jk_0 (pw_68_1 (by omega)) rfl (fun h w83 J Sm => ?_)
                  refine x_aloadn (x := 31) rfl rfl ?_
                  refine x_iloadn (x := (-5)) rfl rfl ?_
                  refine x_inv (N := m_X11_refuse) (As := [.int (-5)]) (b := 31) (st := []) (dx9 := 4) (mc := 0) (ms := 0) (host := "") 11 rfl t_X11_refuse ⟨Or.inl q_11_206, i_X11_refuse.1, i_X11_refuse.2⟩ ⟨by decide, rfl⟩ (congrArg Prod.fst (J.1.1 31 (11, 13) rfl)) rfl (by decide) rfl rfl ⟨by decide, by decide⟩ (jC.of rfl k_X11_refuse rfl ?_)
                  show jX m_X11_refuse 4 0 0 0 [(0, .ref 31), (1, .int (-5))] [] _ 0 0 _
                  refine x_aloadn (x := 31) rfl rfl ?_
                  refine x_iloadn (x := (-5)) rfl rfl ?_
                  refine z_putI (N := 13) (w := (-5)) 11 12 rfl f_11_94 rfl (jfin_no TX11 RX11 13 rfl rfl) hD J Sm rfl rfl jk_m5 (pw_31_12 (by omega)) rfl (fun h w84 J Sm => ?_)
                  refine x_iloadn (x := (-5)) rfl rfl ?_
                  refine x_iret rfl rfl ?_
                  show jX m_X11_refuseTape 5 0 0 13 [(0, .ref 31), (1, .int (-5))] [.int (-5)] _ 0 0 _
                  refine x_iret rfl rfl ?_
                  show jX m_X11_line 6 0 0 66 [(0, .ref 31), (1, .int a1), (2, .int a2), (3, .int a3), (4, .int a4), (5, .int a5)] [.int (-5)] _ 0 0 _
                  refine x_iret rfl rfl ?_
                  exact hQ _ _ (jr_of jk_m5 (by omega)) J Sm _ _ (jmo w84 rfl (jmo w83 rfl (jmc S69 rfl zp0))) (jmo w84 rfl (jmo w83 rfl (jmc S69 rfl zp1))) (by omega)
              ·
                exact jX.sub (jsb_c rfl jsb_n) (ct_X11_line_r31_41 hD hQ  p1 p0 h (jr_of rfl (by omega)) (jr_of rfl (by omega)) (by omega) zp1 zp0 J Sm)
            refine x_tableOut (tgt := 57) rfl (by omega) rfl ?_
            refine x_iloadn (x := a5) rfl rfl ?_
            refine x_iconst (v := (-1)) rfl ki_m1 ?_
            refine x_icne (tgt := 66) rfl rfl (ti_ne rfl jk_m1 ⟨fun c85 => ?_, fun c85 => ?_⟩)
            ·
              refine x_iconst (v := 0) rfl ki_0 ?_
              refine x_zret rfl rfl (by decide) ?_
              show jX m_X11_line 6 0 0 38 [(0, .ref 31), (1, .int a1), (2, .int a2), (3, .int a3), (4, .int a4), (5, .int a5)] [.int 0] _ 0 0 _
              refine x_ifne (tgt := 47) rfl rfl (ti_ne jk_0 jk_0 (bn_f (by omega) ?_))
              exact jX.sub (jsb_c rfl jsb_n) (ct_X11_line_r31_41 hD hQ  p1 p0 h (jr_of rfl (by omega)) (jr_of rfl (by omega)) (by omega) zp1 zp0 J Sm)
            ·
              refine x_iconst (v := 1) rfl ki_1 ?_
              refine x_goto (tgt := 67) rfl rfl ?_
              refine x_zret rfl rfl (by decide) ?_
              show jX m_X11_line 6 0 0 38 [(0, .ref 31), (1, .int a1), (2, .int a2), (3, .int a3), (4, .int a4), (5, .int a5)] [.int 1] _ 0 0 _
              refine x_ifne (tgt := 47) rfl rfl (ti_ne jk_1 jk_0 (bn_t (by omega) ?_))
              refine x_aloadn (x := 31) rfl rfl ?_
              refine z_getR (N := 13) (b := 32) 11 0 rfl f_11_10 rfl J rfl 3968 ⟨rfl, rfl⟩ rfl ?_
              refine z_getR (N := 20) (b := 33) 1 0 rfl f_11_126 rfl J rfl 4096 ⟨rfl, rfl⟩ rfl ?_
              refine x_inv (N := m_X8_isFull) (As := []) (b := 33) (st := []) (dx9 := 1) (mc := 0) (ms := 0) (host := "") 8 rfl t_X8_isFull ⟨Or.inl q_11_130, i_X8_isFull.1, i_X8_isFull.2⟩ ⟨by decide, rfl⟩ (congrArg Prod.fst (J.1.1 33 (8, 4) rfl)) rfl (by decide) rfl rfl ⟨by decide, by decide⟩ (sf_X8_isFull_r33  hD J  (fun v87 h ev87 J S86 => ?_))
              have Sm := jSm_tr rfl Sm S86
              show jX m_X11_line 6 0 0 57 [(0, .ref 31), (1, .int a1), (2, .int a2), (3, .int a3), (4, .int a4), (5, .int a5)] [.int v87] _ 0 0 _
              refine x_ifeq (tgt := 67) rfl rfl (ti_eq rfl jk_0 ⟨fun c88 => ?_, fun c88 => ?_⟩)
              ·
                refine x_aloadn (x := 31) rfl rfl ?_
                refine z_getR (N := 13) (b := 70) 11 3 rfl f_11_32 rfl J rfl 3971 ⟨rfl, rfl⟩ rfl ?_
                refine x_gets jst_1 rfl (by decide +kernel) u_11_136 ?_
                show jX m_X11_line 6 0 0 74 [(0, .ref 31), (1, .int a1), (2, .int a2), (3, .int a3), (4, .int a4), (5, .int a5)] [.ref 1, .ref 70] _ 0 0 _
                refine x_iloadn (x := a1) rfl rfl ?_
                refine z_iald (N := 6) rfl J rfl sg_1_0_6_1_0_1 rfl (by omega) (fun v89 qv89 ev89 => ?_)
                refine x_inv (N := m_X5_readLine) (As := [.int v89]) (b := 70) (st := []) (dx9 := 5) (mc := 0) (ms := 0) (host := "") 5 rfl t_X5_readLine ⟨Or.inl q_11_139, i_X5_readLine.1, i_X5_readLine.2⟩ ⟨by decide, rfl⟩ (congrArg Prod.fst (J.1.1 70 (5, 9) rfl)) rfl (by decide) rfl rfl ⟨by decide, by decide⟩ (sf_X5_readLine_r70 (jr_of rfl (by omega)) hD J (jmc S86 rfl zp0) (jmc S86 rfl zp1) (by omega)  (fun v93 h ev93 J S90 u91 u92 qu91 qu92 ru91 => ?_))
                have Sm := jSm_tr rfl Sm S90
                have eu91 := (show 0 ≤ u91.toInt ∧ u91.toInt ≤ 3 from qu91 ▸ jrg_f J sg_68_5_6_1_0_1)
                have eu92 := (show 0 ≤ u92.toInt ∧ u92.toInt ≤ 400 from qu92 ▸ jrg_f J sg_68_3_4_1_0_1)
                show jX m_X11_line 6 0 0 79 [(0, .ref 31), (1, .int a1), (2, .int a2), (3, .int a3), (4, .int a4), (5, .int a5)] [.int v93] _ 0 0 _
                refine x_istore (lsx9 := [(6, .int v93), (0, .ref 31), (1, .int a1), (2, .int a2), (3, .int a3), (4, .int a4), (5, .int a5)]) rfl rfl rfl ?_
                refine x_iload (x := v93) rfl rfl ?_
                refine x_iconst (v := (-1)) rfl ki_m1 ?_
                refine x_icne (tgt := 94) rfl rfl (ti_ne rfl jk_m1 ⟨fun c94 => ?_, fun c94 => ?_⟩)
                ·
                  refine x_aloadn (x := 31) rfl rfl ?_
                  refine z_getR (N := 13) (b := 68) 11 2 rfl f_11_23 rfl J rfl 3970 ⟨rfl, rfl⟩ rfl ?_
                  refine x_iconst (v := 0) rfl ki_0 ?_
                  refine z_putI (N := 6) (w := 0) 9 1 rfl f_11_106 rfl (jfin_no TX9 RX9 6 rfl rfl) hD J Sm rfl rfl jk_0 (pw_68_1 (by omega)) rfl (fun h w95 J Sm => ?_)
                  refine x_aloadn (x := 31) rfl rfl ?_
                  refine z_getR (N := 13) (b := 32) 11 0 rfl f_11_10 rfl J rfl 3968 ⟨rfl, rfl⟩ rfl ?_
                  refine z_getR (N := 20) (b := 33) 1 0 rfl f_11_126 rfl J rfl 4096 ⟨rfl, rfl⟩ rfl ?_
                  refine z_getI (N := 4) 8 3 rfl f_11_142 rfl J rfl sg_33_3_4_1_0_1 (fun v96 qv96 ev96 => ?_)
                  refine x_istore (lsx9 := [(7, .int v96), (6, .int v93), (0, .ref 31), (1, .int a1), (2, .int a2), (3, .int a3), (4, .int a4), (5, .int a5)]) rfl rfl rfl ?_
                  refine x_aloadn (x := 31) rfl rfl ?_
                  refine z_getR (N := 13) (b := 32) 11 0 rfl f_11_10 rfl J rfl 3968 ⟨rfl, rfl⟩ rfl ?_
                  refine z_getR (N := 20) (b := 33) 1 0 rfl f_11_126 rfl J rfl 4096 ⟨rfl, rfl⟩ rfl ?_
                  refine x_iload (x := a4) rfl rfl ?_
                  refine x_iloadn (x := a3) rfl rfl ?_
                  refine x_iloadn (x := a1) rfl rfl ?_
                  refine x_iloadn (x := a2) rfl rfl ?_
                  refine x_iload (x := a5) rfl rfl ?_
                  refine x_iload (x := v93) rfl rfl ?_
                  refine x_inv (N := m_X8_add) (As := [.int a4, .int a3, .int a1, .int a2, .int a5, .int v93]) (b := 33) (st := []) (dx9 := 2) (mc := 0) (ms := 0) (host := "") 8 rfl t_X8_add ⟨Or.inl q_11_145, i_X8_add.1, i_X8_add.2⟩ ⟨by decide, rfl⟩ (congrArg Prod.fst (J.1.1 33 (8, 4) rfl)) rfl (by decide) rfl rfl ⟨by decide, by decide⟩ (sf_X8_add_r33 (jr_of rfl (by omega)) (jr_of rfl (by omega)) (jr_of rfl (by omega)) (jr_of rfl (by omega)) (jr_of rfl (by omega)) (jr_of rfl (by omega)) hD J  (fun h J S97 => ?_))
                  have Sm := jSm_tr rfl Sm S97
                  show jX m_X11_line 6 0 0 133 [(7, .int v96), (6, .int v93), (0, .ref 31), (1, .int a1), (2, .int a2), (3, .int a3), (4, .int a4), (5, .int a5)] [] _ 0 0 _
                  refine x_iconst (v := 0) rfl ki_0 ?_
                  refine x_istore (lsx9 := [(8, .int 0), (7, .int v96), (6, .int v93), (0, .ref 31), (1, .int a1), (2, .int a2), (3, .int a3), (4, .int a4), (5, .int a5)]) rfl rfl rfl ?_
                  exact jX.sub (jsb_c rfl (jsb_c rfl (jsb_c rfl jsb_n))) (ct_X11_line_r31_136 hD hQ  7 v96 0 u92 u91 h (by have := jk_0; omega) (jr_of rfl (by omega)) (jr_of jk_0 (by omega)) (jr_of rfl (by omega)) (jr_of rfl (by omega)) (by omega) (jmc S97 rfl (jmo w95 rfl qu92)) (jmc S97 rfl (jmo w95 rfl qu91)) J Sm)
                ·
                  refine x_aloadn (x := 31) rfl rfl ?_
                  refine x_bipush (v := (-6)) rfl kb_m6 ?_
                  refine x_inv (N := m_X11_refuseTape) (As := [.int (-6)]) (b := 31) (st := []) (dx9 := 5) (mc := 0) (ms := 0) (host := "") 11 rfl t_X11_refuseTape ⟨Or.inl q_11_122, i_X11_refuseTape.1, i_X11_refuseTape.2⟩ ⟨by decide, rfl⟩ (congrArg Prod.fst (J.1.1 31 (11, 13) rfl)) rfl (by decide) rfl rfl ⟨by decide, by decide⟩ (jC.of rfl k_X11_refuseTape rfl ?_)
                  show jX m_X11_refuseTape 5 0 0 0 [(0, .ref 31), (1, .int (-6))] [] _ 0 0 _
                  refine x_aloadn (x := 31) rfl rfl ?_
                  refine z_getR (N := 13) (b := 68) 11 2 rfl f_11_23 rfl J rfl 3970 ⟨rfl, rfl⟩ rfl ?_
                  refine x_iconst (v := 0) rfl ki_0 ?_
                  refine z_putI (N := 6) (w := 0) 9 1 rfl f_11_106 rfl (jfin_no TX9 RX9 6 rfl rfl) hD J Sm rfl rfl jk_0 (pw_68_1 (by omega)) rfl (fun h w98 J Sm => ?_)
                  refine x_aloadn (x := 31) rfl rfl ?_
                  refine x_iloadn (x := (-6)) rfl rfl ?_
                  refine x_inv (N := m_X11_refuse) (As := [.int (-6)]) (b := 31) (st := []) (dx9 := 4) (mc := 0) (ms := 0) (host := "") 11 rfl t_X11_refuse ⟨Or.inl q_11_206, i_X11_refuse.1, i_X11_refuse.2⟩ ⟨by decide, rfl⟩ (congrArg Prod.fst (J.1.1 31 (11, 13) rfl)) rfl (by decide) rfl rfl ⟨by decide, by decide⟩ (jC.of rfl k_X11_refuse rfl ?_)
                  show jX m_X11_refuse 4 0 0 0 [(0, .ref 31), (1, .int (-6))] [] _ 0 0 _
                  refine x_aloadn (x := 31) rfl rfl ?_
                  refine x_iloadn (x := (-6)) rfl rfl ?_
                  refine z_putI (N := 13) (w := (-6)) 11 12 rfl f_11_94 rfl (jfin_no TX11 RX11 13 rfl rfl) hD J Sm rfl rfl jk_m6 (pw_31_12 (by omega)) rfl (fun h w99 J Sm => ?_)
                  refine x_iloadn (x := (-6)) rfl rfl ?_
                  refine x_iret rfl rfl ?_
                  show jX m_X11_refuseTape 5 0 0 13 [(0, .ref 31), (1, .int (-6))] [.int (-6)] _ 0 0 _
                  refine x_iret rfl rfl ?_
                  show jX m_X11_line 6 0 0 93 [(6, .int v93), (0, .ref 31), (1, .int a1), (2, .int a2), (3, .int a3), (4, .int a4), (5, .int a5)] [.int (-6)] _ 0 0 _
                  refine x_iret rfl rfl ?_
                  exact hQ _ _ (jr_of jk_m6 (by omega)) J Sm _ _ (jmo w99 rfl (jmo w98 rfl qu91)) (jmo w99 rfl (jmo w98 rfl qu92)) (by omega)
              ·
                refine x_aloadn (x := 31) rfl rfl ?_
                refine x_bipush (v := (-5)) rfl kb_m5 ?_
                refine x_inv (N := m_X11_refuseTape) (As := [.int (-5)]) (b := 31) (st := []) (dx9 := 5) (mc := 0) (ms := 0) (host := "") 11 rfl t_X11_refuseTape ⟨Or.inl q_11_122, i_X11_refuseTape.1, i_X11_refuseTape.2⟩ ⟨by decide, rfl⟩ (congrArg Prod.fst (J.1.1 31 (11, 13) rfl)) rfl (by decide) rfl rfl ⟨by decide, by decide⟩ (jC.of rfl k_X11_refuseTape rfl ?_)
                show jX m_X11_refuseTape 5 0 0 0 [(0, .ref 31), (1, .int (-5))] [] _ 0 0 _
                refine x_aloadn (x := 31) rfl rfl ?_
                refine z_getR (N := 13) (b := 68) 11 2 rfl f_11_23 rfl J rfl 3970 ⟨rfl, rfl⟩ rfl ?_
                refine x_iconst (v := 0) rfl ki_0 ?_
                refine z_putI (N := 6) (w := 0) 9 1 rfl f_11_106 rfl (jfin_no TX9 RX9 6 rfl rfl) hD J Sm rfl rfl jk_0 (pw_68_1 (by omega)) rfl (fun h w100 J Sm => ?_)
                refine x_aloadn (x := 31) rfl rfl ?_
                refine x_iloadn (x := (-5)) rfl rfl ?_
                refine x_inv (N := m_X11_refuse) (As := [.int (-5)]) (b := 31) (st := []) (dx9 := 4) (mc := 0) (ms := 0) (host := "") 11 rfl t_X11_refuse ⟨Or.inl q_11_206, i_X11_refuse.1, i_X11_refuse.2⟩ ⟨by decide, rfl⟩ (congrArg Prod.fst (J.1.1 31 (11, 13) rfl)) rfl (by decide) rfl rfl ⟨by decide, by decide⟩ (jC.of rfl k_X11_refuse rfl ?_)
                show jX m_X11_refuse 4 0 0 0 [(0, .ref 31), (1, .int (-5))] [] _ 0 0 _
                refine x_aloadn (x := 31) rfl rfl ?_
                refine x_iloadn (x := (-5)) rfl rfl ?_
                refine z_putI (N := 13) (w := (-5)) 11 12 rfl f_11_94 rfl (jfin_no TX11 RX11 13 rfl rfl) hD J Sm rfl rfl jk_m5 (pw_31_12 (by omega)) rfl (fun h w101 J Sm => ?_)
                refine x_iloadn (x := (-5)) rfl rfl ?_
                refine x_iret rfl rfl ?_
                show jX m_X11_refuseTape 5 0 0 13 [(0, .ref 31), (1, .int (-5))] [.int (-5)] _ 0 0 _
                refine x_iret rfl rfl ?_
                show jX m_X11_line 6 0 0 66 [(0, .ref 31), (1, .int a1), (2, .int a2), (3, .int a3), (4, .int a4), (5, .int a5)] [.int (-5)] _ 0 0 _
                refine x_iret rfl rfl ?_
                exact hQ _ _ (jr_of jk_m5 (by omega)) J Sm _ _ (jmo w101 rfl (jmo w100 rfl (jmc S86 rfl zp0))) (jmo w101 rfl (jmo w100 rfl (jmc S86 rfl zp1))) (by omega)
def fp_X7_mentionOf_r78 : jFp := []
set_option maxRecDepth 100000 in
set_option maxHeartbeats 4000000 in
theorem ct_X7_mentionOf_r78_41 {Dy : jH → Prop} {h0 : jH} {Q : Option Value → jH → Prop} (hD : jDk Dy) (hQ : ∀ (v : Int32) hx9, (-1) ≤ v.toInt ∧ v.toInt ≤ 599 → jJ jSgX Dy hx9 → jSm fp_X7_mentionOf_r78 h0 hx9 → Q (some (.int v)) hx9) : ∀ (h : jH), jJ jSgX Dy h → jSm fp_X7_mentionOf_r78 h0 h → jX m_X7_mentionOf 1 0 0 41 [] [] h 0 0 Q := by
  intro  h    J Sm
  refine x_iconst (v := (-1)) rfl ki_m1 ?_
  refine x_iret rfl rfl ?_
  exact hQ _ _ (jr_of jk_m1 (by omega)) J Sm
set_option maxRecDepth 100000 in
set_option maxHeartbeats 4000000 in
theorem ct_X7_mentionOf_r78_5 {Dy : jH → Prop} {h0 : jH} {Q : Option Value → jH → Prop} (hD : jDk Dy) (hQ : ∀ (v : Int32) hx9, (-1) ≤ v.toInt ∧ v.toInt ≤ 599 → jJ jSgX Dy hx9 → jSm fp_X7_mentionOf_r78 h0 hx9 → Q (some (.int v)) hx9) : ∀ r : Nat, ∀ (l2 : Int32) (l3 : Int32) (l4 : Int32) (h : jH), 600 - l3.toInt < (r : Int) → 0 ≤ l3.toInt ∧ l3.toInt ≤ 600 → (-1) ≤ l4.toInt ∧ l4.toInt ≤ 599 → jJ jSgX Dy h → jSm fp_X7_mentionOf_r78 h0 h → jX m_X7_mentionOf 1 0 0 5 [(0, .ref 78), (2, .int l2), (3, .int l3), (4, .int l4)] [] h 0 0 Q := by
  intro r
  induction r with
  | zero =>
    intro l2 l3 l4 h hm y0 y1   J Sm
    exfalso
    have el2 := jfull l2
    omega
  | succ r ih =>
    intro l2 l3 l4 h hm y0 y1   J Sm
    have el2 := jfull l2
    refine x_iload (x := l4) rfl rfl ?_
    refine x_iconst (v := (-1)) rfl ki_m1 ?_
    refine x_iceq (tgt := 41) rfl rfl (ti_eq rfl jk_m1 ⟨fun c1 => ?_, fun c1 => ?_⟩)
    ·
      exact jX.sub jsb_n (ct_X7_mentionOf_r78_41 hD hQ  h J Sm)
    ·
      refine x_iloadn (x := l3) rfl rfl ?_
      refine x_sipush (v := 600) rfl ks_600 ?_
      refine x_icge (tgt := 41) rfl rfl (ti_ge rfl jk_600 ⟨fun c2 => ?_, fun c2 => ?_⟩)
      ·
        exact jX.sub jsb_n (ct_X7_mentionOf_r78_41 hD hQ  h J Sm)
      ·
        refine x_iloadn (x := l3) rfl rfl ?_
        refine x_iloadn (x := l2) rfl rfl ?_
        refine x_icne (tgt := 26) rfl rfl (ti_ne rfl rfl ⟨fun c3 => ?_, fun c3 => ?_⟩)
        ·
          refine z_iinc (x := l3) (lsx9 := fun v4 => [(3, .int v4), (0, .ref 78), (2, .int l2), (4, .int l4)]) rfl rfl rfl jko_1 (by omega) rfl (fun _ => rfl) (fun v4 ev4 => ?_)
          refine x_aloadn (x := 78) rfl rfl ?_
          refine z_getR (N := 16) (b := 83) 7 11 rfl f_7_40 rfl J rfl 9995 ⟨rfl, rfl⟩ rfl ?_
          refine x_iload (x := l4) rfl rfl ?_
          refine z_iald (N := 600) rfl J rfl sg_83_0_600_1_0_1 rfl (by omega) (fun v5 qv5 ev5 => ?_)
          refine x_istore (lsx9 := [(4, .int v5), (3, .int v4), (0, .ref 78), (2, .int l2)]) rfl rfl rfl ?_
          refine x_goto (tgt := 5) rfl rfl ?_
          exact jX.sub (jsb_c rfl (jsb_c rfl (jsb_c rfl (jsb_c rfl jsb_n)))) (ih l2 v4 v5 h (by omega) (jr_of rfl (by omega)) (jr_of rfl (by omega)) J Sm)
        ·
          refine x_iload (x := l4) rfl rfl ?_
          refine x_iret rfl rfl ?_
          exact hQ _ _ (jr_of rfl (by omega)) J Sm
set_option maxRecDepth 100000 in
set_option maxHeartbeats 4000000 in
theorem sf_X7_mentionOf_r78 {Dy : jH → Prop} {h : jH} {Q : Option Value → jH → Prop} {a1 : Int32} {a2 : Int32} (y1 : 0 ≤ a1.toInt ∧ a1.toInt ≤ 599) (hD : jDk Dy) (J : jJ jSgX Dy h) (hQ : ∀ (v : Int32) hx9, (-1) ≤ v.toInt ∧ v.toInt ≤ 599 → jJ jSgX Dy hx9 → jSm fp_X7_mentionOf_r78 h hx9 → Q (some (.int v)) hx9) : jC m_X7_mentionOf 1 0 0 [.ref 78, .int a1, .int a2] h Q := by
  refine jC.of rfl k_X7_mentionOf rfl ?_
  have Sm := jSm_rf fp_X7_mentionOf_r78 h
  have ea2 := jfull a2
  show jX m_X7_mentionOf 1 0 0 0 [(0, .ref 78), (1, .int a1), (2, .int a2)] [] _ 0 0 _
  refine x_iconst (v := 0) rfl ki_0 ?_
  refine x_istoren (lsx9 := [(3, .int 0), (0, .ref 78), (1, .int a1), (2, .int a2)]) rfl rfl rfl ?_
  refine x_iloadn (x := a1) rfl rfl ?_
  refine x_istore (lsx9 := [(4, .int a1), (3, .int 0), (0, .ref 78), (1, .int a1), (2, .int a2)]) rfl rfl rfl ?_
  exact jX.sub (jsb_c rfl (jsb_c rfl (jsb_c rfl (jsb_c rfl jsb_n)))) (ct_X7_mentionOf_r78_5 hD hQ  601 a2 0 a1 h (by have := jk_0; omega) (jr_of jk_0 (by omega)) (jr_of rfl (by omega)) J Sm)
def fp_X7_sizeOf_r78 : jFp := []
set_option maxRecDepth 100000 in
set_option maxHeartbeats 4000000 in
theorem ct_X7_sizeOf_r78_29 {Dy : jH → Prop} {h0 : jH} {Q : Option Value → jH → Prop} (hD : jDk Dy) (hQ : ∀ (v : Int32) hx9, 0 ≤ v.toInt ∧ v.toInt ≤ 600 → jJ jSgX Dy hx9 → jSm fp_X7_sizeOf_r78 h0 hx9 → Q (some (.int v)) hx9) : ∀ (l2 : Int32) (h : jH), 0 ≤ l2.toInt ∧ l2.toInt ≤ 600 → jJ jSgX Dy h → jSm fp_X7_sizeOf_r78 h0 h → jX m_X7_sizeOf 1 0 0 29 [(2, .int l2)] [] h 0 0 Q := by
  intro l2 h y0   J Sm
  refine x_iloadn (x := l2) rfl rfl ?_
  refine x_iret rfl rfl ?_
  exact hQ _ _ (jr_of rfl (by omega)) J Sm
set_option maxRecDepth 100000 in
set_option maxHeartbeats 4000000 in
theorem ct_X7_sizeOf_r78_4 {Dy : jH → Prop} {h0 : jH} {Q : Option Value → jH → Prop} (hD : jDk Dy) (hQ : ∀ (v : Int32) hx9, 0 ≤ v.toInt ∧ v.toInt ≤ 600 → jJ jSgX Dy hx9 → jSm fp_X7_sizeOf_r78 h0 hx9 → Q (some (.int v)) hx9) : ∀ r : Nat, ∀ (l2 : Int32) (l3 : Int32) (h : jH), 600 - l2.toInt < (r : Int) → 0 ≤ l2.toInt ∧ l2.toInt ≤ 600 → (-1) ≤ l3.toInt ∧ l3.toInt ≤ 599 → jJ jSgX Dy h → jSm fp_X7_sizeOf_r78 h0 h → jX m_X7_sizeOf 1 0 0 4 [(0, .ref 78), (2, .int l2), (3, .int l3)] [] h 0 0 Q := by
  intro r
  induction r with
  | zero =>
    intro l2 l3 h hm y0 y1   J Sm
    exfalso
    omega
  | succ r ih =>
    intro l2 l3 h hm y0 y1   J Sm
    refine x_iloadn (x := l3) rfl rfl ?_
    refine x_iconst (v := (-1)) rfl ki_m1 ?_
    refine x_iceq (tgt := 29) rfl rfl (ti_eq rfl jk_m1 ⟨fun c1 => ?_, fun c1 => ?_⟩)
    ·
      exact jX.sub (jsb_c rfl jsb_n) (ct_X7_sizeOf_r78_29 hD hQ  l2 h (jr_of rfl (by omega)) J Sm)
    ·
      refine x_iloadn (x := l2) rfl rfl ?_
      refine x_sipush (v := 600) rfl ks_600 ?_
      refine x_icge (tgt := 29) rfl rfl (ti_ge rfl jk_600 ⟨fun c2 => ?_, fun c2 => ?_⟩)
      ·
        exact jX.sub (jsb_c rfl jsb_n) (ct_X7_sizeOf_r78_29 hD hQ  l2 h (jr_of rfl (by omega)) J Sm)
      ·
        refine z_iinc (x := l2) (lsx9 := fun v3 => [(2, .int v3), (0, .ref 78), (3, .int l3)]) rfl rfl rfl jko_1 (by omega) rfl (fun _ => rfl) (fun v3 ev3 => ?_)
        refine x_aloadn (x := 78) rfl rfl ?_
        refine z_getR (N := 16) (b := 83) 7 11 rfl f_7_40 rfl J rfl 9995 ⟨rfl, rfl⟩ rfl ?_
        refine x_iloadn (x := l3) rfl rfl ?_
        refine z_iald (N := 600) rfl J rfl sg_83_0_600_1_0_1 rfl (by omega) (fun v4 qv4 ev4 => ?_)
        refine x_istoren (lsx9 := [(3, .int v4), (2, .int v3), (0, .ref 78)]) rfl rfl rfl ?_
        refine x_goto (tgt := 4) rfl rfl ?_
        exact jX.sub (jsb_c rfl (jsb_c rfl (jsb_c rfl jsb_n))) (ih v3 v4 h (by omega) (jr_of rfl (by omega)) (jr_of rfl (by omega)) J Sm)
set_option maxRecDepth 100000 in
set_option maxHeartbeats 4000000 in
theorem sf_X7_sizeOf_r78 {Dy : jH → Prop} {h : jH} {Q : Option Value → jH → Prop} {a1 : Int32} (y1 : 0 ≤ a1.toInt ∧ a1.toInt ≤ 599) (hD : jDk Dy) (J : jJ jSgX Dy h) (hQ : ∀ (v : Int32) hx9, 0 ≤ v.toInt ∧ v.toInt ≤ 600 → jJ jSgX Dy hx9 → jSm fp_X7_sizeOf_r78 h hx9 → Q (some (.int v)) hx9) : jC m_X7_sizeOf 1 0 0 [.ref 78, .int a1] h Q := by
  refine jC.of rfl k_X7_sizeOf rfl ?_
  have Sm := jSm_rf fp_X7_sizeOf_r78 h
  show jX m_X7_sizeOf 1 0 0 0 [(0, .ref 78), (1, .int a1)] [] _ 0 0 _
  refine x_iconst (v := 0) rfl ki_0 ?_
  refine x_istoren (lsx9 := [(2, .int 0), (0, .ref 78), (1, .int a1)]) rfl rfl rfl ?_
  refine x_iloadn (x := a1) rfl rfl ?_
  refine x_istoren (lsx9 := [(3, .int a1), (2, .int 0), (0, .ref 78), (1, .int a1)]) rfl rfl rfl ?_
  exact jX.sub (jsb_c rfl (jsb_c rfl (jsb_c rfl jsb_n))) (ct_X7_sizeOf_r78_4 hD hQ  601 0 a1 h (by have := jk_0; omega) (jr_of jk_0 (by omega)) (jr_of rfl (by omega)) J Sm)
def fp_X11_mentions_r31 : jFp := [(78, 13, 14), (82, 0, 600), (83, 0, 600), (84, 0, 200), (86, 0, 3)]
set_option maxRecDepth 100000 in
set_option maxHeartbeats 4000000 in
theorem ct_X11_mentions_r31_100050 {Dy : jH → Prop} {h0 : jH} {Q : Option Value → jH → Prop} (hD : jDk Dy) (hQ : ∀ (v : Int32) hx9, (-1) ≤ v.toInt ∧ v.toInt ≤ 600 → jJ jSgX Dy hx9 → jSm fp_X11_mentions_r31 h0 hx9 → Q (some (.int v)) hx9) : ∀ (h : jH), jJ jSgX Dy h → jSm fp_X11_mentions_r31 h0 h → jX m_X11_mentions 8 0 0 50 [] [.int (-1)] h 0 0 Q := by
  intro  h    J Sm
  refine x_iret rfl rfl ?_
  exact hQ _ _ (jr_of jk_m1 (by omega)) J Sm
set_option maxRecDepth 100000 in
set_option maxHeartbeats 4000000 in
theorem ct_X11_mentions_r31_50 {Dy : jH → Prop} {h0 : jH} {Q : Option Value → jH → Prop} (hD : jDk Dy) (hQ : ∀ (v : Int32) hx9, (-1) ≤ v.toInt ∧ v.toInt ≤ 600 → jJ jSgX Dy hx9 → jSm fp_X11_mentions_r31 h0 hx9 → Q (some (.int v)) hx9) : ∀ (s0 : Int32) (h : jH), (-1) ≤ s0.toInt ∧ s0.toInt ≤ 599 → jJ jSgX Dy h → jSm fp_X11_mentions_r31 h0 h → jX m_X11_mentions 8 0 0 50 [] [.int s0] h 0 0 Q := by
  intro s0 h y0   J Sm
  refine x_iret rfl rfl ?_
  exact hQ _ _ (jr_of rfl (by omega)) J Sm
set_option maxRecDepth 100000 in
set_option maxHeartbeats 4000000 in
theorem sf_X11_mentions_r31 {Dy : jH → Prop} {h : jH} {Q : Option Value → jH → Prop} {a1 : Int32} {a2 : Int32} {a3 : Int32} {a4 : Int32} (hD : jDk Dy) (J : jJ jSgX Dy h) (hQ : ∀ (v : Int32) hx9, (-1) ≤ v.toInt ∧ v.toInt ≤ 600 → jJ jSgX Dy hx9 → jSm fp_X11_mentions_r31 h hx9 → Q (some (.int v)) hx9) : jC m_X11_mentions 8 0 0 [.ref 31, .int a1, .int a2, .int a3, .int a4] h Q := by
  refine jC.of rfl k_X11_mentions rfl ?_
  have Sm := jSm_rf fp_X11_mentions_r31 h
  have ea1 := jfull a1
  have ea2 := jfull a2
  have ea3 := jfull a3
  have ea4 := jfull a4
  show jX m_X11_mentions 8 0 0 0 [(0, .ref 31), (1, .int a1), (2, .int a2), (3, .int a3), (4, .int a4)] [] _ 0 0 _
  refine x_aloadn (x := 31) rfl rfl ?_
  refine x_iloadn (x := a1) rfl rfl ?_
  refine x_iloadn (x := a2) rfl rfl ?_
  refine x_inv (N := m_X11_soulOn) (As := [.int a1, .int a2]) (b := 31) (st := []) (dx9 := 7) (mc := 0) (ms := 0) (host := "") 11 rfl t_X11_soulOn ⟨Or.inl q_11_234, i_X11_soulOn.1, i_X11_soulOn.2⟩ ⟨by decide, rfl⟩ (congrArg Prod.fst (J.1.1 31 (11, 13) rfl)) rfl (by decide) rfl rfl ⟨by decide, by decide⟩ (jC.of rfl k_X11_soulOn rfl ?_)
  show jX m_X11_soulOn 7 0 0 0 [(0, .ref 31), (1, .int a1), (2, .int a2)] [] _ 0 0 _
  refine x_iloadn (x := a2) rfl rfl ?_
  refine x_inst (N := m_X11_isDay) (As := [.int a2]) (st := []) (dx9 := 1) (mc := 0) (ms := 0) (host := "") rfl t_X11_isDay ⟨Or.inl q_11_115, s_X11_isDay⟩ rfl (by decide) rfl rfl ⟨by decide, by decide⟩ (zc_X11_isDay rfl (fun v1 ev1 => ?_))
  show jX m_X11_soulOn 7 0 0 4 [(0, .ref 31), (1, .int a1), (2, .int a2)] [.int v1] _ 0 0 _
  refine x_ifeq (tgt := 18) rfl rfl (ti_eq rfl jk_0 ⟨fun c2 => ?_, fun c2 => ?_⟩)
  ·
    refine x_iconst (v := (-1)) rfl ki_m1 ?_
    refine x_iret rfl rfl ?_
    show jX m_X11_mentions 8 0 0 6 [(0, .ref 31), (1, .int a1), (2, .int a2), (3, .int a3), (4, .int a4)] [.int (-1)] _ 0 0 _
    refine x_istore (lsx9 := [(5, .int (-1)), (0, .ref 31), (1, .int a1), (2, .int a2), (3, .int a3), (4, .int a4)]) rfl rfl rfl ?_
    refine x_iload (x := (-1)) rfl rfl ?_
    refine x_iconst (v := (-1)) rfl ki_m1 ?_
    refine x_icne (tgt := 16) rfl rfl (ti_ne jk_m1 jk_m1 (bn_f (by omega) ?_))
    refine x_iconst (v := (-1)) rfl ki_m1 ?_
    refine x_iret rfl rfl ?_
    exact hQ _ _ (jr_of jk_m1 (by omega)) J Sm
  ·
    refine x_aloadn (x := 31) rfl rfl ?_
    refine z_getR (N := 13) (b := 78) 11 4 rfl f_11_41 rfl J rfl 3972 ⟨rfl, rfl⟩ rfl ?_
    refine x_iloadn (x := a1) rfl rfl ?_
    refine x_inv (N := m_X7_isMention) (As := [.int a1]) (b := 78) (st := []) (dx9 := 6) (mc := 0) (ms := 0) (host := "") 7 rfl t_X7_isMention ⟨Or.inl q_11_187, i_X7_isMention.1, i_X7_isMention.2⟩ ⟨by decide, rfl⟩ (congrArg Prod.fst (J.1.1 78 (7, 16) rfl)) rfl (by decide) rfl rfl ⟨by decide, by decide⟩ (jC.of rfl k_X7_isMention rfl ?_)
    show jX m_X7_isMention 6 0 0 0 [(0, .ref 78), (1, .int a1)] [] _ 0 0 _
    refine x_iloadn (x := a1) rfl rfl ?_
    refine x_iflt (tgt := 41) rfl rfl (ti_lt rfl jk_0 ⟨fun c3 => ?_, fun c3 => ?_⟩)
    ·
      refine x_iconst (v := 0) rfl ki_0 ?_
      refine x_zret rfl rfl (by decide) ?_
      show jX m_X11_soulOn 7 0 0 15 [(0, .ref 31), (1, .int a1), (2, .int a2)] [.int 0] _ 0 0 _
      refine x_ifne (tgt := 20) rfl rfl (ti_ne jk_0 jk_0 (bn_f (by omega) ?_))
      refine x_iconst (v := (-1)) rfl ki_m1 ?_
      refine x_iret rfl rfl ?_
      show jX m_X11_mentions 8 0 0 6 [(0, .ref 31), (1, .int a1), (2, .int a2), (3, .int a3), (4, .int a4)] [.int (-1)] _ 0 0 _
      refine x_istore (lsx9 := [(5, .int (-1)), (0, .ref 31), (1, .int a1), (2, .int a2), (3, .int a3), (4, .int a4)]) rfl rfl rfl ?_
      refine x_iload (x := (-1)) rfl rfl ?_
      refine x_iconst (v := (-1)) rfl ki_m1 ?_
      refine x_icne (tgt := 16) rfl rfl (ti_ne jk_m1 jk_m1 (bn_f (by omega) ?_))
      refine x_iconst (v := (-1)) rfl ki_m1 ?_
      refine x_iret rfl rfl ?_
      exact hQ _ _ (jr_of jk_m1 (by omega)) J Sm
    ·
      refine x_iloadn (x := a1) rfl rfl ?_
      refine x_sipush (v := 600) rfl ks_600 ?_
      refine x_icge (tgt := 41) rfl rfl (ti_ge rfl jk_600 ⟨fun c4 => ?_, fun c4 => ?_⟩)
      ·
        refine x_iconst (v := 0) rfl ki_0 ?_
        refine x_zret rfl rfl (by decide) ?_
        show jX m_X11_soulOn 7 0 0 15 [(0, .ref 31), (1, .int a1), (2, .int a2)] [.int 0] _ 0 0 _
        refine x_ifne (tgt := 20) rfl rfl (ti_ne jk_0 jk_0 (bn_f (by omega) ?_))
        refine x_iconst (v := (-1)) rfl ki_m1 ?_
        refine x_iret rfl rfl ?_
        show jX m_X11_mentions 8 0 0 6 [(0, .ref 31), (1, .int a1), (2, .int a2), (3, .int a3), (4, .int a4)] [.int (-1)] _ 0 0 _
        refine x_istore (lsx9 := [(5, .int (-1)), (0, .ref 31), (1, .int a1), (2, .int a2), (3, .int a3), (4, .int a4)]) rfl rfl rfl ?_
        refine x_iload (x := (-1)) rfl rfl ?_
        refine x_iconst (v := (-1)) rfl ki_m1 ?_
        refine x_icne (tgt := 16) rfl rfl (ti_ne jk_m1 jk_m1 (bn_f (by omega) ?_))
        refine x_iconst (v := (-1)) rfl ki_m1 ?_
        refine x_iret rfl rfl ?_
        exact hQ _ _ (jr_of jk_m1 (by omega)) J Sm
      ·
        refine x_iloadn (x := a1) rfl rfl ?_
        refine x_iconst (v := 3) rfl ki_3 ?_
        refine z_idiv rfl rfl jk_3 (by omega) (by omega) (fun v5 ev5 => ?_)
        refine x_aloadn (x := 78) rfl rfl ?_
        refine z_getR (N := 16) (b := 32) 7 0 rfl f_7_55 rfl J rfl 9984 ⟨rfl, rfl⟩ rfl ?_
        refine z_getR (N := 20) (b := 33) 1 0 rfl f_7_63 rfl J rfl 4096 ⟨rfl, rfl⟩ rfl ?_
        refine z_getI (N := 4) 8 3 rfl f_7_85 rfl J rfl sg_33_3_4_1_0_1 (fun v6 qv6 ev6 => ?_)
        refine x_icge (tgt := 41) rfl rfl (ti_ge rfl rfl ⟨fun c7 => ?_, fun c7 => ?_⟩)
        ·
          refine x_iconst (v := 0) rfl ki_0 ?_
          refine x_zret rfl rfl (by decide) ?_
          show jX m_X11_soulOn 7 0 0 15 [(0, .ref 31), (1, .int a1), (2, .int a2)] [.int 0] _ 0 0 _
          refine x_ifne (tgt := 20) rfl rfl (ti_ne jk_0 jk_0 (bn_f (by omega) ?_))
          refine x_iconst (v := (-1)) rfl ki_m1 ?_
          refine x_iret rfl rfl ?_
          show jX m_X11_mentions 8 0 0 6 [(0, .ref 31), (1, .int a1), (2, .int a2), (3, .int a3), (4, .int a4)] [.int (-1)] _ 0 0 _
          refine x_istore (lsx9 := [(5, .int (-1)), (0, .ref 31), (1, .int a1), (2, .int a2), (3, .int a3), (4, .int a4)]) rfl rfl rfl ?_
          refine x_iload (x := (-1)) rfl rfl ?_
          refine x_iconst (v := (-1)) rfl ki_m1 ?_
          refine x_icne (tgt := 16) rfl rfl (ti_ne jk_m1 jk_m1 (bn_f (by omega) ?_))
          refine x_iconst (v := (-1)) rfl ki_m1 ?_
          refine x_iret rfl rfl ?_
          exact hQ _ _ (jr_of jk_m1 (by omega)) J Sm
        ·
          refine x_aloadn (x := 78) rfl rfl ?_
          refine z_getR (N := 16) (b := 79) 7 7 rfl f_7_27 rfl J rfl 9991 ⟨rfl, rfl⟩ rfl ?_
          refine x_iloadn (x := a1) rfl rfl ?_
          refine z_iald (N := 600) rfl J rfl sg_79_0_600_1_0_1 rfl (by omega) (fun v8 qv8 ev8 => ?_)
          refine x_iconst (v := (-1)) rfl ki_m1 ?_
          refine x_iceq (tgt := 41) rfl rfl (ti_eq rfl jk_m1 ⟨fun c9 => ?_, fun c9 => ?_⟩)
          ·
            refine x_iconst (v := 0) rfl ki_0 ?_
            refine x_zret rfl rfl (by decide) ?_
            show jX m_X11_soulOn 7 0 0 15 [(0, .ref 31), (1, .int a1), (2, .int a2)] [.int 0] _ 0 0 _
            refine x_ifne (tgt := 20) rfl rfl (ti_ne jk_0 jk_0 (bn_f (by omega) ?_))
            refine x_iconst (v := (-1)) rfl ki_m1 ?_
            refine x_iret rfl rfl ?_
            show jX m_X11_mentions 8 0 0 6 [(0, .ref 31), (1, .int a1), (2, .int a2), (3, .int a3), (4, .int a4)] [.int (-1)] _ 0 0 _
            refine x_istore (lsx9 := [(5, .int (-1)), (0, .ref 31), (1, .int a1), (2, .int a2), (3, .int a3), (4, .int a4)]) rfl rfl rfl ?_
            refine x_iload (x := (-1)) rfl rfl ?_
            refine x_iconst (v := (-1)) rfl ki_m1 ?_
            refine x_icne (tgt := 16) rfl rfl (ti_ne jk_m1 jk_m1 (bn_f (by omega) ?_))
            refine x_iconst (v := (-1)) rfl ki_m1 ?_
            refine x_iret rfl rfl ?_
            exact hQ _ _ (jr_of jk_m1 (by omega)) J Sm
          ·
            refine x_iconst (v := 1) rfl ki_1 ?_
            refine x_goto (tgt := 42) rfl rfl ?_
            refine x_zret rfl rfl (by decide) ?_
            show jX m_X11_soulOn 7 0 0 15 [(0, .ref 31), (1, .int a1), (2, .int a2)] [.int 1] _ 0 0 _
            refine x_ifne (tgt := 20) rfl rfl (ti_ne jk_1 jk_0 (bn_t (by omega) ?_))
            refine x_aloadn (x := 31) rfl rfl ?_
            refine z_getR (N := 13) (b := 78) 11 4 rfl f_11_41 rfl J rfl 3972 ⟨rfl, rfl⟩ rfl ?_
            refine x_iloadn (x := a2) rfl rfl ?_
            refine x_inv (N := m_X7_asKnown) (As := [.int a2]) (b := 78) (st := []) (dx9 := 6) (mc := 0) (ms := 0) (host := "") 7 rfl t_X7_asKnown ⟨Or.inl q_11_240, i_X7_asKnown.1, i_X7_asKnown.2⟩ ⟨by decide, rfl⟩ (congrArg Prod.fst (J.1.1 78 (7, 16) rfl)) rfl (by decide) rfl rfl ⟨by decide, by decide⟩ (sf_X7_asKnown_r78 (jr_of rfl (by omega)) hD J  (fun h J S10 => ?_))
            have Sm := jSm_tr rfl Sm S10
            show jX m_X11_soulOn 7 0 0 28 [(0, .ref 31), (1, .int a1), (2, .int a2)] [] _ 0 0 _
            refine x_aloadn (x := 31) rfl rfl ?_
            refine z_getR (N := 13) (b := 78) 11 4 rfl f_11_41 rfl J rfl 3972 ⟨rfl, rfl⟩ rfl ?_
            refine z_getR (N := 16) (b := 82) 7 10 rfl f_11_537 rfl J rfl 9994 ⟨rfl, rfl⟩ rfl ?_
            refine x_iloadn (x := a1) rfl rfl ?_
            refine z_iald (N := 600) rfl J rfl sg_82_0_600_1_0_1 rfl (by omega) (fun v11 qv11 ev11 => ?_)
            refine x_iret rfl rfl ?_
            show jX m_X11_mentions 8 0 0 6 [(0, .ref 31), (1, .int a1), (2, .int a2), (3, .int a3), (4, .int a4)] [.int v11] _ 0 0 _
            refine x_istore (lsx9 := [(5, .int v11), (0, .ref 31), (1, .int a1), (2, .int a2), (3, .int a3), (4, .int a4)]) rfl rfl rfl ?_
            refine x_iload (x := v11) rfl rfl ?_
            refine x_iconst (v := (-1)) rfl ki_m1 ?_
            refine x_icne (tgt := 16) rfl rfl (ti_ne rfl jk_m1 ⟨fun c12 => ?_, fun c12 => ?_⟩)
            ·
              refine x_iloadn (x := a3) rfl rfl ?_
              refine x_ifne (tgt := 30) rfl rfl (ti_ne rfl jk_0 ⟨fun c13 => ?_, fun c13 => ?_⟩)
              ·
                refine x_iloadn (x := a3) rfl rfl ?_
                refine x_iconst (v := 1) rfl ki_1 ?_
                refine x_icne (tgt := 49) rfl rfl (ti_ne rfl jk_1 ⟨fun c14 => ?_, fun c14 => ?_⟩)
                ·
                  refine x_iconst (v := (-1)) rfl ki_m1 ?_
                  exact jX.sub jsb_n (ct_X11_mentions_r31_100050 hD hQ  h J Sm)
                ·
                  refine x_aloadn (x := 31) rfl rfl ?_
                  refine z_getR (N := 13) (b := 78) 11 4 rfl f_11_41 rfl J rfl 3972 ⟨rfl, rfl⟩ rfl ?_
                  refine x_iload (x := v11) rfl rfl ?_
                  refine x_iload (x := a4) rfl rfl ?_
                  refine x_inv (N := m_X7_mentionOf) (As := [.int v11, .int a4]) (b := 78) (st := []) (dx9 := 1) (mc := 0) (ms := 0) (host := "") 7 rfl t_X7_mentionOf ⟨Or.inl q_11_252, i_X7_mentionOf.1, i_X7_mentionOf.2⟩ ⟨by decide, rfl⟩ (congrArg Prod.fst (J.1.1 78 (7, 16) rfl)) rfl (by decide) rfl rfl ⟨by decide, by decide⟩ (sf_X7_mentionOf_r78 (jr_of rfl (by omega)) hD J  (fun v16 h ev16 J S15 => ?_))
                  have Sm := jSm_tr rfl Sm S15
                  show jX m_X11_mentions 8 0 0 46 [(5, .int v11), (0, .ref 31), (1, .int a1), (2, .int a2), (3, .int a3), (4, .int a4)] [.int v16] _ 0 0 _
                  refine x_goto (tgt := 50) rfl rfl ?_
                  exact jX.sub jsb_n (ct_X11_mentions_r31_50 hD hQ  v16 h (jr_of rfl (by omega)) J Sm)
              ·
                refine x_aloadn (x := 31) rfl rfl ?_
                refine z_getR (N := 13) (b := 78) 11 4 rfl f_11_41 rfl J rfl 3972 ⟨rfl, rfl⟩ rfl ?_
                refine x_iload (x := v11) rfl rfl ?_
                refine x_inv (N := m_X7_sizeOf) (As := [.int v11]) (b := 78) (st := []) (dx9 := 1) (mc := 0) (ms := 0) (host := "") 7 rfl t_X7_sizeOf ⟨Or.inl q_11_249, i_X7_sizeOf.1, i_X7_sizeOf.2⟩ ⟨by decide, rfl⟩ (congrArg Prod.fst (J.1.1 78 (7, 16) rfl)) rfl (by decide) rfl rfl ⟨by decide, by decide⟩ (sf_X7_sizeOf_r78 (jr_of rfl (by omega)) hD J  (fun v18 h ev18 J S17 => ?_))
                have Sm := jSm_tr rfl Sm S17
                show jX m_X11_mentions 8 0 0 29 [(5, .int v11), (0, .ref 31), (1, .int a1), (2, .int a2), (3, .int a3), (4, .int a4)] [.int v18] _ 0 0 _
                refine x_iret rfl rfl ?_
                exact hQ _ _ (jr_of rfl (by omega)) J Sm
            ·
              refine x_iconst (v := (-1)) rfl ki_m1 ?_
              refine x_iret rfl rfl ?_
              exact hQ _ _ (jr_of jk_m1 (by omega)) J Sm
def fp_X11_name_r31 : jFp := []
set_option maxRecDepth 100000 in
set_option maxHeartbeats 4000000 in
theorem ct_X11_name_r31_25 {Dy : jH → Prop} {h0 : jH} {Q : Option Value → jH → Prop} (hD : jDk Dy) (hQ : ∀ (v : Int32) hx9, jJ jSgX Dy hx9 → jSm fp_X11_name_r31 h0 hx9 → Q (some (.int v)) hx9) : ∀ (h : jH), jJ jSgX Dy h → jSm fp_X11_name_r31 h0 h → jX m_X11_name 2 0 0 25 [] [] h 0 0 Q := by
  intro  h    J Sm
  refine x_iconst (v := (-1)) rfl ki_m1 ?_
  refine x_iret rfl rfl ?_
  exact hQ _ _ J Sm
set_option maxRecDepth 100000 in
set_option maxHeartbeats 4000000 in
theorem ct_X11_name_r31_100070 {Dy : jH → Prop} {h0 : jH} {Q : Option Value → jH → Prop} (hD : jDk Dy) (hQ : ∀ (v : Int32) hx9, jJ jSgX Dy hx9 → jSm fp_X11_name_r31 h0 hx9 → Q (some (.int v)) hx9) : ∀ (h : jH), jJ jSgX Dy h → jSm fp_X11_name_r31 h0 h → jX m_X11_name 2 0 0 70 [] [.int (-1)] h 0 0 Q := by
  intro  h    J Sm
  refine x_iret rfl rfl ?_
  exact hQ _ _ J Sm
set_option maxRecDepth 100000 in
set_option maxHeartbeats 4000000 in
theorem ct_X11_name_r31_70 {Dy : jH → Prop} {h0 : jH} {Q : Option Value → jH → Prop} (hD : jDk Dy) (hQ : ∀ (v : Int32) hx9, jJ jSgX Dy hx9 → jSm fp_X11_name_r31 h0 hx9 → Q (some (.int v)) hx9) : ∀ (s0 : Int32) (h : jH), jJ jSgX Dy h → jSm fp_X11_name_r31 h0 h → jX m_X11_name 2 0 0 70 [] [.int s0] h 0 0 Q := by
  intro s0 h    J Sm
  have es0 := jfull s0
  refine x_iret rfl rfl ?_
  exact hQ _ _ J Sm
set_option maxRecDepth 100000 in
set_option maxHeartbeats 4000000 in
theorem sf_X11_name_r31 {Dy : jH → Prop} {h : jH} {Q : Option Value → jH → Prop} {a1 : Int32} {a2 : Int32} {a3 : Int32} (hD : jDk Dy) (J : jJ jSgX Dy h) (hQ : ∀ (v : Int32) hx9, jJ jSgX Dy hx9 → jSm fp_X11_name_r31 h hx9 → Q (some (.int v)) hx9) : jC m_X11_name 2 0 0 [.ref 31, .int a1, .int a2, .int a3] h Q := by
  refine jC.of rfl k_X11_name rfl ?_
  have Sm := jSm_rf fp_X11_name_r31 h
  have ea1 := jfull a1
  have ea2 := jfull a2
  have ea3 := jfull a3
  show jX m_X11_name 2 0 0 0 [(0, .ref 31), (1, .int a1), (2, .int a2), (3, .int a3)] [] _ 0 0 _
  refine x_aloadn (x := 31) rfl rfl ?_
  refine z_getR (N := 13) (b := 78) 11 4 rfl f_11_41 rfl J rfl 3972 ⟨rfl, rfl⟩ rfl ?_
  refine x_iloadn (x := a1) rfl rfl ?_
  refine x_inv (N := m_X7_isMention) (As := [.int a1]) (b := 78) (st := []) (dx9 := 1) (mc := 0) (ms := 0) (host := "") 7 rfl t_X7_isMention ⟨Or.inl q_11_187, i_X7_isMention.1, i_X7_isMention.2⟩ ⟨by decide, rfl⟩ (congrArg Prod.fst (J.1.1 78 (7, 16) rfl)) rfl (by decide) rfl rfl ⟨by decide, by decide⟩ (jC.of rfl k_X7_isMention rfl ?_)
  show jX m_X7_isMention 1 0 0 0 [(0, .ref 78), (1, .int a1)] [] _ 0 0 _
  refine x_iloadn (x := a1) rfl rfl ?_
  refine x_iflt (tgt := 41) rfl rfl (ti_lt rfl jk_0 ⟨fun c1 => ?_, fun c1 => ?_⟩)
  ·
    refine x_iconst (v := 0) rfl ki_0 ?_
    refine x_zret rfl rfl (by decide) ?_
    show jX m_X11_name 2 0 0 8 [(0, .ref 31), (1, .int a1), (2, .int a2), (3, .int a3)] [.int 0] _ 0 0 _
    refine x_ifeq (tgt := 25) rfl rfl (ti_eq jk_0 jk_0 (br_t (by omega) ?_))
    exact jX.sub jsb_n (ct_X11_name_r31_25 hD hQ  h J Sm)
  ·
    refine x_iloadn (x := a1) rfl rfl ?_
    refine x_sipush (v := 600) rfl ks_600 ?_
    refine x_icge (tgt := 41) rfl rfl (ti_ge rfl jk_600 ⟨fun c2 => ?_, fun c2 => ?_⟩)
    ·
      refine x_iconst (v := 0) rfl ki_0 ?_
      refine x_zret rfl rfl (by decide) ?_
      show jX m_X11_name 2 0 0 8 [(0, .ref 31), (1, .int a1), (2, .int a2), (3, .int a3)] [.int 0] _ 0 0 _
      refine x_ifeq (tgt := 25) rfl rfl (ti_eq jk_0 jk_0 (br_t (by omega) ?_))
      exact jX.sub jsb_n (ct_X11_name_r31_25 hD hQ  h J Sm)
    ·
      refine x_iloadn (x := a1) rfl rfl ?_
      refine x_iconst (v := 3) rfl ki_3 ?_
      refine z_idiv rfl rfl jk_3 (by omega) (by omega) (fun v3 ev3 => ?_)
      refine x_aloadn (x := 78) rfl rfl ?_
      refine z_getR (N := 16) (b := 32) 7 0 rfl f_7_55 rfl J rfl 9984 ⟨rfl, rfl⟩ rfl ?_
      refine z_getR (N := 20) (b := 33) 1 0 rfl f_7_63 rfl J rfl 4096 ⟨rfl, rfl⟩ rfl ?_
      refine z_getI (N := 4) 8 3 rfl f_7_85 rfl J rfl sg_33_3_4_1_0_1 (fun v4 qv4 ev4 => ?_)
      refine x_icge (tgt := 41) rfl rfl (ti_ge rfl rfl ⟨fun c5 => ?_, fun c5 => ?_⟩)
      ·
        refine x_iconst (v := 0) rfl ki_0 ?_
        refine x_zret rfl rfl (by decide) ?_
        show jX m_X11_name 2 0 0 8 [(0, .ref 31), (1, .int a1), (2, .int a2), (3, .int a3)] [.int 0] _ 0 0 _
        refine x_ifeq (tgt := 25) rfl rfl (ti_eq jk_0 jk_0 (br_t (by omega) ?_))
        exact jX.sub jsb_n (ct_X11_name_r31_25 hD hQ  h J Sm)
      ·
        refine x_aloadn (x := 78) rfl rfl ?_
        refine z_getR (N := 16) (b := 79) 7 7 rfl f_7_27 rfl J rfl 9991 ⟨rfl, rfl⟩ rfl ?_
        refine x_iloadn (x := a1) rfl rfl ?_
        refine z_iald (N := 600) rfl J rfl sg_79_0_600_1_0_1 rfl (by omega) (fun v6 qv6 ev6 => ?_)
        refine x_iconst (v := (-1)) rfl ki_m1 ?_
        refine x_iceq (tgt := 41) rfl rfl (ti_eq rfl jk_m1 ⟨fun c7 => ?_, fun c7 => ?_⟩)
        ·
          refine x_iconst (v := 0) rfl ki_0 ?_
          refine x_zret rfl rfl (by decide) ?_
          show jX m_X11_name 2 0 0 8 [(0, .ref 31), (1, .int a1), (2, .int a2), (3, .int a3)] [.int 0] _ 0 0 _
          refine x_ifeq (tgt := 25) rfl rfl (ti_eq jk_0 jk_0 (br_t (by omega) ?_))
          exact jX.sub jsb_n (ct_X11_name_r31_25 hD hQ  h J Sm)
        ·
          refine x_iconst (v := 1) rfl ki_1 ?_
          refine x_goto (tgt := 42) rfl rfl ?_
          refine x_zret rfl rfl (by decide) ?_
          show jX m_X11_name 2 0 0 8 [(0, .ref 31), (1, .int a1), (2, .int a2), (3, .int a3)] [.int 1] _ 0 0 _
          refine x_ifeq (tgt := 25) rfl rfl (ti_eq jk_1 jk_0 (br_f (by omega) ?_))
          refine x_iloadn (x := a2) rfl rfl ?_
          refine x_iflt (tgt := 25) rfl rfl (ti_lt rfl jk_0 ⟨fun c8 => ?_, fun c8 => ?_⟩)
          ·
            exact jX.sub jsb_n (ct_X11_name_r31_25 hD hQ  h J Sm)
          ·
            refine x_iloadn (x := a2) rfl rfl ?_
            refine x_iconst (v := 1) rfl ki_1 ?_
            refine x_icgt (tgt := 25) rfl rfl (ti_gt rfl jk_1 ⟨fun c9 => ?_, fun c9 => ?_⟩)
            ·
              exact jX.sub jsb_n (ct_X11_name_r31_25 hD hQ  h J Sm)
            ·
              refine x_iloadn (x := a3) rfl rfl ?_
              refine x_iconst (v := (-1)) rfl ki_m1 ?_
              refine x_icge (tgt := 27) rfl rfl (ti_ge rfl jk_m1 ⟨fun c10 => ?_, fun c10 => ?_⟩)
              ·
                refine x_iconst (v := 0) rfl ki_0 ?_
                refine x_aloadn (x := 31) rfl rfl ?_
                refine z_getR (N := 13) (b := 70) 11 3 rfl f_11_32 rfl J rfl 3971 ⟨rfl, rfl⟩ rfl ?_
                refine x_iloadn (x := a1) rfl rfl ?_
                refine x_iloadn (x := a2) rfl rfl ?_
                refine x_inv (N := m_X5_lengthOf) (As := [.int a1, .int a2]) (b := 70) (st := [.int 0]) (dx9 := 1) (mc := 0) (ms := 0) (host := "") 5 rfl t_X5_lengthOf ⟨Or.inl q_11_190, i_X5_lengthOf.1, i_X5_lengthOf.2⟩ ⟨by decide, rfl⟩ (congrArg Prod.fst (J.1.1 70 (5, 9) rfl)) rfl (by decide) rfl rfl ⟨by decide, by decide⟩ (jC.of rfl k_X5_lengthOf rfl ?_)
                show jX m_X5_lengthOf 1 0 0 0 [(0, .ref 70), (1, .int a1), (2, .int a2)] [] _ 0 0 _
                refine x_iloadn (x := a1) rfl rfl ?_
                refine x_iconst (v := 2) rfl ki_2 ?_
                refine z_imul rfl rfl jk_2 (by omega) (fun v11 ev11 => ?_)
                refine x_iloadn (x := a2) rfl rfl ?_
                refine z_iadd rfl rfl rfl (by omega) (fun v12 ev12 => ?_)
                refine x_istoren (lsx9 := [(3, .int v12), (0, .ref 70), (1, .int a1), (2, .int a2)]) rfl rfl rfl ?_
                refine x_iloadn (x := v12) rfl rfl ?_
                refine x_iflt (tgt := 26) rfl rfl (ti_lt rfl jk_0 (br_f (by omega) ?_))
                refine x_iloadn (x := v12) rfl rfl ?_
                refine x_sipush (v := 1200) rfl ks_1200 ?_
                refine x_icge (tgt := 26) rfl rfl (ti_ge rfl jk_1200 (br_f (by omega) ?_))
                refine x_aloadn (x := 70) rfl rfl ?_
                refine z_getR (N := 9) (b := 76) 5 7 rfl f_5_28 rfl J rfl 8967 ⟨rfl, rfl⟩ rfl ?_
                refine x_iloadn (x := v12) rfl rfl ?_
                refine z_iald (N := 1200) rfl J rfl sg_76_0_1200_1_0_1 rfl (by omega) (fun v13 qv13 ev13 => ?_)
                refine x_goto (tgt := 27) rfl rfl ?_
                refine x_iret rfl rfl ?_
                show jX m_X11_name 2 0 0 37 [(0, .ref 31), (1, .int a1), (2, .int a2), (3, .int a3)] [.int v13, .int 0] _ 0 0 _
                refine z_mmax rfl q_11_193 (by decide) rfl jk_0 rfl (fun v14 ev14 => ?_)
                refine x_istore (lsx9 := [(4, .int v14), (0, .ref 31), (1, .int a1), (2, .int a2), (3, .int a3)]) rfl rfl rfl ?_
                refine x_iloadn (x := a3) rfl rfl ?_
                refine x_iconst (v := (-1)) rfl ki_m1 ?_
                refine x_icne (tgt := 50) rfl rfl (ti_ne rfl jk_m1 ⟨fun c15 => ?_, fun c15 => ?_⟩)
                ·
                  refine x_iloadn (x := a3) rfl rfl ?_
                  refine x_iload (x := v14) rfl rfl ?_
                  refine x_icge (tgt := 69) rfl rfl (ti_ge rfl rfl ⟨fun c16 => ?_, fun c16 => ?_⟩)
                  ·
                    refine x_iconst (v := (-1)) rfl ki_m1 ?_
                    exact jX.sub jsb_n (ct_X11_name_r31_100070 hD hQ  h J Sm)
                  ·
                    refine x_aloadn (x := 31) rfl rfl ?_
                    refine z_getR (N := 13) (b := 70) 11 3 rfl f_11_32 rfl J rfl 3971 ⟨rfl, rfl⟩ rfl ?_
                    refine x_iloadn (x := a1) rfl rfl ?_
                    refine x_iloadn (x := a2) rfl rfl ?_
                    refine x_iloadn (x := a3) rfl rfl ?_
                    refine x_inv (N := m_X5_letterOf) (As := [.int a1, .int a2, .int a3]) (b := 70) (st := []) (dx9 := 1) (mc := 0) (ms := 0) (host := "") 5 rfl t_X5_letterOf ⟨Or.inl q_11_198, i_X5_letterOf.1, i_X5_letterOf.2⟩ ⟨by decide, rfl⟩ (congrArg Prod.fst (J.1.1 70 (5, 9) rfl)) rfl (by decide) rfl rfl ⟨by decide, by decide⟩ (jC.of rfl k_X5_letterOf rfl ?_)
                    show jX m_X5_letterOf 1 0 0 0 [(0, .ref 70), (1, .int a1), (2, .int a2), (3, .int a3)] [] _ 0 0 _
                    refine x_iloadn (x := a1) rfl rfl ?_
                    refine x_iconst (v := 2) rfl ki_2 ?_
                    refine z_imul rfl rfl jk_2 (by omega) (fun v17 ev17 => ?_)
                    refine x_iloadn (x := a2) rfl rfl ?_
                    refine z_iadd rfl rfl rfl (by omega) (fun v18 ev18 => ?_)
                    refine x_istore (lsx9 := [(4, .int v18), (0, .ref 70), (1, .int a1), (2, .int a2), (3, .int a3)]) rfl rfl rfl ?_
                    refine x_iload (x := v18) rfl rfl ?_
                    refine x_iflt (tgt := 45) rfl rfl (ti_lt rfl jk_0 (br_f (by omega) ?_))
                    refine x_iload (x := v18) rfl rfl ?_
                    refine x_sipush (v := 1200) rfl ks_1200 ?_
                    refine x_icge (tgt := 45) rfl rfl (ti_ge rfl jk_1200 (br_f (by omega) ?_))
                    refine x_iloadn (x := a3) rfl rfl ?_
                    refine x_iflt (tgt := 45) rfl rfl (ti_lt rfl jk_0 (br_f (by omega) ?_))
                    refine x_iloadn (x := a3) rfl rfl ?_
                    refine x_bipush (v := 36) rfl kb_36 ?_
                    refine x_icge (tgt := 45) rfl rfl (ti_ge rfl jk_36 (br_f (by omega) ?_))
                    refine x_aloadn (x := 70) rfl rfl ?_
                    refine z_getR (N := 9) (b := 75) 5 6 rfl f_5_25 rfl J rfl 8966 ⟨rfl, rfl⟩ rfl ?_
                    refine x_iload (x := v18) rfl rfl ?_
                    refine x_bipush (v := 36) rfl kb_36 ?_
                    refine z_imul rfl rfl jk_36 (by omega) (fun v19 ev19 => ?_)
                    refine x_iloadn (x := a3) rfl rfl ?_
                    refine z_iadd rfl rfl rfl (by omega) (fun v20 ev20 => ?_)
                    refine z_iald0 (N := 43200) rfl J rfl rfl (by omega) (fun v21 qv21 => ?_)
                    have ev21 := jfull v21
                    refine x_goto (tgt := 46) rfl rfl ?_
                    refine x_iret rfl rfl ?_
                    show jX m_X11_name 2 0 0 66 [(4, .int v14), (0, .ref 31), (1, .int a1), (2, .int a2), (3, .int a3)] [.int v21] _ 0 0 _
                    refine x_goto (tgt := 70) rfl rfl ?_
                    exact jX.sub jsb_n (ct_X11_name_r31_70 hD hQ  v21 h J Sm)
                ·
                  refine x_iload (x := v14) rfl rfl ?_
                  refine x_iret rfl rfl ?_
                  exact hQ _ _ J Sm
              ·
                exact jX.sub jsb_n (ct_X11_name_r31_25 hD hQ  h J Sm)
def fp_X8_at_r33_c5 : jFp := []
set_option maxRecDepth 100000 in
set_option maxHeartbeats 4000000 in
theorem ct_X8_at_r33_c5_24 {Dy : jH → Prop} {h0 : jH} {Q : Option Value → jH → Prop} (hD : jDk Dy) (hQ : ∀ (v : Int32) hx9, 0 ≤ v.toInt ∧ v.toInt ≤ 1 → jJ jSgX Dy hx9 → jSm fp_X8_at_r33_c5 h0 hx9 → Q (some (.int v)) hx9) : ∀ (h : jH), jJ jSgX Dy h → jSm fp_X8_at_r33_c5 h0 h → jX m_X8_at 1 0 0 24 [] [] h 0 0 Q := by
  intro  h    J Sm
  refine x_iconst (v := 0) rfl ki_0 ?_
  refine x_iret rfl rfl ?_
  exact hQ _ _ (jr_of jk_0 (by omega)) J Sm
set_option maxRecDepth 100000 in
set_option maxHeartbeats 4000000 in
theorem sf_X8_at_r33_c5 {Dy : jH → Prop} {h : jH} {Q : Option Value → jH → Prop} {a1 : Int32} (y1 : 0 ≤ a1.toInt ∧ a1.toInt ≤ 199) (hD : jDk Dy) (J : jJ jSgX Dy h) (hQ : ∀ (v : Int32) hx9, 0 ≤ v.toInt ∧ v.toInt ≤ 1 → jJ jSgX Dy hx9 → jSm fp_X8_at_r33_c5 h hx9 → Q (some (.int v)) hx9) : jC m_X8_at 1 0 0 [.ref 33, .int a1, .int 5] h Q := by
  refine jC.of rfl k_X8_at rfl ?_
  have Sm := jSm_rf fp_X8_at_r33_c5 h
  show jX m_X8_at 1 0 0 0 [(0, .ref 33), (1, .int a1), (2, .int 5)] [] _ 0 0 _
  refine x_iloadn (x := a1) rfl rfl ?_
  refine x_iflt (tgt := 24) rfl rfl (ti_lt rfl jk_0 (br_f (by omega) ?_))
  refine x_iloadn (x := a1) rfl rfl ?_
  refine x_aloadn (x := 33) rfl rfl ?_
  refine z_getI (N := 4) 8 3 rfl f_8_7 rfl J rfl sg_33_3_4_1_0_1 (fun v1 qv1 ev1 => ?_)
  refine x_icge (tgt := 24) rfl rfl (ti_ge rfl rfl ⟨fun c2 => ?_, fun c2 => ?_⟩)
  ·
    exact jX.sub jsb_n (ct_X8_at_r33_c5_24 hD hQ  h J Sm)
  ·
    refine x_iloadn (x := 5) rfl rfl ?_
    refine x_iflt (tgt := 24) rfl rfl (ti_lt jk_5 jk_0 (br_f (by omega) ?_))
    refine x_iloadn (x := 5) rfl rfl ?_
    refine x_aloadn (x := 33) rfl rfl ?_
    refine z_getC (N := 4) (v := 6) 8 0 rfl f_8_19 rfl J rfl sg_33_0_1_1_0_1 jk_6 ?_
    refine x_iclt (tgt := 26) rfl rfl (ti_lt jk_5 jk_6 (br_t (by omega) ?_))
    refine x_aloadn (x := 33) rfl rfl ?_
    refine z_getR (N := 4) (b := 34) 8 2 rfl f_8_25 rfl J rfl 4226 ⟨rfl, rfl⟩ rfl ?_
    refine x_iloadn (x := a1) rfl rfl ?_
    refine x_aloadn (x := 33) rfl rfl ?_
    refine z_getC (N := 4) (v := 6) 8 0 rfl f_8_19 rfl J rfl sg_33_0_1_1_0_1 jk_6 ?_
    refine z_imul rfl rfl jk_6 (by omega) (fun v3 ev3 => ?_)
    refine x_iloadn (x := 5) rfl rfl ?_
    refine z_iadd rfl rfl jk_5 (by omega) (fun v4 ev4 => ?_)
    refine z_iald (N := 1200) rfl J rfl sg_34_0_1200_6_5_6 rfl (by omega) (fun v5 qv5 ev5 => ?_)
    refine x_iret rfl rfl ?_
    exact hQ _ _ (jr_of rfl (by omega)) J Sm
def fp_X11_of_r31 : jFp := []
set_option maxRecDepth 100000 in
set_option maxHeartbeats 4000000 in
theorem sf_X11_of_r31 {Dy : jH → Prop} {h : jH} {Q : Option Value → jH → Prop} {a1 : Int32} {a2 : Int32} (hD : jDk Dy) (J : jJ jSgX Dy h) (hQ : ∀ (v : Int32) hx9, jJ jSgX Dy hx9 → jSm fp_X11_of_r31 h hx9 → Q (some (.int v)) hx9) : jC m_X11_of 3 0 0 [.ref 31, .int a1, .int a2] h Q := by
  refine jC.of rfl k_X11_of rfl ?_
  have Sm := jSm_rf fp_X11_of_r31 h
  have ea1 := jfull a1
  have ea2 := jfull a2
  show jX m_X11_of 3 0 0 0 [(0, .ref 31), (1, .int a1), (2, .int a2)] [] _ 0 0 _
  refine x_aloadn (x := 31) rfl rfl ?_
  refine x_iloadn (x := a1) rfl rfl ?_
  refine x_inv (N := m_X11_isLine) (As := [.int a1]) (b := 31) (st := []) (dx9 := 2) (mc := 0) (ms := 0) (host := "") 11 rfl t_X11_isLine ⟨Or.inl q_11_168, i_X11_isLine.1, i_X11_isLine.2⟩ ⟨by decide, rfl⟩ (congrArg Prod.fst (J.1.1 31 (11, 13) rfl)) rfl (by decide) rfl rfl ⟨by decide, by decide⟩ (jC.of rfl k_X11_isLine rfl ?_)
  show jX m_X11_isLine 2 0 0 0 [(0, .ref 31), (1, .int a1)] [] _ 0 0 _
  refine x_iloadn (x := a1) rfl rfl ?_
  refine x_iflt (tgt := 22) rfl rfl (ti_lt rfl jk_0 ⟨fun c1 => ?_, fun c1 => ?_⟩)
  ·
    refine x_iconst (v := 0) rfl ki_0 ?_
    refine x_zret rfl rfl (by decide) ?_
    show jX m_X11_of 3 0 0 5 [(0, .ref 31), (1, .int a1), (2, .int a2)] [.int 0] _ 0 0 _
    refine x_ifne (tgt := 11) rfl rfl (ti_ne jk_0 jk_0 (bn_f (by omega) ?_))
    refine x_bipush (v := (-2)) rfl kb_m2 ?_
    refine x_iret rfl rfl ?_
    exact hQ _ _ J Sm
  ·
    refine x_iloadn (x := a1) rfl rfl ?_
    refine x_aloadn (x := 31) rfl rfl ?_
    refine z_getR (N := 13) (b := 32) 11 0 rfl f_11_10 rfl J rfl 3968 ⟨rfl, rfl⟩ rfl ?_
    refine z_getR (N := 20) (b := 33) 1 0 rfl f_11_126 rfl J rfl 4096 ⟨rfl, rfl⟩ rfl ?_
    refine z_getI (N := 4) 8 3 rfl f_11_142 rfl J rfl sg_33_3_4_1_0_1 (fun v2 qv2 ev2 => ?_)
    refine x_icge (tgt := 22) rfl rfl (ti_ge rfl rfl ⟨fun c3 => ?_, fun c3 => ?_⟩)
    ·
      refine x_iconst (v := 0) rfl ki_0 ?_
      refine x_zret rfl rfl (by decide) ?_
      show jX m_X11_of 3 0 0 5 [(0, .ref 31), (1, .int a1), (2, .int a2)] [.int 0] _ 0 0 _
      refine x_ifne (tgt := 11) rfl rfl (ti_ne jk_0 jk_0 (bn_f (by omega) ?_))
      refine x_bipush (v := (-2)) rfl kb_m2 ?_
      refine x_iret rfl rfl ?_
      exact hQ _ _ J Sm
    ·
      refine x_iconst (v := 1) rfl ki_1 ?_
      refine x_goto (tgt := 23) rfl rfl ?_
      refine x_zret rfl rfl (by decide) ?_
      show jX m_X11_of 3 0 0 5 [(0, .ref 31), (1, .int a1), (2, .int a2)] [.int 1] _ 0 0 _
      refine x_ifne (tgt := 11) rfl rfl (ti_ne jk_1 jk_0 (bn_t (by omega) ?_))
      refine x_iloadn (x := a2) rfl rfl ?_
      by_cases c4 : a2.toInt = 0
      ·
        refine x_tableIn (tgt := 52) 0 rfl c4 (by decide) (by decide) rfl rfl ?_
        refine x_aloadn (x := 31) rfl rfl ?_
        refine z_getR (N := 13) (b := 32) 11 0 rfl f_11_10 rfl J rfl 3968 ⟨rfl, rfl⟩ rfl ?_
        refine z_getR (N := 20) (b := 33) 1 0 rfl f_11_126 rfl J rfl 4096 ⟨rfl, rfl⟩ rfl ?_
        refine x_iloadn (x := a1) rfl rfl ?_
        refine x_iconst (v := 2) rfl ki_2 ?_
        refine x_inv (N := m_X8_at) (As := [.int a1, .int 2]) (b := 33) (st := []) (dx9 := 1) (mc := 0) (ms := 0) (host := "") 8 rfl t_X8_at ⟨Or.inl q_11_171, i_X8_at.1, i_X8_at.2⟩ ⟨by decide, rfl⟩ (congrArg Prod.fst (J.1.1 33 (8, 4) rfl)) rfl (by decide) rfl rfl ⟨by decide, by decide⟩ (sf_X8_at_r33_c2  hD J  (fun v6 h ev6 J S5 => ?_))
        have Sm := jSm_tr rfl Sm S5
        show jX m_X11_of 3 0 0 64 [(0, .ref 31), (1, .int a1), (2, .int a2)] [.int v6] _ 0 0 _
        refine x_iret rfl rfl ?_
        exact hQ _ _ J Sm
      by_cases c7 : a2.toInt = 1
      ·
        refine x_tableIn (tgt := 65) 1 rfl c7 (by decide) (by decide) rfl rfl ?_
        refine x_aloadn (x := 31) rfl rfl ?_
        refine z_getR (N := 13) (b := 32) 11 0 rfl f_11_10 rfl J rfl 3968 ⟨rfl, rfl⟩ rfl ?_
        refine z_getR (N := 20) (b := 33) 1 0 rfl f_11_126 rfl J rfl 4096 ⟨rfl, rfl⟩ rfl ?_
        refine x_iloadn (x := a1) rfl rfl ?_
        refine x_iconst (v := 3) rfl ki_3 ?_
        refine x_inv (N := m_X8_at) (As := [.int a1, .int 3]) (b := 33) (st := []) (dx9 := 1) (mc := 0) (ms := 0) (host := "") 8 rfl t_X8_at ⟨Or.inl q_11_171, i_X8_at.1, i_X8_at.2⟩ ⟨by decide, rfl⟩ (congrArg Prod.fst (J.1.1 33 (8, 4) rfl)) rfl (by decide) rfl rfl ⟨by decide, by decide⟩ (sf_X8_at_r33_c3 (jr_of rfl (by omega)) hD J  (fun v9 h ev9 J S8 => ?_))
        have Sm := jSm_tr rfl Sm S8
        show jX m_X11_of 3 0 0 77 [(0, .ref 31), (1, .int a1), (2, .int a2)] [.int v9] _ 0 0 _
        refine x_iret rfl rfl ?_
        exact hQ _ _ J Sm
      by_cases c10 : a2.toInt = 2
      ·
        refine x_tableIn (tgt := 78) 2 rfl c10 (by decide) (by decide) rfl rfl ?_
        refine x_aloadn (x := 31) rfl rfl ?_
        refine z_getR (N := 13) (b := 32) 11 0 rfl f_11_10 rfl J rfl 3968 ⟨rfl, rfl⟩ rfl ?_
        refine z_getR (N := 20) (b := 33) 1 0 rfl f_11_126 rfl J rfl 4096 ⟨rfl, rfl⟩ rfl ?_
        refine x_iloadn (x := a1) rfl rfl ?_
        refine x_iconst (v := 1) rfl ki_1 ?_
        refine x_inv (N := m_X8_at) (As := [.int a1, .int 1]) (b := 33) (st := []) (dx9 := 1) (mc := 0) (ms := 0) (host := "") 8 rfl t_X8_at ⟨Or.inl q_11_171, i_X8_at.1, i_X8_at.2⟩ ⟨by decide, rfl⟩ (congrArg Prod.fst (J.1.1 33 (8, 4) rfl)) rfl (by decide) rfl rfl ⟨by decide, by decide⟩ (sf_X8_at_r33_c1  hD J  (fun v12 h ev12 J S11 => ?_))
        have Sm := jSm_tr rfl Sm S11
        show jX m_X11_of 3 0 0 90 [(0, .ref 31), (1, .int a1), (2, .int a2)] [.int v12] _ 0 0 _
        refine x_iret rfl rfl ?_
        exact hQ _ _ J Sm
      by_cases c13 : a2.toInt = 3
      ·
        refine x_tableIn (tgt := 91) 3 rfl c13 (by decide) (by decide) rfl rfl ?_
        refine x_aloadn (x := 31) rfl rfl ?_
        refine z_getR (N := 13) (b := 32) 11 0 rfl f_11_10 rfl J rfl 3968 ⟨rfl, rfl⟩ rfl ?_
        refine z_getR (N := 20) (b := 33) 1 0 rfl f_11_126 rfl J rfl 4096 ⟨rfl, rfl⟩ rfl ?_
        refine x_iloadn (x := a1) rfl rfl ?_
        refine x_iconst (v := 4) rfl ki_4 ?_
        refine x_inv (N := m_X8_at) (As := [.int a1, .int 4]) (b := 33) (st := []) (dx9 := 1) (mc := 0) (ms := 0) (host := "") 8 rfl t_X8_at ⟨Or.inl q_11_171, i_X8_at.1, i_X8_at.2⟩ ⟨by decide, rfl⟩ (congrArg Prod.fst (J.1.1 33 (8, 4) rfl)) rfl (by decide) rfl rfl ⟨by decide, by decide⟩ (sf_X8_at_r33_c4  hD J  (fun v15 h J S14 => ?_))
        have ev15 := jfull v15
        have Sm := jSm_tr rfl Sm S14
        show jX m_X11_of 3 0 0 103 [(0, .ref 31), (1, .int a1), (2, .int a2)] [.int v15] _ 0 0 _
        refine x_iret rfl rfl ?_
        exact hQ _ _ J Sm
      by_cases c16 : a2.toInt = 4
      ·
        refine x_tableIn (tgt := 104) 4 rfl c16 (by decide) (by decide) rfl rfl ?_
        refine x_aloadn (x := 31) rfl rfl ?_
        refine z_getR (N := 13) (b := 32) 11 0 rfl f_11_10 rfl J rfl 3968 ⟨rfl, rfl⟩ rfl ?_
        refine z_getR (N := 20) (b := 33) 1 0 rfl f_11_126 rfl J rfl 4096 ⟨rfl, rfl⟩ rfl ?_
        refine x_iloadn (x := a1) rfl rfl ?_
        refine x_iconst (v := 5) rfl ki_5 ?_
        refine x_inv (N := m_X8_at) (As := [.int a1, .int 5]) (b := 33) (st := []) (dx9 := 1) (mc := 0) (ms := 0) (host := "") 8 rfl t_X8_at ⟨Or.inl q_11_171, i_X8_at.1, i_X8_at.2⟩ ⟨by decide, rfl⟩ (congrArg Prod.fst (J.1.1 33 (8, 4) rfl)) rfl (by decide) rfl rfl ⟨by decide, by decide⟩ (sf_X8_at_r33_c5 (jr_of rfl (by omega)) hD J  (fun v18 h ev18 J S17 => ?_))
        have Sm := jSm_tr rfl Sm S17
        show jX m_X11_of 3 0 0 116 [(0, .ref 31), (1, .int a1), (2, .int a2)] [.int v18] _ 0 0 _
        refine x_iret rfl rfl ?_
        exact hQ _ _ J Sm
      by_cases c19 : a2.toInt = 5
      ·
        refine x_tableIn (tgt := 117) 5 rfl c19 (by decide) (by decide) rfl rfl ?_
        refine x_aloadn (x := 31) rfl rfl ?_
        refine x_iloadn (x := a1) rfl rfl ?_
        refine x_inv (N := m_X11_rolesOf) (As := [.int a1]) (b := 31) (st := []) (dx9 := 2) (mc := 0) (ms := 0) (host := "") 11 rfl t_X11_rolesOf ⟨Or.inl q_11_175, i_X11_rolesOf.1, i_X11_rolesOf.2⟩ ⟨by decide, rfl⟩ (congrArg Prod.fst (J.1.1 31 (11, 13) rfl)) rfl (by decide) rfl rfl ⟨by decide, by decide⟩ (jC.of rfl k_X11_rolesOf rfl ?_)
        show jX m_X11_rolesOf 2 0 0 0 [(0, .ref 31), (1, .int a1)] [] _ 0 0 _
        refine x_aloadn (x := 31) rfl rfl ?_
        refine z_getR (N := 13) (b := 32) 11 0 rfl f_11_10 rfl J rfl 3968 ⟨rfl, rfl⟩ rfl ?_
        refine z_getR (N := 20) (b := 33) 1 0 rfl f_11_126 rfl J rfl 4096 ⟨rfl, rfl⟩ rfl ?_
        refine x_iloadn (x := a1) rfl rfl ?_
        refine x_iconst (v := 2) rfl ki_2 ?_
        refine x_inv (N := m_X8_at) (As := [.int a1, .int 2]) (b := 33) (st := []) (dx9 := 1) (mc := 0) (ms := 0) (host := "") 8 rfl t_X8_at ⟨Or.inl q_11_171, i_X8_at.1, i_X8_at.2⟩ ⟨by decide, rfl⟩ (congrArg Prod.fst (J.1.1 33 (8, 4) rfl)) rfl (by decide) rfl rfl ⟨by decide, by decide⟩ (sf_X8_at_r33_c2  hD J  (fun v21 h ev21 J S20 => ?_))
        have Sm := jSm_tr rfl Sm S20
        show jX m_X11_rolesOf 2 0 0 12 [(0, .ref 31), (1, .int a1)] [.int v21] _ 0 0 _
        refine x_istoren (lsx9 := [(2, .int v21), (0, .ref 31), (1, .int a1)]) rfl rfl rfl ?_
        refine x_iloadn (x := v21) rfl rfl ?_
        refine x_inst (N := m_X11_isBook) (As := [.int v21]) (st := []) (dx9 := 1) (mc := 0) (ms := 0) (host := "") rfl t_X11_isBook ⟨Or.inl q_11_112, s_X11_isBook⟩ rfl (by decide) rfl rfl ⟨by decide, by decide⟩ (zc_X11_isBook rfl (fun v22 ev22 => ?_))
        show jX m_X11_rolesOf 2 0 0 17 [(2, .int v21), (0, .ref 31), (1, .int a1)] [.int v22] _ 0 0 _
        refine x_ifeq (tgt := 28) rfl rfl (ti_eq rfl jk_0 ⟨fun c23 => ?_, fun c23 => ?_⟩)
        ·
          refine x_iconst (v := 0) rfl ki_0 ?_
          refine x_iret rfl rfl ?_
          show jX m_X11_of 3 0 0 122 [(0, .ref 31), (1, .int a1), (2, .int a2)] [.int 0] _ 0 0 _
          refine x_iret rfl rfl ?_
          exact hQ _ _ J Sm
        ·
          refine x_gets jst_1 rfl (by decide +kernel) u_11_136 ?_
          show jX m_X11_rolesOf 2 0 0 23 [(2, .int v21), (0, .ref 31), (1, .int a1)] [.ref 1] _ 0 0 _
          refine x_iloadn (x := v21) rfl rfl ?_
          refine z_iald (N := 6) rfl J rfl sg_1_0_6_1_0_1 rfl (by omega) (fun v24 qv24 ev24 => ?_)
          refine x_goto (tgt := 29) rfl rfl ?_
          refine x_iret rfl rfl ?_
          show jX m_X11_of 3 0 0 122 [(0, .ref 31), (1, .int a1), (2, .int a2)] [.int v24] _ 0 0 _
          refine x_iret rfl rfl ?_
          exact hQ _ _ J Sm
      refine x_tableOut (tgt := 123) rfl (by omega) rfl ?_
      refine x_bipush (v := (-2)) rfl kb_m2 ?_
      refine x_iret rfl rfl ?_
      exact hQ _ _ J Sm
def fp_X8_at_r45_c1 : jFp := []
set_option maxRecDepth 100000 in
set_option maxHeartbeats 4000000 in
theorem ct_X8_at_r45_c1_24 {Dy : jH → Prop} {h0 : jH} {Q : Option Value → jH → Prop} (hD : jDk Dy) (hQ : ∀ (v : Int32) hx9, 0 ≤ v.toInt ∧ v.toInt ≤ 146399 → jJ jSgX Dy hx9 → jSm fp_X8_at_r45_c1 h0 hx9 → Q (some (.int v)) hx9) : ∀ (h : jH), jJ jSgX Dy h → jSm fp_X8_at_r45_c1 h0 h → jX m_X8_at 1 0 0 24 [] [] h 0 0 Q := by
  intro  h    J Sm
  refine x_iconst (v := 0) rfl ki_0 ?_
  refine x_iret rfl rfl ?_
  exact hQ _ _ (jr_of jk_0 (by omega)) J Sm
set_option maxRecDepth 100000 in
set_option maxHeartbeats 4000000 in
theorem sf_X8_at_r45_c1 {Dy : jH → Prop} {h : jH} {Q : Option Value → jH → Prop} {a1 : Int32} (y1 : 0 ≤ a1.toInt ∧ a1.toInt ≤ 39) (hD : jDk Dy) (J : jJ jSgX Dy h) (hQ : ∀ (v : Int32) hx9, 0 ≤ v.toInt ∧ v.toInt ≤ 146399 → jJ jSgX Dy hx9 → jSm fp_X8_at_r45_c1 h hx9 → Q (some (.int v)) hx9) : jC m_X8_at 1 0 0 [.ref 45, .int a1, .int 1] h Q := by
  refine jC.of rfl k_X8_at rfl ?_
  have Sm := jSm_rf fp_X8_at_r45_c1 h
  show jX m_X8_at 1 0 0 0 [(0, .ref 45), (1, .int a1), (2, .int 1)] [] _ 0 0 _
  refine x_iloadn (x := a1) rfl rfl ?_
  refine x_iflt (tgt := 24) rfl rfl (ti_lt rfl jk_0 (br_f (by omega) ?_))
  refine x_iloadn (x := a1) rfl rfl ?_
  refine x_aloadn (x := 45) rfl rfl ?_
  refine z_getI (N := 4) 8 3 rfl f_8_7 rfl J rfl sg_45_3_4_1_0_1 (fun v1 qv1 ev1 => ?_)
  refine x_icge (tgt := 24) rfl rfl (ti_ge rfl rfl ⟨fun c2 => ?_, fun c2 => ?_⟩)
  ·
    exact jX.sub jsb_n (ct_X8_at_r45_c1_24 hD hQ  h J Sm)
  ·
    refine x_iloadn (x := 1) rfl rfl ?_
    refine x_iflt (tgt := 24) rfl rfl (ti_lt jk_1 jk_0 (br_f (by omega) ?_))
    refine x_iloadn (x := 1) rfl rfl ?_
    refine x_aloadn (x := 45) rfl rfl ?_
    refine z_getC (N := 4) (v := 3) 8 0 rfl f_8_19 rfl J rfl sg_45_0_1_1_0_1 jk_3 ?_
    refine x_iclt (tgt := 26) rfl rfl (ti_lt jk_1 jk_3 (br_t (by omega) ?_))
    refine x_aloadn (x := 45) rfl rfl ?_
    refine z_getR (N := 4) (b := 46) 8 2 rfl f_8_25 rfl J rfl 5762 ⟨rfl, rfl⟩ rfl ?_
    refine x_iloadn (x := a1) rfl rfl ?_
    refine x_aloadn (x := 45) rfl rfl ?_
    refine z_getC (N := 4) (v := 3) 8 0 rfl f_8_19 rfl J rfl sg_45_0_1_1_0_1 jk_3 ?_
    refine z_imul rfl rfl jk_3 (by omega) (fun v3 ev3 => ?_)
    refine x_iloadn (x := 1) rfl rfl ?_
    refine z_iadd rfl rfl jk_1 (by omega) (fun v4 ev4 => ?_)
    refine z_iald (N := 120) rfl J rfl sg_46_0_120_3_1_2 rfl (by omega) (fun v5 qv5 ev5 => ?_)
    refine x_iret rfl rfl ?_
    exact hQ _ _ (jr_of rfl (by omega)) J Sm
