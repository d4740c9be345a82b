def fp_X2_readTest_r95_c2 : jFp := [(68, 2, 3), (68, 3, 4), (68, 4, 5), (68, 5, 6), (95, 4, 5), (95, 5, 6), (97, 0, 1200)]
set_option maxRecDepth 100000 in
set_option maxHeartbeats 4000000 in
theorem ct_X2_readTest_r95_c2_77 {Dy : jH → Prop} {h0 : jH} {Q : Option Value → jH → Prop} {R4 : Int} (hD : jDk Dy) (hQ : ∀ (v : Int32) hx9, 0 ≤ v.toInt ∧ v.toInt ≤ 1 → jJ jSgX Dy hx9 → jSm fp_X2_readTest_r95_c2 h0 hx9 → ∀ u0 u1 : Int32, jiv hx9 68 5 = u0 → jiv hx9 68 3 = u1 → (u0.toInt ≠ 3 ∨ u1.toInt ≤ 399) → Q (some (.int v)) hx9) (k4 : ∀ (l2 : Int32) (l3 : Int32) (g0 : Int32) (g1 : Int32) (h : jH), 400 - l3.toInt < R4 → (-1) ≤ l2.toInt ∧ l2.toInt ≤ 1199 → 0 ≤ l3.toInt ∧ l3.toInt ≤ 400 → 0 ≤ g0.toInt ∧ g0.toInt ≤ 400 → 0 ≤ g1.toInt ∧ g1.toInt ≤ 3 → (g1.toInt ≠ 3 ∨ g0.toInt ≤ 399) → jiv h 68 3 = g0 → jiv h 68 5 = g1 → jJ jSgX Dy h → jSm fp_X2_readTest_r95_c2 h0 h → jX m_X2_readTest 20 0 0 4 [(0, .ref 95), (1, .int 2), (2, .int l2), (3, .int l3)] [] h 0 0 Q) : ∀ (l2 : Int32) (l3 : Int32) (g0 : Int32) (g1 : Int32) (h : jH), (-1) ≤ l2.toInt ∧ l2.toInt ≤ 1199 → 0 ≤ l3.toInt ∧ l3.toInt ≤ 399 → 0 ≤ g0.toInt ∧ g0.toInt ≤ 400 → 0 ≤ g1.toInt ∧ g1.toInt ≤ 3 → (g1.toInt ≠ 3 ∨ g0.toInt ≤ 399) → jiv h 68 3 = g0 → jiv h 68 5 = g1 → 400 - l3.toInt ≤ R4 → jJ jSgX Dy h → jSm fp_X2_readTest_r95_c2 h0 h → jX m_X2_readTest 20 0 0 77 [(0, .ref 95), (1, .int 2), (2, .int l2), (3, .int l3)] [] h 0 0 Q := by
  intro l2 l3 g0 g1 h y0 y1 y2 y3 y4 z0 z1 m4 J Sm
  refine x_aloadn (x := 95) rfl rfl ?_
  refine x_iloadn (x := l2) rfl rfl ?_
  refine x_inv (N := m_X2_land) (As := [.int l2]) (b := 95) (st := []) (dx9 := 1) (mc := 0) (ms := 0) (host := "") 2 rfl t_X2_land ⟨Or.inl q_2_124, i_X2_land.1, i_X2_land.2⟩ ⟨by decide, rfl⟩ (congrArg Prod.fst (J.1.1 95 (2, 6) rfl)) rfl (by decide) rfl rfl ⟨by decide, by decide⟩ (sf_X2_land_r95 (jr_of rfl (by omega)) hD J  (fun h J S1 => ?_))
  have Sm := jSm_tr rfl Sm S1
  show jX m_X2_readTest 20 0 0 82 [(0, .ref 95), (1, .int 2), (2, .int l2), (3, .int l3)] [] _ 0 0 _
  refine x_aloadn (x := 95) rfl rfl ?_
  refine z_getR (N := 6) (b := 68) 2 0 rfl f_2_30 rfl J rfl 12160 ⟨rfl, rfl⟩ rfl ?_
  refine x_ldcS (jstr.getD 12 jstr_0) rfl (List.mem_of_getElem? (i := 12) rfl) rfl rfl ?_
  show jX m_X2_readTest 20 0 0 88 [(0, .ref 95), (1, .int 2), (2, .int l2), (3, .int l3)] [.ref 17, .ref 68] _ 0 0 _
  refine x_inv (N := m_X9_wordOf) (As := [.ref 17]) (b := 68) (st := []) (dx9 := 4) (mc := 0) (ms := 0) (host := "") 9 rfl t_X9_wordOf ⟨Or.inl q_2_67, i_X9_wordOf.1, i_X9_wordOf.2⟩ ⟨by decide, rfl⟩ (congrArg Prod.fst (J.1.1 68 (9, 6) rfl)) rfl (by decide) rfl rfl ⟨by decide, by decide⟩ (sf_X9_wordOf_r68_r17  hD J  (fun v3 h J S2 => ?_))
  have ev3 := jfull v3
  have Sm := jSm_tr rfl Sm S2
  show jX m_X2_readTest 20 0 0 91 [(0, .ref 95), (1, .int 2), (2, .int l2), (3, .int l3)] [.int v3] _ 0 0 _
  refine x_ifeq (tgt := 96) rfl rfl (ti_eq rfl jk_0 ⟨fun c4 => ?_, fun c4 => ?_⟩)
  ·
    refine x_aloadn (x := 95) rfl rfl ?_
    refine x_bipush (v := 11) rfl kb_11 ?_
    refine x_inv (N := m_X2_leap) (As := [.int 11]) (b := 95) (st := []) (dx9 := 2) (mc := 0) (ms := 0) (host := "") 2 rfl t_X2_leap ⟨Or.inl q_2_129, i_X2_leap.1, i_X2_leap.2⟩ ⟨by decide, rfl⟩ (congrArg Prod.fst (J.1.1 95 (2, 6) rfl)) rfl (by decide) rfl rfl ⟨by decide, by decide⟩ (sf_X2_leap_r95 (jr_of jk_11 (by omega)) hD J  (fun v6 h ev6 J S5 => ?_))
    have Sm := jSm_tr rfl Sm S5
    show jX m_X2_readTest 20 0 0 102 [(0, .ref 95), (1, .int 2), (2, .int l2), (3, .int l3)] [.int v6] _ 0 0 _
    refine x_istoren (lsx9 := [(2, .int v6), (0, .ref 95), (1, .int 2), (3, .int l3)]) rfl rfl rfl ?_
    refine x_aloadn (x := 95) rfl rfl ?_
    refine z_getR (N := 6) (b := 68) 2 0 rfl f_2_30 rfl J rfl 12160 ⟨rfl, rfl⟩ rfl ?_
    refine x_inv (N := m_X9_step) (As := []) (b := 68) (st := []) (dx9 := 2) (mc := 0) (ms := 0) (host := "") 9 rfl t_X9_step ⟨Or.inl q_2_62, i_X9_step.1, i_X9_step.2⟩ ⟨by decide, rfl⟩ (congrArg Prod.fst (J.1.1 68 (9, 6) rfl)) rfl (by decide) rfl rfl ⟨by decide, by decide⟩ (sf_X9_step_r68  hD J (jmc S5 rfl (jmc S2 rfl (jmc S1 rfl z1))) (jmc S5 rfl (jmc S2 rfl (jmc S1 rfl z0))) (by omega)  (fun h J S7 u8 u9 qu8 qu9 ru8 => ?_))
    have Sm := jSm_tr rfl Sm S7
    have eu8 := (show 0 ≤ u8.toInt ∧ u8.toInt ≤ 3 from qu8 ▸ jrg_f J sg_68_5_6_1_0_1)
    have eu9 := (show 0 ≤ u9.toInt ∧ u9.toInt ≤ 400 from qu9 ▸ jrg_f J sg_68_3_4_1_0_1)
    show jX m_X2_readTest 20 0 0 110 [(2, .int v6), (0, .ref 95), (1, .int 2), (3, .int l3)] [] _ 0 0 _
    refine z_iinc (x := l3) (lsx9 := fun v10 => [(3, .int v10), (2, .int v6), (0, .ref 95), (1, .int 2)]) rfl rfl rfl jko_1 (by omega) rfl (fun _ => rfl) (fun v10 ev10 => ?_)
    refine x_goto (tgt := 4) rfl rfl ?_
    exact jX.sub (jsb_c rfl (jsb_c rfl (jsb_c rfl (jsb_c rfl jsb_n)))) (k4 v6 v10 u9 u8 h (by omega) (jr_of rfl (by omega)) (jr_of rfl (by omega)) (jr_of rfl (by omega)) (jr_of rfl (by omega)) (by omega) qu9 qu8 J Sm)
  ·
    refine x_iconst (v := 1) rfl ki_1 ?_
    refine x_zret rfl rfl (by decide) ?_
    exact hQ _ _ (jr_of jk_1 (by omega)) J Sm _ _ (jmc S2 rfl (jmc S1 rfl z1)) (jmc S2 rfl (jmc S1 rfl z0)) (by omega)
set_option maxRecDepth 100000 in
set_option maxHeartbeats 4000000 in
theorem ct_X2_readTest_r95_c2_17 {Dy : jH → Prop} {h0 : jH} {Q : Option Value → jH → Prop} {R4 : Int} (hD : jDk Dy) (hQ : ∀ (v : Int32) hx9, 0 ≤ v.toInt ∧ v.toInt ≤ 1 → jJ jSgX Dy hx9 → jSm fp_X2_readTest_r95_c2 h0 hx9 → ∀ u0 u1 : Int32, jiv hx9 68 5 = u0 → jiv hx9 68 3 = u1 → (u0.toInt ≠ 3 ∨ u1.toInt ≤ 399) → Q (some (.int v)) hx9) (k4 : ∀ (l2 : Int32) (l3 : Int32) (g0 : Int32) (g1 : Int32) (h : jH), 400 - l3.toInt < R4 → (-1) ≤ l2.toInt ∧ l2.toInt ≤ 1199 → 0 ≤ l3.toInt ∧ l3.toInt ≤ 400 → 0 ≤ g0.toInt ∧ g0.toInt ≤ 400 → 0 ≤ g1.toInt ∧ g1.toInt ≤ 3 → (g1.toInt ≠ 3 ∨ g0.toInt ≤ 399) → jiv h 68 3 = g0 → jiv h 68 5 = g1 → jJ jSgX Dy h → jSm fp_X2_readTest_r95_c2 h0 h → jX m_X2_readTest 20 0 0 4 [(0, .ref 95), (1, .int 2), (2, .int l2), (3, .int l3)] [] h 0 0 Q) : ∀ r : Nat, ∀ (l2 : Int32) (l3 : Int32) (l4 : Int32) (l5 : Int32) (g0 : Int32) (g1 : Int32) (h : jH), 400 - l5.toInt < (r : Int) → (-1) ≤ l2.toInt ∧ l2.toInt ≤ 1199 → 0 ≤ l3.toInt ∧ l3.toInt ≤ 399 → (-1) ≤ l4.toInt ∧ l4.toInt ≤ 1199 → 0 ≤ l5.toInt ∧ l5.toInt ≤ 400 → 0 ≤ g0.toInt ∧ g0.toInt ≤ 400 → 0 ≤ g1.toInt ∧ g1.toInt ≤ 3 → (g1.toInt ≠ 3 ∨ g0.toInt ≤ 399) → jiv h 68 3 = g0 → jiv h 68 5 = g1 → 400 - l3.toInt ≤ R4 → jJ jSgX Dy h → jSm fp_X2_readTest_r95_c2 h0 h → jX m_X2_readTest 20 0 0 17 [(0, .ref 95), (1, .int 2), (2, .int l2), (3, .int l3), (4, .int l4), (5, .int l5)] [] h 0 0 Q := by
  intro r
  induction r with
  | zero =>
    intro l2 l3 l4 l5 g0 g1 h hm y0 y1 y2 y3 y4 y5 y6 z0 z1 m4 J Sm
    exfalso
    omega
  | succ r ih =>
    intro l2 l3 l4 l5 g0 g1 h hm y0 y1 y2 y3 y4 y5 y6 z0 z1 m4 J Sm
    refine x_iload (x := l5) rfl rfl ?_
    refine x_sipush (v := 400) rfl ks_400 ?_
    refine x_icge (tgt := 77) rfl rfl (ti_ge rfl jk_400 ⟨fun c1 => ?_, fun c1 => ?_⟩)
    ·
      exact jX.sub (jsb_c rfl (jsb_c rfl (jsb_c rfl (jsb_c rfl jsb_n)))) (ct_X2_readTest_r95_c2_77 hD hQ k4 l2 l3 g0 g1 h (jr_of rfl (by omega)) (jr_of rfl (by omega)) (jr_of rfl (by omega)) (jr_of rfl (by omega)) (by omega) z0 z1 (by omega) J Sm)
    ·
      refine x_aloadn (x := 95) rfl rfl ?_
      refine x_iloadn (x := 2) rfl rfl ?_
      refine x_inv (N := m_X2_readPlain) (As := [.int 2]) (b := 95) (st := []) (dx9 := 19) (mc := 0) (ms := 0) (host := "") 2 rfl t_X2_readPlain ⟨Or.inl q_2_121, i_X2_readPlain.1, i_X2_readPlain.2⟩ ⟨by decide, rfl⟩ (congrArg Prod.fst (J.1.1 95 (2, 6) rfl)) rfl (by decide) rfl rfl ⟨by decide, by decide⟩ (sf_X2_readPlain_r95_c2  hD J z1 z0 (by omega)  (fun v5 h ev5 J S2 u3 u4 qu3 qu4 ru3 => ?_))
      have Sm := jSm_tr rfl Sm S2
      have eu3 := (show 0 ≤ u3.toInt ∧ u3.toInt ≤ 3 from qu3 ▸ jrg_f J sg_68_5_6_1_0_1)
      have eu4 := (show 0 ≤ u4.toInt ∧ u4.toInt ≤ 400 from qu4 ▸ jrg_f J sg_68_3_4_1_0_1)
      show jX m_X2_readTest 20 0 0 30 [(0, .ref 95), (1, .int 2), (2, .int l2), (3, .int l3), (4, .int l4), (5, .int l5)] [.int v5] _ 0 0 _
      refine x_ifne (tgt := 35) rfl rfl (ti_ne rfl jk_0 ⟨fun c6 => ?_, fun c6 => ?_⟩)
      ·
        refine x_aloadn (x := 95) rfl rfl ?_
        refine x_iload (x := l4) rfl rfl ?_
        refine x_inv (N := m_X2_land) (As := [.int l4]) (b := 95) (st := []) (dx9 := 1) (mc := 0) (ms := 0) (host := "") 2 rfl t_X2_land ⟨Or.inl q_2_124, i_X2_land.1, i_X2_land.2⟩ ⟨by decide, rfl⟩ (congrArg Prod.fst (J.1.1 95 (2, 6) rfl)) rfl (by decide) rfl rfl ⟨by decide, by decide⟩ (sf_X2_land_r95 (jr_of rfl (by omega)) hD J  (fun h J S7 => ?_))
        have Sm := jSm_tr rfl Sm S7
        show jX m_X2_readTest 20 0 0 41 [(0, .ref 95), (1, .int 2), (2, .int l2), (3, .int l3), (4, .int l4), (5, .int l5)] [] _ 0 0 _
        refine x_aloadn (x := 95) rfl rfl ?_
        refine z_getR (N := 6) (b := 68) 2 0 rfl f_2_30 rfl J rfl 12160 ⟨rfl, rfl⟩ rfl ?_
        refine x_ldcS (jstr.getD 11 jstr_0) rfl (List.mem_of_getElem? (i := 11) rfl) rfl rfl ?_
        show jX m_X2_readTest 20 0 0 47 [(0, .ref 95), (1, .int 2), (2, .int l2), (3, .int l3), (4, .int l4), (5, .int l5)] [.ref 16, .ref 68] _ 0 0 _
        refine x_inv (N := m_X9_wordOf) (As := [.ref 16]) (b := 68) (st := []) (dx9 := 4) (mc := 0) (ms := 0) (host := "") 9 rfl t_X9_wordOf ⟨Or.inl q_2_67, i_X9_wordOf.1, i_X9_wordOf.2⟩ ⟨by decide, rfl⟩ (congrArg Prod.fst (J.1.1 68 (9, 6) rfl)) rfl (by decide) rfl rfl ⟨by decide, by decide⟩ (sf_X9_wordOf_r68_r16  hD J  (fun v9 h J S8 => ?_))
        have ev9 := jfull v9
        have Sm := jSm_tr rfl Sm S8
        show jX m_X2_readTest 20 0 0 50 [(0, .ref 95), (1, .int 2), (2, .int l2), (3, .int l3), (4, .int l4), (5, .int l5)] [.int v9] _ 0 0 _
        refine x_ifeq (tgt := 56) rfl rfl (ti_eq rfl jk_0 ⟨fun c10 => ?_, fun c10 => ?_⟩)
        ·
          refine x_aloadn (x := 95) rfl rfl ?_
          refine x_bipush (v := 12) rfl kb_12 ?_
          refine x_inv (N := m_X2_leap) (As := [.int 12]) (b := 95) (st := []) (dx9 := 2) (mc := 0) (ms := 0) (host := "") 2 rfl t_X2_leap ⟨Or.inl q_2_129, i_X2_leap.1, i_X2_leap.2⟩ ⟨by decide, rfl⟩ (congrArg Prod.fst (J.1.1 95 (2, 6) rfl)) rfl (by decide) rfl rfl ⟨by decide, by decide⟩ (sf_X2_leap_r95 (jr_of jk_12 (by omega)) hD J  (fun v12 h ev12 J S11 => ?_))
          have Sm := jSm_tr rfl Sm S11
          show jX m_X2_readTest 20 0 0 62 [(0, .ref 95), (1, .int 2), (2, .int l2), (3, .int l3), (4, .int l4), (5, .int l5)] [.int v12] _ 0 0 _
          refine x_istore (lsx9 := [(4, .int v12), (0, .ref 95), (1, .int 2), (2, .int l2), (3, .int l3), (5, .int l5)]) rfl rfl rfl ?_
          refine x_aloadn (x := 95) rfl rfl ?_
          refine z_getR (N := 6) (b := 68) 2 0 rfl f_2_30 rfl J rfl 12160 ⟨rfl, rfl⟩ rfl ?_
          refine x_inv (N := m_X9_step) (As := []) (b := 68) (st := []) (dx9 := 2) (mc := 0) (ms := 0) (host := "") 9 rfl t_X9_step ⟨Or.inl q_2_62, i_X9_step.1, i_X9_step.2⟩ ⟨by decide, rfl⟩ (congrArg Prod.fst (J.1.1 68 (9, 6) rfl)) rfl (by decide) rfl rfl ⟨by decide, by decide⟩ (sf_X9_step_r68  hD J (jmc S11 rfl (jmc S8 rfl (jmc S7 rfl qu3))) (jmc S11 rfl (jmc S8 rfl (jmc S7 rfl qu4))) (by omega)  (fun h J S13 u14 u15 qu14 qu15 ru14 => ?_))
          have Sm := jSm_tr rfl Sm S13
          have eu14 := (show 0 ≤ u14.toInt ∧ u14.toInt ≤ 3 from qu14 ▸ jrg_f J sg_68_5_6_1_0_1)
          have eu15 := (show 0 ≤ u15.toInt ∧ u15.toInt ≤ 400 from qu15 ▸ jrg_f J sg_68_3_4_1_0_1)
          show jX m_X2_readTest 20 0 0 71 [(4, .int v12), (0, .ref 95), (1, .int 2), (2, .int l2), (3, .int l3), (5, .int l5)] [] _ 0 0 _
          refine z_iinc (x := l5) (lsx9 := fun v16 => [(5, .int v16), (4, .int v12), (0, .ref 95), (1, .int 2), (2, .int l2), (3, .int l3)]) rfl rfl rfl jko_1 (by omega) rfl (fun _ => rfl) (fun v16 ev16 => ?_)
          refine x_goto (tgt := 17) rfl rfl ?_
          exact jX.sub (jsb_c rfl (jsb_c rfl (jsb_c rfl (jsb_c rfl (jsb_c rfl (jsb_c rfl jsb_n)))))) (ih l2 l3 v12 v16 u15 u14 h (by omega) (jr_of rfl (by omega)) (jr_of rfl (by omega)) (jr_of rfl (by omega)) (jr_of rfl (by omega)) (jr_of rfl (by omega)) (jr_of rfl (by omega)) (by omega) qu15 qu14 (by omega) J Sm)
        ·
          refine x_goto (tgt := 77) rfl rfl ?_
          exact jX.sub (jsb_c rfl (jsb_c rfl (jsb_c rfl (jsb_c rfl jsb_n)))) (ct_X2_readTest_r95_c2_77 hD hQ k4 l2 l3 u4 u3 h (jr_of rfl (by omega)) (jr_of rfl (by omega)) (jr_of rfl (by omega)) (jr_of rfl (by omega)) (by omega) (jmc S8 rfl (jmc S7 rfl qu4)) (jmc S8 rfl (jmc S7 rfl qu3)) (by omega) J Sm)
      ·
        refine x_iconst (v := 0) rfl ki_0 ?_
        refine x_zret rfl rfl (by decide) ?_
        exact hQ _ _ (jr_of jk_0 (by omega)) J Sm _ _ qu3 qu4 (by omega)
set_option maxRecDepth 100000 in
set_option maxHeartbeats 4000000 in
theorem ct_X2_readTest_r95_c2_4 {Dy : jH → Prop} {h0 : jH} {Q : Option Value → jH → Prop} (hD : jDk Dy) (hQ : ∀ (v : Int32) hx9, 0 ≤ v.toInt ∧ v.toInt ≤ 1 → jJ jSgX Dy hx9 → jSm fp_X2_readTest_r95_c2 h0 hx9 → ∀ u0 u1 : Int32, jiv hx9 68 5 = u0 → jiv hx9 68 3 = u1 → (u0.toInt ≠ 3 ∨ u1.toInt ≤ 399) → Q (some (.int v)) hx9) : ∀ r : Nat, ∀ (l2 : Int32) (l3 : Int32) (g0 : Int32) (g1 : Int32) (h : jH), 400 - l3.toInt < (r : Int) → (-1) ≤ l2.toInt ∧ l2.toInt ≤ 1199 → 0 ≤ l3.toInt ∧ l3.toInt ≤ 400 → 0 ≤ g0.toInt ∧ g0.toInt ≤ 400 → 0 ≤ g1.toInt ∧ g1.toInt ≤ 3 → (g1.toInt ≠ 3 ∨ g0.toInt ≤ 399) → jiv h 68 3 = g0 → jiv h 68 5 = g1 → jJ jSgX Dy h → jSm fp_X2_readTest_r95_c2 h0 h → jX m_X2_readTest 20 0 0 4 [(0, .ref 95), (1, .int 2), (2, .int l2), (3, .int l3)] [] h 0 0 Q := by
  intro r
  induction r with
  | zero =>
    intro l2 l3 g0 g1 h hm y0 y1 y2 y3 y4 z0 z1  J Sm
    exfalso
    omega
  | succ r ih =>
    intro l2 l3 g0 g1 h hm y0 y1 y2 y3 y4 z0 z1  J Sm
    refine x_iloadn (x := l3) rfl rfl ?_
    refine x_sipush (v := 400) rfl ks_400 ?_
    refine x_icge (tgt := 116) rfl rfl (ti_ge rfl jk_400 ⟨fun c1 => ?_, fun c1 => ?_⟩)
    ·
      refine x_aloadn (x := 95) rfl rfl ?_
      refine z_getR (N := 6) (b := 68) 2 0 rfl f_2_30 rfl J rfl 12160 ⟨rfl, rfl⟩ rfl ?_
      refine x_inv (N := m_X9_blame) (As := []) (b := 68) (st := []) (dx9 := 19) (mc := 0) (ms := 0) (host := "") 9 rfl t_X9_blame ⟨Or.inl q_2_59, i_X9_blame.1, i_X9_blame.2⟩ ⟨by decide, rfl⟩ (congrArg Prod.fst (J.1.1 68 (9, 6) rfl)) rfl (by decide) rfl rfl ⟨by decide, by decide⟩ (jC.of rfl k_X9_blame rfl ?_)
      show jX m_X9_blame 19 0 0 0 [(0, .ref 68)] [] _ 0 0 _
      refine x_aloadn (x := 68) rfl rfl ?_
      refine x_aloadn (x := 68) rfl rfl ?_
      refine z_getM (N := 6) (v := g0) 9 3 rfl f_9_22 rfl J rfl z0 ?_
      refine z_putI (N := 6) (w := g0.toInt) 9 2 rfl f_9_19 rfl (jfin_no TX9 RX9 6 rfl rfl) hD J Sm rfl rfl rfl (pw_68_2 (by omega)) rfl (fun h w2 J Sm => ?_)
      refine x_iconst (v := 0) rfl ki_0 ?_
      refine x_zret rfl rfl (by decide) ?_
      show jX m_X2_readTest 20 0 0 123 [(0, .ref 95), (1, .int 2), (2, .int l2), (3, .int l3)] [.int 0] _ 0 0 _
      refine x_zret rfl rfl (by decide) ?_
      exact hQ _ _ (jr_of jk_0 (by omega)) J Sm _ _ (jmo w2 rfl z1) (jmo w2 rfl z0) (by omega)
    ·
      refine x_iconst (v := (-1)) rfl ki_m1 ?_
      refine x_istore (lsx9 := [(4, .int (-1)), (0, .ref 95), (1, .int 2), (2, .int l2), (3, .int l3)]) rfl rfl rfl ?_
      refine x_iconst (v := 0) rfl ki_0 ?_
      refine x_istore (lsx9 := [(5, .int 0), (4, .int (-1)), (0, .ref 95), (1, .int 2), (2, .int l2), (3, .int l3)]) rfl rfl rfl ?_
      exact jX.sub (jsb_c rfl (jsb_c rfl (jsb_c rfl (jsb_c rfl (jsb_c rfl (jsb_c rfl jsb_n)))))) (ct_X2_readTest_r95_c2_17 hD hQ ih 401 l2 l3 (-1) 0 g0 g1 h (by have := jk_0; omega) (jr_of rfl (by omega)) (jr_of rfl (by omega)) (jr_of jk_m1 (by omega)) (jr_of jk_0 (by omega)) (jr_of rfl (by omega)) (jr_of rfl (by omega)) (by omega) z0 z1 (by omega) J Sm)
set_option maxRecDepth 100000 in
set_option maxHeartbeats 4000000 in
theorem sf_X2_readTest_r95_c2 {Dy : jH → Prop} {h : jH} {Q : Option Value → jH → Prop} (hD : jDk Dy) (J : jJ jSgX Dy h) {p0 p1 : Int32} (zp0 : jiv h 68 5 = p0) (zp1 : jiv h 68 3 = p1) (rl_p0 : (p0.toInt ≠ 3 ∨ p1.toInt ≤ 399)) (hQ : ∀ (v : Int32) hx9, 0 ≤ v.toInt ∧ v.toInt ≤ 1 → jJ jSgX Dy hx9 → jSm fp_X2_readTest_r95_c2 h hx9 → ∀ u0 u1 : Int32, jiv hx9 68 5 = u0 → jiv hx9 68 3 = u1 → (u0.toInt ≠ 3 ∨ u1.toInt ≤ 399) → Q (some (.int v)) hx9) : jC m_X2_readTest 20 0 0 [.ref 95, .int 2] h Q := by
  refine jC.of rfl k_X2_readTest rfl ?_
  have Sm := jSm_rf fp_X2_readTest_r95_c2 h
  have ep0 := (show 0 ≤ p0.toInt ∧ p0.toInt ≤ 3 from zp0 ▸ jrg_f J sg_68_5_6_1_0_1)
  have ep1 := (show 0 ≤ p1.toInt ∧ p1.toInt ≤ 400 from zp1 ▸ jrg_f J sg_68_3_4_1_0_1)
  show jX m_X2_readTest 20 0 0 0 [(0, .ref 95), (1, .int 2)] [] _ 0 0 _
  refine x_iconst (v := (-1)) rfl ki_m1 ?_
  refine x_istoren (lsx9 := [(2, .int (-1)), (0, .ref 95), (1, .int 2)]) rfl rfl rfl ?_
  refine x_iconst (v := 0) rfl ki_0 ?_
  refine x_istoren (lsx9 := [(3, .int 0), (2, .int (-1)), (0, .ref 95), (1, .int 2)]) rfl rfl rfl ?_
  exact jX.sub (jsb_c rfl (jsb_c rfl (jsb_c rfl (jsb_c rfl jsb_n)))) (ct_X2_readTest_r95_c2_4 hD hQ  401 (-1) 0 p1 p0 h (by have := jk_0; omega) (jr_of jk_m1 (by omega)) (jr_of jk_0 (by omega)) (jr_of rfl (by omega)) (jr_of rfl (by omega)) (by omega) zp1 zp0 J Sm)
def fp_X2_readPlain_r95_c1 : jFp := [(68, 2, 3), (68, 3, 4), (68, 4, 5), (68, 5, 6), (95, 4, 5), (95, 5, 6), (97, 0, 1200)]
set_option maxRecDepth 100000 in
set_option maxHeartbeats 4000000 in
theorem ct_X2_readPlain_r95_c1_239 {Dy : jH → Prop} {h0 : jH} {Q : Option Value → jH → Prop} (hD : jDk Dy) (hQ : ∀ (v : Int32) hx9, 0 ≤ v.toInt ∧ v.toInt ≤ 1 → jJ jSgX Dy hx9 → jSm fp_X2_readPlain_r95_c1 h0 hx9 → ∀ u0 u1 : Int32, jiv hx9 68 5 = u0 → jiv hx9 68 3 = u1 → (u0.toInt ≠ 3 ∨ u1.toInt ≤ 399) → Q (some (.int v)) hx9) : ∀ (g0 : Int32) (g1 : Int32) (h : jH), 0 ≤ g0.toInt ∧ g0.toInt ≤ 400 → 0 ≤ g1.toInt ∧ g1.toInt ≤ 3 → (g1.toInt ≠ 3 ∨ g0.toInt ≤ 399) → jiv h 68 3 = g0 → jiv h 68 5 = g1 → jJ jSgX Dy h → jSm fp_X2_readPlain_r95_c1 h0 h → jX m_X2_readPlain 21 0 0 239 [] [] h 0 0 Q := by
  intro g0 g1 h y0 y1 y2 z0 z1  J Sm
  refine x_iconst (v := 1) rfl ki_1 ?_
  refine x_zret rfl rfl (by decide) ?_
  exact hQ _ _ (jr_of jk_1 (by omega)) J Sm _ _ z1 z0 (by omega)
set_option maxRecDepth 100000 in
set_option maxHeartbeats 4000000 in
theorem ct_X2_readPlain_r95_c1_229 {Dy : jH → Prop} {h0 : jH} {Q : Option Value → jH → Prop} (hD : jDk Dy) (hQ : ∀ (v : Int32) hx9, 0 ≤ v.toInt ∧ v.toInt ≤ 1 → jJ jSgX Dy hx9 → jSm fp_X2_readPlain_r95_c1 h0 hx9 → ∀ u0 u1 : Int32, jiv hx9 68 5 = u0 → jiv hx9 68 3 = u1 → (u0.toInt ≠ 3 ∨ u1.toInt ≤ 399) → Q (some (.int v)) hx9) : ∀ (l2 : Int32) (g0 : Int32) (g1 : Int32) (h : jH), 0 ≤ l2.toInt ∧ l2.toInt ≤ 1 → 0 ≤ g0.toInt ∧ g0.toInt ≤ 400 → 0 ≤ g1.toInt ∧ g1.toInt ≤ 3 → (g1.toInt ≠ 3 ∨ g0.toInt ≤ 399) → jiv h 68 3 = g0 → jiv h 68 5 = g1 → jJ jSgX Dy h → jSm fp_X2_readPlain_r95_c1 h0 h → jX m_X2_readPlain 21 0 0 229 [(0, .ref 95), (2, .int l2)] [] h 0 0 Q := by
  intro l2 g0 g1 h y0 y1 y2 y3 z0 z1  J Sm
  refine x_iloadn (x := l2) rfl rfl ?_
  refine x_ifeq (tgt := 239) rfl rfl (ti_eq rfl jk_0 ⟨fun c1 => ?_, fun c1 => ?_⟩)
  ·
    exact jX.sub jsb_n (ct_X2_readPlain_r95_c1_239 hD hQ  g0 g1 h (jr_of rfl (by omega)) (jr_of rfl (by omega)) (by omega) z0 z1 J Sm)
  ·
    refine x_aloadn (x := 95) rfl rfl ?_
    refine x_bipush (v := 10) rfl kb_10 ?_
    refine x_inv (N := m_X2_emit) (As := [.int 10]) (b := 95) (st := []) (dx9 := 1) (mc := 0) (ms := 0) (host := "") 2 rfl t_X2_emit ⟨Or.inl q_2_89, i_X2_emit.1, i_X2_emit.2⟩ ⟨by decide, rfl⟩ (congrArg Prod.fst (J.1.1 95 (2, 6) rfl)) rfl (by decide) rfl rfl ⟨by decide, by decide⟩ (sf_X2_emit_r95  hD J  (fun h J S2 => ?_))
    have Sm := jSm_tr rfl Sm S2
    show jX m_X2_readPlain 21 0 0 239 [(0, .ref 95), (2, .int l2)] [] _ 0 0 _
    exact jX.sub jsb_n (ct_X2_readPlain_r95_c1_239 hD hQ  g0 g1 h (jr_of rfl (by omega)) (jr_of rfl (by omega)) (by omega) (jmc S2 rfl z0) (jmc S2 rfl z1) J Sm)
set_option maxRecDepth 100000 in
set_option maxHeartbeats 4000000 in
theorem ct_X2_readPlain_r95_c1_100190 {Dy : jH → Prop} {h0 : jH} {Q : Option Value → jH → Prop} (hD : jDk Dy) (hQ : ∀ (v : Int32) hx9, 0 ≤ v.toInt ∧ v.toInt ≤ 1 → jJ jSgX Dy hx9 → jSm fp_X2_readPlain_r95_c1 h0 hx9 → ∀ u0 u1 : Int32, jiv hx9 68 5 = u0 → jiv hx9 68 3 = u1 → (u0.toInt ≠ 3 ∨ u1.toInt ≤ 399) → Q (some (.int v)) hx9) : ∀ (l2 : Int32) (g0 : Int32) (g1 : Int32) (h : jH), 0 ≤ l2.toInt ∧ l2.toInt ≤ 1 → 0 ≤ g0.toInt ∧ g0.toInt ≤ 400 → 0 ≤ g1.toInt ∧ g1.toInt ≤ 3 → (g1.toInt ≠ 3 ∨ g0.toInt ≤ 399) → jiv h 68 3 = g0 → jiv h 68 5 = g1 → jJ jSgX Dy h → jSm fp_X2_readPlain_r95_c1 h0 h → jX m_X2_readPlain 21 0 0 190 [(0, .ref 95), (1, .int 1), (2, .int l2)] [.int (-1)] h 0 0 Q := by
  intro l2 g0 g1 h y0 y1 y2 y3 z0 z1  J Sm
  refine x_istore (lsx9 := [(4, .int (-1)), (0, .ref 95), (1, .int 1), (2, .int l2)]) rfl rfl rfl ?_
  refine x_iload (x := (-1)) rfl rfl ?_
  refine x_iconst (v := (-1)) rfl ki_m1 ?_
  refine x_icne (tgt := 206) rfl rfl (ti_ne jk_m1 jk_m1 (bn_f (by omega) ?_))
  refine x_aloadn (x := 95) rfl rfl ?_
  refine z_getR (N := 6) (b := 68) 2 0 rfl f_2_30 rfl J rfl 12160 ⟨rfl, rfl⟩ rfl ?_
  refine x_inv (N := m_X9_blame) (As := []) (b := 68) (st := []) (dx9 := 20) (mc := 0) (ms := 0) (host := "") 9 rfl t_X9_blame ⟨Or.inl q_2_59, i_X9_blame.1, i_X9_blame.2⟩ ⟨by decide, rfl⟩ (congrArg Prod.fst (J.1.1 68 (9, 6) rfl)) rfl (by decide) rfl rfl ⟨by decide, by decide⟩ (jC.of rfl k_X9_blame rfl ?_)
  show jX m_X9_blame 20 0 0 0 [(0, .ref 68)] [] _ 0 0 _
  refine x_aloadn (x := 68) rfl rfl ?_
  refine x_aloadn (x := 68) rfl rfl ?_
  refine z_getM (N := 6) (v := g0) 9 3 rfl f_9_22 rfl J rfl z0 ?_
  refine z_putI (N := 6) (w := g0.toInt) 9 2 rfl f_9_19 rfl (jfin_no TX9 RX9 6 rfl rfl) hD J Sm rfl rfl rfl (pw_68_2 (by omega)) rfl (fun h w1 J Sm => ?_)
  refine x_iconst (v := 0) rfl ki_0 ?_
  refine x_zret rfl rfl (by decide) ?_
  show jX m_X2_readPlain 21 0 0 205 [(4, .int (-1)), (0, .ref 95), (1, .int 1), (2, .int l2)] [.int 0] _ 0 0 _
  refine x_zret rfl rfl (by decide) ?_
  exact hQ _ _ (jr_of jk_0 (by omega)) J Sm _ _ (jmo w1 rfl z1) (jmo w1 rfl z0) (by omega)
set_option maxRecDepth 100000 in
set_option maxHeartbeats 4000000 in
theorem ct_X2_readPlain_r95_c1_190 {Dy : jH → Prop} {h0 : jH} {Q : Option Value → jH → Prop} (hD : jDk Dy) (hQ : ∀ (v : Int32) hx9, 0 ≤ v.toInt ∧ v.toInt ≤ 1 → jJ jSgX Dy hx9 → jSm fp_X2_readPlain_r95_c1 h0 hx9 → ∀ u0 u1 : Int32, jiv hx9 68 5 = u0 → jiv hx9 68 3 = u1 → (u0.toInt ≠ 3 ∨ u1.toInt ≤ 399) → Q (some (.int v)) hx9) : ∀ (l2 : Int32) (g0 : Int32) (g1 : Int32) (h : jH), 0 ≤ l2.toInt ∧ l2.toInt ≤ 1 → 0 ≤ g0.toInt ∧ g0.toInt ≤ 400 → 0 ≤ g1.toInt ∧ g1.toInt ≤ 3 → (g1.toInt ≠ 3 ∨ g0.toInt ≤ 399) → jiv h 68 3 = g0 → jiv h 68 5 = g1 → jJ jSgX Dy h → jSm fp_X2_readPlain_r95_c1 h0 h → jX m_X2_readPlain 21 0 0 190 [(0, .ref 95), (1, .int 1), (2, .int l2)] [.int 9] h 0 0 Q := by
  intro l2 g0 g1 h y0 y1 y2 y3 z0 z1  J Sm
  refine x_istore (lsx9 := [(4, .int 9), (0, .ref 95), (1, .int 1), (2, .int l2)]) rfl rfl rfl ?_
  refine x_iload (x := 9) rfl rfl ?_
  refine x_iconst (v := (-1)) rfl ki_m1 ?_
  refine x_icne (tgt := 206) rfl rfl (ti_ne jk_9 jk_m1 (bn_t (by omega) ?_))
  refine x_aloadn (x := 95) rfl rfl ?_
  refine z_getR (N := 6) (b := 68) 2 0 rfl f_2_30 rfl J rfl 12160 ⟨rfl, rfl⟩ rfl ?_
  refine x_inv (N := m_X9_step) (As := []) (b := 68) (st := []) (dx9 := 2) (mc := 0) (ms := 0) (host := "") 9 rfl t_X9_step ⟨Or.inl q_2_62, i_X9_step.1, i_X9_step.2⟩ ⟨by decide, rfl⟩ (congrArg Prod.fst (J.1.1 68 (9, 6) rfl)) rfl (by decide) rfl rfl ⟨by decide, by decide⟩ (sf_X9_step_r68  hD J z1 z0 (by omega)  (fun h J S1 u2 u3 qu2 qu3 ru2 => ?_))
  have Sm := jSm_tr rfl Sm S1
  have eu2 := (show 0 ≤ u2.toInt ∧ u2.toInt ≤ 3 from qu2 ▸ jrg_f J sg_68_5_6_1_0_1)
  have eu3 := (show 0 ≤ u3.toInt ∧ u3.toInt ≤ 400 from qu3 ▸ jrg_f J sg_68_3_4_1_0_1)
  show jX m_X2_readPlain 21 0 0 213 [(4, .int 9), (0, .ref 95), (1, .int 1), (2, .int l2)] [] _ 0 0 _
  refine x_aloadn (x := 95) rfl rfl ?_
  refine x_iloadn (x := 1) rfl rfl ?_
  refine x_inv (N := m_X2_readSum) (As := [.int 1]) (b := 95) (st := []) (dx9 := 20) (mc := 0) (ms := 0) (host := "") 2 rfl t_X2_readSum ⟨Or.inl q_2_86, i_X2_readSum.1, i_X2_readSum.2⟩ ⟨by decide, rfl⟩ (congrArg Prod.fst (J.1.1 95 (2, 6) rfl)) rfl (by decide) rfl rfl ⟨by decide, by decide⟩ (sf_X2_readSum_r95_c1  hD J qu2 qu3 (by omega)  (fun v7 h ev7 J S4 u5 u6 qu5 qu6 ru5 => ?_))
  have Sm := jSm_tr rfl Sm S4
  have eu5 := (show 0 ≤ u5.toInt ∧ u5.toInt ≤ 3 from qu5 ▸ jrg_f J sg_68_5_6_1_0_1)
  have eu6 := (show 0 ≤ u6.toInt ∧ u6.toInt ≤ 400 from qu6 ▸ jrg_f J sg_68_3_4_1_0_1)
  show jX m_X2_readPlain 21 0 0 218 [(4, .int 9), (0, .ref 95), (1, .int 1), (2, .int l2)] [.int v7] _ 0 0 _
  refine x_ifne (tgt := 223) rfl rfl (ti_ne rfl jk_0 ⟨fun c8 => ?_, fun c8 => ?_⟩)
  ·
    refine x_aloadn (x := 95) rfl rfl ?_
    refine x_iload (x := 9) rfl rfl ?_
    refine x_inv (N := m_X2_emit) (As := [.int 9]) (b := 95) (st := []) (dx9 := 1) (mc := 0) (ms := 0) (host := "") 2 rfl t_X2_emit ⟨Or.inl q_2_89, i_X2_emit.1, i_X2_emit.2⟩ ⟨by decide, rfl⟩ (congrArg Prod.fst (J.1.1 95 (2, 6) rfl)) rfl (by decide) rfl rfl ⟨by decide, by decide⟩ (sf_X2_emit_r95  hD J  (fun h J S9 => ?_))
    have Sm := jSm_tr rfl Sm S9
    show jX m_X2_readPlain 21 0 0 229 [(4, .int 9), (0, .ref 95), (1, .int 1), (2, .int l2)] [] _ 0 0 _
    exact jX.sub (jsb_c rfl (jsb_c rfl jsb_n)) (ct_X2_readPlain_r95_c1_229 hD hQ  l2 u6 u5 h (jr_of rfl (by omega)) (jr_of rfl (by omega)) (jr_of rfl (by omega)) (by omega) (jmc S9 rfl qu6) (jmc S9 rfl qu5) J Sm)
  ·
    refine x_iconst (v := 0) rfl ki_0 ?_
    refine x_zret rfl rfl (by decide) ?_
    exact hQ _ _ (jr_of jk_0 (by omega)) J Sm _ _ qu5 qu6 (by omega)
set_option maxRecDepth 100000 in
set_option maxHeartbeats 4000000 in
theorem ct_X2_readPlain_r95_c1_1000190 {Dy : jH → Prop} {h0 : jH} {Q : Option Value → jH → Prop} (hD : jDk Dy) (hQ : ∀ (v : Int32) hx9, 0 ≤ v.toInt ∧ v.toInt ≤ 1 → jJ jSgX Dy hx9 → jSm fp_X2_readPlain_r95_c1 h0 hx9 → ∀ u0 u1 : Int32, jiv hx9 68 5 = u0 → jiv hx9 68 3 = u1 → (u0.toInt ≠ 3 ∨ u1.toInt ≤ 399) → Q (some (.int v)) hx9) : ∀ (l2 : Int32) (g0 : Int32) (g1 : Int32) (h : jH), 0 ≤ l2.toInt ∧ l2.toInt ≤ 1 → 0 ≤ g0.toInt ∧ g0.toInt ≤ 400 → 0 ≤ g1.toInt ∧ g1.toInt ≤ 3 → (g1.toInt ≠ 3 ∨ g0.toInt ≤ 399) → jiv h 68 3 = g0 → jiv h 68 5 = g1 → jJ jSgX Dy h → jSm fp_X2_readPlain_r95_c1 h0 h → jX m_X2_readPlain 21 0 0 190 [(0, .ref 95), (1, .int 1), (2, .int l2)] [.int 8] h 0 0 Q := by
  intro l2 g0 g1 h y0 y1 y2 y3 z0 z1  J Sm
  refine x_istore (lsx9 := [(4, .int 8), (0, .ref 95), (1, .int 1), (2, .int l2)]) rfl rfl rfl ?_
  refine x_iload (x := 8) rfl rfl ?_
  refine x_iconst (v := (-1)) rfl ki_m1 ?_
  refine x_icne (tgt := 206) rfl rfl (ti_ne jk_8 jk_m1 (bn_t (by omega) ?_))
  refine x_aloadn (x := 95) rfl rfl ?_
  refine z_getR (N := 6) (b := 68) 2 0 rfl f_2_30 rfl J rfl 12160 ⟨rfl, rfl⟩ rfl ?_
  refine x_inv (N := m_X9_step) (As := []) (b := 68) (st := []) (dx9 := 2) (mc := 0) (ms := 0) (host := "") 9 rfl t_X9_step ⟨Or.inl q_2_62, i_X9_step.1, i_X9_step.2⟩ ⟨by decide, rfl⟩ (congrArg Prod.fst (J.1.1 68 (9, 6) rfl)) rfl (by decide) rfl rfl ⟨by decide, by decide⟩ (sf_X9_step_r68  hD J z1 z0 (by omega)  (fun h J S1 u2 u3 qu2 qu3 ru2 => ?_))
  have Sm := jSm_tr rfl Sm S1
  have eu2 := (show 0 ≤ u2.toInt ∧ u2.toInt ≤ 3 from qu2 ▸ jrg_f J sg_68_5_6_1_0_1)
  have eu3 := (show 0 ≤ u3.toInt ∧ u3.toInt ≤ 400 from qu3 ▸ jrg_f J sg_68_3_4_1_0_1)
  show jX m_X2_readPlain 21 0 0 213 [(4, .int 8), (0, .ref 95), (1, .int 1), (2, .int l2)] [] _ 0 0 _
  refine x_aloadn (x := 95) rfl rfl ?_
  refine x_iloadn (x := 1) rfl rfl ?_
  refine x_inv (N := m_X2_readSum) (As := [.int 1]) (b := 95) (st := []) (dx9 := 20) (mc := 0) (ms := 0) (host := "") 2 rfl t_X2_readSum ⟨Or.inl q_2_86, i_X2_readSum.1, i_X2_readSum.2⟩ ⟨by decide, rfl⟩ (congrArg Prod.fst (J.1.1 95 (2, 6) rfl)) rfl (by decide) rfl rfl ⟨by decide, by decide⟩ (sf_X2_readSum_r95_c1  hD J qu2 qu3 (by omega)  (fun v7 h ev7 J S4 u5 u6 qu5 qu6 ru5 => ?_))
  have Sm := jSm_tr rfl Sm S4
  have eu5 := (show 0 ≤ u5.toInt ∧ u5.toInt ≤ 3 from qu5 ▸ jrg_f J sg_68_5_6_1_0_1)
  have eu6 := (show 0 ≤ u6.toInt ∧ u6.toInt ≤ 400 from qu6 ▸ jrg_f J sg_68_3_4_1_0_1)
  show jX m_X2_readPlain 21 0 0 218 [(4, .int 8), (0, .ref 95), (1, .int 1), (2, .int l2)] [.int v7] _ 0 0 _
  refine x_ifne (tgt := 223) rfl rfl (ti_ne rfl jk_0 ⟨fun c8 => ?_, fun c8 => ?_⟩)
  ·
    refine x_aloadn (x := 95) rfl rfl ?_
    refine x_iload (x := 8) rfl rfl ?_
    refine x_inv (N := m_X2_emit) (As := [.int 8]) (b := 95) (st := []) (dx9 := 1) (mc := 0) (ms := 0) (host := "") 2 rfl t_X2_emit ⟨Or.inl q_2_89, i_X2_emit.1, i_X2_emit.2⟩ ⟨by decide, rfl⟩ (congrArg Prod.fst (J.1.1 95 (2, 6) rfl)) rfl (by decide) rfl rfl ⟨by decide, by decide⟩ (sf_X2_emit_r95  hD J  (fun h J S9 => ?_))
    have Sm := jSm_tr rfl Sm S9
    show jX m_X2_readPlain 21 0 0 229 [(4, .int 8), (0, .ref 95), (1, .int 1), (2, .int l2)] [] _ 0 0 _
    exact jX.sub (jsb_c rfl (jsb_c rfl jsb_n)) (ct_X2_readPlain_r95_c1_229 hD hQ  l2 u6 u5 h (jr_of rfl (by omega)) (jr_of rfl (by omega)) (jr_of rfl (by omega)) (by omega) (jmc S9 rfl qu6) (jmc S9 rfl qu5) J Sm)
  ·
    refine x_iconst (v := 0) rfl ki_0 ?_
    refine x_zret rfl rfl (by decide) ?_
    exact hQ _ _ (jr_of jk_0 (by omega)) J Sm _ _ qu5 qu6 (by omega)
set_option maxRecDepth 100000 in
set_option maxHeartbeats 4000000 in
theorem ct_X2_readPlain_r95_c1_900190 {Dy : jH → Prop} {h0 : jH} {Q : Option Value → jH → Prop} (hD : jDk Dy) (hQ : ∀ (v : Int32) hx9, 0 ≤ v.toInt ∧ v.toInt ≤ 1 → jJ jSgX Dy hx9 → jSm fp_X2_readPlain_r95_c1 h0 hx9 → ∀ u0 u1 : Int32, jiv hx9 68 5 = u0 → jiv hx9 68 3 = u1 → (u0.toInt ≠ 3 ∨ u1.toInt ≤ 399) → Q (some (.int v)) hx9) : ∀ (l2 : Int32) (g0 : Int32) (g1 : Int32) (h : jH), 0 ≤ l2.toInt ∧ l2.toInt ≤ 1 → 0 ≤ g0.toInt ∧ g0.toInt ≤ 400 → 0 ≤ g1.toInt ∧ g1.toInt ≤ 3 → (g1.toInt ≠ 3 ∨ g0.toInt ≤ 399) → jiv h 68 3 = g0 → jiv h 68 5 = g1 → jJ jSgX Dy h → jSm fp_X2_readPlain_r95_c1 h0 h → jX m_X2_readPlain 21 0 0 190 [(0, .ref 95), (1, .int 1), (2, .int l2)] [.int 7] h 0 0 Q := by
  intro l2 g0 g1 h y0 y1 y2 y3 z0 z1  J Sm
  refine x_istore (lsx9 := [(4, .int 7), (0, .ref 95), (1, .int 1), (2, .int l2)]) rfl rfl rfl ?_
  refine x_iload (x := 7) rfl rfl ?_
  refine x_iconst (v := (-1)) rfl ki_m1 ?_
  refine x_icne (tgt := 206) rfl rfl (ti_ne jk_7 jk_m1 (bn_t (by omega) ?_))
  refine x_aloadn (x := 95) rfl rfl ?_
  refine z_getR (N := 6) (b := 68) 2 0 rfl f_2_30 rfl J rfl 12160 ⟨rfl, rfl⟩ rfl ?_
  refine x_inv (N := m_X9_step) (As := []) (b := 68) (st := []) (dx9 := 2) (mc := 0) (ms := 0) (host := "") 9 rfl t_X9_step ⟨Or.inl q_2_62, i_X9_step.1, i_X9_step.2⟩ ⟨by decide, rfl⟩ (congrArg Prod.fst (J.1.1 68 (9, 6) rfl)) rfl (by decide) rfl rfl ⟨by decide, by decide⟩ (sf_X9_step_r68  hD J z1 z0 (by omega)  (fun h J S1 u2 u3 qu2 qu3 ru2 => ?_))
  have Sm := jSm_tr rfl Sm S1
  have eu2 := (show 0 ≤ u2.toInt ∧ u2.toInt ≤ 3 from qu2 ▸ jrg_f J sg_68_5_6_1_0_1)
  have eu3 := (show 0 ≤ u3.toInt ∧ u3.toInt ≤ 400 from qu3 ▸ jrg_f J sg_68_3_4_1_0_1)
  show jX m_X2_readPlain 21 0 0 213 [(4, .int 7), (0, .ref 95), (1, .int 1), (2, .int l2)] [] _ 0 0 _
  refine x_aloadn (x := 95) rfl rfl ?_
  refine x_iloadn (x := 1) rfl rfl ?_
  refine x_inv (N := m_X2_readSum) (As := [.int 1]) (b := 95) (st := []) (dx9 := 20) (mc := 0) (ms := 0) (host := "") 2 rfl t_X2_readSum ⟨Or.inl q_2_86, i_X2_readSum.1, i_X2_readSum.2⟩ ⟨by decide, rfl⟩ (congrArg Prod.fst (J.1.1 95 (2, 6) rfl)) rfl (by decide) rfl rfl ⟨by decide, by decide⟩ (sf_X2_readSum_r95_c1  hD J qu2 qu3 (by omega)  (fun v7 h ev7 J S4 u5 u6 qu5 qu6 ru5 => ?_))
  have Sm := jSm_tr rfl Sm S4
  have eu5 := (show 0 ≤ u5.toInt ∧ u5.toInt ≤ 3 from qu5 ▸ jrg_f J sg_68_5_6_1_0_1)
  have eu6 := (show 0 ≤ u6.toInt ∧ u6.toInt ≤ 400 from qu6 ▸ jrg_f J sg_68_3_4_1_0_1)
  show jX m_X2_readPlain 21 0 0 218 [(4, .int 7), (0, .ref 95), (1, .int 1), (2, .int l2)] [.int v7] _ 0 0 _
  refine x_ifne (tgt := 223) rfl rfl (ti_ne rfl jk_0 ⟨fun c8 => ?_, fun c8 => ?_⟩)
  ·
    refine x_aloadn (x := 95) rfl rfl ?_
    refine x_iload (x := 7) rfl rfl ?_
    refine x_inv (N := m_X2_emit) (As := [.int 7]) (b := 95) (st := []) (dx9 := 1) (mc := 0) (ms := 0) (host := "") 2 rfl t_X2_emit ⟨Or.inl q_2_89, i_X2_emit.1, i_X2_emit.2⟩ ⟨by decide, rfl⟩ (congrArg Prod.fst (J.1.1 95 (2, 6) rfl)) rfl (by decide) rfl rfl ⟨by decide, by decide⟩ (sf_X2_emit_r95  hD J  (fun h J S9 => ?_))
    have Sm := jSm_tr rfl Sm S9
    show jX m_X2_readPlain 21 0 0 229 [(4, .int 7), (0, .ref 95), (1, .int 1), (2, .int l2)] [] _ 0 0 _
    exact jX.sub (jsb_c rfl (jsb_c rfl jsb_n)) (ct_X2_readPlain_r95_c1_229 hD hQ  l2 u6 u5 h (jr_of rfl (by omega)) (jr_of rfl (by omega)) (jr_of rfl (by omega)) (by omega) (jmc S9 rfl qu6) (jmc S9 rfl qu5) J Sm)
  ·
    refine x_iconst (v := 0) rfl ki_0 ?_
    refine x_zret rfl rfl (by decide) ?_
    exact hQ _ _ (jr_of jk_0 (by omega)) J Sm _ _ qu5 qu6 (by omega)
set_option maxRecDepth 100000 in
set_option maxHeartbeats 4000000 in
theorem ct_X2_readPlain_r95_c1_108 {Dy : jH → Prop} {h0 : jH} {Q : Option Value → jH → Prop} (hD : jDk Dy) (hQ : ∀ (v : Int32) hx9, 0 ≤ v.toInt ∧ v.toInt ≤ 1 → jJ jSgX Dy hx9 → jSm fp_X2_readPlain_r95_c1 h0 hx9 → ∀ u0 u1 : Int32, jiv hx9 68 5 = u0 → jiv hx9 68 3 = u1 → (u0.toInt ≠ 3 ∨ u1.toInt ≤ 399) → Q (some (.int v)) hx9) : ∀ (g0 : Int32) (g1 : Int32) (h : jH), 0 ≤ g0.toInt ∧ g0.toInt ≤ 400 → 0 ≤ g1.toInt ∧ g1.toInt ≤ 3 → (g1.toInt ≠ 3 ∨ g0.toInt ≤ 399) → jiv h 68 3 = g0 → jiv h 68 5 = g1 → jJ jSgX Dy h → jSm fp_X2_readPlain_r95_c1 h0 h → jX m_X2_readPlain 21 0 0 108 [] [] h 0 0 Q := by
  intro g0 g1 h y0 y1 y2 z0 z1  J Sm
  refine x_iconst (v := 0) rfl ki_0 ?_
  refine x_zret rfl rfl (by decide) ?_
  exact hQ _ _ (jr_of jk_0 (by omega)) J Sm _ _ z1 z0 (by omega)
set_option maxRecDepth 100000 in
set_option maxHeartbeats 4000000 in
theorem ct_X2_readPlain_r95_c1_46 {Dy : jH → Prop} {h0 : jH} {Q : Option Value → jH → Prop} (hD : jDk Dy) (hQ : ∀ (v : Int32) hx9, 0 ≤ v.toInt ∧ v.toInt ≤ 1 → jJ jSgX Dy hx9 → jSm fp_X2_readPlain_r95_c1 h0 hx9 → ∀ u0 u1 : Int32, jiv hx9 68 5 = u0 → jiv hx9 68 3 = u1 → (u0.toInt ≠ 3 ∨ u1.toInt ≤ 399) → Q (some (.int v)) hx9) : ∀ (l2 : Int32) (g0 : Int32) (g1 : Int32) (h : jH), 0 ≤ l2.toInt ∧ l2.toInt ≤ 1 → 0 ≤ g0.toInt ∧ g0.toInt ≤ 400 → 0 ≤ g1.toInt ∧ g1.toInt ≤ 3 → (g1.toInt ≠ 3 ∨ g0.toInt ≤ 399) → jiv h 68 3 = g0 → jiv h 68 5 = g1 → jJ jSgX Dy h → jSm fp_X2_readPlain_r95_c1 h0 h → jX m_X2_readPlain 21 0 0 46 [(0, .ref 95), (1, .int 1), (2, .int l2)] [] h 0 0 Q := by
  intro l2 g0 g1 h y0 y1 y2 y3 z0 z1  J Sm
  refine x_aloadn (x := 95) rfl rfl ?_
  refine z_getR (N := 6) (b := 68) 2 0 rfl f_2_30 rfl J rfl 12160 ⟨rfl, rfl⟩ rfl ?_
  refine x_ldcS (jstr.getD 10 jstr_0) rfl (List.mem_of_getElem? (i := 10) rfl) rfl rfl ?_
  show jX m_X2_readPlain 21 0 0 52 [(0, .ref 95), (1, .int 1), (2, .int l2)] [.ref 15, .ref 68] _ 0 0 _
  refine x_inv (N := m_X9_wordOf) (As := [.ref 15]) (b := 68) (st := []) (dx9 := 4) (mc := 0) (ms := 0) (host := "") 9 rfl t_X9_wordOf ⟨Or.inl q_2_67, i_X9_wordOf.1, i_X9_wordOf.2⟩ ⟨by decide, rfl⟩ (congrArg Prod.fst (J.1.1 68 (9, 6) rfl)) rfl (by decide) rfl rfl ⟨by decide, by decide⟩ (sf_X9_wordOf_r68_r15  hD J  (fun v2 h J S1 => ?_))
  have ev2 := jfull v2
  have Sm := jSm_tr rfl Sm S1
  show jX m_X2_readPlain 21 0 0 55 [(0, .ref 95), (1, .int 1), (2, .int l2)] [.int v2] _ 0 0 _
  refine x_istoren (lsx9 := [(3, .int v2), (0, .ref 95), (1, .int 1), (2, .int l2)]) rfl rfl rfl ?_
  refine x_aloadn (x := 95) rfl rfl ?_
  refine z_getR (N := 6) (b := 68) 2 0 rfl f_2_30 rfl J rfl 12160 ⟨rfl, rfl⟩ rfl ?_
  refine x_bipush (v := 40) rfl kb_40 ?_
  refine x_inv (N := m_X9_isSign) (As := [.int 40]) (b := 68) (st := []) (dx9 := 1) (mc := 0) (ms := 0) (host := "") 9 rfl t_X9_isSign ⟨Or.inl q_2_55, i_X9_isSign.1, i_X9_isSign.2⟩ ⟨by decide, rfl⟩ (congrArg Prod.fst (J.1.1 68 (9, 6) rfl)) rfl (by decide) rfl rfl ⟨by decide, by decide⟩ (sf_X9_isSign_r68 (jr_of jk_40 (by omega)) hD J (jmc S1 rfl z1) (jmc S1 rfl z0) (by omega)  (fun v6 h ev6 J S3 u4 u5 qu4 qu5 ru4 => ?_))
  have Sm := jSm_tr rfl Sm S3
  have eu4 := (show 0 ≤ u4.toInt ∧ u4.toInt ≤ 3 from qu4 ▸ jrg_f J sg_68_5_6_1_0_1)
  have eu5 := (show 0 ≤ u5.toInt ∧ u5.toInt ≤ 400 from qu5 ▸ jrg_f J sg_68_3_4_1_0_1)
  show jX m_X2_readPlain 21 0 0 65 [(3, .int v2), (0, .ref 95), (1, .int 1), (2, .int l2)] [.int v6] _ 0 0 _
  refine x_ifeq (tgt := 110) rfl rfl (ti_eq rfl jk_0 ⟨fun c7 => ?_, fun c7 => ?_⟩)
  ·
    refine x_iloadn (x := v2) rfl rfl ?_
    refine x_iconst (v := (-1)) rfl ki_m1 ?_
    refine x_iceq (tgt := 128) rfl rfl (ti_eq rfl jk_m1 ⟨fun c8 => ?_, fun c8 => ?_⟩)
    ·
      refine x_aloadn (x := 95) rfl rfl ?_
      refine x_iloadn (x := 1) rfl rfl ?_
      refine x_inv (N := m_X2_readSum) (As := [.int 1]) (b := 95) (st := []) (dx9 := 20) (mc := 0) (ms := 0) (host := "") 2 rfl t_X2_readSum ⟨Or.inl q_2_86, i_X2_readSum.1, i_X2_readSum.2⟩ ⟨by decide, rfl⟩ (congrArg Prod.fst (J.1.1 95 (2, 6) rfl)) rfl (by decide) rfl rfl ⟨by decide, by decide⟩ (sf_X2_readSum_r95_c1  hD J qu4 qu5 (by omega)  (fun v12 h ev12 J S9 u10 u11 qu10 qu11 ru10 => ?_))
      have Sm := jSm_tr rfl Sm S9
      have eu10 := (show 0 ≤ u10.toInt ∧ u10.toInt ≤ 3 from qu10 ▸ jrg_f J sg_68_5_6_1_0_1)
      have eu11 := (show 0 ≤ u11.toInt ∧ u11.toInt ≤ 400 from qu11 ▸ jrg_f J sg_68_3_4_1_0_1)
      show jX m_X2_readPlain 21 0 0 133 [(3, .int v2), (0, .ref 95), (1, .int 1), (2, .int l2)] [.int v12] _ 0 0 _
      refine x_ifne (tgt := 138) rfl rfl (ti_ne rfl jk_0 ⟨fun c13 => ?_, fun c13 => ?_⟩)
      ·
        refine x_aloadn (x := 95) rfl rfl ?_
        refine z_getR (N := 6) (b := 68) 2 0 rfl f_2_30 rfl J rfl 12160 ⟨rfl, rfl⟩ rfl ?_
        refine x_bipush (v := 60) rfl kb_60 ?_
        refine x_inv (N := m_X9_isSign) (As := [.int 60]) (b := 68) (st := []) (dx9 := 1) (mc := 0) (ms := 0) (host := "") 9 rfl t_X9_isSign ⟨Or.inl q_2_55, i_X9_isSign.1, i_X9_isSign.2⟩ ⟨by decide, rfl⟩ (congrArg Prod.fst (J.1.1 68 (9, 6) rfl)) rfl (by decide) rfl rfl ⟨by decide, by decide⟩ (sf_X9_isSign_r68 (jr_of jk_60 (by omega)) hD J qu10 qu11 (by omega)  (fun v17 h ev17 J S14 u15 u16 qu15 qu16 ru15 => ?_))
        have Sm := jSm_tr rfl Sm S14
        have eu15 := (show 0 ≤ u15.toInt ∧ u15.toInt ≤ 3 from qu15 ▸ jrg_f J sg_68_5_6_1_0_1)
        have eu16 := (show 0 ≤ u16.toInt ∧ u16.toInt ≤ 400 from qu16 ▸ jrg_f J sg_68_3_4_1_0_1)
        show jX m_X2_readPlain 21 0 0 147 [(3, .int v2), (0, .ref 95), (1, .int 1), (2, .int l2)] [.int v17] _ 0 0 _
        refine x_ifeq (tgt := 155) rfl rfl (ti_eq rfl jk_0 ⟨fun c18 => ?_, fun c18 => ?_⟩)
        ·
          refine x_aloadn (x := 95) rfl rfl ?_
          refine z_getR (N := 6) (b := 68) 2 0 rfl f_2_30 rfl J rfl 12160 ⟨rfl, rfl⟩ rfl ?_
          refine x_bipush (v := 62) rfl kb_62 ?_
          refine x_inv (N := m_X9_isSign) (As := [.int 62]) (b := 68) (st := []) (dx9 := 1) (mc := 0) (ms := 0) (host := "") 9 rfl t_X9_isSign ⟨Or.inl q_2_55, i_X9_isSign.1, i_X9_isSign.2⟩ ⟨by decide, rfl⟩ (congrArg Prod.fst (J.1.1 68 (9, 6) rfl)) rfl (by decide) rfl rfl ⟨by decide, by decide⟩ (sf_X9_isSign_r68 (jr_of jk_62 (by omega)) hD J qu15 qu16 (by omega)  (fun v22 h ev22 J S19 u20 u21 qu20 qu21 ru20 => ?_))
          have Sm := jSm_tr rfl Sm S19
          have eu20 := (show 0 ≤ u20.toInt ∧ u20.toInt ≤ 3 from qu20 ▸ jrg_f J sg_68_5_6_1_0_1)
          have eu21 := (show 0 ≤ u21.toInt ∧ u21.toInt ≤ 400 from qu21 ▸ jrg_f J sg_68_3_4_1_0_1)
          show jX m_X2_readPlain 21 0 0 164 [(3, .int v2), (0, .ref 95), (1, .int 1), (2, .int l2)] [.int v22] _ 0 0 _
          refine x_ifeq (tgt := 172) rfl rfl (ti_eq rfl jk_0 ⟨fun c23 => ?_, fun c23 => ?_⟩)
          ·
            refine x_aloadn (x := 95) rfl rfl ?_
            refine z_getR (N := 6) (b := 68) 2 0 rfl f_2_30 rfl J rfl 12160 ⟨rfl, rfl⟩ rfl ?_
            refine x_bipush (v := 61) rfl kb_61 ?_
            refine x_inv (N := m_X9_isSign) (As := [.int 61]) (b := 68) (st := []) (dx9 := 1) (mc := 0) (ms := 0) (host := "") 9 rfl t_X9_isSign ⟨Or.inl q_2_55, i_X9_isSign.1, i_X9_isSign.2⟩ ⟨by decide, rfl⟩ (congrArg Prod.fst (J.1.1 68 (9, 6) rfl)) rfl (by decide) rfl rfl ⟨by decide, by decide⟩ (sf_X9_isSign_r68 (jr_of jk_61 (by omega)) hD J qu20 qu21 (by omega)  (fun v27 h ev27 J S24 u25 u26 qu25 qu26 ru25 => ?_))
            have Sm := jSm_tr rfl Sm S24
            have eu25 := (show 0 ≤ u25.toInt ∧ u25.toInt ≤ 3 from qu25 ▸ jrg_f J sg_68_5_6_1_0_1)
            have eu26 := (show 0 ≤ u26.toInt ∧ u26.toInt ≤ 400 from qu26 ▸ jrg_f J sg_68_3_4_1_0_1)
            show jX m_X2_readPlain 21 0 0 181 [(3, .int v2), (0, .ref 95), (1, .int 1), (2, .int l2)] [.int v27] _ 0 0 _
            refine x_ifeq (tgt := 189) rfl rfl (ti_eq rfl jk_0 ⟨fun c28 => ?_, fun c28 => ?_⟩)
            ·
              refine x_iconst (v := (-1)) rfl ki_m1 ?_
              exact jX.sub (jsb_c rfl (jsb_c rfl (jsb_c rfl jsb_n))) (ct_X2_readPlain_r95_c1_100190 hD hQ  l2 u26 u25 h (jr_of rfl (by omega)) (jr_of rfl (by omega)) (jr_of rfl (by omega)) (by omega) qu26 qu25 J Sm)
            ·
              refine x_bipush (v := 9) rfl kb_9 ?_
              refine x_goto (tgt := 190) rfl rfl ?_
              exact jX.sub (jsb_c rfl (jsb_c rfl (jsb_c rfl jsb_n))) (ct_X2_readPlain_r95_c1_190 hD hQ  l2 u26 u25 h (jr_of rfl (by omega)) (jr_of rfl (by omega)) (jr_of rfl (by omega)) (by omega) qu26 qu25 J Sm)
          ·
            refine x_bipush (v := 8) rfl kb_8 ?_
            refine x_goto (tgt := 190) rfl rfl ?_
            exact jX.sub (jsb_c rfl (jsb_c rfl (jsb_c rfl jsb_n))) (ct_X2_readPlain_r95_c1_1000190 hD hQ  l2 u21 u20 h (jr_of rfl (by omega)) (jr_of rfl (by omega)) (jr_of rfl (by omega)) (by omega) qu21 qu20 J Sm)
        ·
          refine x_bipush (v := 7) rfl kb_7 ?_
          refine x_goto (tgt := 190) rfl rfl ?_
          exact jX.sub (jsb_c rfl (jsb_c rfl (jsb_c rfl jsb_n))) (ct_X2_readPlain_r95_c1_900190 hD hQ  l2 u16 u15 h (jr_of rfl (by omega)) (jr_of rfl (by omega)) (jr_of rfl (by omega)) (by omega) qu16 qu15 J Sm)
      ·
        refine x_iconst (v := 0) rfl ki_0 ?_
        refine x_zret rfl rfl (by decide) ?_
        exact hQ _ _ (jr_of jk_0 (by omega)) J Sm _ _ qu10 qu11 (by omega)
    ·
      refine x_aloadn (x := 95) rfl rfl ?_
      refine x_iconst (v := 2) rfl ki_2 ?_
      refine x_iconst (v := 5) rfl ki_5 ?_
      refine x_iloadn (x := v2) rfl rfl ?_
      refine z_iadd0 rfl (fun v29 => ?_)
      have ev29 := jfull v29
      refine x_inv (N := m_X2_readPart) (As := [.int 2, .int v29]) (b := 95) (st := []) (dx9 := 3) (mc := 0) (ms := 0) (host := "") 2 rfl t_X2_readPart ⟨Or.inl q_2_141, i_X2_readPart.1, i_X2_readPart.2⟩ ⟨by decide, rfl⟩ (congrArg Prod.fst (J.1.1 95 (2, 6) rfl)) rfl (by decide) rfl rfl ⟨by decide, by decide⟩ (sf_X2_readPart_r95 (jr_of jk_2 (by omega)) hD J qu4 qu5 (by omega)  (fun v33 h ev33 J S30 u31 u32 qu31 qu32 ru31 => ?_))
      have Sm := jSm_tr rfl Sm S30
      have eu31 := (show 0 ≤ u31.toInt ∧ u31.toInt ≤ 3 from qu31 ▸ jrg_f J sg_68_5_6_1_0_1)
      have eu32 := (show 0 ≤ u32.toInt ∧ u32.toInt ≤ 400 from qu32 ▸ jrg_f J sg_68_3_4_1_0_1)
      show jX m_X2_readPlain 21 0 0 123 [(3, .int v2), (0, .ref 95), (1, .int 1), (2, .int l2)] [.int v33] _ 0 0 _
      refine x_ifne (tgt := 229) rfl rfl (ti_ne rfl jk_0 ⟨fun c34 => ?_, fun c34 => ?_⟩)
      ·
        exact jX.sub (jsb_c rfl (jsb_c rfl jsb_n)) (ct_X2_readPlain_r95_c1_229 hD hQ  l2 u32 u31 h (jr_of rfl (by omega)) (jr_of rfl (by omega)) (jr_of rfl (by omega)) (by omega) qu32 qu31 J Sm)
      ·
        refine x_iconst (v := 0) rfl ki_0 ?_
        refine x_zret rfl rfl (by decide) ?_
        exact hQ _ _ (jr_of jk_0 (by omega)) J Sm _ _ qu31 qu32 (by omega)
  ·
    refine x_iloadn (x := 1) rfl rfl ?_
    refine x_bipush (v := 8) rfl kb_8 ?_
    refine x_iclt (tgt := 82) rfl rfl (ti_lt jk_1 jk_8 (br_t (by omega) ?_))
    refine x_aloadn (x := 95) rfl rfl ?_
    refine z_getR (N := 6) (b := 68) 2 0 rfl f_2_30 rfl J rfl 12160 ⟨rfl, rfl⟩ rfl ?_
    refine x_inv (N := m_X9_step) (As := []) (b := 68) (st := []) (dx9 := 2) (mc := 0) (ms := 0) (host := "") 9 rfl t_X9_step ⟨Or.inl q_2_62, i_X9_step.1, i_X9_step.2⟩ ⟨by decide, rfl⟩ (congrArg Prod.fst (J.1.1 68 (9, 6) rfl)) rfl (by decide) rfl rfl ⟨by decide, by decide⟩ (sf_X9_step_r68  hD J qu4 qu5 (by omega)  (fun h J S35 u36 u37 qu36 qu37 ru36 => ?_))
    have Sm := jSm_tr rfl Sm S35
    have eu36 := (show 0 ≤ u36.toInt ∧ u36.toInt ≤ 3 from qu36 ▸ jrg_f J sg_68_5_6_1_0_1)
    have eu37 := (show 0 ≤ u37.toInt ∧ u37.toInt ≤ 400 from qu37 ▸ jrg_f J sg_68_3_4_1_0_1)
    show jX m_X2_readPlain 21 0 0 89 [(3, .int v2), (0, .ref 95), (1, .int 1), (2, .int l2)] [] _ 0 0 _
    refine x_aloadn (x := 95) rfl rfl ?_
    refine x_iloadn (x := 1) rfl rfl ?_
    refine x_iconst (v := 1) rfl ki_1 ?_
    refine y_iadd (v := 2) rfl (by decide) ?_
    refine x_inv (N := m_X2_readTest) (As := [.int 2]) (b := 95) (st := []) (dx9 := 20) (mc := 0) (ms := 0) (host := "") 2 rfl t_X2_readTest ⟨Or.inl q_2_96, i_X2_readTest.1, i_X2_readTest.2⟩ ⟨by decide, rfl⟩ (congrArg Prod.fst (J.1.1 95 (2, 6) rfl)) rfl (by decide) rfl rfl ⟨by decide, by decide⟩ (sf_X2_readTest_r95_c2  hD J qu36 qu37 (by omega)  (fun v41 h ev41 J S38 u39 u40 qu39 qu40 ru39 => ?_))
    have Sm := jSm_tr rfl Sm S38
    have eu39 := (show 0 ≤ u39.toInt ∧ u39.toInt ≤ 3 from qu39 ▸ jrg_f J sg_68_5_6_1_0_1)
    have eu40 := (show 0 ≤ u40.toInt ∧ u40.toInt ≤ 400 from qu40 ▸ jrg_f J sg_68_3_4_1_0_1)
    show jX m_X2_readPlain 21 0 0 96 [(3, .int v2), (0, .ref 95), (1, .int 1), (2, .int l2)] [.int v41] _ 0 0 _
    refine x_ifeq (tgt := 108) rfl rfl (ti_eq rfl jk_0 ⟨fun c42 => ?_, fun c42 => ?_⟩)
    ·
      exact jX.sub jsb_n (ct_X2_readPlain_r95_c1_108 hD hQ  u40 u39 h (jr_of rfl (by omega)) (jr_of rfl (by omega)) (by omega) qu40 qu39 J Sm)
    ·
      refine x_aloadn (x := 95) rfl rfl ?_
      refine x_bipush (v := 41) rfl kb_41 ?_
      refine x_inv (N := m_X2_readSign) (As := [.int 41]) (b := 95) (st := []) (dx9 := 20) (mc := 0) (ms := 0) (host := "") 2 rfl t_X2_readSign ⟨Or.inl q_2_138, i_X2_readSign.1, i_X2_readSign.2⟩ ⟨by decide, rfl⟩ (congrArg Prod.fst (J.1.1 95 (2, 6) rfl)) rfl (by decide) rfl rfl ⟨by decide, by decide⟩ (jC.of rfl k_X2_readSign rfl ?_)
      show jX m_X2_readSign 20 0 0 0 [(0, .ref 95), (1, .int 41)] [] _ 0 0 _
      refine x_aloadn (x := 95) rfl rfl ?_
      refine z_getR (N := 6) (b := 68) 2 0 rfl f_2_30 rfl J rfl 12160 ⟨rfl, rfl⟩ rfl ?_
      refine x_iloadn (x := 41) rfl rfl ?_
      refine x_inv (N := m_X9_isSign) (As := [.int 41]) (b := 68) (st := []) (dx9 := 1) (mc := 0) (ms := 0) (host := "") 9 rfl t_X9_isSign ⟨Or.inl q_2_55, i_X9_isSign.1, i_X9_isSign.2⟩ ⟨by decide, rfl⟩ (congrArg Prod.fst (J.1.1 68 (9, 6) rfl)) rfl (by decide) rfl rfl ⟨by decide, by decide⟩ (sf_X9_isSign_r68 (jr_of jk_41 (by omega)) hD J qu39 qu40 (by omega)  (fun v46 h ev46 J S43 u44 u45 qu44 qu45 ru44 => ?_))
      have Sm := jSm_tr rfl Sm S43
      have eu44 := (show 0 ≤ u44.toInt ∧ u44.toInt ≤ 3 from qu44 ▸ jrg_f J sg_68_5_6_1_0_1)
      have eu45 := (show 0 ≤ u45.toInt ∧ u45.toInt ≤ 400 from qu45 ▸ jrg_f J sg_68_3_4_1_0_1)
      show jX m_X2_readSign 20 0 0 8 [(0, .ref 95), (1, .int 41)] [.int v46] _ 0 0 _
      refine x_ifne (tgt := 19) rfl rfl (ti_ne rfl jk_0 ⟨fun c47 => ?_, fun c47 => ?_⟩)
      ·
        refine x_aloadn (x := 95) rfl rfl ?_
        refine z_getR (N := 6) (b := 68) 2 0 rfl f_2_30 rfl J rfl 12160 ⟨rfl, rfl⟩ rfl ?_
        refine x_inv (N := m_X9_step) (As := []) (b := 68) (st := []) (dx9 := 2) (mc := 0) (ms := 0) (host := "") 9 rfl t_X9_step ⟨Or.inl q_2_62, i_X9_step.1, i_X9_step.2⟩ ⟨by decide, rfl⟩ (congrArg Prod.fst (J.1.1 68 (9, 6) rfl)) rfl (by decide) rfl rfl ⟨by decide, by decide⟩ (sf_X9_step_r68  hD J qu44 qu45 (by omega)  (fun h J S48 u49 u50 qu49 qu50 ru49 => ?_))
        have Sm := jSm_tr rfl Sm S48
        have eu49 := (show 0 ≤ u49.toInt ∧ u49.toInt ≤ 3 from qu49 ▸ jrg_f J sg_68_5_6_1_0_1)
        have eu50 := (show 0 ≤ u50.toInt ∧ u50.toInt ≤ 400 from qu50 ▸ jrg_f J sg_68_3_4_1_0_1)
        show jX m_X2_readSign 20 0 0 26 [(0, .ref 95), (1, .int 41)] [] _ 0 0 _
        refine x_iconst (v := 1) rfl ki_1 ?_
        refine x_zret rfl rfl (by decide) ?_
        show jX m_X2_readPlain 21 0 0 105 [(3, .int v2), (0, .ref 95), (1, .int 1), (2, .int l2)] [.int 1] _ 0 0 _
        refine x_ifne (tgt := 229) rfl rfl (ti_ne jk_1 jk_0 (bn_t (by omega) ?_))
        exact jX.sub (jsb_c rfl (jsb_c rfl jsb_n)) (ct_X2_readPlain_r95_c1_229 hD hQ  l2 u50 u49 h (jr_of rfl (by omega)) (jr_of rfl (by omega)) (jr_of rfl (by omega)) (by omega) qu50 qu49 J Sm)
      ·
        refine x_aloadn (x := 95) rfl rfl ?_
        refine z_getR (N := 6) (b := 68) 2 0 rfl f_2_30 rfl J rfl 12160 ⟨rfl, rfl⟩ rfl ?_
        refine x_inv (N := m_X9_blame) (As := []) (b := 68) (st := []) (dx9 := 19) (mc := 0) (ms := 0) (host := "") 9 rfl t_X9_blame ⟨Or.inl q_2_59, i_X9_blame.1, i_X9_blame.2⟩ ⟨by decide, rfl⟩ (congrArg Prod.fst (J.1.1 68 (9, 6) rfl)) rfl (by decide) rfl rfl ⟨by decide, by decide⟩ (jC.of rfl k_X9_blame rfl ?_)
        show jX m_X9_blame 19 0 0 0 [(0, .ref 68)] [] _ 0 0 _
        refine x_aloadn (x := 68) rfl rfl ?_
        refine x_aloadn (x := 68) rfl rfl ?_
        refine z_getM (N := 6) (v := u45) 9 3 rfl f_9_22 rfl J rfl qu45 ?_
        refine z_putI (N := 6) (w := u45.toInt) 9 2 rfl f_9_19 rfl (jfin_no TX9 RX9 6 rfl rfl) hD J Sm rfl rfl rfl (pw_68_2 (by omega)) rfl (fun h w51 J Sm => ?_)
        refine x_iconst (v := 0) rfl ki_0 ?_
        refine x_zret rfl rfl (by decide) ?_
        show jX m_X2_readSign 20 0 0 18 [(0, .ref 95), (1, .int 41)] [.int 0] _ 0 0 _
        refine x_zret rfl rfl (by decide) ?_
        show jX m_X2_readPlain 21 0 0 105 [(3, .int v2), (0, .ref 95), (1, .int 1), (2, .int l2)] [.int 0] _ 0 0 _
        refine x_ifne (tgt := 229) rfl rfl (ti_ne jk_0 jk_0 (bn_f (by omega) ?_))
        exact jX.sub jsb_n (ct_X2_readPlain_r95_c1_108 hD hQ  u45 u44 h (jr_of rfl (by omega)) (jr_of rfl (by omega)) (by omega) (jmo w51 rfl qu45) (jmo w51 rfl qu44) J Sm)
set_option maxRecDepth 100000 in
set_option maxHeartbeats 4000000 in
theorem ct_X2_readPlain_r95_c1_300032 {Dy : jH → Prop} {h0 : jH} {Q : Option Value → jH → Prop} {R4 : Int} (hD : jDk Dy) (hQ : ∀ (v : Int32) hx9, 0 ≤ v.toInt ∧ v.toInt ≤ 1 → jJ jSgX Dy hx9 → jSm fp_X2_readPlain_r95_c1 h0 hx9 → ∀ u0 u1 : Int32, jiv hx9 68 5 = u0 → jiv hx9 68 3 = u1 → (u0.toInt ≠ 3 ∨ u1.toInt ≤ 399) → Q (some (.int v)) hx9) (k4 : ∀ (l2 : Int32) (l3 : Int32) (g0 : Int32) (g1 : Int32) (h : jH), 400 - l3.toInt < R4 → 0 ≤ l2.toInt ∧ l2.toInt ≤ 1 → 0 ≤ l3.toInt ∧ l3.toInt ≤ 400 → 0 ≤ g0.toInt ∧ g0.toInt ≤ 400 → 0 ≤ g1.toInt ∧ g1.toInt ≤ 3 → (g1.toInt ≠ 3 ∨ g0.toInt ≤ 399) → jiv h 68 3 = g0 → jiv h 68 5 = g1 → jJ jSgX Dy h → jSm fp_X2_readPlain_r95_c1 h0 h → jX m_X2_readPlain 21 0 0 4 [(0, .ref 95), (1, .int 1), (2, .int l2), (3, .int l3)] [] h 0 0 Q) : ∀ (l3 : Int32) (g0 : Int32) (g1 : Int32) (h : jH), 0 ≤ l3.toInt ∧ l3.toInt ≤ 399 → 0 ≤ g0.toInt ∧ g0.toInt ≤ 400 → 0 ≤ g1.toInt ∧ g1.toInt ≤ 3 → (g1.toInt ≠ 3 ∨ g0.toInt ≤ 399) → jiv h 68 3 = g0 → jiv h 68 5 = g1 → 400 - l3.toInt ≤ R4 → jJ jSgX Dy h → jSm fp_X2_readPlain_r95_c1 h0 h → jX m_X2_readPlain 21 0 0 32 [(0, .ref 95), (1, .int 1), (3, .int l3)] [.int 1] h 0 0 Q := by
  intro l3 g0 g1 h y0 y1 y2 y3 z0 z1 m4 J Sm
  refine x_istoren (lsx9 := [(2, .int 1), (0, .ref 95), (1, .int 1), (3, .int l3)]) rfl rfl rfl ?_
  refine x_aloadn (x := 95) rfl rfl ?_
  refine z_getR (N := 6) (b := 68) 2 0 rfl f_2_30 rfl J rfl 12160 ⟨rfl, rfl⟩ rfl ?_
  refine x_inv (N := m_X9_step) (As := []) (b := 68) (st := []) (dx9 := 2) (mc := 0) (ms := 0) (host := "") 9 rfl t_X9_step ⟨Or.inl q_2_62, i_X9_step.1, i_X9_step.2⟩ ⟨by decide, rfl⟩ (congrArg Prod.fst (J.1.1 68 (9, 6) rfl)) rfl (by decide) rfl rfl ⟨by decide, by decide⟩ (sf_X9_step_r68  hD J z1 z0 (by omega)  (fun h J S1 u2 u3 qu2 qu3 ru2 => ?_))
  have Sm := jSm_tr rfl Sm S1
  have eu2 := (show 0 ≤ u2.toInt ∧ u2.toInt ≤ 3 from qu2 ▸ jrg_f J sg_68_5_6_1_0_1)
  have eu3 := (show 0 ≤ u3.toInt ∧ u3.toInt ≤ 400 from qu3 ▸ jrg_f J sg_68_3_4_1_0_1)
  show jX m_X2_readPlain 21 0 0 40 [(2, .int 1), (0, .ref 95), (1, .int 1), (3, .int l3)] [] _ 0 0 _
  refine z_iinc (x := l3) (lsx9 := fun v4 => [(3, .int v4), (2, .int 1), (0, .ref 95), (1, .int 1)]) rfl rfl rfl jko_1 (by omega) rfl (fun _ => rfl) (fun v4 ev4 => ?_)
  refine x_goto (tgt := 4) rfl rfl ?_
  exact jX.sub (jsb_c rfl (jsb_c rfl (jsb_c rfl (jsb_c rfl jsb_n)))) (k4 1 v4 u3 u2 h (by omega) (jr_of jk_1 (by omega)) (jr_of rfl (by omega)) (jr_of rfl (by omega)) (jr_of rfl (by omega)) (by omega) qu3 qu2 J Sm)
set_option maxRecDepth 100000 in
set_option maxHeartbeats 4000000 in
theorem ct_X2_readPlain_r95_c1_200032 {Dy : jH → Prop} {h0 : jH} {Q : Option Value → jH → Prop} {R4 : Int} (hD : jDk Dy) (hQ : ∀ (v : Int32) hx9, 0 ≤ v.toInt ∧ v.toInt ≤ 1 → jJ jSgX Dy hx9 → jSm fp_X2_readPlain_r95_c1 h0 hx9 → ∀ u0 u1 : Int32, jiv hx9 68 5 = u0 → jiv hx9 68 3 = u1 → (u0.toInt ≠ 3 ∨ u1.toInt ≤ 399) → Q (some (.int v)) hx9) (k4 : ∀ (l2 : Int32) (l3 : Int32) (g0 : Int32) (g1 : Int32) (h : jH), 400 - l3.toInt < R4 → 0 ≤ l2.toInt ∧ l2.toInt ≤ 1 → 0 ≤ l3.toInt ∧ l3.toInt ≤ 400 → 0 ≤ g0.toInt ∧ g0.toInt ≤ 400 → 0 ≤ g1.toInt ∧ g1.toInt ≤ 3 → (g1.toInt ≠ 3 ∨ g0.toInt ≤ 399) → jiv h 68 3 = g0 → jiv h 68 5 = g1 → jJ jSgX Dy h → jSm fp_X2_readPlain_r95_c1 h0 h → jX m_X2_readPlain 21 0 0 4 [(0, .ref 95), (1, .int 1), (2, .int l2), (3, .int l3)] [] h 0 0 Q) : ∀ (l3 : Int32) (g0 : Int32) (g1 : Int32) (h : jH), 0 ≤ l3.toInt ∧ l3.toInt ≤ 399 → 0 ≤ g0.toInt ∧ g0.toInt ≤ 400 → 0 ≤ g1.toInt ∧ g1.toInt ≤ 3 → (g1.toInt ≠ 3 ∨ g0.toInt ≤ 399) → jiv h 68 3 = g0 → jiv h 68 5 = g1 → 400 - l3.toInt ≤ R4 → jJ jSgX Dy h → jSm fp_X2_readPlain_r95_c1 h0 h → jX m_X2_readPlain 21 0 0 32 [(0, .ref 95), (1, .int 1), (3, .int l3)] [.int 0] h 0 0 Q := by
  intro l3 g0 g1 h y0 y1 y2 y3 z0 z1 m4 J Sm
  refine x_istoren (lsx9 := [(2, .int 0), (0, .ref 95), (1, .int 1), (3, .int l3)]) rfl rfl rfl ?_
  refine x_aloadn (x := 95) rfl rfl ?_
  refine z_getR (N := 6) (b := 68) 2 0 rfl f_2_30 rfl J rfl 12160 ⟨rfl, rfl⟩ rfl ?_
  refine x_inv (N := m_X9_step) (As := []) (b := 68) (st := []) (dx9 := 2) (mc := 0) (ms := 0) (host := "") 9 rfl t_X9_step ⟨Or.inl q_2_62, i_X9_step.1, i_X9_step.2⟩ ⟨by decide, rfl⟩ (congrArg Prod.fst (J.1.1 68 (9, 6) rfl)) rfl (by decide) rfl rfl ⟨by decide, by decide⟩ (sf_X9_step_r68  hD J z1 z0 (by omega)  (fun h J S1 u2 u3 qu2 qu3 ru2 => ?_))
  have Sm := jSm_tr rfl Sm S1
  have eu2 := (show 0 ≤ u2.toInt ∧ u2.toInt ≤ 3 from qu2 ▸ jrg_f J sg_68_5_6_1_0_1)
  have eu3 := (show 0 ≤ u3.toInt ∧ u3.toInt ≤ 400 from qu3 ▸ jrg_f J sg_68_3_4_1_0_1)
  show jX m_X2_readPlain 21 0 0 40 [(2, .int 0), (0, .ref 95), (1, .int 1), (3, .int l3)] [] _ 0 0 _
  refine z_iinc (x := l3) (lsx9 := fun v4 => [(3, .int v4), (2, .int 0), (0, .ref 95), (1, .int 1)]) rfl rfl rfl jko_1 (by omega) rfl (fun _ => rfl) (fun v4 ev4 => ?_)
  refine x_goto (tgt := 4) rfl rfl ?_
  exact jX.sub (jsb_c rfl (jsb_c rfl (jsb_c rfl (jsb_c rfl jsb_n)))) (k4 0 v4 u3 u2 h (by omega) (jr_of jk_0 (by omega)) (jr_of rfl (by omega)) (jr_of rfl (by omega)) (jr_of rfl (by omega)) (by omega) qu3 qu2 J Sm)
set_option maxRecDepth 100000 in
set_option maxHeartbeats 4000000 in
theorem ct_X2_readPlain_r95_c1_4 {Dy : jH → Prop} {h0 : jH} {Q : Option Value → jH → Prop} (hD : jDk Dy) (hQ : ∀ (v : Int32) hx9, 0 ≤ v.toInt ∧ v.toInt ≤ 1 → jJ jSgX Dy hx9 → jSm fp_X2_readPlain_r95_c1 h0 hx9 → ∀ u0 u1 : Int32, jiv hx9 68 5 = u0 → jiv hx9 68 3 = u1 → (u0.toInt ≠ 3 ∨ u1.toInt ≤ 399) → Q (some (.int v)) hx9) : ∀ r : Nat, ∀ (l2 : Int32) (l3 : Int32) (g0 : Int32) (g1 : Int32) (h : jH), 400 - l3.toInt < (r : Int) → 0 ≤ l2.toInt ∧ l2.toInt ≤ 1 → 0 ≤ l3.toInt ∧ l3.toInt ≤ 400 → 0 ≤ g0.toInt ∧ g0.toInt ≤ 400 → 0 ≤ g1.toInt ∧ g1.toInt ≤ 3 → (g1.toInt ≠ 3 ∨ g0.toInt ≤ 399) → jiv h 68 3 = g0 → jiv h 68 5 = g1 → jJ jSgX Dy h → jSm fp_X2_readPlain_r95_c1 h0 h → jX m_X2_readPlain 21 0 0 4 [(0, .ref 95), (1, .int 1), (2, .int l2), (3, .int l3)] [] h 0 0 Q := by
  intro r
  induction r with
  | zero =>
    intro l2 l3 g0 g1 h hm y0 y1 y2 y3 y4 z0 z1  J Sm
    exfalso
    omega
  | succ r ih =>
    intro l2 l3 g0 g1 h hm y0 y1 y2 y3 y4 z0 z1  J Sm
    refine x_iloadn (x := l3) rfl rfl ?_
    refine x_sipush (v := 400) rfl ks_400 ?_
    refine x_icge (tgt := 46) rfl rfl (ti_ge rfl jk_400 ⟨fun c1 => ?_, fun c1 => ?_⟩)
    ·
      exact jX.sub (jsb_c rfl (jsb_c rfl (jsb_c rfl jsb_n))) (ct_X2_readPlain_r95_c1_46 hD hQ  l2 g0 g1 h (jr_of rfl (by omega)) (jr_of rfl (by omega)) (jr_of rfl (by omega)) (by omega) z0 z1 J Sm)
    ·
      refine x_aloadn (x := 95) rfl rfl ?_
      refine z_getR (N := 6) (b := 68) 2 0 rfl f_2_30 rfl J rfl 12160 ⟨rfl, rfl⟩ rfl ?_
      refine x_ldcS (jstr.getD 9 jstr_0) rfl (List.mem_of_getElem? (i := 9) rfl) rfl rfl ?_
      show jX m_X2_readPlain 21 0 0 17 [(0, .ref 95), (1, .int 1), (2, .int l2), (3, .int l3)] [.ref 14, .ref 68] _ 0 0 _
      refine x_inv (N := m_X9_wordOf) (As := [.ref 14]) (b := 68) (st := []) (dx9 := 4) (mc := 0) (ms := 0) (host := "") 9 rfl t_X9_wordOf ⟨Or.inl q_2_67, i_X9_wordOf.1, i_X9_wordOf.2⟩ ⟨by decide, rfl⟩ (congrArg Prod.fst (J.1.1 68 (9, 6) rfl)) rfl (by decide) rfl rfl ⟨by decide, by decide⟩ (sf_X9_wordOf_r68_r14  hD J  (fun v3 h J S2 => ?_))
      have ev3 := jfull v3
      have Sm := jSm_tr rfl Sm S2
      show jX m_X2_readPlain 21 0 0 20 [(0, .ref 95), (1, .int 1), (2, .int l2), (3, .int l3)] [.int v3] _ 0 0 _
      refine x_ifne (tgt := 46) rfl rfl (ti_ne rfl jk_0 ⟨fun c4 => ?_, fun c4 => ?_⟩)
      ·
        exact jX.sub (jsb_c rfl (jsb_c rfl (jsb_c rfl jsb_n))) (ct_X2_readPlain_r95_c1_46 hD hQ  l2 g0 g1 h (jr_of rfl (by omega)) (jr_of rfl (by omega)) (jr_of rfl (by omega)) (by omega) (jmc S2 rfl z0) (jmc S2 rfl z1) J Sm)
      ·
        refine x_iloadn (x := l2) rfl rfl ?_
        refine x_ifne (tgt := 31) rfl rfl (ti_ne rfl jk_0 ⟨fun c5 => ?_, fun c5 => ?_⟩)
        ·
          refine x_iconst (v := 0) rfl ki_0 ?_
          exact jX.sub (jsb_c rfl (jsb_c rfl (jsb_c rfl jsb_n))) (ct_X2_readPlain_r95_c1_200032 hD hQ ih l3 g0 g1 h (jr_of rfl (by omega)) (jr_of rfl (by omega)) (jr_of rfl (by omega)) (by omega) (jmc S2 rfl z0) (jmc S2 rfl z1) (by omega) J Sm)
        ·
          refine x_iconst (v := 1) rfl ki_1 ?_
          refine x_goto (tgt := 32) rfl rfl ?_
          exact jX.sub (jsb_c rfl (jsb_c rfl (jsb_c rfl jsb_n))) (ct_X2_readPlain_r95_c1_300032 hD hQ ih l3 g0 g1 h (jr_of rfl (by omega)) (jr_of rfl (by omega)) (jr_of rfl (by omega)) (by omega) (jmc S2 rfl z0) (jmc S2 rfl z1) (by omega) J Sm)
set_option maxRecDepth 100000 in
set_option maxHeartbeats 4000000 in
theorem sf_X2_readPlain_r95_c1 {Dy : jH → Prop} {h : jH} {Q : Option Value → jH → Prop} (hD : jDk Dy) (J : jJ jSgX Dy h) {p0 p1 : Int32} (zp0 : jiv h 68 5 = p0) (zp1 : jiv h 68 3 = p1) (rl_p0 : (p0.toInt ≠ 3 ∨ p1.toInt ≤ 399)) (hQ : ∀ (v : Int32) hx9, 0 ≤ v.toInt ∧ v.toInt ≤ 1 → jJ jSgX Dy hx9 → jSm fp_X2_readPlain_r95_c1 h hx9 → ∀ u0 u1 : Int32, jiv hx9 68 5 = u0 → jiv hx9 68 3 = u1 → (u0.toInt ≠ 3 ∨ u1.toInt ≤ 399) → Q (some (.int v)) hx9) : jC m_X2_readPlain 21 0 0 [.ref 95, .int 1] h Q := by
  refine jC.of rfl k_X2_readPlain rfl ?_
  have Sm := jSm_rf fp_X2_readPlain_r95_c1 h
  have ep0 := (show 0 ≤ p0.toInt ∧ p0.toInt ≤ 3 from zp0 ▸ jrg_f J sg_68_5_6_1_0_1)
  have ep1 := (show 0 ≤ p1.toInt ∧ p1.toInt ≤ 400 from zp1 ▸ jrg_f J sg_68_3_4_1_0_1)
  show jX m_X2_readPlain 21 0 0 0 [(0, .ref 95), (1, .int 1)] [] _ 0 0 _
  refine x_iconst (v := 0) rfl ki_0 ?_
  refine x_istoren (lsx9 := [(2, .int 0), (0, .ref 95), (1, .int 1)]) rfl rfl rfl ?_
  refine x_iconst (v := 0) rfl ki_0 ?_
  refine x_istoren (lsx9 := [(3, .int 0), (2, .int 0), (0, .ref 95), (1, .int 1)]) rfl rfl rfl ?_
  exact jX.sub (jsb_c rfl (jsb_c rfl (jsb_c rfl (jsb_c rfl jsb_n)))) (ct_X2_readPlain_r95_c1_4 hD hQ  401 0 0 p1 p0 h (by have := jk_0; omega) (jr_of jk_0 (by omega)) (jr_of jk_0 (by omega)) (jr_of rfl (by omega)) (jr_of rfl (by omega)) (by omega) zp1 zp0 J Sm)
def fp_X2_readTest_r95_c1 : jFp := [(68, 2, 3), (68, 3, 4), (68, 4, 5), (68, 5, 6), (95, 4, 5), (95, 5, 6), (97, 0, 1200)]
set_option maxRecDepth 100000 in
set_option maxHeartbeats 4000000 in
theorem ct_X2_readTest_r95_c1_77 {Dy : jH → Prop} {h0 : jH} {Q : Option Value → jH → Prop} {R4 : Int} (hD : jDk Dy) (hQ : ∀ (v : Int32) hx9, 0 ≤ v.toInt ∧ v.toInt ≤ 1 → jJ jSgX Dy hx9 → jSm fp_X2_readTest_r95_c1 h0 hx9 → ∀ u0 u1 : Int32, jiv hx9 68 5 = u0 → jiv hx9 68 3 = u1 → (u0.toInt ≠ 3 ∨ u1.toInt ≤ 399) → Q (some (.int v)) hx9) (k4 : ∀ (l2 : Int32) (l3 : Int32) (g0 : Int32) (g1 : Int32) (h : jH), 400 - l3.toInt < R4 → (-1) ≤ l2.toInt ∧ l2.toInt ≤ 1199 → 0 ≤ l3.toInt ∧ l3.toInt ≤ 400 → 0 ≤ g0.toInt ∧ g0.toInt ≤ 400 → 0 ≤ g1.toInt ∧ g1.toInt ≤ 3 → (g1.toInt ≠ 3 ∨ g0.toInt ≤ 399) → jiv h 68 3 = g0 → jiv h 68 5 = g1 → jJ jSgX Dy h → jSm fp_X2_readTest_r95_c1 h0 h → jX m_X2_readTest 22 0 0 4 [(0, .ref 95), (1, .int 1), (2, .int l2), (3, .int l3)] [] h 0 0 Q) : ∀ (l2 : Int32) (l3 : Int32) (g0 : Int32) (g1 : Int32) (h : jH), (-1) ≤ l2.toInt ∧ l2.toInt ≤ 1199 → 0 ≤ l3.toInt ∧ l3.toInt ≤ 399 → 0 ≤ g0.toInt ∧ g0.toInt ≤ 400 → 0 ≤ g1.toInt ∧ g1.toInt ≤ 3 → (g1.toInt ≠ 3 ∨ g0.toInt ≤ 399) → jiv h 68 3 = g0 → jiv h 68 5 = g1 → 400 - l3.toInt ≤ R4 → jJ jSgX Dy h → jSm fp_X2_readTest_r95_c1 h0 h → jX m_X2_readTest 22 0 0 77 [(0, .ref 95), (1, .int 1), (2, .int l2), (3, .int l3)] [] h 0 0 Q := by
  intro l2 l3 g0 g1 h y0 y1 y2 y3 y4 z0 z1 m4 J Sm
  refine x_aloadn (x := 95) rfl rfl ?_
  refine x_iloadn (x := l2) rfl rfl ?_
  refine x_inv (N := m_X2_land) (As := [.int l2]) (b := 95) (st := []) (dx9 := 1) (mc := 0) (ms := 0) (host := "") 2 rfl t_X2_land ⟨Or.inl q_2_124, i_X2_land.1, i_X2_land.2⟩ ⟨by decide, rfl⟩ (congrArg Prod.fst (J.1.1 95 (2, 6) rfl)) rfl (by decide) rfl rfl ⟨by decide, by decide⟩ (sf_X2_land_r95 (jr_of rfl (by omega)) hD J  (fun h J S1 => ?_))
  have Sm := jSm_tr rfl Sm S1
  show jX m_X2_readTest 22 0 0 82 [(0, .ref 95), (1, .int 1), (2, .int l2), (3, .int l3)] [] _ 0 0 _
  refine x_aloadn (x := 95) rfl rfl ?_
  refine z_getR (N := 6) (b := 68) 2 0 rfl f_2_30 rfl J rfl 12160 ⟨rfl, rfl⟩ rfl ?_
  refine x_ldcS (jstr.getD 12 jstr_0) rfl (List.mem_of_getElem? (i := 12) rfl) rfl rfl ?_
  show jX m_X2_readTest 22 0 0 88 [(0, .ref 95), (1, .int 1), (2, .int l2), (3, .int l3)] [.ref 17, .ref 68] _ 0 0 _
  refine x_inv (N := m_X9_wordOf) (As := [.ref 17]) (b := 68) (st := []) (dx9 := 4) (mc := 0) (ms := 0) (host := "") 9 rfl t_X9_wordOf ⟨Or.inl q_2_67, i_X9_wordOf.1, i_X9_wordOf.2⟩ ⟨by decide, rfl⟩ (congrArg Prod.fst (J.1.1 68 (9, 6) rfl)) rfl (by decide) rfl rfl ⟨by decide, by decide⟩ (sf_X9_wordOf_r68_r17  hD J  (fun v3 h J S2 => ?_))
  have ev3 := jfull v3
  have Sm := jSm_tr rfl Sm S2
  show jX m_X2_readTest 22 0 0 91 [(0, .ref 95), (1, .int 1), (2, .int l2), (3, .int l3)] [.int v3] _ 0 0 _
  refine x_ifeq (tgt := 96) rfl rfl (ti_eq rfl jk_0 ⟨fun c4 => ?_, fun c4 => ?_⟩)
  ·
    refine x_aloadn (x := 95) rfl rfl ?_
    refine x_bipush (v := 11) rfl kb_11 ?_
    refine x_inv (N := m_X2_leap) (As := [.int 11]) (b := 95) (st := []) (dx9 := 2) (mc := 0) (ms := 0) (host := "") 2 rfl t_X2_leap ⟨Or.inl q_2_129, i_X2_leap.1, i_X2_leap.2⟩ ⟨by decide, rfl⟩ (congrArg Prod.fst (J.1.1 95 (2, 6) rfl)) rfl (by decide) rfl rfl ⟨by decide, by decide⟩ (sf_X2_leap_r95 (jr_of jk_11 (by omega)) hD J  (fun v6 h ev6 J S5 => ?_))
    have Sm := jSm_tr rfl Sm S5
    show jX m_X2_readTest 22 0 0 102 [(0, .ref 95), (1, .int 1), (2, .int l2), (3, .int l3)] [.int v6] _ 0 0 _
    refine x_istoren (lsx9 := [(2, .int v6), (0, .ref 95), (1, .int 1), (3, .int l3)]) rfl rfl rfl ?_
    refine x_aloadn (x := 95) rfl rfl ?_
    refine z_getR (N := 6) (b := 68) 2 0 rfl f_2_30 rfl J rfl 12160 ⟨rfl, rfl⟩ rfl ?_
    refine x_inv (N := m_X9_step) (As := []) (b := 68) (st := []) (dx9 := 2) (mc := 0) (ms := 0) (host := "") 9 rfl t_X9_step ⟨Or.inl q_2_62, i_X9_step.1, i_X9_step.2⟩ ⟨by decide, rfl⟩ (congrArg Prod.fst (J.1.1 68 (9, 6) rfl)) rfl (by decide) rfl rfl ⟨by decide, by decide⟩ (sf_X9_step_r68  hD J (jmc S5 rfl (jmc S2 rfl (jmc S1 rfl z1))) (jmc S5 rfl (jmc S2 rfl (jmc S1 rfl z0))) (by omega)  (fun h J S7 u8 u9 qu8 qu9 ru8 => ?_))
    have Sm := jSm_tr rfl Sm S7
    have eu8 := (show 0 ≤ u8.toInt ∧ u8.toInt ≤ 3 from qu8 ▸ jrg_f J sg_68_5_6_1_0_1)
    have eu9 := (show 0 ≤ u9.toInt ∧ u9.toInt ≤ 400 from qu9 ▸ jrg_f J sg_68_3_4_1_0_1)
    show jX m_X2_readTest 22 0 0 110 [(2, .int v6), (0, .ref 95), (1, .int 1), (3, .int l3)] [] _ 0 0 _
    refine z_iinc (x := l3) (lsx9 := fun v10 => [(3, .int v10), (2, .int v6), (0, .ref 95), (1, .int 1)]) rfl rfl rfl jko_1 (by omega) rfl (fun _ => rfl) (fun v10 ev10 => ?_)
    refine x_goto (tgt := 4) rfl rfl ?_
    exact jX.sub (jsb_c rfl (jsb_c rfl (jsb_c rfl (jsb_c rfl jsb_n)))) (k4 v6 v10 u9 u8 h (by omega) (jr_of rfl (by omega)) (jr_of rfl (by omega)) (jr_of rfl (by omega)) (jr_of rfl (by omega)) (by omega) qu9 qu8 J Sm)
  ·
    refine x_iconst (v := 1) rfl ki_1 ?_
    refine x_zret rfl rfl (by decide) ?_
    exact hQ _ _ (jr_of jk_1 (by omega)) J Sm _ _ (jmc S2 rfl (jmc S1 rfl z1)) (jmc S2 rfl (jmc S1 rfl z0)) (by omega)
set_option maxRecDepth 100000 in
set_option maxHeartbeats 4000000 in
theorem ct_X2_readTest_r95_c1_17 {Dy : jH → Prop} {h0 : jH} {Q : Option Value → jH → Prop} {R4 : Int} (hD : jDk Dy) (hQ : ∀ (v : Int32) hx9, 0 ≤ v.toInt ∧ v.toInt ≤ 1 → jJ jSgX Dy hx9 → jSm fp_X2_readTest_r95_c1 h0 hx9 → ∀ u0 u1 : Int32, jiv hx9 68 5 = u0 → jiv hx9 68 3 = u1 → (u0.toInt ≠ 3 ∨ u1.toInt ≤ 399) → Q (some (.int v)) hx9) (k4 : ∀ (l2 : Int32) (l3 : Int32) (g0 : Int32) (g1 : Int32) (h : jH), 400 - l3.toInt < R4 → (-1) ≤ l2.toInt ∧ l2.toInt ≤ 1199 → 0 ≤ l3.toInt ∧ l3.toInt ≤ 400 → 0 ≤ g0.toInt ∧ g0.toInt ≤ 400 → 0 ≤ g1.toInt ∧ g1.toInt ≤ 3 → (g1.toInt ≠ 3 ∨ g0.toInt ≤ 399) → jiv h 68 3 = g0 → jiv h 68 5 = g1 → jJ jSgX Dy h → jSm fp_X2_readTest_r95_c1 h0 h → jX m_X2_readTest 22 0 0 4 [(0, .ref 95), (1, .int 1), (2, .int l2), (3, .int l3)] [] h 0 0 Q) : ∀ r : Nat, ∀ (l2 : Int32) (l3 : Int32) (l4 : Int32) (l5 : Int32) (g0 : Int32) (g1 : Int32) (h : jH), 400 - l5.toInt < (r : Int) → (-1) ≤ l2.toInt ∧ l2.toInt ≤ 1199 → 0 ≤ l3.toInt ∧ l3.toInt ≤ 399 → (-1) ≤ l4.toInt ∧ l4.toInt ≤ 1199 → 0 ≤ l5.toInt ∧ l5.toInt ≤ 400 → 0 ≤ g0.toInt ∧ g0.toInt ≤ 400 → 0 ≤ g1.toInt ∧ g1.toInt ≤ 3 → (g1.toInt ≠ 3 ∨ g0.toInt ≤ 399) → jiv h 68 3 = g0 → jiv h 68 5 = g1 → 400 - l3.toInt ≤ R4 → jJ jSgX Dy h → jSm fp_X2_readTest_r95_c1 h0 h → jX m_X2_readTest 22 0 0 17 [(0, .ref 95), (1, .int 1), (2, .int l2), (3, .int l3), (4, .int l4), (5, .int l5)] [] h 0 0 Q := by
  intro r
  induction r with
  | zero =>
    intro l2 l3 l4 l5 g0 g1 h hm y0 y1 y2 y3 y4 y5 y6 z0 z1 m4 J Sm
    exfalso
    omega
  | succ r ih =>
    intro l2 l3 l4 l5 g0 g1 h hm y0 y1 y2 y3 y4 y5 y6 z0 z1 m4 J Sm
    refine x_iload (x := l5) rfl rfl ?_
    refine x_sipush (v := 400) rfl ks_400 ?_
    refine x_icge (tgt := 77) rfl rfl (ti_ge rfl jk_400 ⟨fun c1 => ?_, fun c1 => ?_⟩)
    ·
      exact jX.sub (jsb_c rfl (jsb_c rfl (jsb_c rfl (jsb_c rfl jsb_n)))) (ct_X2_readTest_r95_c1_77 hD hQ k4 l2 l3 g0 g1 h (jr_of rfl (by omega)) (jr_of rfl (by omega)) (jr_of rfl (by omega)) (jr_of rfl (by omega)) (by omega) z0 z1 (by omega) J Sm)
    ·
      refine x_aloadn (x := 95) rfl rfl ?_
      refine x_iloadn (x := 1) rfl rfl ?_
      refine x_inv (N := m_X2_readPlain) (As := [.int 1]) (b := 95) (st := []) (dx9 := 21) (mc := 0) (ms := 0) (host := "") 2 rfl t_X2_readPlain ⟨Or.inl q_2_121, i_X2_readPlain.1, i_X2_readPlain.2⟩ ⟨by decide, rfl⟩ (congrArg Prod.fst (J.1.1 95 (2, 6) rfl)) rfl (by decide) rfl rfl ⟨by decide, by decide⟩ (sf_X2_readPlain_r95_c1  hD J z1 z0 (by omega)  (fun v5 h ev5 J S2 u3 u4 qu3 qu4 ru3 => ?_))
      have Sm := jSm_tr rfl Sm S2
      have eu3 := (show 0 ≤ u3.toInt ∧ u3.toInt ≤ 3 from qu3 ▸ jrg_f J sg_68_5_6_1_0_1)
      have eu4 := (show 0 ≤ u4.toInt ∧ u4.toInt ≤ 400 from qu4 ▸ jrg_f J sg_68_3_4_1_0_1)
      show jX m_X2_readTest 22 0 0 30 [(0, .ref 95), (1, .int 1), (2, .int l2), (3, .int l3), (4, .int l4), (5, .int l5)] [.int v5] _ 0 0 _
      refine x_ifne (tgt := 35) rfl rfl (ti_ne rfl jk_0 ⟨fun c6 => ?_, fun c6 => ?_⟩)
      ·
        refine x_aloadn (x := 95) rfl rfl ?_
        refine x_iload (x := l4) rfl rfl ?_
        refine x_inv (N := m_X2_land) (As := [.int l4]) (b := 95) (st := []) (dx9 := 1) (mc := 0) (ms := 0) (host := "") 2 rfl t_X2_land ⟨Or.inl q_2_124, i_X2_land.1, i_X2_land.2⟩ ⟨by decide, rfl⟩ (congrArg Prod.fst (J.1.1 95 (2, 6) rfl)) rfl (by decide) rfl rfl ⟨by decide, by decide⟩ (sf_X2_land_r95 (jr_of rfl (by omega)) hD J  (fun h J S7 => ?_))
        have Sm := jSm_tr rfl Sm S7
        show jX m_X2_readTest 22 0 0 41 [(0, .ref 95), (1, .int 1), (2, .int l2), (3, .int l3), (4, .int l4), (5, .int l5)] [] _ 0 0 _
        refine x_aloadn (x := 95) rfl rfl ?_
        refine z_getR (N := 6) (b := 68) 2 0 rfl f_2_30 rfl J rfl 12160 ⟨rfl, rfl⟩ rfl ?_
        refine x_ldcS (jstr.getD 11 jstr_0) rfl (List.mem_of_getElem? (i := 11) rfl) rfl rfl ?_
        show jX m_X2_readTest 22 0 0 47 [(0, .ref 95), (1, .int 1), (2, .int l2), (3, .int l3), (4, .int l4), (5, .int l5)] [.ref 16, .ref 68] _ 0 0 _
        refine x_inv (N := m_X9_wordOf) (As := [.ref 16]) (b := 68) (st := []) (dx9 := 4) (mc := 0) (ms := 0) (host := "") 9 rfl t_X9_wordOf ⟨Or.inl q_2_67, i_X9_wordOf.1, i_X9_wordOf.2⟩ ⟨by decide, rfl⟩ (congrArg Prod.fst (J.1.1 68 (9, 6) rfl)) rfl (by decide) rfl rfl ⟨by decide, by decide⟩ (sf_X9_wordOf_r68_r16  hD J  (fun v9 h J S8 => ?_))
        have ev9 := jfull v9
        have Sm := jSm_tr rfl Sm S8
        show jX m_X2_readTest 22 0 0 50 [(0, .ref 95), (1, .int 1), (2, .int l2), (3, .int l3), (4, .int l4), (5, .int l5)] [.int v9] _ 0 0 _
        refine x_ifeq (tgt := 56) rfl rfl (ti_eq rfl jk_0 ⟨fun c10 => ?_, fun c10 => ?_⟩)
        ·
          refine x_aloadn (x := 95) rfl rfl ?_
          refine x_bipush (v := 12) rfl kb_12 ?_
          refine x_inv (N := m_X2_leap) (As := [.int 12]) (b := 95) (st := []) (dx9 := 2) (mc := 0) (ms := 0) (host := "") 2 rfl t_X2_leap ⟨Or.inl q_2_129, i_X2_leap.1, i_X2_leap.2⟩ ⟨by decide, rfl⟩ (congrArg Prod.fst (J.1.1 95 (2, 6) rfl)) rfl (by decide) rfl rfl ⟨by decide, by decide⟩ (sf_X2_leap_r95 (jr_of jk_12 (by omega)) hD J  (fun v12 h ev12 J S11 => ?_))
          have Sm := jSm_tr rfl Sm S11
          show jX m_X2_readTest 22 0 0 62 [(0, .ref 95), (1, .int 1), (2, .int l2), (3, .int l3), (4, .int l4), (5, .int l5)] [.int v12] _ 0 0 _
          refine x_istore (lsx9 := [(4, .int v12), (0, .ref 95), (1, .int 1), (2, .int l2), (3, .int l3), (5, .int l5)]) rfl rfl rfl ?_
          refine x_aloadn (x := 95) rfl rfl ?_
          refine z_getR (N := 6) (b := 68) 2 0 rfl f_2_30 rfl J rfl 12160 ⟨rfl, rfl⟩ rfl ?_
          refine x_inv (N := m_X9_step) (As := []) (b := 68) (st := []) (dx9 := 2) (mc := 0) (ms := 0) (host := "") 9 rfl t_X9_step ⟨Or.inl q_2_62, i_X9_step.1, i_X9_step.2⟩ ⟨by decide, rfl⟩ (congrArg Prod.fst (J.1.1 68 (9, 6) rfl)) rfl (by decide) rfl rfl ⟨by decide, by decide⟩ (sf_X9_step_r68  hD J (jmc S11 rfl (jmc S8 rfl (jmc S7 rfl qu3))) (jmc S11 rfl (jmc S8 rfl (jmc S7 rfl qu4))) (by omega)  (fun h J S13 u14 u15 qu14 qu15 ru14 => ?_))
          have Sm := jSm_tr rfl Sm S13
          have eu14 := (show 0 ≤ u14.toInt ∧ u14.toInt ≤ 3 from qu14 ▸ jrg_f J sg_68_5_6_1_0_1)
          have eu15 := (show 0 ≤ u15.toInt ∧ u15.toInt ≤ 400 from qu15 ▸ jrg_f J sg_68_3_4_1_0_1)
          show jX m_X2_readTest 22 0 0 71 [(4, .int v12), (0, .ref 95), (1, .int 1), (2, .int l2), (3, .int l3), (5, .int l5)] [] _ 0 0 _
          refine z_iinc (x := l5) (lsx9 := fun v16 => [(5, .int v16), (4, .int v12), (0, .ref 95), (1, .int 1), (2, .int l2), (3, .int l3)]) rfl rfl rfl jko_1 (by omega) rfl (fun _ => rfl) (fun v16 ev16 => ?_)
          refine x_goto (tgt := 17) rfl rfl ?_
          exact jX.sub (jsb_c rfl (jsb_c rfl (jsb_c rfl (jsb_c rfl (jsb_c rfl (jsb_c rfl jsb_n)))))) (ih l2 l3 v12 v16 u15 u14 h (by omega) (jr_of rfl (by omega)) (jr_of rfl (by omega)) (jr_of rfl (by omega)) (jr_of rfl (by omega)) (jr_of rfl (by omega)) (jr_of rfl (by omega)) (by omega) qu15 qu14 (by omega) J Sm)
        ·
          refine x_goto (tgt := 77) rfl rfl ?_
          exact jX.sub (jsb_c rfl (jsb_c rfl (jsb_c rfl (jsb_c rfl jsb_n)))) (ct_X2_readTest_r95_c1_77 hD hQ k4 l2 l3 u4 u3 h (jr_of rfl (by omega)) (jr_of rfl (by omega)) (jr_of rfl (by omega)) (jr_of rfl (by omega)) (by omega) (jmc S8 rfl (jmc S7 rfl qu4)) (jmc S8 rfl (jmc S7 rfl qu3)) (by omega) J Sm)
      ·
        refine x_iconst (v := 0) rfl ki_0 ?_
        refine x_zret rfl rfl (by decide) ?_
        exact hQ _ _ (jr_of jk_0 (by omega)) J Sm _ _ qu3 qu4 (by omega)
set_option maxRecDepth 100000 in
set_option maxHeartbeats 4000000 in
theorem ct_X2_readTest_r95_c1_4 {Dy : jH → Prop} {h0 : jH} {Q : Option Value → jH → Prop} (hD : jDk Dy) (hQ : ∀ (v : Int32) hx9, 0 ≤ v.toInt ∧ v.toInt ≤ 1 → jJ jSgX Dy hx9 → jSm fp_X2_readTest_r95_c1 h0 hx9 → ∀ u0 u1 : Int32, jiv hx9 68 5 = u0 → jiv hx9 68 3 = u1 → (u0.toInt ≠ 3 ∨ u1.toInt ≤ 399) → Q (some (.int v)) hx9) : ∀ r : Nat, ∀ (l2 : Int32) (l3 : Int32) (g0 : Int32) (g1 : Int32) (h : jH), 400 - l3.toInt < (r : Int) → (-1) ≤ l2.toInt ∧ l2.toInt ≤ 1199 → 0 ≤ l3.toInt ∧ l3.toInt ≤ 400 → 0 ≤ g0.toInt ∧ g0.toInt ≤ 400 → 0 ≤ g1.toInt ∧ g1.toInt ≤ 3 → (g1.toInt ≠ 3 ∨ g0.toInt ≤ 399) → jiv h 68 3 = g0 → jiv h 68 5 = g1 → jJ jSgX Dy h → jSm fp_X2_readTest_r95_c1 h0 h → jX m_X2_readTest 22 0 0 4 [(0, .ref 95), (1, .int 1), (2, .int l2), (3, .int l3)] [] h 0 0 Q := by
  intro r
  induction r with
  | zero =>
    intro l2 l3 g0 g1 h hm y0 y1 y2 y3 y4 z0 z1  J Sm
    exfalso
    omega
  | succ r ih =>
    intro l2 l3 g0 g1 h hm y0 y1 y2 y3 y4 z0 z1  J Sm
    refine x_iloadn (x := l3) rfl rfl ?_
    refine x_sipush (v := 400) rfl ks_400 ?_
    refine x_icge (tgt := 116) rfl rfl (ti_ge rfl jk_400 ⟨fun c1 => ?_, fun c1 => ?_⟩)
    ·
      refine x_aloadn (x := 95) rfl rfl ?_
      refine z_getR (N := 6) (b := 68) 2 0 rfl f_2_30 rfl J rfl 12160 ⟨rfl, rfl⟩ rfl ?_
      refine x_inv (N := m_X9_blame) (As := []) (b := 68) (st := []) (dx9 := 21) (mc := 0) (ms := 0) (host := "") 9 rfl t_X9_blame ⟨Or.inl q_2_59, i_X9_blame.1, i_X9_blame.2⟩ ⟨by decide, rfl⟩ (congrArg Prod.fst (J.1.1 68 (9, 6) rfl)) rfl (by decide) rfl rfl ⟨by decide, by decide⟩ (jC.of rfl k_X9_blame rfl ?_)
      show jX m_X9_blame 21 0 0 0 [(0, .ref 68)] [] _ 0 0 _
      refine x_aloadn (x := 68) rfl rfl ?_
      refine x_aloadn (x := 68) rfl rfl ?_
      refine z_getM (N := 6) (v := g0) 9 3 rfl f_9_22 rfl J rfl z0 ?_
      refine z_putI (N := 6) (w := g0.toInt) 9 2 rfl f_9_19 rfl (jfin_no TX9 RX9 6 rfl rfl) hD J Sm rfl rfl rfl (pw_68_2 (by omega)) rfl (fun h w2 J Sm => ?_)
      refine x_iconst (v := 0) rfl ki_0 ?_
      refine x_zret rfl rfl (by decide) ?_
      show jX m_X2_readTest 22 0 0 123 [(0, .ref 95), (1, .int 1), (2, .int l2), (3, .int l3)] [.int 0] _ 0 0 _
      refine x_zret rfl rfl (by decide) ?_
      exact hQ _ _ (jr_of jk_0 (by omega)) J Sm _ _ (jmo w2 rfl z1) (jmo w2 rfl z0) (by omega)
    ·
      refine x_iconst (v := (-1)) rfl ki_m1 ?_
      refine x_istore (lsx9 := [(4, .int (-1)), (0, .ref 95), (1, .int 1), (2, .int l2), (3, .int l3)]) rfl rfl rfl ?_
      refine x_iconst (v := 0) rfl ki_0 ?_
      refine x_istore (lsx9 := [(5, .int 0), (4, .int (-1)), (0, .ref 95), (1, .int 1), (2, .int l2), (3, .int l3)]) rfl rfl rfl ?_
      exact jX.sub (jsb_c rfl (jsb_c rfl (jsb_c rfl (jsb_c rfl (jsb_c rfl (jsb_c rfl jsb_n)))))) (ct_X2_readTest_r95_c1_17 hD hQ ih 401 l2 l3 (-1) 0 g0 g1 h (by have := jk_0; omega) (jr_of rfl (by omega)) (jr_of rfl (by omega)) (jr_of jk_m1 (by omega)) (jr_of jk_0 (by omega)) (jr_of rfl (by omega)) (jr_of rfl (by omega)) (by omega) z0 z1 (by omega) J Sm)
set_option maxRecDepth 100000 in
set_option maxHeartbeats 4000000 in
theorem sf_X2_readTest_r95_c1 {Dy : jH → Prop} {h : jH} {Q : Option Value → jH → Prop} (hD : jDk Dy) (J : jJ jSgX Dy h) {p0 p1 : Int32} (zp0 : jiv h 68 5 = p0) (zp1 : jiv h 68 3 = p1) (rl_p0 : (p0.toInt ≠ 3 ∨ p1.toInt ≤ 399)) (hQ : ∀ (v : Int32) hx9, 0 ≤ v.toInt ∧ v.toInt ≤ 1 → jJ jSgX Dy hx9 → jSm fp_X2_readTest_r95_c1 h hx9 → ∀ u0 u1 : Int32, jiv hx9 68 5 = u0 → jiv hx9 68 3 = u1 → (u0.toInt ≠ 3 ∨ u1.toInt ≤ 399) → Q (some (.int v)) hx9) : jC m_X2_readTest 22 0 0 [.ref 95, .int 1] h Q := by
  refine jC.of rfl k_X2_readTest rfl ?_
  have Sm := jSm_rf fp_X2_readTest_r95_c1 h
  have ep0 := (show 0 ≤ p0.toInt ∧ p0.toInt ≤ 3 from zp0 ▸ jrg_f J sg_68_5_6_1_0_1)
  have ep1 := (show 0 ≤ p1.toInt ∧ p1.toInt ≤ 400 from zp1 ▸ jrg_f J sg_68_3_4_1_0_1)
  show jX m_X2_readTest 22 0 0 0 [(0, .ref 95), (1, .int 1)] [] _ 0 0 _
  refine x_iconst (v := (-1)) rfl ki_m1 ?_
  refine x_istoren (lsx9 := [(2, .int (-1)), (0, .ref 95), (1, .int 1)]) rfl rfl rfl ?_
  refine x_iconst (v := 0) rfl ki_0 ?_
  refine x_istoren (lsx9 := [(3, .int 0), (2, .int (-1)), (0, .ref 95), (1, .int 1)]) rfl rfl rfl ?_
  exact jX.sub (jsb_c rfl (jsb_c rfl (jsb_c rfl (jsb_c rfl jsb_n)))) (ct_X2_readTest_r95_c1_4 hD hQ  401 (-1) 0 p1 p0 h (by have := jk_0; omega) (jr_of jk_m1 (by omega)) (jr_of jk_0 (by omega)) (jr_of rfl (by omega)) (jr_of rfl (by omega)) (by omega) zp1 zp0 J Sm)
def fp_X2_readPlain_r95_c0 : jFp := [(68, 2, 3), (68, 3, 4), (68, 4, 5), (68, 5, 6), (95, 4, 5), (95, 5, 6), (97, 0, 1200)]
set_option maxRecDepth 100000 in
set_option maxHeartbeats 4000000 in
theorem ct_X2_readPlain_r95_c0_239 {Dy : jH → Prop} {h0 : jH} {Q : Option Value → jH → Prop} (hD : jDk Dy) (hQ : ∀ (v : Int32) hx9, 0 ≤ v.toInt ∧ v.toInt ≤ 1 → jJ jSgX Dy hx9 → jSm fp_X2_readPlain_r95_c0 h0 hx9 → ∀ u0 u1 : Int32, jiv hx9 68 5 = u0 → jiv hx9 68 3 = u1 → (u0.toInt ≠ 3 ∨ u1.toInt ≤ 399) → Q (some (.int v)) hx9) : ∀ (g0 : Int32) (g1 : Int32) (h : jH), 0 ≤ g0.toInt ∧ g0.toInt ≤ 400 → 0 ≤ g1.toInt ∧ g1.toInt ≤ 3 → (g1.toInt ≠ 3 ∨ g0.toInt ≤ 399) → jiv h 68 3 = g0 → jiv h 68 5 = g1 → jJ jSgX Dy h → jSm fp_X2_readPlain_r95_c0 h0 h → jX m_X2_readPlain 23 0 0 239 [] [] h 0 0 Q := by
  intro g0 g1 h y0 y1 y2 z0 z1  J Sm
  refine x_iconst (v := 1) rfl ki_1 ?_
  refine x_zret rfl rfl (by decide) ?_
  exact hQ _ _ (jr_of jk_1 (by omega)) J Sm _ _ z1 z0 (by omega)
set_option maxRecDepth 100000 in
set_option maxHeartbeats 4000000 in
theorem ct_X2_readPlain_r95_c0_229 {Dy : jH → Prop} {h0 : jH} {Q : Option Value → jH → Prop} (hD : jDk Dy) (hQ : ∀ (v : Int32) hx9, 0 ≤ v.toInt ∧ v.toInt ≤ 1 → jJ jSgX Dy hx9 → jSm fp_X2_readPlain_r95_c0 h0 hx9 → ∀ u0 u1 : Int32, jiv hx9 68 5 = u0 → jiv hx9 68 3 = u1 → (u0.toInt ≠ 3 ∨ u1.toInt ≤ 399) → Q (some (.int v)) hx9) : ∀ (l2 : Int32) (g0 : Int32) (g1 : Int32) (h : jH), 0 ≤ l2.toInt ∧ l2.toInt ≤ 1 → 0 ≤ g0.toInt ∧ g0.toInt ≤ 400 → 0 ≤ g1.toInt ∧ g1.toInt ≤ 3 → (g1.toInt ≠ 3 ∨ g0.toInt ≤ 399) → jiv h 68 3 = g0 → jiv h 68 5 = g1 → jJ jSgX Dy h → jSm fp_X2_readPlain_r95_c0 h0 h → jX m_X2_readPlain 23 0 0 229 [(0, .ref 95), (2, .int l2)] [] h 0 0 Q := by
  intro l2 g0 g1 h y0 y1 y2 y3 z0 z1  J Sm
  refine x_iloadn (x := l2) rfl rfl ?_
  refine x_ifeq (tgt := 239) rfl rfl (ti_eq rfl jk_0 ⟨fun c1 => ?_, fun c1 => ?_⟩)
  ·
    exact jX.sub jsb_n (ct_X2_readPlain_r95_c0_239 hD hQ  g0 g1 h (jr_of rfl (by omega)) (jr_of rfl (by omega)) (by omega) z0 z1 J Sm)
  ·
    refine x_aloadn (x := 95) rfl rfl ?_
    refine x_bipush (v := 10) rfl kb_10 ?_
    refine x_inv (N := m_X2_emit) (As := [.int 10]) (b := 95) (st := []) (dx9 := 1) (mc := 0) (ms := 0) (host := "") 2 rfl t_X2_emit ⟨Or.inl q_2_89, i_X2_emit.1, i_X2_emit.2⟩ ⟨by decide, rfl⟩ (congrArg Prod.fst (J.1.1 95 (2, 6) rfl)) rfl (by decide) rfl rfl ⟨by decide, by decide⟩ (sf_X2_emit_r95  hD J  (fun h J S2 => ?_))
    have Sm := jSm_tr rfl Sm S2
    show jX m_X2_readPlain 23 0 0 239 [(0, .ref 95), (2, .int l2)] [] _ 0 0 _
    exact jX.sub jsb_n (ct_X2_readPlain_r95_c0_239 hD hQ  g0 g1 h (jr_of rfl (by omega)) (jr_of rfl (by omega)) (by omega) (jmc S2 rfl z0) (jmc S2 rfl z1) J Sm)
set_option maxRecDepth 100000 in
set_option maxHeartbeats 4000000 in
theorem ct_X2_readPlain_r95_c0_100190 {Dy : jH → Prop} {h0 : jH} {Q : Option Value → jH → Prop} (hD : jDk Dy) (hQ : ∀ (v : Int32) hx9, 0 ≤ v.toInt ∧ v.toInt ≤ 1 → jJ jSgX Dy hx9 → jSm fp_X2_readPlain_r95_c0 h0 hx9 → ∀ u0 u1 : Int32, jiv hx9 68 5 = u0 → jiv hx9 68 3 = u1 → (u0.toInt ≠ 3 ∨ u1.toInt ≤ 399) → Q (some (.int v)) hx9) : ∀ (l2 : Int32) (g0 : Int32) (g1 : Int32) (h : jH), 0 ≤ l2.toInt ∧ l2.toInt ≤ 1 → 0 ≤ g0.toInt ∧ g0.toInt ≤ 400 → 0 ≤ g1.toInt ∧ g1.toInt ≤ 3 → (g1.toInt ≠ 3 ∨ g0.toInt ≤ 399) → jiv h 68 3 = g0 → jiv h 68 5 = g1 → jJ jSgX Dy h → jSm fp_X2_readPlain_r95_c0 h0 h → jX m_X2_readPlain 23 0 0 190 [(0, .ref 95), (1, .int 0), (2, .int l2)] [.int (-1)] h 0 0 Q := by
  intro l2 g0 g1 h y0 y1 y2 y3 z0 z1  J Sm
  refine x_istore (lsx9 := [(4, .int (-1)), (0, .ref 95), (1, .int 0), (2, .int l2)]) rfl rfl rfl ?_
  refine x_iload (x := (-1)) rfl rfl ?_
  refine x_iconst (v := (-1)) rfl ki_m1 ?_
  refine x_icne (tgt := 206) rfl rfl (ti_ne jk_m1 jk_m1 (bn_f (by omega) ?_))
  refine x_aloadn (x := 95) rfl rfl ?_
  refine z_getR (N := 6) (b := 68) 2 0 rfl f_2_30 rfl J rfl 12160 ⟨rfl, rfl⟩ rfl ?_
  refine x_inv (N := m_X9_blame) (As := []) (b := 68) (st := []) (dx9 := 22) (mc := 0) (ms := 0) (host := "") 9 rfl t_X9_blame ⟨Or.inl q_2_59, i_X9_blame.1, i_X9_blame.2⟩ ⟨by decide, rfl⟩ (congrArg Prod.fst (J.1.1 68 (9, 6) rfl)) rfl (by decide) rfl rfl ⟨by decide, by decide⟩ (jC.of rfl k_X9_blame rfl ?_)
  show jX m_X9_blame 22 0 0 0 [(0, .ref 68)] [] _ 0 0 _
  refine x_aloadn (x := 68) rfl rfl ?_
  refine x_aloadn (x := 68) rfl rfl ?_
  refine z_getM (N := 6) (v := g0) 9 3 rfl f_9_22 rfl J rfl z0 ?_
  refine z_putI (N := 6) (w := g0.toInt) 9 2 rfl f_9_19 rfl (jfin_no TX9 RX9 6 rfl rfl) hD J Sm rfl rfl rfl (pw_68_2 (by omega)) rfl (fun h w1 J Sm => ?_)
  refine x_iconst (v := 0) rfl ki_0 ?_
  refine x_zret rfl rfl (by decide) ?_
  show jX m_X2_readPlain 23 0 0 205 [(4, .int (-1)), (0, .ref 95), (1, .int 0), (2, .int l2)] [.int 0] _ 0 0 _
  refine x_zret rfl rfl (by decide) ?_
  exact hQ _ _ (jr_of jk_0 (by omega)) J Sm _ _ (jmo w1 rfl z1) (jmo w1 rfl z0) (by omega)
set_option maxRecDepth 100000 in
set_option maxHeartbeats 4000000 in
theorem ct_X2_readPlain_r95_c0_190 {Dy : jH → Prop} {h0 : jH} {Q : Option Value → jH → Prop} (hD : jDk Dy) (hQ : ∀ (v : Int32) hx9, 0 ≤ v.toInt ∧ v.toInt ≤ 1 → jJ jSgX Dy hx9 → jSm fp_X2_readPlain_r95_c0 h0 hx9 → ∀ u0 u1 : Int32, jiv hx9 68 5 = u0 → jiv hx9 68 3 = u1 → (u0.toInt ≠ 3 ∨ u1.toInt ≤ 399) → Q (some (.int v)) hx9) : ∀ (l2 : Int32) (g0 : Int32) (g1 : Int32) (h : jH), 0 ≤ l2.toInt ∧ l2.toInt ≤ 1 → 0 ≤ g0.toInt ∧ g0.toInt ≤ 400 → 0 ≤ g1.toInt ∧ g1.toInt ≤ 3 → (g1.toInt ≠ 3 ∨ g0.toInt ≤ 399) → jiv h 68 3 = g0 → jiv h 68 5 = g1 → jJ jSgX Dy h → jSm fp_X2_readPlain_r95_c0 h0 h → jX m_X2_readPlain 23 0 0 190 [(0, .ref 95), (1, .int 0), (2, .int l2)] [.int 9] h 0 0 Q := by
  intro l2 g0 g1 h y0 y1 y2 y3 z0 z1  J Sm
  refine x_istore (lsx9 := [(4, .int 9), (0, .ref 95), (1, .int 0), (2, .int l2)]) rfl rfl rfl ?_
  refine x_iload (x := 9) rfl rfl ?_
  refine x_iconst (v := (-1)) rfl ki_m1 ?_
  refine x_icne (tgt := 206) rfl rfl (ti_ne jk_9 jk_m1 (bn_t (by omega) ?_))
  refine x_aloadn (x := 95) rfl rfl ?_
  refine z_getR (N := 6) (b := 68) 2 0 rfl f_2_30 rfl J rfl 12160 ⟨rfl, rfl⟩ rfl ?_
  refine x_inv (N := m_X9_step) (As := []) (b := 68) (st := []) (dx9 := 2) (mc := 0) (ms := 0) (host := "") 9 rfl t_X9_step ⟨Or.inl q_2_62, i_X9_step.1, i_X9_step.2⟩ ⟨by decide, rfl⟩ (congrArg Prod.fst (J.1.1 68 (9, 6) rfl)) rfl (by decide) rfl rfl ⟨by decide, by decide⟩ (sf_X9_step_r68  hD J z1 z0 (by omega)  (fun h J S1 u2 u3 qu2 qu3 ru2 => ?_))
  have Sm := jSm_tr rfl Sm S1
  have eu2 := (show 0 ≤ u2.toInt ∧ u2.toInt ≤ 3 from qu2 ▸ jrg_f J sg_68_5_6_1_0_1)
  have eu3 := (show 0 ≤ u3.toInt ∧ u3.toInt ≤ 400 from qu3 ▸ jrg_f J sg_68_3_4_1_0_1)
  show jX m_X2_readPlain 23 0 0 213 [(4, .int 9), (0, .ref 95), (1, .int 0), (2, .int l2)] [] _ 0 0 _
  refine x_aloadn (x := 95) rfl rfl ?_
  refine x_iloadn (x := 0) rfl rfl ?_
  refine x_inv (N := m_X2_readSum) (As := [.int 0]) (b := 95) (st := []) (dx9 := 22) (mc := 0) (ms := 0) (host := "") 2 rfl t_X2_readSum ⟨Or.inl q_2_86, i_X2_readSum.1, i_X2_readSum.2⟩ ⟨by decide, rfl⟩ (congrArg Prod.fst (J.1.1 95 (2, 6) rfl)) rfl (by decide) rfl rfl ⟨by decide, by decide⟩ (sf_X2_readSum_r95_c0  hD J qu2 qu3 (by omega)  (fun v7 h ev7 J S4 u5 u6 qu5 qu6 ru5 => ?_))
  have Sm := jSm_tr rfl Sm S4
  have eu5 := (show 0 ≤ u5.toInt ∧ u5.toInt ≤ 3 from qu5 ▸ jrg_f J sg_68_5_6_1_0_1)
  have eu6 := (show 0 ≤ u6.toInt ∧ u6.toInt ≤ 400 from qu6 ▸ jrg_f J sg_68_3_4_1_0_1)
  show jX m_X2_readPlain 23 0 0 218 [(4, .int 9), (0, .ref 95), (1, .int 0), (2, .int l2)] [.int v7] _ 0 0 _
  refine x_ifne (tgt := 223) rfl rfl (ti_ne rfl jk_0 ⟨fun c8 => ?_, fun c8 => ?_⟩)
  ·
    refine x_aloadn (x := 95) rfl rfl ?_
    refine x_iload (x := 9) rfl rfl ?_
    refine x_inv (N := m_X2_emit) (As := [.int 9]) (b := 95) (st := []) (dx9 := 1) (mc := 0) (ms := 0) (host := "") 2 rfl t_X2_emit ⟨Or.inl q_2_89, i_X2_emit.1, i_X2_emit.2⟩ ⟨by decide, rfl⟩ (congrArg Prod.fst (J.1.1 95 (2, 6) rfl)) rfl (by decide) rfl rfl ⟨by decide, by decide⟩ (sf_X2_emit_r95  hD J  (fun h J S9 => ?_))
    have Sm := jSm_tr rfl Sm S9
    show jX m_X2_readPlain 23 0 0 229 [(4, .int 9), (0, .ref 95), (1, .int 0), (2, .int l2)] [] _ 0 0 _
    exact jX.sub (jsb_c rfl (jsb_c rfl jsb_n)) (ct_X2_readPlain_r95_c0_229 hD hQ  l2 u6 u5 h (jr_of rfl (by omega)) (jr_of rfl (by omega)) (jr_of rfl (by omega)) (by omega) (jmc S9 rfl qu6) (jmc S9 rfl qu5) J Sm)
  ·
    refine x_iconst (v := 0) rfl ki_0 ?_
    refine x_zret rfl rfl (by decide) ?_
    exact hQ _ _ (jr_of jk_0 (by omega)) J Sm _ _ qu5 qu6 (by omega)
set_option maxRecDepth 100000 in
set_option maxHeartbeats 4000000 in
theorem ct_X2_readPlain_r95_c0_1000190 {Dy : jH → Prop} {h0 : jH} {Q : Option Value → jH → Prop} (hD : jDk Dy) (hQ : ∀ (v : Int32) hx9, 0 ≤ v.toInt ∧ v.toInt ≤ 1 → jJ jSgX Dy hx9 → jSm fp_X2_readPlain_r95_c0 h0 hx9 → ∀ u0 u1 : Int32, jiv hx9 68 5 = u0 → jiv hx9 68 3 = u1 → (u0.toInt ≠ 3 ∨ u1.toInt ≤ 399) → Q (some (.int v)) hx9) : ∀ (l2 : Int32) (g0 : Int32) (g1 : Int32) (h : jH), 0 ≤ l2.toInt ∧ l2.toInt ≤ 1 → 0 ≤ g0.toInt ∧ g0.toInt ≤ 400 → 0 ≤ g1.toInt ∧ g1.toInt ≤ 3 → (g1.toInt ≠ 3 ∨ g0.toInt ≤ 399) → jiv h 68 3 = g0 → jiv h 68 5 = g1 → jJ jSgX Dy h → jSm fp_X2_readPlain_r95_c0 h0 h → jX m_X2_readPlain 23 0 0 190 [(0, .ref 95), (1, .int 0), (2, .int l2)] [.int 8] h 0 0 Q := by
  intro l2 g0 g1 h y0 y1 y2 y3 z0 z1  J Sm
  refine x_istore (lsx9 := [(4, .int 8), (0, .ref 95), (1, .int 0), (2, .int l2)]) rfl rfl rfl ?_
  refine x_iload (x := 8) rfl rfl ?_
  refine x_iconst (v := (-1)) rfl ki_m1 ?_
  refine x_icne (tgt := 206) rfl rfl (ti_ne jk_8 jk_m1 (bn_t (by omega) ?_))
  refine x_aloadn (x := 95) rfl rfl ?_
  refine z_getR (N := 6) (b := 68) 2 0 rfl f_2_30 rfl J rfl 12160 ⟨rfl, rfl⟩ rfl ?_
  refine x_inv (N := m_X9_step) (As := []) (b := 68) (st := []) (dx9 := 2) (mc := 0) (ms := 0) (host := "") 9 rfl t_X9_step ⟨Or.inl q_2_62, i_X9_step.1, i_X9_step.2⟩ ⟨by decide, rfl⟩ (congrArg Prod.fst (J.1.1 68 (9, 6) rfl)) rfl (by decide) rfl rfl ⟨by decide, by decide⟩ (sf_X9_step_r68  hD J z1 z0 (by omega)  (fun h J S1 u2 u3 qu2 qu3 ru2 => ?_))
  have Sm := jSm_tr rfl Sm S1
  have eu2 := (show 0 ≤ u2.toInt ∧ u2.toInt ≤ 3 from qu2 ▸ jrg_f J sg_68_5_6_1_0_1)
  have eu3 := (show 0 ≤ u3.toInt ∧ u3.toInt ≤ 400 from qu3 ▸ jrg_f J sg_68_3_4_1_0_1)
  show jX m_X2_readPlain 23 0 0 213 [(4, .int 8), (0, .ref 95), (1, .int 0), (2, .int l2)] [] _ 0 0 _
  refine x_aloadn (x := 95) rfl rfl ?_
  refine x_iloadn (x := 0) rfl rfl ?_
  refine x_inv (N := m_X2_readSum) (As := [.int 0]) (b := 95) (st := []) (dx9 := 22) (mc := 0) (ms := 0) (host := "") 2 rfl t_X2_readSum ⟨Or.inl q_2_86, i_X2_readSum.1, i_X2_readSum.2⟩ ⟨by decide, rfl⟩ (congrArg Prod.fst (J.1.1 95 (2, 6) rfl)) rfl (by decide) rfl rfl ⟨by decide, by decide⟩ (sf_X2_readSum_r95_c0  hD J qu2 qu3 (by omega)  (fun v7 h ev7 J S4 u5 u6 qu5 qu6 ru5 => ?_))
  have Sm := jSm_tr rfl Sm S4
  have eu5 := (show 0 ≤ u5.toInt ∧ u5.toInt ≤ 3 from qu5 ▸ jrg_f J sg_68_5_6_1_0_1)
  have eu6 := (show 0 ≤ u6.toInt ∧ u6.toInt ≤ 400 from qu6 ▸ jrg_f J sg_68_3_4_1_0_1)
  show jX m_X2_readPlain 23 0 0 218 [(4, .int 8), (0, .ref 95), (1, .int 0), (2, .int l2)] [.int v7] _ 0 0 _
  refine x_ifne (tgt := 223) rfl rfl (ti_ne rfl jk_0 ⟨fun c8 => ?_, fun c8 => ?_⟩)
  ·
    refine x_aloadn (x := 95) rfl rfl ?_
    refine x_iload (x := 8) rfl rfl ?_
    refine x_inv (N := m_X2_emit) (As := [.int 8]) (b := 95) (st := []) (dx9 := 1) (mc := 0) (ms := 0) (host := "") 2 rfl t_X2_emit ⟨Or.inl q_2_89, i_X2_emit.1, i_X2_emit.2⟩ ⟨by decide, rfl⟩ (congrArg Prod.fst (J.1.1 95 (2, 6) rfl)) rfl (by decide) rfl rfl ⟨by decide, by decide⟩ (sf_X2_emit_r95  hD J  (fun h J S9 => ?_))
    have Sm := jSm_tr rfl Sm S9
    show jX m_X2_readPlain 23 0 0 229 [(4, .int 8), (0, .ref 95), (1, .int 0), (2, .int l2)] [] _ 0 0 _
    exact jX.sub (jsb_c rfl (jsb_c rfl jsb_n)) (ct_X2_readPlain_r95_c0_229 hD hQ  l2 u6 u5 h (jr_of rfl (by omega)) (jr_of rfl (by omega)) (jr_of rfl (by omega)) (by omega) (jmc S9 rfl qu6) (jmc S9 rfl qu5) J Sm)
  ·
    refine x_iconst (v := 0) rfl ki_0 ?_
    refine x_zret rfl rfl (by decide) ?_
    exact hQ _ _ (jr_of jk_0 (by omega)) J Sm _ _ qu5 qu6 (by omega)
set_option maxRecDepth 100000 in
set_option maxHeartbeats 4000000 in
theorem ct_X2_readPlain_r95_c0_900190 {Dy : jH → Prop} {h0 : jH} {Q : Option Value → jH → Prop} (hD : jDk Dy) (hQ : ∀ (v : Int32) hx9, 0 ≤ v.toInt ∧ v.toInt ≤ 1 → jJ jSgX Dy hx9 → jSm fp_X2_readPlain_r95_c0 h0 hx9 → ∀ u0 u1 : Int32, jiv hx9 68 5 = u0 → jiv hx9 68 3 = u1 → (u0.toInt ≠ 3 ∨ u1.toInt ≤ 399) → Q (some (.int v)) hx9) : ∀ (l2 : Int32) (g0 : Int32) (g1 : Int32) (h : jH), 0 ≤ l2.toInt ∧ l2.toInt ≤ 1 → 0 ≤ g0.toInt ∧ g0.toInt ≤ 400 → 0 ≤ g1.toInt ∧ g1.toInt ≤ 3 → (g1.toInt ≠ 3 ∨ g0.toInt ≤ 399) → jiv h 68 3 = g0 → jiv h 68 5 = g1 → jJ jSgX Dy h → jSm fp_X2_readPlain_r95_c0 h0 h → jX m_X2_readPlain 23 0 0 190 [(0, .ref 95), (1, .int 0), (2, .int l2)] [.int 7] h 0 0 Q := by
  intro l2 g0 g1 h y0 y1 y2 y3 z0 z1  J Sm
  refine x_istore (lsx9 := [(4, .int 7), (0, .ref 95), (1, .int 0), (2, .int l2)]) rfl rfl rfl ?_
  refine x_iload (x := 7) rfl rfl ?_
  refine x_iconst (v := (-1)) rfl ki_m1 ?_
  refine x_icne (tgt := 206) rfl rfl (ti_ne jk_7 jk_m1 (bn_t (by omega) ?_))
  refine x_aloadn (x := 95) rfl rfl ?_
  refine z_getR (N := 6) (b := 68) 2 0 rfl f_2_30 rfl J rfl 12160 ⟨rfl, rfl⟩ rfl ?_
  refine x_inv (N := m_X9_step) (As := []) (b := 68) (st := []) (dx9 := 2) (mc := 0) (ms := 0) (host := "") 9 rfl t_X9_step ⟨Or.inl q_2_62, i_X9_step.1, i_X9_step.2⟩ ⟨by decide, rfl⟩ (congrArg Prod.fst (J.1.1 68 (9, 6) rfl)) rfl (by decide) rfl rfl ⟨by decide, by decide⟩ (sf_X9_step_r68  hD J z1 z0 (by omega)  (fun h J S1 u2 u3 qu2 qu3 ru2 => ?_))
  have Sm := jSm_tr rfl Sm S1
  have eu2 := (show 0 ≤ u2.toInt ∧ u2.toInt ≤ 3 from qu2 ▸ jrg_f J sg_68_5_6_1_0_1)
  have eu3 := (show 0 ≤ u3.toInt ∧ u3.toInt ≤ 400 from qu3 ▸ jrg_f J sg_68_3_4_1_0_1)
  show jX m_X2_readPlain 23 0 0 213 [(4, .int 7), (0, .ref 95), (1, .int 0), (2, .int l2)] [] _ 0 0 _
  refine x_aloadn (x := 95) rfl rfl ?_
  refine x_iloadn (x := 0) rfl rfl ?_
  refine x_inv (N := m_X2_readSum) (As := [.int 0]) (b := 95) (st := []) (dx9 := 22) (mc := 0) (ms := 0) (host := "") 2 rfl t_X2_readSum ⟨Or.inl q_2_86, i_X2_readSum.1, i_X2_readSum.2⟩ ⟨by decide, rfl⟩ (congrArg Prod.fst (J.1.1 95 (2, 6) rfl)) rfl (by decide) rfl rfl ⟨by decide, by decide⟩ (sf_X2_readSum_r95_c0  hD J qu2 qu3 (by omega)  (fun v7 h ev7 J S4 u5 u6 qu5 qu6 ru5 => ?_))
  have Sm := jSm_tr rfl Sm S4
  have eu5 := (show 0 ≤ u5.toInt ∧ u5.toInt ≤ 3 from qu5 ▸ jrg_f J sg_68_5_6_1_0_1)
  have eu6 := (show 0 ≤ u6.toInt ∧ u6.toInt ≤ 400 from qu6 ▸ jrg_f J sg_68_3_4_1_0_1)
  show jX m_X2_readPlain 23 0 0 218 [(4, .int 7), (0, .ref 95), (1, .int 0), (2, .int l2)] [.int v7] _ 0 0 _
  refine x_ifne (tgt := 223) rfl rfl (ti_ne rfl jk_0 ⟨fun c8 => ?_, fun c8 => ?_⟩)
  ·
    refine x_aloadn (x := 95) rfl rfl ?_
    refine x_iload (x := 7) rfl rfl ?_
    refine x_inv (N := m_X2_emit) (As := [.int 7]) (b := 95) (st := []) (dx9 := 1) (mc := 0) (ms := 0) (host := "") 2 rfl t_X2_emit ⟨Or.inl q_2_89, i_X2_emit.1, i_X2_emit.2⟩ ⟨by decide, rfl⟩ (congrArg Prod.fst (J.1.1 95 (2, 6) rfl)) rfl (by decide) rfl rfl ⟨by decide, by decide⟩ (sf_X2_emit_r95  hD J  (fun h J S9 => ?_))
    have Sm := jSm_tr rfl Sm S9
    show jX m_X2_readPlain 23 0 0 229 [(4, .int 7), (0, .ref 95), (1, .int 0), (2, .int l2)] [] _ 0 0 _
    exact jX.sub (jsb_c rfl (jsb_c rfl jsb_n)) (ct_X2_readPlain_r95_c0_229 hD hQ  l2 u6 u5 h (jr_of rfl (by omega)) (jr_of rfl (by omega)) (jr_of rfl (by omega)) (by omega) (jmc S9 rfl qu6) (jmc S9 rfl qu5) J Sm)
  ·
    refine x_iconst (v := 0) rfl ki_0 ?_
    refine x_zret rfl rfl (by decide) ?_
    exact hQ _ _ (jr_of jk_0 (by omega)) J Sm _ _ qu5 qu6 (by omega)
set_option maxRecDepth 100000 in
set_option maxHeartbeats 4000000 in
theorem ct_X2_readPlain_r95_c0_108 {Dy : jH → Prop} {h0 : jH} {Q : Option Value → jH → Prop} (hD : jDk Dy) (hQ : ∀ (v : Int32) hx9, 0 ≤ v.toInt ∧ v.toInt ≤ 1 → jJ jSgX Dy hx9 → jSm fp_X2_readPlain_r95_c0 h0 hx9 → ∀ u0 u1 : Int32, jiv hx9 68 5 = u0 → jiv hx9 68 3 = u1 → (u0.toInt ≠ 3 ∨ u1.toInt ≤ 399) → Q (some (.int v)) hx9) : ∀ (g0 : Int32) (g1 : Int32) (h : jH), 0 ≤ g0.toInt ∧ g0.toInt ≤ 400 → 0 ≤ g1.toInt ∧ g1.toInt ≤ 3 → (g1.toInt ≠ 3 ∨ g0.toInt ≤ 399) → jiv h 68 3 = g0 → jiv h 68 5 = g1 → jJ jSgX Dy h → jSm fp_X2_readPlain_r95_c0 h0 h → jX m_X2_readPlain 23 0 0 108 [] [] h 0 0 Q := by
  intro g0 g1 h y0 y1 y2 z0 z1  J Sm
  refine x_iconst (v := 0) rfl ki_0 ?_
  refine x_zret rfl rfl (by decide) ?_
  exact hQ _ _ (jr_of jk_0 (by omega)) J Sm _ _ z1 z0 (by omega)
set_option maxRecDepth 100000 in
set_option maxHeartbeats 4000000 in
theorem ct_X2_readPlain_r95_c0_46 {Dy : jH → Prop} {h0 : jH} {Q : Option Value → jH → Prop} (hD : jDk Dy) (hQ : ∀ (v : Int32) hx9, 0 ≤ v.toInt ∧ v.toInt ≤ 1 → jJ jSgX Dy hx9 → jSm fp_X2_readPlain_r95_c0 h0 hx9 → ∀ u0 u1 : Int32, jiv hx9 68 5 = u0 → jiv hx9 68 3 = u1 → (u0.toInt ≠ 3 ∨ u1.toInt ≤ 399) → Q (some (.int v)) hx9) : ∀ (l2 : Int32) (g0 : Int32) (g1 : Int32) (h : jH), 0 ≤ l2.toInt ∧ l2.toInt ≤ 1 → 0 ≤ g0.toInt ∧ g0.toInt ≤ 400 → 0 ≤ g1.toInt ∧ g1.toInt ≤ 3 → (g1.toInt ≠ 3 ∨ g0.toInt ≤ 399) → jiv h 68 3 = g0 → jiv h 68 5 = g1 → jJ jSgX Dy h → jSm fp_X2_readPlain_r95_c0 h0 h → jX m_X2_readPlain 23 0 0 46 [(0, .ref 95), (1, .int 0), (2, .int l2)] [] h 0 0 Q := by
  intro l2 g0 g1 h y0 y1 y2 y3 z0 z1  J Sm
  refine x_aloadn (x := 95) rfl rfl ?_
  refine z_getR (N := 6) (b := 68) 2 0 rfl f_2_30 rfl J rfl 12160 ⟨rfl, rfl⟩ rfl ?_
  refine x_ldcS (jstr.getD 10 jstr_0) rfl (List.mem_of_getElem? (i := 10) rfl) rfl rfl ?_
  show jX m_X2_readPlain 23 0 0 52 [(0, .ref 95), (1, .int 0), (2, .int l2)] [.ref 15, .ref 68] _ 0 0 _
  refine x_inv (N := m_X9_wordOf) (As := [.ref 15]) (b := 68) (st := []) (dx9 := 4) (mc := 0) (ms := 0) (host := "") 9 rfl t_X9_wordOf ⟨Or.inl q_2_67, i_X9_wordOf.1, i_X9_wordOf.2⟩ ⟨by decide, rfl⟩ (congrArg Prod.fst (J.1.1 68 (9, 6) rfl)) rfl (by decide) rfl rfl ⟨by decide, by decide⟩ (sf_X9_wordOf_r68_r15  hD J  (fun v2 h J S1 => ?_))
  have ev2 := jfull v2
  have Sm := jSm_tr rfl Sm S1
  show jX m_X2_readPlain 23 0 0 55 [(0, .ref 95), (1, .int 0), (2, .int l2)] [.int v2] _ 0 0 _
  refine x_istoren (lsx9 := [(3, .int v2), (0, .ref 95), (1, .int 0), (2, .int l2)]) rfl rfl rfl ?_
  refine x_aloadn (x := 95) rfl rfl ?_
  refine z_getR (N := 6) (b := 68) 2 0 rfl f_2_30 rfl J rfl 12160 ⟨rfl, rfl⟩ rfl ?_
  refine x_bipush (v := 40) rfl kb_40 ?_
  refine x_inv (N := m_X9_isSign) (As := [.int 40]) (b := 68) (st := []) (dx9 := 1) (mc := 0) (ms := 0) (host := "") 9 rfl t_X9_isSign ⟨Or.inl q_2_55, i_X9_isSign.1, i_X9_isSign.2⟩ ⟨by decide, rfl⟩ (congrArg Prod.fst (J.1.1 68 (9, 6) rfl)) rfl (by decide) rfl rfl ⟨by decide, by decide⟩ (sf_X9_isSign_r68 (jr_of jk_40 (by omega)) hD J (jmc S1 rfl z1) (jmc S1 rfl z0) (by omega)  (fun v6 h ev6 J S3 u4 u5 qu4 qu5 ru4 => ?_))
  have Sm := jSm_tr rfl Sm S3
  have eu4 := (show 0 ≤ u4.toInt ∧ u4.toInt ≤ 3 from qu4 ▸ jrg_f J sg_68_5_6_1_0_1)
  have eu5 := (show 0 ≤ u5.toInt ∧ u5.toInt ≤ 400 from qu5 ▸ jrg_f J sg_68_3_4_1_0_1)
  show jX m_X2_readPlain 23 0 0 65 [(3, .int v2), (0, .ref 95), (1, .int 0), (2, .int l2)] [.int v6] _ 0 0 _
  refine x_ifeq (tgt := 110) rfl rfl (ti_eq rfl jk_0 ⟨fun c7 => ?_, fun c7 => ?_⟩)
  ·
    refine x_iloadn (x := v2) rfl rfl ?_
    refine x_iconst (v := (-1)) rfl ki_m1 ?_
    refine x_iceq (tgt := 128) rfl rfl (ti_eq rfl jk_m1 ⟨fun c8 => ?_, fun c8 => ?_⟩)
    ·
      refine x_aloadn (x := 95) rfl rfl ?_
      refine x_iloadn (x := 0) rfl rfl ?_
      refine x_inv (N := m_X2_readSum) (As := [.int 0]) (b := 95) (st := []) (dx9 := 22) (mc := 0) (ms := 0) (host := "") 2 rfl t_X2_readSum ⟨Or.inl q_2_86, i_X2_readSum.1, i_X2_readSum.2⟩ ⟨by decide, rfl⟩ (congrArg Prod.fst (J.1.1 95 (2, 6) rfl)) rfl (by decide) rfl rfl ⟨by decide, by decide⟩ (sf_X2_readSum_r95_c0  hD J qu4 qu5 (by omega)  (fun v12 h ev12 J S9 u10 u11 qu10 qu11 ru10 => ?_))
      have Sm := jSm_tr rfl Sm S9
      have eu10 := (show 0 ≤ u10.toInt ∧ u10.toInt ≤ 3 from qu10 ▸ jrg_f J sg_68_5_6_1_0_1)
      have eu11 := (show 0 ≤ u11.toInt ∧ u11.toInt ≤ 400 from qu11 ▸ jrg_f J sg_68_3_4_1_0_1)
      show jX m_X2_readPlain 23 0 0 133 [(3, .int v2), (0, .ref 95), (1, .int 0), (2, .int l2)] [.int v12] _ 0 0 _
      refine x_ifne (tgt := 138) rfl rfl (ti_ne rfl jk_0 ⟨fun c13 => ?_, fun c13 => ?_⟩)
      ·
        refine x_aloadn (x := 95) rfl rfl ?_
        refine z_getR (N := 6) (b := 68) 2 0 rfl f_2_30 rfl J rfl 12160 ⟨rfl, rfl⟩ rfl ?_
        refine x_bipush (v := 60) rfl kb_60 ?_
        refine x_inv (N := m_X9_isSign) (As := [.int 60]) (b := 68) (st := []) (dx9 := 1) (mc := 0) (ms := 0) (host := "") 9 rfl t_X9_isSign ⟨Or.inl q_2_55, i_X9_isSign.1, i_X9_isSign.2⟩ ⟨by decide, rfl⟩ (congrArg Prod.fst (J.1.1 68 (9, 6) rfl)) rfl (by decide) rfl rfl ⟨by decide, by decide⟩ (sf_X9_isSign_r68 (jr_of jk_60 (by omega)) hD J qu10 qu11 (by omega)  (fun v17 h ev17 J S14 u15 u16 qu15 qu16 ru15 => ?_))
        have Sm := jSm_tr rfl Sm S14
        have eu15 := (show 0 ≤ u15.toInt ∧ u15.toInt ≤ 3 from qu15 ▸ jrg_f J sg_68_5_6_1_0_1)
        have eu16 := (show 0 ≤ u16.toInt ∧ u16.toInt ≤ 400 from qu16 ▸ jrg_f J sg_68_3_4_1_0_1)
        show jX m_X2_readPlain 23 0 0 147 [(3, .int v2), (0, .ref 95), (1, .int 0), (2, .int l2)] [.int v17] _ 0 0 _
        refine x_ifeq (tgt := 155) rfl rfl (ti_eq rfl jk_0 ⟨fun c18 => ?_, fun c18 => ?_⟩)
        ·
          refine x_aloadn (x := 95) rfl rfl ?_
          refine z_getR (N := 6) (b := 68) 2 0 rfl f_2_30 rfl J rfl 12160 ⟨rfl, rfl⟩ rfl ?_
          refine x_bipush (v := 62) rfl kb_62 ?_
          refine x_inv (N := m_X9_isSign) (As := [.int 62]) (b := 68) (st := []) (dx9 := 1) (mc := 0) (ms := 0) (host := "") 9 rfl t_X9_isSign ⟨Or.inl q_2_55, i_X9_isSign.1, i_X9_isSign.2⟩ ⟨by decide, rfl⟩ (congrArg Prod.fst (J.1.1 68 (9, 6) rfl)) rfl (by decide) rfl rfl ⟨by decide, by decide⟩ (sf_X9_isSign_r68 (jr_of jk_62 (by omega)) hD J qu15 qu16 (by omega)  (fun v22 h ev22 J S19 u20 u21 qu20 qu21 ru20 => ?_))
          have Sm := jSm_tr rfl Sm S19
          have eu20 := (show 0 ≤ u20.toInt ∧ u20.toInt ≤ 3 from qu20 ▸ jrg_f J sg_68_5_6_1_0_1)
          have eu21 := (show 0 ≤ u21.toInt ∧ u21.toInt ≤ 400 from qu21 ▸ jrg_f J sg_68_3_4_1_0_1)
          show jX m_X2_readPlain 23 0 0 164 [(3, .int v2), (0, .ref 95), (1, .int 0), (2, .int l2)] [.int v22] _ 0 0 _
          refine x_ifeq (tgt := 172) rfl rfl (ti_eq rfl jk_0 ⟨fun c23 => ?_, fun c23 => ?_⟩)
          ·
            refine x_aloadn (x := 95) rfl rfl ?_
            refine z_getR (N := 6) (b := 68) 2 0 rfl f_2_30 rfl J rfl 12160 ⟨rfl, rfl⟩ rfl ?_
            refine x_bipush (v := 61) rfl kb_61 ?_
            refine x_inv (N := m_X9_isSign) (As := [.int 61]) (b := 68) (st := []) (dx9 := 1) (mc := 0) (ms := 0) (host := "") 9 rfl t_X9_isSign ⟨Or.inl q_2_55, i_X9_isSign.1, i_X9_isSign.2⟩ ⟨by decide, rfl⟩ (congrArg Prod.fst (J.1.1 68 (9, 6) rfl)) rfl (by decide) rfl rfl ⟨by decide, by decide⟩ (sf_X9_isSign_r68 (jr_of jk_61 (by omega)) hD J qu20 qu21 (by omega)  (fun v27 h ev27 J S24 u25 u26 qu25 qu26 ru25 => ?_))
            have Sm := jSm_tr rfl Sm S24
            have eu25 := (show 0 ≤ u25.toInt ∧ u25.toInt ≤ 3 from qu25 ▸ jrg_f J sg_68_5_6_1_0_1)
            have eu26 := (show 0 ≤ u26.toInt ∧ u26.toInt ≤ 400 from qu26 ▸ jrg_f J sg_68_3_4_1_0_1)
            show jX m_X2_readPlain 23 0 0 181 [(3, .int v2), (0, .ref 95), (1, .int 0), (2, .int l2)] [.int v27] _ 0 0 _
            refine x_ifeq (tgt := 189) rfl rfl (ti_eq rfl jk_0 ⟨fun c28 => ?_, fun c28 => ?_⟩)
            ·
              refine x_iconst (v := (-1)) rfl ki_m1 ?_
              exact jX.sub (jsb_c rfl (jsb_c rfl (jsb_c rfl jsb_n))) (ct_X2_readPlain_r95_c0_100190 hD hQ  l2 u26 u25 h (jr_of rfl (by omega)) (jr_of rfl (by omega)) (jr_of rfl (by omega)) (by omega) qu26 qu25 J Sm)
            ·
              refine x_bipush (v := 9) rfl kb_9 ?_
              refine x_goto (tgt := 190) rfl rfl ?_
              exact jX.sub (jsb_c rfl (jsb_c rfl (jsb_c rfl jsb_n))) (ct_X2_readPlain_r95_c0_190 hD hQ  l2 u26 u25 h (jr_of rfl (by omega)) (jr_of rfl (by omega)) (jr_of rfl (by omega)) (by omega) qu26 qu25 J Sm)
          ·
            refine x_bipush (v := 8) rfl kb_8 ?_
            refine x_goto (tgt := 190) rfl rfl ?_
            exact jX.sub (jsb_c rfl (jsb_c rfl (jsb_c rfl jsb_n))) (ct_X2_readPlain_r95_c0_1000190 hD hQ  l2 u21 u20 h (jr_of rfl (by omega)) (jr_of rfl (by omega)) (jr_of rfl (by omega)) (by omega) qu21 qu20 J Sm)
        ·
          refine x_bipush (v := 7) rfl kb_7 ?_
          refine x_goto (tgt := 190) rfl rfl ?_
          exact jX.sub (jsb_c rfl (jsb_c rfl (jsb_c rfl jsb_n))) (ct_X2_readPlain_r95_c0_900190 hD hQ  l2 u16 u15 h (jr_of rfl (by omega)) (jr_of rfl (by omega)) (jr_of rfl (by omega)) (by omega) qu16 qu15 J Sm)
      ·
        refine x_iconst (v := 0) rfl ki_0 ?_
        refine x_zret rfl rfl (by decide) ?_
        exact hQ _ _ (jr_of jk_0 (by omega)) J Sm _ _ qu10 qu11 (by omega)
    ·
      refine x_aloadn (x := 95) rfl rfl ?_
      refine x_iconst (v := 2) rfl ki_2 ?_
      refine x_iconst (v := 5) rfl ki_5 ?_
      refine x_iloadn (x := v2) rfl rfl ?_
      refine z_iadd0 rfl (fun v29 => ?_)
      have ev29 := jfull v29
      refine x_inv (N := m_X2_readPart) (As := [.int 2, .int v29]) (b := 95) (st := []) (dx9 := 3) (mc := 0) (ms := 0) (host := "") 2 rfl t_X2_readPart ⟨Or.inl q_2_141, i_X2_readPart.1, i_X2_readPart.2⟩ ⟨by decide, rfl⟩ (congrArg Prod.fst (J.1.1 95 (2, 6) rfl)) rfl (by decide) rfl rfl ⟨by decide, by decide⟩ (sf_X2_readPart_r95 (jr_of jk_2 (by omega)) hD J qu4 qu5 (by omega)  (fun v33 h ev33 J S30 u31 u32 qu31 qu32 ru31 => ?_))
      have Sm := jSm_tr rfl Sm S30
      have eu31 := (show 0 ≤ u31.toInt ∧ u31.toInt ≤ 3 from qu31 ▸ jrg_f J sg_68_5_6_1_0_1)
      have eu32 := (show 0 ≤ u32.toInt ∧ u32.toInt ≤ 400 from qu32 ▸ jrg_f J sg_68_3_4_1_0_1)
      show jX m_X2_readPlain 23 0 0 123 [(3, .int v2), (0, .ref 95), (1, .int 0), (2, .int l2)] [.int v33] _ 0 0 _
      refine x_ifne (tgt := 229) rfl rfl (ti_ne rfl jk_0 ⟨fun c34 => ?_, fun c34 => ?_⟩)
      ·
        exact jX.sub (jsb_c rfl (jsb_c rfl jsb_n)) (ct_X2_readPlain_r95_c0_229 hD hQ  l2 u32 u31 h (jr_of rfl (by omega)) (jr_of rfl (by omega)) (jr_of rfl (by omega)) (by omega) qu32 qu31 J Sm)
      ·
        refine x_iconst (v := 0) rfl ki_0 ?_
        refine x_zret rfl rfl (by decide) ?_
        exact hQ _ _ (jr_of jk_0 (by omega)) J Sm _ _ qu31 qu32 (by omega)
  ·
    refine x_iloadn (x := 0) rfl rfl ?_
    refine x_bipush (v := 8) rfl kb_8 ?_
    refine x_iclt (tgt := 82) rfl rfl (ti_lt jk_0 jk_8 (br_t (by omega) ?_))
    refine x_aloadn (x := 95) rfl rfl ?_
    refine z_getR (N := 6) (b := 68) 2 0 rfl f_2_30 rfl J rfl 12160 ⟨rfl, rfl⟩ rfl ?_
    refine x_inv (N := m_X9_step) (As := []) (b := 68) (st := []) (dx9 := 2) (mc := 0) (ms := 0) (host := "") 9 rfl t_X9_step ⟨Or.inl q_2_62, i_X9_step.1, i_X9_step.2⟩ ⟨by decide, rfl⟩ (congrArg Prod.fst (J.1.1 68 (9, 6) rfl)) rfl (by decide) rfl rfl ⟨by decide, by decide⟩ (sf_X9_step_r68  hD J qu4 qu5 (by omega)  (fun h J S35 u36 u37 qu36 qu37 ru36 => ?_))
    have Sm := jSm_tr rfl Sm S35
    have eu36 := (show 0 ≤ u36.toInt ∧ u36.toInt ≤ 3 from qu36 ▸ jrg_f J sg_68_5_6_1_0_1)
    have eu37 := (show 0 ≤ u37.toInt ∧ u37.toInt ≤ 400 from qu37 ▸ jrg_f J sg_68_3_4_1_0_1)
    show jX m_X2_readPlain 23 0 0 89 [(3, .int v2), (0, .ref 95), (1, .int 0), (2, .int l2)] [] _ 0 0 _
    refine x_aloadn (x := 95) rfl rfl ?_
    refine x_iloadn (x := 0) rfl rfl ?_
    refine x_iconst (v := 1) rfl ki_1 ?_
    refine y_iadd (v := 1) rfl (by decide) ?_
    refine x_inv (N := m_X2_readTest) (As := [.int 1]) (b := 95) (st := []) (dx9 := 22) (mc := 0) (ms := 0) (host := "") 2 rfl t_X2_readTest ⟨Or.inl q_2_96, i_X2_readTest.1, i_X2_readTest.2⟩ ⟨by decide, rfl⟩ (congrArg Prod.fst (J.1.1 95 (2, 6) rfl)) rfl (by decide) rfl rfl ⟨by decide, by decide⟩ (sf_X2_readTest_r95_c1  hD J qu36 qu37 (by omega)  (fun v41 h ev41 J S38 u39 u40 qu39 qu40 ru39 => ?_))
    have Sm := jSm_tr rfl Sm S38
    have eu39 := (show 0 ≤ u39.toInt ∧ u39.toInt ≤ 3 from qu39 ▸ jrg_f J sg_68_5_6_1_0_1)
    have eu40 := (show 0 ≤ u40.toInt ∧ u40.toInt ≤ 400 from qu40 ▸ jrg_f J sg_68_3_4_1_0_1)
    show jX m_X2_readPlain 23 0 0 96 [(3, .int v2), (0, .ref 95), (1, .int 0), (2, .int l2)] [.int v41] _ 0 0 _
    refine x_ifeq (tgt := 108) rfl rfl (ti_eq rfl jk_0 ⟨fun c42 => ?_, fun c42 => ?_⟩)
    ·
      exact jX.sub jsb_n (ct_X2_readPlain_r95_c0_108 hD hQ  u40 u39 h (jr_of rfl (by omega)) (jr_of rfl (by omega)) (by omega) qu40 qu39 J Sm)
    ·
      refine x_aloadn (x := 95) rfl rfl ?_
      refine x_bipush (v := 41) rfl kb_41 ?_
      refine x_inv (N := m_X2_readSign) (As := [.int 41]) (b := 95) (st := []) (dx9 := 22) (mc := 0) (ms := 0) (host := "") 2 rfl t_X2_readSign ⟨Or.inl q_2_138, i_X2_readSign.1, i_X2_readSign.2⟩ ⟨by decide, rfl⟩ (congrArg Prod.fst (J.1.1 95 (2, 6) rfl)) rfl (by decide) rfl rfl ⟨by decide, by decide⟩ (jC.of rfl k_X2_readSign rfl ?_)
      show jX m_X2_readSign 22 0 0 0 [(0, .ref 95), (1, .int 41)] [] _ 0 0 _
      refine x_aloadn (x := 95) rfl rfl ?_
      refine z_getR (N := 6) (b := 68) 2 0 rfl f_2_30 rfl J rfl 12160 ⟨rfl, rfl⟩ rfl ?_
      refine x_iloadn (x := 41) rfl rfl ?_
      refine x_inv (N := m_X9_isSign) (As := [.int 41]) (b := 68) (st := []) (dx9 := 1) (mc := 0) (ms := 0) (host := "") 9 rfl t_X9_isSign ⟨Or.inl q_2_55, i_X9_isSign.1, i_X9_isSign.2⟩ ⟨by decide, rfl⟩ (congrArg Prod.fst (J.1.1 68 (9, 6) rfl)) rfl (by decide) rfl rfl ⟨by decide, by decide⟩ (sf_X9_isSign_r68 (jr_of jk_41 (by omega)) hD J qu39 qu40 (by omega)  (fun v46 h ev46 J S43 u44 u45 qu44 qu45 ru44 => ?_))
      have Sm := jSm_tr rfl Sm S43
      have eu44 := (show 0 ≤ u44.toInt ∧ u44.toInt ≤ 3 from qu44 ▸ jrg_f J sg_68_5_6_1_0_1)
      have eu45 := (show 0 ≤ u45.toInt ∧ u45.toInt ≤ 400 from qu45 ▸ jrg_f J sg_68_3_4_1_0_1)
      show jX m_X2_readSign 22 0 0 8 [(0, .ref 95), (1, .int 41)] [.int v46] _ 0 0 _
      refine x_ifne (tgt := 19) rfl rfl (ti_ne rfl jk_0 ⟨fun c47 => ?_, fun c47 => ?_⟩)
      ·
        refine x_aloadn (x := 95) rfl rfl ?_
        refine z_getR (N := 6) (b := 68) 2 0 rfl f_2_30 rfl J rfl 12160 ⟨rfl, rfl⟩ rfl ?_
        refine x_inv (N := m_X9_step) (As := []) (b := 68) (st := []) (dx9 := 2) (mc := 0) (ms := 0) (host := "") 9 rfl t_X9_step ⟨Or.inl q_2_62, i_X9_step.1, i_X9_step.2⟩ ⟨by decide, rfl⟩ (congrArg Prod.fst (J.1.1 68 (9, 6) rfl)) rfl (by decide) rfl rfl ⟨by decide, by decide⟩ (sf_X9_step_r68  hD J qu44 qu45 (by omega)  (fun h J S48 u49 u50 qu49 qu50 ru49 => ?_))
        have Sm := jSm_tr rfl Sm S48
        have eu49 := (show 0 ≤ u49.toInt ∧ u49.toInt ≤ 3 from qu49 ▸ jrg_f J sg_68_5_6_1_0_1)
        have eu50 := (show 0 ≤ u50.toInt ∧ u50.toInt ≤ 400 from qu50 ▸ jrg_f J sg_68_3_4_1_0_1)
        show jX m_X2_readSign 22 0 0 26 [(0, .ref 95), (1, .int 41)] [] _ 0 0 _
        refine x_iconst (v := 1) rfl ki_1 ?_
        refine x_zret rfl rfl (by decide) ?_
        show jX m_X2_readPlain 23 0 0 105 [(3, .int v2), (0, .ref 95), (1, .int 0), (2, .int l2)] [.int 1] _ 0 0 _
        refine x_ifne (tgt := 229) rfl rfl (ti_ne jk_1 jk_0 (bn_t (by omega) ?_))
        exact jX.sub (jsb_c rfl (jsb_c rfl jsb_n)) (ct_X2_readPlain_r95_c0_229 hD hQ  l2 u50 u49 h (jr_of rfl (by omega)) (jr_of rfl (by omega)) (jr_of rfl (by omega)) (by omega) qu50 qu49 J Sm)
      ·
        refine x_aloadn (x := 95) rfl rfl ?_
        refine z_getR (N := 6) (b := 68) 2 0 rfl f_2_30 rfl J rfl 12160 ⟨rfl, rfl⟩ rfl ?_
        refine x_inv (N := m_X9_blame) (As := []) (b := 68) (st := []) (dx9 := 21) (mc := 0) (ms := 0) (host := "") 9 rfl t_X9_blame ⟨Or.inl q_2_59, i_X9_blame.1, i_X9_blame.2⟩ ⟨by decide, rfl⟩ (congrArg Prod.fst (J.1.1 68 (9, 6) rfl)) rfl (by decide) rfl rfl ⟨by decide, by decide⟩ (jC.of rfl k_X9_blame rfl ?_)
        show jX m_X9_blame 21 0 0 0 [(0, .ref 68)] [] _ 0 0 _
        refine x_aloadn (x := 68) rfl rfl ?_
        refine x_aloadn (x := 68) rfl rfl ?_
        refine z_getM (N := 6) (v := u45) 9 3 rfl f_9_22 rfl J rfl qu45 ?_
        refine z_putI (N := 6) (w := u45.toInt) 9 2 rfl f_9_19 rfl (jfin_no TX9 RX9 6 rfl rfl) hD J Sm rfl rfl rfl (pw_68_2 (by omega)) rfl (fun h w51 J Sm => ?_)
        refine x_iconst (v := 0) rfl ki_0 ?_
        refine x_zret rfl rfl (by decide) ?_
        show jX m_X2_readSign 22 0 0 18 [(0, .ref 95), (1, .int 41)] [.int 0] _ 0 0 _
        refine x_zret rfl rfl (by decide) ?_
        show jX m_X2_readPlain 23 0 0 105 [(3, .int v2), (0, .ref 95), (1, .int 0), (2, .int l2)] [.int 0] _ 0 0 _
        refine x_ifne (tgt := 229) rfl rfl (ti_ne jk_0 jk_0 (bn_f (by omega) ?_))
        exact jX.sub jsb_n (ct_X2_readPlain_r95_c0_108 hD hQ  u45 u44 h (jr_of rfl (by omega)) (jr_of rfl (by omega)) (by omega) (jmo w51 rfl qu45) (jmo w51 rfl qu44) J Sm)
set_option maxRecDepth 100000 in
set_option maxHeartbeats 4000000 in
theorem ct_X2_readPlain_r95_c0_300032 {Dy : jH → Prop} {h0 : jH} {Q : Option Value → jH → Prop} {R4 : Int} (hD : jDk Dy) (hQ : ∀ (v : Int32) hx9, 0 ≤ v.toInt ∧ v.toInt ≤ 1 → jJ jSgX Dy hx9 → jSm fp_X2_readPlain_r95_c0 h0 hx9 → ∀ u0 u1 : Int32, jiv hx9 68 5 = u0 → jiv hx9 68 3 = u1 → (u0.toInt ≠ 3 ∨ u1.toInt ≤ 399) → Q (some (.int v)) hx9) (k4 : ∀ (l2 : Int32) (l3 : Int32) (g0 : Int32) (g1 : Int32) (h : jH), 400 - l3.toInt < R4 → 0 ≤ l2.toInt ∧ l2.toInt ≤ 1 → 0 ≤ l3.toInt ∧ l3.toInt ≤ 400 → 0 ≤ g0.toInt ∧ g0.toInt ≤ 400 → 0 ≤ g1.toInt ∧ g1.toInt ≤ 3 → (g1.toInt ≠ 3 ∨ g0.toInt ≤ 399) → jiv h 68 3 = g0 → jiv h 68 5 = g1 → jJ jSgX Dy h → jSm fp_X2_readPlain_r95_c0 h0 h → jX m_X2_readPlain 23 0 0 4 [(0, .ref 95), (1, .int 0), (2, .int l2), (3, .int l3)] [] h 0 0 Q) : ∀ (l3 : Int32) (g0 : Int32) (g1 : Int32) (h : jH), 0 ≤ l3.toInt ∧ l3.toInt ≤ 399 → 0 ≤ g0.toInt ∧ g0.toInt ≤ 400 → 0 ≤ g1.toInt ∧ g1.toInt ≤ 3 → (g1.toInt ≠ 3 ∨ g0.toInt ≤ 399) → jiv h 68 3 = g0 → jiv h 68 5 = g1 → 400 - l3.toInt ≤ R4 → jJ jSgX Dy h → jSm fp_X2_readPlain_r95_c0 h0 h → jX m_X2_readPlain 23 0 0 32 [(0, .ref 95), (1, .int 0), (3, .int l3)] [.int 1] h 0 0 Q := by
  intro l3 g0 g1 h y0 y1 y2 y3 z0 z1 m4 J Sm
  refine x_istoren (lsx9 := [(2, .int 1), (0, .ref 95), (1, .int 0), (3, .int l3)]) rfl rfl rfl ?_
  refine x_aloadn (x := 95) rfl rfl ?_
  refine z_getR (N := 6) (b := 68) 2 0 rfl f_2_30 rfl J rfl 12160 ⟨rfl, rfl⟩ rfl ?_
  refine x_inv (N := m_X9_step) (As := []) (b := 68) (st := []) (dx9 := 2) (mc := 0) (ms := 0) (host := "") 9 rfl t_X9_step ⟨Or.inl q_2_62, i_X9_step.1, i_X9_step.2⟩ ⟨by decide, rfl⟩ (congrArg Prod.fst (J.1.1 68 (9, 6) rfl)) rfl (by decide) rfl rfl ⟨by decide, by decide⟩ (sf_X9_step_r68  hD J z1 z0 (by omega)  (fun h J S1 u2 u3 qu2 qu3 ru2 => ?_))
  have Sm := jSm_tr rfl Sm S1
  have eu2 := (show 0 ≤ u2.toInt ∧ u2.toInt ≤ 3 from qu2 ▸ jrg_f J sg_68_5_6_1_0_1)
  have eu3 := (show 0 ≤ u3.toInt ∧ u3.toInt ≤ 400 from qu3 ▸ jrg_f J sg_68_3_4_1_0_1)
  show jX m_X2_readPlain 23 0 0 40 [(2, .int 1), (0, .ref 95), (1, .int 0), (3, .int l3)] [] _ 0 0 _
  refine z_iinc (x := l3) (lsx9 := fun v4 => [(3, .int v4), (2, .int 1), (0, .ref 95), (1, .int 0)]) rfl rfl rfl jko_1 (by omega) rfl (fun _ => rfl) (fun v4 ev4 => ?_)
  refine x_goto (tgt := 4) rfl rfl ?_
  exact jX.sub (jsb_c rfl (jsb_c rfl (jsb_c rfl (jsb_c rfl jsb_n)))) (k4 1 v4 u3 u2 h (by omega) (jr_of jk_1 (by omega)) (jr_of rfl (by omega)) (jr_of rfl (by omega)) (jr_of rfl (by omega)) (by omega) qu3 qu2 J Sm)
set_option maxRecDepth 100000 in
set_option maxHeartbeats 4000000 in
theorem ct_X2_readPlain_r95_c0_200032 {Dy : jH → Prop} {h0 : jH} {Q : Option Value → jH → Prop} {R4 : Int} (hD : jDk Dy) (hQ : ∀ (v : Int32) hx9, 0 ≤ v.toInt ∧ v.toInt ≤ 1 → jJ jSgX Dy hx9 → jSm fp_X2_readPlain_r95_c0 h0 hx9 → ∀ u0 u1 : Int32, jiv hx9 68 5 = u0 → jiv hx9 68 3 = u1 → (u0.toInt ≠ 3 ∨ u1.toInt ≤ 399) → Q (some (.int v)) hx9) (k4 : ∀ (l2 : Int32) (l3 : Int32) (g0 : Int32) (g1 : Int32) (h : jH), 400 - l3.toInt < R4 → 0 ≤ l2.toInt ∧ l2.toInt ≤ 1 → 0 ≤ l3.toInt ∧ l3.toInt ≤ 400 → 0 ≤ g0.toInt ∧ g0.toInt ≤ 400 → 0 ≤ g1.toInt ∧ g1.toInt ≤ 3 → (g1.toInt ≠ 3 ∨ g0.toInt ≤ 399) → jiv h 68 3 = g0 → jiv h 68 5 = g1 → jJ jSgX Dy h → jSm fp_X2_readPlain_r95_c0 h0 h → jX m_X2_readPlain 23 0 0 4 [(0, .ref 95), (1, .int 0), (2, .int l2), (3, .int l3)] [] h 0 0 Q) : ∀ (l3 : Int32) (g0 : Int32) (g1 : Int32) (h : jH), 0 ≤ l3.toInt ∧ l3.toInt ≤ 399 → 0 ≤ g0.toInt ∧ g0.toInt ≤ 400 → 0 ≤ g1.toInt ∧ g1.toInt ≤ 3 → (g1.toInt ≠ 3 ∨ g0.toInt ≤ 399) → jiv h 68 3 = g0 → jiv h 68 5 = g1 → 400 - l3.toInt ≤ R4 → jJ jSgX Dy h → jSm fp_X2_readPlain_r95_c0 h0 h → jX m_X2_readPlain 23 0 0 32 [(0, .ref 95), (1, .int 0), (3, .int l3)] [.int 0] h 0 0 Q := by
  intro l3 g0 g1 h y0 y1 y2 y3 z0 z1 m4 J Sm
  refine x_istoren (lsx9 := [(2, .int 0), (0, .ref 95), (1, .int 0), (3, .int l3)]) rfl rfl rfl ?_
  refine x_aloadn (x := 95) rfl rfl ?_
  refine z_getR (N := 6) (b := 68) 2 0 rfl f_2_30 rfl J rfl 12160 ⟨rfl, rfl⟩ rfl ?_
  refine x_inv (N := m_X9_step) (As := []) (b := 68) (st := []) (dx9 := 2) (mc := 0) (ms := 0) (host := "") 9 rfl t_X9_step ⟨Or.inl q_2_62, i_X9_step.1, i_X9_step.2⟩ ⟨by decide, rfl⟩ (congrArg Prod.fst (J.1.1 68 (9, 6) rfl)) rfl (by decide) rfl rfl ⟨by decide, by decide⟩ (sf_X9_step_r68  hD J z1 z0 (by omega)  (fun h J S1 u2 u3 qu2 qu3 ru2 => ?_))
  have Sm := jSm_tr rfl Sm S1
  have eu2 := (show 0 ≤ u2.toInt ∧ u2.toInt ≤ 3 from qu2 ▸ jrg_f J sg_68_5_6_1_0_1)
  have eu3 := (show 0 ≤ u3.toInt ∧ u3.toInt ≤ 400 from qu3 ▸ jrg_f J sg_68_3_4_1_0_1)
  show jX m_X2_readPlain 23 0 0 40 [(2, .int 0), (0, .ref 95), (1, .int 0), (3, .int l3)] [] _ 0 0 _
  refine z_iinc (x := l3) (lsx9 := fun v4 => [(3, .int v4), (2, .int 0), (0, .ref 95), (1, .int 0)]) rfl rfl rfl jko_1 (by omega) rfl (fun _ => rfl) (fun v4 ev4 => ?_)
  refine x_goto (tgt := 4) rfl rfl ?_
  exact jX.sub (jsb_c rfl (jsb_c rfl (jsb_c rfl (jsb_c rfl jsb_n)))) (k4 0 v4 u3 u2 h (by omega) (jr_of jk_0 (by omega)) (jr_of rfl (by omega)) (jr_of rfl (by omega)) (jr_of rfl (by omega)) (by omega) qu3 qu2 J Sm)
set_option maxRecDepth 100000 in
set_option maxHeartbeats 4000000 in
theorem ct_X2_readPlain_r95_c0_4 {Dy : jH → Prop} {h0 : jH} {Q : Option Value → jH → Prop} (hD : jDk Dy) (hQ : ∀ (v : Int32) hx9, 0 ≤ v.toInt ∧ v.toInt ≤ 1 → jJ jSgX Dy hx9 → jSm fp_X2_readPlain_r95_c0 h0 hx9 → ∀ u0 u1 : Int32, jiv hx9 68 5 = u0 → jiv hx9 68 3 = u1 → (u0.toInt ≠ 3 ∨ u1.toInt ≤ 399) → Q (some (.int v)) hx9) : ∀ r : Nat, ∀ (l2 : Int32) (l3 : Int32) (g0 : Int32) (g1 : Int32) (h : jH), 400 - l3.toInt < (r : Int) → 0 ≤ l2.toInt ∧ l2.toInt ≤ 1 → 0 ≤ l3.toInt ∧ l3.toInt ≤ 400 → 0 ≤ g0.toInt ∧ g0.toInt ≤ 400 → 0 ≤ g1.toInt ∧ g1.toInt ≤ 3 → (g1.toInt ≠ 3 ∨ g0.toInt ≤ 399) → jiv h 68 3 = g0 → jiv h 68 5 = g1 → jJ jSgX Dy h → jSm fp_X2_readPlain_r95_c0 h0 h → jX m_X2_readPlain 23 0 0 4 [(0, .ref 95), (1, .int 0), (2, .int l2), (3, .int l3)] [] h 0 0 Q := by
  intro r
  induction r with
  | zero =>
    intro l2 l3 g0 g1 h hm y0 y1 y2 y3 y4 z0 z1  J Sm
    exfalso
    omega
  | succ r ih =>
    intro l2 l3 g0 g1 h hm y0 y1 y2 y3 y4 z0 z1  J Sm
    refine x_iloadn (x := l3) rfl rfl ?_
    refine x_sipush (v := 400) rfl ks_400 ?_
    refine x_icge (tgt := 46) rfl rfl (ti_ge rfl jk_400 ⟨fun c1 => ?_, fun c1 => ?_⟩)
    ·
      exact jX.sub (jsb_c rfl (jsb_c rfl (jsb_c rfl jsb_n))) (ct_X2_readPlain_r95_c0_46 hD hQ  l2 g0 g1 h (jr_of rfl (by omega)) (jr_of rfl (by omega)) (jr_of rfl (by omega)) (by omega) z0 z1 J Sm)
    ·
      refine x_aloadn (x := 95) rfl rfl ?_
      refine z_getR (N := 6) (b := 68) 2 0 rfl f_2_30 rfl J rfl 12160 ⟨rfl, rfl⟩ rfl ?_
      refine x_ldcS (jstr.getD 9 jstr_0) rfl (List.mem_of_getElem? (i := 9) rfl) rfl rfl ?_
      show jX m_X2_readPlain 23 0 0 17 [(0, .ref 95), (1, .int 0), (2, .int l2), (3, .int l3)] [.ref 14, .ref 68] _ 0 0 _
      refine x_inv (N := m_X9_wordOf) (As := [.ref 14]) (b := 68) (st := []) (dx9 := 4) (mc := 0) (ms := 0) (host := "") 9 rfl t_X9_wordOf ⟨Or.inl q_2_67, i_X9_wordOf.1, i_X9_wordOf.2⟩ ⟨by decide, rfl⟩ (congrArg Prod.fst (J.1.1 68 (9, 6) rfl)) rfl (by decide) rfl rfl ⟨by decide, by decide⟩ (sf_X9_wordOf_r68_r14  hD J  (fun v3 h J S2 => ?_))
      have ev3 := jfull v3
      have Sm := jSm_tr rfl Sm S2
      show jX m_X2_readPlain 23 0 0 20 [(0, .ref 95), (1, .int 0), (2, .int l2), (3, .int l3)] [.int v3] _ 0 0 _
      refine x_ifne (tgt := 46) rfl rfl (ti_ne rfl jk_0 ⟨fun c4 => ?_, fun c4 => ?_⟩)
      ·
        exact jX.sub (jsb_c rfl (jsb_c rfl (jsb_c rfl jsb_n))) (ct_X2_readPlain_r95_c0_46 hD hQ  l2 g0 g1 h (jr_of rfl (by omega)) (jr_of rfl (by omega)) (jr_of rfl (by omega)) (by omega) (jmc S2 rfl z0) (jmc S2 rfl z1) J Sm)
      ·
        refine x_iloadn (x := l2) rfl rfl ?_
        refine x_ifne (tgt := 31) rfl rfl (ti_ne rfl jk_0 ⟨fun c5 => ?_, fun c5 => ?_⟩)
        ·
          refine x_iconst (v := 0) rfl ki_0 ?_
          exact jX.sub (jsb_c rfl (jsb_c rfl (jsb_c rfl jsb_n))) (ct_X2_readPlain_r95_c0_200032 hD hQ ih l3 g0 g1 h (jr_of rfl (by omega)) (jr_of rfl (by omega)) (jr_of rfl (by omega)) (by omega) (jmc S2 rfl z0) (jmc S2 rfl z1) (by omega) J Sm)
        ·
          refine x_iconst (v := 1) rfl ki_1 ?_
          refine x_goto (tgt := 32) rfl rfl ?_
          exact jX.sub (jsb_c rfl (jsb_c rfl (jsb_c rfl jsb_n))) (ct_X2_readPlain_r95_c0_300032 hD hQ ih l3 g0 g1 h (jr_of rfl (by omega)) (jr_of rfl (by omega)) (jr_of rfl (by omega)) (by omega) (jmc S2 rfl z0) (jmc S2 rfl z1) (by omega) J Sm)
set_option maxRecDepth 100000 in
set_option maxHeartbeats 4000000 in
theorem sf_X2_readPlain_r95_c0 {Dy : jH → Prop} {h : jH} {Q : Option Value → jH → Prop} (hD : jDk Dy) (J : jJ jSgX Dy h) {p0 p1 : Int32} (zp0 : jiv h 68 5 = p0) (zp1 : jiv h 68 3 = p1) (rl_p0 : (p0.toInt ≠ 3 ∨ p1.toInt ≤ 399)) (hQ : ∀ (v : Int32) hx9, 0 ≤ v.toInt ∧ v.toInt ≤ 1 → jJ jSgX Dy hx9 → jSm fp_X2_readPlain_r95_c0 h hx9 → ∀ u0 u1 : Int32, jiv hx9 68 5 = u0 → jiv hx9 68 3 = u1 → (u0.toInt ≠ 3 ∨ u1.toInt ≤ 399) → Q (some (.int v)) hx9) : jC m_X2_readPlain 23 0 0 [.ref 95, .int 0] h Q := by
  refine jC.of rfl k_X2_readPlain rfl ?_
  have Sm := jSm_rf fp_X2_readPlain_r95_c0 h
  have ep0 := (show 0 ≤ p0.toInt ∧ p0.toInt ≤ 3 from zp0 ▸ jrg_f J sg_68_5_6_1_0_1)
  have ep1 := (show 0 ≤ p1.toInt ∧ p1.toInt ≤ 400 from zp1 ▸ jrg_f J sg_68_3_4_1_0_1)
  show jX m_X2_readPlain 23 0 0 0 [(0, .ref 95), (1, .int 0)] [] _ 0 0 _
  refine x_iconst (v := 0) rfl ki_0 ?_
  refine x_istoren (lsx9 := [(2, .int 0), (0, .ref 95), (1, .int 0)]) rfl rfl rfl ?_
  refine x_iconst (v := 0) rfl ki_0 ?_
  refine x_istoren (lsx9 := [(3, .int 0), (2, .int 0), (0, .ref 95), (1, .int 0)]) rfl rfl rfl ?_
  exact jX.sub (jsb_c rfl (jsb_c rfl (jsb_c rfl (jsb_c rfl jsb_n)))) (ct_X2_readPlain_r95_c0_4 hD hQ  401 0 0 p1 p0 h (by have := jk_0; omega) (jr_of jk_0 (by omega)) (jr_of jk_0 (by omega)) (jr_of rfl (by omega)) (jr_of rfl (by omega)) (by omega) zp1 zp0 J Sm)
def fp_X2_readTest_r95_c0 : jFp := [(68, 2, 3), (68, 3, 4), (68, 4, 5), (68, 5, 6), (95, 4, 5), (95, 5, 6), (97, 0, 1200)]
set_option maxRecDepth 100000 in
set_option maxHeartbeats 4000000 in
theorem ct_X2_readTest_r95_c0_77 {Dy : jH → Prop} {h0 : jH} {Q : Option Value → jH → Prop} {R4 : Int} (hD : jDk Dy) (hQ : ∀ (v : Int32) hx9, 0 ≤ v.toInt ∧ v.toInt ≤ 1 → jJ jSgX Dy hx9 → jSm fp_X2_readTest_r95_c0 h0 hx9 → ∀ u0 u1 : Int32, jiv hx9 68 5 = u0 → jiv hx9 68 3 = u1 → (u0.toInt ≠ 3 ∨ u1.toInt ≤ 399) → Q (some (.int v)) hx9) (k4 : ∀ (l2 : Int32) (l3 : Int32) (g0 : Int32) (g1 : Int32) (h : jH), 400 - l3.toInt < R4 → (-1) ≤ l2.toInt ∧ l2.toInt ≤ 1199 → 0 ≤ l3.toInt ∧ l3.toInt ≤ 400 → 0 ≤ g0.toInt ∧ g0.toInt ≤ 400 → 0 ≤ g1.toInt ∧ g1.toInt ≤ 3 → (g1.toInt ≠ 3 ∨ g0.toInt ≤ 399) → jiv h 68 3 = g0 → jiv h 68 5 = g1 → jJ jSgX Dy h → jSm fp_X2_readTest_r95_c0 h0 h → jX m_X2_readTest 24 0 0 4 [(0, .ref 95), (1, .int 0), (2, .int l2), (3, .int l3)] [] h 0 0 Q) : ∀ (l2 : Int32) (l3 : Int32) (g0 : Int32) (g1 : Int32) (h : jH), (-1) ≤ l2.toInt ∧ l2.toInt ≤ 1199 → 0 ≤ l3.toInt ∧ l3.toInt ≤ 399 → 0 ≤ g0.toInt ∧ g0.toInt ≤ 400 → 0 ≤ g1.toInt ∧ g1.toInt ≤ 3 → (g1.toInt ≠ 3 ∨ g0.toInt ≤ 399) → jiv h 68 3 = g0 → jiv h 68 5 = g1 → 400 - l3.toInt ≤ R4 → jJ jSgX Dy h → jSm fp_X2_readTest_r95_c0 h0 h → jX m_X2_readTest 24 0 0 77 [(0, .ref 95), (1, .int 0), (2, .int l2), (3, .int l3)] [] h 0 0 Q := by
  intro l2 l3 g0 g1 h y0 y1 y2 y3 y4 z0 z1 m4 J Sm
  refine x_aloadn (x := 95) rfl rfl ?_
  refine x_iloadn (x := l2) rfl rfl ?_
  refine x_inv (N := m_X2_land) (As := [.int l2]) (b := 95) (st := []) (dx9 := 1) (mc := 0) (ms := 0) (host := "") 2 rfl t_X2_land ⟨Or.inl q_2_124, i_X2_land.1, i_X2_land.2⟩ ⟨by decide, rfl⟩ (congrArg Prod.fst (J.1.1 95 (2, 6) rfl)) rfl (by decide) rfl rfl ⟨by decide, by decide⟩ (sf_X2_land_r95 (jr_of rfl (by omega)) hD J  (fun h J S1 => ?_))
  have Sm := jSm_tr rfl Sm S1
  show jX m_X2_readTest 24 0 0 82 [(0, .ref 95), (1, .int 0), (2, .int l2), (3, .int l3)] [] _ 0 0 _
  refine x_aloadn (x := 95) rfl rfl ?_
  refine z_getR (N := 6) (b := 68) 2 0 rfl f_2_30 rfl J rfl 12160 ⟨rfl, rfl⟩ rfl ?_
  refine x_ldcS (jstr.getD 12 jstr_0) rfl (List.mem_of_getElem? (i := 12) rfl) rfl rfl ?_
  show jX m_X2_readTest 24 0 0 88 [(0, .ref 95), (1, .int 0), (2, .int l2), (3, .int l3)] [.ref 17, .ref 68] _ 0 0 _
  refine x_inv (N := m_X9_wordOf) (As := [.ref 17]) (b := 68) (st := []) (dx9 := 4) (mc := 0) (ms := 0) (host := "") 9 rfl t_X9_wordOf ⟨Or.inl q_2_67, i_X9_wordOf.1, i_X9_wordOf.2⟩ ⟨by decide, rfl⟩ (congrArg Prod.fst (J.1.1 68 (9, 6) rfl)) rfl (by decide) rfl rfl ⟨by decide, by decide⟩ (sf_X9_wordOf_r68_r17  hD J  (fun v3 h J S2 => ?_))
  have ev3 := jfull v3
  have Sm := jSm_tr rfl Sm S2
  show jX m_X2_readTest 24 0 0 91 [(0, .ref 95), (1, .int 0), (2, .int l2), (3, .int l3)] [.int v3] _ 0 0 _
  refine x_ifeq (tgt := 96) rfl rfl (ti_eq rfl jk_0 ⟨fun c4 => ?_, fun c4 => ?_⟩)
  ·
    refine x_aloadn (x := 95) rfl rfl ?_
    refine x_bipush (v := 11) rfl kb_11 ?_
    refine x_inv (N := m_X2_leap) (As := [.int 11]) (b := 95) (st := []) (dx9 := 2) (mc := 0) (ms := 0) (host := "") 2 rfl t_X2_leap ⟨Or.inl q_2_129, i_X2_leap.1, i_X2_leap.2⟩ ⟨by decide, rfl⟩ (congrArg Prod.fst (J.1.1 95 (2, 6) rfl)) rfl (by decide) rfl rfl ⟨by decide, by decide⟩ (sf_X2_leap_r95 (jr_of jk_11 (by omega)) hD J  (fun v6 h ev6 J S5 => ?_))
    have Sm := jSm_tr rfl Sm S5
    show jX m_X2_readTest 24 0 0 102 [(0, .ref 95), (1, .int 0), (2, .int l2), (3, .int l3)] [.int v6] _ 0 0 _
    refine x_istoren (lsx9 := [(2, .int v6), (0, .ref 95), (1, .int 0), (3, .int l3)]) rfl rfl rfl ?_
    refine x_aloadn (x := 95) rfl rfl ?_
    refine z_getR (N := 6) (b := 68) 2 0 rfl f_2_30 rfl J rfl 12160 ⟨rfl, rfl⟩ rfl ?_
    refine x_inv (N := m_X9_step) (As := []) (b := 68) (st := []) (dx9 := 2) (mc := 0) (ms := 0) (host := "") 9 rfl t_X9_step ⟨Or.inl q_2_62, i_X9_step.1, i_X9_step.2⟩ ⟨by decide, rfl⟩ (congrArg Prod.fst (J.1.1 68 (9, 6) rfl)) rfl (by decide) rfl rfl ⟨by decide, by decide⟩ (sf_X9_step_r68  hD J (jmc S5 rfl (jmc S2 rfl (jmc S1 rfl z1))) (jmc S5 rfl (jmc S2 rfl (jmc S1 rfl z0))) (by omega)  (fun h J S7 u8 u9 qu8 qu9 ru8 => ?_))
    have Sm := jSm_tr rfl Sm S7
    have eu8 := (show 0 ≤ u8.toInt ∧ u8.toInt ≤ 3 from qu8 ▸ jrg_f J sg_68_5_6_1_0_1)
    have eu9 := (show 0 ≤ u9.toInt ∧ u9.toInt ≤ 400 from qu9 ▸ jrg_f J sg_68_3_4_1_0_1)
    show jX m_X2_readTest 24 0 0 110 [(2, .int v6), (0, .ref 95), (1, .int 0), (3, .int l3)] [] _ 0 0 _
    refine z_iinc (x := l3) (lsx9 := fun v10 => [(3, .int v10), (2, .int v6), (0, .ref 95), (1, .int 0)]) rfl rfl rfl jko_1 (by omega) rfl (fun _ => rfl) (fun v10 ev10 => ?_)
    refine x_goto (tgt := 4) rfl rfl ?_
    exact jX.sub (jsb_c rfl (jsb_c rfl (jsb_c rfl (jsb_c rfl jsb_n)))) (k4 v6 v10 u9 u8 h (by omega) (jr_of rfl (by omega)) (jr_of rfl (by omega)) (jr_of rfl (by omega)) (jr_of rfl (by omega)) (by omega) qu9 qu8 J Sm)
  ·
    refine x_iconst (v := 1) rfl ki_1 ?_
    refine x_zret rfl rfl (by decide) ?_
    exact hQ _ _ (jr_of jk_1 (by omega)) J Sm _ _ (jmc S2 rfl (jmc S1 rfl z1)) (jmc S2 rfl (jmc S1 rfl z0)) (by omega)
set_option maxRecDepth 100000 in
set_option maxHeartbeats 4000000 in
theorem ct_X2_readTest_r95_c0_17 {Dy : jH → Prop} {h0 : jH} {Q : Option Value → jH → Prop} {R4 : Int} (hD : jDk Dy) (hQ : ∀ (v : Int32) hx9, 0 ≤ v.toInt ∧ v.toInt ≤ 1 → jJ jSgX Dy hx9 → jSm fp_X2_readTest_r95_c0 h0 hx9 → ∀ u0 u1 : Int32, jiv hx9 68 5 = u0 → jiv hx9 68 3 = u1 → (u0.toInt ≠ 3 ∨ u1.toInt ≤ 399) → Q (some (.int v)) hx9) (k4 : ∀ (l2 : Int32) (l3 : Int32) (g0 : Int32) (g1 : Int32) (h : jH), 400 - l3.toInt < R4 → (-1) ≤ l2.toInt ∧ l2.toInt ≤ 1199 → 0 ≤ l3.toInt ∧ l3.toInt ≤ 400 → 0 ≤ g0.toInt ∧ g0.toInt ≤ 400 → 0 ≤ g1.toInt ∧ g1.toInt ≤ 3 → (g1.toInt ≠ 3 ∨ g0.toInt ≤ 399) → jiv h 68 3 = g0 → jiv h 68 5 = g1 → jJ jSgX Dy h → jSm fp_X2_readTest_r95_c0 h0 h → jX m_X2_readTest 24 0 0 4 [(0, .ref 95), (1, .int 0), (2, .int l2), (3, .int l3)] [] h 0 0 Q) : ∀ r : Nat, ∀ (l2 : Int32) (l3 : Int32) (l4 : Int32) (l5 : Int32) (g0 : Int32) (g1 : Int32) (h : jH), 400 - l5.toInt < (r : Int) → (-1) ≤ l2.toInt ∧ l2.toInt ≤ 1199 → 0 ≤ l3.toInt ∧ l3.toInt ≤ 399 → (-1) ≤ l4.toInt ∧ l4.toInt ≤ 1199 → 0 ≤ l5.toInt ∧ l5.toInt ≤ 400 → 0 ≤ g0.toInt ∧ g0.toInt ≤ 400 → 0 ≤ g1.toInt ∧ g1.toInt ≤ 3 → (g1.toInt ≠ 3 ∨ g0.toInt ≤ 399) → jiv h 68 3 = g0 → jiv h 68 5 = g1 → 400 - l3.toInt ≤ R4 → jJ jSgX Dy h → jSm fp_X2_readTest_r95_c0 h0 h → jX m_X2_readTest 24 0 0 17 [(0, .ref 95), (1, .int 0), (2, .int l2), (3, .int l3), (4, .int l4), (5, .int l5)] [] h 0 0 Q := by
  intro r
  induction r with
  | zero =>
    intro l2 l3 l4 l5 g0 g1 h hm y0 y1 y2 y3 y4 y5 y6 z0 z1 m4 J Sm
    exfalso
    omega
  | succ r ih =>
    intro l2 l3 l4 l5 g0 g1 h hm y0 y1 y2 y3 y4 y5 y6 z0 z1 m4 J Sm
    refine x_iload (x := l5) rfl rfl ?_
    refine x_sipush (v := 400) rfl ks_400 ?_
    refine x_icge (tgt := 77) rfl rfl (ti_ge rfl jk_400 ⟨fun c1 => ?_, fun c1 => ?_⟩)
    ·
      exact jX.sub (jsb_c rfl (jsb_c rfl (jsb_c rfl (jsb_c rfl jsb_n)))) (ct_X2_readTest_r95_c0_77 hD hQ k4 l2 l3 g0 g1 h (jr_of rfl (by omega)) (jr_of rfl (by omega)) (jr_of rfl (by omega)) (jr_of rfl (by omega)) (by omega) z0 z1 (by omega) J Sm)
    ·
      refine x_aloadn (x := 95) rfl rfl ?_
      refine x_iloadn (x := 0) rfl rfl ?_
      refine x_inv (N := m_X2_readPlain) (As := [.int 0]) (b := 95) (st := []) (dx9 := 23) (mc := 0) (ms := 0) (host := "") 2 rfl t_X2_readPlain ⟨Or.inl q_2_121, i_X2_readPlain.1, i_X2_readPlain.2⟩ ⟨by decide, rfl⟩ (congrArg Prod.fst (J.1.1 95 (2, 6) rfl)) rfl (by decide) rfl rfl ⟨by decide, by decide⟩ (sf_X2_readPlain_r95_c0  hD J z1 z0 (by omega)  (fun v5 h ev5 J S2 u3 u4 qu3 qu4 ru3 => ?_))
      have Sm := jSm_tr rfl Sm S2
      have eu3 := (show 0 ≤ u3.toInt ∧ u3.toInt ≤ 3 from qu3 ▸ jrg_f J sg_68_5_6_1_0_1)
      have eu4 := (show 0 ≤ u4.toInt ∧ u4.toInt ≤ 400 from qu4 ▸ jrg_f J sg_68_3_4_1_0_1)
      show jX m_X2_readTest 24 0 0 30 [(0, .ref 95), (1, .int 0), (2, .int l2), (3, .int l3), (4, .int l4), (5, .int l5)] [.int v5] _ 0 0 _
      refine x_ifne (tgt := 35) rfl rfl (ti_ne rfl jk_0 ⟨fun c6 => ?_, fun c6 => ?_⟩)
      ·
        refine x_aloadn (x := 95) rfl rfl ?_
        refine x_iload (x := l4) rfl rfl ?_
        refine x_inv (N := m_X2_land) (As := [.int l4]) (b := 95) (st := []) (dx9 := 1) (mc := 0) (ms := 0) (host := "") 2 rfl t_X2_land ⟨Or.inl q_2_124, i_X2_land.1, i_X2_land.2⟩ ⟨by decide, rfl⟩ (congrArg Prod.fst (J.1.1 95 (2, 6) rfl)) rfl (by decide) rfl rfl ⟨by decide, by decide⟩ (sf_X2_land_r95 (jr_of rfl (by omega)) hD J  (fun h J S7 => ?_))
        have Sm := jSm_tr rfl Sm S7
        show jX m_X2_readTest 24 0 0 41 [(0, .ref 95), (1, .int 0), (2, .int l2), (3, .int l3), (4, .int l4), (5, .int l5)] [] _ 0 0 _
        refine x_aloadn (x := 95) rfl rfl ?_
        refine z_getR (N := 6) (b := 68) 2 0 rfl f_2_30 rfl J rfl 12160 ⟨rfl, rfl⟩ rfl ?_
        refine x_ldcS (jstr.getD 11 jstr_0) rfl (List.mem_of_getElem? (i := 11) rfl) rfl rfl ?_
        show jX m_X2_readTest 24 0 0 47 [(0, .ref 95), (1, .int 0), (2, .int l2), (3, .int l3), (4, .int l4), (5, .int l5)] [.ref 16, .ref 68] _ 0 0 _
        refine x_inv (N := m_X9_wordOf) (As := [.ref 16]) (b := 68) (st := []) (dx9 := 4) (mc := 0) (ms := 0) (host := "") 9 rfl t_X9_wordOf ⟨Or.inl q_2_67, i_X9_wordOf.1, i_X9_wordOf.2⟩ ⟨by decide, rfl⟩ (congrArg Prod.fst (J.1.1 68 (9, 6) rfl)) rfl (by decide) rfl rfl ⟨by decide, by decide⟩ (sf_X9_wordOf_r68_r16  hD J  (fun v9 h J S8 => ?_))
        have ev9 := jfull v9
        have Sm := jSm_tr rfl Sm S8
        show jX m_X2_readTest 24 0 0 50 [(0, .ref 95), (1, .int 0), (2, .int l2), (3, .int l3), (4, .int l4), (5, .int l5)] [.int v9] _ 0 0 _
        refine x_ifeq (tgt := 56) rfl rfl (ti_eq rfl jk_0 ⟨fun c10 => ?_, fun c10 => ?_⟩)
        ·
          refine x_aloadn (x := 95) rfl rfl ?_
          refine x_bipush (v := 12) rfl kb_12 ?_
          refine x_inv (N := m_X2_leap) (As := [.int 12]) (b := 95) (st := []) (dx9 := 2) (mc := 0) (ms := 0) (host := "") 2 rfl t_X2_leap ⟨Or.inl q_2_129, i_X2_leap.1, i_X2_leap.2⟩ ⟨by decide, rfl⟩ (congrArg Prod.fst (J.1.1 95 (2, 6) rfl)) rfl (by decide) rfl rfl ⟨by decide, by decide⟩ (sf_X2_leap_r95 (jr_of jk_12 (by omega)) hD J  (fun v12 h ev12 J S11 => ?_))
          have Sm := jSm_tr rfl Sm S11
          show jX m_X2_readTest 24 0 0 62 [(0, .ref 95), (1, .int 0), (2, .int l2), (3, .int l3), (4, .int l4), (5, .int l5)] [.int v12] _ 0 0 _
          refine x_istore (lsx9 := [(4, .int v12), (0, .ref 95), (1, .int 0), (2, .int l2), (3, .int l3), (5, .int l5)]) rfl rfl rfl ?_
          refine x_aloadn (x := 95) rfl rfl ?_
          refine z_getR (N := 6) (b := 68) 2 0 rfl f_2_30 rfl J rfl 12160 ⟨rfl, rfl⟩ rfl ?_
          refine x_inv (N := m_X9_step) (As := []) (b := 68) (st := []) (dx9 := 2) (mc := 0) (ms := 0) (host := "") 9 rfl t_X9_step ⟨Or.inl q_2_62, i_X9_step.1, i_X9_step.2⟩ ⟨by decide, rfl⟩ (congrArg Prod.fst (J.1.1 68 (9, 6) rfl)) rfl (by decide) rfl rfl ⟨by decide, by decide⟩ (sf_X9_step_r68  hD J (jmc S11 rfl (jmc S8 rfl (jmc S7 rfl qu3))) (jmc S11 rfl (jmc S8 rfl (jmc S7 rfl qu4))) (by omega)  (fun h J S13 u14 u15 qu14 qu15 ru14 => ?_))
          have Sm := jSm_tr rfl Sm S13
          have eu14 := (show 0 ≤ u14.toInt ∧ u14.toInt ≤ 3 from qu14 ▸ jrg_f J sg_68_5_6_1_0_1)
          have eu15 := (show 0 ≤ u15.toInt ∧ u15.toInt ≤ 400 from qu15 ▸ jrg_f J sg_68_3_4_1_0_1)
          show jX m_X2_readTest 24 0 0 71 [(4, .int v12), (0, .ref 95), (1, .int 0), (2, .int l2), (3, .int l3), (5, .int l5)] [] _ 0 0 _
          refine z_iinc (x := l5) (lsx9 := fun v16 => [(5, .int v16), (4, .int v12), (0, .ref 95), (1, .int 0), (2, .int l2), (3, .int l3)]) rfl rfl rfl jko_1 (by omega) rfl (fun _ => rfl) (fun v16 ev16 => ?_)
          refine x_goto (tgt := 17) rfl rfl ?_
          exact jX.sub (jsb_c rfl (jsb_c rfl (jsb_c rfl (jsb_c rfl (jsb_c rfl (jsb_c rfl jsb_n)))))) (ih l2 l3 v12 v16 u15 u14 h (by omega) (jr_of rfl (by omega)) (jr_of rfl (by omega)) (jr_of rfl (by omega)) (jr_of rfl (by omega)) (jr_of rfl (by omega)) (jr_of rfl (by omega)) (by omega) qu15 qu14 (by omega) J Sm)
        ·
          refine x_goto (tgt := 77) rfl rfl ?_
          exact jX.sub (jsb_c rfl (jsb_c rfl (jsb_c rfl (jsb_c rfl jsb_n)))) (ct_X2_readTest_r95_c0_77 hD hQ k4 l2 l3 u4 u3 h (jr_of rfl (by omega)) (jr_of rfl (by omega)) (jr_of rfl (by omega)) (jr_of rfl (by omega)) (by omega) (jmc S8 rfl (jmc S7 rfl qu4)) (jmc S8 rfl (jmc S7 rfl qu3)) (by omega) J Sm)
      ·
        refine x_iconst (v := 0) rfl ki_0 ?_
        refine x_zret rfl rfl (by decide) ?_
        exact hQ _ _ (jr_of jk_0 (by omega)) J Sm _ _ qu3 qu4 (by omega)
set_option maxRecDepth 100000 in
set_option maxHeartbeats 4000000 in
theorem ct_X2_readTest_r95_c0_4 {Dy : jH → Prop} {h0 : jH} {Q : Option Value → jH → Prop} (hD : jDk Dy) (hQ : ∀ (v : Int32) hx9, 0 ≤ v.toInt ∧ v.toInt ≤ 1 → jJ jSgX Dy hx9 → jSm fp_X2_readTest_r95_c0 h0 hx9 → ∀ u0 u1 : Int32, jiv hx9 68 5 = u0 → jiv hx9 68 3 = u1 → (u0.toInt ≠ 3 ∨ u1.toInt ≤ 399) → Q (some (.int v)) hx9) : ∀ r : Nat, ∀ (l2 : Int32) (l3 : Int32) (g0 : Int32) (g1 : Int32) (h : jH), 400 - l3.toInt < (r : Int) → (-1) ≤ l2.toInt ∧ l2.toInt ≤ 1199 → 0 ≤ l3.toInt ∧ l3.toInt ≤ 400 → 0 ≤ g0.toInt ∧ g0.toInt ≤ 400 → 0 ≤ g1.toInt ∧ g1.toInt ≤ 3 → (g1.toInt ≠ 3 ∨ g0.toInt ≤ 399) → jiv h 68 3 = g0 → jiv h 68 5 = g1 → jJ jSgX Dy h → jSm fp_X2_readTest_r95_c0 h0 h → jX m_X2_readTest 24 0 0 4 [(0, .ref 95), (1, .int 0), (2, .int l2), (3, .int l3)] [] h 0 0 Q := by
  intro r
  induction r with
  | zero =>
    intro l2 l3 g0 g1 h hm y0 y1 y2 y3 y4 z0 z1  J Sm
    exfalso
    omega
  | succ r ih =>
    intro l2 l3 g0 g1 h hm y0 y1 y2 y3 y4 z0 z1  J Sm
    refine x_iloadn (x := l3) rfl rfl ?_
    refine x_sipush (v := 400) rfl ks_400 ?_
    refine x_icge (tgt := 116) rfl rfl (ti_ge rfl jk_400 ⟨fun c1 => ?_, fun c1 => ?_⟩)
    ·
      refine x_aloadn (x := 95) rfl rfl ?_
      refine z_getR (N := 6) (b := 68) 2 0 rfl f_2_30 rfl J rfl 12160 ⟨rfl, rfl⟩ rfl ?_
      refine x_inv (N := m_X9_blame) (As := []) (b := 68) (st := []) (dx9 := 23) (mc := 0) (ms := 0) (host := "") 9 rfl t_X9_blame ⟨Or.inl q_2_59, i_X9_blame.1, i_X9_blame.2⟩ ⟨by decide, rfl⟩ (congrArg Prod.fst (J.1.1 68 (9, 6) rfl)) rfl (by decide) rfl rfl ⟨by decide, by decide⟩ (jC.of rfl k_X9_blame rfl ?_)
      show jX m_X9_blame 23 0 0 0 [(0, .ref 68)] [] _ 0 0 _
      refine x_aloadn (x := 68) rfl rfl ?_
      refine x_aloadn (x := 68) rfl rfl ?_
      refine z_getM (N := 6) (v := g0) 9 3 rfl f_9_22 rfl J rfl z0 ?_
      refine z_putI (N := 6) (w := g0.toInt) 9 2 rfl f_9_19 rfl (jfin_no TX9 RX9 6 rfl rfl) hD J Sm rfl rfl rfl (pw_68_2 (by omega)) rfl (fun h w2 J Sm => ?_)
      refine x_iconst (v := 0) rfl ki_0 ?_
      refine x_zret rfl rfl (by decide) ?_
      show jX m_X2_readTest 24 0 0 123 [(0, .ref 95), (1, .int 0), (2, .int l2), (3, .int l3)] [.int 0] _ 0 0 _
      refine x_zret rfl rfl (by decide) ?_
      exact hQ _ _ (jr_of jk_0 (by omega)) J Sm _ _ (jmo w2 rfl z1) (jmo w2 rfl z0) (by omega)
    ·
      refine x_iconst (v := (-1)) rfl ki_m1 ?_
      refine x_istore (lsx9 := [(4, .int (-1)), (0, .ref 95), (1, .int 0), (2, .int l2), (3, .int l3)]) rfl rfl rfl ?_
      refine x_iconst (v := 0) rfl ki_0 ?_
      refine x_istore (lsx9 := [(5, .int 0), (4, .int (-1)), (0, .ref 95), (1, .int 0), (2, .int l2), (3, .int l3)]) rfl rfl rfl ?_
      exact jX.sub (jsb_c rfl (jsb_c rfl (jsb_c rfl (jsb_c rfl (jsb_c rfl (jsb_c rfl jsb_n)))))) (ct_X2_readTest_r95_c0_17 hD hQ ih 401 l2 l3 (-1) 0 g0 g1 h (by have := jk_0; omega) (jr_of rfl (by omega)) (jr_of rfl (by omega)) (jr_of jk_m1 (by omega)) (jr_of jk_0 (by omega)) (jr_of rfl (by omega)) (jr_of rfl (by omega)) (by omega) z0 z1 (by omega) J Sm)
set_option maxRecDepth 100000 in
set_option maxHeartbeats 4000000 in
theorem sf_X2_readTest_r95_c0 {Dy : jH → Prop} {h : jH} {Q : Option Value → jH → Prop} (hD : jDk Dy) (J : jJ jSgX Dy h) {p0 p1 : Int32} (zp0 : jiv h 68 5 = p0) (zp1 : jiv h 68 3 = p1) (rl_p0 : (p0.toInt ≠ 3 ∨ p1.toInt ≤ 399)) (hQ : ∀ (v : Int32) hx9, 0 ≤ v.toInt ∧ v.toInt ≤ 1 → jJ jSgX Dy hx9 → jSm fp_X2_readTest_r95_c0 h hx9 → ∀ u0 u1 : Int32, jiv hx9 68 5 = u0 → jiv hx9 68 3 = u1 → (u0.toInt ≠ 3 ∨ u1.toInt ≤ 399) → Q (some (.int v)) hx9) : jC m_X2_readTest 24 0 0 [.ref 95, .int 0] h Q := by
  refine jC.of rfl k_X2_readTest rfl ?_
  have Sm := jSm_rf fp_X2_readTest_r95_c0 h
  have ep0 := (show 0 ≤ p0.toInt ∧ p0.toInt ≤ 3 from zp0 ▸ jrg_f J sg_68_5_6_1_0_1)
  have ep1 := (show 0 ≤ p1.toInt ∧ p1.toInt ≤ 400 from zp1 ▸ jrg_f J sg_68_3_4_1_0_1)
  show jX m_X2_readTest 24 0 0 0 [(0, .ref 95), (1, .int 0)] [] _ 0 0 _
  refine x_iconst (v := (-1)) rfl ki_m1 ?_
  refine x_istoren (lsx9 := [(2, .int (-1)), (0, .ref 95), (1, .int 0)]) rfl rfl rfl ?_
  refine x_iconst (v := 0) rfl ki_0 ?_
  refine x_istoren (lsx9 := [(3, .int 0), (2, .int (-1)), (0, .ref 95), (1, .int 0)]) rfl rfl rfl ?_
  exact jX.sub (jsb_c rfl (jsb_c rfl (jsb_c rfl (jsb_c rfl jsb_n)))) (ct_X2_readTest_r95_c0_4 hD hQ  401 (-1) 0 p1 p0 h (by have := jk_0; omega) (jr_of jk_m1 (by omega)) (jr_of jk_0 (by omega)) (jr_of rfl (by omega)) (jr_of rfl (by omega)) (by omega) zp1 zp0 J Sm)
def fp_X9_wordOf_r68_r10 : jFp := []
set_option maxRecDepth 100000 in
set_option maxHeartbeats 4000000 in
theorem ct_X9_wordOf_r68_r10_110 {Dy : jH → Prop} {h0 : jH} {Q : Option Value → jH → Prop} {R23 : Int} (hD : jDk Dy) (hQ : ∀ (v : Int32) hx9, jJ jSgX Dy hx9 → jSm fp_X9_wordOf_r68_r10 h0 hx9 → Q (some (.int v)) hx9) (k23 : ∀ (l2 : Int32) (l3 : Int32) (l4 : Int32) (l5 : Int32) (g0 : Int32) (h : jH), 19 - l5.toInt < R23 → 0 ≤ l3.toInt ∧ l3.toInt ≤ 419 → 0 ≤ l4.toInt ∧ l4.toInt ≤ 1 → 0 ≤ l5.toInt ∧ l5.toInt ≤ 19 → 0 ≤ g0.toInt ∧ g0.toInt ≤ 400 → l3.toInt - l5.toInt ≤ 400 → jiv h 68 3 = g0 → jJ jSgX Dy h → jSm fp_X9_wordOf_r68_r10 h0 h → jX m_X9_wordOf 4 0 0 23 [(0, .ref 68), (1, .ref 10), (2, .int l2), (3, .int l3), (4, .int l4), (5, .int l5)] [] h 0 0 Q) : ∀ (l2 : Int32) (l3 : Int32) (l4 : Int32) (l5 : Int32) (g0 : Int32) (h : jH), 0 ≤ l3.toInt ∧ l3.toInt ≤ 419 → 0 ≤ l4.toInt ∧ l4.toInt ≤ 1 → 0 ≤ l5.toInt ∧ l5.toInt ≤ 18 → 0 ≤ g0.toInt ∧ g0.toInt ≤ 400 → l3.toInt - l5.toInt ≤ 401 → jiv h 68 3 = g0 → 19 - l5.toInt ≤ R23 → jJ jSgX Dy h → jSm fp_X9_wordOf_r68_r10 h0 h → jX m_X9_wordOf 4 0 0 110 [(0, .ref 68), (1, .ref 10), (2, .int l2), (3, .int l3), (4, .int l4), (5, .int l5)] [] h 0 0 Q := by
  intro l2 l3 l4 l5 g0 h y0 y1 y2 y3 y4 z0 m23 J Sm
  have el2 := jfull l2
  refine z_iinc (x := l5) (lsx9 := fun v1 => [(5, .int v1), (0, .ref 68), (1, .ref 10), (2, .int l2), (3, .int l3), (4, .int l4)]) rfl rfl rfl jko_1 (by omega) rfl (fun _ => rfl) (fun v1 ev1 => ?_)
  refine x_goto (tgt := 23) rfl rfl ?_
  exact jX.sub (jsb_c rfl (jsb_c rfl (jsb_c rfl (jsb_c rfl (jsb_c rfl (jsb_c rfl jsb_n)))))) (k23 l2 l3 l4 v1 g0 h (by omega) (jr_of rfl (by omega)) (jr_of rfl (by omega)) (jr_of rfl (by omega)) (jr_of rfl (by omega)) (by omega) z0 J Sm)
set_option maxRecDepth 100000 in
set_option maxHeartbeats 4000000 in
theorem ct_X9_wordOf_r68_r10_300105 {Dy : jH → Prop} {h0 : jH} {Q : Option Value → jH → Prop} {R23 : Int} (hD : jDk Dy) (hQ : ∀ (v : Int32) hx9, jJ jSgX Dy hx9 → jSm fp_X9_wordOf_r68_r10 h0 hx9 → Q (some (.int v)) hx9) (k23 : ∀ (l2 : Int32) (l3 : Int32) (l4 : Int32) (l5 : Int32) (g0 : Int32) (h : jH), 19 - l5.toInt < R23 → 0 ≤ l3.toInt ∧ l3.toInt ≤ 419 → 0 ≤ l4.toInt ∧ l4.toInt ≤ 1 → 0 ≤ l5.toInt ∧ l5.toInt ≤ 19 → 0 ≤ g0.toInt ∧ g0.toInt ≤ 400 → l3.toInt - l5.toInt ≤ 400 → jiv h 68 3 = g0 → jJ jSgX Dy h → jSm fp_X9_wordOf_r68_r10 h0 h → jX m_X9_wordOf 4 0 0 23 [(0, .ref 68), (1, .ref 10), (2, .int l2), (3, .int l3), (4, .int l4), (5, .int l5)] [] h 0 0 Q) : ∀ (l2 : Int32) (l3 : Int32) (l5 : Int32) (g0 : Int32) (h : jH), 0 ≤ l3.toInt ∧ l3.toInt ≤ 399 → 0 ≤ l5.toInt ∧ l5.toInt ≤ 18 → 0 ≤ g0.toInt ∧ g0.toInt ≤ 400 → l3.toInt - l5.toInt ≤ 400 → jiv h 68 3 = g0 → 19 - l5.toInt ≤ R23 → jJ jSgX Dy h → jSm fp_X9_wordOf_r68_r10 h0 h → jX m_X9_wordOf 4 0 0 105 [(0, .ref 68), (1, .ref 10), (2, .int l2), (3, .int l3), (5, .int l5)] [.int 1] h 0 0 Q := by
  intro l2 l3 l5 g0 h y0 y1 y2 y3 z0 m23 J Sm
  have el2 := jfull l2
  refine x_istore (lsx9 := [(4, .int 1), (0, .ref 68), (1, .ref 10), (2, .int l2), (3, .int l3), (5, .int l5)]) rfl rfl rfl ?_
  refine z_iinc (x := l3) (lsx9 := fun v1 => [(3, .int v1), (4, .int 1), (0, .ref 68), (1, .ref 10), (2, .int l2), (5, .int l5)]) rfl rfl rfl jko_1 (by omega) rfl (fun _ => rfl) (fun v1 ev1 => ?_)
  exact jX.sub (jsb_c rfl (jsb_c rfl (jsb_c rfl (jsb_c rfl (jsb_c rfl (jsb_c rfl jsb_n)))))) (ct_X9_wordOf_r68_r10_110 hD hQ k23 l2 v1 1 l5 g0 h (jr_of rfl (by omega)) (jr_of jk_1 (by omega)) (jr_of rfl (by omega)) (jr_of rfl (by omega)) (by omega) z0 (by omega) J Sm)
set_option maxRecDepth 100000 in
set_option maxHeartbeats 4000000 in
theorem ct_X9_wordOf_r68_r10_200105 {Dy : jH → Prop} {h0 : jH} {Q : Option Value → jH → Prop} {R23 : Int} (hD : jDk Dy) (hQ : ∀ (v : Int32) hx9, jJ jSgX Dy hx9 → jSm fp_X9_wordOf_r68_r10 h0 hx9 → Q (some (.int v)) hx9) (k23 : ∀ (l2 : Int32) (l3 : Int32) (l4 : Int32) (l5 : Int32) (g0 : Int32) (h : jH), 19 - l5.toInt < R23 → 0 ≤ l3.toInt ∧ l3.toInt ≤ 419 → 0 ≤ l4.toInt ∧ l4.toInt ≤ 1 → 0 ≤ l5.toInt ∧ l5.toInt ≤ 19 → 0 ≤ g0.toInt ∧ g0.toInt ≤ 400 → l3.toInt - l5.toInt ≤ 400 → jiv h 68 3 = g0 → jJ jSgX Dy h → jSm fp_X9_wordOf_r68_r10 h0 h → jX m_X9_wordOf 4 0 0 23 [(0, .ref 68), (1, .ref 10), (2, .int l2), (3, .int l3), (4, .int l4), (5, .int l5)] [] h 0 0 Q) : ∀ (l2 : Int32) (l3 : Int32) (l5 : Int32) (g0 : Int32) (h : jH), 0 ≤ l3.toInt ∧ l3.toInt ≤ 418 → 0 ≤ l5.toInt ∧ l5.toInt ≤ 18 → 0 ≤ g0.toInt ∧ g0.toInt ≤ 400 → l3.toInt - l5.toInt ≤ 400 → jiv h 68 3 = g0 → 19 - l5.toInt ≤ R23 → jJ jSgX Dy h → jSm fp_X9_wordOf_r68_r10 h0 h → jX m_X9_wordOf 4 0 0 105 [(0, .ref 68), (1, .ref 10), (2, .int l2), (3, .int l3), (5, .int l5)] [.int 0] h 0 0 Q := by
  intro l2 l3 l5 g0 h y0 y1 y2 y3 z0 m23 J Sm
  have el2 := jfull l2
  refine x_istore (lsx9 := [(4, .int 0), (0, .ref 68), (1, .ref 10), (2, .int l2), (3, .int l3), (5, .int l5)]) rfl rfl rfl ?_
  refine z_iinc (x := l3) (lsx9 := fun v1 => [(3, .int v1), (4, .int 0), (0, .ref 68), (1, .ref 10), (2, .int l2), (5, .int l5)]) rfl rfl rfl jko_1 (by omega) rfl (fun _ => rfl) (fun v1 ev1 => ?_)
  exact jX.sub (jsb_c rfl (jsb_c rfl (jsb_c rfl (jsb_c rfl (jsb_c rfl (jsb_c rfl jsb_n)))))) (ct_X9_wordOf_r68_r10_110 hD hQ k23 l2 v1 0 l5 g0 h (jr_of rfl (by omega)) (jr_of jk_0 (by omega)) (jr_of rfl (by omega)) (jr_of rfl (by omega)) (by omega) z0 (by omega) J Sm)
set_option maxRecDepth 100000 in
set_option maxHeartbeats 4000000 in
theorem ct_X9_wordOf_r68_r10_104 {Dy : jH → Prop} {h0 : jH} {Q : Option Value → jH → Prop} {R23 : Int} (hD : jDk Dy) (hQ : ∀ (v : Int32) hx9, jJ jSgX Dy hx9 → jSm fp_X9_wordOf_r68_r10 h0 hx9 → Q (some (.int v)) hx9) (k23 : ∀ (l2 : Int32) (l3 : Int32) (l4 : Int32) (l5 : Int32) (g0 : Int32) (h : jH), 19 - l5.toInt < R23 → 0 ≤ l3.toInt ∧ l3.toInt ≤ 419 → 0 ≤ l4.toInt ∧ l4.toInt ≤ 1 → 0 ≤ l5.toInt ∧ l5.toInt ≤ 19 → 0 ≤ g0.toInt ∧ g0.toInt ≤ 400 → l3.toInt - l5.toInt ≤ 400 → jiv h 68 3 = g0 → jJ jSgX Dy h → jSm fp_X9_wordOf_r68_r10 h0 h → jX m_X9_wordOf 4 0 0 23 [(0, .ref 68), (1, .ref 10), (2, .int l2), (3, .int l3), (4, .int l4), (5, .int l5)] [] h 0 0 Q) : ∀ (l2 : Int32) (l3 : Int32) (l5 : Int32) (g0 : Int32) (h : jH), 0 ≤ l3.toInt ∧ l3.toInt ≤ 418 → 0 ≤ l5.toInt ∧ l5.toInt ≤ 18 → 0 ≤ g0.toInt ∧ g0.toInt ≤ 400 → l3.toInt - l5.toInt ≤ 400 → jiv h 68 3 = g0 → 19 - l5.toInt ≤ R23 → jJ jSgX Dy h → jSm fp_X9_wordOf_r68_r10 h0 h → jX m_X9_wordOf 4 0 0 104 [(0, .ref 68), (1, .ref 10), (2, .int l2), (3, .int l3), (5, .int l5)] [] h 0 0 Q := by
  intro l2 l3 l5 g0 h y0 y1 y2 y3 z0 m23 J Sm
  have el2 := jfull l2
  refine x_iconst (v := 0) rfl ki_0 ?_
  exact jX.sub (jsb_c rfl (jsb_c rfl (jsb_c rfl (jsb_c rfl (jsb_c rfl jsb_n))))) (ct_X9_wordOf_r68_r10_200105 hD hQ k23 l2 l3 l5 g0 h (jr_of rfl (by omega)) (jr_of rfl (by omega)) (jr_of rfl (by omega)) (by omega) z0 (by omega) J Sm)
set_option maxRecDepth 100000 in
set_option maxHeartbeats 4000000 in
theorem ct_X9_wordOf_r68_r10_62 {Dy : jH → Prop} {h0 : jH} {Q : Option Value → jH → Prop} {R23 : Int} (hD : jDk Dy) (hQ : ∀ (v : Int32) hx9, jJ jSgX Dy hx9 → jSm fp_X9_wordOf_r68_r10 h0 hx9 → Q (some (.int v)) hx9) (k23 : ∀ (l2 : Int32) (l3 : Int32) (l4 : Int32) (l5 : Int32) (g0 : Int32) (h : jH), 19 - l5.toInt < R23 → 0 ≤ l3.toInt ∧ l3.toInt ≤ 419 → 0 ≤ l4.toInt ∧ l4.toInt ≤ 1 → 0 ≤ l5.toInt ∧ l5.toInt ≤ 19 → 0 ≤ g0.toInt ∧ g0.toInt ≤ 400 → l3.toInt - l5.toInt ≤ 400 → jiv h 68 3 = g0 → jJ jSgX Dy h → jSm fp_X9_wordOf_r68_r10 h0 h → jX m_X9_wordOf 4 0 0 23 [(0, .ref 68), (1, .ref 10), (2, .int l2), (3, .int l3), (4, .int l4), (5, .int l5)] [] h 0 0 Q) : ∀ (l2 : Int32) (l5 : Int32) (g0 : Int32) (h : jH), 0 ≤ l5.toInt ∧ l5.toInt ≤ 18 → 0 ≤ g0.toInt ∧ g0.toInt ≤ 400 → jiv h 68 3 = g0 → 19 - l5.toInt ≤ R23 → jJ jSgX Dy h → jSm fp_X9_wordOf_r68_r10 h0 h → jX m_X9_wordOf 4 0 0 62 [(0, .ref 68), (1, .ref 10), (2, .int l2), (5, .int l5)] [] h 0 0 Q := by
  intro l2 l5 g0 h y0 y1 z0 m23 J Sm
  have el2 := jfull l2
  refine z_iinc0 (x := l2) (lsx9 := fun v1 => [(2, .int v1), (0, .ref 68), (1, .ref 10), (5, .int l5)]) rfl rfl rfl (fun _ => rfl) (fun v1 => ?_)
  have ev1 := jfull v1
  refine x_aloadn (x := 68) rfl rfl ?_
  refine z_getM (N := 6) (v := g0) 9 3 rfl f_9_22 rfl J rfl z0 ?_
  refine x_istoren (lsx9 := [(3, .int g0), (2, .int v1), (0, .ref 68), (1, .ref 10), (5, .int l5)]) rfl rfl rfl ?_
  refine x_iconst (v := 1) rfl ki_1 ?_
  refine x_istore (lsx9 := [(4, .int 1), (3, .int g0), (2, .int v1), (0, .ref 68), (1, .ref 10), (5, .int l5)]) rfl rfl rfl ?_
  refine x_goto (tgt := 110) rfl rfl ?_
  exact jX.sub (jsb_c rfl (jsb_c rfl (jsb_c rfl (jsb_c rfl (jsb_c rfl (jsb_c rfl jsb_n)))))) (ct_X9_wordOf_r68_r10_110 hD hQ k23 v1 g0 1 l5 g0 h (jr_of rfl (by omega)) (jr_of jk_1 (by omega)) (jr_of rfl (by omega)) (jr_of rfl (by omega)) (by omega) z0 (by omega) J Sm)
set_option maxRecDepth 100000 in
set_option maxHeartbeats 4000000 in
theorem ct_X9_wordOf_r68_r10_23 {Dy : jH → Prop} {h0 : jH} {Q : Option Value → jH → Prop} (hD : jDk Dy) (hQ : ∀ (v : Int32) hx9, jJ jSgX Dy hx9 → jSm fp_X9_wordOf_r68_r10 h0 hx9 → Q (some (.int v)) hx9) : ∀ r : Nat, ∀ (l2 : Int32) (l3 : Int32) (l4 : Int32) (l5 : Int32) (g0 : Int32) (h : jH), 19 - l5.toInt < (r : Int) → 0 ≤ l3.toInt ∧ l3.toInt ≤ 419 → 0 ≤ l4.toInt ∧ l4.toInt ≤ 1 → 0 ≤ l5.toInt ∧ l5.toInt ≤ 19 → 0 ≤ g0.toInt ∧ g0.toInt ≤ 400 → l3.toInt - l5.toInt ≤ 400 → jiv h 68 3 = g0 → jJ jSgX Dy h → jSm fp_X9_wordOf_r68_r10 h0 h → jX m_X9_wordOf 4 0 0 23 [(0, .ref 68), (1, .ref 10), (2, .int l2), (3, .int l3), (4, .int l4), (5, .int l5)] [] h 0 0 Q := by
  intro r
  induction r with
  | zero =>
    intro l2 l3 l4 l5 g0 h hm y0 y1 y2 y3 y4 z0  J Sm
    exfalso
    have el2 := jfull l2
    omega
  | succ r ih =>
    intro l2 l3 l4 l5 g0 h hm y0 y1 y2 y3 y4 z0  J Sm
    have el2 := jfull l2
    refine x_iload (x := l5) rfl rfl ?_
    refine x_aloadn (x := 10) rfl rfl ?_
    refine x_invS (N := m_J0_length_8abf5) (i := 5) (As := []) (st := [.int l5]) (dx9 := 1) (by decide) rfl t_J0_length_8abf5 ⟨q_9_38, i_J0_length_8abf5.1, i_J0_length_8abf5.2⟩ rfl rfl (by decide) rfl rfl (zc_slen (N := 19) (v := 19) rfl J rfl rfl (by decide) ?_)
    show jX m_X9_wordOf 4 0 0 29 [(0, .ref 68), (1, .ref 10), (2, .int l2), (3, .int l3), (4, .int l4), (5, .int l5)] [.int 19, .int l5] _ 0 0 _
    refine x_icge (tgt := 116) rfl rfl (ti_ge rfl jk_19 ⟨fun c1 => ?_, fun c1 => ?_⟩)
    ·
      refine x_iconst (v := (-1)) rfl ki_m1 ?_
      refine x_iret rfl rfl ?_
      exact hQ _ _ J Sm
    ·
      refine x_aloadn (x := 10) rfl rfl ?_
      refine x_iload (x := l5) rfl rfl ?_
      refine x_invS (N := m_J0_charAt_5068e) (i := 5) (As := [.int l5]) (st := []) (dx9 := 3) (by decide) rfl t_J0_charAt_5068e ⟨q_9_43, i_J0_charAt_5068e.1, i_J0_charAt_5068e.2⟩ rfl rfl (by decide) rfl rfl (zc_schar (N := 19) rfl J rfl rfl rfl (by omega) (fun v2 ev2 => ?_))
      show jX m_X9_wordOf 4 0 0 38 [(0, .ref 68), (1, .ref 10), (2, .int l2), (3, .int l3), (4, .int l4), (5, .int l5)] [.int v2] _ 0 0 _
      refine x_istore (lsx9 := [(6, .int v2), (0, .ref 68), (1, .ref 10), (2, .int l2), (3, .int l3), (4, .int l4), (5, .int l5)]) rfl rfl rfl ?_
      refine x_iload (x := v2) rfl rfl ?_
      refine x_bipush (v := 32) rfl kb_32 ?_
      refine x_icne (tgt := 76) rfl rfl (ti_ne rfl jk_32 ⟨fun c3 => ?_, fun c3 => ?_⟩)
      ·
        refine x_iload (x := l4) rfl rfl ?_
        refine x_ifeq (tgt := 104) rfl rfl (ti_eq rfl jk_0 ⟨fun c4 => ?_, fun c4 => ?_⟩)
        ·
          exact jX.sub (jsb_c rfl (jsb_c rfl (jsb_c rfl (jsb_c rfl (jsb_c rfl jsb_n))))) (ct_X9_wordOf_r68_r10_104 hD hQ ih l2 l3 l5 g0 h (jr_of rfl (by omega)) (jr_of rfl (by omega)) (jr_of rfl (by omega)) (by omega) z0 (by omega) J Sm)
        ·
          refine x_iloadn (x := l3) rfl rfl ?_
          refine x_aloadn (x := 68) rfl rfl ?_
          refine z_getI (N := 6) 9 4 rfl f_9_25 rfl J rfl sg_68_4_5_1_0_1 (fun v5 qv5 ev5 => ?_)
          refine x_icge (tgt := 104) rfl rfl (ti_ge rfl rfl ⟨fun c6 => ?_, fun c6 => ?_⟩)
          ·
            exact jX.sub (jsb_c rfl (jsb_c rfl (jsb_c rfl (jsb_c rfl (jsb_c rfl jsb_n))))) (ct_X9_wordOf_r68_r10_104 hD hQ ih l2 l3 l5 g0 h (jr_of rfl (by omega)) (jr_of rfl (by omega)) (jr_of rfl (by omega)) (by omega) z0 (by omega) J Sm)
          ·
            refine x_aloadn (x := 68) rfl rfl ?_
            refine z_getR (N := 6) (b := 69) 9 0 rfl f_9_11 rfl J rfl 8704 ⟨rfl, rfl⟩ rfl ?_
            refine x_iloadn (x := l3) rfl rfl ?_
            refine z_iald (N := 400) rfl J rfl sg_69_0_400_1_0_1 rfl (by omega) (fun v7 qv7 ev7 => ?_)
            refine x_iload (x := v2) rfl rfl ?_
            refine x_icne (tgt := 104) rfl rfl (ti_ne rfl rfl ⟨fun c8 => ?_, fun c8 => ?_⟩)
            ·
              exact jX.sub (jsb_c rfl (jsb_c rfl (jsb_c rfl (jsb_c rfl (jsb_c rfl jsb_n))))) (ct_X9_wordOf_r68_r10_104 hD hQ ih l2 l3 l5 g0 h (jr_of rfl (by omega)) (jr_of rfl (by omega)) (jr_of rfl (by omega)) (by omega) z0 (by omega) J Sm)
            ·
              refine x_iconst (v := 1) rfl ki_1 ?_
              refine x_goto (tgt := 105) rfl rfl ?_
              exact jX.sub (jsb_c rfl (jsb_c rfl (jsb_c rfl (jsb_c rfl (jsb_c rfl jsb_n))))) (ct_X9_wordOf_r68_r10_300105 hD hQ ih l2 l3 l5 g0 h (jr_of rfl (by omega)) (jr_of rfl (by omega)) (jr_of rfl (by omega)) (by omega) z0 (by omega) J Sm)
      ·
        refine x_iload (x := l4) rfl rfl ?_
        refine x_ifeq (tgt := 62) rfl rfl (ti_eq rfl jk_0 ⟨fun c9 => ?_, fun c9 => ?_⟩)
        ·
          exact jX.sub (jsb_c rfl (jsb_c rfl (jsb_c rfl (jsb_c rfl jsb_n)))) (ct_X9_wordOf_r68_r10_62 hD hQ ih l2 l5 g0 h (jr_of rfl (by omega)) (jr_of rfl (by omega)) z0 (by omega) J Sm)
        ·
          refine x_iloadn (x := l3) rfl rfl ?_
          refine x_aloadn (x := 68) rfl rfl ?_
          refine z_getI (N := 6) 9 4 rfl f_9_25 rfl J rfl sg_68_4_5_1_0_1 (fun v10 qv10 ev10 => ?_)
          refine x_icne (tgt := 62) rfl rfl (ti_ne rfl rfl ⟨fun c11 => ?_, fun c11 => ?_⟩)
          ·
            exact jX.sub (jsb_c rfl (jsb_c rfl (jsb_c rfl (jsb_c rfl jsb_n)))) (ct_X9_wordOf_r68_r10_62 hD hQ ih l2 l5 g0 h (jr_of rfl (by omega)) (jr_of rfl (by omega)) z0 (by omega) J Sm)
          ·
            refine x_iloadn (x := l2) rfl rfl ?_
            refine x_iret rfl rfl ?_
            exact hQ _ _ J Sm
set_option maxRecDepth 100000 in
set_option maxHeartbeats 4000000 in
theorem sf_X9_wordOf_r68_r10 {Dy : jH → Prop} {h : jH} {Q : Option Value → jH → Prop} (hD : jDk Dy) (J : jJ jSgX Dy h) (hQ : ∀ (v : Int32) hx9, jJ jSgX Dy hx9 → jSm fp_X9_wordOf_r68_r10 h hx9 → Q (some (.int v)) hx9) : jC m_X9_wordOf 4 0 0 [.ref 68, .ref 10] h Q := by
  refine jC.of rfl k_X9_wordOf rfl ?_
  have Sm := jSm_rf fp_X9_wordOf_r68_r10 h
  show jX m_X9_wordOf 4 0 0 0 [(0, .ref 68), (1, .ref 10)] [] _ 0 0 _
  refine x_aloadn (x := 68) rfl rfl ?_
  refine z_getI (N := 6) 9 5 rfl f_9_28 rfl J rfl sg_68_5_6_1_0_1 (fun v1 qv1 ev1 => ?_)
  refine x_iconst (v := 1) rfl ki_1 ?_
  refine x_iceq (tgt := 10) rfl rfl (ti_eq rfl jk_1 ⟨fun c2 => ?_, fun c2 => ?_⟩)
  ·
    refine x_iconst (v := 0) rfl ki_0 ?_
    refine x_istoren (lsx9 := [(2, .int 0), (0, .ref 68), (1, .ref 10)]) rfl rfl rfl ?_
    refine x_aloadn (x := 68) rfl rfl ?_
    refine z_getI (N := 6) 9 3 rfl f_9_22 rfl J rfl sg_68_3_4_1_0_1 (fun v3 qv3 ev3 => ?_)
    refine x_istoren (lsx9 := [(3, .int v3), (2, .int 0), (0, .ref 68), (1, .ref 10)]) rfl rfl rfl ?_
    refine x_iconst (v := 1) rfl ki_1 ?_
    refine x_istore (lsx9 := [(4, .int 1), (3, .int v3), (2, .int 0), (0, .ref 68), (1, .ref 10)]) rfl rfl rfl ?_
    refine x_iconst (v := 0) rfl ki_0 ?_
    refine x_istore (lsx9 := [(5, .int 0), (4, .int 1), (3, .int v3), (2, .int 0), (0, .ref 68), (1, .ref 10)]) rfl rfl rfl ?_
    exact jX.sub (jsb_c rfl (jsb_c rfl (jsb_c rfl (jsb_c rfl (jsb_c rfl (jsb_c rfl jsb_n)))))) (ct_X9_wordOf_r68_r10_23 hD hQ  20 0 v3 1 0 v3 h (by have := jk_0; omega) (jr_of rfl (by omega)) (jr_of jk_1 (by omega)) (jr_of jk_0 (by omega)) (jr_of rfl (by omega)) (by have := jk_0; omega) qv3 J Sm)
  ·
    refine x_iconst (v := (-1)) rfl ki_m1 ?_
    refine x_iret rfl rfl ?_
    exact hQ _ _ J Sm
def fp_X2_readWhich_r95_r10 : jFp := [(68, 2, 3), (68, 3, 4), (68, 4, 5), (68, 5, 6), (96, 0, 72)]
set_option maxRecDepth 100000 in
set_option maxHeartbeats 4000000 in
theorem sf_X2_readWhich_r95_r10 {Dy : jH → Prop} {h : jH} {Q : Option Value → jH → Prop} (hD : jDk Dy) (J : jJ jSgX Dy h) {p0 p1 : Int32} (zp0 : jiv h 68 5 = p0) (zp1 : jiv h 68 3 = p1) (rl_p0 : (p0.toInt ≠ 3 ∨ p1.toInt ≤ 399)) (hQ : ∀ (v : Int32) hx9, 0 ≤ v.toInt ∧ v.toInt ≤ 1 → jJ jSgX Dy hx9 → jSm fp_X2_readWhich_r95_r10 h hx9 → ∀ u0 u1 : Int32, jiv hx9 68 5 = u0 → jiv hx9 68 3 = u1 → (u0.toInt ≠ 3 ∨ u1.toInt ≤ 399) → Q (some (.int v)) hx9) : jC m_X2_readWhich 5 0 0 [.ref 95, .ref 10] h Q := by
  refine jC.of rfl k_X2_readWhich rfl ?_
  have Sm := jSm_rf fp_X2_readWhich_r95_r10 h
  have ep0 := (show 0 ≤ p0.toInt ∧ p0.toInt ≤ 3 from zp0 ▸ jrg_f J sg_68_5_6_1_0_1)
  have ep1 := (show 0 ≤ p1.toInt ∧ p1.toInt ≤ 400 from zp1 ▸ jrg_f J sg_68_3_4_1_0_1)
  show jX m_X2_readWhich 5 0 0 0 [(0, .ref 95), (1, .ref 10)] [] _ 0 0 _
  refine x_aloadn (x := 95) rfl rfl ?_
  refine z_getR (N := 6) (b := 68) 2 0 rfl f_2_30 rfl J rfl 12160 ⟨rfl, rfl⟩ rfl ?_
  refine x_aloadn (x := 10) rfl rfl ?_
  refine x_inv (N := m_X9_wordOf) (As := [.ref 10]) (b := 68) (st := []) (dx9 := 4) (mc := 0) (ms := 0) (host := "") 9 rfl t_X9_wordOf ⟨Or.inl q_2_67, i_X9_wordOf.1, i_X9_wordOf.2⟩ ⟨by decide, rfl⟩ (congrArg Prod.fst (J.1.1 68 (9, 6) rfl)) rfl (by decide) rfl rfl ⟨by decide, by decide⟩ (sf_X9_wordOf_r68_r10  hD J  (fun v2 h J S1 => ?_))
  have ev2 := jfull v2
  have Sm := jSm_tr rfl Sm S1
  show jX m_X2_readWhich 5 0 0 8 [(0, .ref 95), (1, .ref 10)] [.int v2] _ 0 0 _
  refine x_istoren (lsx9 := [(2, .int v2), (0, .ref 95), (1, .ref 10)]) rfl rfl rfl ?_
  refine x_iloadn (x := v2) rfl rfl ?_
  refine x_iconst (v := (-1)) rfl ki_m1 ?_
  refine x_icne (tgt := 22) rfl rfl (ti_ne rfl jk_m1 ⟨fun c3 => ?_, fun c3 => ?_⟩)
  ·
    refine x_aloadn (x := 95) rfl rfl ?_
    refine x_iconst (v := 1) rfl ki_1 ?_
    refine x_iloadn (x := v2) rfl rfl ?_
    refine x_inv (N := m_X2_note) (As := [.int 1, .int v2]) (b := 95) (st := []) (dx9 := 1) (mc := 0) (ms := 0) (host := "") 2 rfl t_X2_note ⟨Or.inl q_2_82, i_X2_note.1, i_X2_note.2⟩ ⟨by decide, rfl⟩ (congrArg Prod.fst (J.1.1 95 (2, 6) rfl)) rfl (by decide) rfl rfl ⟨by decide, by decide⟩ (sf_X2_note_r95 (jr_of jk_1 (by omega)) hD J  (fun h J S4 => ?_))
    have Sm := jSm_tr rfl Sm S4
    show jX m_X2_readWhich 5 0 0 28 [(2, .int v2), (0, .ref 95), (1, .ref 10)] [] _ 0 0 _
    refine x_aloadn (x := 95) rfl rfl ?_
    refine z_getR (N := 6) (b := 68) 2 0 rfl f_2_30 rfl J rfl 12160 ⟨rfl, rfl⟩ rfl ?_
    refine x_inv (N := m_X9_step) (As := []) (b := 68) (st := []) (dx9 := 2) (mc := 0) (ms := 0) (host := "") 9 rfl t_X9_step ⟨Or.inl q_2_62, i_X9_step.1, i_X9_step.2⟩ ⟨by decide, rfl⟩ (congrArg Prod.fst (J.1.1 68 (9, 6) rfl)) rfl (by decide) rfl rfl ⟨by decide, by decide⟩ (sf_X9_step_r68  hD J (jmc S4 rfl (jmc S1 rfl zp0)) (jmc S4 rfl (jmc S1 rfl zp1)) (by omega)  (fun h J S5 u6 u7 qu6 qu7 ru6 => ?_))
    have Sm := jSm_tr rfl Sm S5
    have eu6 := (show 0 ≤ u6.toInt ∧ u6.toInt ≤ 3 from qu6 ▸ jrg_f J sg_68_5_6_1_0_1)
    have eu7 := (show 0 ≤ u7.toInt ∧ u7.toInt ≤ 400 from qu7 ▸ jrg_f J sg_68_3_4_1_0_1)
    show jX m_X2_readWhich 5 0 0 35 [(2, .int v2), (0, .ref 95), (1, .ref 10)] [] _ 0 0 _
    refine x_iconst (v := 1) rfl ki_1 ?_
    refine x_zret rfl rfl (by decide) ?_
    exact hQ _ _ (jr_of jk_1 (by omega)) J Sm _ _ qu6 qu7 (by omega)
  ·
    refine x_aloadn (x := 95) rfl rfl ?_
    refine z_getR (N := 6) (b := 68) 2 0 rfl f_2_30 rfl J rfl 12160 ⟨rfl, rfl⟩ rfl ?_
    refine x_inv (N := m_X9_blame) (As := []) (b := 68) (st := []) (dx9 := 4) (mc := 0) (ms := 0) (host := "") 9 rfl t_X9_blame ⟨Or.inl q_2_59, i_X9_blame.1, i_X9_blame.2⟩ ⟨by decide, rfl⟩ (congrArg Prod.fst (J.1.1 68 (9, 6) rfl)) rfl (by decide) rfl rfl ⟨by decide, by decide⟩ (jC.of rfl k_X9_blame rfl ?_)
    show jX m_X9_blame 4 0 0 0 [(0, .ref 68)] [] _ 0 0 _
    refine x_aloadn (x := 68) rfl rfl ?_
    refine x_aloadn (x := 68) rfl rfl ?_
    refine z_getM (N := 6) (v := p1) 9 3 rfl f_9_22 rfl J rfl (jmc S1 rfl zp1) ?_
    refine z_putI (N := 6) (w := p1.toInt) 9 2 rfl f_9_19 rfl (jfin_no TX9 RX9 6 rfl rfl) hD J Sm rfl rfl rfl (pw_68_2 (by omega)) rfl (fun h w8 J Sm => ?_)
    refine x_iconst (v := 0) rfl ki_0 ?_
    refine x_zret rfl rfl (by decide) ?_
    show jX m_X2_readWhich 5 0 0 21 [(2, .int v2), (0, .ref 95), (1, .ref 10)] [.int 0] _ 0 0 _
    refine x_zret rfl rfl (by decide) ?_
    exact hQ _ _ (jr_of jk_0 (by omega)) J Sm _ _ (jmo w8 rfl (jmc S1 rfl zp0)) (jmo w8 rfl (jmc S1 rfl zp1)) (by omega)
def fp_X9_wordOf_r68_r7 : jFp := []
set_option maxRecDepth 100000 in
set_option maxHeartbeats 4000000 in
theorem ct_X9_wordOf_r68_r7_110 {Dy : jH → Prop} {h0 : jH} {Q : Option Value → jH → Prop} {R23 : Int} (hD : jDk Dy) (hQ : ∀ (v : Int32) hx9, jJ jSgX Dy hx9 → jSm fp_X9_wordOf_r68_r7 h0 hx9 → Q (some (.int v)) hx9) (k23 : ∀ (l2 : Int32) (l3 : Int32) (l4 : Int32) (l5 : Int32) (g0 : Int32) (h : jH), 35 - l5.toInt < R23 → 0 ≤ l3.toInt ∧ l3.toInt ≤ 435 → 0 ≤ l4.toInt ∧ l4.toInt ≤ 1 → 0 ≤ l5.toInt ∧ l5.toInt ≤ 35 → 0 ≤ g0.toInt ∧ g0.toInt ≤ 400 → l3.toInt - l5.toInt ≤ 400 → jiv h 68 3 = g0 → jJ jSgX Dy h → jSm fp_X9_wordOf_r68_r7 h0 h → jX m_X9_wordOf 4 0 0 23 [(0, .ref 68), (1, .ref 7), (2, .int l2), (3, .int l3), (4, .int l4), (5, .int l5)] [] h 0 0 Q) : ∀ (l2 : Int32) (l3 : Int32) (l4 : Int32) (l5 : Int32) (g0 : Int32) (h : jH), 0 ≤ l3.toInt ∧ l3.toInt ≤ 435 → 0 ≤ l4.toInt ∧ l4.toInt ≤ 1 → 0 ≤ l5.toInt ∧ l5.toInt ≤ 34 → 0 ≤ g0.toInt ∧ g0.toInt ≤ 400 → l3.toInt - l5.toInt ≤ 401 → jiv h 68 3 = g0 → 35 - l5.toInt ≤ R23 → jJ jSgX Dy h → jSm fp_X9_wordOf_r68_r7 h0 h → jX m_X9_wordOf 4 0 0 110 [(0, .ref 68), (1, .ref 7), (2, .int l2), (3, .int l3), (4, .int l4), (5, .int l5)] [] h 0 0 Q := by
  intro l2 l3 l4 l5 g0 h y0 y1 y2 y3 y4 z0 m23 J Sm
  have el2 := jfull l2
  refine z_iinc (x := l5) (lsx9 := fun v1 => [(5, .int v1), (0, .ref 68), (1, .ref 7), (2, .int l2), (3, .int l3), (4, .int l4)]) rfl rfl rfl jko_1 (by omega) rfl (fun _ => rfl) (fun v1 ev1 => ?_)
  refine x_goto (tgt := 23) rfl rfl ?_
  exact jX.sub (jsb_c rfl (jsb_c rfl (jsb_c rfl (jsb_c rfl (jsb_c rfl (jsb_c rfl jsb_n)))))) (k23 l2 l3 l4 v1 g0 h (by omega) (jr_of rfl (by omega)) (jr_of rfl (by omega)) (jr_of rfl (by omega)) (jr_of rfl (by omega)) (by omega) z0 J Sm)
set_option maxRecDepth 100000 in
set_option maxHeartbeats 4000000 in
theorem ct_X9_wordOf_r68_r7_300105 {Dy : jH → Prop} {h0 : jH} {Q : Option Value → jH → Prop} {R23 : Int} (hD : jDk Dy) (hQ : ∀ (v : Int32) hx9, jJ jSgX Dy hx9 → jSm fp_X9_wordOf_r68_r7 h0 hx9 → Q (some (.int v)) hx9) (k23 : ∀ (l2 : Int32) (l3 : Int32) (l4 : Int32) (l5 : Int32) (g0 : Int32) (h : jH), 35 - l5.toInt < R23 → 0 ≤ l3.toInt ∧ l3.toInt ≤ 435 → 0 ≤ l4.toInt ∧ l4.toInt ≤ 1 → 0 ≤ l5.toInt ∧ l5.toInt ≤ 35 → 0 ≤ g0.toInt ∧ g0.toInt ≤ 400 → l3.toInt - l5.toInt ≤ 400 → jiv h 68 3 = g0 → jJ jSgX Dy h → jSm fp_X9_wordOf_r68_r7 h0 h → jX m_X9_wordOf 4 0 0 23 [(0, .ref 68), (1, .ref 7), (2, .int l2), (3, .int l3), (4, .int l4), (5, .int l5)] [] h 0 0 Q) : ∀ (l2 : Int32) (l3 : Int32) (l5 : Int32) (g0 : Int32) (h : jH), 0 ≤ l3.toInt ∧ l3.toInt ≤ 399 → 0 ≤ l5.toInt ∧ l5.toInt ≤ 34 → 0 ≤ g0.toInt ∧ g0.toInt ≤ 400 → l3.toInt - l5.toInt ≤ 400 → jiv h 68 3 = g0 → 35 - l5.toInt ≤ R23 → jJ jSgX Dy h → jSm fp_X9_wordOf_r68_r7 h0 h → jX m_X9_wordOf 4 0 0 105 [(0, .ref 68), (1, .ref 7), (2, .int l2), (3, .int l3), (5, .int l5)] [.int 1] h 0 0 Q := by
  intro l2 l3 l5 g0 h y0 y1 y2 y3 z0 m23 J Sm
  have el2 := jfull l2
  refine x_istore (lsx9 := [(4, .int 1), (0, .ref 68), (1, .ref 7), (2, .int l2), (3, .int l3), (5, .int l5)]) rfl rfl rfl ?_
  refine z_iinc (x := l3) (lsx9 := fun v1 => [(3, .int v1), (4, .int 1), (0, .ref 68), (1, .ref 7), (2, .int l2), (5, .int l5)]) rfl rfl rfl jko_1 (by omega) rfl (fun _ => rfl) (fun v1 ev1 => ?_)
  exact jX.sub (jsb_c rfl (jsb_c rfl (jsb_c rfl (jsb_c rfl (jsb_c rfl (jsb_c rfl jsb_n)))))) (ct_X9_wordOf_r68_r7_110 hD hQ k23 l2 v1 1 l5 g0 h (jr_of rfl (by omega)) (jr_of jk_1 (by omega)) (jr_of rfl (by omega)) (jr_of rfl (by omega)) (by omega) z0 (by omega) J Sm)
set_option maxRecDepth 100000 in
set_option maxHeartbeats 4000000 in
theorem ct_X9_wordOf_r68_r7_200105 {Dy : jH → Prop} {h0 : jH} {Q : Option Value → jH → Prop} {R23 : Int} (hD : jDk Dy) (hQ : ∀ (v : Int32) hx9, jJ jSgX Dy hx9 → jSm fp_X9_wordOf_r68_r7 h0 hx9 → Q (some (.int v)) hx9) (k23 : ∀ (l2 : Int32) (l3 : Int32) (l4 : Int32) (l5 : Int32) (g0 : Int32) (h : jH), 35 - l5.toInt < R23 → 0 ≤ l3.toInt ∧ l3.toInt ≤ 435 → 0 ≤ l4.toInt ∧ l4.toInt ≤ 1 → 0 ≤ l5.toInt ∧ l5.toInt ≤ 35 → 0 ≤ g0.toInt ∧ g0.toInt ≤ 400 → l3.toInt - l5.toInt ≤ 400 → jiv h 68 3 = g0 → jJ jSgX Dy h → jSm fp_X9_wordOf_r68_r7 h0 h → jX m_X9_wordOf 4 0 0 23 [(0, .ref 68), (1, .ref 7), (2, .int l2), (3, .int l3), (4, .int l4), (5, .int l5)] [] h 0 0 Q) : ∀ (l2 : Int32) (l3 : Int32) (l5 : Int32) (g0 : Int32) (h : jH), 0 ≤ l3.toInt ∧ l3.toInt ≤ 434 → 0 ≤ l5.toInt ∧ l5.toInt ≤ 34 → 0 ≤ g0.toInt ∧ g0.toInt ≤ 400 → l3.toInt - l5.toInt ≤ 400 → jiv h 68 3 = g0 → 35 - l5.toInt ≤ R23 → jJ jSgX Dy h → jSm fp_X9_wordOf_r68_r7 h0 h → jX m_X9_wordOf 4 0 0 105 [(0, .ref 68), (1, .ref 7), (2, .int l2), (3, .int l3), (5, .int l5)] [.int 0] h 0 0 Q := by
  intro l2 l3 l5 g0 h y0 y1 y2 y3 z0 m23 J Sm
  have el2 := jfull l2
  refine x_istore (lsx9 := [(4, .int 0), (0, .ref 68), (1, .ref 7), (2, .int l2), (3, .int l3), (5, .int l5)]) rfl rfl rfl ?_
  refine z_iinc (x := l3) (lsx9 := fun v1 => [(3, .int v1), (4, .int 0), (0, .ref 68), (1, .ref 7), (2, .int l2), (5, .int l5)]) rfl rfl rfl jko_1 (by omega) rfl (fun _ => rfl) (fun v1 ev1 => ?_)
  exact jX.sub (jsb_c rfl (jsb_c rfl (jsb_c rfl (jsb_c rfl (jsb_c rfl (jsb_c rfl jsb_n)))))) (ct_X9_wordOf_r68_r7_110 hD hQ k23 l2 v1 0 l5 g0 h (jr_of rfl (by omega)) (jr_of jk_0 (by omega)) (jr_of rfl (by omega)) (jr_of rfl (by omega)) (by omega) z0 (by omega) J Sm)
set_option maxRecDepth 100000 in
set_option maxHeartbeats 4000000 in
theorem ct_X9_wordOf_r68_r7_104 {Dy : jH → Prop} {h0 : jH} {Q : Option Value → jH → Prop} {R23 : Int} (hD : jDk Dy) (hQ : ∀ (v : Int32) hx9, jJ jSgX Dy hx9 → jSm fp_X9_wordOf_r68_r7 h0 hx9 → Q (some (.int v)) hx9) (k23 : ∀ (l2 : Int32) (l3 : Int32) (l4 : Int32) (l5 : Int32) (g0 : Int32) (h : jH), 35 - l5.toInt < R23 → 0 ≤ l3.toInt ∧ l3.toInt ≤ 435 → 0 ≤ l4.toInt ∧ l4.toInt ≤ 1 → 0 ≤ l5.toInt ∧ l5.toInt ≤ 35 → 0 ≤ g0.toInt ∧ g0.toInt ≤ 400 → l3.toInt - l5.toInt ≤ 400 → jiv h 68 3 = g0 → jJ jSgX Dy h → jSm fp_X9_wordOf_r68_r7 h0 h → jX m_X9_wordOf 4 0 0 23 [(0, .ref 68), (1, .ref 7), (2, .int l2), (3, .int l3), (4, .int l4), (5, .int l5)] [] h 0 0 Q) : ∀ (l2 : Int32) (l3 : Int32) (l5 : Int32) (g0 : Int32) (h : jH), 0 ≤ l3.toInt ∧ l3.toInt ≤ 434 → 0 ≤ l5.toInt ∧ l5.toInt ≤ 34 → 0 ≤ g0.toInt ∧ g0.toInt ≤ 400 → l3.toInt - l5.toInt ≤ 400 → jiv h 68 3 = g0 → 35 - l5.toInt ≤ R23 → jJ jSgX Dy h → jSm fp_X9_wordOf_r68_r7 h0 h → jX m_X9_wordOf 4 0 0 104 [(0, .ref 68), (1, .ref 7), (2, .int l2), (3, .int l3), (5, .int l5)] [] h 0 0 Q := by
  intro l2 l3 l5 g0 h y0 y1 y2 y3 z0 m23 J Sm
  have el2 := jfull l2
  refine x_iconst (v := 0) rfl ki_0 ?_
  exact jX.sub (jsb_c rfl (jsb_c rfl (jsb_c rfl (jsb_c rfl (jsb_c rfl jsb_n))))) (ct_X9_wordOf_r68_r7_200105 hD hQ k23 l2 l3 l5 g0 h (jr_of rfl (by omega)) (jr_of rfl (by omega)) (jr_of rfl (by omega)) (by omega) z0 (by omega) J Sm)
set_option maxRecDepth 100000 in
set_option maxHeartbeats 4000000 in
theorem ct_X9_wordOf_r68_r7_62 {Dy : jH → Prop} {h0 : jH} {Q : Option Value → jH → Prop} {R23 : Int} (hD : jDk Dy) (hQ : ∀ (v : Int32) hx9, jJ jSgX Dy hx9 → jSm fp_X9_wordOf_r68_r7 h0 hx9 → Q (some (.int v)) hx9) (k23 : ∀ (l2 : Int32) (l3 : Int32) (l4 : Int32) (l5 : Int32) (g0 : Int32) (h : jH), 35 - l5.toInt < R23 → 0 ≤ l3.toInt ∧ l3.toInt ≤ 435 → 0 ≤ l4.toInt ∧ l4.toInt ≤ 1 → 0 ≤ l5.toInt ∧ l5.toInt ≤ 35 → 0 ≤ g0.toInt ∧ g0.toInt ≤ 400 → l3.toInt - l5.toInt ≤ 400 → jiv h 68 3 = g0 → jJ jSgX Dy h → jSm fp_X9_wordOf_r68_r7 h0 h → jX m_X9_wordOf 4 0 0 23 [(0, .ref 68), (1, .ref 7), (2, .int l2), (3, .int l3), (4, .int l4), (5, .int l5)] [] h 0 0 Q) : ∀ (l2 : Int32) (l5 : Int32) (g0 : Int32) (h : jH), 0 ≤ l5.toInt ∧ l5.toInt ≤ 34 → 0 ≤ g0.toInt ∧ g0.toInt ≤ 400 → jiv h 68 3 = g0 → 35 - l5.toInt ≤ R23 → jJ jSgX Dy h → jSm fp_X9_wordOf_r68_r7 h0 h → jX m_X9_wordOf 4 0 0 62 [(0, .ref 68), (1, .ref 7), (2, .int l2), (5, .int l5)] [] h 0 0 Q := by
  intro l2 l5 g0 h y0 y1 z0 m23 J Sm
  have el2 := jfull l2
  refine z_iinc0 (x := l2) (lsx9 := fun v1 => [(2, .int v1), (0, .ref 68), (1, .ref 7), (5, .int l5)]) rfl rfl rfl (fun _ => rfl) (fun v1 => ?_)
  have ev1 := jfull v1
  refine x_aloadn (x := 68) rfl rfl ?_
  refine z_getM (N := 6) (v := g0) 9 3 rfl f_9_22 rfl J rfl z0 ?_
  refine x_istoren (lsx9 := [(3, .int g0), (2, .int v1), (0, .ref 68), (1, .ref 7), (5, .int l5)]) rfl rfl rfl ?_
  refine x_iconst (v := 1) rfl ki_1 ?_
  refine x_istore (lsx9 := [(4, .int 1), (3, .int g0), (2, .int v1), (0, .ref 68), (1, .ref 7), (5, .int l5)]) rfl rfl rfl ?_
  refine x_goto (tgt := 110) rfl rfl ?_
  exact jX.sub (jsb_c rfl (jsb_c rfl (jsb_c rfl (jsb_c rfl (jsb_c rfl (jsb_c rfl jsb_n)))))) (ct_X9_wordOf_r68_r7_110 hD hQ k23 v1 g0 1 l5 g0 h (jr_of rfl (by omega)) (jr_of jk_1 (by omega)) (jr_of rfl (by omega)) (jr_of rfl (by omega)) (by omega) z0 (by omega) J Sm)
set_option maxRecDepth 100000 in
set_option maxHeartbeats 4000000 in
theorem ct_X9_wordOf_r68_r7_23 {Dy : jH → Prop} {h0 : jH} {Q : Option Value → jH → Prop} (hD : jDk Dy) (hQ : ∀ (v : Int32) hx9, jJ jSgX Dy hx9 → jSm fp_X9_wordOf_r68_r7 h0 hx9 → Q (some (.int v)) hx9) : ∀ r : Nat, ∀ (l2 : Int32) (l3 : Int32) (l4 : Int32) (l5 : Int32) (g0 : Int32) (h : jH), 35 - l5.toInt < (r : Int) → 0 ≤ l3.toInt ∧ l3.toInt ≤ 435 → 0 ≤ l4.toInt ∧ l4.toInt ≤ 1 → 0 ≤ l5.toInt ∧ l5.toInt ≤ 35 → 0 ≤ g0.toInt ∧ g0.toInt ≤ 400 → l3.toInt - l5.toInt ≤ 400 → jiv h 68 3 = g0 → jJ jSgX Dy h → jSm fp_X9_wordOf_r68_r7 h0 h → jX m_X9_wordOf 4 0 0 23 [(0, .ref 68), (1, .ref 7), (2, .int l2), (3, .int l3), (4, .int l4), (5, .int l5)] [] h 0 0 Q := by
  intro r
  induction r with
  | zero =>
    intro l2 l3 l4 l5 g0 h hm y0 y1 y2 y3 y4 z0  J Sm
    exfalso
    have el2 := jfull l2
    omega
  | succ r ih =>
    intro l2 l3 l4 l5 g0 h hm y0 y1 y2 y3 y4 z0  J Sm
    have el2 := jfull l2
    refine x_iload (x := l5) rfl rfl ?_
    refine x_aloadn (x := 7) rfl rfl ?_
    refine x_invS (N := m_J0_length_8abf5) (i := 2) (As := []) (st := [.int l5]) (dx9 := 1) (by decide) rfl t_J0_length_8abf5 ⟨q_9_38, i_J0_length_8abf5.1, i_J0_length_8abf5.2⟩ rfl rfl (by decide) rfl rfl (zc_slen (N := 35) (v := 35) rfl J rfl rfl (by decide) ?_)
    show jX m_X9_wordOf 4 0 0 29 [(0, .ref 68), (1, .ref 7), (2, .int l2), (3, .int l3), (4, .int l4), (5, .int l5)] [.int 35, .int l5] _ 0 0 _
    refine x_icge (tgt := 116) rfl rfl (ti_ge rfl jk_35 ⟨fun c1 => ?_, fun c1 => ?_⟩)
    ·
      refine x_iconst (v := (-1)) rfl ki_m1 ?_
      refine x_iret rfl rfl ?_
      exact hQ _ _ J Sm
    ·
      refine x_aloadn (x := 7) rfl rfl ?_
      refine x_iload (x := l5) rfl rfl ?_
      refine x_invS (N := m_J0_charAt_5068e) (i := 2) (As := [.int l5]) (st := []) (dx9 := 3) (by decide) rfl t_J0_charAt_5068e ⟨q_9_43, i_J0_charAt_5068e.1, i_J0_charAt_5068e.2⟩ rfl rfl (by decide) rfl rfl (zc_schar (N := 35) rfl J rfl rfl rfl (by omega) (fun v2 ev2 => ?_))
      show jX m_X9_wordOf 4 0 0 38 [(0, .ref 68), (1, .ref 7), (2, .int l2), (3, .int l3), (4, .int l4), (5, .int l5)] [.int v2] _ 0 0 _
      refine x_istore (lsx9 := [(6, .int v2), (0, .ref 68), (1, .ref 7), (2, .int l2), (3, .int l3), (4, .int l4), (5, .int l5)]) rfl rfl rfl ?_
      refine x_iload (x := v2) rfl rfl ?_
      refine x_bipush (v := 32) rfl kb_32 ?_
      refine x_icne (tgt := 76) rfl rfl (ti_ne rfl jk_32 ⟨fun c3 => ?_, fun c3 => ?_⟩)
      ·
        refine x_iload (x := l4) rfl rfl ?_
        refine x_ifeq (tgt := 104) rfl rfl (ti_eq rfl jk_0 ⟨fun c4 => ?_, fun c4 => ?_⟩)
        ·
          exact jX.sub (jsb_c rfl (jsb_c rfl (jsb_c rfl (jsb_c rfl (jsb_c rfl jsb_n))))) (ct_X9_wordOf_r68_r7_104 hD hQ ih l2 l3 l5 g0 h (jr_of rfl (by omega)) (jr_of rfl (by omega)) (jr_of rfl (by omega)) (by omega) z0 (by omega) J Sm)
        ·
          refine x_iloadn (x := l3) rfl rfl ?_
          refine x_aloadn (x := 68) rfl rfl ?_
          refine z_getI (N := 6) 9 4 rfl f_9_25 rfl J rfl sg_68_4_5_1_0_1 (fun v5 qv5 ev5 => ?_)
          refine x_icge (tgt := 104) rfl rfl (ti_ge rfl rfl ⟨fun c6 => ?_, fun c6 => ?_⟩)
          ·
            exact jX.sub (jsb_c rfl (jsb_c rfl (jsb_c rfl (jsb_c rfl (jsb_c rfl jsb_n))))) (ct_X9_wordOf_r68_r7_104 hD hQ ih l2 l3 l5 g0 h (jr_of rfl (by omega)) (jr_of rfl (by omega)) (jr_of rfl (by omega)) (by omega) z0 (by omega) J Sm)
          ·
            refine x_aloadn (x := 68) rfl rfl ?_
            refine z_getR (N := 6) (b := 69) 9 0 rfl f_9_11 rfl J rfl 8704 ⟨rfl, rfl⟩ rfl ?_
            refine x_iloadn (x := l3) rfl rfl ?_
            refine z_iald (N := 400) rfl J rfl sg_69_0_400_1_0_1 rfl (by omega) (fun v7 qv7 ev7 => ?_)
            refine x_iload (x := v2) rfl rfl ?_
            refine x_icne (tgt := 104) rfl rfl (ti_ne rfl rfl ⟨fun c8 => ?_, fun c8 => ?_⟩)
            ·
              exact jX.sub (jsb_c rfl (jsb_c rfl (jsb_c rfl (jsb_c rfl (jsb_c rfl jsb_n))))) (ct_X9_wordOf_r68_r7_104 hD hQ ih l2 l3 l5 g0 h (jr_of rfl (by omega)) (jr_of rfl (by omega)) (jr_of rfl (by omega)) (by omega) z0 (by omega) J Sm)
            ·
              refine x_iconst (v := 1) rfl ki_1 ?_
              refine x_goto (tgt := 105) rfl rfl ?_
              exact jX.sub (jsb_c rfl (jsb_c rfl (jsb_c rfl (jsb_c rfl (jsb_c rfl jsb_n))))) (ct_X9_wordOf_r68_r7_300105 hD hQ ih l2 l3 l5 g0 h (jr_of rfl (by omega)) (jr_of rfl (by omega)) (jr_of rfl (by omega)) (by omega) z0 (by omega) J Sm)
      ·
        refine x_iload (x := l4) rfl rfl ?_
        refine x_ifeq (tgt := 62) rfl rfl (ti_eq rfl jk_0 ⟨fun c9 => ?_, fun c9 => ?_⟩)
        ·
          exact jX.sub (jsb_c rfl (jsb_c rfl (jsb_c rfl (jsb_c rfl jsb_n)))) (ct_X9_wordOf_r68_r7_62 hD hQ ih l2 l5 g0 h (jr_of rfl (by omega)) (jr_of rfl (by omega)) z0 (by omega) J Sm)
        ·
          refine x_iloadn (x := l3) rfl rfl ?_
          refine x_aloadn (x := 68) rfl rfl ?_
          refine z_getI (N := 6) 9 4 rfl f_9_25 rfl J rfl sg_68_4_5_1_0_1 (fun v10 qv10 ev10 => ?_)
          refine x_icne (tgt := 62) rfl rfl (ti_ne rfl rfl ⟨fun c11 => ?_, fun c11 => ?_⟩)
          ·
            exact jX.sub (jsb_c rfl (jsb_c rfl (jsb_c rfl (jsb_c rfl jsb_n)))) (ct_X9_wordOf_r68_r7_62 hD hQ ih l2 l5 g0 h (jr_of rfl (by omega)) (jr_of rfl (by omega)) z0 (by omega) J Sm)
          ·
            refine x_iloadn (x := l2) rfl rfl ?_
            refine x_iret rfl rfl ?_
            exact hQ _ _ J Sm
set_option maxRecDepth 100000 in
set_option maxHeartbeats 4000000 in
theorem sf_X9_wordOf_r68_r7 {Dy : jH → Prop} {h : jH} {Q : Option Value → jH → Prop} (hD : jDk Dy) (J : jJ jSgX Dy h) (hQ : ∀ (v : Int32) hx9, jJ jSgX Dy hx9 → jSm fp_X9_wordOf_r68_r7 h hx9 → Q (some (.int v)) hx9) : jC m_X9_wordOf 4 0 0 [.ref 68, .ref 7] h Q := by
  refine jC.of rfl k_X9_wordOf rfl ?_
  have Sm := jSm_rf fp_X9_wordOf_r68_r7 h
  show jX m_X9_wordOf 4 0 0 0 [(0, .ref 68), (1, .ref 7)] [] _ 0 0 _
  refine x_aloadn (x := 68) rfl rfl ?_
  refine z_getI (N := 6) 9 5 rfl f_9_28 rfl J rfl sg_68_5_6_1_0_1 (fun v1 qv1 ev1 => ?_)
  refine x_iconst (v := 1) rfl ki_1 ?_
  refine x_iceq (tgt := 10) rfl rfl (ti_eq rfl jk_1 ⟨fun c2 => ?_, fun c2 => ?_⟩)
  ·
    refine x_iconst (v := 0) rfl ki_0 ?_
    refine x_istoren (lsx9 := [(2, .int 0), (0, .ref 68), (1, .ref 7)]) rfl rfl rfl ?_
    refine x_aloadn (x := 68) rfl rfl ?_
    refine z_getI (N := 6) 9 3 rfl f_9_22 rfl J rfl sg_68_3_4_1_0_1 (fun v3 qv3 ev3 => ?_)
    refine x_istoren (lsx9 := [(3, .int v3), (2, .int 0), (0, .ref 68), (1, .ref 7)]) rfl rfl rfl ?_
    refine x_iconst (v := 1) rfl ki_1 ?_
    refine x_istore (lsx9 := [(4, .int 1), (3, .int v3), (2, .int 0), (0, .ref 68), (1, .ref 7)]) rfl rfl rfl ?_
    refine x_iconst (v := 0) rfl ki_0 ?_
    refine x_istore (lsx9 := [(5, .int 0), (4, .int 1), (3, .int v3), (2, .int 0), (0, .ref 68), (1, .ref 7)]) rfl rfl rfl ?_
    exact jX.sub (jsb_c rfl (jsb_c rfl (jsb_c rfl (jsb_c rfl (jsb_c rfl (jsb_c rfl jsb_n)))))) (ct_X9_wordOf_r68_r7_23 hD hQ  36 0 v3 1 0 v3 h (by have := jk_0; omega) (jr_of rfl (by omega)) (jr_of jk_1 (by omega)) (jr_of jk_0 (by omega)) (jr_of rfl (by omega)) (by have := jk_0; omega) qv3 J Sm)
  ·
    refine x_iconst (v := (-1)) rfl ki_m1 ?_
    refine x_iret rfl rfl ?_
    exact hQ _ _ J Sm
def fp_X2_readWhich_r95_r7 : jFp := [(68, 2, 3), (68, 3, 4), (68, 4, 5), (68, 5, 6), (96, 0, 72)]
set_option maxRecDepth 100000 in
set_option maxHeartbeats 4000000 in
theorem sf_X2_readWhich_r95_r7 {Dy : jH → Prop} {h : jH} {Q : Option Value → jH → Prop} (hD : jDk Dy) (J : jJ jSgX Dy h) {p0 p1 : Int32} (zp0 : jiv h 68 5 = p0) (zp1 : jiv h 68 3 = p1) (rl_p0 : (p0.toInt ≠ 3 ∨ p1.toInt ≤ 399)) (hQ : ∀ (v : Int32) hx9, 0 ≤ v.toInt ∧ v.toInt ≤ 1 → jJ jSgX Dy hx9 → jSm fp_X2_readWhich_r95_r7 h hx9 → ∀ u0 u1 : Int32, jiv hx9 68 5 = u0 → jiv hx9 68 3 = u1 → (u0.toInt ≠ 3 ∨ u1.toInt ≤ 399) → Q (some (.int v)) hx9) : jC m_X2_readWhich 5 0 0 [.ref 95, .ref 7] h Q := by
  refine jC.of rfl k_X2_readWhich rfl ?_
  have Sm := jSm_rf fp_X2_readWhich_r95_r7 h
  have ep0 := (show 0 ≤ p0.toInt ∧ p0.toInt ≤ 3 from zp0 ▸ jrg_f J sg_68_5_6_1_0_1)
  have ep1 := (show 0 ≤ p1.toInt ∧ p1.toInt ≤ 400 from zp1 ▸ jrg_f J sg_68_3_4_1_0_1)
  show jX m_X2_readWhich 5 0 0 0 [(0, .ref 95), (1, .ref 7)] [] _ 0 0 _
  refine x_aloadn (x := 95) rfl rfl ?_
  refine z_getR (N := 6) (b := 68) 2 0 rfl f_2_30 rfl J rfl 12160 ⟨rfl, rfl⟩ rfl ?_
  refine x_aloadn (x := 7) rfl rfl ?_
  refine x_inv (N := m_X9_wordOf) (As := [.ref 7]) (b := 68) (st := []) (dx9 := 4) (mc := 0) (ms := 0) (host := "") 9 rfl t_X9_wordOf ⟨Or.inl q_2_67, i_X9_wordOf.1, i_X9_wordOf.2⟩ ⟨by decide, rfl⟩ (congrArg Prod.fst (J.1.1 68 (9, 6) rfl)) rfl (by decide) rfl rfl ⟨by decide, by decide⟩ (sf_X9_wordOf_r68_r7  hD J  (fun v2 h J S1 => ?_))
  have ev2 := jfull v2
  have Sm := jSm_tr rfl Sm S1
  show jX m_X2_readWhich 5 0 0 8 [(0, .ref 95), (1, .ref 7)] [.int v2] _ 0 0 _
  refine x_istoren (lsx9 := [(2, .int v2), (0, .ref 95), (1, .ref 7)]) rfl rfl rfl ?_
  refine x_iloadn (x := v2) rfl rfl ?_
  refine x_iconst (v := (-1)) rfl ki_m1 ?_
  refine x_icne (tgt := 22) rfl rfl (ti_ne rfl jk_m1 ⟨fun c3 => ?_, fun c3 => ?_⟩)
  ·
    refine x_aloadn (x := 95) rfl rfl ?_
    refine x_iconst (v := 1) rfl ki_1 ?_
    refine x_iloadn (x := v2) rfl rfl ?_
    refine x_inv (N := m_X2_note) (As := [.int 1, .int v2]) (b := 95) (st := []) (dx9 := 1) (mc := 0) (ms := 0) (host := "") 2 rfl t_X2_note ⟨Or.inl q_2_82, i_X2_note.1, i_X2_note.2⟩ ⟨by decide, rfl⟩ (congrArg Prod.fst (J.1.1 95 (2, 6) rfl)) rfl (by decide) rfl rfl ⟨by decide, by decide⟩ (sf_X2_note_r95 (jr_of jk_1 (by omega)) hD J  (fun h J S4 => ?_))
    have Sm := jSm_tr rfl Sm S4
    show jX m_X2_readWhich 5 0 0 28 [(2, .int v2), (0, .ref 95), (1, .ref 7)] [] _ 0 0 _
    refine x_aloadn (x := 95) rfl rfl ?_
    refine z_getR (N := 6) (b := 68) 2 0 rfl f_2_30 rfl J rfl 12160 ⟨rfl, rfl⟩ rfl ?_
    refine x_inv (N := m_X9_step) (As := []) (b := 68) (st := []) (dx9 := 2) (mc := 0) (ms := 0) (host := "") 9 rfl t_X9_step ⟨Or.inl q_2_62, i_X9_step.1, i_X9_step.2⟩ ⟨by decide, rfl⟩ (congrArg Prod.fst (J.1.1 68 (9, 6) rfl)) rfl (by decide) rfl rfl ⟨by decide, by decide⟩ (sf_X9_step_r68  hD J (jmc S4 rfl (jmc S1 rfl zp0)) (jmc S4 rfl (jmc S1 rfl zp1)) (by omega)  (fun h J S5 u6 u7 qu6 qu7 ru6 => ?_))
    have Sm := jSm_tr rfl Sm S5
    have eu6 := (show 0 ≤ u6.toInt ∧ u6.toInt ≤ 3 from qu6 ▸ jrg_f J sg_68_5_6_1_0_1)
    have eu7 := (show 0 ≤ u7.toInt ∧ u7.toInt ≤ 400 from qu7 ▸ jrg_f J sg_68_3_4_1_0_1)
    show jX m_X2_readWhich 5 0 0 35 [(2, .int v2), (0, .ref 95), (1, .ref 7)] [] _ 0 0 _
    refine x_iconst (v := 1) rfl ki_1 ?_
    refine x_zret rfl rfl (by decide) ?_
    exact hQ _ _ (jr_of jk_1 (by omega)) J Sm _ _ qu6 qu7 (by omega)
  ·
    refine x_aloadn (x := 95) rfl rfl ?_
    refine z_getR (N := 6) (b := 68) 2 0 rfl f_2_30 rfl J rfl 12160 ⟨rfl, rfl⟩ rfl ?_
    refine x_inv (N := m_X9_blame) (As := []) (b := 68) (st := []) (dx9 := 4) (mc := 0) (ms := 0) (host := "") 9 rfl t_X9_blame ⟨Or.inl q_2_59, i_X9_blame.1, i_X9_blame.2⟩ ⟨by decide, rfl⟩ (congrArg Prod.fst (J.1.1 68 (9, 6) rfl)) rfl (by decide) rfl rfl ⟨by decide, by decide⟩ (jC.of rfl k_X9_blame rfl ?_)
    show jX m_X9_blame 4 0 0 0 [(0, .ref 68)] [] _ 0 0 _
    refine x_aloadn (x := 68) rfl rfl ?_
    refine x_aloadn (x := 68) rfl rfl ?_
    refine z_getM (N := 6) (v := p1) 9 3 rfl f_9_22 rfl J rfl (jmc S1 rfl zp1) ?_
    refine z_putI (N := 6) (w := p1.toInt) 9 2 rfl f_9_19 rfl (jfin_no TX9 RX9 6 rfl rfl) hD J Sm rfl rfl rfl (pw_68_2 (by omega)) rfl (fun h w8 J Sm => ?_)
    refine x_iconst (v := 0) rfl ki_0 ?_
    refine x_zret rfl rfl (by decide) ?_
    show jX m_X2_readWhich 5 0 0 21 [(2, .int v2), (0, .ref 95), (1, .ref 7)] [.int 0] _ 0 0 _
    refine x_zret rfl rfl (by decide) ?_
    exact hQ _ _ (jr_of jk_0 (by omega)) J Sm _ _ (jmo w8 rfl (jmc S1 rfl zp0)) (jmo w8 rfl (jmc S1 rfl zp1)) (by omega)
def fp_X9_wordOf_r68_r8 : jFp := []
set_option maxRecDepth 100000 in
set_option maxHeartbeats 4000000 in
theorem ct_X9_wordOf_r68_r8_110 {Dy : jH → Prop} {h0 : jH} {Q : Option Value → jH → Prop} {R23 : Int} (hD : jDk Dy) (hQ : ∀ (v : Int32) hx9, jJ jSgX Dy hx9 → jSm fp_X9_wordOf_r68_r8 h0 hx9 → Q (some (.int v)) hx9) (k23 : ∀ (l2 : Int32) (l3 : Int32) (l4 : Int32) (l5 : Int32) (g0 : Int32) (h : jH), 16 - l5.toInt < R23 → 0 ≤ l3.toInt ∧ l3.toInt ≤ 416 → 0 ≤ l4.toInt ∧ l4.toInt ≤ 1 → 0 ≤ l5.toInt ∧ l5.toInt ≤ 16 → 0 ≤ g0.toInt ∧ g0.toInt ≤ 400 → l3.toInt - l5.toInt ≤ 400 → jiv h 68 3 = g0 → jJ jSgX Dy h → jSm fp_X9_wordOf_r68_r8 h0 h → jX m_X9_wordOf 4 0 0 23 [(0, .ref 68), (1, .ref 8), (2, .int l2), (3, .int l3), (4, .int l4), (5, .int l5)] [] h 0 0 Q) : ∀ (l2 : Int32) (l3 : Int32) (l4 : Int32) (l5 : Int32) (g0 : Int32) (h : jH), 0 ≤ l3.toInt ∧ l3.toInt ≤ 416 → 0 ≤ l4.toInt ∧ l4.toInt ≤ 1 → 0 ≤ l5.toInt ∧ l5.toInt ≤ 15 → 0 ≤ g0.toInt ∧ g0.toInt ≤ 400 → l3.toInt - l5.toInt ≤ 401 → jiv h 68 3 = g0 → 16 - l5.toInt ≤ R23 → jJ jSgX Dy h → jSm fp_X9_wordOf_r68_r8 h0 h → jX m_X9_wordOf 4 0 0 110 [(0, .ref 68), (1, .ref 8), (2, .int l2), (3, .int l3), (4, .int l4), (5, .int l5)] [] h 0 0 Q := by
  intro l2 l3 l4 l5 g0 h y0 y1 y2 y3 y4 z0 m23 J Sm
  have el2 := jfull l2
  refine z_iinc (x := l5) (lsx9 := fun v1 => [(5, .int v1), (0, .ref 68), (1, .ref 8), (2, .int l2), (3, .int l3), (4, .int l4)]) rfl rfl rfl jko_1 (by omega) rfl (fun _ => rfl) (fun v1 ev1 => ?_)
  refine x_goto (tgt := 23) rfl rfl ?_
  exact jX.sub (jsb_c rfl (jsb_c rfl (jsb_c rfl (jsb_c rfl (jsb_c rfl (jsb_c rfl jsb_n)))))) (k23 l2 l3 l4 v1 g0 h (by omega) (jr_of rfl (by omega)) (jr_of rfl (by omega)) (jr_of rfl (by omega)) (jr_of rfl (by omega)) (by omega) z0 J Sm)
set_option maxRecDepth 100000 in
set_option maxHeartbeats 4000000 in
theorem ct_X9_wordOf_r68_r8_300105 {Dy : jH → Prop} {h0 : jH} {Q : Option Value → jH → Prop} {R23 : Int} (hD : jDk Dy) (hQ : ∀ (v : Int32) hx9, jJ jSgX Dy hx9 → jSm fp_X9_wordOf_r68_r8 h0 hx9 → Q (some (.int v)) hx9) (k23 : ∀ (l2 : Int32) (l3 : Int32) (l4 : Int32) (l5 : Int32) (g0 : Int32) (h : jH), 16 - l5.toInt < R23 → 0 ≤ l3.toInt ∧ l3.toInt ≤ 416 → 0 ≤ l4.toInt ∧ l4.toInt ≤ 1 → 0 ≤ l5.toInt ∧ l5.toInt ≤ 16 → 0 ≤ g0.toInt ∧ g0.toInt ≤ 400 → l3.toInt - l5.toInt ≤ 400 → jiv h 68 3 = g0 → jJ jSgX Dy h → jSm fp_X9_wordOf_r68_r8 h0 h → jX m_X9_wordOf 4 0 0 23 [(0, .ref 68), (1, .ref 8), (2, .int l2), (3, .int l3), (4, .int l4), (5, .int l5)] [] h 0 0 Q) : ∀ (l2 : Int32) (l3 : Int32) (l5 : Int32) (g0 : Int32) (h : jH), 0 ≤ l3.toInt ∧ l3.toInt ≤ 399 → 0 ≤ l5.toInt ∧ l5.toInt ≤ 15 → 0 ≤ g0.toInt ∧ g0.toInt ≤ 400 → l3.toInt - l5.toInt ≤ 400 → jiv h 68 3 = g0 → 16 - l5.toInt ≤ R23 → jJ jSgX Dy h → jSm fp_X9_wordOf_r68_r8 h0 h → jX m_X9_wordOf 4 0 0 105 [(0, .ref 68), (1, .ref 8), (2, .int l2), (3, .int l3), (5, .int l5)] [.int 1] h 0 0 Q := by
  intro l2 l3 l5 g0 h y0 y1 y2 y3 z0 m23 J Sm
  have el2 := jfull l2
  refine x_istore (lsx9 := [(4, .int 1), (0, .ref 68), (1, .ref 8), (2, .int l2), (3, .int l3), (5, .int l5)]) rfl rfl rfl ?_
  refine z_iinc (x := l3) (lsx9 := fun v1 => [(3, .int v1), (4, .int 1), (0, .ref 68), (1, .ref 8), (2, .int l2), (5, .int l5)]) rfl rfl rfl jko_1 (by omega) rfl (fun _ => rfl) (fun v1 ev1 => ?_)
  exact jX.sub (jsb_c rfl (jsb_c rfl (jsb_c rfl (jsb_c rfl (jsb_c rfl (jsb_c rfl jsb_n)))))) (ct_X9_wordOf_r68_r8_110 hD hQ k23 l2 v1 1 l5 g0 h (jr_of rfl (by omega)) (jr_of jk_1 (by omega)) (jr_of rfl (by omega)) (jr_of rfl (by omega)) (by omega) z0 (by omega) J Sm)
set_option maxRecDepth 100000 in
set_option maxHeartbeats 4000000 in
theorem ct_X9_wordOf_r68_r8_200105 {Dy : jH → Prop} {h0 : jH} {Q : Option Value → jH → Prop} {R23 : Int} (hD : jDk Dy) (hQ : ∀ (v : Int32) hx9, jJ jSgX Dy hx9 → jSm fp_X9_wordOf_r68_r8 h0 hx9 → Q (some (.int v)) hx9) (k23 : ∀ (l2 : Int32) (l3 : Int32) (l4 : Int32) (l5 : Int32) (g0 : Int32) (h : jH), 16 - l5.toInt < R23 → 0 ≤ l3.toInt ∧ l3.toInt ≤ 416 → 0 ≤ l4.toInt ∧ l4.toInt ≤ 1 → 0 ≤ l5.toInt ∧ l5.toInt ≤ 16 → 0 ≤ g0.toInt ∧ g0.toInt ≤ 400 → l3.toInt - l5.toInt ≤ 400 → jiv h 68 3 = g0 → jJ jSgX Dy h → jSm fp_X9_wordOf_r68_r8 h0 h → jX m_X9_wordOf 4 0 0 23 [(0, .ref 68), (1, .ref 8), (2, .int l2), (3, .int l3), (4, .int l4), (5, .int l5)] [] h 0 0 Q) : ∀ (l2 : Int32) (l3 : Int32) (l5 : Int32) (g0 : Int32) (h : jH), 0 ≤ l3.toInt ∧ l3.toInt ≤ 415 → 0 ≤ l5.toInt ∧ l5.toInt ≤ 15 → 0 ≤ g0.toInt ∧ g0.toInt ≤ 400 → l3.toInt - l5.toInt ≤ 400 → jiv h 68 3 = g0 → 16 - l5.toInt ≤ R23 → jJ jSgX Dy h → jSm fp_X9_wordOf_r68_r8 h0 h → jX m_X9_wordOf 4 0 0 105 [(0, .ref 68), (1, .ref 8), (2, .int l2), (3, .int l3), (5, .int l5)] [.int 0] h 0 0 Q := by
  intro l2 l3 l5 g0 h y0 y1 y2 y3 z0 m23 J Sm
  have el2 := jfull l2
  refine x_istore (lsx9 := [(4, .int 0), (0, .ref 68), (1, .ref 8), (2, .int l2), (3, .int l3), (5, .int l5)]) rfl rfl rfl ?_
  refine z_iinc (x := l3) (lsx9 := fun v1 => [(3, .int v1), (4, .int 0), (0, .ref 68), (1, .ref 8), (2, .int l2), (5, .int l5)]) rfl rfl rfl jko_1 (by omega) rfl (fun _ => rfl) (fun v1 ev1 => ?_)
  exact jX.sub (jsb_c rfl (jsb_c rfl (jsb_c rfl (jsb_c rfl (jsb_c rfl (jsb_c rfl jsb_n)))))) (ct_X9_wordOf_r68_r8_110 hD hQ k23 l2 v1 0 l5 g0 h (jr_of rfl (by omega)) (jr_of jk_0 (by omega)) (jr_of rfl (by omega)) (jr_of rfl (by omega)) (by omega) z0 (by omega) J Sm)
set_option maxRecDepth 100000 in
set_option maxHeartbeats 4000000 in
theorem ct_X9_wordOf_r68_r8_104 {Dy : jH → Prop} {h0 : jH} {Q : Option Value → jH → Prop} {R23 : Int} (hD : jDk Dy) (hQ : ∀ (v : Int32) hx9, jJ jSgX Dy hx9 → jSm fp_X9_wordOf_r68_r8 h0 hx9 → Q (some (.int v)) hx9) (k23 : ∀ (l2 : Int32) (l3 : Int32) (l4 : Int32) (l5 : Int32) (g0 : Int32) (h : jH), 16 - l5.toInt < R23 → 0 ≤ l3.toInt ∧ l3.toInt ≤ 416 → 0 ≤ l4.toInt ∧ l4.toInt ≤ 1 → 0 ≤ l5.toInt ∧ l5.toInt ≤ 16 → 0 ≤ g0.toInt ∧ g0.toInt ≤ 400 → l3.toInt - l5.toInt ≤ 400 → jiv h 68 3 = g0 → jJ jSgX Dy h → jSm fp_X9_wordOf_r68_r8 h0 h → jX m_X9_wordOf 4 0 0 23 [(0, .ref 68), (1, .ref 8), (2, .int l2), (3, .int l3), (4, .int l4), (5, .int l5)] [] h 0 0 Q) : ∀ (l2 : Int32) (l3 : Int32) (l5 : Int32) (g0 : Int32) (h : jH), 0 ≤ l3.toInt ∧ l3.toInt ≤ 415 → 0 ≤ l5.toInt ∧ l5.toInt ≤ 15 → 0 ≤ g0.toInt ∧ g0.toInt ≤ 400 → l3.toInt - l5.toInt ≤ 400 → jiv h 68 3 = g0 → 16 - l5.toInt ≤ R23 → jJ jSgX Dy h → jSm fp_X9_wordOf_r68_r8 h0 h → jX m_X9_wordOf 4 0 0 104 [(0, .ref 68), (1, .ref 8), (2, .int l2), (3, .int l3), (5, .int l5)] [] h 0 0 Q := by
  intro l2 l3 l5 g0 h y0 y1 y2 y3 z0 m23 J Sm
  have el2 := jfull l2
  refine x_iconst (v := 0) rfl ki_0 ?_
  exact jX.sub (jsb_c rfl (jsb_c rfl (jsb_c rfl (jsb_c rfl (jsb_c rfl jsb_n))))) (ct_X9_wordOf_r68_r8_200105 hD hQ k23 l2 l3 l5 g0 h (jr_of rfl (by omega)) (jr_of rfl (by omega)) (jr_of rfl (by omega)) (by omega) z0 (by omega) J Sm)
set_option maxRecDepth 100000 in
set_option maxHeartbeats 4000000 in
theorem ct_X9_wordOf_r68_r8_62 {Dy : jH → Prop} {h0 : jH} {Q : Option Value → jH → Prop} {R23 : Int} (hD : jDk Dy) (hQ : ∀ (v : Int32) hx9, jJ jSgX Dy hx9 → jSm fp_X9_wordOf_r68_r8 h0 hx9 → Q (some (.int v)) hx9) (k23 : ∀ (l2 : Int32) (l3 : Int32) (l4 : Int32) (l5 : Int32) (g0 : Int32) (h : jH), 16 - l5.toInt < R23 → 0 ≤ l3.toInt ∧ l3.toInt ≤ 416 → 0 ≤ l4.toInt ∧ l4.toInt ≤ 1 → 0 ≤ l5.toInt ∧ l5.toInt ≤ 16 → 0 ≤ g0.toInt ∧ g0.toInt ≤ 400 → l3.toInt - l5.toInt ≤ 400 → jiv h 68 3 = g0 → jJ jSgX Dy h → jSm fp_X9_wordOf_r68_r8 h0 h → jX m_X9_wordOf 4 0 0 23 [(0, .ref 68), (1, .ref 8), (2, .int l2), (3, .int l3), (4, .int l4), (5, .int l5)] [] h 0 0 Q) : ∀ (l2 : Int32) (l5 : Int32) (g0 : Int32) (h : jH), 0 ≤ l5.toInt ∧ l5.toInt ≤ 15 → 0 ≤ g0.toInt ∧ g0.toInt ≤ 400 → jiv h 68 3 = g0 → 16 - l5.toInt ≤ R23 → jJ jSgX Dy h → jSm fp_X9_wordOf_r68_r8 h0 h → jX m_X9_wordOf 4 0 0 62 [(0, .ref 68), (1, .ref 8), (2, .int l2), (5, .int l5)] [] h 0 0 Q := by
  intro l2 l5 g0 h y0 y1 z0 m23 J Sm
  have el2 := jfull l2
  refine z_iinc0 (x := l2) (lsx9 := fun v1 => [(2, .int v1), (0, .ref 68), (1, .ref 8), (5, .int l5)]) rfl rfl rfl (fun _ => rfl) (fun v1 => ?_)
  have ev1 := jfull v1
  refine x_aloadn (x := 68) rfl rfl ?_
  refine z_getM (N := 6) (v := g0) 9 3 rfl f_9_22 rfl J rfl z0 ?_
  refine x_istoren (lsx9 := [(3, .int g0), (2, .int v1), (0, .ref 68), (1, .ref 8), (5, .int l5)]) rfl rfl rfl ?_
  refine x_iconst (v := 1) rfl ki_1 ?_
  refine x_istore (lsx9 := [(4, .int 1), (3, .int g0), (2, .int v1), (0, .ref 68), (1, .ref 8), (5, .int l5)]) rfl rfl rfl ?_
  refine x_goto (tgt := 110) rfl rfl ?_
  exact jX.sub (jsb_c rfl (jsb_c rfl (jsb_c rfl (jsb_c rfl (jsb_c rfl (jsb_c rfl jsb_n)))))) (ct_X9_wordOf_r68_r8_110 hD hQ k23 v1 g0 1 l5 g0 h (jr_of rfl (by omega)) (jr_of jk_1 (by omega)) (jr_of rfl (by omega)) (jr_of rfl (by omega)) (by omega) z0 (by omega) J Sm)
set_option maxRecDepth 100000 in
set_option maxHeartbeats 4000000 in
theorem ct_X9_wordOf_r68_r8_23 {Dy : jH → Prop} {h0 : jH} {Q : Option Value → jH → Prop} (hD : jDk Dy) (hQ : ∀ (v : Int32) hx9, jJ jSgX Dy hx9 → jSm fp_X9_wordOf_r68_r8 h0 hx9 → Q (some (.int v)) hx9) : ∀ r : Nat, ∀ (l2 : Int32) (l3 : Int32) (l4 : Int32) (l5 : Int32) (g0 : Int32) (h : jH), 16 - l5.toInt < (r : Int) → 0 ≤ l3.toInt ∧ l3.toInt ≤ 416 → 0 ≤ l4.toInt ∧ l4.toInt ≤ 1 → 0 ≤ l5.toInt ∧ l5.toInt ≤ 16 → 0 ≤ g0.toInt ∧ g0.toInt ≤ 400 → l3.toInt - l5.toInt ≤ 400 → jiv h 68 3 = g0 → jJ jSgX Dy h → jSm fp_X9_wordOf_r68_r8 h0 h → jX m_X9_wordOf 4 0 0 23 [(0, .ref 68), (1, .ref 8), (2, .int l2), (3, .int l3), (4, .int l4), (5, .int l5)] [] h 0 0 Q := by
  intro r
  induction r with
  | zero =>
    intro l2 l3 l4 l5 g0 h hm y0 y1 y2 y3 y4 z0  J Sm
    exfalso
    have el2 := jfull l2
    omega
  | succ r ih =>
    intro l2 l3 l4 l5 g0 h hm y0 y1 y2 y3 y4 z0  J Sm
    have el2 := jfull l2
    refine x_iload (x := l5) rfl rfl ?_
    refine x_aloadn (x := 8) rfl rfl ?_
    refine x_invS (N := m_J0_length_8abf5) (i := 3) (As := []) (st := [.int l5]) (dx9 := 1) (by decide) rfl t_J0_length_8abf5 ⟨q_9_38, i_J0_length_8abf5.1, i_J0_length_8abf5.2⟩ rfl rfl (by decide) rfl rfl (zc_slen (N := 16) (v := 16) rfl J rfl rfl (by decide) ?_)
    show jX m_X9_wordOf 4 0 0 29 [(0, .ref 68), (1, .ref 8), (2, .int l2), (3, .int l3), (4, .int l4), (5, .int l5)] [.int 16, .int l5] _ 0 0 _
    refine x_icge (tgt := 116) rfl rfl (ti_ge rfl jk_16 ⟨fun c1 => ?_, fun c1 => ?_⟩)
    ·
      refine x_iconst (v := (-1)) rfl ki_m1 ?_
      refine x_iret rfl rfl ?_
      exact hQ _ _ J Sm
    ·
      refine x_aloadn (x := 8) rfl rfl ?_
      refine x_iload (x := l5) rfl rfl ?_
      refine x_invS (N := m_J0_charAt_5068e) (i := 3) (As := [.int l5]) (st := []) (dx9 := 3) (by decide) rfl t_J0_charAt_5068e ⟨q_9_43, i_J0_charAt_5068e.1, i_J0_charAt_5068e.2⟩ rfl rfl (by decide) rfl rfl (zc_schar (N := 16) rfl J rfl rfl rfl (by omega) (fun v2 ev2 => ?_))
      show jX m_X9_wordOf 4 0 0 38 [(0, .ref 68), (1, .ref 8), (2, .int l2), (3, .int l3), (4, .int l4), (5, .int l5)] [.int v2] _ 0 0 _
      refine x_istore (lsx9 := [(6, .int v2), (0, .ref 68), (1, .ref 8), (2, .int l2), (3, .int l3), (4, .int l4), (5, .int l5)]) rfl rfl rfl ?_
      refine x_iload (x := v2) rfl rfl ?_
      refine x_bipush (v := 32) rfl kb_32 ?_
      refine x_icne (tgt := 76) rfl rfl (ti_ne rfl jk_32 ⟨fun c3 => ?_, fun c3 => ?_⟩)
      ·
        refine x_iload (x := l4) rfl rfl ?_
        refine x_ifeq (tgt := 104) rfl rfl (ti_eq rfl jk_0 ⟨fun c4 => ?_, fun c4 => ?_⟩)
        ·
          exact jX.sub (jsb_c rfl (jsb_c rfl (jsb_c rfl (jsb_c rfl (jsb_c rfl jsb_n))))) (ct_X9_wordOf_r68_r8_104 hD hQ ih l2 l3 l5 g0 h (jr_of rfl (by omega)) (jr_of rfl (by omega)) (jr_of rfl (by omega)) (by omega) z0 (by omega) J Sm)
        ·
          refine x_iloadn (x := l3) rfl rfl ?_
          refine x_aloadn (x := 68) rfl rfl ?_
          refine z_getI (N := 6) 9 4 rfl f_9_25 rfl J rfl sg_68_4_5_1_0_1 (fun v5 qv5 ev5 => ?_)
          refine x_icge (tgt := 104) rfl rfl (ti_ge rfl rfl ⟨fun c6 => ?_, fun c6 => ?_⟩)
          ·
            exact jX.sub (jsb_c rfl (jsb_c rfl (jsb_c rfl (jsb_c rfl (jsb_c rfl jsb_n))))) (ct_X9_wordOf_r68_r8_104 hD hQ ih l2 l3 l5 g0 h (jr_of rfl (by omega)) (jr_of rfl (by omega)) (jr_of rfl (by omega)) (by omega) z0 (by omega) J Sm)
          ·
            refine x_aloadn (x := 68) rfl rfl ?_
            refine z_getR (N := 6) (b := 69) 9 0 rfl f_9_11 rfl J rfl 8704 ⟨rfl, rfl⟩ rfl ?_
            refine x_iloadn (x := l3) rfl rfl ?_
            refine z_iald (N := 400) rfl J rfl sg_69_0_400_1_0_1 rfl (by omega) (fun v7 qv7 ev7 => ?_)
            refine x_iload (x := v2) rfl rfl ?_
            refine x_icne (tgt := 104) rfl rfl (ti_ne rfl rfl ⟨fun c8 => ?_, fun c8 => ?_⟩)
            ·
              exact jX.sub (jsb_c rfl (jsb_c rfl (jsb_c rfl (jsb_c rfl (jsb_c rfl jsb_n))))) (ct_X9_wordOf_r68_r8_104 hD hQ ih l2 l3 l5 g0 h (jr_of rfl (by omega)) (jr_of rfl (by omega)) (jr_of rfl (by omega)) (by omega) z0 (by omega) J Sm)
            ·
              refine x_iconst (v := 1) rfl ki_1 ?_
              refine x_goto (tgt := 105) rfl rfl ?_
              exact jX.sub (jsb_c rfl (jsb_c rfl (jsb_c rfl (jsb_c rfl (jsb_c rfl jsb_n))))) (ct_X9_wordOf_r68_r8_300105 hD hQ ih l2 l3 l5 g0 h (jr_of rfl (by omega)) (jr_of rfl (by omega)) (jr_of rfl (by omega)) (by omega) z0 (by omega) J Sm)
      ·
        refine x_iload (x := l4) rfl rfl ?_
        refine x_ifeq (tgt := 62) rfl rfl (ti_eq rfl jk_0 ⟨fun c9 => ?_, fun c9 => ?_⟩)
        ·
          exact jX.sub (jsb_c rfl (jsb_c rfl (jsb_c rfl (jsb_c rfl jsb_n)))) (ct_X9_wordOf_r68_r8_62 hD hQ ih l2 l5 g0 h (jr_of rfl (by omega)) (jr_of rfl (by omega)) z0 (by omega) J Sm)
        ·
          refine x_iloadn (x := l3) rfl rfl ?_
          refine x_aloadn (x := 68) rfl rfl ?_
          refine z_getI (N := 6) 9 4 rfl f_9_25 rfl J rfl sg_68_4_5_1_0_1 (fun v10 qv10 ev10 => ?_)
          refine x_icne (tgt := 62) rfl rfl (ti_ne rfl rfl ⟨fun c11 => ?_, fun c11 => ?_⟩)
          ·
            exact jX.sub (jsb_c rfl (jsb_c rfl (jsb_c rfl (jsb_c rfl jsb_n)))) (ct_X9_wordOf_r68_r8_62 hD hQ ih l2 l5 g0 h (jr_of rfl (by omega)) (jr_of rfl (by omega)) z0 (by omega) J Sm)
          ·
            refine x_iloadn (x := l2) rfl rfl ?_
            refine x_iret rfl rfl ?_
            exact hQ _ _ J Sm
set_option maxRecDepth 100000 in
set_option maxHeartbeats 4000000 in
theorem sf_X9_wordOf_r68_r8 {Dy : jH → Prop} {h : jH} {Q : Option Value → jH → Prop} (hD : jDk Dy) (J : jJ jSgX Dy h) (hQ : ∀ (v : Int32) hx9, jJ jSgX Dy hx9 → jSm fp_X9_wordOf_r68_r8 h hx9 → Q (some (.int v)) hx9) : jC m_X9_wordOf 4 0 0 [.ref 68, .ref 8] h Q := by
  refine jC.of rfl k_X9_wordOf rfl ?_
  have Sm := jSm_rf fp_X9_wordOf_r68_r8 h
  show jX m_X9_wordOf 4 0 0 0 [(0, .ref 68), (1, .ref 8)] [] _ 0 0 _
  refine x_aloadn (x := 68) rfl rfl ?_
  refine z_getI (N := 6) 9 5 rfl f_9_28 rfl J rfl sg_68_5_6_1_0_1 (fun v1 qv1 ev1 => ?_)
  refine x_iconst (v := 1) rfl ki_1 ?_
  refine x_iceq (tgt := 10) rfl rfl (ti_eq rfl jk_1 ⟨fun c2 => ?_, fun c2 => ?_⟩)
  ·
    refine x_iconst (v := 0) rfl ki_0 ?_
    refine x_istoren (lsx9 := [(2, .int 0), (0, .ref 68), (1, .ref 8)]) rfl rfl rfl ?_
    refine x_aloadn (x := 68) rfl rfl ?_
    refine z_getI (N := 6) 9 3 rfl f_9_22 rfl J rfl sg_68_3_4_1_0_1 (fun v3 qv3 ev3 => ?_)
    refine x_istoren (lsx9 := [(3, .int v3), (2, .int 0), (0, .ref 68), (1, .ref 8)]) rfl rfl rfl ?_
    refine x_iconst (v := 1) rfl ki_1 ?_
    refine x_istore (lsx9 := [(4, .int 1), (3, .int v3), (2, .int 0), (0, .ref 68), (1, .ref 8)]) rfl rfl rfl ?_
    refine x_iconst (v := 0) rfl ki_0 ?_
    refine x_istore (lsx9 := [(5, .int 0), (4, .int 1), (3, .int v3), (2, .int 0), (0, .ref 68), (1, .ref 8)]) rfl rfl rfl ?_
    exact jX.sub (jsb_c rfl (jsb_c rfl (jsb_c rfl (jsb_c rfl (jsb_c rfl (jsb_c rfl jsb_n)))))) (ct_X9_wordOf_r68_r8_23 hD hQ  17 0 v3 1 0 v3 h (by have := jk_0; omega) (jr_of rfl (by omega)) (jr_of jk_1 (by omega)) (jr_of jk_0 (by omega)) (jr_of rfl (by omega)) (by have := jk_0; omega) qv3 J Sm)
  ·
    refine x_iconst (v := (-1)) rfl ki_m1 ?_
    refine x_iret rfl rfl ?_
    exact hQ _ _ J Sm
def fp_X2_readWhich_r95_r8 : jFp := [(68, 2, 3), (68, 3, 4), (68, 4, 5), (68, 5, 6), (96, 0, 72)]
set_option maxRecDepth 100000 in
set_option maxHeartbeats 4000000 in
theorem sf_X2_readWhich_r95_r8 {Dy : jH → Prop} {h : jH} {Q : Option Value → jH → Prop} (hD : jDk Dy) (J : jJ jSgX Dy h) {p0 p1 : Int32} (zp0 : jiv h 68 5 = p0) (zp1 : jiv h 68 3 = p1) (rl_p0 : (p0.toInt ≠ 3 ∨ p1.toInt ≤ 399)) (hQ : ∀ (v : Int32) hx9, 0 ≤ v.toInt ∧ v.toInt ≤ 1 → jJ jSgX Dy hx9 → jSm fp_X2_readWhich_r95_r8 h hx9 → ∀ u0 u1 : Int32, jiv hx9 68 5 = u0 → jiv hx9 68 3 = u1 → (u0.toInt ≠ 3 ∨ u1.toInt ≤ 399) → Q (some (.int v)) hx9) : jC m_X2_readWhich 5 0 0 [.ref 95, .ref 8] h Q := by
  refine jC.of rfl k_X2_readWhich rfl ?_
  have Sm := jSm_rf fp_X2_readWhich_r95_r8 h
  have ep0 := (show 0 ≤ p0.toInt ∧ p0.toInt ≤ 3 from zp0 ▸ jrg_f J sg_68_5_6_1_0_1)
  have ep1 := (show 0 ≤ p1.toInt ∧ p1.toInt ≤ 400 from zp1 ▸ jrg_f J sg_68_3_4_1_0_1)
  show jX m_X2_readWhich 5 0 0 0 [(0, .ref 95), (1, .ref 8)] [] _ 0 0 _
  refine x_aloadn (x := 95) rfl rfl ?_
  refine z_getR (N := 6) (b := 68) 2 0 rfl f_2_30 rfl J rfl 12160 ⟨rfl, rfl⟩ rfl ?_
  refine x_aloadn (x := 8) rfl rfl ?_
  refine x_inv (N := m_X9_wordOf) (As := [.ref 8]) (b := 68) (st := []) (dx9 := 4) (mc := 0) (ms := 0) (host := "") 9 rfl t_X9_wordOf ⟨Or.inl q_2_67, i_X9_wordOf.1, i_X9_wordOf.2⟩ ⟨by decide, rfl⟩ (congrArg Prod.fst (J.1.1 68 (9, 6) rfl)) rfl (by decide) rfl rfl ⟨by decide, by decide⟩ (sf_X9_wordOf_r68_r8  hD J  (fun v2 h J S1 => ?_))
  have ev2 := jfull v2
  have Sm := jSm_tr rfl Sm S1
  show jX m_X2_readWhich 5 0 0 8 [(0, .ref 95), (1, .ref 8)] [.int v2] _ 0 0 _
  refine x_istoren (lsx9 := [(2, .int v2), (0, .ref 95), (1, .ref 8)]) rfl rfl rfl ?_
  refine x_iloadn (x := v2) rfl rfl ?_
  refine x_iconst (v := (-1)) rfl ki_m1 ?_
  refine x_icne (tgt := 22) rfl rfl (ti_ne rfl jk_m1 ⟨fun c3 => ?_, fun c3 => ?_⟩)
  ·
    refine x_aloadn (x := 95) rfl rfl ?_
    refine x_iconst (v := 1) rfl ki_1 ?_
    refine x_iloadn (x := v2) rfl rfl ?_
    refine x_inv (N := m_X2_note) (As := [.int 1, .int v2]) (b := 95) (st := []) (dx9 := 1) (mc := 0) (ms := 0) (host := "") 2 rfl t_X2_note ⟨Or.inl q_2_82, i_X2_note.1, i_X2_note.2⟩ ⟨by decide, rfl⟩ (congrArg Prod.fst (J.1.1 95 (2, 6) rfl)) rfl (by decide) rfl rfl ⟨by decide, by decide⟩ (sf_X2_note_r95 (jr_of jk_1 (by omega)) hD J  (fun h J S4 => ?_))
    have Sm := jSm_tr rfl Sm S4
    show jX m_X2_readWhich 5 0 0 28 [(2, .int v2), (0, .ref 95), (1, .ref 8)] [] _ 0 0 _
    refine x_aloadn (x := 95) rfl rfl ?_
    refine z_getR (N := 6) (b := 68) 2 0 rfl f_2_30 rfl J rfl 12160 ⟨rfl, rfl⟩ rfl ?_
    refine x_inv (N := m_X9_step) (As := []) (b := 68) (st := []) (dx9 := 2) (mc := 0) (ms := 0) (host := "") 9 rfl t_X9_step ⟨Or.inl q_2_62, i_X9_step.1, i_X9_step.2⟩ ⟨by decide, rfl⟩ (congrArg Prod.fst (J.1.1 68 (9, 6) rfl)) rfl (by decide) rfl rfl ⟨by decide, by decide⟩ (sf_X9_step_r68  hD J (jmc S4 rfl (jmc S1 rfl zp0)) (jmc S4 rfl (jmc S1 rfl zp1)) (by omega)  (fun h J S5 u6 u7 qu6 qu7 ru6 => ?_))
    have Sm := jSm_tr rfl Sm S5
    have eu6 := (show 0 ≤ u6.toInt ∧ u6.toInt ≤ 3 from qu6 ▸ jrg_f J sg_68_5_6_1_0_1)
    have eu7 := (show 0 ≤ u7.toInt ∧ u7.toInt ≤ 400 from qu7 ▸ jrg_f J sg_68_3_4_1_0_1)
    show jX m_X2_readWhich 5 0 0 35 [(2, .int v2), (0, .ref 95), (1, .ref 8)] [] _ 0 0 _
    refine x_iconst (v := 1) rfl ki_1 ?_
    refine x_zret rfl rfl (by decide) ?_
    exact hQ _ _ (jr_of jk_1 (by omega)) J Sm _ _ qu6 qu7 (by omega)
  ·
    refine x_aloadn (x := 95) rfl rfl ?_
    refine z_getR (N := 6) (b := 68) 2 0 rfl f_2_30 rfl J rfl 12160 ⟨rfl, rfl⟩ rfl ?_
    refine x_inv (N := m_X9_blame) (As := []) (b := 68) (st := []) (dx9 := 4) (mc := 0) (ms := 0) (host := "") 9 rfl t_X9_blame ⟨Or.inl q_2_59, i_X9_blame.1, i_X9_blame.2⟩ ⟨by decide, rfl⟩ (congrArg Prod.fst (J.1.1 68 (9, 6) rfl)) rfl (by decide) rfl rfl ⟨by decide, by decide⟩ (jC.of rfl k_X9_blame rfl ?_)
    show jX m_X9_blame 4 0 0 0 [(0, .ref 68)] [] _ 0 0 _
    refine x_aloadn (x := 68) rfl rfl ?_
    refine x_aloadn (x := 68) rfl rfl ?_
    refine z_getM (N := 6) (v := p1) 9 3 rfl f_9_22 rfl J rfl (jmc S1 rfl zp1) ?_
    refine z_putI (N := 6) (w := p1.toInt) 9 2 rfl f_9_19 rfl (jfin_no TX9 RX9 6 rfl rfl) hD J Sm rfl rfl rfl (pw_68_2 (by omega)) rfl (fun h w8 J Sm => ?_)
    refine x_iconst (v := 0) rfl ki_0 ?_
    refine x_zret rfl rfl (by decide) ?_
    show jX m_X2_readWhich 5 0 0 21 [(2, .int v2), (0, .ref 95), (1, .ref 8)] [.int 0] _ 0 0 _
    refine x_zret rfl rfl (by decide) ?_
    exact hQ _ _ (jr_of jk_0 (by omega)) J Sm _ _ (jmo w8 rfl (jmc S1 rfl zp0)) (jmo w8 rfl (jmc S1 rfl zp1)) (by omega)
def fp_X9_wordOf_r68_r9 : jFp := []
set_option maxRecDepth 100000 in
set_option maxHeartbeats 4000000 in
theorem ct_X9_wordOf_r68_r9_110 {Dy : jH → Prop} {h0 : jH} {Q : Option Value → jH → Prop} {R23 : Int} (hD : jDk Dy) (hQ : ∀ (v : Int32) hx9, jJ jSgX Dy hx9 → jSm fp_X9_wordOf_r68_r9 h0 hx9 → Q (some (.int v)) hx9) (k23 : ∀ (l2 : Int32) (l3 : Int32) (l4 : Int32) (l5 : Int32) (g0 : Int32) (h : jH), 35 - l5.toInt < R23 → 0 ≤ l3.toInt ∧ l3.toInt ≤ 435 → 0 ≤ l4.toInt ∧ l4.toInt ≤ 1 → 0 ≤ l5.toInt ∧ l5.toInt ≤ 35 → 0 ≤ g0.toInt ∧ g0.toInt ≤ 400 → l3.toInt - l5.toInt ≤ 400 → jiv h 68 3 = g0 → jJ jSgX Dy h → jSm fp_X9_wordOf_r68_r9 h0 h → jX m_X9_wordOf 4 0 0 23 [(0, .ref 68), (1, .ref 9), (2, .int l2), (3, .int l3), (4, .int l4), (5, .int l5)] [] h 0 0 Q) : ∀ (l2 : Int32) (l3 : Int32) (l4 : Int32) (l5 : Int32) (g0 : Int32) (h : jH), 0 ≤ l3.toInt ∧ l3.toInt ≤ 435 → 0 ≤ l4.toInt ∧ l4.toInt ≤ 1 → 0 ≤ l5.toInt ∧ l5.toInt ≤ 34 → 0 ≤ g0.toInt ∧ g0.toInt ≤ 400 → l3.toInt - l5.toInt ≤ 401 → jiv h 68 3 = g0 → 35 - l5.toInt ≤ R23 → jJ jSgX Dy h → jSm fp_X9_wordOf_r68_r9 h0 h → jX m_X9_wordOf 4 0 0 110 [(0, .ref 68), (1, .ref 9), (2, .int l2), (3, .int l3), (4, .int l4), (5, .int l5)] [] h 0 0 Q := by
  intro l2 l3 l4 l5 g0 h y0 y1 y2 y3 y4 z0 m23 J Sm
  have el2 := jfull l2
  refine z_iinc (x := l5) (lsx9 := fun v1 => [(5, .int v1), (0, .ref 68), (1, .ref 9), (2, .int l2), (3, .int l3), (4, .int l4)]) rfl rfl rfl jko_1 (by omega) rfl (fun _ => rfl) (fun v1 ev1 => ?_)
  refine x_goto (tgt := 23) rfl rfl ?_
  exact jX.sub (jsb_c rfl (jsb_c rfl (jsb_c rfl (jsb_c rfl (jsb_c rfl (jsb_c rfl jsb_n)))))) (k23 l2 l3 l4 v1 g0 h (by omega) (jr_of rfl (by omega)) (jr_of rfl (by omega)) (jr_of rfl (by omega)) (jr_of rfl (by omega)) (by omega) z0 J Sm)
set_option maxRecDepth 100000 in
set_option maxHeartbeats 4000000 in
theorem ct_X9_wordOf_r68_r9_300105 {Dy : jH → Prop} {h0 : jH} {Q : Option Value → jH → Prop} {R23 : Int} (hD : jDk Dy) (hQ : ∀ (v : Int32) hx9, jJ jSgX Dy hx9 → jSm fp_X9_wordOf_r68_r9 h0 hx9 → Q (some (.int v)) hx9) (k23 : ∀ (l2 : Int32) (l3 : Int32) (l4 : Int32) (l5 : Int32) (g0 : Int32) (h : jH), 35 - l5.toInt < R23 → 0 ≤ l3.toInt ∧ l3.toInt ≤ 435 → 0 ≤ l4.toInt ∧ l4.toInt ≤ 1 → 0 ≤ l5.toInt ∧ l5.toInt ≤ 35 → 0 ≤ g0.toInt ∧ g0.toInt ≤ 400 → l3.toInt - l5.toInt ≤ 400 → jiv h 68 3 = g0 → jJ jSgX Dy h → jSm fp_X9_wordOf_r68_r9 h0 h → jX m_X9_wordOf 4 0 0 23 [(0, .ref 68), (1, .ref 9), (2, .int l2), (3, .int l3), (4, .int l4), (5, .int l5)] [] h 0 0 Q) : ∀ (l2 : Int32) (l3 : Int32) (l5 : Int32) (g0 : Int32) (h : jH), 0 ≤ l3.toInt ∧ l3.toInt ≤ 399 → 0 ≤ l5.toInt ∧ l5.toInt ≤ 34 → 0 ≤ g0.toInt ∧ g0.toInt ≤ 400 → l3.toInt - l5.toInt ≤ 400 → jiv h 68 3 = g0 → 35 - l5.toInt ≤ R23 → jJ jSgX Dy h → jSm fp_X9_wordOf_r68_r9 h0 h → jX m_X9_wordOf 4 0 0 105 [(0, .ref 68), (1, .ref 9), (2, .int l2), (3, .int l3), (5, .int l5)] [.int 1] h 0 0 Q := by
  intro l2 l3 l5 g0 h y0 y1 y2 y3 z0 m23 J Sm
  have el2 := jfull l2
  refine x_istore (lsx9 := [(4, .int 1), (0, .ref 68), (1, .ref 9), (2, .int l2), (3, .int l3), (5, .int l5)]) rfl rfl rfl ?_
  refine z_iinc (x := l3) (lsx9 := fun v1 => [(3, .int v1), (4, .int 1), (0, .ref 68), (1, .ref 9), (2, .int l2), (5, .int l5)]) rfl rfl rfl jko_1 (by omega) rfl (fun _ => rfl) (fun v1 ev1 => ?_)
  exact jX.sub (jsb_c rfl (jsb_c rfl (jsb_c rfl (jsb_c rfl (jsb_c rfl (jsb_c rfl jsb_n)))))) (ct_X9_wordOf_r68_r9_110 hD hQ k23 l2 v1 1 l5 g0 h (jr_of rfl (by omega)) (jr_of jk_1 (by omega)) (jr_of rfl (by omega)) (jr_of rfl (by omega)) (by omega) z0 (by omega) J Sm)
set_option maxRecDepth 100000 in
set_option maxHeartbeats 4000000 in
theorem ct_X9_wordOf_r68_r9_200105 {Dy : jH → Prop} {h0 : jH} {Q : Option Value → jH → Prop} {R23 : Int} (hD : jDk Dy) (hQ : ∀ (v : Int32) hx9, jJ jSgX Dy hx9 → jSm fp_X9_wordOf_r68_r9 h0 hx9 → Q (some (.int v)) hx9) (k23 : ∀ (l2 : Int32) (l3 : Int32) (l4 : Int32) (l5 : Int32) (g0 : Int32) (h : jH), 35 - l5.toInt < R23 → 0 ≤ l3.toInt ∧ l3.toInt ≤ 435 → 0 ≤ l4.toInt ∧ l4.toInt ≤ 1 → 0 ≤ l5.toInt ∧ l5.toInt ≤ 35 → 0 ≤ g0.toInt ∧ g0.toInt ≤ 400 → l3.toInt - l5.toInt ≤ 400 → jiv h 68 3 = g0 → jJ jSgX Dy h → jSm fp_X9_wordOf_r68_r9 h0 h → jX m_X9_wordOf 4 0 0 23 [(0, .ref 68), (1, .ref 9), (2, .int l2), (3, .int l3), (4, .int l4), (5, .int l5)] [] h 0 0 Q) : ∀ (l2 : Int32) (l3 : Int32) (l5 : Int32) (g0 : Int32) (h : jH), 0 ≤ l3.toInt ∧ l3.toInt ≤ 434 → 0 ≤ l5.toInt ∧ l5.toInt ≤ 34 → 0 ≤ g0.toInt ∧ g0.toInt ≤ 400 → l3.toInt - l5.toInt ≤ 400 → jiv h 68 3 = g0 → 35 - l5.toInt ≤ R23 → jJ jSgX Dy h → jSm fp_X9_wordOf_r68_r9 h0 h → jX m_X9_wordOf 4 0 0 105 [(0, .ref 68), (1, .ref 9), (2, .int l2), (3, .int l3), (5, .int l5)] [.int 0] h 0 0 Q := by
  intro l2 l3 l5 g0 h y0 y1 y2 y3 z0 m23 J Sm
  have el2 := jfull l2
  refine x_istore (lsx9 := [(4, .int 0), (0, .ref 68), (1, .ref 9), (2, .int l2), (3, .int l3), (5, .int l5)]) rfl rfl rfl ?_
  refine z_iinc (x := l3) (lsx9 := fun v1 => [(3, .int v1), (4, .int 0), (0, .ref 68), (1, .ref 9), (2, .int l2), (5, .int l5)]) rfl rfl rfl jko_1 (by omega) rfl (fun _ => rfl) (fun v1 ev1 => ?_)
  exact jX.sub (jsb_c rfl (jsb_c rfl (jsb_c rfl (jsb_c rfl (jsb_c rfl (jsb_c rfl jsb_n)))))) (ct_X9_wordOf_r68_r9_110 hD hQ k23 l2 v1 0 l5 g0 h (jr_of rfl (by omega)) (jr_of jk_0 (by omega)) (jr_of rfl (by omega)) (jr_of rfl (by omega)) (by omega) z0 (by omega) J Sm)
set_option maxRecDepth 100000 in
set_option maxHeartbeats 4000000 in
theorem ct_X9_wordOf_r68_r9_104 {Dy : jH → Prop} {h0 : jH} {Q : Option Value → jH → Prop} {R23 : Int} (hD : jDk Dy) (hQ : ∀ (v : Int32) hx9, jJ jSgX Dy hx9 → jSm fp_X9_wordOf_r68_r9 h0 hx9 → Q (some (.int v)) hx9) (k23 : ∀ (l2 : Int32) (l3 : Int32) (l4 : Int32) (l5 : Int32) (g0 : Int32) (h : jH), 35 - l5.toInt < R23 → 0 ≤ l3.toInt ∧ l3.toInt ≤ 435 → 0 ≤ l4.toInt ∧ l4.toInt ≤ 1 → 0 ≤ l5.toInt ∧ l5.toInt ≤ 35 → 0 ≤ g0.toInt ∧ g0.toInt ≤ 400 → l3.toInt - l5.toInt ≤ 400 → jiv h 68 3 = g0 → jJ jSgX Dy h → jSm fp_X9_wordOf_r68_r9 h0 h → jX m_X9_wordOf 4 0 0 23 [(0, .ref 68), (1, .ref 9), (2, .int l2), (3, .int l3), (4, .int l4), (5, .int l5)] [] h 0 0 Q) : ∀ (l2 : Int32) (l3 : Int32) (l5 : Int32) (g0 : Int32) (h : jH), 0 ≤ l3.toInt ∧ l3.toInt ≤ 434 → 0 ≤ l5.toInt ∧ l5.toInt ≤ 34 → 0 ≤ g0.toInt ∧ g0.toInt ≤ 400 → l3.toInt - l5.toInt ≤ 400 → jiv h 68 3 = g0 → 35 - l5.toInt ≤ R23 → jJ jSgX Dy h → jSm fp_X9_wordOf_r68_r9 h0 h → jX m_X9_wordOf 4 0 0 104 [(0, .ref 68), (1, .ref 9), (2, .int l2), (3, .int l3), (5, .int l5)] [] h 0 0 Q := by
  intro l2 l3 l5 g0 h y0 y1 y2 y3 z0 m23 J Sm
  have el2 := jfull l2
  refine x_iconst (v := 0) rfl ki_0 ?_
  exact jX.sub (jsb_c rfl (jsb_c rfl (jsb_c rfl (jsb_c rfl (jsb_c rfl jsb_n))))) (ct_X9_wordOf_r68_r9_200105 hD hQ k23 l2 l3 l5 g0 h (jr_of rfl (by omega)) (jr_of rfl (by omega)) (jr_of rfl (by omega)) (by omega) z0 (by omega) J Sm)
set_option maxRecDepth 100000 in
set_option maxHeartbeats 4000000 in
theorem ct_X9_wordOf_r68_r9_62 {Dy : jH → Prop} {h0 : jH} {Q : Option Value → jH → Prop} {R23 : Int} (hD : jDk Dy) (hQ : ∀ (v : Int32) hx9, jJ jSgX Dy hx9 → jSm fp_X9_wordOf_r68_r9 h0 hx9 → Q (some (.int v)) hx9) (k23 : ∀ (l2 : Int32) (l3 : Int32) (l4 : Int32) (l5 : Int32) (g0 : Int32) (h : jH), 35 - l5.toInt < R23 → 0 ≤ l3.toInt ∧ l3.toInt ≤ 435 → 0 ≤ l4.toInt ∧ l4.toInt ≤ 1 → 0 ≤ l5.toInt ∧ l5.toInt ≤ 35 → 0 ≤ g0.toInt ∧ g0.toInt ≤ 400 → l3.toInt - l5.toInt ≤ 400 → jiv h 68 3 = g0 → jJ jSgX Dy h → jSm fp_X9_wordOf_r68_r9 h0 h → jX m_X9_wordOf 4 0 0 23 [(0, .ref 68), (1, .ref 9), (2, .int l2), (3, .int l3), (4, .int l4), (5, .int l5)] [] h 0 0 Q) : ∀ (l2 : Int32) (l5 : Int32) (g0 : Int32) (h : jH), 0 ≤ l5.toInt ∧ l5.toInt ≤ 34 → 0 ≤ g0.toInt ∧ g0.toInt ≤ 400 → jiv h 68 3 = g0 → 35 - l5.toInt ≤ R23 → jJ jSgX Dy h → jSm fp_X9_wordOf_r68_r9 h0 h → jX m_X9_wordOf 4 0 0 62 [(0, .ref 68), (1, .ref 9), (2, .int l2), (5, .int l5)] [] h 0 0 Q := by
  intro l2 l5 g0 h y0 y1 z0 m23 J Sm
  have el2 := jfull l2
  refine z_iinc0 (x := l2) (lsx9 := fun v1 => [(2, .int v1), (0, .ref 68), (1, .ref 9), (5, .int l5)]) rfl rfl rfl (fun _ => rfl) (fun v1 => ?_)
  have ev1 := jfull v1
  refine x_aloadn (x := 68) rfl rfl ?_
  refine z_getM (N := 6) (v := g0) 9 3 rfl f_9_22 rfl J rfl z0 ?_
  refine x_istoren (lsx9 := [(3, .int g0), (2, .int v1), (0, .ref 68), (1, .ref 9), (5, .int l5)]) rfl rfl rfl ?_
  refine x_iconst (v := 1) rfl ki_1 ?_
  refine x_istore (lsx9 := [(4, .int 1), (3, .int g0), (2, .int v1), (0, .ref 68), (1, .ref 9), (5, .int l5)]) rfl rfl rfl ?_
  refine x_goto (tgt := 110) rfl rfl ?_
  exact jX.sub (jsb_c rfl (jsb_c rfl (jsb_c rfl (jsb_c rfl (jsb_c rfl (jsb_c rfl jsb_n)))))) (ct_X9_wordOf_r68_r9_110 hD hQ k23 v1 g0 1 l5 g0 h (jr_of rfl (by omega)) (jr_of jk_1 (by omega)) (jr_of rfl (by omega)) (jr_of rfl (by omega)) (by omega) z0 (by omega) J Sm)
set_option maxRecDepth 100000 in
set_option maxHeartbeats 4000000 in
theorem ct_X9_wordOf_r68_r9_23 {Dy : jH → Prop} {h0 : jH} {Q : Option Value → jH → Prop} (hD : jDk Dy) (hQ : ∀ (v : Int32) hx9, jJ jSgX Dy hx9 → jSm fp_X9_wordOf_r68_r9 h0 hx9 → Q (some (.int v)) hx9) : ∀ r : Nat, ∀ (l2 : Int32) (l3 : Int32) (l4 : Int32) (l5 : Int32) (g0 : Int32) (h : jH), 35 - l5.toInt < (r : Int) → 0 ≤ l3.toInt ∧ l3.toInt ≤ 435 → 0 ≤ l4.toInt ∧ l4.toInt ≤ 1 → 0 ≤ l5.toInt ∧ l5.toInt ≤ 35 → 0 ≤ g0.toInt ∧ g0.toInt ≤ 400 → l3.toInt - l5.toInt ≤ 400 → jiv h 68 3 = g0 → jJ jSgX Dy h → jSm fp_X9_wordOf_r68_r9 h0 h → jX m_X9_wordOf 4 0 0 23 [(0, .ref 68), (1, .ref 9), (2, .int l2), (3, .int l3), (4, .int l4), (5, .int l5)] [] h 0 0 Q := by
  intro r
  induction r with
  | zero =>
    intro l2 l3 l4 l5 g0 h hm y0 y1 y2 y3 y4 z0  J Sm
    exfalso
    have el2 := jfull l2
    omega
  | succ r ih =>
    intro l2 l3 l4 l5 g0 h hm y0 y1 y2 y3 y4 z0  J Sm
    have el2 := jfull l2
    refine x_iload (x := l5) rfl rfl ?_
    refine x_aloadn (x := 9) rfl rfl ?_
    refine x_invS (N := m_J0_length_8abf5) (i := 4) (As := []) (st := [.int l5]) (dx9 := 1) (by decide) rfl t_J0_length_8abf5 ⟨q_9_38, i_J0_length_8abf5.1, i_J0_length_8abf5.2⟩ rfl rfl (by decide) rfl rfl (zc_slen (N := 35) (v := 35) rfl J rfl rfl (by decide) ?_)
    show jX m_X9_wordOf 4 0 0 29 [(0, .ref 68), (1, .ref 9), (2, .int l2), (3, .int l3), (4, .int l4), (5, .int l5)] [.int 35, .int l5] _ 0 0 _
    refine x_icge (tgt := 116) rfl rfl (ti_ge rfl jk_35 ⟨fun c1 => ?_, fun c1 => ?_⟩)
    ·
      refine x_iconst (v := (-1)) rfl ki_m1 ?_
      refine x_iret rfl rfl ?_
      exact hQ _ _ J Sm
    ·
      refine x_aloadn (x := 9) rfl rfl ?_
      refine x_iload (x := l5) rfl rfl ?_
      refine x_invS (N := m_J0_charAt_5068e) (i := 4) (As := [.int l5]) (st := []) (dx9 := 3) (by decide) rfl t_J0_charAt_5068e ⟨q_9_43, i_J0_charAt_5068e.1, i_J0_charAt_5068e.2⟩ rfl rfl (by decide) rfl rfl (zc_schar (N := 35) rfl J rfl rfl rfl (by omega) (fun v2 ev2 => ?_))
      show jX m_X9_wordOf 4 0 0 38 [(0, .ref 68), (1, .ref 9), (2, .int l2), (3, .int l3), (4, .int l4), (5, .int l5)] [.int v2] _ 0 0 _
      refine x_istore (lsx9 := [(6, .int v2), (0, .ref 68), (1, .ref 9), (2, .int l2), (3, .int l3), (4, .int l4), (5, .int l5)]) rfl rfl rfl ?_
      refine x_iload (x := v2) rfl rfl ?_
      refine x_bipush (v := 32) rfl kb_32 ?_
      refine x_icne (tgt := 76) rfl rfl (ti_ne rfl jk_32 ⟨fun c3 => ?_, fun c3 => ?_⟩)
      ·
        refine x_iload (x := l4) rfl rfl ?_
        refine x_ifeq (tgt := 104) rfl rfl (ti_eq rfl jk_0 ⟨fun c4 => ?_, fun c4 => ?_⟩)
        ·
          exact jX.sub (jsb_c rfl (jsb_c rfl (jsb_c rfl (jsb_c rfl (jsb_c rfl jsb_n))))) (ct_X9_wordOf_r68_r9_104 hD hQ ih l2 l3 l5 g0 h (jr_of rfl (by omega)) (jr_of rfl (by omega)) (jr_of rfl (by omega)) (by omega) z0 (by omega) J Sm)
        ·
          refine x_iloadn (x := l3) rfl rfl ?_
          refine x_aloadn (x := 68) rfl rfl ?_
          refine z_getI (N := 6) 9 4 rfl f_9_25 rfl J rfl sg_68_4_5_1_0_1 (fun v5 qv5 ev5 => ?_)
          refine x_icge (tgt := 104) rfl rfl (ti_ge rfl rfl ⟨fun c6 => ?_, fun c6 => ?_⟩)
          ·
            exact jX.sub (jsb_c rfl (jsb_c rfl (jsb_c rfl (jsb_c rfl (jsb_c rfl jsb_n))))) (ct_X9_wordOf_r68_r9_104 hD hQ ih l2 l3 l5 g0 h (jr_of rfl (by omega)) (jr_of rfl (by omega)) (jr_of rfl (by omega)) (by omega) z0 (by omega) J Sm)
          ·
            refine x_aloadn (x := 68) rfl rfl ?_
            refine z_getR (N := 6) (b := 69) 9 0 rfl f_9_11 rfl J rfl 8704 ⟨rfl, rfl⟩ rfl ?_
            refine x_iloadn (x := l3) rfl rfl ?_
            refine z_iald (N := 400) rfl J rfl sg_69_0_400_1_0_1 rfl (by omega) (fun v7 qv7 ev7 => ?_)
            refine x_iload (x := v2) rfl rfl ?_
            refine x_icne (tgt := 104) rfl rfl (ti_ne rfl rfl ⟨fun c8 => ?_, fun c8 => ?_⟩)
            ·
              exact jX.sub (jsb_c rfl (jsb_c rfl (jsb_c rfl (jsb_c rfl (jsb_c rfl jsb_n))))) (ct_X9_wordOf_r68_r9_104 hD hQ ih l2 l3 l5 g0 h (jr_of rfl (by omega)) (jr_of rfl (by omega)) (jr_of rfl (by omega)) (by omega) z0 (by omega) J Sm)
            ·
              refine x_iconst (v := 1) rfl ki_1 ?_
              refine x_goto (tgt := 105) rfl rfl ?_
              exact jX.sub (jsb_c rfl (jsb_c rfl (jsb_c rfl (jsb_c rfl (jsb_c rfl jsb_n))))) (ct_X9_wordOf_r68_r9_300105 hD hQ ih l2 l3 l5 g0 h (jr_of rfl (by omega)) (jr_of rfl (by omega)) (jr_of rfl (by omega)) (by omega) z0 (by omega) J Sm)
      ·
        refine x_iload (x := l4) rfl rfl ?_
        refine x_ifeq (tgt := 62) rfl rfl (ti_eq rfl jk_0 ⟨fun c9 => ?_, fun c9 => ?_⟩)
        ·
          exact jX.sub (jsb_c rfl (jsb_c rfl (jsb_c rfl (jsb_c rfl jsb_n)))) (ct_X9_wordOf_r68_r9_62 hD hQ ih l2 l5 g0 h (jr_of rfl (by omega)) (jr_of rfl (by omega)) z0 (by omega) J Sm)
        ·
          refine x_iloadn (x := l3) rfl rfl ?_
          refine x_aloadn (x := 68) rfl rfl ?_
          refine z_getI (N := 6) 9 4 rfl f_9_25 rfl J rfl sg_68_4_5_1_0_1 (fun v10 qv10 ev10 => ?_)
          refine x_icne (tgt := 62) rfl rfl (ti_ne rfl rfl ⟨fun c11 => ?_, fun c11 => ?_⟩)
          ·
            exact jX.sub (jsb_c rfl (jsb_c rfl (jsb_c rfl (jsb_c rfl jsb_n)))) (ct_X9_wordOf_r68_r9_62 hD hQ ih l2 l5 g0 h (jr_of rfl (by omega)) (jr_of rfl (by omega)) z0 (by omega) J Sm)
          ·
            refine x_iloadn (x := l2) rfl rfl ?_
            refine x_iret rfl rfl ?_
            exact hQ _ _ J Sm
set_option maxRecDepth 100000 in
set_option maxHeartbeats 4000000 in
theorem sf_X9_wordOf_r68_r9 {Dy : jH → Prop} {h : jH} {Q : Option Value → jH → Prop} (hD : jDk Dy) (J : jJ jSgX Dy h) (hQ : ∀ (v : Int32) hx9, jJ jSgX Dy hx9 → jSm fp_X9_wordOf_r68_r9 h hx9 → Q (some (.int v)) hx9) : jC m_X9_wordOf 4 0 0 [.ref 68, .ref 9] h Q := by
  refine jC.of rfl k_X9_wordOf rfl ?_
  have Sm := jSm_rf fp_X9_wordOf_r68_r9 h
  show jX m_X9_wordOf 4 0 0 0 [(0, .ref 68), (1, .ref 9)] [] _ 0 0 _
  refine x_aloadn (x := 68) rfl rfl ?_
  refine z_getI (N := 6) 9 5 rfl f_9_28 rfl J rfl sg_68_5_6_1_0_1 (fun v1 qv1 ev1 => ?_)
  refine x_iconst (v := 1) rfl ki_1 ?_
  refine x_iceq (tgt := 10) rfl rfl (ti_eq rfl jk_1 ⟨fun c2 => ?_, fun c2 => ?_⟩)
  ·
    refine x_iconst (v := 0) rfl ki_0 ?_
    refine x_istoren (lsx9 := [(2, .int 0), (0, .ref 68), (1, .ref 9)]) rfl rfl rfl ?_
    refine x_aloadn (x := 68) rfl rfl ?_
    refine z_getI (N := 6) 9 3 rfl f_9_22 rfl J rfl sg_68_3_4_1_0_1 (fun v3 qv3 ev3 => ?_)
    refine x_istoren (lsx9 := [(3, .int v3), (2, .int 0), (0, .ref 68), (1, .ref 9)]) rfl rfl rfl ?_
    refine x_iconst (v := 1) rfl ki_1 ?_
    refine x_istore (lsx9 := [(4, .int 1), (3, .int v3), (2, .int 0), (0, .ref 68), (1, .ref 9)]) rfl rfl rfl ?_
    refine x_iconst (v := 0) rfl ki_0 ?_
    refine x_istore (lsx9 := [(5, .int 0), (4, .int 1), (3, .int v3), (2, .int 0), (0, .ref 68), (1, .ref 9)]) rfl rfl rfl ?_
    exact jX.sub (jsb_c rfl (jsb_c rfl (jsb_c rfl (jsb_c rfl (jsb_c rfl (jsb_c rfl jsb_n)))))) (ct_X9_wordOf_r68_r9_23 hD hQ  36 0 v3 1 0 v3 h (by have := jk_0; omega) (jr_of rfl (by omega)) (jr_of jk_1 (by omega)) (jr_of jk_0 (by omega)) (jr_of rfl (by omega)) (by have := jk_0; omega) qv3 J Sm)
  ·
    refine x_iconst (v := (-1)) rfl ki_m1 ?_
    refine x_iret rfl rfl ?_
    exact hQ _ _ J Sm
def fp_X2_readWhich_r95_r9 : jFp := [(68, 2, 3), (68, 3, 4), (68, 4, 5), (68, 5, 6), (96, 0, 72)]
set_option maxRecDepth 100000 in
set_option maxHeartbeats 4000000 in
theorem sf_X2_readWhich_r95_r9 {Dy : jH → Prop} {h : jH} {Q : Option Value → jH → Prop} (hD : jDk Dy) (J : jJ jSgX Dy h) {p0 p1 : Int32} (zp0 : jiv h 68 5 = p0) (zp1 : jiv h 68 3 = p1) (rl_p0 : (p0.toInt ≠ 3 ∨ p1.toInt ≤ 399)) (hQ : ∀ (v : Int32) hx9, 0 ≤ v.toInt ∧ v.toInt ≤ 1 → jJ jSgX Dy hx9 → jSm fp_X2_readWhich_r95_r9 h hx9 → ∀ u0 u1 : Int32, jiv hx9 68 5 = u0 → jiv hx9 68 3 = u1 → (u0.toInt ≠ 3 ∨ u1.toInt ≤ 399) → Q (some (.int v)) hx9) : jC m_X2_readWhich 5 0 0 [.ref 95, .ref 9] h Q := by
  refine jC.of rfl k_X2_readWhich rfl ?_
  have Sm := jSm_rf fp_X2_readWhich_r95_r9 h
  have ep0 := (show 0 ≤ p0.toInt ∧ p0.toInt ≤ 3 from zp0 ▸ jrg_f J sg_68_5_6_1_0_1)
  have ep1 := (show 0 ≤ p1.toInt ∧ p1.toInt ≤ 400 from zp1 ▸ jrg_f J sg_68_3_4_1_0_1)
  show jX m_X2_readWhich 5 0 0 0 [(0, .ref 95), (1, .ref 9)] [] _ 0 0 _
  refine x_aloadn (x := 95) rfl rfl ?_
  refine z_getR (N := 6) (b := 68) 2 0 rfl f_2_30 rfl J rfl 12160 ⟨rfl, rfl⟩ rfl ?_
  refine x_aloadn (x := 9) rfl rfl ?_
  refine x_inv (N := m_X9_wordOf) (As := [.ref 9]) (b := 68) (st := []) (dx9 := 4) (mc := 0) (ms := 0) (host := "") 9 rfl t_X9_wordOf ⟨Or.inl q_2_67, i_X9_wordOf.1, i_X9_wordOf.2⟩ ⟨by decide, rfl⟩ (congrArg Prod.fst (J.1.1 68 (9, 6) rfl)) rfl (by decide) rfl rfl ⟨by decide, by decide⟩ (sf_X9_wordOf_r68_r9  hD J  (fun v2 h J S1 => ?_))
  have ev2 := jfull v2
  have Sm := jSm_tr rfl Sm S1
  show jX m_X2_readWhich 5 0 0 8 [(0, .ref 95), (1, .ref 9)] [.int v2] _ 0 0 _
  refine x_istoren (lsx9 := [(2, .int v2), (0, .ref 95), (1, .ref 9)]) rfl rfl rfl ?_
  refine x_iloadn (x := v2) rfl rfl ?_
  refine x_iconst (v := (-1)) rfl ki_m1 ?_
  refine x_icne (tgt := 22) rfl rfl (ti_ne rfl jk_m1 ⟨fun c3 => ?_, fun c3 => ?_⟩)
  ·
    refine x_aloadn (x := 95) rfl rfl ?_
    refine x_iconst (v := 1) rfl ki_1 ?_
    refine x_iloadn (x := v2) rfl rfl ?_
    refine x_inv (N := m_X2_note) (As := [.int 1, .int v2]) (b := 95) (st := []) (dx9 := 1) (mc := 0) (ms := 0) (host := "") 2 rfl t_X2_note ⟨Or.inl q_2_82, i_X2_note.1, i_X2_note.2⟩ ⟨by decide, rfl⟩ (congrArg Prod.fst (J.1.1 95 (2, 6) rfl)) rfl (by decide) rfl rfl ⟨by decide, by decide⟩ (sf_X2_note_r95 (jr_of jk_1 (by omega)) hD J  (fun h J S4 => ?_))
    have Sm := jSm_tr rfl Sm S4
    show jX m_X2_readWhich 5 0 0 28 [(2, .int v2), (0, .ref 95), (1, .ref 9)] [] _ 0 0 _
    refine x_aloadn (x := 95) rfl rfl ?_
    refine z_getR (N := 6) (b := 68) 2 0 rfl f_2_30 rfl J rfl 12160 ⟨rfl, rfl⟩ rfl ?_
    refine x_inv (N := m_X9_step) (As := []) (b := 68) (st := []) (dx9 := 2) (mc := 0) (ms := 0) (host := "") 9 rfl t_X9_step ⟨Or.inl q_2_62, i_X9_step.1, i_X9_step.2⟩ ⟨by decide, rfl⟩ (congrArg Prod.fst (J.1.1 68 (9, 6) rfl)) rfl (by decide) rfl rfl ⟨by decide, by decide⟩ (sf_X9_step_r68  hD J (jmc S4 rfl (jmc S1 rfl zp0)) (jmc S4 rfl (jmc S1 rfl zp1)) (by omega)  (fun h J S5 u6 u7 qu6 qu7 ru6 => ?_))
    have Sm := jSm_tr rfl Sm S5
    have eu6 := (show 0 ≤ u6.toInt ∧ u6.toInt ≤ 3 from qu6 ▸ jrg_f J sg_68_5_6_1_0_1)
    have eu7 := (show 0 ≤ u7.toInt ∧ u7.toInt ≤ 400 from qu7 ▸ jrg_f J sg_68_3_4_1_0_1)
    show jX m_X2_readWhich 5 0 0 35 [(2, .int v2), (0, .ref 95), (1, .ref 9)] [] _ 0 0 _
    refine x_iconst (v := 1) rfl ki_1 ?_
    refine x_zret rfl rfl (by decide) ?_
    exact hQ _ _ (jr_of jk_1 (by omega)) J Sm _ _ qu6 qu7 (by omega)
  ·
    refine x_aloadn (x := 95) rfl rfl ?_
    refine z_getR (N := 6) (b := 68) 2 0 rfl f_2_30 rfl J rfl 12160 ⟨rfl, rfl⟩ rfl ?_
    refine x_inv (N := m_X9_blame) (As := []) (b := 68) (st := []) (dx9 := 4) (mc := 0) (ms := 0) (host := "") 9 rfl t_X9_blame ⟨Or.inl q_2_59, i_X9_blame.1, i_X9_blame.2⟩ ⟨by decide, rfl⟩ (congrArg Prod.fst (J.1.1 68 (9, 6) rfl)) rfl (by decide) rfl rfl ⟨by decide, by decide⟩ (jC.of rfl k_X9_blame rfl ?_)
    show jX m_X9_blame 4 0 0 0 [(0, .ref 68)] [] _ 0 0 _
    refine x_aloadn (x := 68) rfl rfl ?_
    refine x_aloadn (x := 68) rfl rfl ?_
    refine z_getM (N := 6) (v := p1) 9 3 rfl f_9_22 rfl J rfl (jmc S1 rfl zp1) ?_
    refine z_putI (N := 6) (w := p1.toInt) 9 2 rfl f_9_19 rfl (jfin_no TX9 RX9 6 rfl rfl) hD J Sm rfl rfl rfl (pw_68_2 (by omega)) rfl (fun h w8 J Sm => ?_)
    refine x_iconst (v := 0) rfl ki_0 ?_
    refine x_zret rfl rfl (by decide) ?_
    show jX m_X2_readWhich 5 0 0 21 [(2, .int v2), (0, .ref 95), (1, .ref 9)] [.int 0] _ 0 0 _
    refine x_zret rfl rfl (by decide) ?_
    exact hQ _ _ (jr_of jk_0 (by omega)) J Sm _ _ (jmo w8 rfl (jmc S1 rfl zp0)) (jmo w8 rfl (jmc S1 rfl zp1)) (by omega)
def fp_X9_wordOf_r68_r12 : jFp := []
set_option maxRecDepth 100000 in
set_option maxHeartbeats 4000000 in
theorem ct_X9_wordOf_r68_r12_110 {Dy : jH → Prop} {h0 : jH} {Q : Option Value → jH → Prop} {R23 : Int} (hD : jDk Dy) (hQ : ∀ (v : Int32) hx9, jJ jSgX Dy hx9 → jSm fp_X9_wordOf_r68_r12 h0 hx9 → Q (some (.int v)) hx9) (k23 : ∀ (l2 : Int32) (l3 : Int32) (l4 : Int32) (l5 : Int32) (g0 : Int32) (h : jH), 3 - l5.toInt < R23 → 0 ≤ l3.toInt ∧ l3.toInt ≤ 403 → 0 ≤ l4.toInt ∧ l4.toInt ≤ 1 → 0 ≤ l5.toInt ∧ l5.toInt ≤ 3 → 0 ≤ g0.toInt ∧ g0.toInt ≤ 400 → l3.toInt - l5.toInt ≤ 400 → jiv h 68 3 = g0 → jJ jSgX Dy h → jSm fp_X9_wordOf_r68_r12 h0 h → jX m_X9_wordOf 4 0 0 23 [(0, .ref 68), (1, .ref 12), (2, .int l2), (3, .int l3), (4, .int l4), (5, .int l5)] [] h 0 0 Q) : ∀ (l2 : Int32) (l3 : Int32) (l4 : Int32) (l5 : Int32) (g0 : Int32) (h : jH), 0 ≤ l3.toInt ∧ l3.toInt ≤ 403 → 0 ≤ l4.toInt ∧ l4.toInt ≤ 1 → 0 ≤ l5.toInt ∧ l5.toInt ≤ 2 → 0 ≤ g0.toInt ∧ g0.toInt ≤ 400 → l3.toInt - l5.toInt ≤ 401 → jiv h 68 3 = g0 → 3 - l5.toInt ≤ R23 → jJ jSgX Dy h → jSm fp_X9_wordOf_r68_r12 h0 h → jX m_X9_wordOf 4 0 0 110 [(0, .ref 68), (1, .ref 12), (2, .int l2), (3, .int l3), (4, .int l4), (5, .int l5)] [] h 0 0 Q := by
  intro l2 l3 l4 l5 g0 h y0 y1 y2 y3 y4 z0 m23 J Sm
  have el2 := jfull l2
  refine z_iinc (x := l5) (lsx9 := fun v1 => [(5, .int v1), (0, .ref 68), (1, .ref 12), (2, .int l2), (3, .int l3), (4, .int l4)]) rfl rfl rfl jko_1 (by omega) rfl (fun _ => rfl) (fun v1 ev1 => ?_)
  refine x_goto (tgt := 23) rfl rfl ?_
  exact jX.sub (jsb_c rfl (jsb_c rfl (jsb_c rfl (jsb_c rfl (jsb_c rfl (jsb_c rfl jsb_n)))))) (k23 l2 l3 l4 v1 g0 h (by omega) (jr_of rfl (by omega)) (jr_of rfl (by omega)) (jr_of rfl (by omega)) (jr_of rfl (by omega)) (by omega) z0 J Sm)
set_option maxRecDepth 100000 in
set_option maxHeartbeats 4000000 in
theorem ct_X9_wordOf_r68_r12_300105 {Dy : jH → Prop} {h0 : jH} {Q : Option Value → jH → Prop} {R23 : Int} (hD : jDk Dy) (hQ : ∀ (v : Int32) hx9, jJ jSgX Dy hx9 → jSm fp_X9_wordOf_r68_r12 h0 hx9 → Q (some (.int v)) hx9) (k23 : ∀ (l2 : Int32) (l3 : Int32) (l4 : Int32) (l5 : Int32) (g0 : Int32) (h : jH), 3 - l5.toInt < R23 → 0 ≤ l3.toInt ∧ l3.toInt ≤ 403 → 0 ≤ l4.toInt ∧ l4.toInt ≤ 1 → 0 ≤ l5.toInt ∧ l5.toInt ≤ 3 → 0 ≤ g0.toInt ∧ g0.toInt ≤ 400 → l3.toInt - l5.toInt ≤ 400 → jiv h 68 3 = g0 → jJ jSgX Dy h → jSm fp_X9_wordOf_r68_r12 h0 h → jX m_X9_wordOf 4 0 0 23 [(0, .ref 68), (1, .ref 12), (2, .int l2), (3, .int l3), (4, .int l4), (5, .int l5)] [] h 0 0 Q) : ∀ (l2 : Int32) (l3 : Int32) (l5 : Int32) (g0 : Int32) (h : jH), 0 ≤ l3.toInt ∧ l3.toInt ≤ 399 → 0 ≤ l5.toInt ∧ l5.toInt ≤ 2 → 0 ≤ g0.toInt ∧ g0.toInt ≤ 400 → l3.toInt - l5.toInt ≤ 400 → jiv h 68 3 = g0 → 3 - l5.toInt ≤ R23 → jJ jSgX Dy h → jSm fp_X9_wordOf_r68_r12 h0 h → jX m_X9_wordOf 4 0 0 105 [(0, .ref 68), (1, .ref 12), (2, .int l2), (3, .int l3), (5, .int l5)] [.int 1] h 0 0 Q := by
  intro l2 l3 l5 g0 h y0 y1 y2 y3 z0 m23 J Sm
  have el2 := jfull l2
  refine x_istore (lsx9 := [(4, .int 1), (0, .ref 68), (1, .ref 12), (2, .int l2), (3, .int l3), (5, .int l5)]) rfl rfl rfl ?_
  refine z_iinc (x := l3) (lsx9 := fun v1 => [(3, .int v1), (4, .int 1), (0, .ref 68), (1, .ref 12), (2, .int l2), (5, .int l5)]) rfl rfl rfl jko_1 (by omega) rfl (fun _ => rfl) (fun v1 ev1 => ?_)
  exact jX.sub (jsb_c rfl (jsb_c rfl (jsb_c rfl (jsb_c rfl (jsb_c rfl (jsb_c rfl jsb_n)))))) (ct_X9_wordOf_r68_r12_110 hD hQ k23 l2 v1 1 l5 g0 h (jr_of rfl (by omega)) (jr_of jk_1 (by omega)) (jr_of rfl (by omega)) (jr_of rfl (by omega)) (by omega) z0 (by omega) J Sm)
set_option maxRecDepth 100000 in
set_option maxHeartbeats 4000000 in
theorem ct_X9_wordOf_r68_r12_200105 {Dy : jH → Prop} {h0 : jH} {Q : Option Value → jH → Prop} {R23 : Int} (hD : jDk Dy) (hQ : ∀ (v : Int32) hx9, jJ jSgX Dy hx9 → jSm fp_X9_wordOf_r68_r12 h0 hx9 → Q (some (.int v)) hx9) (k23 : ∀ (l2 : Int32) (l3 : Int32) (l4 : Int32) (l5 : Int32) (g0 : Int32) (h : jH), 3 - l5.toInt < R23 → 0 ≤ l3.toInt ∧ l3.toInt ≤ 403 → 0 ≤ l4.toInt ∧ l4.toInt ≤ 1 → 0 ≤ l5.toInt ∧ l5.toInt ≤ 3 → 0 ≤ g0.toInt ∧ g0.toInt ≤ 400 → l3.toInt - l5.toInt ≤ 400 → jiv h 68 3 = g0 → jJ jSgX Dy h → jSm fp_X9_wordOf_r68_r12 h0 h → jX m_X9_wordOf 4 0 0 23 [(0, .ref 68), (1, .ref 12), (2, .int l2), (3, .int l3), (4, .int l4), (5, .int l5)] [] h 0 0 Q) : ∀ (l2 : Int32) (l3 : Int32) (l5 : Int32) (g0 : Int32) (h : jH), 0 ≤ l3.toInt ∧ l3.toInt ≤ 402 → 0 ≤ l5.toInt ∧ l5.toInt ≤ 2 → 0 ≤ g0.toInt ∧ g0.toInt ≤ 400 → l3.toInt - l5.toInt ≤ 400 → jiv h 68 3 = g0 → 3 - l5.toInt ≤ R23 → jJ jSgX Dy h → jSm fp_X9_wordOf_r68_r12 h0 h → jX m_X9_wordOf 4 0 0 105 [(0, .ref 68), (1, .ref 12), (2, .int l2), (3, .int l3), (5, .int l5)] [.int 0] h 0 0 Q := by
  intro l2 l3 l5 g0 h y0 y1 y2 y3 z0 m23 J Sm
  have el2 := jfull l2
  refine x_istore (lsx9 := [(4, .int 0), (0, .ref 68), (1, .ref 12), (2, .int l2), (3, .int l3), (5, .int l5)]) rfl rfl rfl ?_
  refine z_iinc (x := l3) (lsx9 := fun v1 => [(3, .int v1), (4, .int 0), (0, .ref 68), (1, .ref 12), (2, .int l2), (5, .int l5)]) rfl rfl rfl jko_1 (by omega) rfl (fun _ => rfl) (fun v1 ev1 => ?_)
  exact jX.sub (jsb_c rfl (jsb_c rfl (jsb_c rfl (jsb_c rfl (jsb_c rfl (jsb_c rfl jsb_n)))))) (ct_X9_wordOf_r68_r12_110 hD hQ k23 l2 v1 0 l5 g0 h (jr_of rfl (by omega)) (jr_of jk_0 (by omega)) (jr_of rfl (by omega)) (jr_of rfl (by omega)) (by omega) z0 (by omega) J Sm)
set_option maxRecDepth 100000 in
set_option maxHeartbeats 4000000 in
theorem ct_X9_wordOf_r68_r12_104 {Dy : jH → Prop} {h0 : jH} {Q : Option Value → jH → Prop} {R23 : Int} (hD : jDk Dy) (hQ : ∀ (v : Int32) hx9, jJ jSgX Dy hx9 → jSm fp_X9_wordOf_r68_r12 h0 hx9 → Q (some (.int v)) hx9) (k23 : ∀ (l2 : Int32) (l3 : Int32) (l4 : Int32) (l5 : Int32) (g0 : Int32) (h : jH), 3 - l5.toInt < R23 → 0 ≤ l3.toInt ∧ l3.toInt ≤ 403 → 0 ≤ l4.toInt ∧ l4.toInt ≤ 1 → 0 ≤ l5.toInt ∧ l5.toInt ≤ 3 → 0 ≤ g0.toInt ∧ g0.toInt ≤ 400 → l3.toInt - l5.toInt ≤ 400 → jiv h 68 3 = g0 → jJ jSgX Dy h → jSm fp_X9_wordOf_r68_r12 h0 h → jX m_X9_wordOf 4 0 0 23 [(0, .ref 68), (1, .ref 12), (2, .int l2), (3, .int l3), (4, .int l4), (5, .int l5)] [] h 0 0 Q) : ∀ (l2 : Int32) (l3 : Int32) (l5 : Int32) (g0 : Int32) (h : jH), 0 ≤ l3.toInt ∧ l3.toInt ≤ 402 → 0 ≤ l5.toInt ∧ l5.toInt ≤ 2 → 0 ≤ g0.toInt ∧ g0.toInt ≤ 400 → l3.toInt - l5.toInt ≤ 400 → jiv h 68 3 = g0 → 3 - l5.toInt ≤ R23 → jJ jSgX Dy h → jSm fp_X9_wordOf_r68_r12 h0 h → jX m_X9_wordOf 4 0 0 104 [(0, .ref 68), (1, .ref 12), (2, .int l2), (3, .int l3), (5, .int l5)] [] h 0 0 Q := by
  intro l2 l3 l5 g0 h y0 y1 y2 y3 z0 m23 J Sm
  have el2 := jfull l2
  refine x_iconst (v := 0) rfl ki_0 ?_
  exact jX.sub (jsb_c rfl (jsb_c rfl (jsb_c rfl (jsb_c rfl (jsb_c rfl jsb_n))))) (ct_X9_wordOf_r68_r12_200105 hD hQ k23 l2 l3 l5 g0 h (jr_of rfl (by omega)) (jr_of rfl (by omega)) (jr_of rfl (by omega)) (by omega) z0 (by omega) J Sm)
set_option maxRecDepth 100000 in
set_option maxHeartbeats 4000000 in
theorem ct_X9_wordOf_r68_r12_62 {Dy : jH → Prop} {h0 : jH} {Q : Option Value → jH → Prop} {R23 : Int} (hD : jDk Dy) (hQ : ∀ (v : Int32) hx9, jJ jSgX Dy hx9 → jSm fp_X9_wordOf_r68_r12 h0 hx9 → Q (some (.int v)) hx9) (k23 : ∀ (l2 : Int32) (l3 : Int32) (l4 : Int32) (l5 : Int32) (g0 : Int32) (h : jH), 3 - l5.toInt < R23 → 0 ≤ l3.toInt ∧ l3.toInt ≤ 403 → 0 ≤ l4.toInt ∧ l4.toInt ≤ 1 → 0 ≤ l5.toInt ∧ l5.toInt ≤ 3 → 0 ≤ g0.toInt ∧ g0.toInt ≤ 400 → l3.toInt - l5.toInt ≤ 400 → jiv h 68 3 = g0 → jJ jSgX Dy h → jSm fp_X9_wordOf_r68_r12 h0 h → jX m_X9_wordOf 4 0 0 23 [(0, .ref 68), (1, .ref 12), (2, .int l2), (3, .int l3), (4, .int l4), (5, .int l5)] [] h 0 0 Q) : ∀ (l2 : Int32) (l5 : Int32) (g0 : Int32) (h : jH), 0 ≤ l5.toInt ∧ l5.toInt ≤ 2 → 0 ≤ g0.toInt ∧ g0.toInt ≤ 400 → jiv h 68 3 = g0 → 3 - l5.toInt ≤ R23 → jJ jSgX Dy h → jSm fp_X9_wordOf_r68_r12 h0 h → jX m_X9_wordOf 4 0 0 62 [(0, .ref 68), (1, .ref 12), (2, .int l2), (5, .int l5)] [] h 0 0 Q := by
  intro l2 l5 g0 h y0 y1 z0 m23 J Sm
  have el2 := jfull l2
  refine z_iinc0 (x := l2) (lsx9 := fun v1 => [(2, .int v1), (0, .ref 68), (1, .ref 12), (5, .int l5)]) rfl rfl rfl (fun _ => rfl) (fun v1 => ?_)
  have ev1 := jfull v1
  refine x_aloadn (x := 68) rfl rfl ?_
  refine z_getM (N := 6) (v := g0) 9 3 rfl f_9_22 rfl J rfl z0 ?_
  refine x_istoren (lsx9 := [(3, .int g0), (2, .int v1), (0, .ref 68), (1, .ref 12), (5, .int l5)]) rfl rfl rfl ?_
  refine x_iconst (v := 1) rfl ki_1 ?_
  refine x_istore (lsx9 := [(4, .int 1), (3, .int g0), (2, .int v1), (0, .ref 68), (1, .ref 12), (5, .int l5)]) rfl rfl rfl ?_
  refine x_goto (tgt := 110) rfl rfl ?_
  exact jX.sub (jsb_c rfl (jsb_c rfl (jsb_c rfl (jsb_c rfl (jsb_c rfl (jsb_c rfl jsb_n)))))) (ct_X9_wordOf_r68_r12_110 hD hQ k23 v1 g0 1 l5 g0 h (jr_of rfl (by omega)) (jr_of jk_1 (by omega)) (jr_of rfl (by omega)) (jr_of rfl (by omega)) (by omega) z0 (by omega) J Sm)
set_option maxRecDepth 100000 in
set_option maxHeartbeats 4000000 in
theorem ct_X9_wordOf_r68_r12_23 {Dy : jH → Prop} {h0 : jH} {Q : Option Value → jH → Prop} (hD : jDk Dy) (hQ : ∀ (v : Int32) hx9, jJ jSgX Dy hx9 → jSm fp_X9_wordOf_r68_r12 h0 hx9 → Q (some (.int v)) hx9) : ∀ r : Nat, ∀ (l2 : Int32) (l3 : Int32) (l4 : Int32) (l5 : Int32) (g0 : Int32) (h : jH), 3 - l5.toInt < (r : Int) → 0 ≤ l3.toInt ∧ l3.toInt ≤ 403 → 0 ≤ l4.toInt ∧ l4.toInt ≤ 1 → 0 ≤ l5.toInt ∧ l5.toInt ≤ 3 → 0 ≤ g0.toInt ∧ g0.toInt ≤ 400 → l3.toInt - l5.toInt ≤ 400 → jiv h 68 3 = g0 → jJ jSgX Dy h → jSm fp_X9_wordOf_r68_r12 h0 h → jX m_X9_wordOf 4 0 0 23 [(0, .ref 68), (1, .ref 12), (2, .int l2), (3, .int l3), (4, .int l4), (5, .int l5)] [] h 0 0 Q := by
  intro r
  induction r with
  | zero =>
    intro l2 l3 l4 l5 g0 h hm y0 y1 y2 y3 y4 z0  J Sm
    exfalso
    have el2 := jfull l2
    omega
  | succ r ih =>
    intro l2 l3 l4 l5 g0 h hm y0 y1 y2 y3 y4 z0  J Sm
    have el2 := jfull l2
    refine x_iload (x := l5) rfl rfl ?_
    refine x_aloadn (x := 12) rfl rfl ?_
    refine x_invS (N := m_J0_length_8abf5) (i := 7) (As := []) (st := [.int l5]) (dx9 := 1) (by decide) rfl t_J0_length_8abf5 ⟨q_9_38, i_J0_length_8abf5.1, i_J0_length_8abf5.2⟩ rfl rfl (by decide) rfl rfl (zc_slen (N := 3) (v := 3) rfl J rfl rfl (by decide) ?_)
    show jX m_X9_wordOf 4 0 0 29 [(0, .ref 68), (1, .ref 12), (2, .int l2), (3, .int l3), (4, .int l4), (5, .int l5)] [.int 3, .int l5] _ 0 0 _
    refine x_icge (tgt := 116) rfl rfl (ti_ge rfl jk_3 ⟨fun c1 => ?_, fun c1 => ?_⟩)
    ·
      refine x_iconst (v := (-1)) rfl ki_m1 ?_
      refine x_iret rfl rfl ?_
      exact hQ _ _ J Sm
    ·
      refine x_aloadn (x := 12) rfl rfl ?_
      refine x_iload (x := l5) rfl rfl ?_
      refine x_invS (N := m_J0_charAt_5068e) (i := 7) (As := [.int l5]) (st := []) (dx9 := 3) (by decide) rfl t_J0_charAt_5068e ⟨q_9_43, i_J0_charAt_5068e.1, i_J0_charAt_5068e.2⟩ rfl rfl (by decide) rfl rfl (zc_schar (N := 3) rfl J rfl rfl rfl (by omega) (fun v2 ev2 => ?_))
      show jX m_X9_wordOf 4 0 0 38 [(0, .ref 68), (1, .ref 12), (2, .int l2), (3, .int l3), (4, .int l4), (5, .int l5)] [.int v2] _ 0 0 _
      refine x_istore (lsx9 := [(6, .int v2), (0, .ref 68), (1, .ref 12), (2, .int l2), (3, .int l3), (4, .int l4), (5, .int l5)]) rfl rfl rfl ?_
      refine x_iload (x := v2) rfl rfl ?_
      refine x_bipush (v := 32) rfl kb_32 ?_
      refine x_icne (tgt := 76) rfl rfl (ti_ne rfl jk_32 ⟨fun c3 => ?_, fun c3 => ?_⟩)
      ·
        refine x_iload (x := l4) rfl rfl ?_
        refine x_ifeq (tgt := 104) rfl rfl (ti_eq rfl jk_0 ⟨fun c4 => ?_, fun c4 => ?_⟩)
        ·
          exact jX.sub (jsb_c rfl (jsb_c rfl (jsb_c rfl (jsb_c rfl (jsb_c rfl jsb_n))))) (ct_X9_wordOf_r68_r12_104 hD hQ ih l2 l3 l5 g0 h (jr_of rfl (by omega)) (jr_of rfl (by omega)) (jr_of rfl (by omega)) (by omega) z0 (by omega) J Sm)
        ·
          refine x_iloadn (x := l3) rfl rfl ?_
          refine x_aloadn (x := 68) rfl rfl ?_
          refine z_getI (N := 6) 9 4 rfl f_9_25 rfl J rfl sg_68_4_5_1_0_1 (fun v5 qv5 ev5 => ?_)
          refine x_icge (tgt := 104) rfl rfl (ti_ge rfl rfl ⟨fun c6 => ?_, fun c6 => ?_⟩)
          ·
            exact jX.sub (jsb_c rfl (jsb_c rfl (jsb_c rfl (jsb_c rfl (jsb_c rfl jsb_n))))) (ct_X9_wordOf_r68_r12_104 hD hQ ih l2 l3 l5 g0 h (jr_of rfl (by omega)) (jr_of rfl (by omega)) (jr_of rfl (by omega)) (by omega) z0 (by omega) J Sm)
          ·
            refine x_aloadn (x := 68) rfl rfl ?_
            refine z_getR (N := 6) (b := 69) 9 0 rfl f_9_11 rfl J rfl 8704 ⟨rfl, rfl⟩ rfl ?_
            refine x_iloadn (x := l3) rfl rfl ?_
            refine z_iald (N := 400) rfl J rfl sg_69_0_400_1_0_1 rfl (by omega) (fun v7 qv7 ev7 => ?_)
            refine x_iload (x := v2) rfl rfl ?_
            refine x_icne (tgt := 104) rfl rfl (ti_ne rfl rfl ⟨fun c8 => ?_, fun c8 => ?_⟩)
            ·
              exact jX.sub (jsb_c rfl (jsb_c rfl (jsb_c rfl (jsb_c rfl (jsb_c rfl jsb_n))))) (ct_X9_wordOf_r68_r12_104 hD hQ ih l2 l3 l5 g0 h (jr_of rfl (by omega)) (jr_of rfl (by omega)) (jr_of rfl (by omega)) (by omega) z0 (by omega) J Sm)
            ·
              refine x_iconst (v := 1) rfl ki_1 ?_
              refine x_goto (tgt := 105) rfl rfl ?_
              exact jX.sub (jsb_c rfl (jsb_c rfl (jsb_c rfl (jsb_c rfl (jsb_c rfl jsb_n))))) (ct_X9_wordOf_r68_r12_300105 hD hQ ih l2 l3 l5 g0 h (jr_of rfl (by omega)) (jr_of rfl (by omega)) (jr_of rfl (by omega)) (by omega) z0 (by omega) J Sm)
      ·
        refine x_iload (x := l4) rfl rfl ?_
        refine x_ifeq (tgt := 62) rfl rfl (ti_eq rfl jk_0 ⟨fun c9 => ?_, fun c9 => ?_⟩)
        ·
          exact jX.sub (jsb_c rfl (jsb_c rfl (jsb_c rfl (jsb_c rfl jsb_n)))) (ct_X9_wordOf_r68_r12_62 hD hQ ih l2 l5 g0 h (jr_of rfl (by omega)) (jr_of rfl (by omega)) z0 (by omega) J Sm)
        ·
          refine x_iloadn (x := l3) rfl rfl ?_
          refine x_aloadn (x := 68) rfl rfl ?_
          refine z_getI (N := 6) 9 4 rfl f_9_25 rfl J rfl sg_68_4_5_1_0_1 (fun v10 qv10 ev10 => ?_)
          refine x_icne (tgt := 62) rfl rfl (ti_ne rfl rfl ⟨fun c11 => ?_, fun c11 => ?_⟩)
          ·
            exact jX.sub (jsb_c rfl (jsb_c rfl (jsb_c rfl (jsb_c rfl jsb_n)))) (ct_X9_wordOf_r68_r12_62 hD hQ ih l2 l5 g0 h (jr_of rfl (by omega)) (jr_of rfl (by omega)) z0 (by omega) J Sm)
          ·
            refine x_iloadn (x := l2) rfl rfl ?_
            refine x_iret rfl rfl ?_
            exact hQ _ _ J Sm
set_option maxRecDepth 100000 in
set_option maxHeartbeats 4000000 in
theorem sf_X9_wordOf_r68_r12 {Dy : jH → Prop} {h : jH} {Q : Option Value → jH → Prop} (hD : jDk Dy) (J : jJ jSgX Dy h) (hQ : ∀ (v : Int32) hx9, jJ jSgX Dy hx9 → jSm fp_X9_wordOf_r68_r12 h hx9 → Q (some (.int v)) hx9) : jC m_X9_wordOf 4 0 0 [.ref 68, .ref 12] h Q := by
  refine jC.of rfl k_X9_wordOf rfl ?_
  have Sm := jSm_rf fp_X9_wordOf_r68_r12 h
  show jX m_X9_wordOf 4 0 0 0 [(0, .ref 68), (1, .ref 12)] [] _ 0 0 _
  refine x_aloadn (x := 68) rfl rfl ?_
  refine z_getI (N := 6) 9 5 rfl f_9_28 rfl J rfl sg_68_5_6_1_0_1 (fun v1 qv1 ev1 => ?_)
  refine x_iconst (v := 1) rfl ki_1 ?_
  refine x_iceq (tgt := 10) rfl rfl (ti_eq rfl jk_1 ⟨fun c2 => ?_, fun c2 => ?_⟩)
  ·
    refine x_iconst (v := 0) rfl ki_0 ?_
    refine x_istoren (lsx9 := [(2, .int 0), (0, .ref 68), (1, .ref 12)]) rfl rfl rfl ?_
    refine x_aloadn (x := 68) rfl rfl ?_
    refine z_getI (N := 6) 9 3 rfl f_9_22 rfl J rfl sg_68_3_4_1_0_1 (fun v3 qv3 ev3 => ?_)
    refine x_istoren (lsx9 := [(3, .int v3), (2, .int 0), (0, .ref 68), (1, .ref 12)]) rfl rfl rfl ?_
    refine x_iconst (v := 1) rfl ki_1 ?_
    refine x_istore (lsx9 := [(4, .int 1), (3, .int v3), (2, .int 0), (0, .ref 68), (1, .ref 12)]) rfl rfl rfl ?_
    refine x_iconst (v := 0) rfl ki_0 ?_
    refine x_istore (lsx9 := [(5, .int 0), (4, .int 1), (3, .int v3), (2, .int 0), (0, .ref 68), (1, .ref 12)]) rfl rfl rfl ?_
    exact jX.sub (jsb_c rfl (jsb_c rfl (jsb_c rfl (jsb_c rfl (jsb_c rfl (jsb_c rfl jsb_n)))))) (ct_X9_wordOf_r68_r12_23 hD hQ  4 0 v3 1 0 v3 h (by have := jk_0; omega) (jr_of rfl (by omega)) (jr_of jk_1 (by omega)) (jr_of jk_0 (by omega)) (jr_of rfl (by omega)) (by have := jk_0; omega) qv3 J Sm)
  ·
    refine x_iconst (v := (-1)) rfl ki_m1 ?_
    refine x_iret rfl rfl ?_
    exact hQ _ _ J Sm
def fp_X9_wordOf_r68_r13 : jFp := []
set_option maxRecDepth 100000 in
set_option maxHeartbeats 4000000 in
theorem ct_X9_wordOf_r68_r13_110 {Dy : jH → Prop} {h0 : jH} {Q : Option Value → jH → Prop} {R23 : Int} (hD : jDk Dy) (hQ : ∀ (v : Int32) hx9, jJ jSgX Dy hx9 → jSm fp_X9_wordOf_r68_r13 h0 hx9 → Q (some (.int v)) hx9) (k23 : ∀ (l2 : Int32) (l3 : Int32) (l4 : Int32) (l5 : Int32) (g0 : Int32) (h : jH), 7 - l5.toInt < R23 → 0 ≤ l3.toInt ∧ l3.toInt ≤ 407 → 0 ≤ l4.toInt ∧ l4.toInt ≤ 1 → 0 ≤ l5.toInt ∧ l5.toInt ≤ 7 → 0 ≤ g0.toInt ∧ g0.toInt ≤ 400 → l3.toInt - l5.toInt ≤ 400 → jiv h 68 3 = g0 → jJ jSgX Dy h → jSm fp_X9_wordOf_r68_r13 h0 h → jX m_X9_wordOf 4 0 0 23 [(0, .ref 68), (1, .ref 13), (2, .int l2), (3, .int l3), (4, .int l4), (5, .int l5)] [] h 0 0 Q) : ∀ (l2 : Int32) (l3 : Int32) (l4 : Int32) (l5 : Int32) (g0 : Int32) (h : jH), 0 ≤ l3.toInt ∧ l3.toInt ≤ 407 → 0 ≤ l4.toInt ∧ l4.toInt ≤ 1 → 0 ≤ l5.toInt ∧ l5.toInt ≤ 6 → 0 ≤ g0.toInt ∧ g0.toInt ≤ 400 → l3.toInt - l5.toInt ≤ 401 → jiv h 68 3 = g0 → 7 - l5.toInt ≤ R23 → jJ jSgX Dy h → jSm fp_X9_wordOf_r68_r13 h0 h → jX m_X9_wordOf 4 0 0 110 [(0, .ref 68), (1, .ref 13), (2, .int l2), (3, .int l3), (4, .int l4), (5, .int l5)] [] h 0 0 Q := by
  intro l2 l3 l4 l5 g0 h y0 y1 y2 y3 y4 z0 m23 J Sm
  have el2 := jfull l2
  refine z_iinc (x := l5) (lsx9 := fun v1 => [(5, .int v1), (0, .ref 68), (1, .ref 13), (2, .int l2), (3, .int l3), (4, .int l4)]) rfl rfl rfl jko_1 (by omega) rfl (fun _ => rfl) (fun v1 ev1 => ?_)
  refine x_goto (tgt := 23) rfl rfl ?_
  exact jX.sub (jsb_c rfl (jsb_c rfl (jsb_c rfl (jsb_c rfl (jsb_c rfl (jsb_c rfl jsb_n)))))) (k23 l2 l3 l4 v1 g0 h (by omega) (jr_of rfl (by omega)) (jr_of rfl (by omega)) (jr_of rfl (by omega)) (jr_of rfl (by omega)) (by omega) z0 J Sm)
set_option maxRecDepth 100000 in
set_option maxHeartbeats 4000000 in
theorem ct_X9_wordOf_r68_r13_300105 {Dy : jH → Prop} {h0 : jH} {Q : Option Value → jH → Prop} {R23 : Int} (hD : jDk Dy) (hQ : ∀ (v : Int32) hx9, jJ jSgX Dy hx9 → jSm fp_X9_wordOf_r68_r13 h0 hx9 → Q (some (.int v)) hx9) (k23 : ∀ (l2 : Int32) (l3 : Int32) (l4 : Int32) (l5 : Int32) (g0 : Int32) (h : jH), 7 - l5.toInt < R23 → 0 ≤ l3.toInt ∧ l3.toInt ≤ 407 → 0 ≤ l4.toInt ∧ l4.toInt ≤ 1 → 0 ≤ l5.toInt ∧ l5.toInt ≤ 7 → 0 ≤ g0.toInt ∧ g0.toInt ≤ 400 → l3.toInt - l5.toInt ≤ 400 → jiv h 68 3 = g0 → jJ jSgX Dy h → jSm fp_X9_wordOf_r68_r13 h0 h → jX m_X9_wordOf 4 0 0 23 [(0, .ref 68), (1, .ref 13), (2, .int l2), (3, .int l3), (4, .int l4), (5, .int l5)] [] h 0 0 Q) : ∀ (l2 : Int32) (l3 : Int32) (l5 : Int32) (g0 : Int32) (h : jH), 0 ≤ l3.toInt ∧ l3.toInt ≤ 399 → 0 ≤ l5.toInt ∧ l5.toInt ≤ 6 → 0 ≤ g0.toInt ∧ g0.toInt ≤ 400 → l3.toInt - l5.toInt ≤ 400 → jiv h 68 3 = g0 → 7 - l5.toInt ≤ R23 → jJ jSgX Dy h → jSm fp_X9_wordOf_r68_r13 h0 h → jX m_X9_wordOf 4 0 0 105 [(0, .ref 68), (1, .ref 13), (2, .int l2), (3, .int l3), (5, .int l5)] [.int 1] h 0 0 Q := by
  intro l2 l3 l5 g0 h y0 y1 y2 y3 z0 m23 J Sm
  have el2 := jfull l2
  refine x_istore (lsx9 := [(4, .int 1), (0, .ref 68), (1, .ref 13), (2, .int l2), (3, .int l3), (5, .int l5)]) rfl rfl rfl ?_
  refine z_iinc (x := l3) (lsx9 := fun v1 => [(3, .int v1), (4, .int 1), (0, .ref 68), (1, .ref 13), (2, .int l2), (5, .int l5)]) rfl rfl rfl jko_1 (by omega) rfl (fun _ => rfl) (fun v1 ev1 => ?_)
  exact jX.sub (jsb_c rfl (jsb_c rfl (jsb_c rfl (jsb_c rfl (jsb_c rfl (jsb_c rfl jsb_n)))))) (ct_X9_wordOf_r68_r13_110 hD hQ k23 l2 v1 1 l5 g0 h (jr_of rfl (by omega)) (jr_of jk_1 (by omega)) (jr_of rfl (by omega)) (jr_of rfl (by omega)) (by omega) z0 (by omega) J Sm)
set_option maxRecDepth 100000 in
set_option maxHeartbeats 4000000 in
theorem ct_X9_wordOf_r68_r13_200105 {Dy : jH → Prop} {h0 : jH} {Q : Option Value → jH → Prop} {R23 : Int} (hD : jDk Dy) (hQ : ∀ (v : Int32) hx9, jJ jSgX Dy hx9 → jSm fp_X9_wordOf_r68_r13 h0 hx9 → Q (some (.int v)) hx9) (k23 : ∀ (l2 : Int32) (l3 : Int32) (l4 : Int32) (l5 : Int32) (g0 : Int32) (h : jH), 7 - l5.toInt < R23 → 0 ≤ l3.toInt ∧ l3.toInt ≤ 407 → 0 ≤ l4.toInt ∧ l4.toInt ≤ 1 → 0 ≤ l5.toInt ∧ l5.toInt ≤ 7 → 0 ≤ g0.toInt ∧ g0.toInt ≤ 400 → l3.toInt - l5.toInt ≤ 400 → jiv h 68 3 = g0 → jJ jSgX Dy h → jSm fp_X9_wordOf_r68_r13 h0 h → jX m_X9_wordOf 4 0 0 23 [(0, .ref 68), (1, .ref 13), (2, .int l2), (3, .int l3), (4, .int l4), (5, .int l5)] [] h 0 0 Q) : ∀ (l2 : Int32) (l3 : Int32) (l5 : Int32) (g0 : Int32) (h : jH), 0 ≤ l3.toInt ∧ l3.toInt ≤ 406 → 0 ≤ l5.toInt ∧ l5.toInt ≤ 6 → 0 ≤ g0.toInt ∧ g0.toInt ≤ 400 → l3.toInt - l5.toInt ≤ 400 → jiv h 68 3 = g0 → 7 - l5.toInt ≤ R23 → jJ jSgX Dy h → jSm fp_X9_wordOf_r68_r13 h0 h → jX m_X9_wordOf 4 0 0 105 [(0, .ref 68), (1, .ref 13), (2, .int l2), (3, .int l3), (5, .int l5)] [.int 0] h 0 0 Q := by
  intro l2 l3 l5 g0 h y0 y1 y2 y3 z0 m23 J Sm
  have el2 := jfull l2
  refine x_istore (lsx9 := [(4, .int 0), (0, .ref 68), (1, .ref 13), (2, .int l2), (3, .int l3), (5, .int l5)]) rfl rfl rfl ?_
  refine z_iinc (x := l3) (lsx9 := fun v1 => [(3, .int v1), (4, .int 0), (0, .ref 68), (1, .ref 13), (2, .int l2), (5, .int l5)]) rfl rfl rfl jko_1 (by omega) rfl (fun _ => rfl) (fun v1 ev1 => ?_)
  exact jX.sub (jsb_c rfl (jsb_c rfl (jsb_c rfl (jsb_c rfl (jsb_c rfl (jsb_c rfl jsb_n)))))) (ct_X9_wordOf_r68_r13_110 hD hQ k23 l2 v1 0 l5 g0 h (jr_of rfl (by omega)) (jr_of jk_0 (by omega)) (jr_of rfl (by omega)) (jr_of rfl (by omega)) (by omega) z0 (by omega) J Sm)
set_option maxRecDepth 100000 in
set_option maxHeartbeats 4000000 in
theorem ct_X9_wordOf_r68_r13_104 {Dy : jH → Prop} {h0 : jH} {Q : Option Value → jH → Prop} {R23 : Int} (hD : jDk Dy) (hQ : ∀ (v : Int32) hx9, jJ jSgX Dy hx9 → jSm fp_X9_wordOf_r68_r13 h0 hx9 → Q (some (.int v)) hx9) (k23 : ∀ (l2 : Int32) (l3 : Int32) (l4 : Int32) (l5 : Int32) (g0 : Int32) (h : jH), 7 - l5.toInt < R23 → 0 ≤ l3.toInt ∧ l3.toInt ≤ 407 → 0 ≤ l4.toInt ∧ l4.toInt ≤ 1 → 0 ≤ l5.toInt ∧ l5.toInt ≤ 7 → 0 ≤ g0.toInt ∧ g0.toInt ≤ 400 → l3.toInt - l5.toInt ≤ 400 → jiv h 68 3 = g0 → jJ jSgX Dy h → jSm fp_X9_wordOf_r68_r13 h0 h → jX m_X9_wordOf 4 0 0 23 [(0, .ref 68), (1, .ref 13), (2, .int l2), (3, .int l3), (4, .int l4), (5, .int l5)] [] h 0 0 Q) : ∀ (l2 : Int32) (l3 : Int32) (l5 : Int32) (g0 : Int32) (h : jH), 0 ≤ l3.toInt ∧ l3.toInt ≤ 406 → 0 ≤ l5.toInt ∧ l5.toInt ≤ 6 → 0 ≤ g0.toInt ∧ g0.toInt ≤ 400 → l3.toInt - l5.toInt ≤ 400 → jiv h 68 3 = g0 → 7 - l5.toInt ≤ R23 → jJ jSgX Dy h → jSm fp_X9_wordOf_r68_r13 h0 h → jX m_X9_wordOf 4 0 0 104 [(0, .ref 68), (1, .ref 13), (2, .int l2), (3, .int l3), (5, .int l5)] [] h 0 0 Q := by
  intro l2 l3 l5 g0 h y0 y1 y2 y3 z0 m23 J Sm
  have el2 := jfull l2
  refine x_iconst (v := 0) rfl ki_0 ?_
  exact jX.sub (jsb_c rfl (jsb_c rfl (jsb_c rfl (jsb_c rfl (jsb_c rfl jsb_n))))) (ct_X9_wordOf_r68_r13_200105 hD hQ k23 l2 l3 l5 g0 h (jr_of rfl (by omega)) (jr_of rfl (by omega)) (jr_of rfl (by omega)) (by omega) z0 (by omega) J Sm)
set_option maxRecDepth 100000 in
set_option maxHeartbeats 4000000 in
theorem ct_X9_wordOf_r68_r13_62 {Dy : jH → Prop} {h0 : jH} {Q : Option Value → jH → Prop} {R23 : Int} (hD : jDk Dy) (hQ : ∀ (v : Int32) hx9, jJ jSgX Dy hx9 → jSm fp_X9_wordOf_r68_r13 h0 hx9 → Q (some (.int v)) hx9) (k23 : ∀ (l2 : Int32) (l3 : Int32) (l4 : Int32) (l5 : Int32) (g0 : Int32) (h : jH), 7 - l5.toInt < R23 → 0 ≤ l3.toInt ∧ l3.toInt ≤ 407 → 0 ≤ l4.toInt ∧ l4.toInt ≤ 1 → 0 ≤ l5.toInt ∧ l5.toInt ≤ 7 → 0 ≤ g0.toInt ∧ g0.toInt ≤ 400 → l3.toInt - l5.toInt ≤ 400 → jiv h 68 3 = g0 → jJ jSgX Dy h → jSm fp_X9_wordOf_r68_r13 h0 h → jX m_X9_wordOf 4 0 0 23 [(0, .ref 68), (1, .ref 13), (2, .int l2), (3, .int l3), (4, .int l4), (5, .int l5)] [] h 0 0 Q) : ∀ (l2 : Int32) (l5 : Int32) (g0 : Int32) (h : jH), 0 ≤ l5.toInt ∧ l5.toInt ≤ 6 → 0 ≤ g0.toInt ∧ g0.toInt ≤ 400 → jiv h 68 3 = g0 → 7 - l5.toInt ≤ R23 → jJ jSgX Dy h → jSm fp_X9_wordOf_r68_r13 h0 h → jX m_X9_wordOf 4 0 0 62 [(0, .ref 68), (1, .ref 13), (2, .int l2), (5, .int l5)] [] h 0 0 Q := by
  intro l2 l5 g0 h y0 y1 z0 m23 J Sm
  have el2 := jfull l2
  refine z_iinc0 (x := l2) (lsx9 := fun v1 => [(2, .int v1), (0, .ref 68), (1, .ref 13), (5, .int l5)]) rfl rfl rfl (fun _ => rfl) (fun v1 => ?_)
  have ev1 := jfull v1
  refine x_aloadn (x := 68) rfl rfl ?_
  refine z_getM (N := 6) (v := g0) 9 3 rfl f_9_22 rfl J rfl z0 ?_
  refine x_istoren (lsx9 := [(3, .int g0), (2, .int v1), (0, .ref 68), (1, .ref 13), (5, .int l5)]) rfl rfl rfl ?_
  refine x_iconst (v := 1) rfl ki_1 ?_
  refine x_istore (lsx9 := [(4, .int 1), (3, .int g0), (2, .int v1), (0, .ref 68), (1, .ref 13), (5, .int l5)]) rfl rfl rfl ?_
  refine x_goto (tgt := 110) rfl rfl ?_
  exact jX.sub (jsb_c rfl (jsb_c rfl (jsb_c rfl (jsb_c rfl (jsb_c rfl (jsb_c rfl jsb_n)))))) (ct_X9_wordOf_r68_r13_110 hD hQ k23 v1 g0 1 l5 g0 h (jr_of rfl (by omega)) (jr_of jk_1 (by omega)) (jr_of rfl (by omega)) (jr_of rfl (by omega)) (by omega) z0 (by omega) J Sm)
set_option maxRecDepth 100000 in
set_option maxHeartbeats 4000000 in
theorem ct_X9_wordOf_r68_r13_23 {Dy : jH → Prop} {h0 : jH} {Q : Option Value → jH → Prop} (hD : jDk Dy) (hQ : ∀ (v : Int32) hx9, jJ jSgX Dy hx9 → jSm fp_X9_wordOf_r68_r13 h0 hx9 → Q (some (.int v)) hx9) : ∀ r : Nat, ∀ (l2 : Int32) (l3 : Int32) (l4 : Int32) (l5 : Int32) (g0 : Int32) (h : jH), 7 - l5.toInt < (r : Int) → 0 ≤ l3.toInt ∧ l3.toInt ≤ 407 → 0 ≤ l4.toInt ∧ l4.toInt ≤ 1 → 0 ≤ l5.toInt ∧ l5.toInt ≤ 7 → 0 ≤ g0.toInt ∧ g0.toInt ≤ 400 → l3.toInt - l5.toInt ≤ 400 → jiv h 68 3 = g0 → jJ jSgX Dy h → jSm fp_X9_wordOf_r68_r13 h0 h → jX m_X9_wordOf 4 0 0 23 [(0, .ref 68), (1, .ref 13), (2, .int l2), (3, .int l3), (4, .int l4), (5, .int l5)] [] h 0 0 Q := by
  intro r
  induction r with
  | zero =>
    intro l2 l3 l4 l5 g0 h hm y0 y1 y2 y3 y4 z0  J Sm
    exfalso
    have el2 := jfull l2
    omega
  | succ r ih =>
    intro l2 l3 l4 l5 g0 h hm y0 y1 y2 y3 y4 z0  J Sm
    have el2 := jfull l2
    refine x_iload (x := l5) rfl rfl ?_
    refine x_aloadn (x := 13) rfl rfl ?_
    refine x_invS (N := m_J0_length_8abf5) (i := 8) (As := []) (st := [.int l5]) (dx9 := 1) (by decide) rfl t_J0_length_8abf5 ⟨q_9_38, i_J0_length_8abf5.1, i_J0_length_8abf5.2⟩ rfl rfl (by decide) rfl rfl (zc_slen (N := 7) (v := 7) rfl J rfl rfl (by decide) ?_)
    show jX m_X9_wordOf 4 0 0 29 [(0, .ref 68), (1, .ref 13), (2, .int l2), (3, .int l3), (4, .int l4), (5, .int l5)] [.int 7, .int l5] _ 0 0 _
    refine x_icge (tgt := 116) rfl rfl (ti_ge rfl jk_7 ⟨fun c1 => ?_, fun c1 => ?_⟩)
    ·
      refine x_iconst (v := (-1)) rfl ki_m1 ?_
      refine x_iret rfl rfl ?_
      exact hQ _ _ J Sm
    ·
      refine x_aloadn (x := 13) rfl rfl ?_
      refine x_iload (x := l5) rfl rfl ?_
      refine x_invS (N := m_J0_charAt_5068e) (i := 8) (As := [.int l5]) (st := []) (dx9 := 3) (by decide) rfl t_J0_charAt_5068e ⟨q_9_43, i_J0_charAt_5068e.1, i_J0_charAt_5068e.2⟩ rfl rfl (by decide) rfl rfl (zc_schar (N := 7) rfl J rfl rfl rfl (by omega) (fun v2 ev2 => ?_))
      show jX m_X9_wordOf 4 0 0 38 [(0, .ref 68), (1, .ref 13), (2, .int l2), (3, .int l3), (4, .int l4), (5, .int l5)] [.int v2] _ 0 0 _
      refine x_istore (lsx9 := [(6, .int v2), (0, .ref 68), (1, .ref 13), (2, .int l2), (3, .int l3), (4, .int l4), (5, .int l5)]) rfl rfl rfl ?_
      refine x_iload (x := v2) rfl rfl ?_
      refine x_bipush (v := 32) rfl kb_32 ?_
      refine x_icne (tgt := 76) rfl rfl (ti_ne rfl jk_32 ⟨fun c3 => ?_, fun c3 => ?_⟩)
      ·
        refine x_iload (x := l4) rfl rfl ?_
        refine x_ifeq (tgt := 104) rfl rfl (ti_eq rfl jk_0 ⟨fun c4 => ?_, fun c4 => ?_⟩)
        ·
          exact jX.sub (jsb_c rfl (jsb_c rfl (jsb_c rfl (jsb_c rfl (jsb_c rfl jsb_n))))) (ct_X9_wordOf_r68_r13_104 hD hQ ih l2 l3 l5 g0 h (jr_of rfl (by omega)) (jr_of rfl (by omega)) (jr_of rfl (by omega)) (by omega) z0 (by omega) J Sm)
        ·
          refine x_iloadn (x := l3) rfl rfl ?_
          refine x_aloadn (x := 68) rfl rfl ?_
          refine z_getI (N := 6) 9 4 rfl f_9_25 rfl J rfl sg_68_4_5_1_0_1 (fun v5 qv5 ev5 => ?_)
          refine x_icge (tgt := 104) rfl rfl (ti_ge rfl rfl ⟨fun c6 => ?_, fun c6 => ?_⟩)
          ·
            exact jX.sub (jsb_c rfl (jsb_c rfl (jsb_c rfl (jsb_c rfl (jsb_c rfl jsb_n))))) (ct_X9_wordOf_r68_r13_104 hD hQ ih l2 l3 l5 g0 h (jr_of rfl (by omega)) (jr_of rfl (by omega)) (jr_of rfl (by omega)) (by omega) z0 (by omega) J Sm)
          ·
            refine x_aloadn (x := 68) rfl rfl ?_
            refine z_getR (N := 6) (b := 69) 9 0 rfl f_9_11 rfl J rfl 8704 ⟨rfl, rfl⟩ rfl ?_
            refine x_iloadn (x := l3) rfl rfl ?_
            refine z_iald (N := 400) rfl J rfl sg_69_0_400_1_0_1 rfl (by omega) (fun v7 qv7 ev7 => ?_)
            refine x_iload (x := v2) rfl rfl ?_
            refine x_icne (tgt := 104) rfl rfl (ti_ne rfl rfl ⟨fun c8 => ?_, fun c8 => ?_⟩)
            ·
              exact jX.sub (jsb_c rfl (jsb_c rfl (jsb_c rfl (jsb_c rfl (jsb_c rfl jsb_n))))) (ct_X9_wordOf_r68_r13_104 hD hQ ih l2 l3 l5 g0 h (jr_of rfl (by omega)) (jr_of rfl (by omega)) (jr_of rfl (by omega)) (by omega) z0 (by omega) J Sm)
            ·
              refine x_iconst (v := 1) rfl ki_1 ?_
              refine x_goto (tgt := 105) rfl rfl ?_
              exact jX.sub (jsb_c rfl (jsb_c rfl (jsb_c rfl (jsb_c rfl (jsb_c rfl jsb_n))))) (ct_X9_wordOf_r68_r13_300105 hD hQ ih l2 l3 l5 g0 h (jr_of rfl (by omega)) (jr_of rfl (by omega)) (jr_of rfl (by omega)) (by omega) z0 (by omega) J Sm)
      ·
        refine x_iload (x := l4) rfl rfl ?_
        refine x_ifeq (tgt := 62) rfl rfl (ti_eq rfl jk_0 ⟨fun c9 => ?_, fun c9 => ?_⟩)
        ·
          exact jX.sub (jsb_c rfl (jsb_c rfl (jsb_c rfl (jsb_c rfl jsb_n)))) (ct_X9_wordOf_r68_r13_62 hD hQ ih l2 l5 g0 h (jr_of rfl (by omega)) (jr_of rfl (by omega)) z0 (by omega) J Sm)
        ·
          refine x_iloadn (x := l3) rfl rfl ?_
          refine x_aloadn (x := 68) rfl rfl ?_
          refine z_getI (N := 6) 9 4 rfl f_9_25 rfl J rfl sg_68_4_5_1_0_1 (fun v10 qv10 ev10 => ?_)
          refine x_icne (tgt := 62) rfl rfl (ti_ne rfl rfl ⟨fun c11 => ?_, fun c11 => ?_⟩)
          ·
            exact jX.sub (jsb_c rfl (jsb_c rfl (jsb_c rfl (jsb_c rfl jsb_n)))) (ct_X9_wordOf_r68_r13_62 hD hQ ih l2 l5 g0 h (jr_of rfl (by omega)) (jr_of rfl (by omega)) z0 (by omega) J Sm)
          ·
            refine x_iloadn (x := l2) rfl rfl ?_
            refine x_iret rfl rfl ?_
            exact hQ _ _ J Sm
set_option maxRecDepth 100000 in
set_option maxHeartbeats 4000000 in
theorem sf_X9_wordOf_r68_r13 {Dy : jH → Prop} {h : jH} {Q : Option Value → jH → Prop} (hD : jDk Dy) (J : jJ jSgX Dy h) (hQ : ∀ (v : Int32) hx9, jJ jSgX Dy hx9 → jSm fp_X9_wordOf_r68_r13 h hx9 → Q (some (.int v)) hx9) : jC m_X9_wordOf 4 0 0 [.ref 68, .ref 13] h Q := by
  refine jC.of rfl k_X9_wordOf rfl ?_
  have Sm := jSm_rf fp_X9_wordOf_r68_r13 h
  show jX m_X9_wordOf 4 0 0 0 [(0, .ref 68), (1, .ref 13)] [] _ 0 0 _
  refine x_aloadn (x := 68) rfl rfl ?_
  refine z_getI (N := 6) 9 5 rfl f_9_28 rfl J rfl sg_68_5_6_1_0_1 (fun v1 qv1 ev1 => ?_)
  refine x_iconst (v := 1) rfl ki_1 ?_
  refine x_iceq (tgt := 10) rfl rfl (ti_eq rfl jk_1 ⟨fun c2 => ?_, fun c2 => ?_⟩)
  ·
    refine x_iconst (v := 0) rfl ki_0 ?_
    refine x_istoren (lsx9 := [(2, .int 0), (0, .ref 68), (1, .ref 13)]) rfl rfl rfl ?_
    refine x_aloadn (x := 68) rfl rfl ?_
    refine z_getI (N := 6) 9 3 rfl f_9_22 rfl J rfl sg_68_3_4_1_0_1 (fun v3 qv3 ev3 => ?_)
    refine x_istoren (lsx9 := [(3, .int v3), (2, .int 0), (0, .ref 68), (1, .ref 13)]) rfl rfl rfl ?_
    refine x_iconst (v := 1) rfl ki_1 ?_
    refine x_istore (lsx9 := [(4, .int 1), (3, .int v3), (2, .int 0), (0, .ref 68), (1, .ref 13)]) rfl rfl rfl ?_
    refine x_iconst (v := 0) rfl ki_0 ?_
    refine x_istore (lsx9 := [(5, .int 0), (4, .int 1), (3, .int v3), (2, .int 0), (0, .ref 68), (1, .ref 13)]) rfl rfl rfl ?_
    exact jX.sub (jsb_c rfl (jsb_c rfl (jsb_c rfl (jsb_c rfl (jsb_c rfl (jsb_c rfl jsb_n)))))) (ct_X9_wordOf_r68_r13_23 hD hQ  8 0 v3 1 0 v3 h (by have := jk_0; omega) (jr_of rfl (by omega)) (jr_of jk_1 (by omega)) (jr_of jk_0 (by omega)) (jr_of rfl (by omega)) (by have := jk_0; omega) qv3 J Sm)
  ·
    refine x_iconst (v := (-1)) rfl ki_m1 ?_
    refine x_iret rfl rfl ?_
    exact hQ _ _ J Sm
def fp_X9_wordOf_r68_r5 : jFp := []
set_option maxRecDepth 100000 in
set_option maxHeartbeats 4000000 in
theorem ct_X9_wordOf_r68_r5_110 {Dy : jH → Prop} {h0 : jH} {Q : Option Value → jH → Prop} {R23 : Int} (hD : jDk Dy) (hQ : ∀ (v : Int32) hx9, jJ jSgX Dy hx9 → jSm fp_X9_wordOf_r68_r5 h0 hx9 → Q (some (.int v)) hx9) (k23 : ∀ (l2 : Int32) (l3 : Int32) (l4 : Int32) (l5 : Int32) (g0 : Int32) (h : jH), 53 - l5.toInt < R23 → 0 ≤ l3.toInt ∧ l3.toInt ≤ 453 → 0 ≤ l4.toInt ∧ l4.toInt ≤ 1 → 0 ≤ l5.toInt ∧ l5.toInt ≤ 53 → 0 ≤ g0.toInt ∧ g0.toInt ≤ 400 → l3.toInt - l5.toInt ≤ 400 → jiv h 68 3 = g0 → jJ jSgX Dy h → jSm fp_X9_wordOf_r68_r5 h0 h → jX m_X9_wordOf 4 0 0 23 [(0, .ref 68), (1, .ref 5), (2, .int l2), (3, .int l3), (4, .int l4), (5, .int l5)] [] h 0 0 Q) : ∀ (l2 : Int32) (l3 : Int32) (l4 : Int32) (l5 : Int32) (g0 : Int32) (h : jH), 0 ≤ l3.toInt ∧ l3.toInt ≤ 453 → 0 ≤ l4.toInt ∧ l4.toInt ≤ 1 → 0 ≤ l5.toInt ∧ l5.toInt ≤ 52 → 0 ≤ g0.toInt ∧ g0.toInt ≤ 400 → l3.toInt - l5.toInt ≤ 401 → jiv h 68 3 = g0 → 53 - l5.toInt ≤ R23 → jJ jSgX Dy h → jSm fp_X9_wordOf_r68_r5 h0 h → jX m_X9_wordOf 4 0 0 110 [(0, .ref 68), (1, .ref 5), (2, .int l2), (3, .int l3), (4, .int l4), (5, .int l5)] [] h 0 0 Q := by
  intro l2 l3 l4 l5 g0 h y0 y1 y2 y3 y4 z0 m23 J Sm
  have el2 := jfull l2
  refine z_iinc (x := l5) (lsx9 := fun v1 => [(5, .int v1), (0, .ref 68), (1, .ref 5), (2, .int l2), (3, .int l3), (4, .int l4)]) rfl rfl rfl jko_1 (by omega) rfl (fun _ => rfl) (fun v1 ev1 => ?_)
  refine x_goto (tgt := 23) rfl rfl ?_
  exact jX.sub (jsb_c rfl (jsb_c rfl (jsb_c rfl (jsb_c rfl (jsb_c rfl (jsb_c rfl jsb_n)))))) (k23 l2 l3 l4 v1 g0 h (by omega) (jr_of rfl (by omega)) (jr_of rfl (by omega)) (jr_of rfl (by omega)) (jr_of rfl (by omega)) (by omega) z0 J Sm)
set_option maxRecDepth 100000 in
set_option maxHeartbeats 4000000 in
theorem ct_X9_wordOf_r68_r5_300105 {Dy : jH → Prop} {h0 : jH} {Q : Option Value → jH → Prop} {R23 : Int} (hD : jDk Dy) (hQ : ∀ (v : Int32) hx9, jJ jSgX Dy hx9 → jSm fp_X9_wordOf_r68_r5 h0 hx9 → Q (some (.int v)) hx9) (k23 : ∀ (l2 : Int32) (l3 : Int32) (l4 : Int32) (l5 : Int32) (g0 : Int32) (h : jH), 53 - l5.toInt < R23 → 0 ≤ l3.toInt ∧ l3.toInt ≤ 453 → 0 ≤ l4.toInt ∧ l4.toInt ≤ 1 → 0 ≤ l5.toInt ∧ l5.toInt ≤ 53 → 0 ≤ g0.toInt ∧ g0.toInt ≤ 400 → l3.toInt - l5.toInt ≤ 400 → jiv h 68 3 = g0 → jJ jSgX Dy h → jSm fp_X9_wordOf_r68_r5 h0 h → jX m_X9_wordOf 4 0 0 23 [(0, .ref 68), (1, .ref 5), (2, .int l2), (3, .int l3), (4, .int l4), (5, .int l5)] [] h 0 0 Q) : ∀ (l2 : Int32) (l3 : Int32) (l5 : Int32) (g0 : Int32) (h : jH), 0 ≤ l3.toInt ∧ l3.toInt ≤ 399 → 0 ≤ l5.toInt ∧ l5.toInt ≤ 52 → 0 ≤ g0.toInt ∧ g0.toInt ≤ 400 → l3.toInt - l5.toInt ≤ 400 → jiv h 68 3 = g0 → 53 - l5.toInt ≤ R23 → jJ jSgX Dy h → jSm fp_X9_wordOf_r68_r5 h0 h → jX m_X9_wordOf 4 0 0 105 [(0, .ref 68), (1, .ref 5), (2, .int l2), (3, .int l3), (5, .int l5)] [.int 1] h 0 0 Q := by
  intro l2 l3 l5 g0 h y0 y1 y2 y3 z0 m23 J Sm
  have el2 := jfull l2
  refine x_istore (lsx9 := [(4, .int 1), (0, .ref 68), (1, .ref 5), (2, .int l2), (3, .int l3), (5, .int l5)]) rfl rfl rfl ?_
  refine z_iinc (x := l3) (lsx9 := fun v1 => [(3, .int v1), (4, .int 1), (0, .ref 68), (1, .ref 5), (2, .int l2), (5, .int l5)]) rfl rfl rfl jko_1 (by omega) rfl (fun _ => rfl) (fun v1 ev1 => ?_)
  exact jX.sub (jsb_c rfl (jsb_c rfl (jsb_c rfl (jsb_c rfl (jsb_c rfl (jsb_c rfl jsb_n)))))) (ct_X9_wordOf_r68_r5_110 hD hQ k23 l2 v1 1 l5 g0 h (jr_of rfl (by omega)) (jr_of jk_1 (by omega)) (jr_of rfl (by omega)) (jr_of rfl (by omega)) (by omega) z0 (by omega) J Sm)
set_option maxRecDepth 100000 in
set_option maxHeartbeats 4000000 in
theorem ct_X9_wordOf_r68_r5_200105 {Dy : jH → Prop} {h0 : jH} {Q : Option Value → jH → Prop} {R23 : Int} (hD : jDk Dy) (hQ : ∀ (v : Int32) hx9, jJ jSgX Dy hx9 → jSm fp_X9_wordOf_r68_r5 h0 hx9 → Q (some (.int v)) hx9) (k23 : ∀ (l2 : Int32) (l3 : Int32) (l4 : Int32) (l5 : Int32) (g0 : Int32) (h : jH), 53 - l5.toInt < R23 → 0 ≤ l3.toInt ∧ l3.toInt ≤ 453 → 0 ≤ l4.toInt ∧ l4.toInt ≤ 1 → 0 ≤ l5.toInt ∧ l5.toInt ≤ 53 → 0 ≤ g0.toInt ∧ g0.toInt ≤ 400 → l3.toInt - l5.toInt ≤ 400 → jiv h 68 3 = g0 → jJ jSgX Dy h → jSm fp_X9_wordOf_r68_r5 h0 h → jX m_X9_wordOf 4 0 0 23 [(0, .ref 68), (1, .ref 5), (2, .int l2), (3, .int l3), (4, .int l4), (5, .int l5)] [] h 0 0 Q) : ∀ (l2 : Int32) (l3 : Int32) (l5 : Int32) (g0 : Int32) (h : jH), 0 ≤ l3.toInt ∧ l3.toInt ≤ 452 → 0 ≤ l5.toInt ∧ l5.toInt ≤ 52 → 0 ≤ g0.toInt ∧ g0.toInt ≤ 400 → l3.toInt - l5.toInt ≤ 400 → jiv h 68 3 = g0 → 53 - l5.toInt ≤ R23 → jJ jSgX Dy h → jSm fp_X9_wordOf_r68_r5 h0 h → jX m_X9_wordOf 4 0 0 105 [(0, .ref 68), (1, .ref 5), (2, .int l2), (3, .int l3), (5, .int l5)] [.int 0] h 0 0 Q := by
  intro l2 l3 l5 g0 h y0 y1 y2 y3 z0 m23 J Sm
  have el2 := jfull l2
  refine x_istore (lsx9 := [(4, .int 0), (0, .ref 68), (1, .ref 5), (2, .int l2), (3, .int l3), (5, .int l5)]) rfl rfl rfl ?_
  refine z_iinc (x := l3) (lsx9 := fun v1 => [(3, .int v1), (4, .int 0), (0, .ref 68), (1, .ref 5), (2, .int l2), (5, .int l5)]) rfl rfl rfl jko_1 (by omega) rfl (fun _ => rfl) (fun v1 ev1 => ?_)
  exact jX.sub (jsb_c rfl (jsb_c rfl (jsb_c rfl (jsb_c rfl (jsb_c rfl (jsb_c rfl jsb_n)))))) (ct_X9_wordOf_r68_r5_110 hD hQ k23 l2 v1 0 l5 g0 h (jr_of rfl (by omega)) (jr_of jk_0 (by omega)) (jr_of rfl (by omega)) (jr_of rfl (by omega)) (by omega) z0 (by omega) J Sm)
set_option maxRecDepth 100000 in
set_option maxHeartbeats 4000000 in
theorem ct_X9_wordOf_r68_r5_104 {Dy : jH → Prop} {h0 : jH} {Q : Option Value → jH → Prop} {R23 : Int} (hD : jDk Dy) (hQ : ∀ (v : Int32) hx9, jJ jSgX Dy hx9 → jSm fp_X9_wordOf_r68_r5 h0 hx9 → Q (some (.int v)) hx9) (k23 : ∀ (l2 : Int32) (l3 : Int32) (l4 : Int32) (l5 : Int32) (g0 : Int32) (h : jH), 53 - l5.toInt < R23 → 0 ≤ l3.toInt ∧ l3.toInt ≤ 453 → 0 ≤ l4.toInt ∧ l4.toInt ≤ 1 → 0 ≤ l5.toInt ∧ l5.toInt ≤ 53 → 0 ≤ g0.toInt ∧ g0.toInt ≤ 400 → l3.toInt - l5.toInt ≤ 400 → jiv h 68 3 = g0 → jJ jSgX Dy h → jSm fp_X9_wordOf_r68_r5 h0 h → jX m_X9_wordOf 4 0 0 23 [(0, .ref 68), (1, .ref 5), (2, .int l2), (3, .int l3), (4, .int l4), (5, .int l5)] [] h 0 0 Q) : ∀ (l2 : Int32) (l3 : Int32) (l5 : Int32) (g0 : Int32) (h : jH), 0 ≤ l3.toInt ∧ l3.toInt ≤ 452 → 0 ≤ l5.toInt ∧ l5.toInt ≤ 52 → 0 ≤ g0.toInt ∧ g0.toInt ≤ 400 → l3.toInt - l5.toInt ≤ 400 → jiv h 68 3 = g0 → 53 - l5.toInt ≤ R23 → jJ jSgX Dy h → jSm fp_X9_wordOf_r68_r5 h0 h → jX m_X9_wordOf 4 0 0 104 [(0, .ref 68), (1, .ref 5), (2, .int l2), (3, .int l3), (5, .int l5)] [] h 0 0 Q := by
  intro l2 l3 l5 g0 h y0 y1 y2 y3 z0 m23 J Sm
  have el2 := jfull l2
  refine x_iconst (v := 0) rfl ki_0 ?_
  exact jX.sub (jsb_c rfl (jsb_c rfl (jsb_c rfl (jsb_c rfl (jsb_c rfl jsb_n))))) (ct_X9_wordOf_r68_r5_200105 hD hQ k23 l2 l3 l5 g0 h (jr_of rfl (by omega)) (jr_of rfl (by omega)) (jr_of rfl (by omega)) (by omega) z0 (by omega) J Sm)
set_option maxRecDepth 100000 in
set_option maxHeartbeats 4000000 in
theorem ct_X9_wordOf_r68_r5_62 {Dy : jH → Prop} {h0 : jH} {Q : Option Value → jH → Prop} {R23 : Int} (hD : jDk Dy) (hQ : ∀ (v : Int32) hx9, jJ jSgX Dy hx9 → jSm fp_X9_wordOf_r68_r5 h0 hx9 → Q (some (.int v)) hx9) (k23 : ∀ (l2 : Int32) (l3 : Int32) (l4 : Int32) (l5 : Int32) (g0 : Int32) (h : jH), 53 - l5.toInt < R23 → 0 ≤ l3.toInt ∧ l3.toInt ≤ 453 → 0 ≤ l4.toInt ∧ l4.toInt ≤ 1 → 0 ≤ l5.toInt ∧ l5.toInt ≤ 53 → 0 ≤ g0.toInt ∧ g0.toInt ≤ 400 → l3.toInt - l5.toInt ≤ 400 → jiv h 68 3 = g0 → jJ jSgX Dy h → jSm fp_X9_wordOf_r68_r5 h0 h → jX m_X9_wordOf 4 0 0 23 [(0, .ref 68), (1, .ref 5), (2, .int l2), (3, .int l3), (4, .int l4), (5, .int l5)] [] h 0 0 Q) : ∀ (l2 : Int32) (l5 : Int32) (g0 : Int32) (h : jH), 0 ≤ l5.toInt ∧ l5.toInt ≤ 52 → 0 ≤ g0.toInt ∧ g0.toInt ≤ 400 → jiv h 68 3 = g0 → 53 - l5.toInt ≤ R23 → jJ jSgX Dy h → jSm fp_X9_wordOf_r68_r5 h0 h → jX m_X9_wordOf 4 0 0 62 [(0, .ref 68), (1, .ref 5), (2, .int l2), (5, .int l5)] [] h 0 0 Q := by
  intro l2 l5 g0 h y0 y1 z0 m23 J Sm
  have el2 := jfull l2
  refine z_iinc0 (x := l2) (lsx9 := fun v1 => [(2, .int v1), (0, .ref 68), (1, .ref 5), (5, .int l5)]) rfl rfl rfl (fun _ => rfl) (fun v1 => ?_)
  have ev1 := jfull v1
  refine x_aloadn (x := 68) rfl rfl ?_
  refine z_getM (N := 6) (v := g0) 9 3 rfl f_9_22 rfl J rfl z0 ?_
  refine x_istoren (lsx9 := [(3, .int g0), (2, .int v1), (0, .ref 68), (1, .ref 5), (5, .int l5)]) rfl rfl rfl ?_
  refine x_iconst (v := 1) rfl ki_1 ?_
  refine x_istore (lsx9 := [(4, .int 1), (3, .int g0), (2, .int v1), (0, .ref 68), (1, .ref 5), (5, .int l5)]) rfl rfl rfl ?_
  refine x_goto (tgt := 110) rfl rfl ?_
  exact jX.sub (jsb_c rfl (jsb_c rfl (jsb_c rfl (jsb_c rfl (jsb_c rfl (jsb_c rfl jsb_n)))))) (ct_X9_wordOf_r68_r5_110 hD hQ k23 v1 g0 1 l5 g0 h (jr_of rfl (by omega)) (jr_of jk_1 (by omega)) (jr_of rfl (by omega)) (jr_of rfl (by omega)) (by omega) z0 (by omega) J Sm)
set_option maxRecDepth 100000 in
set_option maxHeartbeats 4000000 in
theorem ct_X9_wordOf_r68_r5_23 {Dy : jH → Prop} {h0 : jH} {Q : Option Value → jH → Prop} (hD : jDk Dy) (hQ : ∀ (v : Int32) hx9, jJ jSgX Dy hx9 → jSm fp_X9_wordOf_r68_r5 h0 hx9 → Q (some (.int v)) hx9) : ∀ r : Nat, ∀ (l2 : Int32) (l3 : Int32) (l4 : Int32) (l5 : Int32) (g0 : Int32) (h : jH), 53 - l5.toInt < (r : Int) → 0 ≤ l3.toInt ∧ l3.toInt ≤ 453 → 0 ≤ l4.toInt ∧ l4.toInt ≤ 1 → 0 ≤ l5.toInt ∧ l5.toInt ≤ 53 → 0 ≤ g0.toInt ∧ g0.toInt ≤ 400 → l3.toInt - l5.toInt ≤ 400 → jiv h 68 3 = g0 → jJ jSgX Dy h → jSm fp_X9_wordOf_r68_r5 h0 h → jX m_X9_wordOf 4 0 0 23 [(0, .ref 68), (1, .ref 5), (2, .int l2), (3, .int l3), (4, .int l4), (5, .int l5)] [] h 0 0 Q := by
  intro r
  induction r with
  | zero =>
    intro l2 l3 l4 l5 g0 h hm y0 y1 y2 y3 y4 z0  J Sm
    exfalso
    have el2 := jfull l2
    omega
  | succ r ih =>
    intro l2 l3 l4 l5 g0 h hm y0 y1 y2 y3 y4 z0  J Sm
    have el2 := jfull l2
    refine x_iload (x := l5) rfl rfl ?_
    refine x_aloadn (x := 5) rfl rfl ?_
    refine x_invS (N := m_J0_length_8abf5) (i := 0) (As := []) (st := [.int l5]) (dx9 := 1) (by decide) rfl t_J0_length_8abf5 ⟨q_9_38, i_J0_length_8abf5.1, i_J0_length_8abf5.2⟩ rfl rfl (by decide) rfl rfl (zc_slen (N := 53) (v := 53) rfl J rfl rfl (by decide) ?_)
    show jX m_X9_wordOf 4 0 0 29 [(0, .ref 68), (1, .ref 5), (2, .int l2), (3, .int l3), (4, .int l4), (5, .int l5)] [.int 53, .int l5] _ 0 0 _
    refine x_icge (tgt := 116) rfl rfl (ti_ge rfl jk_53 ⟨fun c1 => ?_, fun c1 => ?_⟩)
    ·
      refine x_iconst (v := (-1)) rfl ki_m1 ?_
      refine x_iret rfl rfl ?_
      exact hQ _ _ J Sm
    ·
      refine x_aloadn (x := 5) rfl rfl ?_
      refine x_iload (x := l5) rfl rfl ?_
      refine x_invS (N := m_J0_charAt_5068e) (i := 0) (As := [.int l5]) (st := []) (dx9 := 3) (by decide) rfl t_J0_charAt_5068e ⟨q_9_43, i_J0_charAt_5068e.1, i_J0_charAt_5068e.2⟩ rfl rfl (by decide) rfl rfl (zc_schar (N := 53) rfl J rfl rfl rfl (by omega) (fun v2 ev2 => ?_))
      show jX m_X9_wordOf 4 0 0 38 [(0, .ref 68), (1, .ref 5), (2, .int l2), (3, .int l3), (4, .int l4), (5, .int l5)] [.int v2] _ 0 0 _
      refine x_istore (lsx9 := [(6, .int v2), (0, .ref 68), (1, .ref 5), (2, .int l2), (3, .int l3), (4, .int l4), (5, .int l5)]) rfl rfl rfl ?_
      refine x_iload (x := v2) rfl rfl ?_
      refine x_bipush (v := 32) rfl kb_32 ?_
      refine x_icne (tgt := 76) rfl rfl (ti_ne rfl jk_32 ⟨fun c3 => ?_, fun c3 => ?_⟩)
      ·
        refine x_iload (x := l4) rfl rfl ?_
        refine x_ifeq (tgt := 104) rfl rfl (ti_eq rfl jk_0 ⟨fun c4 => ?_, fun c4 => ?_⟩)
        ·
          exact jX.sub (jsb_c rfl (jsb_c rfl (jsb_c rfl (jsb_c rfl (jsb_c rfl jsb_n))))) (ct_X9_wordOf_r68_r5_104 hD hQ ih l2 l3 l5 g0 h (jr_of rfl (by omega)) (jr_of rfl (by omega)) (jr_of rfl (by omega)) (by omega) z0 (by omega) J Sm)
        ·
          refine x_iloadn (x := l3) rfl rfl ?_
          refine x_aloadn (x := 68) rfl rfl ?_
          refine z_getI (N := 6) 9 4 rfl f_9_25 rfl J rfl sg_68_4_5_1_0_1 (fun v5 qv5 ev5 => ?_)
          refine x_icge (tgt := 104) rfl rfl (ti_ge rfl rfl ⟨fun c6 => ?_, fun c6 => ?_⟩)
          ·
            exact jX.sub (jsb_c rfl (jsb_c rfl (jsb_c rfl (jsb_c rfl (jsb_c rfl jsb_n))))) (ct_X9_wordOf_r68_r5_104 hD hQ ih l2 l3 l5 g0 h (jr_of rfl (by omega)) (jr_of rfl (by omega)) (jr_of rfl (by omega)) (by omega) z0 (by omega) J Sm)
          ·
            refine x_aloadn (x := 68) rfl rfl ?_
            refine z_getR (N := 6) (b := 69) 9 0 rfl f_9_11 rfl J rfl 8704 ⟨rfl, rfl⟩ rfl ?_
            refine x_iloadn (x := l3) rfl rfl ?_
            refine z_iald (N := 400) rfl J rfl sg_69_0_400_1_0_1 rfl (by omega) (fun v7 qv7 ev7 => ?_)
            refine x_iload (x := v2) rfl rfl ?_
            refine x_icne (tgt := 104) rfl rfl (ti_ne rfl rfl ⟨fun c8 => ?_, fun c8 => ?_⟩)
            ·
              exact jX.sub (jsb_c rfl (jsb_c rfl (jsb_c rfl (jsb_c rfl (jsb_c rfl jsb_n))))) (ct_X9_wordOf_r68_r5_104 hD hQ ih l2 l3 l5 g0 h (jr_of rfl (by omega)) (jr_of rfl (by omega)) (jr_of rfl (by omega)) (by omega) z0 (by omega) J Sm)
            ·
              refine x_iconst (v := 1) rfl ki_1 ?_
              refine x_goto (tgt := 105) rfl rfl ?_
              exact jX.sub (jsb_c rfl (jsb_c rfl (jsb_c rfl (jsb_c rfl (jsb_c rfl jsb_n))))) (ct_X9_wordOf_r68_r5_300105 hD hQ ih l2 l3 l5 g0 h (jr_of rfl (by omega)) (jr_of rfl (by omega)) (jr_of rfl (by omega)) (by omega) z0 (by omega) J Sm)
      ·
        refine x_iload (x := l4) rfl rfl ?_
        refine x_ifeq (tgt := 62) rfl rfl (ti_eq rfl jk_0 ⟨fun c9 => ?_, fun c9 => ?_⟩)
        ·
          exact jX.sub (jsb_c rfl (jsb_c rfl (jsb_c rfl (jsb_c rfl jsb_n)))) (ct_X9_wordOf_r68_r5_62 hD hQ ih l2 l5 g0 h (jr_of rfl (by omega)) (jr_of rfl (by omega)) z0 (by omega) J Sm)
        ·
          refine x_iloadn (x := l3) rfl rfl ?_
          refine x_aloadn (x := 68) rfl rfl ?_
          refine z_getI (N := 6) 9 4 rfl f_9_25 rfl J rfl sg_68_4_5_1_0_1 (fun v10 qv10 ev10 => ?_)
          refine x_icne (tgt := 62) rfl rfl (ti_ne rfl rfl ⟨fun c11 => ?_, fun c11 => ?_⟩)
          ·
            exact jX.sub (jsb_c rfl (jsb_c rfl (jsb_c rfl (jsb_c rfl jsb_n)))) (ct_X9_wordOf_r68_r5_62 hD hQ ih l2 l5 g0 h (jr_of rfl (by omega)) (jr_of rfl (by omega)) z0 (by omega) J Sm)
          ·
            refine x_iloadn (x := l2) rfl rfl ?_
            refine x_iret rfl rfl ?_
            exact hQ _ _ J Sm
set_option maxRecDepth 100000 in
set_option maxHeartbeats 4000000 in
theorem sf_X9_wordOf_r68_r5 {Dy : jH → Prop} {h : jH} {Q : Option Value → jH → Prop} (hD : jDk Dy) (J : jJ jSgX Dy h) (hQ : ∀ (v : Int32) hx9, jJ jSgX Dy hx9 → jSm fp_X9_wordOf_r68_r5 h hx9 → Q (some (.int v)) hx9) : jC m_X9_wordOf 4 0 0 [.ref 68, .ref 5] h Q := by
  refine jC.of rfl k_X9_wordOf rfl ?_
  have Sm := jSm_rf fp_X9_wordOf_r68_r5 h
  show jX m_X9_wordOf 4 0 0 0 [(0, .ref 68), (1, .ref 5)] [] _ 0 0 _
  refine x_aloadn (x := 68) rfl rfl ?_
  refine z_getI (N := 6) 9 5 rfl f_9_28 rfl J rfl sg_68_5_6_1_0_1 (fun v1 qv1 ev1 => ?_)
  refine x_iconst (v := 1) rfl ki_1 ?_
  refine x_iceq (tgt := 10) rfl rfl (ti_eq rfl jk_1 ⟨fun c2 => ?_, fun c2 => ?_⟩)
  ·
    refine x_iconst (v := 0) rfl ki_0 ?_
    refine x_istoren (lsx9 := [(2, .int 0), (0, .ref 68), (1, .ref 5)]) rfl rfl rfl ?_
    refine x_aloadn (x := 68) rfl rfl ?_
    refine z_getI (N := 6) 9 3 rfl f_9_22 rfl J rfl sg_68_3_4_1_0_1 (fun v3 qv3 ev3 => ?_)
    refine x_istoren (lsx9 := [(3, .int v3), (2, .int 0), (0, .ref 68), (1, .ref 5)]) rfl rfl rfl ?_
    refine x_iconst (v := 1) rfl ki_1 ?_
    refine x_istore (lsx9 := [(4, .int 1), (3, .int v3), (2, .int 0), (0, .ref 68), (1, .ref 5)]) rfl rfl rfl ?_
    refine x_iconst (v := 0) rfl ki_0 ?_
    refine x_istore (lsx9 := [(5, .int 0), (4, .int 1), (3, .int v3), (2, .int 0), (0, .ref 68), (1, .ref 5)]) rfl rfl rfl ?_
    exact jX.sub (jsb_c rfl (jsb_c rfl (jsb_c rfl (jsb_c rfl (jsb_c rfl (jsb_c rfl jsb_n)))))) (ct_X9_wordOf_r68_r5_23 hD hQ  54 0 v3 1 0 v3 h (by have := jk_0; omega) (jr_of rfl (by omega)) (jr_of jk_1 (by omega)) (jr_of jk_0 (by omega)) (jr_of rfl (by omega)) (by have := jk_0; omega) qv3 J Sm)
  ·
    refine x_iconst (v := (-1)) rfl ki_m1 ?_
    refine x_iret rfl rfl ?_
    exact hQ _ _ J Sm
def fp_X9_wordOf_r68_r6 : jFp := []
set_option maxRecDepth 100000 in
set_option maxHeartbeats 4000000 in
theorem ct_X9_wordOf_r68_r6_110 {Dy : jH → Prop} {h0 : jH} {Q : Option Value → jH → Prop} {R23 : Int} (hD : jDk Dy) (hQ : ∀ (v : Int32) hx9, jJ jSgX Dy hx9 → jSm fp_X9_wordOf_r68_r6 h0 hx9 → Q (some (.int v)) hx9) (k23 : ∀ (l2 : Int32) (l3 : Int32) (l4 : Int32) (l5 : Int32) (g0 : Int32) (h : jH), 7 - l5.toInt < R23 → 0 ≤ l3.toInt ∧ l3.toInt ≤ 407 → 0 ≤ l4.toInt ∧ l4.toInt ≤ 1 → 0 ≤ l5.toInt ∧ l5.toInt ≤ 7 → 0 ≤ g0.toInt ∧ g0.toInt ≤ 400 → l3.toInt - l5.toInt ≤ 400 → jiv h 68 3 = g0 → jJ jSgX Dy h → jSm fp_X9_wordOf_r68_r6 h0 h → jX m_X9_wordOf 4 0 0 23 [(0, .ref 68), (1, .ref 6), (2, .int l2), (3, .int l3), (4, .int l4), (5, .int l5)] [] h 0 0 Q) : ∀ (l2 : Int32) (l3 : Int32) (l4 : Int32) (l5 : Int32) (g0 : Int32) (h : jH), 0 ≤ l3.toInt ∧ l3.toInt ≤ 407 → 0 ≤ l4.toInt ∧ l4.toInt ≤ 1 → 0 ≤ l5.toInt ∧ l5.toInt ≤ 6 → 0 ≤ g0.toInt ∧ g0.toInt ≤ 400 → l3.toInt - l5.toInt ≤ 401 → jiv h 68 3 = g0 → 7 - l5.toInt ≤ R23 → jJ jSgX Dy h → jSm fp_X9_wordOf_r68_r6 h0 h → jX m_X9_wordOf 4 0 0 110 [(0, .ref 68), (1, .ref 6), (2, .int l2), (3, .int l3), (4, .int l4), (5, .int l5)] [] h 0 0 Q := by
  intro l2 l3 l4 l5 g0 h y0 y1 y2 y3 y4 z0 m23 J Sm
  have el2 := jfull l2
  refine z_iinc (x := l5) (lsx9 := fun v1 => [(5, .int v1), (0, .ref 68), (1, .ref 6), (2, .int l2), (3, .int l3), (4, .int l4)]) rfl rfl rfl jko_1 (by omega) rfl (fun _ => rfl) (fun v1 ev1 => ?_)
  refine x_goto (tgt := 23) rfl rfl ?_
  exact jX.sub (jsb_c rfl (jsb_c rfl (jsb_c rfl (jsb_c rfl (jsb_c rfl (jsb_c rfl jsb_n)))))) (k23 l2 l3 l4 v1 g0 h (by omega) (jr_of rfl (by omega)) (jr_of rfl (by omega)) (jr_of rfl (by omega)) (jr_of rfl (by omega)) (by omega) z0 J Sm)
set_option maxRecDepth 100000 in
set_option maxHeartbeats 4000000 in
theorem ct_X9_wordOf_r68_r6_300105 {Dy : jH → Prop} {h0 : jH} {Q : Option Value → jH → Prop} {R23 : Int} (hD : jDk Dy) (hQ : ∀ (v : Int32) hx9, jJ jSgX Dy hx9 → jSm fp_X9_wordOf_r68_r6 h0 hx9 → Q (some (.int v)) hx9) (k23 : ∀ (l2 : Int32) (l3 : Int32) (l4 : Int32) (l5 : Int32) (g0 : Int32) (h : jH), 7 - l5.toInt < R23 → 0 ≤ l3.toInt ∧ l3.toInt ≤ 407 → 0 ≤ l4.toInt ∧ l4.toInt ≤ 1 → 0 ≤ l5.toInt ∧ l5.toInt ≤ 7 → 0 ≤ g0.toInt ∧ g0.toInt ≤ 400 → l3.toInt - l5.toInt ≤ 400 → jiv h 68 3 = g0 → jJ jSgX Dy h → jSm fp_X9_wordOf_r68_r6 h0 h → jX m_X9_wordOf 4 0 0 23 [(0, .ref 68), (1, .ref 6), (2, .int l2), (3, .int l3), (4, .int l4), (5, .int l5)] [] h 0 0 Q) : ∀ (l2 : Int32) (l3 : Int32) (l5 : Int32) (g0 : Int32) (h : jH), 0 ≤ l3.toInt ∧ l3.toInt ≤ 399 → 0 ≤ l5.toInt ∧ l5.toInt ≤ 6 → 0 ≤ g0.toInt ∧ g0.toInt ≤ 400 → l3.toInt - l5.toInt ≤ 400 → jiv h 68 3 = g0 → 7 - l5.toInt ≤ R23 → jJ jSgX Dy h → jSm fp_X9_wordOf_r68_r6 h0 h → jX m_X9_wordOf 4 0 0 105 [(0, .ref 68), (1, .ref 6), (2, .int l2), (3, .int l3), (5, .int l5)] [.int 1] h 0 0 Q := by
  intro l2 l3 l5 g0 h y0 y1 y2 y3 z0 m23 J Sm
  have el2 := jfull l2
  refine x_istore (lsx9 := [(4, .int 1), (0, .ref 68), (1, .ref 6), (2, .int l2), (3, .int l3), (5, .int l5)]) rfl rfl rfl ?_
  refine z_iinc (x := l3) (lsx9 := fun v1 => [(3, .int v1), (4, .int 1), (0, .ref 68), (1, .ref 6), (2, .int l2), (5, .int l5)]) rfl rfl rfl jko_1 (by omega) rfl (fun _ => rfl) (fun v1 ev1 => ?_)
  exact jX.sub (jsb_c rfl (jsb_c rfl (jsb_c rfl (jsb_c rfl (jsb_c rfl (jsb_c rfl jsb_n)))))) (ct_X9_wordOf_r68_r6_110 hD hQ k23 l2 v1 1 l5 g0 h (jr_of rfl (by omega)) (jr_of jk_1 (by omega)) (jr_of rfl (by omega)) (jr_of rfl (by omega)) (by omega) z0 (by omega) J Sm)
set_option maxRecDepth 100000 in
set_option maxHeartbeats 4000000 in
theorem ct_X9_wordOf_r68_r6_200105 {Dy : jH → Prop} {h0 : jH} {Q : Option Value → jH → Prop} {R23 : Int} (hD : jDk Dy) (hQ : ∀ (v : Int32) hx9, jJ jSgX Dy hx9 → jSm fp_X9_wordOf_r68_r6 h0 hx9 → Q (some (.int v)) hx9) (k23 : ∀ (l2 : Int32) (l3 : Int32) (l4 : Int32) (l5 : Int32) (g0 : Int32) (h : jH), 7 - l5.toInt < R23 → 0 ≤ l3.toInt ∧ l3.toInt ≤ 407 → 0 ≤ l4.toInt ∧ l4.toInt ≤ 1 → 0 ≤ l5.toInt ∧ l5.toInt ≤ 7 → 0 ≤ g0.toInt ∧ g0.toInt ≤ 400 → l3.toInt - l5.toInt ≤ 400 → jiv h 68 3 = g0 → jJ jSgX Dy h → jSm fp_X9_wordOf_r68_r6 h0 h → jX m_X9_wordOf 4 0 0 23 [(0, .ref 68), (1, .ref 6), (2, .int l2), (3, .int l3), (4, .int l4), (5, .int l5)] [] h 0 0 Q) : ∀ (l2 : Int32) (l3 : Int32) (l5 : Int32) (g0 : Int32) (h : jH), 0 ≤ l3.toInt ∧ l3.toInt ≤ 406 → 0 ≤ l5.toInt ∧ l5.toInt ≤ 6 → 0 ≤ g0.toInt ∧ g0.toInt ≤ 400 → l3.toInt - l5.toInt ≤ 400 → jiv h 68 3 = g0 → 7 - l5.toInt ≤ R23 → jJ jSgX Dy h → jSm fp_X9_wordOf_r68_r6 h0 h → jX m_X9_wordOf 4 0 0 105 [(0, .ref 68), (1, .ref 6), (2, .int l2), (3, .int l3), (5, .int l5)] [.int 0] h 0 0 Q := by
  intro l2 l3 l5 g0 h y0 y1 y2 y3 z0 m23 J Sm
  have el2 := jfull l2
  refine x_istore (lsx9 := [(4, .int 0), (0, .ref 68), (1, .ref 6), (2, .int l2), (3, .int l3), (5, .int l5)]) rfl rfl rfl ?_
  refine z_iinc (x := l3) (lsx9 := fun v1 => [(3, .int v1), (4, .int 0), (0, .ref 68), (1, .ref 6), (2, .int l2), (5, .int l5)]) rfl rfl rfl jko_1 (by omega) rfl (fun _ => rfl) (fun v1 ev1 => ?_)
  exact jX.sub (jsb_c rfl (jsb_c rfl (jsb_c rfl (jsb_c rfl (jsb_c rfl (jsb_c rfl jsb_n)))))) (ct_X9_wordOf_r68_r6_110 hD hQ k23 l2 v1 0 l5 g0 h (jr_of rfl (by omega)) (jr_of jk_0 (by omega)) (jr_of rfl (by omega)) (jr_of rfl (by omega)) (by omega) z0 (by omega) J Sm)
set_option maxRecDepth 100000 in
set_option maxHeartbeats 4000000 in
theorem ct_X9_wordOf_r68_r6_104 {Dy : jH → Prop} {h0 : jH} {Q : Option Value → jH → Prop} {R23 : Int} (hD : jDk Dy) (hQ : ∀ (v : Int32) hx9, jJ jSgX Dy hx9 → jSm fp_X9_wordOf_r68_r6 h0 hx9 → Q (some (.int v)) hx9) (k23 : ∀ (l2 : Int32) (l3 : Int32) (l4 : Int32) (l5 : Int32) (g0 : Int32) (h : jH), 7 - l5.toInt < R23 → 0 ≤ l3.toInt ∧ l3.toInt ≤ 407 → 0 ≤ l4.toInt ∧ l4.toInt ≤ 1 → 0 ≤ l5.toInt ∧ l5.toInt ≤ 7 → 0 ≤ g0.toInt ∧ g0.toInt ≤ 400 → l3.toInt - l5.toInt ≤ 400 → jiv h 68 3 = g0 → jJ jSgX Dy h → jSm fp_X9_wordOf_r68_r6 h0 h → jX m_X9_wordOf 4 0 0 23 [(0, .ref 68), (1, .ref 6), (2, .int l2), (3, .int l3), (4, .int l4), (5, .int l5)] [] h 0 0 Q) : ∀ (l2 : Int32) (l3 : Int32) (l5 : Int32) (g0 : Int32) (h : jH), 0 ≤ l3.toInt ∧ l3.toInt ≤ 406 → 0 ≤ l5.toInt ∧ l5.toInt ≤ 6 → 0 ≤ g0.toInt ∧ g0.toInt ≤ 400 → l3.toInt - l5.toInt ≤ 400 → jiv h 68 3 = g0 → 7 - l5.toInt ≤ R23 → jJ jSgX Dy h → jSm fp_X9_wordOf_r68_r6 h0 h → jX m_X9_wordOf 4 0 0 104 [(0, .ref 68), (1, .ref 6), (2, .int l2), (3, .int l3), (5, .int l5)] [] h 0 0 Q := by
  intro l2 l3 l5 g0 h y0 y1 y2 y3 z0 m23 J Sm
  have el2 := jfull l2
  refine x_iconst (v := 0) rfl ki_0 ?_
  exact jX.sub (jsb_c rfl (jsb_c rfl (jsb_c rfl (jsb_c rfl (jsb_c rfl jsb_n))))) (ct_X9_wordOf_r68_r6_200105 hD hQ k23 l2 l3 l5 g0 h (jr_of rfl (by omega)) (jr_of rfl (by omega)) (jr_of rfl (by omega)) (by omega) z0 (by omega) J Sm)
set_option maxRecDepth 100000 in
set_option maxHeartbeats 4000000 in
theorem ct_X9_wordOf_r68_r6_62 {Dy : jH → Prop} {h0 : jH} {Q : Option Value → jH → Prop} {R23 : Int} (hD : jDk Dy) (hQ : ∀ (v : Int32) hx9, jJ jSgX Dy hx9 → jSm fp_X9_wordOf_r68_r6 h0 hx9 → Q (some (.int v)) hx9) (k23 : ∀ (l2 : Int32) (l3 : Int32) (l4 : Int32) (l5 : Int32) (g0 : Int32) (h : jH), 7 - l5.toInt < R23 → 0 ≤ l3.toInt ∧ l3.toInt ≤ 407 → 0 ≤ l4.toInt ∧ l4.toInt ≤ 1 → 0 ≤ l5.toInt ∧ l5.toInt ≤ 7 → 0 ≤ g0.toInt ∧ g0.toInt ≤ 400 → l3.toInt - l5.toInt ≤ 400 → jiv h 68 3 = g0 → jJ jSgX Dy h → jSm fp_X9_wordOf_r68_r6 h0 h → jX m_X9_wordOf 4 0 0 23 [(0, .ref 68), (1, .ref 6), (2, .int l2), (3, .int l3), (4, .int l4), (5, .int l5)] [] h 0 0 Q) : ∀ (l2 : Int32) (l5 : Int32) (g0 : Int32) (h : jH), 0 ≤ l5.toInt ∧ l5.toInt ≤ 6 → 0 ≤ g0.toInt ∧ g0.toInt ≤ 400 → jiv h 68 3 = g0 → 7 - l5.toInt ≤ R23 → jJ jSgX Dy h → jSm fp_X9_wordOf_r68_r6 h0 h → jX m_X9_wordOf 4 0 0 62 [(0, .ref 68), (1, .ref 6), (2, .int l2), (5, .int l5)] [] h 0 0 Q := by
  intro l2 l5 g0 h y0 y1 z0 m23 J Sm
  have el2 := jfull l2
  refine z_iinc0 (x := l2) (lsx9 := fun v1 => [(2, .int v1), (0, .ref 68), (1, .ref 6), (5, .int l5)]) rfl rfl rfl (fun _ => rfl) (fun v1 => ?_)
  have ev1 := jfull v1
  refine x_aloadn (x := 68) rfl rfl ?_
  refine z_getM (N := 6) (v := g0) 9 3 rfl f_9_22 rfl J rfl z0 ?_
  refine x_istoren (lsx9 := [(3, .int g0), (2, .int v1), (0, .ref 68), (1, .ref 6), (5, .int l5)]) rfl rfl rfl ?_
  refine x_iconst (v := 1) rfl ki_1 ?_
  refine x_istore (lsx9 := [(4, .int 1), (3, .int g0), (2, .int v1), (0, .ref 68), (1, .ref 6), (5, .int l5)]) rfl rfl rfl ?_
  refine x_goto (tgt := 110) rfl rfl ?_
  exact jX.sub (jsb_c rfl (jsb_c rfl (jsb_c rfl (jsb_c rfl (jsb_c rfl (jsb_c rfl jsb_n)))))) (ct_X9_wordOf_r68_r6_110 hD hQ k23 v1 g0 1 l5 g0 h (jr_of rfl (by omega)) (jr_of jk_1 (by omega)) (jr_of rfl (by omega)) (jr_of rfl (by omega)) (by omega) z0 (by omega) J Sm)
set_option maxRecDepth 100000 in
set_option maxHeartbeats 4000000 in
theorem ct_X9_wordOf_r68_r6_23 {Dy : jH → Prop} {h0 : jH} {Q : Option Value → jH → Prop} (hD : jDk Dy) (hQ : ∀ (v : Int32) hx9, jJ jSgX Dy hx9 → jSm fp_X9_wordOf_r68_r6 h0 hx9 → Q (some (.int v)) hx9) : ∀ r : Nat, ∀ (l2 : Int32) (l3 : Int32) (l4 : Int32) (l5 : Int32) (g0 : Int32) (h : jH), 7 - l5.toInt < (r : Int) → 0 ≤ l3.toInt ∧ l3.toInt ≤ 407 → 0 ≤ l4.toInt ∧ l4.toInt ≤ 1 → 0 ≤ l5.toInt ∧ l5.toInt ≤ 7 → 0 ≤ g0.toInt ∧ g0.toInt ≤ 400 → l3.toInt - l5.toInt ≤ 400 → jiv h 68 3 = g0 → jJ jSgX Dy h → jSm fp_X9_wordOf_r68_r6 h0 h → jX m_X9_wordOf 4 0 0 23 [(0, .ref 68), (1, .ref 6), (2, .int l2), (3, .int l3), (4, .int l4), (5, .int l5)] [] h 0 0 Q := by
  intro r
  induction r with
  | zero =>
    intro l2 l3 l4 l5 g0 h hm y0 y1 y2 y3 y4 z0  J Sm
    exfalso
    have el2 := jfull l2
    omega
  | succ r ih =>
    intro l2 l3 l4 l5 g0 h hm y0 y1 y2 y3 y4 z0  J Sm
    have el2 := jfull l2
    refine x_iload (x := l5) rfl rfl ?_
    refine x_aloadn (x := 6) rfl rfl ?_
    refine x_invS (N := m_J0_length_8abf5) (i := 1) (As := []) (st := [.int l5]) (dx9 := 1) (by decide) rfl t_J0_length_8abf5 ⟨q_9_38, i_J0_length_8abf5.1, i_J0_length_8abf5.2⟩ rfl rfl (by decide) rfl rfl (zc_slen (N := 7) (v := 7) rfl J rfl rfl (by decide) ?_)
    show jX m_X9_wordOf 4 0 0 29 [(0, .ref 68), (1, .ref 6), (2, .int l2), (3, .int l3), (4, .int l4), (5, .int l5)] [.int 7, .int l5] _ 0 0 _
    refine x_icge (tgt := 116) rfl rfl (ti_ge rfl jk_7 ⟨fun c1 => ?_, fun c1 => ?_⟩)
    ·
      refine x_iconst (v := (-1)) rfl ki_m1 ?_
      refine x_iret rfl rfl ?_
      exact hQ _ _ J Sm
    ·
      refine x_aloadn (x := 6) rfl rfl ?_
      refine x_iload (x := l5) rfl rfl ?_
      refine x_invS (N := m_J0_charAt_5068e) (i := 1) (As := [.int l5]) (st := []) (dx9 := 3) (by decide) rfl t_J0_charAt_5068e ⟨q_9_43, i_J0_charAt_5068e.1, i_J0_charAt_5068e.2⟩ rfl rfl (by decide) rfl rfl (zc_schar (N := 7) rfl J rfl rfl rfl (by omega) (fun v2 ev2 => ?_))
      show jX m_X9_wordOf 4 0 0 38 [(0, .ref 68), (1, .ref 6), (2, .int l2), (3, .int l3), (4, .int l4), (5, .int l5)] [.int v2] _ 0 0 _
      refine x_istore (lsx9 := [(6, .int v2), (0, .ref 68), (1, .ref 6), (2, .int l2), (3, .int l3), (4, .int l4), (5, .int l5)]) rfl rfl rfl ?_
      refine x_iload (x := v2) rfl rfl ?_
      refine x_bipush (v := 32) rfl kb_32 ?_
      refine x_icne (tgt := 76) rfl rfl (ti_ne rfl jk_32 ⟨fun c3 => ?_, fun c3 => ?_⟩)
      ·
        refine x_iload (x := l4) rfl rfl ?_
        refine x_ifeq (tgt := 104) rfl rfl (ti_eq rfl jk_0 ⟨fun c4 => ?_, fun c4 => ?_⟩)
        ·
          exact jX.sub (jsb_c rfl (jsb_c rfl (jsb_c rfl (jsb_c rfl (jsb_c rfl jsb_n))))) (ct_X9_wordOf_r68_r6_104 hD hQ ih l2 l3 l5 g0 h (jr_of rfl (by omega)) (jr_of rfl (by omega)) (jr_of rfl (by omega)) (by omega) z0 (by omega) J Sm)
        ·
          refine x_iloadn (x := l3) rfl rfl ?_
          refine x_aloadn (x := 68) rfl rfl ?_
          refine z_getI (N := 6) 9 4 rfl f_9_25 rfl J rfl sg_68_4_5_1_0_1 (fun v5 qv5 ev5 => ?_)
          refine x_icge (tgt := 104) rfl rfl (ti_ge rfl rfl ⟨fun c6 => ?_, fun c6 => ?_⟩)
          ·
            exact jX.sub (jsb_c rfl (jsb_c rfl (jsb_c rfl (jsb_c rfl (jsb_c rfl jsb_n))))) (ct_X9_wordOf_r68_r6_104 hD hQ ih l2 l3 l5 g0 h (jr_of rfl (by omega)) (jr_of rfl (by omega)) (jr_of rfl (by omega)) (by omega) z0 (by omega) J Sm)
          ·
            refine x_aloadn (x := 68) rfl rfl ?_
            refine z_getR (N := 6) (b := 69) 9 0 rfl f_9_11 rfl J rfl 8704 ⟨rfl, rfl⟩ rfl ?_
            refine x_iloadn (x := l3) rfl rfl ?_
            refine z_iald (N := 400) rfl J rfl sg_69_0_400_1_0_1 rfl (by omega) (fun v7 qv7 ev7 => ?_)
            refine x_iload (x := v2) rfl rfl ?_
            refine x_icne (tgt := 104) rfl rfl (ti_ne rfl rfl ⟨fun c8 => ?_, fun c8 => ?_⟩)
            ·
              exact jX.sub (jsb_c rfl (jsb_c rfl (jsb_c rfl (jsb_c rfl (jsb_c rfl jsb_n))))) (ct_X9_wordOf_r68_r6_104 hD hQ ih l2 l3 l5 g0 h (jr_of rfl (by omega)) (jr_of rfl (by omega)) (jr_of rfl (by omega)) (by omega) z0 (by omega) J Sm)
            ·
              refine x_iconst (v := 1) rfl ki_1 ?_
              refine x_goto (tgt := 105) rfl rfl ?_
              exact jX.sub (jsb_c rfl (jsb_c rfl (jsb_c rfl (jsb_c rfl (jsb_c rfl jsb_n))))) (ct_X9_wordOf_r68_r6_300105 hD hQ ih l2 l3 l5 g0 h (jr_of rfl (by omega)) (jr_of rfl (by omega)) (jr_of rfl (by omega)) (by omega) z0 (by omega) J Sm)
      ·
        refine x_iload (x := l4) rfl rfl ?_
        refine x_ifeq (tgt := 62) rfl rfl (ti_eq rfl jk_0 ⟨fun c9 => ?_, fun c9 => ?_⟩)
        ·
          exact jX.sub (jsb_c rfl (jsb_c rfl (jsb_c rfl (jsb_c rfl jsb_n)))) (ct_X9_wordOf_r68_r6_62 hD hQ ih l2 l5 g0 h (jr_of rfl (by omega)) (jr_of rfl (by omega)) z0 (by omega) J Sm)
        ·
          refine x_iloadn (x := l3) rfl rfl ?_
          refine x_aloadn (x := 68) rfl rfl ?_
          refine z_getI (N := 6) 9 4 rfl f_9_25 rfl J rfl sg_68_4_5_1_0_1 (fun v10 qv10 ev10 => ?_)
          refine x_icne (tgt := 62) rfl rfl (ti_ne rfl rfl ⟨fun c11 => ?_, fun c11 => ?_⟩)
          ·
            exact jX.sub (jsb_c rfl (jsb_c rfl (jsb_c rfl (jsb_c rfl jsb_n)))) (ct_X9_wordOf_r68_r6_62 hD hQ ih l2 l5 g0 h (jr_of rfl (by omega)) (jr_of rfl (by omega)) z0 (by omega) J Sm)
          ·
            refine x_iloadn (x := l2) rfl rfl ?_
            refine x_iret rfl rfl ?_
            exact hQ _ _ J Sm
set_option maxRecDepth 100000 in
set_option maxHeartbeats 4000000 in
theorem sf_X9_wordOf_r68_r6 {Dy : jH → Prop} {h : jH} {Q : Option Value → jH → Prop} (hD : jDk Dy) (J : jJ jSgX Dy h) (hQ : ∀ (v : Int32) hx9, jJ jSgX Dy hx9 → jSm fp_X9_wordOf_r68_r6 h hx9 → Q (some (.int v)) hx9) : jC m_X9_wordOf 4 0 0 [.ref 68, .ref 6] h Q := by
  refine jC.of rfl k_X9_wordOf rfl ?_
  have Sm := jSm_rf fp_X9_wordOf_r68_r6 h
  show jX m_X9_wordOf 4 0 0 0 [(0, .ref 68), (1, .ref 6)] [] _ 0 0 _
  refine x_aloadn (x := 68) rfl rfl ?_
  refine z_getI (N := 6) 9 5 rfl f_9_28 rfl J rfl sg_68_5_6_1_0_1 (fun v1 qv1 ev1 => ?_)
  refine x_iconst (v := 1) rfl ki_1 ?_
  refine x_iceq (tgt := 10) rfl rfl (ti_eq rfl jk_1 ⟨fun c2 => ?_, fun c2 => ?_⟩)
  ·
    refine x_iconst (v := 0) rfl ki_0 ?_
    refine x_istoren (lsx9 := [(2, .int 0), (0, .ref 68), (1, .ref 6)]) rfl rfl rfl ?_
    refine x_aloadn (x := 68) rfl rfl ?_
    refine z_getI (N := 6) 9 3 rfl f_9_22 rfl J rfl sg_68_3_4_1_0_1 (fun v3 qv3 ev3 => ?_)
    refine x_istoren (lsx9 := [(3, .int v3), (2, .int 0), (0, .ref 68), (1, .ref 6)]) rfl rfl rfl ?_
    refine x_iconst (v := 1) rfl ki_1 ?_
    refine x_istore (lsx9 := [(4, .int 1), (3, .int v3), (2, .int 0), (0, .ref 68), (1, .ref 6)]) rfl rfl rfl ?_
    refine x_iconst (v := 0) rfl ki_0 ?_
    refine x_istore (lsx9 := [(5, .int 0), (4, .int 1), (3, .int v3), (2, .int 0), (0, .ref 68), (1, .ref 6)]) rfl rfl rfl ?_
    exact jX.sub (jsb_c rfl (jsb_c rfl (jsb_c rfl (jsb_c rfl (jsb_c rfl (jsb_c rfl jsb_n)))))) (ct_X9_wordOf_r68_r6_23 hD hQ  8 0 v3 1 0 v3 h (by have := jk_0; omega) (jr_of rfl (by omega)) (jr_of jk_1 (by omega)) (jr_of jk_0 (by omega)) (jr_of rfl (by omega)) (by have := jk_0; omega) qv3 J Sm)
  ·
    refine x_iconst (v := (-1)) rfl ki_m1 ?_
    refine x_iret rfl rfl ?_
    exact hQ _ _ J Sm
def fp_X2_readClause_r95 : jFp := [(68, 2, 3), (68, 3, 4), (68, 4, 5), (68, 5, 6), (95, 4, 5), (95, 5, 6), (96, 0, 72), (97, 0, 1200)]
set_option maxRecDepth 100000 in
set_option maxHeartbeats 4000000 in
theorem ct_X2_readClause_r95_169 {Dy : jH → Prop} {h0 : jH} {Q : Option Value → jH → Prop} {R104 : Int} (hD : jDk Dy) (hQ : ∀ (v : Int32) hx9, 0 ≤ v.toInt ∧ v.toInt ≤ 1 → jJ jSgX Dy hx9 → jSm fp_X2_readClause_r95 h0 hx9 → ∀ u0 u1 : Int32, jiv hx9 68 5 = u0 → jiv hx9 68 3 = u1 → (u0.toInt ≠ 3 ∨ u1.toInt ≤ 399) → Q (some (.int v)) hx9) (k104 : ∀ (l2 : Int32) (g0 : Int32) (g1 : Int32) (h : jH), 2 - l2.toInt < R104 → 0 ≤ l2.toInt ∧ l2.toInt ≤ 2 → 0 ≤ g0.toInt ∧ g0.toInt ≤ 400 → 0 ≤ g1.toInt ∧ g1.toInt ≤ 3 → (g1.toInt ≠ 3 ∨ g0.toInt ≤ 399) → jiv h 68 3 = g0 → jiv h 68 5 = g1 → jJ jSgX Dy h → jSm fp_X2_readClause_r95 h0 h → jX m_X2_readClause 25 0 0 104 [(0, .ref 95), (2, .int l2)] [] h 0 0 Q) : ∀ (l2 : Int32) (g0 : Int32) (g1 : Int32) (h : jH), 0 ≤ l2.toInt ∧ l2.toInt ≤ 1 → 0 ≤ g0.toInt ∧ g0.toInt ≤ 400 → 0 ≤ g1.toInt ∧ g1.toInt ≤ 3 → (g1.toInt ≠ 3 ∨ g0.toInt ≤ 399) → jiv h 68 3 = g0 → jiv h 68 5 = g1 → 2 - l2.toInt ≤ R104 → jJ jSgX Dy h → jSm fp_X2_readClause_r95 h0 h → jX m_X2_readClause 25 0 0 169 [(0, .ref 95), (2, .int l2)] [] h 0 0 Q := by
  intro l2 g0 g1 h y0 y1 y2 y3 z0 z1 m104 J Sm
  refine z_iinc (x := l2) (lsx9 := fun v1 => [(2, .int v1), (0, .ref 95)]) rfl rfl rfl jko_1 (by omega) rfl (fun _ => rfl) (fun v1 ev1 => ?_)
  refine x_goto (tgt := 104) rfl rfl ?_
  exact jX.sub (jsb_c rfl (jsb_c rfl jsb_n)) (k104 v1 g0 g1 h (by omega) (jr_of rfl (by omega)) (jr_of rfl (by omega)) (jr_of rfl (by omega)) (by omega) z0 z1 J Sm)
set_option maxRecDepth 100000 in
set_option maxHeartbeats 4000000 in
theorem ct_X2_readClause_r95_600147 {Dy : jH → Prop} {h0 : jH} {Q : Option Value → jH → Prop} {R104 : Int} (hD : jDk Dy) (hQ : ∀ (v : Int32) hx9, 0 ≤ v.toInt ∧ v.toInt ≤ 1 → jJ jSgX Dy hx9 → jSm fp_X2_readClause_r95 h0 hx9 → ∀ u0 u1 : Int32, jiv hx9 68 5 = u0 → jiv hx9 68 3 = u1 → (u0.toInt ≠ 3 ∨ u1.toInt ≤ 399) → Q (some (.int v)) hx9) (k104 : ∀ (l2 : Int32) (g0 : Int32) (g1 : Int32) (h : jH), 2 - l2.toInt < R104 → 0 ≤ l2.toInt ∧ l2.toInt ≤ 2 → 0 ≤ g0.toInt ∧ g0.toInt ≤ 400 → 0 ≤ g1.toInt ∧ g1.toInt ≤ 3 → (g1.toInt ≠ 3 ∨ g0.toInt ≤ 399) → jiv h 68 3 = g0 → jiv h 68 5 = g1 → jJ jSgX Dy h → jSm fp_X2_readClause_r95 h0 h → jX m_X2_readClause 25 0 0 104 [(0, .ref 95), (2, .int l2)] [] h 0 0 Q) : ∀ (l2 : Int32) (g0 : Int32) (g1 : Int32) (h : jH), 0 ≤ l2.toInt ∧ l2.toInt ≤ 0 → 0 ≤ g0.toInt ∧ g0.toInt ≤ 400 → 0 ≤ g1.toInt ∧ g1.toInt ≤ 3 → (g1.toInt ≠ 3 ∨ g0.toInt ≤ 399) → jiv h 68 3 = g0 → jiv h 68 5 = g1 → 2 - l2.toInt ≤ R104 → jJ jSgX Dy h → jSm fp_X2_readClause_r95 h0 h → jX m_X2_readClause 25 0 0 147 [(0, .ref 95), (2, .int l2)] [.int 4, .ref 95] h 0 0 Q := by
  intro l2 g0 g1 h y0 y1 y2 y3 z0 z1 m104 J Sm
  refine x_aloadn (x := 95) rfl rfl ?_
  refine z_getI (N := 6) 2 4 rfl f_2_24 rfl J rfl sg_95_4_5_1_0_1 (fun v1 qv1 ev1 => ?_)
  refine x_inv (N := m_X2_note) (As := [.int 4, .int v1]) (b := 95) (st := []) (dx9 := 1) (mc := 0) (ms := 0) (host := "") 2 rfl t_X2_note ⟨Or.inl q_2_82, i_X2_note.1, i_X2_note.2⟩ ⟨by decide, rfl⟩ (congrArg Prod.fst (J.1.1 95 (2, 6) rfl)) rfl (by decide) rfl rfl ⟨by decide, by decide⟩ (sf_X2_note_r95 (jr_of jk_4 (by omega)) hD J  (fun h J S2 => ?_))
  have Sm := jSm_tr rfl Sm S2
  show jX m_X2_readClause 25 0 0 154 [(0, .ref 95), (2, .int l2)] [] _ 0 0 _
  refine x_aloadn (x := 95) rfl rfl ?_
  refine x_iconst (v := 0) rfl ki_0 ?_
  refine x_inv (N := m_X2_readTest) (As := [.int 0]) (b := 95) (st := []) (dx9 := 24) (mc := 0) (ms := 0) (host := "") 2 rfl t_X2_readTest ⟨Or.inl q_2_96, i_X2_readTest.1, i_X2_readTest.2⟩ ⟨by decide, rfl⟩ (congrArg Prod.fst (J.1.1 95 (2, 6) rfl)) rfl (by decide) rfl rfl ⟨by decide, by decide⟩ (sf_X2_readTest_r95_c0  hD J (jmc S2 rfl z1) (jmc S2 rfl z0) (by omega)  (fun v6 h ev6 J S3 u4 u5 qu4 qu5 ru4 => ?_))
  have Sm := jSm_tr rfl Sm S3
  have eu4 := (show 0 ≤ u4.toInt ∧ u4.toInt ≤ 3 from qu4 ▸ jrg_f J sg_68_5_6_1_0_1)
  have eu5 := (show 0 ≤ u5.toInt ∧ u5.toInt ≤ 400 from qu5 ▸ jrg_f J sg_68_3_4_1_0_1)
  show jX m_X2_readClause 25 0 0 159 [(0, .ref 95), (2, .int l2)] [.int v6] _ 0 0 _
  refine x_ifne (tgt := 164) rfl rfl (ti_ne rfl jk_0 ⟨fun c7 => ?_, fun c7 => ?_⟩)
  ·
    refine x_aloadn (x := 95) rfl rfl ?_
    refine x_iconst (v := 0) rfl ki_0 ?_
    refine x_inv (N := m_X2_emit) (As := [.int 0]) (b := 95) (st := []) (dx9 := 1) (mc := 0) (ms := 0) (host := "") 2 rfl t_X2_emit ⟨Or.inl q_2_89, i_X2_emit.1, i_X2_emit.2⟩ ⟨by decide, rfl⟩ (congrArg Prod.fst (J.1.1 95 (2, 6) rfl)) rfl (by decide) rfl rfl ⟨by decide, by decide⟩ (sf_X2_emit_r95  hD J  (fun h J S8 => ?_))
    have Sm := jSm_tr rfl Sm S8
    show jX m_X2_readClause 25 0 0 169 [(0, .ref 95), (2, .int l2)] [] _ 0 0 _
    exact jX.sub (jsb_c rfl (jsb_c rfl jsb_n)) (ct_X2_readClause_r95_169 hD hQ k104 l2 u5 u4 h (jr_of rfl (by omega)) (jr_of rfl (by omega)) (jr_of rfl (by omega)) (by omega) (jmc S8 rfl qu5) (jmc S8 rfl qu4) (by omega) J Sm)
  ·
    refine x_iconst (v := 0) rfl ki_0 ?_
    refine x_zret rfl rfl (by decide) ?_
    exact hQ _ _ (jr_of jk_0 (by omega)) J Sm _ _ qu4 qu5 (by omega)
set_option maxRecDepth 100000 in
set_option maxHeartbeats 4000000 in
theorem ct_X2_readClause_r95_700147 {Dy : jH → Prop} {h0 : jH} {Q : Option Value → jH → Prop} {R104 : Int} (hD : jDk Dy) (hQ : ∀ (v : Int32) hx9, 0 ≤ v.toInt ∧ v.toInt ≤ 1 → jJ jSgX Dy hx9 → jSm fp_X2_readClause_r95 h0 hx9 → ∀ u0 u1 : Int32, jiv hx9 68 5 = u0 → jiv hx9 68 3 = u1 → (u0.toInt ≠ 3 ∨ u1.toInt ≤ 399) → Q (some (.int v)) hx9) (k104 : ∀ (l2 : Int32) (g0 : Int32) (g1 : Int32) (h : jH), 2 - l2.toInt < R104 → 0 ≤ l2.toInt ∧ l2.toInt ≤ 2 → 0 ≤ g0.toInt ∧ g0.toInt ≤ 400 → 0 ≤ g1.toInt ∧ g1.toInt ≤ 3 → (g1.toInt ≠ 3 ∨ g0.toInt ≤ 399) → jiv h 68 3 = g0 → jiv h 68 5 = g1 → jJ jSgX Dy h → jSm fp_X2_readClause_r95 h0 h → jX m_X2_readClause 25 0 0 104 [(0, .ref 95), (2, .int l2)] [] h 0 0 Q) : ∀ (l2 : Int32) (g0 : Int32) (g1 : Int32) (h : jH), 1 ≤ l2.toInt ∧ l2.toInt ≤ 1 → 0 ≤ g0.toInt ∧ g0.toInt ≤ 400 → 0 ≤ g1.toInt ∧ g1.toInt ≤ 3 → l2.toInt ≠ 0 → (g1.toInt ≠ 3 ∨ g0.toInt ≤ 399) → jiv h 68 3 = g0 → jiv h 68 5 = g1 → 2 - l2.toInt ≤ R104 → jJ jSgX Dy h → jSm fp_X2_readClause_r95 h0 h → jX m_X2_readClause 25 0 0 147 [(0, .ref 95), (2, .int l2)] [.int 5, .ref 95] h 0 0 Q := by
  intro l2 g0 g1 h y0 y1 y2 y3 y4 z0 z1 m104 J Sm
  refine x_aloadn (x := 95) rfl rfl ?_
  refine z_getI (N := 6) 2 4 rfl f_2_24 rfl J rfl sg_95_4_5_1_0_1 (fun v1 qv1 ev1 => ?_)
  refine x_inv (N := m_X2_note) (As := [.int 5, .int v1]) (b := 95) (st := []) (dx9 := 1) (mc := 0) (ms := 0) (host := "") 2 rfl t_X2_note ⟨Or.inl q_2_82, i_X2_note.1, i_X2_note.2⟩ ⟨by decide, rfl⟩ (congrArg Prod.fst (J.1.1 95 (2, 6) rfl)) rfl (by decide) rfl rfl ⟨by decide, by decide⟩ (sf_X2_note_r95 (jr_of jk_5 (by omega)) hD J  (fun h J S2 => ?_))
  have Sm := jSm_tr rfl Sm S2
  show jX m_X2_readClause 25 0 0 154 [(0, .ref 95), (2, .int l2)] [] _ 0 0 _
  refine x_aloadn (x := 95) rfl rfl ?_
  refine x_iconst (v := 0) rfl ki_0 ?_
  refine x_inv (N := m_X2_readTest) (As := [.int 0]) (b := 95) (st := []) (dx9 := 24) (mc := 0) (ms := 0) (host := "") 2 rfl t_X2_readTest ⟨Or.inl q_2_96, i_X2_readTest.1, i_X2_readTest.2⟩ ⟨by decide, rfl⟩ (congrArg Prod.fst (J.1.1 95 (2, 6) rfl)) rfl (by decide) rfl rfl ⟨by decide, by decide⟩ (sf_X2_readTest_r95_c0  hD J (jmc S2 rfl z1) (jmc S2 rfl z0) (by omega)  (fun v6 h ev6 J S3 u4 u5 qu4 qu5 ru4 => ?_))
  have Sm := jSm_tr rfl Sm S3
  have eu4 := (show 0 ≤ u4.toInt ∧ u4.toInt ≤ 3 from qu4 ▸ jrg_f J sg_68_5_6_1_0_1)
  have eu5 := (show 0 ≤ u5.toInt ∧ u5.toInt ≤ 400 from qu5 ▸ jrg_f J sg_68_3_4_1_0_1)
  show jX m_X2_readClause 25 0 0 159 [(0, .ref 95), (2, .int l2)] [.int v6] _ 0 0 _
  refine x_ifne (tgt := 164) rfl rfl (ti_ne rfl jk_0 ⟨fun c7 => ?_, fun c7 => ?_⟩)
  ·
    refine x_aloadn (x := 95) rfl rfl ?_
    refine x_iconst (v := 0) rfl ki_0 ?_
    refine x_inv (N := m_X2_emit) (As := [.int 0]) (b := 95) (st := []) (dx9 := 1) (mc := 0) (ms := 0) (host := "") 2 rfl t_X2_emit ⟨Or.inl q_2_89, i_X2_emit.1, i_X2_emit.2⟩ ⟨by decide, rfl⟩ (congrArg Prod.fst (J.1.1 95 (2, 6) rfl)) rfl (by decide) rfl rfl ⟨by decide, by decide⟩ (sf_X2_emit_r95  hD J  (fun h J S8 => ?_))
    have Sm := jSm_tr rfl Sm S8
    show jX m_X2_readClause 25 0 0 169 [(0, .ref 95), (2, .int l2)] [] _ 0 0 _
    exact jX.sub (jsb_c rfl (jsb_c rfl jsb_n)) (ct_X2_readClause_r95_169 hD hQ k104 l2 u5 u4 h (jr_of rfl (by omega)) (jr_of rfl (by omega)) (jr_of rfl (by omega)) (by omega) (jmc S8 rfl qu5) (jmc S8 rfl qu4) (by omega) J Sm)
  ·
    refine x_iconst (v := 0) rfl ki_0 ?_
    refine x_zret rfl rfl (by decide) ?_
    exact hQ _ _ (jr_of jk_0 (by omega)) J Sm _ _ qu4 qu5 (by omega)
set_option maxRecDepth 100000 in
set_option maxHeartbeats 4000000 in
theorem ct_X2_readClause_r95_3200124 {Dy : jH → Prop} {h0 : jH} {Q : Option Value → jH → Prop} {R104 : Int} (hD : jDk Dy) (hQ : ∀ (v : Int32) hx9, 0 ≤ v.toInt ∧ v.toInt ≤ 1 → jJ jSgX Dy hx9 → jSm fp_X2_readClause_r95 h0 hx9 → ∀ u0 u1 : Int32, jiv hx9 68 5 = u0 → jiv hx9 68 3 = u1 → (u0.toInt ≠ 3 ∨ u1.toInt ≤ 399) → Q (some (.int v)) hx9) (k104 : ∀ (l2 : Int32) (g0 : Int32) (g1 : Int32) (h : jH), 2 - l2.toInt < R104 → 0 ≤ l2.toInt ∧ l2.toInt ≤ 2 → 0 ≤ g0.toInt ∧ g0.toInt ≤ 400 → 0 ≤ g1.toInt ∧ g1.toInt ≤ 3 → (g1.toInt ≠ 3 ∨ g0.toInt ≤ 399) → jiv h 68 3 = g0 → jiv h 68 5 = g1 → jJ jSgX Dy h → jSm fp_X2_readClause_r95 h0 h → jX m_X2_readClause 25 0 0 104 [(0, .ref 95), (2, .int l2)] [] h 0 0 Q) : ∀ (l2 : Int32) (g0 : Int32) (g1 : Int32) (h : jH), 0 ≤ l2.toInt ∧ l2.toInt ≤ 0 → 0 ≤ g0.toInt ∧ g0.toInt ≤ 400 → 0 ≤ g1.toInt ∧ g1.toInt ≤ 3 → (g1.toInt ≠ 3 ∨ g0.toInt ≤ 399) → jiv h 68 3 = g0 → jiv h 68 5 = g1 → 2 - l2.toInt ≤ R104 → jJ jSgX Dy h → jSm fp_X2_readClause_r95 h0 h → jX m_X2_readClause 25 0 0 124 [(0, .ref 95), (2, .int l2)] [.ref 12, .ref 68] h 0 0 Q := by
  intro l2 g0 g1 h y0 y1 y2 y3 z0 z1 m104 J Sm
  refine x_inv (N := m_X9_wordOf) (As := [.ref 12]) (b := 68) (st := []) (dx9 := 4) (mc := 0) (ms := 0) (host := "") 9 rfl t_X9_wordOf ⟨Or.inl q_2_67, i_X9_wordOf.1, i_X9_wordOf.2⟩ ⟨by decide, rfl⟩ (congrArg Prod.fst (J.1.1 68 (9, 6) rfl)) rfl (by decide) rfl rfl ⟨by decide, by decide⟩ (sf_X9_wordOf_r68_r12  hD J  (fun v2 h J S1 => ?_))
  have ev2 := jfull v2
  have Sm := jSm_tr rfl Sm S1
  show jX m_X2_readClause 25 0 0 127 [(0, .ref 95), (2, .int l2)] [.int v2] _ 0 0 _
  refine x_ifne (tgt := 169) rfl rfl (ti_ne rfl jk_0 ⟨fun c3 => ?_, fun c3 => ?_⟩)
  ·
    exact jX.sub (jsb_c rfl (jsb_c rfl jsb_n)) (ct_X2_readClause_r95_169 hD hQ k104 l2 g0 g1 h (jr_of rfl (by omega)) (jr_of rfl (by omega)) (jr_of rfl (by omega)) (by omega) (jmc S1 rfl z0) (jmc S1 rfl z1) (by omega) J Sm)
  ·
    refine x_aloadn (x := 95) rfl rfl ?_
    refine z_getR (N := 6) (b := 68) 2 0 rfl f_2_30 rfl J rfl 12160 ⟨rfl, rfl⟩ rfl ?_
    refine x_inv (N := m_X9_step) (As := []) (b := 68) (st := []) (dx9 := 2) (mc := 0) (ms := 0) (host := "") 9 rfl t_X9_step ⟨Or.inl q_2_62, i_X9_step.1, i_X9_step.2⟩ ⟨by decide, rfl⟩ (congrArg Prod.fst (J.1.1 68 (9, 6) rfl)) rfl (by decide) rfl rfl ⟨by decide, by decide⟩ (sf_X9_step_r68  hD J (jmc S1 rfl z1) (jmc S1 rfl z0) (by omega)  (fun h J S4 u5 u6 qu5 qu6 ru5 => ?_))
    have Sm := jSm_tr rfl Sm S4
    have eu5 := (show 0 ≤ u5.toInt ∧ u5.toInt ≤ 3 from qu5 ▸ jrg_f J sg_68_5_6_1_0_1)
    have eu6 := (show 0 ≤ u6.toInt ∧ u6.toInt ≤ 400 from qu6 ▸ jrg_f J sg_68_3_4_1_0_1)
    show jX m_X2_readClause 25 0 0 137 [(0, .ref 95), (2, .int l2)] [] _ 0 0 _
    refine x_aloadn (x := 95) rfl rfl ?_
    refine x_iloadn (x := l2) rfl rfl ?_
    refine x_ifne (tgt := 146) rfl rfl (ti_ne rfl jk_0 (bn_f (by omega) ?_))
    refine x_iconst (v := 4) rfl ki_4 ?_
    refine x_goto (tgt := 147) rfl rfl ?_
    exact jX.sub (jsb_c rfl (jsb_c rfl jsb_n)) (ct_X2_readClause_r95_600147 hD hQ k104 l2 u6 u5 h (jr_of rfl (by omega)) (jr_of rfl (by omega)) (jr_of rfl (by omega)) (by omega) qu6 qu5 (by omega) J Sm)
set_option maxRecDepth 100000 in
set_option maxHeartbeats 4000000 in
theorem ct_X2_readClause_r95_3300124 {Dy : jH → Prop} {h0 : jH} {Q : Option Value → jH → Prop} {R104 : Int} (hD : jDk Dy) (hQ : ∀ (v : Int32) hx9, 0 ≤ v.toInt ∧ v.toInt ≤ 1 → jJ jSgX Dy hx9 → jSm fp_X2_readClause_r95 h0 hx9 → ∀ u0 u1 : Int32, jiv hx9 68 5 = u0 → jiv hx9 68 3 = u1 → (u0.toInt ≠ 3 ∨ u1.toInt ≤ 399) → Q (some (.int v)) hx9) (k104 : ∀ (l2 : Int32) (g0 : Int32) (g1 : Int32) (h : jH), 2 - l2.toInt < R104 → 0 ≤ l2.toInt ∧ l2.toInt ≤ 2 → 0 ≤ g0.toInt ∧ g0.toInt ≤ 400 → 0 ≤ g1.toInt ∧ g1.toInt ≤ 3 → (g1.toInt ≠ 3 ∨ g0.toInt ≤ 399) → jiv h 68 3 = g0 → jiv h 68 5 = g1 → jJ jSgX Dy h → jSm fp_X2_readClause_r95 h0 h → jX m_X2_readClause 25 0 0 104 [(0, .ref 95), (2, .int l2)] [] h 0 0 Q) : ∀ (l2 : Int32) (g0 : Int32) (g1 : Int32) (h : jH), 1 ≤ l2.toInt ∧ l2.toInt ≤ 1 → 0 ≤ g0.toInt ∧ g0.toInt ≤ 400 → 0 ≤ g1.toInt ∧ g1.toInt ≤ 3 → l2.toInt ≠ 0 → (g1.toInt ≠ 3 ∨ g0.toInt ≤ 399) → jiv h 68 3 = g0 → jiv h 68 5 = g1 → 2 - l2.toInt ≤ R104 → jJ jSgX Dy h → jSm fp_X2_readClause_r95 h0 h → jX m_X2_readClause 25 0 0 124 [(0, .ref 95), (2, .int l2)] [.ref 13, .ref 68] h 0 0 Q := by
  intro l2 g0 g1 h y0 y1 y2 y3 y4 z0 z1 m104 J Sm
  refine x_inv (N := m_X9_wordOf) (As := [.ref 13]) (b := 68) (st := []) (dx9 := 4) (mc := 0) (ms := 0) (host := "") 9 rfl t_X9_wordOf ⟨Or.inl q_2_67, i_X9_wordOf.1, i_X9_wordOf.2⟩ ⟨by decide, rfl⟩ (congrArg Prod.fst (J.1.1 68 (9, 6) rfl)) rfl (by decide) rfl rfl ⟨by decide, by decide⟩ (sf_X9_wordOf_r68_r13  hD J  (fun v2 h J S1 => ?_))
  have ev2 := jfull v2
  have Sm := jSm_tr rfl Sm S1
  show jX m_X2_readClause 25 0 0 127 [(0, .ref 95), (2, .int l2)] [.int v2] _ 0 0 _
  refine x_ifne (tgt := 169) rfl rfl (ti_ne rfl jk_0 ⟨fun c3 => ?_, fun c3 => ?_⟩)
  ·
    exact jX.sub (jsb_c rfl (jsb_c rfl jsb_n)) (ct_X2_readClause_r95_169 hD hQ k104 l2 g0 g1 h (jr_of rfl (by omega)) (jr_of rfl (by omega)) (jr_of rfl (by omega)) (by omega) (jmc S1 rfl z0) (jmc S1 rfl z1) (by omega) J Sm)
  ·
    refine x_aloadn (x := 95) rfl rfl ?_
    refine z_getR (N := 6) (b := 68) 2 0 rfl f_2_30 rfl J rfl 12160 ⟨rfl, rfl⟩ rfl ?_
    refine x_inv (N := m_X9_step) (As := []) (b := 68) (st := []) (dx9 := 2) (mc := 0) (ms := 0) (host := "") 9 rfl t_X9_step ⟨Or.inl q_2_62, i_X9_step.1, i_X9_step.2⟩ ⟨by decide, rfl⟩ (congrArg Prod.fst (J.1.1 68 (9, 6) rfl)) rfl (by decide) rfl rfl ⟨by decide, by decide⟩ (sf_X9_step_r68  hD J (jmc S1 rfl z1) (jmc S1 rfl z0) (by omega)  (fun h J S4 u5 u6 qu5 qu6 ru5 => ?_))
    have Sm := jSm_tr rfl Sm S4
    have eu5 := (show 0 ≤ u5.toInt ∧ u5.toInt ≤ 3 from qu5 ▸ jrg_f J sg_68_5_6_1_0_1)
    have eu6 := (show 0 ≤ u6.toInt ∧ u6.toInt ≤ 400 from qu6 ▸ jrg_f J sg_68_3_4_1_0_1)
    show jX m_X2_readClause 25 0 0 137 [(0, .ref 95), (2, .int l2)] [] _ 0 0 _
    refine x_aloadn (x := 95) rfl rfl ?_
    refine x_iloadn (x := l2) rfl rfl ?_
    refine x_ifne (tgt := 146) rfl rfl (ti_ne rfl jk_0 (bn_t (by omega) ?_))
    refine x_iconst (v := 5) rfl ki_5 ?_
    exact jX.sub (jsb_c rfl (jsb_c rfl jsb_n)) (ct_X2_readClause_r95_700147 hD hQ k104 l2 u6 u5 h (jr_of rfl (by omega)) (jr_of rfl (by omega)) (jr_of rfl (by omega)) (by omega) (by omega) qu6 qu5 (by omega) J Sm)
set_option maxRecDepth 100000 in
set_option maxHeartbeats 4000000 in
theorem ct_X2_readClause_r95_104 {Dy : jH → Prop} {h0 : jH} {Q : Option Value → jH → Prop} (hD : jDk Dy) (hQ : ∀ (v : Int32) hx9, 0 ≤ v.toInt ∧ v.toInt ≤ 1 → jJ jSgX Dy hx9 → jSm fp_X2_readClause_r95 h0 hx9 → ∀ u0 u1 : Int32, jiv hx9 68 5 = u0 → jiv hx9 68 3 = u1 → (u0.toInt ≠ 3 ∨ u1.toInt ≤ 399) → Q (some (.int v)) hx9) : ∀ r : Nat, ∀ (l2 : Int32) (g0 : Int32) (g1 : Int32) (h : jH), 2 - l2.toInt < (r : Int) → 0 ≤ l2.toInt ∧ l2.toInt ≤ 2 → 0 ≤ g0.toInt ∧ g0.toInt ≤ 400 → 0 ≤ g1.toInt ∧ g1.toInt ≤ 3 → (g1.toInt ≠ 3 ∨ g0.toInt ≤ 399) → jiv h 68 3 = g0 → jiv h 68 5 = g1 → jJ jSgX Dy h → jSm fp_X2_readClause_r95 h0 h → jX m_X2_readClause 25 0 0 104 [(0, .ref 95), (2, .int l2)] [] h 0 0 Q := by
  intro r
  induction r with
  | zero =>
    intro l2 g0 g1 h hm y0 y1 y2 y3 z0 z1  J Sm
    exfalso
    omega
  | succ r ih =>
    intro l2 g0 g1 h hm y0 y1 y2 y3 z0 z1  J Sm
    refine x_iloadn (x := l2) rfl rfl ?_
    refine x_iconst (v := 2) rfl ki_2 ?_
    refine x_icge (tgt := 175) rfl rfl (ti_ge rfl jk_2 ⟨fun c1 => ?_, fun c1 => ?_⟩)
    ·
      refine x_iconst (v := 1) rfl ki_1 ?_
      refine x_zret rfl rfl (by decide) ?_
      exact hQ _ _ (jr_of jk_1 (by omega)) J Sm _ _ z1 z0 (by omega)
    ·
      refine x_aloadn (x := 95) rfl rfl ?_
      refine z_getR (N := 6) (b := 68) 2 0 rfl f_2_30 rfl J rfl 12160 ⟨rfl, rfl⟩ rfl ?_
      refine x_iloadn (x := l2) rfl rfl ?_
      refine x_ifne (tgt := 122) rfl rfl (ti_ne rfl jk_0 ⟨fun c2 => ?_, fun c2 => ?_⟩)
      ·
        refine x_ldcS (jstr.getD 8 jstr_0) rfl (List.mem_of_getElem? (i := 8) rfl) rfl rfl ?_
        show jX m_X2_readClause 25 0 0 124 [(0, .ref 95), (2, .int l2)] [.ref 13, .ref 68] _ 0 0 _
        exact jX.sub (jsb_c rfl (jsb_c rfl jsb_n)) (ct_X2_readClause_r95_3300124 hD hQ ih l2 g0 g1 h (jr_of rfl (by omega)) (jr_of rfl (by omega)) (jr_of rfl (by omega)) (by omega) (by omega) z0 z1 (by omega) J Sm)
      ·
        refine x_ldcS (jstr.getD 7 jstr_0) rfl (List.mem_of_getElem? (i := 7) rfl) rfl rfl ?_
        show jX m_X2_readClause 25 0 0 119 [(0, .ref 95), (2, .int l2)] [.ref 12, .ref 68] _ 0 0 _
        refine x_goto (tgt := 124) rfl rfl ?_
        exact jX.sub (jsb_c rfl (jsb_c rfl jsb_n)) (ct_X2_readClause_r95_3200124 hD hQ ih l2 g0 g1 h (jr_of rfl (by omega)) (jr_of rfl (by omega)) (jr_of rfl (by omega)) (by omega) z0 z1 (by omega) J Sm)
set_option maxRecDepth 100000 in
set_option maxHeartbeats 4000000 in
theorem ct_X2_readClause_r95_102 {Dy : jH → Prop} {h0 : jH} {Q : Option Value → jH → Prop} (hD : jDk Dy) (hQ : ∀ (v : Int32) hx9, 0 ≤ v.toInt ∧ v.toInt ≤ 1 → jJ jSgX Dy hx9 → jSm fp_X2_readClause_r95 h0 hx9 → ∀ u0 u1 : Int32, jiv hx9 68 5 = u0 → jiv hx9 68 3 = u1 → (u0.toInt ≠ 3 ∨ u1.toInt ≤ 399) → Q (some (.int v)) hx9) : ∀ (g0 : Int32) (g1 : Int32) (h : jH), 0 ≤ g0.toInt ∧ g0.toInt ≤ 400 → 0 ≤ g1.toInt ∧ g1.toInt ≤ 3 → (g1.toInt ≠ 3 ∨ g0.toInt ≤ 399) → jiv h 68 3 = g0 → jiv h 68 5 = g1 → jJ jSgX Dy h → jSm fp_X2_readClause_r95 h0 h → jX m_X2_readClause 25 0 0 102 [(0, .ref 95)] [] h 0 0 Q := by
  intro g0 g1 h y0 y1 y2 z0 z1  J Sm
  refine x_iconst (v := 0) rfl ki_0 ?_
  refine x_istoren (lsx9 := [(2, .int 0), (0, .ref 95)]) rfl rfl rfl ?_
  exact jX.sub (jsb_c rfl (jsb_c rfl jsb_n)) (ct_X2_readClause_r95_104 hD hQ  3 0 g0 g1 h (by have := jk_0; omega) (jr_of jk_0 (by omega)) (jr_of rfl (by omega)) (jr_of rfl (by omega)) (by omega) z0 z1 J Sm)
set_option maxRecDepth 100000 in
set_option maxHeartbeats 4000000 in
theorem ct_X2_readClause_r95_78 {Dy : jH → Prop} {h0 : jH} {Q : Option Value → jH → Prop} (hD : jDk Dy) (hQ : ∀ (v : Int32) hx9, 0 ≤ v.toInt ∧ v.toInt ≤ 1 → jJ jSgX Dy hx9 → jSm fp_X2_readClause_r95 h0 hx9 → ∀ u0 u1 : Int32, jiv hx9 68 5 = u0 → jiv hx9 68 3 = u1 → (u0.toInt ≠ 3 ∨ u1.toInt ≤ 399) → Q (some (.int v)) hx9) : ∀ (g0 : Int32) (g1 : Int32) (h : jH), 0 ≤ g0.toInt ∧ g0.toInt ≤ 400 → 0 ≤ g1.toInt ∧ g1.toInt ≤ 3 → (g1.toInt ≠ 3 ∨ g0.toInt ≤ 399) → jiv h 68 3 = g0 → jiv h 68 5 = g1 → jJ jSgX Dy h → jSm fp_X2_readClause_r95 h0 h → jX m_X2_readClause 25 0 0 78 [(0, .ref 95)] [] h 0 0 Q := by
  intro g0 g1 h y0 y1 y2 z0 z1  J Sm
  refine x_aloadn (x := 95) rfl rfl ?_
  refine x_iconst (v := 3) rfl ki_3 ?_
  refine x_aloadn (x := 95) rfl rfl ?_
  refine z_getI (N := 6) 2 4 rfl f_2_24 rfl J rfl sg_95_4_5_1_0_1 (fun v1 qv1 ev1 => ?_)
  refine x_inv (N := m_X2_note) (As := [.int 3, .int v1]) (b := 95) (st := []) (dx9 := 1) (mc := 0) (ms := 0) (host := "") 2 rfl t_X2_note ⟨Or.inl q_2_82, i_X2_note.1, i_X2_note.2⟩ ⟨by decide, rfl⟩ (congrArg Prod.fst (J.1.1 95 (2, 6) rfl)) rfl (by decide) rfl rfl ⟨by decide, by decide⟩ (sf_X2_note_r95 (jr_of jk_3 (by omega)) hD J  (fun h J S2 => ?_))
  have Sm := jSm_tr rfl Sm S2
  show jX m_X2_readClause 25 0 0 87 [(0, .ref 95)] [] _ 0 0 _
  refine x_aloadn (x := 95) rfl rfl ?_
  refine x_iconst (v := 0) rfl ki_0 ?_
  refine x_inv (N := m_X2_readSum) (As := [.int 0]) (b := 95) (st := []) (dx9 := 22) (mc := 0) (ms := 0) (host := "") 2 rfl t_X2_readSum ⟨Or.inl q_2_86, i_X2_readSum.1, i_X2_readSum.2⟩ ⟨by decide, rfl⟩ (congrArg Prod.fst (J.1.1 95 (2, 6) rfl)) rfl (by decide) rfl rfl ⟨by decide, by decide⟩ (sf_X2_readSum_r95_c0  hD J (jmc S2 rfl z1) (jmc S2 rfl z0) (by omega)  (fun v6 h ev6 J S3 u4 u5 qu4 qu5 ru4 => ?_))
  have Sm := jSm_tr rfl Sm S3
  have eu4 := (show 0 ≤ u4.toInt ∧ u4.toInt ≤ 3 from qu4 ▸ jrg_f J sg_68_5_6_1_0_1)
  have eu5 := (show 0 ≤ u5.toInt ∧ u5.toInt ≤ 400 from qu5 ▸ jrg_f J sg_68_3_4_1_0_1)
  show jX m_X2_readClause 25 0 0 92 [(0, .ref 95)] [.int v6] _ 0 0 _
  refine x_ifne (tgt := 97) rfl rfl (ti_ne rfl jk_0 ⟨fun c7 => ?_, fun c7 => ?_⟩)
  ·
    refine x_aloadn (x := 95) rfl rfl ?_
    refine x_iconst (v := 0) rfl ki_0 ?_
    refine x_inv (N := m_X2_emit) (As := [.int 0]) (b := 95) (st := []) (dx9 := 1) (mc := 0) (ms := 0) (host := "") 2 rfl t_X2_emit ⟨Or.inl q_2_89, i_X2_emit.1, i_X2_emit.2⟩ ⟨by decide, rfl⟩ (congrArg Prod.fst (J.1.1 95 (2, 6) rfl)) rfl (by decide) rfl rfl ⟨by decide, by decide⟩ (sf_X2_emit_r95  hD J  (fun h J S8 => ?_))
    have Sm := jSm_tr rfl Sm S8
    show jX m_X2_readClause 25 0 0 102 [(0, .ref 95)] [] _ 0 0 _
    exact jX.sub (jsb_c rfl jsb_n) (ct_X2_readClause_r95_102 hD hQ  u5 u4 h (jr_of rfl (by omega)) (jr_of rfl (by omega)) (by omega) (jmc S8 rfl qu5) (jmc S8 rfl qu4) J Sm)
  ·
    refine x_iconst (v := 0) rfl ki_0 ?_
    refine x_zret rfl rfl (by decide) ?_
    exact hQ _ _ (jr_of jk_0 (by omega)) J Sm _ _ qu4 qu5 (by omega)
set_option maxRecDepth 100000 in
set_option maxHeartbeats 4000000 in
theorem sf_X2_readClause_r95 {Dy : jH → Prop} {h : jH} {Q : Option Value → jH → Prop} (hD : jDk Dy) (J : jJ jSgX Dy h) {p0 p1 : Int32} (zp0 : jiv h 68 5 = p0) (zp1 : jiv h 68 3 = p1) (rl_p0 : (p0.toInt ≠ 3 ∨ p1.toInt ≤ 399)) (hQ : ∀ (v : Int32) hx9, 0 ≤ v.toInt ∧ v.toInt ≤ 1 → jJ jSgX Dy hx9 → jSm fp_X2_readClause_r95 h hx9 → ∀ u0 u1 : Int32, jiv hx9 68 5 = u0 → jiv hx9 68 3 = u1 → (u0.toInt ≠ 3 ∨ u1.toInt ≤ 399) → Q (some (.int v)) hx9) : jC m_X2_readClause 25 0 0 [.ref 95] h Q := by
  refine jC.of rfl k_X2_readClause rfl ?_
  have Sm := jSm_rf fp_X2_readClause_r95 h
  have ep0 := (show 0 ≤ p0.toInt ∧ p0.toInt ≤ 3 from zp0 ▸ jrg_f J sg_68_5_6_1_0_1)
  have ep1 := (show 0 ≤ p1.toInt ∧ p1.toInt ≤ 400 from zp1 ▸ jrg_f J sg_68_3_4_1_0_1)
  show jX m_X2_readClause 25 0 0 0 [(0, .ref 95)] [] _ 0 0 _
  refine x_aloadn (x := 95) rfl rfl ?_
  refine z_getR (N := 6) (b := 68) 2 0 rfl f_2_30 rfl J rfl 12160 ⟨rfl, rfl⟩ rfl ?_
  refine x_ldcS (jstr.getD 0 jstr_0) rfl (List.mem_of_getElem? (i := 0) rfl) rfl rfl ?_
  show jX m_X2_readClause 25 0 0 6 [(0, .ref 95)] [.ref 5, .ref 68] _ 0 0 _
  refine x_inv (N := m_X9_wordOf) (As := [.ref 5]) (b := 68) (st := []) (dx9 := 4) (mc := 0) (ms := 0) (host := "") 9 rfl t_X9_wordOf ⟨Or.inl q_2_67, i_X9_wordOf.1, i_X9_wordOf.2⟩ ⟨by decide, rfl⟩ (congrArg Prod.fst (J.1.1 68 (9, 6) rfl)) rfl (by decide) rfl rfl ⟨by decide, by decide⟩ (sf_X9_wordOf_r68_r5  hD J  (fun v2 h J S1 => ?_))
  have ev2 := jfull v2
  have Sm := jSm_tr rfl Sm S1
  show jX m_X2_readClause 25 0 0 9 [(0, .ref 95)] [.int v2] _ 0 0 _
  refine x_istoren (lsx9 := [(1, .int v2), (0, .ref 95)]) rfl rfl rfl ?_
  refine x_iloadn (x := v2) rfl rfl ?_
  refine x_iconst (v := (-1)) rfl ki_m1 ?_
  refine x_icne (tgt := 23) rfl rfl (ti_ne rfl jk_m1 ⟨fun c3 => ?_, fun c3 => ?_⟩)
  ·
    refine x_aloadn (x := 95) rfl rfl ?_
    refine z_getR (N := 6) (b := 68) 2 0 rfl f_2_30 rfl J rfl 12160 ⟨rfl, rfl⟩ rfl ?_
    refine x_inv (N := m_X9_step) (As := []) (b := 68) (st := []) (dx9 := 2) (mc := 0) (ms := 0) (host := "") 9 rfl t_X9_step ⟨Or.inl q_2_62, i_X9_step.1, i_X9_step.2⟩ ⟨by decide, rfl⟩ (congrArg Prod.fst (J.1.1 68 (9, 6) rfl)) rfl (by decide) rfl rfl ⟨by decide, by decide⟩ (sf_X9_step_r68  hD J (jmc S1 rfl zp0) (jmc S1 rfl zp1) (by omega)  (fun h J S4 u5 u6 qu5 qu6 ru5 => ?_))
    have Sm := jSm_tr rfl Sm S4
    have eu5 := (show 0 ≤ u5.toInt ∧ u5.toInt ≤ 3 from qu5 ▸ jrg_f J sg_68_5_6_1_0_1)
    have eu6 := (show 0 ≤ u6.toInt ∧ u6.toInt ≤ 400 from qu6 ▸ jrg_f J sg_68_3_4_1_0_1)
    show jX m_X2_readClause 25 0 0 30 [(1, .int v2), (0, .ref 95)] [] _ 0 0 _
    refine x_aloadn (x := 95) rfl rfl ?_
    refine x_iloadn (x := v2) rfl rfl ?_
    refine x_inv (N := m_X2_openHead) (As := [.int v2]) (b := 95) (st := []) (dx9 := 2) (mc := 0) (ms := 0) (host := "") 2 rfl t_X2_openHead ⟨Or.inl q_2_71, i_X2_openHead.1, i_X2_openHead.2⟩ ⟨by decide, rfl⟩ (congrArg Prod.fst (J.1.1 95 (2, 6) rfl)) rfl (by decide) rfl rfl ⟨by decide, by decide⟩ (sf_X2_openHead_r95  hD J  (fun h J S7 => ?_))
    have Sm := jSm_tr rfl Sm S7
    show jX m_X2_readClause 25 0 0 35 [(1, .int v2), (0, .ref 95)] [] _ 0 0 _
    refine x_iloadn (x := v2) rfl rfl ?_
    refine x_bipush (v := 8) rfl kb_8 ?_
    refine x_icne (tgt := 46) rfl rfl (ti_ne rfl jk_8 ⟨fun c8 => ?_, fun c8 => ?_⟩)
    ·
      refine x_aloadn (x := 95) rfl rfl ?_
      refine x_iloadn (x := v2) rfl rfl ?_
      refine x_inv (N := m_X2_readHead) (As := [.int v2]) (b := 95) (st := []) (dx9 := 24) (mc := 0) (ms := 0) (host := "") 2 rfl t_X2_readHead ⟨Or.inl q_2_78, i_X2_readHead.1, i_X2_readHead.2⟩ ⟨by decide, rfl⟩ (congrArg Prod.fst (J.1.1 95 (2, 6) rfl)) rfl (by decide) rfl rfl ⟨by decide, by decide⟩ (jC.of rfl k_X2_readHead rfl ?_)
      show jX m_X2_readHead 24 0 0 0 [(0, .ref 95), (1, .int v2)] [] _ 0 0 _
      refine x_iloadn (x := v2) rfl rfl ?_
      by_cases c9 : v2.toInt = 0
      ·
        refine x_tableIn (tgt := 44) 0 rfl c9 (by decide) (by decide) rfl rfl ?_
        refine x_aloadn (x := 95) rfl rfl ?_
        refine x_ldcS (jstr.getD 2 jstr_0) rfl (List.mem_of_getElem? (i := 2) rfl) rfl rfl ?_
        show jX m_X2_readHead 24 0 0 47 [(0, .ref 95), (1, .int v2)] [.ref 7, .ref 95] _ 0 0 _
        refine x_inv (N := m_X2_readWhich) (As := [.ref 7]) (b := 95) (st := []) (dx9 := 5) (mc := 0) (ms := 0) (host := "") 2 rfl t_X2_readWhich ⟨Or.inl q_2_107, i_X2_readWhich.1, i_X2_readWhich.2⟩ ⟨by decide, rfl⟩ (congrArg Prod.fst (J.1.1 95 (2, 6) rfl)) rfl (by decide) rfl rfl ⟨by decide, by decide⟩ (sf_X2_readWhich_r95_r7  hD J (jmc S7 rfl qu5) (jmc S7 rfl qu6) (by omega)  (fun v13 h ev13 J S10 u11 u12 qu11 qu12 ru11 => ?_))
        have Sm := jSm_tr rfl Sm S10
        have eu11 := (show 0 ≤ u11.toInt ∧ u11.toInt ≤ 3 from qu11 ▸ jrg_f J sg_68_5_6_1_0_1)
        have eu12 := (show 0 ≤ u12.toInt ∧ u12.toInt ≤ 400 from qu12 ▸ jrg_f J sg_68_3_4_1_0_1)
        show jX m_X2_readHead 24 0 0 50 [(0, .ref 95), (1, .int v2)] [.int v13] _ 0 0 _
        refine x_zret rfl rfl (jz01 (by omega)) ?_
        show jX m_X2_readClause 25 0 0 51 [(1, .int v2), (0, .ref 95)] [.int v13] _ 0 0 _
        refine x_ifne (tgt := 56) rfl rfl (ti_ne rfl jk_0 ⟨fun c14 => ?_, fun c14 => ?_⟩)
        ·
          refine x_iloadn (x := v2) rfl rfl ?_
          refine x_iconst (v := 2) rfl ki_2 ?_
          refine x_iceq (tgt := 78) rfl rfl (ti_eq rfl jk_2 (br_f (by omega) ?_))
          refine x_iloadn (x := v2) rfl rfl ?_
          refine x_iconst (v := 3) rfl ki_3 ?_
          refine x_iceq (tgt := 78) rfl rfl (ti_eq rfl jk_3 (br_f (by omega) ?_))
          refine x_iloadn (x := v2) rfl rfl ?_
          refine x_bipush (v := 6) rfl kb_6 ?_
          refine x_iceq (tgt := 78) rfl rfl (ti_eq rfl jk_6 (br_f (by omega) ?_))
          refine x_iloadn (x := v2) rfl rfl ?_
          refine x_bipush (v := 7) rfl kb_7 ?_
          refine x_icne (tgt := 102) rfl rfl (ti_ne rfl jk_7 (bn_t (by omega) ?_))
          exact jX.sub (jsb_c rfl jsb_n) (ct_X2_readClause_r95_102 hD hQ  u12 u11 h (jr_of rfl (by omega)) (jr_of rfl (by omega)) (by omega) qu12 qu11 J Sm)
        ·
          refine x_iconst (v := 0) rfl ki_0 ?_
          refine x_zret rfl rfl (by decide) ?_
          exact hQ _ _ (jr_of jk_0 (by omega)) J Sm _ _ qu11 qu12 (by omega)
      by_cases c15 : v2.toInt = 1
      ·
        refine x_tableIn (tgt := 51) 1 rfl c15 (by decide) (by decide) rfl rfl ?_
        refine x_aloadn (x := 95) rfl rfl ?_
        refine x_ldcS (jstr.getD 3 jstr_0) rfl (List.mem_of_getElem? (i := 3) rfl) rfl rfl ?_
        show jX m_X2_readHead 24 0 0 54 [(0, .ref 95), (1, .int v2)] [.ref 8, .ref 95] _ 0 0 _
        refine x_inv (N := m_X2_readWhich) (As := [.ref 8]) (b := 95) (st := []) (dx9 := 5) (mc := 0) (ms := 0) (host := "") 2 rfl t_X2_readWhich ⟨Or.inl q_2_107, i_X2_readWhich.1, i_X2_readWhich.2⟩ ⟨by decide, rfl⟩ (congrArg Prod.fst (J.1.1 95 (2, 6) rfl)) rfl (by decide) rfl rfl ⟨by decide, by decide⟩ (sf_X2_readWhich_r95_r8  hD J (jmc S7 rfl qu5) (jmc S7 rfl qu6) (by omega)  (fun v19 h ev19 J S16 u17 u18 qu17 qu18 ru17 => ?_))
        have Sm := jSm_tr rfl Sm S16
        have eu17 := (show 0 ≤ u17.toInt ∧ u17.toInt ≤ 3 from qu17 ▸ jrg_f J sg_68_5_6_1_0_1)
        have eu18 := (show 0 ≤ u18.toInt ∧ u18.toInt ≤ 400 from qu18 ▸ jrg_f J sg_68_3_4_1_0_1)
        show jX m_X2_readHead 24 0 0 57 [(0, .ref 95), (1, .int v2)] [.int v19] _ 0 0 _
        refine x_zret rfl rfl (jz01 (by omega)) ?_
        show jX m_X2_readClause 25 0 0 51 [(1, .int v2), (0, .ref 95)] [.int v19] _ 0 0 _
        refine x_ifne (tgt := 56) rfl rfl (ti_ne rfl jk_0 ⟨fun c20 => ?_, fun c20 => ?_⟩)
        ·
          refine x_iloadn (x := v2) rfl rfl ?_
          refine x_iconst (v := 2) rfl ki_2 ?_
          refine x_iceq (tgt := 78) rfl rfl (ti_eq rfl jk_2 (br_f (by omega) ?_))
          refine x_iloadn (x := v2) rfl rfl ?_
          refine x_iconst (v := 3) rfl ki_3 ?_
          refine x_iceq (tgt := 78) rfl rfl (ti_eq rfl jk_3 (br_f (by omega) ?_))
          refine x_iloadn (x := v2) rfl rfl ?_
          refine x_bipush (v := 6) rfl kb_6 ?_
          refine x_iceq (tgt := 78) rfl rfl (ti_eq rfl jk_6 (br_f (by omega) ?_))
          refine x_iloadn (x := v2) rfl rfl ?_
          refine x_bipush (v := 7) rfl kb_7 ?_
          refine x_icne (tgt := 102) rfl rfl (ti_ne rfl jk_7 (bn_t (by omega) ?_))
          exact jX.sub (jsb_c rfl jsb_n) (ct_X2_readClause_r95_102 hD hQ  u18 u17 h (jr_of rfl (by omega)) (jr_of rfl (by omega)) (by omega) qu18 qu17 J Sm)
        ·
          refine x_iconst (v := 0) rfl ki_0 ?_
          refine x_zret rfl rfl (by decide) ?_
          exact hQ _ _ (jr_of jk_0 (by omega)) J Sm _ _ qu17 qu18 (by omega)
      by_cases c21 : v2.toInt = 2
      ·
        refine x_tableIn (tgt := 51) 2 rfl c21 (by decide) (by decide) rfl rfl ?_
        refine x_aloadn (x := 95) rfl rfl ?_
        refine x_ldcS (jstr.getD 3 jstr_0) rfl (List.mem_of_getElem? (i := 3) rfl) rfl rfl ?_
        show jX m_X2_readHead 24 0 0 54 [(0, .ref 95), (1, .int v2)] [.ref 8, .ref 95] _ 0 0 _
        refine x_inv (N := m_X2_readWhich) (As := [.ref 8]) (b := 95) (st := []) (dx9 := 5) (mc := 0) (ms := 0) (host := "") 2 rfl t_X2_readWhich ⟨Or.inl q_2_107, i_X2_readWhich.1, i_X2_readWhich.2⟩ ⟨by decide, rfl⟩ (congrArg Prod.fst (J.1.1 95 (2, 6) rfl)) rfl (by decide) rfl rfl ⟨by decide, by decide⟩ (sf_X2_readWhich_r95_r8  hD J (jmc S7 rfl qu5) (jmc S7 rfl qu6) (by omega)  (fun v25 h ev25 J S22 u23 u24 qu23 qu24 ru23 => ?_))
        have Sm := jSm_tr rfl Sm S22
        have eu23 := (show 0 ≤ u23.toInt ∧ u23.toInt ≤ 3 from qu23 ▸ jrg_f J sg_68_5_6_1_0_1)
        have eu24 := (show 0 ≤ u24.toInt ∧ u24.toInt ≤ 400 from qu24 ▸ jrg_f J sg_68_3_4_1_0_1)
        show jX m_X2_readHead 24 0 0 57 [(0, .ref 95), (1, .int v2)] [.int v25] _ 0 0 _
        refine x_zret rfl rfl (jz01 (by omega)) ?_
        show jX m_X2_readClause 25 0 0 51 [(1, .int v2), (0, .ref 95)] [.int v25] _ 0 0 _
        refine x_ifne (tgt := 56) rfl rfl (ti_ne rfl jk_0 ⟨fun c26 => ?_, fun c26 => ?_⟩)
        ·
          refine x_iloadn (x := v2) rfl rfl ?_
          refine x_iconst (v := 2) rfl ki_2 ?_
          refine x_iceq (tgt := 78) rfl rfl (ti_eq rfl jk_2 (br_t (by omega) ?_))
          exact jX.sub (jsb_c rfl jsb_n) (ct_X2_readClause_r95_78 hD hQ  u24 u23 h (jr_of rfl (by omega)) (jr_of rfl (by omega)) (by omega) qu24 qu23 J Sm)
        ·
          refine x_iconst (v := 0) rfl ki_0 ?_
          refine x_zret rfl rfl (by decide) ?_
          exact hQ _ _ (jr_of jk_0 (by omega)) J Sm _ _ qu23 qu24 (by omega)
      by_cases c27 : v2.toInt = 3
      ·
        refine x_tableIn (tgt := 91) 3 rfl c27 (by decide) (by decide) rfl rfl ?_
        refine x_iconst (v := 1) rfl ki_1 ?_
        refine x_zret rfl rfl (by decide) ?_
        show jX m_X2_readClause 25 0 0 51 [(1, .int v2), (0, .ref 95)] [.int 1] _ 0 0 _
        refine x_ifne (tgt := 56) rfl rfl (ti_ne jk_1 jk_0 (bn_t (by omega) ?_))
        refine x_iloadn (x := v2) rfl rfl ?_
        refine x_iconst (v := 2) rfl ki_2 ?_
        refine x_iceq (tgt := 78) rfl rfl (ti_eq rfl jk_2 (br_f (by omega) ?_))
        refine x_iloadn (x := v2) rfl rfl ?_
        refine x_iconst (v := 3) rfl ki_3 ?_
        refine x_iceq (tgt := 78) rfl rfl (ti_eq rfl jk_3 (br_t (by omega) ?_))
        exact jX.sub (jsb_c rfl jsb_n) (ct_X2_readClause_r95_78 hD hQ  u6 u5 h (jr_of rfl (by omega)) (jr_of rfl (by omega)) (by omega) (jmc S7 rfl qu6) (jmc S7 rfl qu5) J Sm)
      by_cases c28 : v2.toInt = 4
      ·
        refine x_tableIn (tgt := 91) 4 rfl c28 (by decide) (by decide) rfl rfl ?_
        refine x_iconst (v := 1) rfl ki_1 ?_
        refine x_zret rfl rfl (by decide) ?_
        show jX m_X2_readClause 25 0 0 51 [(1, .int v2), (0, .ref 95)] [.int 1] _ 0 0 _
        refine x_ifne (tgt := 56) rfl rfl (ti_ne jk_1 jk_0 (bn_t (by omega) ?_))
        refine x_iloadn (x := v2) rfl rfl ?_
        refine x_iconst (v := 2) rfl ki_2 ?_
        refine x_iceq (tgt := 78) rfl rfl (ti_eq rfl jk_2 (br_f (by omega) ?_))
        refine x_iloadn (x := v2) rfl rfl ?_
        refine x_iconst (v := 3) rfl ki_3 ?_
        refine x_iceq (tgt := 78) rfl rfl (ti_eq rfl jk_3 (br_f (by omega) ?_))
        refine x_iloadn (x := v2) rfl rfl ?_
        refine x_bipush (v := 6) rfl kb_6 ?_
        refine x_iceq (tgt := 78) rfl rfl (ti_eq rfl jk_6 (br_f (by omega) ?_))
        refine x_iloadn (x := v2) rfl rfl ?_
        refine x_bipush (v := 7) rfl kb_7 ?_
        refine x_icne (tgt := 102) rfl rfl (ti_ne rfl jk_7 (bn_t (by omega) ?_))
        exact jX.sub (jsb_c rfl jsb_n) (ct_X2_readClause_r95_102 hD hQ  u6 u5 h (jr_of rfl (by omega)) (jr_of rfl (by omega)) (by omega) (jmc S7 rfl qu6) (jmc S7 rfl qu5) J Sm)
      by_cases c29 : v2.toInt = 5
      ·
        refine x_tableIn (tgt := 58) 5 rfl c29 (by decide) (by decide) rfl rfl ?_
        refine x_aloadn (x := 95) rfl rfl ?_
        refine x_ldcS (jstr.getD 4 jstr_0) rfl (List.mem_of_getElem? (i := 4) rfl) rfl rfl ?_
        show jX m_X2_readHead 24 0 0 61 [(0, .ref 95), (1, .int v2)] [.ref 9, .ref 95] _ 0 0 _
        refine x_inv (N := m_X2_readWhich) (As := [.ref 9]) (b := 95) (st := []) (dx9 := 5) (mc := 0) (ms := 0) (host := "") 2 rfl t_X2_readWhich ⟨Or.inl q_2_107, i_X2_readWhich.1, i_X2_readWhich.2⟩ ⟨by decide, rfl⟩ (congrArg Prod.fst (J.1.1 95 (2, 6) rfl)) rfl (by decide) rfl rfl ⟨by decide, by decide⟩ (sf_X2_readWhich_r95_r9  hD J (jmc S7 rfl qu5) (jmc S7 rfl qu6) (by omega)  (fun v33 h ev33 J S30 u31 u32 qu31 qu32 ru31 => ?_))
        have Sm := jSm_tr rfl Sm S30
        have eu31 := (show 0 ≤ u31.toInt ∧ u31.toInt ≤ 3 from qu31 ▸ jrg_f J sg_68_5_6_1_0_1)
        have eu32 := (show 0 ≤ u32.toInt ∧ u32.toInt ≤ 400 from qu32 ▸ jrg_f J sg_68_3_4_1_0_1)
        show jX m_X2_readHead 24 0 0 64 [(0, .ref 95), (1, .int v2)] [.int v33] _ 0 0 _
        refine x_ifeq (tgt := 82) rfl rfl (ti_eq rfl jk_0 ⟨fun c34 => ?_, fun c34 => ?_⟩)
        ·
          refine x_iconst (v := 0) rfl ki_0 ?_
          refine x_zret rfl rfl (by decide) ?_
          show jX m_X2_readClause 25 0 0 51 [(1, .int v2), (0, .ref 95)] [.int 0] _ 0 0 _
          refine x_ifne (tgt := 56) rfl rfl (ti_ne jk_0 jk_0 (bn_f (by omega) ?_))
          refine x_iconst (v := 0) rfl ki_0 ?_
          refine x_zret rfl rfl (by decide) ?_
          exact hQ _ _ (jr_of jk_0 (by omega)) J Sm _ _ qu31 qu32 (by omega)
        ·
          refine x_aloadn (x := 95) rfl rfl ?_
          refine x_iconst (v := 2) rfl ki_2 ?_
          refine x_sipush (v := 399) rfl ks_399 ?_
          refine x_inv (N := m_X2_readNumber) (As := [.int 2, .int 399]) (b := 95) (st := []) (dx9 := 3) (mc := 0) (ms := 0) (host := "") 2 rfl t_X2_readNumber ⟨Or.inl q_2_99, i_X2_readNumber.1, i_X2_readNumber.2⟩ ⟨by decide, rfl⟩ (congrArg Prod.fst (J.1.1 95 (2, 6) rfl)) rfl (by decide) rfl rfl ⟨by decide, by decide⟩ (sf_X2_readNumber_r95 (jr_of jk_2 (by omega)) (jr_of jk_399 (by omega)) (jr_mod jk_399 (by omega)) hD J qu31 qu32 (by omega)  (fun v38 h ev38 J S35 u36 u37 qu36 qu37 ru36 => ?_))
          have Sm := jSm_tr rfl Sm S35
          have eu36 := (show 0 ≤ u36.toInt ∧ u36.toInt ≤ 3 from qu36 ▸ jrg_f J sg_68_5_6_1_0_1)
          have eu37 := (show 0 ≤ u37.toInt ∧ u37.toInt ≤ 400 from qu37 ▸ jrg_f J sg_68_3_4_1_0_1)
          show jX m_X2_readHead 24 0 0 75 [(0, .ref 95), (1, .int v2)] [.int v38] _ 0 0 _
          refine x_ifeq (tgt := 82) rfl rfl (ti_eq rfl jk_0 ⟨fun c39 => ?_, fun c39 => ?_⟩)
          ·
            refine x_iconst (v := 0) rfl ki_0 ?_
            refine x_zret rfl rfl (by decide) ?_
            show jX m_X2_readClause 25 0 0 51 [(1, .int v2), (0, .ref 95)] [.int 0] _ 0 0 _
            refine x_ifne (tgt := 56) rfl rfl (ti_ne jk_0 jk_0 (bn_f (by omega) ?_))
            refine x_iconst (v := 0) rfl ki_0 ?_
            refine x_zret rfl rfl (by decide) ?_
            exact hQ _ _ (jr_of jk_0 (by omega)) J Sm _ _ qu36 qu37 (by omega)
          ·
            refine x_iconst (v := 1) rfl ki_1 ?_
            refine x_goto (tgt := 83) rfl rfl ?_
            refine x_zret rfl rfl (by decide) ?_
            show jX m_X2_readClause 25 0 0 51 [(1, .int v2), (0, .ref 95)] [.int 1] _ 0 0 _
            refine x_ifne (tgt := 56) rfl rfl (ti_ne jk_1 jk_0 (bn_t (by omega) ?_))
            refine x_iloadn (x := v2) rfl rfl ?_
            refine x_iconst (v := 2) rfl ki_2 ?_
            refine x_iceq (tgt := 78) rfl rfl (ti_eq rfl jk_2 (br_f (by omega) ?_))
            refine x_iloadn (x := v2) rfl rfl ?_
            refine x_iconst (v := 3) rfl ki_3 ?_
            refine x_iceq (tgt := 78) rfl rfl (ti_eq rfl jk_3 (br_f (by omega) ?_))
            refine x_iloadn (x := v2) rfl rfl ?_
            refine x_bipush (v := 6) rfl kb_6 ?_
            refine x_iceq (tgt := 78) rfl rfl (ti_eq rfl jk_6 (br_f (by omega) ?_))
            refine x_iloadn (x := v2) rfl rfl ?_
            refine x_bipush (v := 7) rfl kb_7 ?_
            refine x_icne (tgt := 102) rfl rfl (ti_ne rfl jk_7 (bn_t (by omega) ?_))
            exact jX.sub (jsb_c rfl jsb_n) (ct_X2_readClause_r95_102 hD hQ  u37 u36 h (jr_of rfl (by omega)) (jr_of rfl (by omega)) (by omega) qu37 qu36 J Sm)
      by_cases c40 : v2.toInt = 6
      ·
        refine x_tableIn (tgt := 84) 6 rfl c40 (by decide) (by decide) rfl rfl ?_
        refine x_aloadn (x := 95) rfl rfl ?_
        refine x_ldcS (jstr.getD 5 jstr_0) rfl (List.mem_of_getElem? (i := 5) rfl) rfl rfl ?_
        show jX m_X2_readHead 24 0 0 87 [(0, .ref 95), (1, .int v2)] [.ref 10, .ref 95] _ 0 0 _
        refine x_inv (N := m_X2_readWhich) (As := [.ref 10]) (b := 95) (st := []) (dx9 := 5) (mc := 0) (ms := 0) (host := "") 2 rfl t_X2_readWhich ⟨Or.inl q_2_107, i_X2_readWhich.1, i_X2_readWhich.2⟩ ⟨by decide, rfl⟩ (congrArg Prod.fst (J.1.1 95 (2, 6) rfl)) rfl (by decide) rfl rfl ⟨by decide, by decide⟩ (sf_X2_readWhich_r95_r10  hD J (jmc S7 rfl qu5) (jmc S7 rfl qu6) (by omega)  (fun v44 h ev44 J S41 u42 u43 qu42 qu43 ru42 => ?_))
        have Sm := jSm_tr rfl Sm S41
        have eu42 := (show 0 ≤ u42.toInt ∧ u42.toInt ≤ 3 from qu42 ▸ jrg_f J sg_68_5_6_1_0_1)
        have eu43 := (show 0 ≤ u43.toInt ∧ u43.toInt ≤ 400 from qu43 ▸ jrg_f J sg_68_3_4_1_0_1)
        show jX m_X2_readHead 24 0 0 90 [(0, .ref 95), (1, .int v2)] [.int v44] _ 0 0 _
        refine x_zret rfl rfl (jz01 (by omega)) ?_
        show jX m_X2_readClause 25 0 0 51 [(1, .int v2), (0, .ref 95)] [.int v44] _ 0 0 _
        refine x_ifne (tgt := 56) rfl rfl (ti_ne rfl jk_0 ⟨fun c45 => ?_, fun c45 => ?_⟩)
        ·
          refine x_iloadn (x := v2) rfl rfl ?_
          refine x_iconst (v := 2) rfl ki_2 ?_
          refine x_iceq (tgt := 78) rfl rfl (ti_eq rfl jk_2 (br_f (by omega) ?_))
          refine x_iloadn (x := v2) rfl rfl ?_
          refine x_iconst (v := 3) rfl ki_3 ?_
          refine x_iceq (tgt := 78) rfl rfl (ti_eq rfl jk_3 (br_f (by omega) ?_))
          refine x_iloadn (x := v2) rfl rfl ?_
          refine x_bipush (v := 6) rfl kb_6 ?_
          refine x_iceq (tgt := 78) rfl rfl (ti_eq rfl jk_6 (br_t (by omega) ?_))
          exact jX.sub (jsb_c rfl jsb_n) (ct_X2_readClause_r95_78 hD hQ  u43 u42 h (jr_of rfl (by omega)) (jr_of rfl (by omega)) (by omega) qu43 qu42 J Sm)
        ·
          refine x_iconst (v := 0) rfl ki_0 ?_
          refine x_zret rfl rfl (by decide) ?_
          exact hQ _ _ (jr_of jk_0 (by omega)) J Sm _ _ qu42 qu43 (by omega)
      refine x_tableOut (tgt := 91) rfl (by omega) rfl ?_
      refine x_iconst (v := 1) rfl ki_1 ?_
      refine x_zret rfl rfl (by decide) ?_
      show jX m_X2_readClause 25 0 0 51 [(1, .int v2), (0, .ref 95)] [.int 1] _ 0 0 _
      refine x_ifne (tgt := 56) rfl rfl (ti_ne jk_1 jk_0 (bn_t (by omega) ?_))
      refine x_iloadn (x := v2) rfl rfl ?_
      refine x_iconst (v := 2) rfl ki_2 ?_
      refine x_iceq (tgt := 78) rfl rfl (ti_eq rfl jk_2 ⟨fun c46 => ?_, fun c46 => ?_⟩)
      ·
        exact jX.sub (jsb_c rfl jsb_n) (ct_X2_readClause_r95_78 hD hQ  u6 u5 h (jr_of rfl (by omega)) (jr_of rfl (by omega)) (by omega) (jmc S7 rfl qu6) (jmc S7 rfl qu5) J Sm)
      ·
        refine x_iloadn (x := v2) rfl rfl ?_
        refine x_iconst (v := 3) rfl ki_3 ?_
        refine x_iceq (tgt := 78) rfl rfl (ti_eq rfl jk_3 ⟨fun c47 => ?_, fun c47 => ?_⟩)
        ·
          exact jX.sub (jsb_c rfl jsb_n) (ct_X2_readClause_r95_78 hD hQ  u6 u5 h (jr_of rfl (by omega)) (jr_of rfl (by omega)) (by omega) (jmc S7 rfl qu6) (jmc S7 rfl qu5) J Sm)
        ·
          refine x_iloadn (x := v2) rfl rfl ?_
          refine x_bipush (v := 6) rfl kb_6 ?_
          refine x_iceq (tgt := 78) rfl rfl (ti_eq rfl jk_6 ⟨fun c48 => ?_, fun c48 => ?_⟩)
          ·
            exact jX.sub (jsb_c rfl jsb_n) (ct_X2_readClause_r95_78 hD hQ  u6 u5 h (jr_of rfl (by omega)) (jr_of rfl (by omega)) (by omega) (jmc S7 rfl qu6) (jmc S7 rfl qu5) J Sm)
          ·
            refine x_iloadn (x := v2) rfl rfl ?_
            refine x_bipush (v := 7) rfl kb_7 ?_
            refine x_icne (tgt := 102) rfl rfl (ti_ne rfl jk_7 ⟨fun c49 => ?_, fun c49 => ?_⟩)
            ·
              exact jX.sub (jsb_c rfl jsb_n) (ct_X2_readClause_r95_102 hD hQ  u6 u5 h (jr_of rfl (by omega)) (jr_of rfl (by omega)) (by omega) (jmc S7 rfl qu6) (jmc S7 rfl qu5) J Sm)
            ·
              exact jX.sub (jsb_c rfl jsb_n) (ct_X2_readClause_r95_78 hD hQ  u6 u5 h (jr_of rfl (by omega)) (jr_of rfl (by omega)) (by omega) (jmc S7 rfl qu6) (jmc S7 rfl qu5) J Sm)
    ·
      refine x_aloadn (x := 95) rfl rfl ?_
      refine x_inv (N := m_X2_readStrike) (As := []) (b := 95) (st := []) (dx9 := 24) (mc := 0) (ms := 0) (host := "") 2 rfl t_X2_readStrike ⟨Or.inl q_2_75, i_X2_readStrike.1, i_X2_readStrike.2⟩ ⟨by decide, rfl⟩ (congrArg Prod.fst (J.1.1 95 (2, 6) rfl)) rfl (by decide) rfl rfl ⟨by decide, by decide⟩ (jC.of rfl k_X2_readStrike rfl ?_)
      show jX m_X2_readStrike 24 0 0 0 [(0, .ref 95)] [] _ 0 0 _
      refine x_aloadn (x := 95) rfl rfl ?_
      refine x_iconst (v := 1) rfl ki_1 ?_
      refine x_bipush (v := 29) rfl kb_29 ?_
      refine x_inv (N := m_X2_readNumber) (As := [.int 1, .int 29]) (b := 95) (st := []) (dx9 := 3) (mc := 0) (ms := 0) (host := "") 2 rfl t_X2_readNumber ⟨Or.inl q_2_99, i_X2_readNumber.1, i_X2_readNumber.2⟩ ⟨by decide, rfl⟩ (congrArg Prod.fst (J.1.1 95 (2, 6) rfl)) rfl (by decide) rfl rfl ⟨by decide, by decide⟩ (sf_X2_readNumber_r95 (jr_of jk_1 (by omega)) (jr_of jk_29 (by omega)) (jr_mod jk_29 (by omega)) hD J (jmc S7 rfl qu5) (jmc S7 rfl qu6) (by omega)  (fun v53 h ev53 J S50 u51 u52 qu51 qu52 ru51 => ?_))
      have Sm := jSm_tr rfl Sm S50
      have eu51 := (show 0 ≤ u51.toInt ∧ u51.toInt ≤ 3 from qu51 ▸ jrg_f J sg_68_5_6_1_0_1)
      have eu52 := (show 0 ≤ u52.toInt ∧ u52.toInt ≤ 400 from qu52 ▸ jrg_f J sg_68_3_4_1_0_1)
      show jX m_X2_readStrike 24 0 0 7 [(0, .ref 95)] [.int v53] _ 0 0 _
      refine x_ifne (tgt := 12) rfl rfl (ti_ne rfl jk_0 ⟨fun c54 => ?_, fun c54 => ?_⟩)
      ·
        refine x_aloadn (x := 95) rfl rfl ?_
        refine z_getR (N := 6) (b := 68) 2 0 rfl f_2_30 rfl J rfl 12160 ⟨rfl, rfl⟩ rfl ?_
        refine x_ldcS (jstr.getD 1 jstr_0) rfl (List.mem_of_getElem? (i := 1) rfl) rfl rfl ?_
        show jX m_X2_readStrike 24 0 0 18 [(0, .ref 95)] [.ref 6, .ref 68] _ 0 0 _
        refine x_inv (N := m_X9_wordOf) (As := [.ref 6]) (b := 68) (st := []) (dx9 := 4) (mc := 0) (ms := 0) (host := "") 9 rfl t_X9_wordOf ⟨Or.inl q_2_67, i_X9_wordOf.1, i_X9_wordOf.2⟩ ⟨by decide, rfl⟩ (congrArg Prod.fst (J.1.1 68 (9, 6) rfl)) rfl (by decide) rfl rfl ⟨by decide, by decide⟩ (sf_X9_wordOf_r68_r6  hD J  (fun v56 h J S55 => ?_))
        have ev56 := jfull v56
        have Sm := jSm_tr rfl Sm S55
        show jX m_X2_readStrike 24 0 0 21 [(0, .ref 95)] [.int v56] _ 0 0 _
        refine x_ifeq (tgt := 32) rfl rfl (ti_eq rfl jk_0 ⟨fun c57 => ?_, fun c57 => ?_⟩)
        ·
          refine x_aloadn (x := 95) rfl rfl ?_
          refine z_getR (N := 6) (b := 68) 2 0 rfl f_2_30 rfl J rfl 12160 ⟨rfl, rfl⟩ rfl ?_
          refine x_inv (N := m_X9_step) (As := []) (b := 68) (st := []) (dx9 := 2) (mc := 0) (ms := 0) (host := "") 9 rfl t_X9_step ⟨Or.inl q_2_62, i_X9_step.1, i_X9_step.2⟩ ⟨by decide, rfl⟩ (congrArg Prod.fst (J.1.1 68 (9, 6) rfl)) rfl (by decide) rfl rfl ⟨by decide, by decide⟩ (sf_X9_step_r68  hD J (jmc S55 rfl qu51) (jmc S55 rfl qu52) (by omega)  (fun h J S58 u59 u60 qu59 qu60 ru59 => ?_))
          have Sm := jSm_tr rfl Sm S58
          have eu59 := (show 0 ≤ u59.toInt ∧ u59.toInt ≤ 3 from qu59 ▸ jrg_f J sg_68_5_6_1_0_1)
          have eu60 := (show 0 ≤ u60.toInt ∧ u60.toInt ≤ 400 from qu60 ▸ jrg_f J sg_68_3_4_1_0_1)
          show jX m_X2_readStrike 24 0 0 39 [(0, .ref 95)] [] _ 0 0 _
          refine x_aloadn (x := 95) rfl rfl ?_
          refine x_iconst (v := 2) rfl ki_2 ?_
          refine x_bipush (v := 11) rfl kb_11 ?_
          refine x_inv (N := m_X2_readNumber) (As := [.int 2, .int 11]) (b := 95) (st := []) (dx9 := 3) (mc := 0) (ms := 0) (host := "") 2 rfl t_X2_readNumber ⟨Or.inl q_2_99, i_X2_readNumber.1, i_X2_readNumber.2⟩ ⟨by decide, rfl⟩ (congrArg Prod.fst (J.1.1 95 (2, 6) rfl)) rfl (by decide) rfl rfl ⟨by decide, by decide⟩ (sf_X2_readNumber_r95 (jr_of jk_2 (by omega)) (jr_of jk_11 (by omega)) (jr_mod jk_11 (by omega)) hD J qu59 qu60 (by omega)  (fun v64 h ev64 J S61 u62 u63 qu62 qu63 ru62 => ?_))
          have Sm := jSm_tr rfl Sm S61
          have eu62 := (show 0 ≤ u62.toInt ∧ u62.toInt ≤ 3 from qu62 ▸ jrg_f J sg_68_5_6_1_0_1)
          have eu63 := (show 0 ≤ u63.toInt ∧ u63.toInt ≤ 400 from qu63 ▸ jrg_f J sg_68_3_4_1_0_1)
          show jX m_X2_readStrike 24 0 0 46 [(0, .ref 95)] [.int v64] _ 0 0 _
          refine x_zret rfl rfl (jz01 (by omega)) ?_
          show jX m_X2_readClause 25 0 0 45 [(1, .int v2), (0, .ref 95)] [.int v64] _ 0 0 _
          refine x_zret rfl rfl (jz01 (by omega)) ?_
          exact hQ _ _ (jr_of rfl (by omega)) J Sm _ _ qu62 qu63 (by omega)
        ·
          refine x_aloadn (x := 95) rfl rfl ?_
          refine z_getR (N := 6) (b := 68) 2 0 rfl f_2_30 rfl J rfl 12160 ⟨rfl, rfl⟩ rfl ?_
          refine x_inv (N := m_X9_blame) (As := []) (b := 68) (st := []) (dx9 := 23) (mc := 0) (ms := 0) (host := "") 9 rfl t_X9_blame ⟨Or.inl q_2_59, i_X9_blame.1, i_X9_blame.2⟩ ⟨by decide, rfl⟩ (congrArg Prod.fst (J.1.1 68 (9, 6) rfl)) rfl (by decide) rfl rfl ⟨by decide, by decide⟩ (jC.of rfl k_X9_blame rfl ?_)
          show jX m_X9_blame 23 0 0 0 [(0, .ref 68)] [] _ 0 0 _
          refine x_aloadn (x := 68) rfl rfl ?_
          refine x_aloadn (x := 68) rfl rfl ?_
          refine z_getM (N := 6) (v := u52) 9 3 rfl f_9_22 rfl J rfl (jmc S55 rfl qu52) ?_
          refine z_putI (N := 6) (w := u52.toInt) 9 2 rfl f_9_19 rfl (jfin_no TX9 RX9 6 rfl rfl) hD J Sm rfl rfl rfl (pw_68_2 (by omega)) rfl (fun h w65 J Sm => ?_)
          refine x_iconst (v := 0) rfl ki_0 ?_
          refine x_zret rfl rfl (by decide) ?_
          show jX m_X2_readStrike 24 0 0 31 [(0, .ref 95)] [.int 0] _ 0 0 _
          refine x_zret rfl rfl (by decide) ?_
          show jX m_X2_readClause 25 0 0 45 [(1, .int v2), (0, .ref 95)] [.int 0] _ 0 0 _
          refine x_zret rfl rfl (by decide) ?_
          exact hQ _ _ (jr_of jk_0 (by omega)) J Sm _ _ (jmo w65 rfl (jmc S55 rfl qu51)) (jmo w65 rfl (jmc S55 rfl qu52)) (by omega)
      ·
        refine x_iconst (v := 0) rfl ki_0 ?_
        refine x_zret rfl rfl (by decide) ?_
        show jX m_X2_readClause 25 0 0 45 [(1, .int v2), (0, .ref 95)] [.int 0] _ 0 0 _
        refine x_zret rfl rfl (by decide) ?_
        exact hQ _ _ (jr_of jk_0 (by omega)) J Sm _ _ qu51 qu52 (by omega)
  ·
    refine x_aloadn (x := 95) rfl rfl ?_
    refine z_getR (N := 6) (b := 68) 2 0 rfl f_2_30 rfl J rfl 12160 ⟨rfl, rfl⟩ rfl ?_
    refine x_inv (N := m_X9_blame) (As := []) (b := 68) (st := []) (dx9 := 24) (mc := 0) (ms := 0) (host := "") 9 rfl t_X9_blame ⟨Or.inl q_2_59, i_X9_blame.1, i_X9_blame.2⟩ ⟨by decide, rfl⟩ (congrArg Prod.fst (J.1.1 68 (9, 6) rfl)) rfl (by decide) rfl rfl ⟨by decide, by decide⟩ (jC.of rfl k_X9_blame rfl ?_)
    show jX m_X9_blame 24 0 0 0 [(0, .ref 68)] [] _ 0 0 _
    refine x_aloadn (x := 68) rfl rfl ?_
    refine x_aloadn (x := 68) rfl rfl ?_
    refine z_getM (N := 6) (v := p1) 9 3 rfl f_9_22 rfl J rfl (jmc S1 rfl zp1) ?_
    refine z_putI (N := 6) (w := p1.toInt) 9 2 rfl f_9_19 rfl (jfin_no TX9 RX9 6 rfl rfl) hD J Sm rfl rfl rfl (pw_68_2 (by omega)) rfl (fun h w66 J Sm => ?_)
    refine x_iconst (v := 0) rfl ki_0 ?_
    refine x_zret rfl rfl (by decide) ?_
    show jX m_X2_readClause 25 0 0 22 [(1, .int v2), (0, .ref 95)] [.int 0] _ 0 0 _
    refine x_zret rfl rfl (by decide) ?_
    exact hQ _ _ (jr_of jk_0 (by omega)) J Sm _ _ (jmo w66 rfl (jmc S1 rfl zp0)) (jmo w66 rfl (jmc S1 rfl zp1)) (by omega)
def fp_X2_read_r95 : jFp := [(68, 2, 3), (68, 3, 4), (68, 4, 5), (68, 5, 6), (95, 3, 4), (95, 4, 5), (95, 5, 6), (96, 0, 72), (97, 0, 1200)]
set_option maxRecDepth 100000 in
set_option maxHeartbeats 4000000 in
theorem ct_X2_read_r95_25 {Dy : jH → Prop} {h0 : jH} {Q : Option Value → jH → Prop} (hD : jDk Dy) (hQ : (∀ hx9, jJ jSgX Dy hx9 → jSm fp_X2_read_r95 h0 hx9 → ∀ u0 u1 : Int32, jiv hx9 68 5 = u0 → jiv hx9 68 3 = u1 → (u0.toInt ≠ 3 ∨ u1.toInt ≤ 399) → Q (some .null) hx9) ∧ ∀ (a : Nat) hx9, jTx hx9 a → jJ jSgX Dy hx9 → jSm fp_X2_read_r95 h0 hx9 → ∀ u0 u1 : Int32, jiv hx9 68 5 = u0 → jiv hx9 68 3 = u1 → (u0.toInt ≠ 3 ∨ u1.toInt ≤ 399) → Q (some (.ref a)) hx9) : ∀ r : Nat, ∀ (l1 : Int32) (l2 : Int32) (l3 : Int32) (l4 : Int32) (g0 : Int32) (g1 : Int32) (h : jH), 12 - l4.toInt < (r : Int) → 0 ≤ l1.toInt ∧ l1.toInt ≤ 1 → 0 ≤ l2.toInt ∧ l2.toInt ≤ 146399 → 0 ≤ l3.toInt ∧ l3.toInt ≤ 146399 → 0 ≤ l4.toInt ∧ l4.toInt ≤ 12 → 0 ≤ g0.toInt ∧ g0.toInt ≤ 400 → 0 ≤ g1.toInt ∧ g1.toInt ≤ 3 → (g1.toInt ≠ 3 ∨ g0.toInt ≤ 399) → jiv h 68 3 = g0 → jiv h 68 5 = g1 → jJ jSgX Dy h → jSm fp_X2_read_r95 h0 h → jX m_X2_read 26 3 1278 25 [(0, .ref 95), (1, .int l1), (2, .int l2), (3, .int l3), (4, .int l4)] [] h 0 0 Q := by
  intro r
  induction r with
  | zero =>
    intro l1 l2 l3 l4 g0 g1 h hm y0 y1 y2 y3 y4 y5 y6 z0 z1  J Sm
    exfalso
    omega
  | succ r ih =>
    intro l1 l2 l3 l4 g0 g1 h hm y0 y1 y2 y3 y4 y5 y6 z0 z1  J Sm
    refine x_iload (x := l4) rfl rfl ?_
    refine x_bipush (v := 12) rfl kb_12 ?_
    refine x_icge (tgt := 130) rfl rfl (ti_ge rfl jk_12 ⟨fun c1 => ?_, fun c1 => ?_⟩)
    ·
      refine x_aloadn (x := 95) rfl rfl ?_
      refine z_getR (N := 6) (b := 68) 2 0 rfl f_2_30 rfl J rfl 12160 ⟨rfl, rfl⟩ rfl ?_
      refine x_inv (N := m_X9_blame) (As := []) (b := 68) (st := []) (dx9 := 25) (mc := 0) (ms := 0) (host := "") 9 rfl t_X9_blame ⟨Or.inl q_2_59, i_X9_blame.1, i_X9_blame.2⟩ ⟨by decide, rfl⟩ (congrArg Prod.fst (J.1.1 68 (9, 6) rfl)) rfl (by decide) rfl rfl ⟨by decide, by decide⟩ (jC.of rfl k_X9_blame rfl ?_)
      show jX m_X9_blame 25 0 0 0 [(0, .ref 68)] [] _ 0 0 _
      refine x_aloadn (x := 68) rfl rfl ?_
      refine x_aloadn (x := 68) rfl rfl ?_
      refine z_getM (N := 6) (v := g0) 9 3 rfl f_9_22 rfl J rfl z0 ?_
      refine z_putI (N := 6) (w := g0.toInt) 9 2 rfl f_9_19 rfl (jfin_no TX9 RX9 6 rfl rfl) hD J Sm rfl rfl rfl (pw_68_2 (by omega)) rfl (fun h w2 J Sm => ?_)
      refine x_iconst (v := 0) rfl ki_0 ?_
      refine x_zret rfl rfl (by decide) ?_
      show jX m_X2_read 26 3 1278 137 [(0, .ref 95), (1, .int l1), (2, .int l2), (3, .int l3), (4, .int l4)] [.int 0] _ 0 0 _
      refine x_pop rfl rfl ?_
      refine x_null rfl ?_
      refine x_aret rfl rfl rfl (Or.inl rfl) ?_
      exact hQ.1 _ J Sm _ _ (jmo w2 rfl z1) (jmo w2 rfl z0) (by omega)
    ·
      refine x_aloadn (x := 95) rfl rfl ?_
      refine x_iload (x := l4) rfl rfl ?_
      refine x_iconst (v := 1) rfl ki_1 ?_
      refine z_iadd rfl rfl jk_1 (by omega) (fun v3 ev3 => ?_)
      refine z_putI (N := 6) (w := v3.toInt) 2 3 rfl f_2_20 rfl (jfin_no TX2 RX2 6 rfl rfl) hD J Sm rfl rfl rfl (pw_95_3 (by omega)) rfl (fun h w4 J Sm => ?_)
      refine x_aloadn (x := 95) rfl rfl ?_
      refine x_inv (N := m_X2_readClause) (As := []) (b := 95) (st := []) (dx9 := 25) (mc := 0) (ms := 0) (host := "") 2 rfl t_X2_readClause ⟨Or.inl q_2_39, i_X2_readClause.1, i_X2_readClause.2⟩ ⟨by decide, rfl⟩ (congrArg Prod.fst (J.1.1 95 (2, 6) rfl)) rfl (by decide) rfl rfl ⟨by decide, by decide⟩ (sf_X2_readClause_r95  hD J (jmo w4 rfl z1) (jmo w4 rfl z0) (by omega)  (fun v8 h ev8 J S5 u6 u7 qu6 qu7 ru6 => ?_))
      have Sm := jSm_tr rfl Sm S5
      have eu6 := (show 0 ≤ u6.toInt ∧ u6.toInt ≤ 3 from qu6 ▸ jrg_f J sg_68_5_6_1_0_1)
      have eu7 := (show 0 ≤ u7.toInt ∧ u7.toInt ≤ 400 from qu7 ▸ jrg_f J sg_68_3_4_1_0_1)
      show jX m_X2_read 26 3 1278 44 [(0, .ref 95), (1, .int l1), (2, .int l2), (3, .int l3), (4, .int l4)] [.int v8] _ 0 0 _
      refine x_ifne (tgt := 49) rfl rfl (ti_ne rfl jk_0 ⟨fun c9 => ?_, fun c9 => ?_⟩)
      ·
        refine x_aloadn (x := 95) rfl rfl ?_
        refine z_getR (N := 6) (b := 68) 2 0 rfl f_2_30 rfl J rfl 12160 ⟨rfl, rfl⟩ rfl ?_
        refine x_inv (N := m_X9_isEnd) (As := []) (b := 68) (st := []) (dx9 := 25) (mc := 0) (ms := 0) (host := "") 9 rfl t_X9_isEnd ⟨Or.inl q_2_43, i_X9_isEnd.1, i_X9_isEnd.2⟩ ⟨by decide, rfl⟩ (congrArg Prod.fst (J.1.1 68 (9, 6) rfl)) rfl (by decide) rfl rfl ⟨by decide, by decide⟩ (jC.of rfl k_X9_isEnd rfl ?_)
        show jX m_X9_isEnd 25 0 0 0 [(0, .ref 68)] [] _ 0 0 _
        refine x_aloadn (x := 68) rfl rfl ?_
        refine z_getM (N := 6) (v := u6) 9 5 rfl f_9_28 rfl J rfl qu6 ?_
        refine x_ifne (tgt := 11) rfl rfl (ti_ne rfl jk_0 ⟨fun c10 => ?_, fun c10 => ?_⟩)
        ·
          refine x_iconst (v := 0) rfl ki_0 ?_
          refine x_zret rfl rfl (by decide) ?_
          show jX m_X2_read 26 3 1278 56 [(0, .ref 95), (1, .int l1), (2, .int l2), (3, .int l3), (4, .int l4)] [.int 0] _ 0 0 _
          refine x_ifeq (tgt := 95) rfl rfl (ti_eq jk_0 jk_0 (br_t (by omega) ?_))
          refine x_aloadn (x := 95) rfl rfl ?_
          refine z_getR (N := 6) (b := 68) 2 0 rfl f_2_30 rfl J rfl 12160 ⟨rfl, rfl⟩ rfl ?_
          refine x_bipush (v := 59) rfl kb_59 ?_
          refine x_inv (N := m_X9_isSign) (As := [.int 59]) (b := 68) (st := []) (dx9 := 1) (mc := 0) (ms := 0) (host := "") 9 rfl t_X9_isSign ⟨Or.inl q_2_55, i_X9_isSign.1, i_X9_isSign.2⟩ ⟨by decide, rfl⟩ (congrArg Prod.fst (J.1.1 68 (9, 6) rfl)) rfl (by decide) rfl rfl ⟨by decide, by decide⟩ (sf_X9_isSign_r68 (jr_of jk_59 (by omega)) hD J qu6 qu7 (by omega)  (fun v14 h ev14 J S11 u12 u13 qu12 qu13 ru12 => ?_))
          have Sm := jSm_tr rfl Sm S11
          have eu12 := (show 0 ≤ u12.toInt ∧ u12.toInt ≤ 3 from qu12 ▸ jrg_f J sg_68_5_6_1_0_1)
          have eu13 := (show 0 ≤ u13.toInt ∧ u13.toInt ≤ 400 from qu13 ▸ jrg_f J sg_68_3_4_1_0_1)
          show jX m_X2_read 26 3 1278 104 [(0, .ref 95), (1, .int l1), (2, .int l2), (3, .int l3), (4, .int l4)] [.int v14] _ 0 0 _
          refine x_ifne (tgt := 117) rfl rfl (ti_ne rfl jk_0 ⟨fun c15 => ?_, fun c15 => ?_⟩)
          ·
            refine x_aloadn (x := 95) rfl rfl ?_
            refine z_getR (N := 6) (b := 68) 2 0 rfl f_2_30 rfl J rfl 12160 ⟨rfl, rfl⟩ rfl ?_
            refine x_inv (N := m_X9_step) (As := []) (b := 68) (st := []) (dx9 := 2) (mc := 0) (ms := 0) (host := "") 9 rfl t_X9_step ⟨Or.inl q_2_62, i_X9_step.1, i_X9_step.2⟩ ⟨by decide, rfl⟩ (congrArg Prod.fst (J.1.1 68 (9, 6) rfl)) rfl (by decide) rfl rfl ⟨by decide, by decide⟩ (sf_X9_step_r68  hD J qu12 qu13 (by omega)  (fun h J S16 u17 u18 qu17 qu18 ru17 => ?_))
            have Sm := jSm_tr rfl Sm S16
            have eu17 := (show 0 ≤ u17.toInt ∧ u17.toInt ≤ 3 from qu17 ▸ jrg_f J sg_68_5_6_1_0_1)
            have eu18 := (show 0 ≤ u18.toInt ∧ u18.toInt ≤ 400 from qu18 ▸ jrg_f J sg_68_3_4_1_0_1)
            show jX m_X2_read 26 3 1278 124 [(0, .ref 95), (1, .int l1), (2, .int l2), (3, .int l3), (4, .int l4)] [] _ 0 0 _
            refine z_iinc (x := l4) (lsx9 := fun v19 => [(4, .int v19), (0, .ref 95), (1, .int l1), (2, .int l2), (3, .int l3)]) rfl rfl rfl jko_1 (by omega) rfl (fun _ => rfl) (fun v19 ev19 => ?_)
            refine x_goto (tgt := 25) rfl rfl ?_
            exact jX.sub (jsb_c rfl (jsb_c rfl (jsb_c rfl (jsb_c rfl (jsb_c rfl jsb_n))))) (ih l1 l2 l3 v19 u18 u17 h (by omega) (jr_of rfl (by omega)) (jr_of rfl (by omega)) (jr_of rfl (by omega)) (jr_of rfl (by omega)) (jr_of rfl (by omega)) (jr_of rfl (by omega)) (by omega) qu18 qu17 J Sm)
          ·
            refine x_aloadn (x := 95) rfl rfl ?_
            refine z_getR (N := 6) (b := 68) 2 0 rfl f_2_30 rfl J rfl 12160 ⟨rfl, rfl⟩ rfl ?_
            refine x_inv (N := m_X9_blame) (As := []) (b := 68) (st := []) (dx9 := 25) (mc := 0) (ms := 0) (host := "") 9 rfl t_X9_blame ⟨Or.inl q_2_59, i_X9_blame.1, i_X9_blame.2⟩ ⟨by decide, rfl⟩ (congrArg Prod.fst (J.1.1 68 (9, 6) rfl)) rfl (by decide) rfl rfl ⟨by decide, by decide⟩ (jC.of rfl k_X9_blame rfl ?_)
            show jX m_X9_blame 25 0 0 0 [(0, .ref 68)] [] _ 0 0 _
            refine x_aloadn (x := 68) rfl rfl ?_
            refine x_aloadn (x := 68) rfl rfl ?_
            refine z_getM (N := 6) (v := u13) 9 3 rfl f_9_22 rfl J rfl qu13 ?_
            refine z_putI (N := 6) (w := u13.toInt) 9 2 rfl f_9_19 rfl (jfin_no TX9 RX9 6 rfl rfl) hD J Sm rfl rfl rfl (pw_68_2 (by omega)) rfl (fun h w20 J Sm => ?_)
            refine x_iconst (v := 0) rfl ki_0 ?_
            refine x_zret rfl rfl (by decide) ?_
            show jX m_X2_read 26 3 1278 114 [(0, .ref 95), (1, .int l1), (2, .int l2), (3, .int l3), (4, .int l4)] [.int 0] _ 0 0 _
            refine x_pop rfl rfl ?_
            refine x_null rfl ?_
            refine x_aret rfl rfl rfl (Or.inl rfl) ?_
            exact hQ.1 _ J Sm _ _ (jmo w20 rfl qu12) (jmo w20 rfl qu13) (by omega)
        ·
          refine x_iconst (v := 1) rfl ki_1 ?_
          refine x_goto (tgt := 12) rfl rfl ?_
          refine x_zret rfl rfl (by decide) ?_
          show jX m_X2_read 26 3 1278 56 [(0, .ref 95), (1, .int l1), (2, .int l2), (3, .int l3), (4, .int l4)] [.int 1] _ 0 0 _
          refine x_ifeq (tgt := 95) rfl rfl (ti_eq jk_1 jk_0 (br_f (by omega) ?_))
          exact read_59b hD J Sm rfl (jsb_c rfl (jsb_c rfl (jsb_c rfl (jsb_c rfl jsb_n)))) (fun a h T J Sm S4 => hQ.2 _ _ T J Sm _ _ (jmc S4 rfl qu6) (jmc S4 rfl qu7) (by omega))
      ·
        refine x_null rfl ?_
        refine x_aret rfl rfl rfl (Or.inl rfl) ?_
        exact hQ.1 _ J Sm _ _ qu6 qu7 (by omega)
set_option maxRecDepth 100000 in
set_option maxHeartbeats 4000000 in
theorem sf_X2_read_r95 {Dy : jH → Prop} {h : jH} {Q : Option Value → jH → Prop} {a1 : Int32} {a2 : Int32} {a3 : Int32} (y1 : 0 ≤ a1.toInt ∧ a1.toInt ≤ 1) (y2 : 0 ≤ a2.toInt ∧ a2.toInt ≤ 146399) (y3 : 0 ≤ a3.toInt ∧ a3.toInt ≤ 146399) (hD : jDk Dy) (J : jJ jSgX Dy h) {p0 p1 : Int32} (zp0 : jiv h 68 5 = p0) (zp1 : jiv h 68 3 = p1) (rl_p0 : (p0.toInt ≠ 3 ∨ p1.toInt ≤ 399)) (hQ : (∀ hx9, jJ jSgX Dy hx9 → jSm fp_X2_read_r95 h hx9 → ∀ u0 u1 : Int32, jiv hx9 68 5 = u0 → jiv hx9 68 3 = u1 → (u0.toInt ≠ 3 ∨ u1.toInt ≤ 399) → Q (some .null) hx9) ∧ ∀ (a : Nat) hx9, jTx hx9 a → jJ jSgX Dy hx9 → jSm fp_X2_read_r95 h hx9 → ∀ u0 u1 : Int32, jiv hx9 68 5 = u0 → jiv hx9 68 3 = u1 → (u0.toInt ≠ 3 ∨ u1.toInt ≤ 399) → Q (some (.ref a)) hx9) : jC m_X2_read 26 3 1278 [.ref 95, .int a1, .int a2, .int a3] h Q := by
  refine jC.of rfl k_X2_read rfl ?_
  have Sm := jSm_rf fp_X2_read_r95 h
  have ep0 := (show 0 ≤ p0.toInt ∧ p0.toInt ≤ 3 from zp0 ▸ jrg_f J sg_68_5_6_1_0_1)
  have ep1 := (show 0 ≤ p1.toInt ∧ p1.toInt ≤ 400 from zp1 ▸ jrg_f J sg_68_3_4_1_0_1)
  show jX m_X2_read 26 3 1278 0 [(0, .ref 95), (1, .int a1), (2, .int a2), (3, .int a3)] [] _ 0 0 _
  refine x_aloadn (x := 95) rfl rfl ?_
  refine x_iconst (v := 0) rfl ki_0 ?_
  refine z_putI (N := 6) (w := 0) 2 3 rfl f_2_20 rfl (jfin_no TX2 RX2 6 rfl rfl) hD J Sm rfl rfl jk_0 (pw_95_3 (by omega)) rfl (fun h w1 J Sm => ?_)
  refine x_aloadn (x := 95) rfl rfl ?_
  refine x_iconst (v := 0) rfl ki_0 ?_
  refine z_putI (N := 6) (w := 0) 2 4 rfl f_2_24 rfl (jfin_no TX2 RX2 6 rfl rfl) hD J Sm rfl rfl jk_0 (pw_95_4 (by omega)) rfl (fun h w2 J Sm => ?_)
  refine x_aloadn (x := 95) rfl rfl ?_
  refine x_iconst (v := 0) rfl ki_0 ?_
  refine z_putI (N := 6) (w := 0) 2 5 rfl f_2_27 rfl (jfin_no TX2 RX2 6 rfl rfl) hD J Sm rfl rfl jk_0 (pw_95_5 (by omega)) rfl (fun h w3 J Sm => ?_)
  refine x_aloadn (x := 95) rfl rfl ?_
  refine z_getR (N := 6) (b := 68) 2 0 rfl f_2_30 rfl J rfl 12160 ⟨rfl, rfl⟩ rfl ?_
  refine x_inv (N := m_X9_begin) (As := []) (b := 68) (st := []) (dx9 := 25) (mc := 0) (ms := 0) (host := "") 9 rfl t_X9_begin ⟨Or.inl q_2_34, i_X9_begin.1, i_X9_begin.2⟩ ⟨by decide, rfl⟩ (congrArg Prod.fst (J.1.1 68 (9, 6) rfl)) rfl (by decide) rfl rfl ⟨by decide, by decide⟩ (jC.of rfl k_X9_begin rfl ?_)
  show jX m_X9_begin 25 0 0 0 [(0, .ref 68)] [] _ 0 0 _
  refine x_aloadn (x := 68) rfl rfl ?_
  refine x_iconst (v := (-1)) rfl ki_m1 ?_
  refine z_putI (N := 6) (w := (-1)) 9 2 rfl f_9_19 rfl (jfin_no TX9 RX9 6 rfl rfl) hD J Sm rfl rfl jk_m1 (pw_68_2 (by omega)) rfl (fun h w4 J Sm => ?_)
  refine x_aloadn (x := 68) rfl rfl ?_
  refine x_iconst (v := 0) rfl ki_0 ?_
  refine z_putI (N := 6) (w := 0) 9 4 rfl f_9_25 rfl (jfin_no TX9 RX9 6 rfl rfl) hD J Sm rfl rfl jk_0 (pw_68_4 (by omega)) rfl (fun h w5 J Sm => ?_)
  refine x_aloadn (x := 68) rfl rfl ?_
  refine x_inv (N := m_X9_step) (As := []) (b := 68) (st := []) (dx9 := 2) (mc := 0) (ms := 0) (host := "") 9 rfl t_X9_step ⟨Or.inl q_9_31, i_X9_step.1, i_X9_step.2⟩ ⟨by decide, rfl⟩ (congrArg Prod.fst (J.1.1 68 (9, 6) rfl)) rfl (by decide) rfl rfl ⟨by decide, by decide⟩ (sf_X9_step_r68  hD J (jmo w5 rfl (jmo w4 rfl (jmo w3 rfl (jmo w2 rfl (jmo w1 rfl zp0))))) (jmo w5 rfl (jmo w4 rfl (jmo w3 rfl (jmo w2 rfl (jmo w1 rfl zp1))))) (by omega)  (fun h J S6 u7 u8 qu7 qu8 ru7 => ?_))
  have Sm := jSm_tr rfl Sm S6
  have eu7 := (show 0 ≤ u7.toInt ∧ u7.toInt ≤ 3 from qu7 ▸ jrg_f J sg_68_5_6_1_0_1)
  have eu8 := (show 0 ≤ u8.toInt ∧ u8.toInt ≤ 400 from qu8 ▸ jrg_f J sg_68_3_4_1_0_1)
  show jX m_X9_begin 25 0 0 14 [(0, .ref 68)] [] _ 0 0 _
  refine x_vret rfl rfl ?_
  show jX m_X2_read 26 3 1278 22 [(0, .ref 95), (1, .int a1), (2, .int a2), (3, .int a3)] [] _ 0 0 _
  refine x_iconst (v := 0) rfl ki_0 ?_
  refine x_istore (lsx9 := [(4, .int 0), (0, .ref 95), (1, .int a1), (2, .int a2), (3, .int a3)]) rfl rfl rfl ?_
  exact jX.sub (jsb_c rfl (jsb_c rfl (jsb_c rfl (jsb_c rfl (jsb_c rfl jsb_n))))) (ct_X2_read_r95_25 hD hQ  13 a1 a2 a3 0 u8 u7 h (by have := jk_0; omega) (jr_of rfl (by omega)) (jr_of rfl (by omega)) (jr_of rfl (by omega)) (jr_of jk_0 (by omega)) (jr_of rfl (by omega)) (jr_of rfl (by omega)) (by omega) qu8 qu7 J Sm)
def fp_X11_text_r31 : jFp := [(31, 12, 13), (32, 18, 19), (32, 19, 20), (63, 3, 4), (64, 0, 740), (66, 0, 30), (68, 1, 2), (68, 2, 3), (68, 3, 4), (68, 4, 5), (68, 5, 6), (95, 3, 4), (95, 4, 5), (95, 5, 6), (96, 0, 72), (97, 0, 1200)]
set_option maxRecDepth 100000 in
set_option maxHeartbeats 4000000 in
theorem ct_X11_text_r31_23 {Dy : jH → Prop} {h0 : jH} {Q : Option Value → jH → Prop} (hD : jDk Dy) (hQ : ∀ (v : Int32) hx9, (-6) ≤ v.toInt ∧ v.toInt ≤ 29 → jJ jSgX Dy hx9 → jSm fp_X11_text_r31 h0 hx9 → ∀ u0 u1 : Int32, jiv hx9 68 5 = u0 → jiv hx9 68 3 = u1 → (u0.toInt ≠ 3 ∨ u1.toInt ≤ 399) → Q (some (.int v)) hx9) : ∀ (g0 : Int32) (g1 : Int32) (h : jH), 0 ≤ g0.toInt ∧ g0.toInt ≤ 400 → 0 ≤ g1.toInt ∧ g1.toInt ≤ 3 → (g1.toInt ≠ 3 ∨ g0.toInt ≤ 399) → jiv h 68 3 = g0 → jiv h 68 5 = g1 → jJ jSgX Dy h → jSm fp_X11_text_r31 h0 h → jX m_X11_text 27 3 1278 23 [(0, .ref 31)] [] h 0 0 Q := by
  intro g0 g1 h y0 y1 y2 z0 z1  J Sm
  refine x_aloadn (x := 31) rfl rfl ?_
  refine x_iconst (v := (-1)) rfl ki_m1 ?_
  refine x_inv (N := m_X11_refuseTape) (As := [.int (-1)]) (b := 31) (st := []) (dx9 := 26) (mc := 0) (ms := 0) (host := "") 11 rfl t_X11_refuseTape ⟨Or.inl q_11_122, i_X11_refuseTape.1, i_X11_refuseTape.2⟩ ⟨by decide, rfl⟩ (congrArg Prod.fst (J.1.1 31 (11, 13) rfl)) rfl (by decide) rfl rfl ⟨by decide, by decide⟩ (jC.of rfl k_X11_refuseTape rfl ?_)
  show jX m_X11_refuseTape 26 0 0 0 [(0, .ref 31), (1, .int (-1))] [] _ 0 0 _
  refine x_aloadn (x := 31) rfl rfl ?_
  refine z_getR (N := 13) (b := 68) 11 2 rfl f_11_23 rfl J rfl 3970 ⟨rfl, rfl⟩ rfl ?_
  refine x_iconst (v := 0) rfl ki_0 ?_
  refine z_putI (N := 6) (w := 0) 9 1 rfl f_11_106 rfl (jfin_no TX9 RX9 6 rfl rfl) hD J Sm rfl rfl jk_0 (pw_68_1 (by omega)) rfl (fun h w1 J Sm => ?_)
  refine x_aloadn (x := 31) rfl rfl ?_
  refine x_iloadn (x := (-1)) rfl rfl ?_
  refine x_inv (N := m_X11_refuse) (As := [.int (-1)]) (b := 31) (st := []) (dx9 := 25) (mc := 0) (ms := 0) (host := "") 11 rfl t_X11_refuse ⟨Or.inl q_11_206, i_X11_refuse.1, i_X11_refuse.2⟩ ⟨by decide, rfl⟩ (congrArg Prod.fst (J.1.1 31 (11, 13) rfl)) rfl (by decide) rfl rfl ⟨by decide, by decide⟩ (jC.of rfl k_X11_refuse rfl ?_)
  show jX m_X11_refuse 25 0 0 0 [(0, .ref 31), (1, .int (-1))] [] _ 0 0 _
  refine x_aloadn (x := 31) rfl rfl ?_
  refine x_iloadn (x := (-1)) rfl rfl ?_
  refine z_putI (N := 13) (w := (-1)) 11 12 rfl f_11_94 rfl (jfin_no TX11 RX11 13 rfl rfl) hD J Sm rfl rfl jk_m1 (pw_31_12 (by omega)) rfl (fun h w2 J Sm => ?_)
  refine x_iloadn (x := (-1)) rfl rfl ?_
  refine x_iret rfl rfl ?_
  show jX m_X11_refuseTape 26 0 0 13 [(0, .ref 31), (1, .int (-1))] [.int (-1)] _ 0 0 _
  refine x_iret rfl rfl ?_
  show jX m_X11_text 27 3 1278 28 [(0, .ref 31)] [.int (-1)] _ 0 0 _
  refine x_iret rfl rfl ?_
  exact hQ _ _ (jr_of jk_m1 (by omega)) J Sm _ _ (jmo w2 rfl (jmo w1 rfl z1)) (jmo w2 rfl (jmo w1 rfl z0)) (by omega)
set_option maxRecDepth 100000 in
set_option maxHeartbeats 4000000 in
theorem sf_X11_text_r31 {Dy : jH → Prop} {h : jH} {Q : Option Value → jH → Prop} {a1 : Int32} {a2 : Int32} {a3 : Int32} (hD : jDk Dy) (J : jJ jSgX Dy h) {p0 p1 : Int32} (zp0 : jiv h 68 5 = p0) (zp1 : jiv h 68 3 = p1) (rl_p0 : (p0.toInt ≠ 3 ∨ p1.toInt ≤ 399)) (hQ : ∀ (v : Int32) hx9, (-6) ≤ v.toInt ∧ v.toInt ≤ 29 → jJ jSgX Dy hx9 → jSm fp_X11_text_r31 h hx9 → ∀ u0 u1 : Int32, jiv hx9 68 5 = u0 → jiv hx9 68 3 = u1 → (u0.toInt ≠ 3 ∨ u1.toInt ≤ 399) → Q (some (.int v)) hx9) : jC m_X11_text 27 3 1278 [.ref 31, .int a1, .int a2, .int a3] h Q := by
  refine jC.of rfl k_X11_text rfl ?_
  have Sm := jSm_rf fp_X11_text_r31 h
  have ep0 := (show 0 ≤ p0.toInt ∧ p0.toInt ≤ 3 from zp0 ▸ jrg_f J sg_68_5_6_1_0_1)
  have ep1 := (show 0 ≤ p1.toInt ∧ p1.toInt ≤ 400 from zp1 ▸ jrg_f J sg_68_3_4_1_0_1)
  have ea1 := jfull a1
  have ea2 := jfull a2
  have ea3 := jfull a3
  show jX m_X11_text 27 3 1278 0 [(0, .ref 31), (1, .int a1), (2, .int a2), (3, .int a3)] [] _ 0 0 _
  refine x_iloadn (x := a1) rfl rfl ?_
  refine x_iflt (tgt := 23) rfl rfl (ti_lt rfl jk_0 ⟨fun c1 => ?_, fun c1 => ?_⟩)
  ·
    exact jX.sub (jsb_c rfl jsb_n) (ct_X11_text_r31_23 hD hQ  p1 p0 h (jr_of rfl (by omega)) (jr_of rfl (by omega)) (by omega) zp1 zp0 J Sm)
  ·
    refine x_iloadn (x := a1) rfl rfl ?_
    refine x_iconst (v := 1) rfl ki_1 ?_
    refine x_icgt (tgt := 23) rfl rfl (ti_gt rfl jk_1 ⟨fun c2 => ?_, fun c2 => ?_⟩)
    ·
      exact jX.sub (jsb_c rfl jsb_n) (ct_X11_text_r31_23 hD hQ  p1 p0 h (jr_of rfl (by omega)) (jr_of rfl (by omega)) (by omega) zp1 zp0 J Sm)
    ·
      refine x_iloadn (x := a2) rfl rfl ?_
      refine x_inst (N := m_X11_isDay) (As := [.int a2]) (st := []) (dx9 := 1) (mc := 0) (ms := 0) (host := "") rfl t_X11_isDay ⟨Or.inl q_11_115, s_X11_isDay⟩ rfl (by decide) rfl rfl ⟨by decide, by decide⟩ (zc_X11_isDay rfl (fun v3 ev3 => ?_))
      show jX m_X11_text 27 3 1278 13 [(0, .ref 31), (1, .int a1), (2, .int a2), (3, .int a3)] [.int v3] _ 0 0 _
      refine x_ifeq (tgt := 23) rfl rfl (ti_eq rfl jk_0 ⟨fun c4 => ?_, fun c4 => ?_⟩)
      ·
        exact jX.sub (jsb_c rfl jsb_n) (ct_X11_text_r31_23 hD hQ  p1 p0 h (jr_of rfl (by omega)) (jr_of rfl (by omega)) (by omega) zp1 zp0 J Sm)
      ·
        refine x_iloadn (x := a3) rfl rfl ?_
        refine x_inst (N := m_X11_isDay) (As := [.int a3]) (st := []) (dx9 := 1) (mc := 0) (ms := 0) (host := "") rfl t_X11_isDay ⟨Or.inl q_11_115, s_X11_isDay⟩ rfl (by decide) rfl rfl ⟨by decide, by decide⟩ (zc_X11_isDay rfl (fun v5 ev5 => ?_))
        show jX m_X11_text 27 3 1278 20 [(0, .ref 31), (1, .int a1), (2, .int a2), (3, .int a3)] [.int v5] _ 0 0 _
        refine x_ifne (tgt := 29) rfl rfl (ti_ne rfl jk_0 ⟨fun c6 => ?_, fun c6 => ?_⟩)
        ·
          refine x_aloadn (x := 31) rfl rfl ?_
          refine z_getR (N := 13) (b := 32) 11 0 rfl f_11_10 rfl J rfl 3968 ⟨rfl, rfl⟩ rfl ?_
          refine z_getI (N := 20) 1 18 rfl f_11_325 rfl J rfl sg_32_18_19_1_0_1 (fun v7 qv7 ev7 => ?_)
          refine x_bipush (v := 30) rfl kb_30 ?_
          refine x_iclt (tgt := 48) rfl rfl (ti_lt rfl jk_30 ⟨fun c8 => ?_, fun c8 => ?_⟩)
          ·
            refine x_aloadn (x := 31) rfl rfl ?_
            refine z_getR (N := 13) (b := 95) 11 6 rfl f_11_59 rfl J rfl 3974 ⟨rfl, rfl⟩ rfl ?_
            refine x_iloadn (x := a1) rfl rfl ?_
            refine x_iloadn (x := a2) rfl rfl ?_
            refine x_iloadn (x := a3) rfl rfl ?_
            refine x_inv (N := m_X2_read) (As := [.int a1, .int a2, .int a3]) (b := 95) (st := []) (dx9 := 26) (mc := 3) (ms := 1278) (host := "") 2 rfl t_X2_read ⟨Or.inl q_11_328, i_X2_read.1, i_X2_read.2⟩ ⟨by decide, rfl⟩ (congrArg Prod.fst (J.1.1 95 (2, 6) rfl)) rfl (by decide) rfl rfl ⟨by decide, by decide⟩ (sf_X2_read_r95 (jr_of rfl (by omega)) (jr_of rfl (by omega)) (jr_of rfl (by omega)) hD J zp0 zp1 (by omega)  ⟨fun h J S9 u10 u11 qu10 qu11 ru10 => ?_, fun b12 h Tb12 J S9 u10 u11 qu10 qu11 ru10 => ?_⟩)
            ·
              have eu10 := (show 0 ≤ u10.toInt ∧ u10.toInt ≤ 3 from qu10 ▸ jrg_f J sg_68_5_6_1_0_1)
              have eu11 := (show 0 ≤ u11.toInt ∧ u11.toInt ≤ 400 from qu11 ▸ jrg_f J sg_68_3_4_1_0_1)
              have Sm := jSm_tr rfl Sm S9
              show jX m_X11_text 27 3 1278 58 [(0, .ref 31), (1, .int a1), (2, .int a2), (3, .int a3)] [.null] _ 3 1278 _
              refine x_astoreN (lsx9 := [(4, .null), (0, .ref 31), (1, .int a1), (2, .int a2), (3, .int a3)]) rfl rfl rfl ?_
              refine x_aloadN rfl rfl ?_
              refine x_ifnonnullN rfl ?_
              refine x_aloadn (x := 31) rfl rfl ?_
              refine x_bipush (v := (-6)) rfl kb_m6 ?_
              refine x_inv (N := m_X11_refuseTape) (As := [.int (-6)]) (b := 31) (st := []) (dx9 := 26) (mc := 0) (ms := 0) (host := "") 11 rfl t_X11_refuseTape ⟨Or.inl q_11_122, i_X11_refuseTape.1, i_X11_refuseTape.2⟩ ⟨by decide, rfl⟩ (congrArg Prod.fst (J.1.1 31 (11, 13) rfl)) rfl (by decide) rfl rfl ⟨by decide, by decide⟩ (jC.of rfl k_X11_refuseTape rfl ?_)
              show jX m_X11_refuseTape 26 0 0 0 [(0, .ref 31), (1, .int (-6))] [] _ 0 0 _
              refine x_aloadn (x := 31) rfl rfl ?_
              refine z_getR (N := 13) (b := 68) 11 2 rfl f_11_23 rfl J rfl 3970 ⟨rfl, rfl⟩ rfl ?_
              refine x_iconst (v := 0) rfl ki_0 ?_
              refine z_putI (N := 6) (w := 0) 9 1 rfl f_11_106 rfl (jfin_no TX9 RX9 6 rfl rfl) hD J Sm rfl rfl jk_0 (pw_68_1 (by omega)) rfl (fun h w13 J Sm => ?_)
              refine x_aloadn (x := 31) rfl rfl ?_
              refine x_iloadn (x := (-6)) rfl rfl ?_
              refine x_inv (N := m_X11_refuse) (As := [.int (-6)]) (b := 31) (st := []) (dx9 := 25) (mc := 0) (ms := 0) (host := "") 11 rfl t_X11_refuse ⟨Or.inl q_11_206, i_X11_refuse.1, i_X11_refuse.2⟩ ⟨by decide, rfl⟩ (congrArg Prod.fst (J.1.1 31 (11, 13) rfl)) rfl (by decide) rfl rfl ⟨by decide, by decide⟩ (jC.of rfl k_X11_refuse rfl ?_)
              show jX m_X11_refuse 25 0 0 0 [(0, .ref 31), (1, .int (-6))] [] _ 0 0 _
              refine x_aloadn (x := 31) rfl rfl ?_
              refine x_iloadn (x := (-6)) rfl rfl ?_
              refine z_putI (N := 13) (w := (-6)) 11 12 rfl f_11_94 rfl (jfin_no TX11 RX11 13 rfl rfl) hD J Sm rfl rfl jk_m6 (pw_31_12 (by omega)) rfl (fun h w14 J Sm => ?_)
              refine x_iloadn (x := (-6)) rfl rfl ?_
              refine x_iret rfl rfl ?_
              show jX m_X11_refuseTape 26 0 0 13 [(0, .ref 31), (1, .int (-6))] [.int (-6)] _ 0 0 _
              refine x_iret rfl rfl ?_
              show jX m_X11_text 27 3 1278 71 [(4, .null), (0, .ref 31), (1, .int a1), (2, .int a2), (3, .int a3)] [.int (-6)] _ 3 1278 _
              refine x_iret rfl rfl ?_
              exact hQ _ _ (jr_of jk_m6 (by omega)) J Sm _ _ (jmo w14 rfl (jmo w13 rfl qu10)) (jmo w14 rfl (jmo w13 rfl qu11)) (by omega)
            ·
              have eu10 := (show 0 ≤ u10.toInt ∧ u10.toInt ≤ 3 from qu10 ▸ jrg_f J sg_68_5_6_1_0_1)
              have eu11 := (show 0 ≤ u11.toInt ∧ u11.toInt ≤ 400 from qu11 ▸ jrg_f J sg_68_3_4_1_0_1)
              have Sm := jSm_tr rfl Sm S9
              show jX m_X11_text 27 3 1278 58 [(0, .ref 31), (1, .int a1), (2, .int a2), (3, .int a3)] [.ref b12] _ 3 1278 _
              refine x_astore (lsx9 := [(4, .ref b12), (0, .ref 31), (1, .int a1), (2, .int a2), (3, .int a3)]) rfl rfl rfl ?_
              refine x_aload (x := b12) rfl rfl ?_
              refine x_ifnonnull (tgt := 72) rfl rfl ?_
              refine x_aloadn (x := 31) rfl rfl ?_
              refine z_getR (N := 13) (b := 68) 11 2 rfl f_11_23 rfl J rfl 3970 ⟨rfl, rfl⟩ rfl ?_
              refine x_iconst (v := 0) rfl ki_0 ?_
              refine z_putI (N := 6) (w := 0) 9 1 rfl f_11_106 rfl (jfin_no TX9 RX9 6 rfl rfl) hD J Sm rfl rfl jk_0 (pw_68_1 (by omega)) rfl (fun h w15 J Sm => ?_)
              have Tb12 := jTx_i w15 rfl Tb12
              refine x_aloadn (x := 31) rfl rfl ?_
              refine z_getR (N := 13) (b := 32) 11 0 rfl f_11_10 rfl J rfl 3968 ⟨rfl, rfl⟩ rfl ?_
              refine z_getM (N := 20) (v := v7) 1 18 rfl f_11_325 rfl J rfl (jmo w15 rfl (jmc S9 rfl qv7)) ?_
              refine x_istore (lsx9 := [(5, .int v7), (4, .ref b12), (0, .ref 31), (1, .int a1), (2, .int a2), (3, .int a3)]) rfl rfl rfl ?_
              refine x_aloadn (x := 31) rfl rfl ?_
              refine z_getR (N := 13) (b := 32) 11 0 rfl f_11_10 rfl J rfl 3968 ⟨rfl, rfl⟩ rfl ?_
              refine z_getR (N := 20) (b := 66) 1 17 rfl f_11_332 rfl J rfl 4113 ⟨rfl, rfl⟩ rfl ?_
              refine x_iload (x := v7) rfl rfl ?_
              refine x_aload (x := b12) rfl rfl ?_
              refine z_aastT rfl hD J Sm rfl rfl (by omega) Tb12 rfl (fun h w16 J Sm => ?_)
              have Tb12 := jTx_r w16 Tb12
              refine x_aloadn (x := 31) rfl rfl ?_
              refine z_getR (N := 13) (b := 32) 11 0 rfl f_11_10 rfl J rfl 3968 ⟨rfl, rfl⟩ rfl ?_
              refine x_iload (x := v7) rfl rfl ?_
              refine x_iconst (v := 1) rfl ki_1 ?_
              refine z_iadd rfl rfl jk_1 (by omega) (fun v17 ev17 => ?_)
              refine z_putI (N := 20) (w := v17.toInt) 1 18 rfl f_11_325 rfl (jfin_no TX1 RX1 20 rfl rfl) hD J Sm rfl rfl rfl (pw_32_18 (by omega)) rfl (fun h w18 J Sm => ?_)
              have Tb12 := jTx_i w18 rfl Tb12
              refine x_aloadn (x := 31) rfl rfl ?_
              refine z_getR (N := 13) (b := 32) 11 0 rfl f_11_10 rfl J rfl 3968 ⟨rfl, rfl⟩ rfl ?_
              refine z_getR (N := 20) (b := 63) 1 15 rfl f_11_159 rfl J rfl 4111 ⟨rfl, rfl⟩ rfl ?_
              refine x_iconst (v := 1) rfl ki_1 ?_
              refine x_iload (x := v7) rfl rfl ?_
              refine x_iconst (v := 0) rfl ki_0 ?_
              refine x_iconst (v := 0) rfl ki_0 ?_
              refine x_iconst (v := 0) rfl ki_0 ?_
              refine x_iconst (v := 0) rfl ki_0 ?_
              refine x_inv (N := m_X8_add) (As := [.int 1, .int v7, .int 0, .int 0, .int 0, .int 0]) (b := 63) (st := []) (dx9 := 2) (mc := 0) (ms := 0) (host := "") 8 rfl t_X8_add ⟨Or.inl q_11_145, i_X8_add.1, i_X8_add.2⟩ ⟨by decide, rfl⟩ (congrArg Prod.fst (J.1.1 63 (8, 4) rfl)) rfl (by decide) rfl rfl ⟨by decide, by decide⟩ (sf_X8_add_r63 (jr_of jk_1 (by omega)) (jr_of rfl (by omega)) (jr_of jk_0 (by omega)) (jr_of jk_0 (by omega)) (jr_of jk_0 (by omega)) (jr_of jk_0 (by omega)) hD J  (fun h J S19 => ?_))
              have Sm := jSm_tr rfl Sm S19
              have Tb12 := jTx_m S19 rfl Tb12
              show jX m_X11_text 27 3 1278 129 [(5, .int v7), (4, .ref b12), (0, .ref 31), (1, .int a1), (2, .int a2), (3, .int a3)] [] _ 3 1278 _
              refine x_aloadn (x := 31) rfl rfl ?_
              refine x_iload (x := v7) rfl rfl ?_
              refine x_inv (N := m_X11_accept) (As := [.int v7]) (b := 31) (st := []) (dx9 := 26) (mc := 0) (ms := 0) (host := "") 11 rfl t_X11_accept ⟨Or.inl q_11_165, i_X11_accept.1, i_X11_accept.2⟩ ⟨by decide, rfl⟩ (congrArg Prod.fst (J.1.1 31 (11, 13) rfl)) rfl (by decide) rfl rfl ⟨by decide, by decide⟩ (jC.of rfl k_X11_accept rfl ?_)
              show jX m_X11_accept 26 0 0 0 [(0, .ref 31), (1, .int v7)] [] _ 0 0 _
              refine x_aloadn (x := 31) rfl rfl ?_
              refine x_iconst (v := 0) rfl ki_0 ?_
              refine z_putI (N := 13) (w := 0) 11 12 rfl f_11_94 rfl (jfin_no TX11 RX11 13 rfl rfl) hD J Sm rfl rfl jk_0 (pw_31_12 (by omega)) rfl (fun h w20 J Sm => ?_)
              have Tb12 := jTx_i w20 rfl Tb12
              refine x_aloadn (x := 31) rfl rfl ?_
              refine z_getR (N := 13) (b := 32) 11 0 rfl f_11_10 rfl J rfl 3968 ⟨rfl, rfl⟩ rfl ?_
              refine x_dup rfl rfl ?_
              refine z_getI0 (N := 20) 1 19 rfl f_11_528 rfl J rfl (fun v21 qv21 => ?_)
              have ev21 := jfull v21
              refine x_iconst (v := 1) rfl ki_1 ?_
              refine z_iadd0 rfl (fun v22 => ?_)
              have ev22 := jfull v22
              refine z_putI (N := 20) (w := v22.toInt) 1 19 rfl f_11_528 rfl (jfin_no TX1 RX1 20 rfl rfl) hD J Sm rfl rfl rfl (pw_32_19 trivial) rfl (fun h w23 J Sm => ?_)
              have Tb12 := jTx_i w23 rfl Tb12
              refine x_iloadn (x := v7) rfl rfl ?_
              refine x_iret rfl rfl ?_
              show jX m_X11_text 27 3 1278 135 [(5, .int v7), (4, .ref b12), (0, .ref 31), (1, .int a1), (2, .int a2), (3, .int a3)] [.int v7] _ 3 1278 _
              refine x_iret rfl rfl ?_
              exact hQ _ _ (jr_of rfl (by omega)) J Sm _ _ (jmo w23 rfl (jmo w20 rfl (jmc S19 rfl (jmo w18 rfl (jmr w16 (jmo w15 rfl qu10)))))) (jmo w23 rfl (jmo w20 rfl (jmc S19 rfl (jmo w18 rfl (jmr w16 (jmo w15 rfl qu11)))))) (by omega)
          ·
            refine x_aloadn (x := 31) rfl rfl ?_
            refine x_bipush (v := (-5)) rfl kb_m5 ?_
            refine x_inv (N := m_X11_refuseTape) (As := [.int (-5)]) (b := 31) (st := []) (dx9 := 26) (mc := 0) (ms := 0) (host := "") 11 rfl t_X11_refuseTape ⟨Or.inl q_11_122, i_X11_refuseTape.1, i_X11_refuseTape.2⟩ ⟨by decide, rfl⟩ (congrArg Prod.fst (J.1.1 31 (11, 13) rfl)) rfl (by decide) rfl rfl ⟨by decide, by decide⟩ (jC.of rfl k_X11_refuseTape rfl ?_)
            show jX m_X11_refuseTape 26 0 0 0 [(0, .ref 31), (1, .int (-5))] [] _ 0 0 _
            refine x_aloadn (x := 31) rfl rfl ?_
            refine z_getR (N := 13) (b := 68) 11 2 rfl f_11_23 rfl J rfl 3970 ⟨rfl, rfl⟩ rfl ?_
            refine x_iconst (v := 0) rfl ki_0 ?_
            refine z_putI (N := 6) (w := 0) 9 1 rfl f_11_106 rfl (jfin_no TX9 RX9 6 rfl rfl) hD J Sm rfl rfl jk_0 (pw_68_1 (by omega)) rfl (fun h w24 J Sm => ?_)
            refine x_aloadn (x := 31) rfl rfl ?_
            refine x_iloadn (x := (-5)) rfl rfl ?_
            refine x_inv (N := m_X11_refuse) (As := [.int (-5)]) (b := 31) (st := []) (dx9 := 25) (mc := 0) (ms := 0) (host := "") 11 rfl t_X11_refuse ⟨Or.inl q_11_206, i_X11_refuse.1, i_X11_refuse.2⟩ ⟨by decide, rfl⟩ (congrArg Prod.fst (J.1.1 31 (11, 13) rfl)) rfl (by decide) rfl rfl ⟨by decide, by decide⟩ (jC.of rfl k_X11_refuse rfl ?_)
            show jX m_X11_refuse 25 0 0 0 [(0, .ref 31), (1, .int (-5))] [] _ 0 0 _
            refine x_aloadn (x := 31) rfl rfl ?_
            refine x_iloadn (x := (-5)) rfl rfl ?_
            refine z_putI (N := 13) (w := (-5)) 11 12 rfl f_11_94 rfl (jfin_no TX11 RX11 13 rfl rfl) hD J Sm rfl rfl jk_m5 (pw_31_12 (by omega)) rfl (fun h w25 J Sm => ?_)
            refine x_iloadn (x := (-5)) rfl rfl ?_
            refine x_iret rfl rfl ?_
            show jX m_X11_refuseTape 26 0 0 13 [(0, .ref 31), (1, .int (-5))] [.int (-5)] _ 0 0 _
            refine x_iret rfl rfl ?_
            show jX m_X11_text 27 3 1278 47 [(0, .ref 31), (1, .int a1), (2, .int a2), (3, .int a3)] [.int (-5)] _ 0 0 _
            refine x_iret rfl rfl ?_
            exact hQ _ _ (jr_of jk_m5 (by omega)) J Sm _ _ (jmo w25 rfl (jmo w24 rfl zp0)) (jmo w25 rfl (jmo w24 rfl zp1)) (by omega)
        ·
          exact jX.sub (jsb_c rfl jsb_n) (ct_X11_text_r31_23 hD hQ  p1 p0 h (jr_of rfl (by omega)) (jr_of rfl (by omega)) (by omega) zp1 zp0 J Sm)
def fp_X8_isFull_r39 : jFp := []
set_option maxRecDepth 100000 in
set_option maxHeartbeats 4000000 in
theorem ct_X8_isFull_r39_200016 {Dy : jH → Prop} {h0 : jH} {Q : Option Value → jH → Prop} (hD : jDk Dy) (hQ : ∀ (v : Int32) hx9, 0 ≤ v.toInt ∧ v.toInt ≤ 1 → jJ jSgX Dy hx9 → jSm fp_X8_isFull_r39 h0 hx9 → Q (some (.int v)) hx9) : ∀ (h : jH), jJ jSgX Dy h → jSm fp_X8_isFull_r39 h0 h → jX m_X8_isFull 1 0 0 16 [] [.int 0] h 0 0 Q := by
  intro  h    J Sm
  refine x_zret rfl rfl (by decide) ?_
  exact hQ _ _ (jr_of jk_0 (by omega)) J Sm
set_option maxRecDepth 100000 in
set_option maxHeartbeats 4000000 in
theorem ct_X8_isFull_r39_300016 {Dy : jH → Prop} {h0 : jH} {Q : Option Value → jH → Prop} (hD : jDk Dy) (hQ : ∀ (v : Int32) hx9, 0 ≤ v.toInt ∧ v.toInt ≤ 1 → jJ jSgX Dy hx9 → jSm fp_X8_isFull_r39 h0 hx9 → Q (some (.int v)) hx9) : ∀ (h : jH), jJ jSgX Dy h → jSm fp_X8_isFull_r39 h0 h → jX m_X8_isFull 1 0 0 16 [] [.int 1] h 0 0 Q := by
  intro  h    J Sm
  refine x_zret rfl rfl (by decide) ?_
  exact hQ _ _ (jr_of jk_1 (by omega)) J Sm
set_option maxRecDepth 100000 in
set_option maxHeartbeats 4000000 in
theorem sf_X8_isFull_r39 {Dy : jH → Prop} {h : jH} {Q : Option Value → jH → Prop} (hD : jDk Dy) (J : jJ jSgX Dy h) (hQ : ∀ (v : Int32) hx9, 0 ≤ v.toInt ∧ v.toInt ≤ 1 → jJ jSgX Dy hx9 → jSm fp_X8_isFull_r39 h hx9 → Q (some (.int v)) hx9) : jC m_X8_isFull 1 0 0 [.ref 39] h Q := by
  refine jC.of rfl k_X8_isFull rfl ?_
  have Sm := jSm_rf fp_X8_isFull_r39 h
  show jX m_X8_isFull 1 0 0 0 [(0, .ref 39)] [] _ 0 0 _
  refine x_aloadn (x := 39) rfl rfl ?_
  refine z_getI (N := 4) 8 3 rfl f_8_7 rfl J rfl sg_39_3_4_1_0_1 (fun v1 qv1 ev1 => ?_)
  refine x_aloadn (x := 39) rfl rfl ?_
  refine z_getC (N := 4) (v := 200) 8 1 rfl f_8_22 rfl J rfl sg_39_1_2_1_0_1 jk_200 ?_
  refine x_iclt (tgt := 15) rfl rfl (ti_lt rfl jk_200 ⟨fun c2 => ?_, fun c2 => ?_⟩)
  ·
    refine x_iconst (v := 0) rfl ki_0 ?_
    exact jX.sub jsb_n (ct_X8_isFull_r39_200016 hD hQ  h J Sm)
  ·
    refine x_iconst (v := 1) rfl ki_1 ?_
    refine x_goto (tgt := 16) rfl rfl ?_
    exact jX.sub jsb_n (ct_X8_isFull_r39_300016 hD hQ  h J Sm)
def fp_X11_together_r31 : jFp := [(31, 12, 13), (32, 19, 20), (39, 3, 4), (40, 0, 600), (78, 13, 14), (82, 0, 600), (83, 0, 600), (84, 0, 200), (86, 0, 3)]
set_option maxRecDepth 100000 in
set_option maxHeartbeats 4000000 in
theorem ct_X11_together_r31_35 {Dy : jH → Prop} {h0 : jH} {Q : Option Value → jH → Prop} (hD : jDk Dy) (hQ : ∀ (v : Int32) hx9, (-366) ≤ v.toInt ∧ v.toInt ≤ 200 → jJ jSgX Dy hx9 → jSm fp_X11_together_r31 h0 hx9 → Q (some (.int v)) hx9) : ∀ (h : jH), jJ jSgX Dy h → jSm fp_X11_together_r31 h0 h → jX m_X11_together 8 0 0 35 [(0, .ref 31)] [] h 0 0 Q := by
  intro  h    J Sm
  refine x_aloadn (x := 31) rfl rfl ?_
  refine x_bipush (v := (-2)) rfl kb_m2 ?_
  refine x_inv (N := m_X11_refuse) (As := [.int (-2)]) (b := 31) (st := []) (dx9 := 7) (mc := 0) (ms := 0) (host := "") 11 rfl t_X11_refuse ⟨Or.inl q_11_206, i_X11_refuse.1, i_X11_refuse.2⟩ ⟨by decide, rfl⟩ (congrArg Prod.fst (J.1.1 31 (11, 13) rfl)) rfl (by decide) rfl rfl ⟨by decide, by decide⟩ (jC.of rfl k_X11_refuse rfl ?_)
  show jX m_X11_refuse 7 0 0 0 [(0, .ref 31), (1, .int (-2))] [] _ 0 0 _
  refine x_aloadn (x := 31) rfl rfl ?_
  refine x_iloadn (x := (-2)) rfl rfl ?_
  refine z_putI (N := 13) (w := (-2)) 11 12 rfl f_11_94 rfl (jfin_no TX11 RX11 13 rfl rfl) hD J Sm rfl rfl jk_m2 (pw_31_12 (by omega)) rfl (fun h w1 J Sm => ?_)
  refine x_iloadn (x := (-2)) rfl rfl ?_
  refine x_iret rfl rfl ?_
  show jX m_X11_together 8 0 0 41 [(0, .ref 31)] [.int (-2)] _ 0 0 _
  refine x_iret rfl rfl ?_
  exact hQ _ _ (jr_of jk_m2 (by omega)) J Sm
set_option maxRecDepth 100000 in
set_option maxHeartbeats 4000000 in
theorem sf_X11_together_r31 {Dy : jH → Prop} {h : jH} {Q : Option Value → jH → Prop} {a1 : Int32} {a2 : Int32} {a3 : Int32} (hD : jDk Dy) (J : jJ jSgX Dy h) (hQ : ∀ (v : Int32) hx9, (-366) ≤ v.toInt ∧ v.toInt ≤ 200 → jJ jSgX Dy hx9 → jSm fp_X11_together_r31 h hx9 → Q (some (.int v)) hx9) : jC m_X11_together 8 0 0 [.ref 31, .int a1, .int a2, .int a3] h Q := by
  refine jC.of rfl k_X11_together rfl ?_
  have Sm := jSm_rf fp_X11_together_r31 h
  have ea1 := jfull a1
  have ea2 := jfull a2
  have ea3 := jfull a3
  show jX m_X11_together 8 0 0 0 [(0, .ref 31), (1, .int a1), (2, .int a2), (3, .int a3)] [] _ 0 0 _
  refine x_iloadn (x := a3) rfl rfl ?_
  refine x_inst (N := m_X11_isDay) (As := [.int a3]) (st := []) (dx9 := 1) (mc := 0) (ms := 0) (host := "") rfl t_X11_isDay ⟨Or.inl q_11_115, s_X11_isDay⟩ rfl (by decide) rfl rfl ⟨by decide, by decide⟩ (zc_X11_isDay rfl (fun v1 ev1 => ?_))
  show jX m_X11_together 8 0 0 4 [(0, .ref 31), (1, .int a1), (2, .int a2), (3, .int a3)] [.int v1] _ 0 0 _
  refine x_ifne (tgt := 13) rfl rfl (ti_ne rfl jk_0 ⟨fun c2 => ?_, fun c2 => ?_⟩)
  ·
    refine x_aloadn (x := 31) rfl rfl ?_
    refine z_getR (N := 13) (b := 78) 11 4 rfl f_11_41 rfl J rfl 3972 ⟨rfl, rfl⟩ rfl ?_
    refine x_iloadn (x := a1) rfl rfl ?_
    refine x_inv (N := m_X7_isMention) (As := [.int a1]) (b := 78) (st := []) (dx9 := 7) (mc := 0) (ms := 0) (host := "") 7 rfl t_X7_isMention ⟨Or.inl q_11_187, i_X7_isMention.1, i_X7_isMention.2⟩ ⟨by decide, rfl⟩ (congrArg Prod.fst (J.1.1 78 (7, 16) rfl)) rfl (by decide) rfl rfl ⟨by decide, by decide⟩ (jC.of rfl k_X7_isMention rfl ?_)
    show jX m_X7_isMention 7 0 0 0 [(0, .ref 78), (1, .int a1)] [] _ 0 0 _
    refine x_iloadn (x := a1) rfl rfl ?_
    refine x_iflt (tgt := 41) rfl rfl (ti_lt rfl jk_0 ⟨fun c3 => ?_, fun c3 => ?_⟩)
    ·
      refine x_iconst (v := 0) rfl ki_0 ?_
      refine x_zret rfl rfl (by decide) ?_
      show jX m_X11_together 8 0 0 21 [(0, .ref 31), (1, .int a1), (2, .int a2), (3, .int a3)] [.int 0] _ 0 0 _
      refine x_ifeq (tgt := 35) rfl rfl (ti_eq jk_0 jk_0 (br_t (by omega) ?_))
      exact jX.sub (jsb_c rfl jsb_n) (ct_X11_together_r31_35 hD hQ  h J Sm)
    ·
      refine x_iloadn (x := a1) rfl rfl ?_
      refine x_sipush (v := 600) rfl ks_600 ?_
      refine x_icge (tgt := 41) rfl rfl (ti_ge rfl jk_600 ⟨fun c4 => ?_, fun c4 => ?_⟩)
      ·
        refine x_iconst (v := 0) rfl ki_0 ?_
        refine x_zret rfl rfl (by decide) ?_
        show jX m_X11_together 8 0 0 21 [(0, .ref 31), (1, .int a1), (2, .int a2), (3, .int a3)] [.int 0] _ 0 0 _
        refine x_ifeq (tgt := 35) rfl rfl (ti_eq jk_0 jk_0 (br_t (by omega) ?_))
        exact jX.sub (jsb_c rfl jsb_n) (ct_X11_together_r31_35 hD hQ  h J Sm)
      ·
        refine x_iloadn (x := a1) rfl rfl ?_
        refine x_iconst (v := 3) rfl ki_3 ?_
        refine z_idiv rfl rfl jk_3 (by omega) (by omega) (fun v5 ev5 => ?_)
        refine x_aloadn (x := 78) rfl rfl ?_
        refine z_getR (N := 16) (b := 32) 7 0 rfl f_7_55 rfl J rfl 9984 ⟨rfl, rfl⟩ rfl ?_
        refine z_getR (N := 20) (b := 33) 1 0 rfl f_7_63 rfl J rfl 4096 ⟨rfl, rfl⟩ rfl ?_
        refine z_getI (N := 4) 8 3 rfl f_7_85 rfl J rfl sg_33_3_4_1_0_1 (fun v6 qv6 ev6 => ?_)
        refine x_icge (tgt := 41) rfl rfl (ti_ge rfl rfl ⟨fun c7 => ?_, fun c7 => ?_⟩)
        ·
          refine x_iconst (v := 0) rfl ki_0 ?_
          refine x_zret rfl rfl (by decide) ?_
          show jX m_X11_together 8 0 0 21 [(0, .ref 31), (1, .int a1), (2, .int a2), (3, .int a3)] [.int 0] _ 0 0 _
          refine x_ifeq (tgt := 35) rfl rfl (ti_eq jk_0 jk_0 (br_t (by omega) ?_))
          exact jX.sub (jsb_c rfl jsb_n) (ct_X11_together_r31_35 hD hQ  h J Sm)
        ·
          refine x_aloadn (x := 78) rfl rfl ?_
          refine z_getR (N := 16) (b := 79) 7 7 rfl f_7_27 rfl J rfl 9991 ⟨rfl, rfl⟩ rfl ?_
          refine x_iloadn (x := a1) rfl rfl ?_
          refine z_iald (N := 600) rfl J rfl sg_79_0_600_1_0_1 rfl (by omega) (fun v8 qv8 ev8 => ?_)
          refine x_iconst (v := (-1)) rfl ki_m1 ?_
          refine x_iceq (tgt := 41) rfl rfl (ti_eq rfl jk_m1 ⟨fun c9 => ?_, fun c9 => ?_⟩)
          ·
            refine x_iconst (v := 0) rfl ki_0 ?_
            refine x_zret rfl rfl (by decide) ?_
            show jX m_X11_together 8 0 0 21 [(0, .ref 31), (1, .int a1), (2, .int a2), (3, .int a3)] [.int 0] _ 0 0 _
            refine x_ifeq (tgt := 35) rfl rfl (ti_eq jk_0 jk_0 (br_t (by omega) ?_))
            exact jX.sub (jsb_c rfl jsb_n) (ct_X11_together_r31_35 hD hQ  h J Sm)
          ·
            refine x_iconst (v := 1) rfl ki_1 ?_
            refine x_goto (tgt := 42) rfl rfl ?_
            refine x_zret rfl rfl (by decide) ?_
            show jX m_X11_together 8 0 0 21 [(0, .ref 31), (1, .int a1), (2, .int a2), (3, .int a3)] [.int 1] _ 0 0 _
            refine x_ifeq (tgt := 35) rfl rfl (ti_eq jk_1 jk_0 (br_f (by omega) ?_))
            refine x_aloadn (x := 31) rfl rfl ?_
            refine z_getR (N := 13) (b := 78) 11 4 rfl f_11_41 rfl J rfl 3972 ⟨rfl, rfl⟩ rfl ?_
            refine x_iloadn (x := a2) rfl rfl ?_
            refine x_inv (N := m_X7_isMention) (As := [.int a2]) (b := 78) (st := []) (dx9 := 7) (mc := 0) (ms := 0) (host := "") 7 rfl t_X7_isMention ⟨Or.inl q_11_187, i_X7_isMention.1, i_X7_isMention.2⟩ ⟨by decide, rfl⟩ (congrArg Prod.fst (J.1.1 78 (7, 16) rfl)) rfl (by decide) rfl rfl ⟨by decide, by decide⟩ (jC.of rfl k_X7_isMention rfl ?_)
            show jX m_X7_isMention 7 0 0 0 [(0, .ref 78), (1, .int a2)] [] _ 0 0 _
            refine x_iloadn (x := a2) rfl rfl ?_
            refine x_iflt (tgt := 41) rfl rfl (ti_lt rfl jk_0 ⟨fun c10 => ?_, fun c10 => ?_⟩)
            ·
              refine x_iconst (v := 0) rfl ki_0 ?_
              refine x_zret rfl rfl (by decide) ?_
              show jX m_X11_together 8 0 0 32 [(0, .ref 31), (1, .int a1), (2, .int a2), (3, .int a3)] [.int 0] _ 0 0 _
              refine x_ifne (tgt := 42) rfl rfl (ti_ne jk_0 jk_0 (bn_f (by omega) ?_))
              exact jX.sub (jsb_c rfl jsb_n) (ct_X11_together_r31_35 hD hQ  h J Sm)
            ·
              refine x_iloadn (x := a2) rfl rfl ?_
              refine x_sipush (v := 600) rfl ks_600 ?_
              refine x_icge (tgt := 41) rfl rfl (ti_ge rfl jk_600 ⟨fun c11 => ?_, fun c11 => ?_⟩)
              ·
                refine x_iconst (v := 0) rfl ki_0 ?_
                refine x_zret rfl rfl (by decide) ?_
                show jX m_X11_together 8 0 0 32 [(0, .ref 31), (1, .int a1), (2, .int a2), (3, .int a3)] [.int 0] _ 0 0 _
                refine x_ifne (tgt := 42) rfl rfl (ti_ne jk_0 jk_0 (bn_f (by omega) ?_))
                exact jX.sub (jsb_c rfl jsb_n) (ct_X11_together_r31_35 hD hQ  h J Sm)
              ·
                refine x_iloadn (x := a2) rfl rfl ?_
                refine x_iconst (v := 3) rfl ki_3 ?_
                refine z_idiv rfl rfl jk_3 (by omega) (by omega) (fun v12 ev12 => ?_)
                refine x_aloadn (x := 78) rfl rfl ?_
                refine z_getR (N := 16) (b := 32) 7 0 rfl f_7_55 rfl J rfl 9984 ⟨rfl, rfl⟩ rfl ?_
                refine z_getR (N := 20) (b := 33) 1 0 rfl f_7_63 rfl J rfl 4096 ⟨rfl, rfl⟩ rfl ?_
                refine z_getM (N := 4) (v := v6) 8 3 rfl f_7_85 rfl J rfl qv6 ?_
                refine x_icge (tgt := 41) rfl rfl (ti_ge rfl rfl ⟨fun c13 => ?_, fun c13 => ?_⟩)
                ·
                  refine x_iconst (v := 0) rfl ki_0 ?_
                  refine x_zret rfl rfl (by decide) ?_
                  show jX m_X11_together 8 0 0 32 [(0, .ref 31), (1, .int a1), (2, .int a2), (3, .int a3)] [.int 0] _ 0 0 _
                  refine x_ifne (tgt := 42) rfl rfl (ti_ne jk_0 jk_0 (bn_f (by omega) ?_))
                  exact jX.sub (jsb_c rfl jsb_n) (ct_X11_together_r31_35 hD hQ  h J Sm)
                ·
                  refine x_aloadn (x := 78) rfl rfl ?_
                  refine z_getR (N := 16) (b := 79) 7 7 rfl f_7_27 rfl J rfl 9991 ⟨rfl, rfl⟩ rfl ?_
                  refine x_iloadn (x := a2) rfl rfl ?_
                  refine z_iald (N := 600) rfl J rfl sg_79_0_600_1_0_1 rfl (by omega) (fun v14 qv14 ev14 => ?_)
                  refine x_iconst (v := (-1)) rfl ki_m1 ?_
                  refine x_iceq (tgt := 41) rfl rfl (ti_eq rfl jk_m1 ⟨fun c15 => ?_, fun c15 => ?_⟩)
                  ·
                    refine x_iconst (v := 0) rfl ki_0 ?_
                    refine x_zret rfl rfl (by decide) ?_
                    show jX m_X11_together 8 0 0 32 [(0, .ref 31), (1, .int a1), (2, .int a2), (3, .int a3)] [.int 0] _ 0 0 _
                    refine x_ifne (tgt := 42) rfl rfl (ti_ne jk_0 jk_0 (bn_f (by omega) ?_))
                    exact jX.sub (jsb_c rfl jsb_n) (ct_X11_together_r31_35 hD hQ  h J Sm)
                  ·
                    refine x_iconst (v := 1) rfl ki_1 ?_
                    refine x_goto (tgt := 42) rfl rfl ?_
                    refine x_zret rfl rfl (by decide) ?_
                    show jX m_X11_together 8 0 0 32 [(0, .ref 31), (1, .int a1), (2, .int a2), (3, .int a3)] [.int 1] _ 0 0 _
                    refine x_ifne (tgt := 42) rfl rfl (ti_ne jk_1 jk_0 (bn_t (by omega) ?_))
                    refine x_aloadn (x := 31) rfl rfl ?_
                    refine x_iloadn (x := a1) rfl rfl ?_
                    refine x_ldc (v := 146399) rfl z_11_233 ?_
                    refine x_inv (N := m_X11_soulOn) (As := [.int a1, .int 146399]) (b := 31) (st := []) (dx9 := 7) (mc := 0) (ms := 0) (host := "") 11 rfl t_X11_soulOn ⟨Or.inl q_11_234, i_X11_soulOn.1, i_X11_soulOn.2⟩ ⟨by decide, rfl⟩ (congrArg Prod.fst (J.1.1 31 (11, 13) rfl)) rfl (by decide) rfl rfl ⟨by decide, by decide⟩ (jC.of rfl k_X11_soulOn rfl ?_)
                    show jX m_X11_soulOn 7 0 0 0 [(0, .ref 31), (1, .int a1), (2, .int 146399)] [] _ 0 0 _
                    refine x_iloadn (x := 146399) rfl rfl ?_
                    refine x_inst (N := m_X11_isDay) (As := [.int 146399]) (st := []) (dx9 := 1) (mc := 0) (ms := 0) (host := "") rfl t_X11_isDay ⟨Or.inl q_11_115, s_X11_isDay⟩ rfl (by decide) rfl rfl ⟨by decide, by decide⟩ (zc_X11_isDay jk_146399 (fun v16 ev16 => ?_))
                    show jX m_X11_soulOn 7 0 0 4 [(0, .ref 31), (1, .int a1), (2, .int 146399)] [.int v16] _ 0 0 _
                    refine x_ifeq (tgt := 18) rfl rfl (ti_eq rfl jk_0 ⟨fun c17 => ?_, fun c17 => ?_⟩)
                    ·
                      refine x_iconst (v := (-1)) rfl ki_m1 ?_
                      refine x_iret rfl rfl ?_
                      show jX m_X11_together 8 0 0 49 [(0, .ref 31), (1, .int a1), (2, .int a2), (3, .int a3)] [.int (-1)] _ 0 0 _
                      refine x_aloadn (x := 31) rfl rfl ?_
                      refine x_iloadn (x := a2) rfl rfl ?_
                      refine x_ldc (v := 146399) rfl z_11_233 ?_
                      refine x_inv (N := m_X11_soulOn) (As := [.int a2, .int 146399]) (b := 31) (st := [.int (-1)]) (dx9 := 7) (mc := 0) (ms := 0) (host := "") 11 rfl t_X11_soulOn ⟨Or.inl q_11_234, i_X11_soulOn.1, i_X11_soulOn.2⟩ ⟨by decide, rfl⟩ (congrArg Prod.fst (J.1.1 31 (11, 13) rfl)) rfl (by decide) rfl rfl ⟨by decide, by decide⟩ (jC.of rfl k_X11_soulOn rfl ?_)
                      show jX m_X11_soulOn 7 0 0 0 [(0, .ref 31), (1, .int a2), (2, .int 146399)] [] _ 0 0 _
                      refine x_iloadn (x := 146399) rfl rfl ?_
                      refine x_inst (N := m_X11_isDay) (As := [.int 146399]) (st := []) (dx9 := 1) (mc := 0) (ms := 0) (host := "") rfl t_X11_isDay ⟨Or.inl q_11_115, s_X11_isDay⟩ rfl (by decide) rfl rfl ⟨by decide, by decide⟩ (zc_X11_isDay jk_146399 (fun v18 ev18 => ?_))
                      show jX m_X11_soulOn 7 0 0 4 [(0, .ref 31), (1, .int a2), (2, .int 146399)] [.int v18] _ 0 0 _
                      refine x_ifeq (tgt := 18) rfl rfl (ti_eq rfl jk_0 ⟨fun c19 => ?_, fun c19 => ?_⟩)
                      ·
                        refine x_iconst (v := (-1)) rfl ki_m1 ?_
                        refine x_iret rfl rfl ?_
                        show jX m_X11_together 8 0 0 56 [(0, .ref 31), (1, .int a1), (2, .int a2), (3, .int a3)] [.int (-1), .int (-1)] _ 0 0 _
                        refine x_icne (tgt := 66) rfl rfl (ti_ne jk_m1 jk_m1 (bn_f (by omega) ?_))
                        refine x_aloadn (x := 31) rfl rfl ?_
                        refine x_bipush (v := (-4)) rfl kb_m4 ?_
                        refine x_inv (N := m_X11_refuse) (As := [.int (-4)]) (b := 31) (st := []) (dx9 := 7) (mc := 0) (ms := 0) (host := "") 11 rfl t_X11_refuse ⟨Or.inl q_11_206, i_X11_refuse.1, i_X11_refuse.2⟩ ⟨by decide, rfl⟩ (congrArg Prod.fst (J.1.1 31 (11, 13) rfl)) rfl (by decide) rfl rfl ⟨by decide, by decide⟩ (jC.of rfl k_X11_refuse rfl ?_)
                        show jX m_X11_refuse 7 0 0 0 [(0, .ref 31), (1, .int (-4))] [] _ 0 0 _
                        refine x_aloadn (x := 31) rfl rfl ?_
                        refine x_iloadn (x := (-4)) rfl rfl ?_
                        refine z_putI (N := 13) (w := (-4)) 11 12 rfl f_11_94 rfl (jfin_no TX11 RX11 13 rfl rfl) hD J Sm rfl rfl jk_m4 (pw_31_12 (by omega)) rfl (fun h w20 J Sm => ?_)
                        refine x_iloadn (x := (-4)) rfl rfl ?_
                        refine x_iret rfl rfl ?_
                        show jX m_X11_together 8 0 0 65 [(0, .ref 31), (1, .int a1), (2, .int a2), (3, .int a3)] [.int (-4)] _ 0 0 _
                        refine x_iret rfl rfl ?_
                        exact hQ _ _ (jr_of jk_m4 (by omega)) J Sm
                      ·
                        refine x_aloadn (x := 31) rfl rfl ?_
                        refine z_getR (N := 13) (b := 78) 11 4 rfl f_11_41 rfl J rfl 3972 ⟨rfl, rfl⟩ rfl ?_
                        refine x_iloadn (x := a2) rfl rfl ?_
                        refine x_inv (N := m_X7_isMention) (As := [.int a2]) (b := 78) (st := []) (dx9 := 6) (mc := 0) (ms := 0) (host := "") 7 rfl t_X7_isMention ⟨Or.inl q_11_187, i_X7_isMention.1, i_X7_isMention.2⟩ ⟨by decide, rfl⟩ (congrArg Prod.fst (J.1.1 78 (7, 16) rfl)) rfl (by decide) rfl rfl ⟨by decide, by decide⟩ (jC.of rfl k_X7_isMention rfl ?_)
                        show jX m_X7_isMention 6 0 0 0 [(0, .ref 78), (1, .int a2)] [] _ 0 0 _
                        refine x_iloadn (x := a2) rfl rfl ?_
                        refine x_iflt (tgt := 41) rfl rfl (ti_lt rfl jk_0 (br_f (by omega) ?_))
                        refine x_iloadn (x := a2) rfl rfl ?_
                        refine x_sipush (v := 600) rfl ks_600 ?_
                        refine x_icge (tgt := 41) rfl rfl (ti_ge rfl jk_600 (br_f (by omega) ?_))
                        refine x_iloadn (x := a2) rfl rfl ?_
                        refine x_iconst (v := 3) rfl ki_3 ?_
                        refine z_idiv rfl rfl jk_3 (by omega) (by omega) (fun v21 ev21 => ?_)
                        refine x_aloadn (x := 78) rfl rfl ?_
                        refine z_getR (N := 16) (b := 32) 7 0 rfl f_7_55 rfl J rfl 9984 ⟨rfl, rfl⟩ rfl ?_
                        refine z_getR (N := 20) (b := 33) 1 0 rfl f_7_63 rfl J rfl 4096 ⟨rfl, rfl⟩ rfl ?_
                        refine z_getM (N := 4) (v := v6) 8 3 rfl f_7_85 rfl J rfl qv6 ?_
                        refine x_icge (tgt := 41) rfl rfl (ti_ge rfl rfl ⟨fun c22 => ?_, fun c22 => ?_⟩)
                        ·
                          refine x_iconst (v := 0) rfl ki_0 ?_
                          refine x_zret rfl rfl (by decide) ?_
                          show jX m_X11_soulOn 7 0 0 15 [(0, .ref 31), (1, .int a2), (2, .int 146399)] [.int 0] _ 0 0 _
                          refine x_ifne (tgt := 20) rfl rfl (ti_ne jk_0 jk_0 (bn_f (by omega) ?_))
                          refine x_iconst (v := (-1)) rfl ki_m1 ?_
                          refine x_iret rfl rfl ?_
                          show jX m_X11_together 8 0 0 56 [(0, .ref 31), (1, .int a1), (2, .int a2), (3, .int a3)] [.int (-1), .int (-1)] _ 0 0 _
                          refine x_icne (tgt := 66) rfl rfl (ti_ne jk_m1 jk_m1 (bn_f (by omega) ?_))
                          refine x_aloadn (x := 31) rfl rfl ?_
                          refine x_bipush (v := (-4)) rfl kb_m4 ?_
                          refine x_inv (N := m_X11_refuse) (As := [.int (-4)]) (b := 31) (st := []) (dx9 := 7) (mc := 0) (ms := 0) (host := "") 11 rfl t_X11_refuse ⟨Or.inl q_11_206, i_X11_refuse.1, i_X11_refuse.2⟩ ⟨by decide, rfl⟩ (congrArg Prod.fst (J.1.1 31 (11, 13) rfl)) rfl (by decide) rfl rfl ⟨by decide, by decide⟩ (jC.of rfl k_X11_refuse rfl ?_)
                          show jX m_X11_refuse 7 0 0 0 [(0, .ref 31), (1, .int (-4))] [] _ 0 0 _
                          refine x_aloadn (x := 31) rfl rfl ?_
                          refine x_iloadn (x := (-4)) rfl rfl ?_
                          refine z_putI (N := 13) (w := (-4)) 11 12 rfl f_11_94 rfl (jfin_no TX11 RX11 13 rfl rfl) hD J Sm rfl rfl jk_m4 (pw_31_12 (by omega)) rfl (fun h w23 J Sm => ?_)
                          refine x_iloadn (x := (-4)) rfl rfl ?_
                          refine x_iret rfl rfl ?_
                          show jX m_X11_together 8 0 0 65 [(0, .ref 31), (1, .int a1), (2, .int a2), (3, .int a3)] [.int (-4)] _ 0 0 _
                          refine x_iret rfl rfl ?_
                          exact hQ _ _ (jr_of jk_m4 (by omega)) J Sm
                        ·
                          refine x_aloadn (x := 78) rfl rfl ?_
                          refine z_getR (N := 16) (b := 79) 7 7 rfl f_7_27 rfl J rfl 9991 ⟨rfl, rfl⟩ rfl ?_
                          refine x_iloadn (x := a2) rfl rfl ?_
                          refine z_ialdM (N := 600) (v := v14) rfl J rfl rfl (by omega) qv14 ?_
                          refine x_iconst (v := (-1)) rfl ki_m1 ?_
                          refine x_iceq (tgt := 41) rfl rfl (ti_eq rfl jk_m1 (br_f (by omega) ?_))
                          refine x_iconst (v := 1) rfl ki_1 ?_
                          refine x_goto (tgt := 42) rfl rfl ?_
                          refine x_zret rfl rfl (by decide) ?_
                          show jX m_X11_soulOn 7 0 0 15 [(0, .ref 31), (1, .int a2), (2, .int 146399)] [.int 1] _ 0 0 _
                          refine x_ifne (tgt := 20) rfl rfl (ti_ne jk_1 jk_0 (bn_t (by omega) ?_))
                          refine x_aloadn (x := 31) rfl rfl ?_
                          refine z_getR (N := 13) (b := 78) 11 4 rfl f_11_41 rfl J rfl 3972 ⟨rfl, rfl⟩ rfl ?_
                          refine x_iloadn (x := 146399) rfl rfl ?_
                          refine x_inv (N := m_X7_asKnown) (As := [.int 146399]) (b := 78) (st := []) (dx9 := 6) (mc := 0) (ms := 0) (host := "") 7 rfl t_X7_asKnown ⟨Or.inl q_11_240, i_X7_asKnown.1, i_X7_asKnown.2⟩ ⟨by decide, rfl⟩ (congrArg Prod.fst (J.1.1 78 (7, 16) rfl)) rfl (by decide) rfl rfl ⟨by decide, by decide⟩ (sf_X7_asKnown_r78 (jr_of jk_146399 (by omega)) hD J  (fun h J S24 => ?_))
                          have Sm := jSm_tr rfl Sm S24
                          show jX m_X11_soulOn 7 0 0 28 [(0, .ref 31), (1, .int a2), (2, .int 146399)] [] _ 0 0 _
                          refine x_aloadn (x := 31) rfl rfl ?_
                          refine z_getR (N := 13) (b := 78) 11 4 rfl f_11_41 rfl J rfl 3972 ⟨rfl, rfl⟩ rfl ?_
                          refine z_getR (N := 16) (b := 82) 7 10 rfl f_11_537 rfl J rfl 9994 ⟨rfl, rfl⟩ rfl ?_
                          refine x_iloadn (x := a2) rfl rfl ?_
                          refine z_iald (N := 600) rfl J rfl sg_82_0_600_1_0_1 rfl (by omega) (fun v25 qv25 ev25 => ?_)
                          refine x_iret rfl rfl ?_
                          show jX m_X11_together 8 0 0 56 [(0, .ref 31), (1, .int a1), (2, .int a2), (3, .int a3)] [.int v25, .int (-1)] _ 0 0 _
                          refine x_icne (tgt := 66) rfl rfl (ti_ne jk_m1 rfl ⟨fun c26 => ?_, fun c26 => ?_⟩)
                          ·
                            refine x_aloadn (x := 31) rfl rfl ?_
                            refine z_getR (N := 13) (b := 32) 11 0 rfl f_11_10 rfl J rfl 3968 ⟨rfl, rfl⟩ rfl ?_
                            refine z_getR (N := 20) (b := 39) 1 3 rfl f_11_237 rfl J rfl 4099 ⟨rfl, rfl⟩ rfl ?_
                            refine x_inv (N := m_X8_isFull) (As := []) (b := 39) (st := []) (dx9 := 1) (mc := 0) (ms := 0) (host := "") 8 rfl t_X8_isFull ⟨Or.inl q_11_130, i_X8_isFull.1, i_X8_isFull.2⟩ ⟨by decide, rfl⟩ (congrArg Prod.fst (J.1.1 39 (8, 4) rfl)) rfl (by decide) rfl rfl ⟨by decide, by decide⟩ (sf_X8_isFull_r39  hD J  (fun v28 h ev28 J S27 => ?_))
                            have Sm := jSm_tr rfl Sm S27
                            show jX m_X11_together 8 0 0 76 [(0, .ref 31), (1, .int a1), (2, .int a2), (3, .int a3)] [.int v28] _ 0 0 _
                            refine x_ifeq (tgt := 86) rfl rfl (ti_eq rfl jk_0 ⟨fun c29 => ?_, fun c29 => ?_⟩)
                            ·
                              refine x_aloadn (x := 31) rfl rfl ?_
                              refine z_getR (N := 13) (b := 32) 11 0 rfl f_11_10 rfl J rfl 3968 ⟨rfl, rfl⟩ rfl ?_
                              refine z_getR (N := 20) (b := 39) 1 3 rfl f_11_237 rfl J rfl 4099 ⟨rfl, rfl⟩ rfl ?_
                              refine x_iloadn (x := a3) rfl rfl ?_
                              refine x_iloadn (x := a1) rfl rfl ?_
                              refine x_iloadn (x := a2) rfl rfl ?_
                              refine x_iconst (v := 0) rfl ki_0 ?_
                              refine x_iconst (v := 0) rfl ki_0 ?_
                              refine x_iconst (v := 0) rfl ki_0 ?_
                              refine x_inv (N := m_X8_add) (As := [.int a3, .int a1, .int a2, .int 0, .int 0, .int 0]) (b := 39) (st := []) (dx9 := 2) (mc := 0) (ms := 0) (host := "") 8 rfl t_X8_add ⟨Or.inl q_11_145, i_X8_add.1, i_X8_add.2⟩ ⟨by decide, rfl⟩ (congrArg Prod.fst (J.1.1 39 (8, 4) rfl)) rfl (by decide) rfl rfl ⟨by decide, by decide⟩ (sf_X8_add_r39 (jr_of rfl (by omega)) (jr_of rfl (by omega)) (jr_of rfl (by omega)) (jr_of jk_0 (by omega)) (jr_of jk_0 (by omega)) (jr_of jk_0 (by omega)) hD J  (fun h J S30 => ?_))
                              have Sm := jSm_tr rfl Sm S30
                              show jX m_X11_together 8 0 0 102 [(0, .ref 31), (1, .int a1), (2, .int a2), (3, .int a3)] [] _ 0 0 _
                              refine x_aloadn (x := 31) rfl rfl ?_
                              refine x_aloadn (x := 31) rfl rfl ?_
                              refine z_getR (N := 13) (b := 32) 11 0 rfl f_11_10 rfl J rfl 3968 ⟨rfl, rfl⟩ rfl ?_
                              refine z_getR (N := 20) (b := 39) 1 3 rfl f_11_237 rfl J rfl 4099 ⟨rfl, rfl⟩ rfl ?_
                              refine z_getI (N := 4) 8 3 rfl f_11_142 rfl J rfl sg_39_3_4_1_0_1 (fun v31 qv31 ev31 => ?_)
                              refine x_inv (N := m_X11_accept) (As := [.int v31]) (b := 31) (st := []) (dx9 := 7) (mc := 0) (ms := 0) (host := "") 11 rfl t_X11_accept ⟨Or.inl q_11_165, i_X11_accept.1, i_X11_accept.2⟩ ⟨by decide, rfl⟩ (congrArg Prod.fst (J.1.1 31 (11, 13) rfl)) rfl (by decide) rfl rfl ⟨by decide, by decide⟩ (jC.of rfl k_X11_accept rfl ?_)
                              show jX m_X11_accept 7 0 0 0 [(0, .ref 31), (1, .int v31)] [] _ 0 0 _
                              refine x_aloadn (x := 31) rfl rfl ?_
                              refine x_iconst (v := 0) rfl ki_0 ?_
                              refine z_putI (N := 13) (w := 0) 11 12 rfl f_11_94 rfl (jfin_no TX11 RX11 13 rfl rfl) hD J Sm rfl rfl jk_0 (pw_31_12 (by omega)) rfl (fun h w32 J Sm => ?_)
                              refine x_aloadn (x := 31) rfl rfl ?_
                              refine z_getR (N := 13) (b := 32) 11 0 rfl f_11_10 rfl J rfl 3968 ⟨rfl, rfl⟩ rfl ?_
                              refine x_dup rfl rfl ?_
                              refine z_getI0 (N := 20) 1 19 rfl f_11_528 rfl J rfl (fun v33 qv33 => ?_)
                              have ev33 := jfull v33
                              refine x_iconst (v := 1) rfl ki_1 ?_
                              refine z_iadd0 rfl (fun v34 => ?_)
                              have ev34 := jfull v34
                              refine z_putI (N := 20) (w := v34.toInt) 1 19 rfl f_11_528 rfl (jfin_no TX1 RX1 20 rfl rfl) hD J Sm rfl rfl rfl (pw_32_19 trivial) rfl (fun h w35 J Sm => ?_)
                              refine x_iloadn (x := v31) rfl rfl ?_
                              refine x_iret rfl rfl ?_
                              show jX m_X11_together 8 0 0 116 [(0, .ref 31), (1, .int a1), (2, .int a2), (3, .int a3)] [.int v31] _ 0 0 _
                              refine x_iret rfl rfl ?_
                              exact hQ _ _ (jr_of rfl (by omega)) J Sm
                            ·
                              refine x_aloadn (x := 31) rfl rfl ?_
                              refine x_bipush (v := (-5)) rfl kb_m5 ?_
                              refine x_inv (N := m_X11_refuse) (As := [.int (-5)]) (b := 31) (st := []) (dx9 := 7) (mc := 0) (ms := 0) (host := "") 11 rfl t_X11_refuse ⟨Or.inl q_11_206, i_X11_refuse.1, i_X11_refuse.2⟩ ⟨by decide, rfl⟩ (congrArg Prod.fst (J.1.1 31 (11, 13) rfl)) rfl (by decide) rfl rfl ⟨by decide, by decide⟩ (jC.of rfl k_X11_refuse rfl ?_)
                              show jX m_X11_refuse 7 0 0 0 [(0, .ref 31), (1, .int (-5))] [] _ 0 0 _
                              refine x_aloadn (x := 31) rfl rfl ?_
                              refine x_iloadn (x := (-5)) rfl rfl ?_
                              refine z_putI (N := 13) (w := (-5)) 11 12 rfl f_11_94 rfl (jfin_no TX11 RX11 13 rfl rfl) hD J Sm rfl rfl jk_m5 (pw_31_12 (by omega)) rfl (fun h w36 J Sm => ?_)
                              refine x_iloadn (x := (-5)) rfl rfl ?_
                              refine x_iret rfl rfl ?_
                              show jX m_X11_together 8 0 0 85 [(0, .ref 31), (1, .int a1), (2, .int a2), (3, .int a3)] [.int (-5)] _ 0 0 _
                              refine x_iret rfl rfl ?_
                              exact hQ _ _ (jr_of jk_m5 (by omega)) J Sm
                          ·
                            refine x_aloadn (x := 31) rfl rfl ?_
                            refine x_bipush (v := (-4)) rfl kb_m4 ?_
                            refine x_inv (N := m_X11_refuse) (As := [.int (-4)]) (b := 31) (st := []) (dx9 := 7) (mc := 0) (ms := 0) (host := "") 11 rfl t_X11_refuse ⟨Or.inl q_11_206, i_X11_refuse.1, i_X11_refuse.2⟩ ⟨by decide, rfl⟩ (congrArg Prod.fst (J.1.1 31 (11, 13) rfl)) rfl (by decide) rfl rfl ⟨by decide, by decide⟩ (jC.of rfl k_X11_refuse rfl ?_)
                            show jX m_X11_refuse 7 0 0 0 [(0, .ref 31), (1, .int (-4))] [] _ 0 0 _
                            refine x_aloadn (x := 31) rfl rfl ?_
                            refine x_iloadn (x := (-4)) rfl rfl ?_
                            refine z_putI (N := 13) (w := (-4)) 11 12 rfl f_11_94 rfl (jfin_no TX11 RX11 13 rfl rfl) hD J Sm rfl rfl jk_m4 (pw_31_12 (by omega)) rfl (fun h w37 J Sm => ?_)
                            refine x_iloadn (x := (-4)) rfl rfl ?_
                            refine x_iret rfl rfl ?_
                            show jX m_X11_together 8 0 0 65 [(0, .ref 31), (1, .int a1), (2, .int a2), (3, .int a3)] [.int (-4)] _ 0 0 _
                            refine x_iret rfl rfl ?_
                            exact hQ _ _ (jr_of jk_m4 (by omega)) J Sm
                    ·
                      refine x_aloadn (x := 31) rfl rfl ?_
                      refine z_getR (N := 13) (b := 78) 11 4 rfl f_11_41 rfl J rfl 3972 ⟨rfl, rfl⟩ rfl ?_
                      refine x_iloadn (x := a1) rfl rfl ?_
                      refine x_inv (N := m_X7_isMention) (As := [.int a1]) (b := 78) (st := []) (dx9 := 6) (mc := 0) (ms := 0) (host := "") 7 rfl t_X7_isMention ⟨Or.inl q_11_187, i_X7_isMention.1, i_X7_isMention.2⟩ ⟨by decide, rfl⟩ (congrArg Prod.fst (J.1.1 78 (7, 16) rfl)) rfl (by decide) rfl rfl ⟨by decide, by decide⟩ (jC.of rfl k_X7_isMention rfl ?_)
                      show jX m_X7_isMention 6 0 0 0 [(0, .ref 78), (1, .int a1)] [] _ 0 0 _
                      refine x_iloadn (x := a1) rfl rfl ?_
                      refine x_iflt (tgt := 41) rfl rfl (ti_lt rfl jk_0 (br_f (by omega) ?_))
                      refine x_iloadn (x := a1) rfl rfl ?_
                      refine x_sipush (v := 600) rfl ks_600 ?_
                      refine x_icge (tgt := 41) rfl rfl (ti_ge rfl jk_600 (br_f (by omega) ?_))
                      refine x_iloadn (x := a1) rfl rfl ?_
                      refine x_iconst (v := 3) rfl ki_3 ?_
                      refine z_idiv rfl rfl jk_3 (by omega) (by omega) (fun v38 ev38 => ?_)
                      refine x_aloadn (x := 78) rfl rfl ?_
                      refine z_getR (N := 16) (b := 32) 7 0 rfl f_7_55 rfl J rfl 9984 ⟨rfl, rfl⟩ rfl ?_
                      refine z_getR (N := 20) (b := 33) 1 0 rfl f_7_63 rfl J rfl 4096 ⟨rfl, rfl⟩ rfl ?_
                      refine z_getM (N := 4) (v := v6) 8 3 rfl f_7_85 rfl J rfl qv6 ?_
                      refine x_icge (tgt := 41) rfl rfl (ti_ge rfl rfl ⟨fun c39 => ?_, fun c39 => ?_⟩)
                      ·
                        refine x_iconst (v := 0) rfl ki_0 ?_
                        refine x_zret rfl rfl (by decide) ?_
                        show jX m_X11_soulOn 7 0 0 15 [(0, .ref 31), (1, .int a1), (2, .int 146399)] [.int 0] _ 0 0 _
                        refine x_ifne (tgt := 20) rfl rfl (ti_ne jk_0 jk_0 (bn_f (by omega) ?_))
                        refine x_iconst (v := (-1)) rfl ki_m1 ?_
                        refine x_iret rfl rfl ?_
                        show jX m_X11_together 8 0 0 49 [(0, .ref 31), (1, .int a1), (2, .int a2), (3, .int a3)] [.int (-1)] _ 0 0 _
                        refine x_aloadn (x := 31) rfl rfl ?_
                        refine x_iloadn (x := a2) rfl rfl ?_
                        refine x_ldc (v := 146399) rfl z_11_233 ?_
                        refine x_inv (N := m_X11_soulOn) (As := [.int a2, .int 146399]) (b := 31) (st := [.int (-1)]) (dx9 := 7) (mc := 0) (ms := 0) (host := "") 11 rfl t_X11_soulOn ⟨Or.inl q_11_234, i_X11_soulOn.1, i_X11_soulOn.2⟩ ⟨by decide, rfl⟩ (congrArg Prod.fst (J.1.1 31 (11, 13) rfl)) rfl (by decide) rfl rfl ⟨by decide, by decide⟩ (jC.of rfl k_X11_soulOn rfl ?_)
                        show jX m_X11_soulOn 7 0 0 0 [(0, .ref 31), (1, .int a2), (2, .int 146399)] [] _ 0 0 _
                        refine x_iloadn (x := 146399) rfl rfl ?_
                        refine x_inst (N := m_X11_isDay) (As := [.int 146399]) (st := []) (dx9 := 1) (mc := 0) (ms := 0) (host := "") rfl t_X11_isDay ⟨Or.inl q_11_115, s_X11_isDay⟩ rfl (by decide) rfl rfl ⟨by decide, by decide⟩ (zc_X11_isDay jk_146399 (fun v40 ev40 => ?_))
                        show jX m_X11_soulOn 7 0 0 4 [(0, .ref 31), (1, .int a2), (2, .int 146399)] [.int v40] _ 0 0 _
                        refine x_ifeq (tgt := 18) rfl rfl (ti_eq rfl jk_0 ⟨fun c41 => ?_, fun c41 => ?_⟩)
                        ·
                          refine x_iconst (v := (-1)) rfl ki_m1 ?_
                          refine x_iret rfl rfl ?_
                          show jX m_X11_together 8 0 0 56 [(0, .ref 31), (1, .int a1), (2, .int a2), (3, .int a3)] [.int (-1), .int (-1)] _ 0 0 _
                          refine x_icne (tgt := 66) rfl rfl (ti_ne jk_m1 jk_m1 (bn_f (by omega) ?_))
                          refine x_aloadn (x := 31) rfl rfl ?_
                          refine x_bipush (v := (-4)) rfl kb_m4 ?_
                          refine x_inv (N := m_X11_refuse) (As := [.int (-4)]) (b := 31) (st := []) (dx9 := 7) (mc := 0) (ms := 0) (host := "") 11 rfl t_X11_refuse ⟨Or.inl q_11_206, i_X11_refuse.1, i_X11_refuse.2⟩ ⟨by decide, rfl⟩ (congrArg Prod.fst (J.1.1 31 (11, 13) rfl)) rfl (by decide) rfl rfl ⟨by decide, by decide⟩ (jC.of rfl k_X11_refuse rfl ?_)
                          show jX m_X11_refuse 7 0 0 0 [(0, .ref 31), (1, .int (-4))] [] _ 0 0 _
                          refine x_aloadn (x := 31) rfl rfl ?_
                          refine x_iloadn (x := (-4)) rfl rfl ?_
                          refine z_putI (N := 13) (w := (-4)) 11 12 rfl f_11_94 rfl (jfin_no TX11 RX11 13 rfl rfl) hD J Sm rfl rfl jk_m4 (pw_31_12 (by omega)) rfl (fun h w42 J Sm => ?_)
                          refine x_iloadn (x := (-4)) rfl rfl ?_
                          refine x_iret rfl rfl ?_
                          show jX m_X11_together 8 0 0 65 [(0, .ref 31), (1, .int a1), (2, .int a2), (3, .int a3)] [.int (-4)] _ 0 0 _
                          refine x_iret rfl rfl ?_
                          exact hQ _ _ (jr_of jk_m4 (by omega)) J Sm
                        ·
                          refine x_aloadn (x := 31) rfl rfl ?_
                          refine z_getR (N := 13) (b := 78) 11 4 rfl f_11_41 rfl J rfl 3972 ⟨rfl, rfl⟩ rfl ?_
                          refine x_iloadn (x := a2) rfl rfl ?_
                          refine x_inv (N := m_X7_isMention) (As := [.int a2]) (b := 78) (st := []) (dx9 := 6) (mc := 0) (ms := 0) (host := "") 7 rfl t_X7_isMention ⟨Or.inl q_11_187, i_X7_isMention.1, i_X7_isMention.2⟩ ⟨by decide, rfl⟩ (congrArg Prod.fst (J.1.1 78 (7, 16) rfl)) rfl (by decide) rfl rfl ⟨by decide, by decide⟩ (jC.of rfl k_X7_isMention rfl ?_)
                          show jX m_X7_isMention 6 0 0 0 [(0, .ref 78), (1, .int a2)] [] _ 0 0 _
                          refine x_iloadn (x := a2) rfl rfl ?_
                          refine x_iflt (tgt := 41) rfl rfl (ti_lt rfl jk_0 (br_f (by omega) ?_))
                          refine x_iloadn (x := a2) rfl rfl ?_
                          refine x_sipush (v := 600) rfl ks_600 ?_
                          refine x_icge (tgt := 41) rfl rfl (ti_ge rfl jk_600 (br_f (by omega) ?_))
                          refine x_iloadn (x := a2) rfl rfl ?_
                          refine x_iconst (v := 3) rfl ki_3 ?_
                          refine z_idiv rfl rfl jk_3 (by omega) (by omega) (fun v43 ev43 => ?_)
                          refine x_aloadn (x := 78) rfl rfl ?_
                          refine z_getR (N := 16) (b := 32) 7 0 rfl f_7_55 rfl J rfl 9984 ⟨rfl, rfl⟩ rfl ?_
                          refine z_getR (N := 20) (b := 33) 1 0 rfl f_7_63 rfl J rfl 4096 ⟨rfl, rfl⟩ rfl ?_
                          refine z_getM (N := 4) (v := v6) 8 3 rfl f_7_85 rfl J rfl qv6 ?_
                          refine x_icge (tgt := 41) rfl rfl (ti_ge rfl rfl ⟨fun c44 => ?_, fun c44 => ?_⟩)
                          ·
                            refine x_iconst (v := 0) rfl ki_0 ?_
                            refine x_zret rfl rfl (by decide) ?_
                            show jX m_X11_soulOn 7 0 0 15 [(0, .ref 31), (1, .int a2), (2, .int 146399)] [.int 0] _ 0 0 _
                            refine x_ifne (tgt := 20) rfl rfl (ti_ne jk_0 jk_0 (bn_f (by omega) ?_))
                            refine x_iconst (v := (-1)) rfl ki_m1 ?_
                            refine x_iret rfl rfl ?_
                            show jX m_X11_together 8 0 0 56 [(0, .ref 31), (1, .int a1), (2, .int a2), (3, .int a3)] [.int (-1), .int (-1)] _ 0 0 _
                            refine x_icne (tgt := 66) rfl rfl (ti_ne jk_m1 jk_m1 (bn_f (by omega) ?_))
                            refine x_aloadn (x := 31) rfl rfl ?_
                            refine x_bipush (v := (-4)) rfl kb_m4 ?_
                            refine x_inv (N := m_X11_refuse) (As := [.int (-4)]) (b := 31) (st := []) (dx9 := 7) (mc := 0) (ms := 0) (host := "") 11 rfl t_X11_refuse ⟨Or.inl q_11_206, i_X11_refuse.1, i_X11_refuse.2⟩ ⟨by decide, rfl⟩ (congrArg Prod.fst (J.1.1 31 (11, 13) rfl)) rfl (by decide) rfl rfl ⟨by decide, by decide⟩ (jC.of rfl k_X11_refuse rfl ?_)
                            show jX m_X11_refuse 7 0 0 0 [(0, .ref 31), (1, .int (-4))] [] _ 0 0 _
                            refine x_aloadn (x := 31) rfl rfl ?_
                            refine x_iloadn (x := (-4)) rfl rfl ?_
                            refine z_putI (N := 13) (w := (-4)) 11 12 rfl f_11_94 rfl (jfin_no TX11 RX11 13 rfl rfl) hD J Sm rfl rfl jk_m4 (pw_31_12 (by omega)) rfl (fun h w45 J Sm => ?_)
                            refine x_iloadn (x := (-4)) rfl rfl ?_
                            refine x_iret rfl rfl ?_
                            show jX m_X11_together 8 0 0 65 [(0, .ref 31), (1, .int a1), (2, .int a2), (3, .int a3)] [.int (-4)] _ 0 0 _
                            refine x_iret rfl rfl ?_
                            exact hQ _ _ (jr_of jk_m4 (by omega)) J Sm
                          ·
                            refine x_aloadn (x := 78) rfl rfl ?_
                            refine z_getR (N := 16) (b := 79) 7 7 rfl f_7_27 rfl J rfl 9991 ⟨rfl, rfl⟩ rfl ?_
                            refine x_iloadn (x := a2) rfl rfl ?_
                            refine z_ialdM (N := 600) (v := v14) rfl J rfl rfl (by omega) qv14 ?_
                            refine x_iconst (v := (-1)) rfl ki_m1 ?_
                            refine x_iceq (tgt := 41) rfl rfl (ti_eq rfl jk_m1 (br_f (by omega) ?_))
                            refine x_iconst (v := 1) rfl ki_1 ?_
                            refine x_goto (tgt := 42) rfl rfl ?_
                            refine x_zret rfl rfl (by decide) ?_
                            show jX m_X11_soulOn 7 0 0 15 [(0, .ref 31), (1, .int a2), (2, .int 146399)] [.int 1] _ 0 0 _
                            refine x_ifne (tgt := 20) rfl rfl (ti_ne jk_1 jk_0 (bn_t (by omega) ?_))
                            refine x_aloadn (x := 31) rfl rfl ?_
                            refine z_getR (N := 13) (b := 78) 11 4 rfl f_11_41 rfl J rfl 3972 ⟨rfl, rfl⟩ rfl ?_
                            refine x_iloadn (x := 146399) rfl rfl ?_
                            refine x_inv (N := m_X7_asKnown) (As := [.int 146399]) (b := 78) (st := []) (dx9 := 6) (mc := 0) (ms := 0) (host := "") 7 rfl t_X7_asKnown ⟨Or.inl q_11_240, i_X7_asKnown.1, i_X7_asKnown.2⟩ ⟨by decide, rfl⟩ (congrArg Prod.fst (J.1.1 78 (7, 16) rfl)) rfl (by decide) rfl rfl ⟨by decide, by decide⟩ (sf_X7_asKnown_r78 (jr_of jk_146399 (by omega)) hD J  (fun h J S46 => ?_))
                            have Sm := jSm_tr rfl Sm S46
                            show jX m_X11_soulOn 7 0 0 28 [(0, .ref 31), (1, .int a2), (2, .int 146399)] [] _ 0 0 _
                            refine x_aloadn (x := 31) rfl rfl ?_
                            refine z_getR (N := 13) (b := 78) 11 4 rfl f_11_41 rfl J rfl 3972 ⟨rfl, rfl⟩ rfl ?_
                            refine z_getR (N := 16) (b := 82) 7 10 rfl f_11_537 rfl J rfl 9994 ⟨rfl, rfl⟩ rfl ?_
                            refine x_iloadn (x := a2) rfl rfl ?_
                            refine z_iald (N := 600) rfl J rfl sg_82_0_600_1_0_1 rfl (by omega) (fun v47 qv47 ev47 => ?_)
                            refine x_iret rfl rfl ?_
                            show jX m_X11_together 8 0 0 56 [(0, .ref 31), (1, .int a1), (2, .int a2), (3, .int a3)] [.int v47, .int (-1)] _ 0 0 _
                            refine x_icne (tgt := 66) rfl rfl (ti_ne jk_m1 rfl ⟨fun c48 => ?_, fun c48 => ?_⟩)
                            ·
                              refine x_aloadn (x := 31) rfl rfl ?_
                              refine z_getR (N := 13) (b := 32) 11 0 rfl f_11_10 rfl J rfl 3968 ⟨rfl, rfl⟩ rfl ?_
                              refine z_getR (N := 20) (b := 39) 1 3 rfl f_11_237 rfl J rfl 4099 ⟨rfl, rfl⟩ rfl ?_
                              refine x_inv (N := m_X8_isFull) (As := []) (b := 39) (st := []) (dx9 := 1) (mc := 0) (ms := 0) (host := "") 8 rfl t_X8_isFull ⟨Or.inl q_11_130, i_X8_isFull.1, i_X8_isFull.2⟩ ⟨by decide, rfl⟩ (congrArg Prod.fst (J.1.1 39 (8, 4) rfl)) rfl (by decide) rfl rfl ⟨by decide, by decide⟩ (sf_X8_isFull_r39  hD J  (fun v50 h ev50 J S49 => ?_))
                              have Sm := jSm_tr rfl Sm S49
                              show jX m_X11_together 8 0 0 76 [(0, .ref 31), (1, .int a1), (2, .int a2), (3, .int a3)] [.int v50] _ 0 0 _
                              refine x_ifeq (tgt := 86) rfl rfl (ti_eq rfl jk_0 ⟨fun c51 => ?_, fun c51 => ?_⟩)
                              ·
                                refine x_aloadn (x := 31) rfl rfl ?_
                                refine z_getR (N := 13) (b := 32) 11 0 rfl f_11_10 rfl J rfl 3968 ⟨rfl, rfl⟩ rfl ?_
                                refine z_getR (N := 20) (b := 39) 1 3 rfl f_11_237 rfl J rfl 4099 ⟨rfl, rfl⟩ rfl ?_
                                refine x_iloadn (x := a3) rfl rfl ?_
                                refine x_iloadn (x := a1) rfl rfl ?_
                                refine x_iloadn (x := a2) rfl rfl ?_
                                refine x_iconst (v := 0) rfl ki_0 ?_
                                refine x_iconst (v := 0) rfl ki_0 ?_
                                refine x_iconst (v := 0) rfl ki_0 ?_
                                refine x_inv (N := m_X8_add) (As := [.int a3, .int a1, .int a2, .int 0, .int 0, .int 0]) (b := 39) (st := []) (dx9 := 2) (mc := 0) (ms := 0) (host := "") 8 rfl t_X8_add ⟨Or.inl q_11_145, i_X8_add.1, i_X8_add.2⟩ ⟨by decide, rfl⟩ (congrArg Prod.fst (J.1.1 39 (8, 4) rfl)) rfl (by decide) rfl rfl ⟨by decide, by decide⟩ (sf_X8_add_r39 (jr_of rfl (by omega)) (jr_of rfl (by omega)) (jr_of rfl (by omega)) (jr_of jk_0 (by omega)) (jr_of jk_0 (by omega)) (jr_of jk_0 (by omega)) hD J  (fun h J S52 => ?_))
                                have Sm := jSm_tr rfl Sm S52
                                show jX m_X11_together 8 0 0 102 [(0, .ref 31), (1, .int a1), (2, .int a2), (3, .int a3)] [] _ 0 0 _
                                refine x_aloadn (x := 31) rfl rfl ?_
                                refine x_aloadn (x := 31) rfl rfl ?_
                                refine z_getR (N := 13) (b := 32) 11 0 rfl f_11_10 rfl J rfl 3968 ⟨rfl, rfl⟩ rfl ?_
                                refine z_getR (N := 20) (b := 39) 1 3 rfl f_11_237 rfl J rfl 4099 ⟨rfl, rfl⟩ rfl ?_
                                refine z_getI (N := 4) 8 3 rfl f_11_142 rfl J rfl sg_39_3_4_1_0_1 (fun v53 qv53 ev53 => ?_)
                                refine x_inv (N := m_X11_accept) (As := [.int v53]) (b := 31) (st := []) (dx9 := 7) (mc := 0) (ms := 0) (host := "") 11 rfl t_X11_accept ⟨Or.inl q_11_165, i_X11_accept.1, i_X11_accept.2⟩ ⟨by decide, rfl⟩ (congrArg Prod.fst (J.1.1 31 (11, 13) rfl)) rfl (by decide) rfl rfl ⟨by decide, by decide⟩ (jC.of rfl k_X11_accept rfl ?_)
                                show jX m_X11_accept 7 0 0 0 [(0, .ref 31), (1, .int v53)] [] _ 0 0 _
                                refine x_aloadn (x := 31) rfl rfl ?_
                                refine x_iconst (v := 0) rfl ki_0 ?_
                                refine z_putI (N := 13) (w := 0) 11 12 rfl f_11_94 rfl (jfin_no TX11 RX11 13 rfl rfl) hD J Sm rfl rfl jk_0 (pw_31_12 (by omega)) rfl (fun h w54 J Sm => ?_)
                                refine x_aloadn (x := 31) rfl rfl ?_
                                refine z_getR (N := 13) (b := 32) 11 0 rfl f_11_10 rfl J rfl 3968 ⟨rfl, rfl⟩ rfl ?_
                                refine x_dup rfl rfl ?_
                                refine z_getI0 (N := 20) 1 19 rfl f_11_528 rfl J rfl (fun v55 qv55 => ?_)
                                have ev55 := jfull v55
                                refine x_iconst (v := 1) rfl ki_1 ?_
                                refine z_iadd0 rfl (fun v56 => ?_)
                                have ev56 := jfull v56
                                refine z_putI (N := 20) (w := v56.toInt) 1 19 rfl f_11_528 rfl (jfin_no TX1 RX1 20 rfl rfl) hD J Sm rfl rfl rfl (pw_32_19 trivial) rfl (fun h w57 J Sm => ?_)
                                refine x_iloadn (x := v53) rfl rfl ?_
                                refine x_iret rfl rfl ?_
                                show jX m_X11_together 8 0 0 116 [(0, .ref 31), (1, .int a1), (2, .int a2), (3, .int a3)] [.int v53] _ 0 0 _
                                refine x_iret rfl rfl ?_
                                exact hQ _ _ (jr_of rfl (by omega)) J Sm
                              ·
                                refine x_aloadn (x := 31) rfl rfl ?_
                                refine x_bipush (v := (-5)) rfl kb_m5 ?_
                                refine x_inv (N := m_X11_refuse) (As := [.int (-5)]) (b := 31) (st := []) (dx9 := 7) (mc := 0) (ms := 0) (host := "") 11 rfl t_X11_refuse ⟨Or.inl q_11_206, i_X11_refuse.1, i_X11_refuse.2⟩ ⟨by decide, rfl⟩ (congrArg Prod.fst (J.1.1 31 (11, 13) rfl)) rfl (by decide) rfl rfl ⟨by decide, by decide⟩ (jC.of rfl k_X11_refuse rfl ?_)
                                show jX m_X11_refuse 7 0 0 0 [(0, .ref 31), (1, .int (-5))] [] _ 0 0 _
                                refine x_aloadn (x := 31) rfl rfl ?_
                                refine x_iloadn (x := (-5)) rfl rfl ?_
                                refine z_putI (N := 13) (w := (-5)) 11 12 rfl f_11_94 rfl (jfin_no TX11 RX11 13 rfl rfl) hD J Sm rfl rfl jk_m5 (pw_31_12 (by omega)) rfl (fun h w58 J Sm => ?_)
                                refine x_iloadn (x := (-5)) rfl rfl ?_
                                refine x_iret rfl rfl ?_
                                show jX m_X11_together 8 0 0 85 [(0, .ref 31), (1, .int a1), (2, .int a2), (3, .int a3)] [.int (-5)] _ 0 0 _
                                refine x_iret rfl rfl ?_
                                exact hQ _ _ (jr_of jk_m5 (by omega)) J Sm
                            ·
                              refine x_aloadn (x := 31) rfl rfl ?_
                              refine x_bipush (v := (-4)) rfl kb_m4 ?_
                              refine x_inv (N := m_X11_refuse) (As := [.int (-4)]) (b := 31) (st := []) (dx9 := 7) (mc := 0) (ms := 0) (host := "") 11 rfl t_X11_refuse ⟨Or.inl q_11_206, i_X11_refuse.1, i_X11_refuse.2⟩ ⟨by decide, rfl⟩ (congrArg Prod.fst (J.1.1 31 (11, 13) rfl)) rfl (by decide) rfl rfl ⟨by decide, by decide⟩ (jC.of rfl k_X11_refuse rfl ?_)
                              show jX m_X11_refuse 7 0 0 0 [(0, .ref 31), (1, .int (-4))] [] _ 0 0 _
                              refine x_aloadn (x := 31) rfl rfl ?_
                              refine x_iloadn (x := (-4)) rfl rfl ?_
                              refine z_putI (N := 13) (w := (-4)) 11 12 rfl f_11_94 rfl (jfin_no TX11 RX11 13 rfl rfl) hD J Sm rfl rfl jk_m4 (pw_31_12 (by omega)) rfl (fun h w59 J Sm => ?_)
                              refine x_iloadn (x := (-4)) rfl rfl ?_
                              refine x_iret rfl rfl ?_
                              show jX m_X11_together 8 0 0 65 [(0, .ref 31), (1, .int a1), (2, .int a2), (3, .int a3)] [.int (-4)] _ 0 0 _
                              refine x_iret rfl rfl ?_
                              exact hQ _ _ (jr_of jk_m4 (by omega)) J Sm
                      ·
                        refine x_aloadn (x := 78) rfl rfl ?_
                        refine z_getR (N := 16) (b := 79) 7 7 rfl f_7_27 rfl J rfl 9991 ⟨rfl, rfl⟩ rfl ?_
                        refine x_iloadn (x := a1) rfl rfl ?_
                        refine z_ialdM (N := 600) (v := v8) rfl J rfl rfl (by omega) qv8 ?_
                        refine x_iconst (v := (-1)) rfl ki_m1 ?_
                        refine x_iceq (tgt := 41) rfl rfl (ti_eq rfl jk_m1 (br_f (by omega) ?_))
                        refine x_iconst (v := 1) rfl ki_1 ?_
                        refine x_goto (tgt := 42) rfl rfl ?_
                        refine x_zret rfl rfl (by decide) ?_
                        show jX m_X11_soulOn 7 0 0 15 [(0, .ref 31), (1, .int a1), (2, .int 146399)] [.int 1] _ 0 0 _
                        refine x_ifne (tgt := 20) rfl rfl (ti_ne jk_1 jk_0 (bn_t (by omega) ?_))
                        refine x_aloadn (x := 31) rfl rfl ?_
                        refine z_getR (N := 13) (b := 78) 11 4 rfl f_11_41 rfl J rfl 3972 ⟨rfl, rfl⟩ rfl ?_
                        refine x_iloadn (x := 146399) rfl rfl ?_
                        refine x_inv (N := m_X7_asKnown) (As := [.int 146399]) (b := 78) (st := []) (dx9 := 6) (mc := 0) (ms := 0) (host := "") 7 rfl t_X7_asKnown ⟨Or.inl q_11_240, i_X7_asKnown.1, i_X7_asKnown.2⟩ ⟨by decide, rfl⟩ (congrArg Prod.fst (J.1.1 78 (7, 16) rfl)) rfl (by decide) rfl rfl ⟨by decide, by decide⟩ (sf_X7_asKnown_r78 (jr_of jk_146399 (by omega)) hD J  (fun h J S60 => ?_))
                        have Sm := jSm_tr rfl Sm S60
                        show jX m_X11_soulOn 7 0 0 28 [(0, .ref 31), (1, .int a1), (2, .int 146399)] [] _ 0 0 _
                        refine x_aloadn (x := 31) rfl rfl ?_
                        refine z_getR (N := 13) (b := 78) 11 4 rfl f_11_41 rfl J rfl 3972 ⟨rfl, rfl⟩ rfl ?_
                        refine z_getR (N := 16) (b := 82) 7 10 rfl f_11_537 rfl J rfl 9994 ⟨rfl, rfl⟩ rfl ?_
                        refine x_iloadn (x := a1) rfl rfl ?_
                        refine z_iald (N := 600) rfl J rfl sg_82_0_600_1_0_1 rfl (by omega) (fun v61 qv61 ev61 => ?_)
                        refine x_iret rfl rfl ?_
                        show jX m_X11_together 8 0 0 49 [(0, .ref 31), (1, .int a1), (2, .int a2), (3, .int a3)] [.int v61] _ 0 0 _
                        refine x_aloadn (x := 31) rfl rfl ?_
                        refine x_iloadn (x := a2) rfl rfl ?_
                        refine x_ldc (v := 146399) rfl z_11_233 ?_
                        refine x_inv (N := m_X11_soulOn) (As := [.int a2, .int 146399]) (b := 31) (st := [.int v61]) (dx9 := 7) (mc := 0) (ms := 0) (host := "") 11 rfl t_X11_soulOn ⟨Or.inl q_11_234, i_X11_soulOn.1, i_X11_soulOn.2⟩ ⟨by decide, rfl⟩ (congrArg Prod.fst (J.1.1 31 (11, 13) rfl)) rfl (by decide) rfl rfl ⟨by decide, by decide⟩ (jC.of rfl k_X11_soulOn rfl ?_)
                        show jX m_X11_soulOn 7 0 0 0 [(0, .ref 31), (1, .int a2), (2, .int 146399)] [] _ 0 0 _
                        refine x_iloadn (x := 146399) rfl rfl ?_
                        refine x_inst (N := m_X11_isDay) (As := [.int 146399]) (st := []) (dx9 := 1) (mc := 0) (ms := 0) (host := "") rfl t_X11_isDay ⟨Or.inl q_11_115, s_X11_isDay⟩ rfl (by decide) rfl rfl ⟨by decide, by decide⟩ (zc_X11_isDay jk_146399 (fun v62 ev62 => ?_))
                        show jX m_X11_soulOn 7 0 0 4 [(0, .ref 31), (1, .int a2), (2, .int 146399)] [.int v62] _ 0 0 _
                        refine x_ifeq (tgt := 18) rfl rfl (ti_eq rfl jk_0 ⟨fun c63 => ?_, fun c63 => ?_⟩)
                        ·
                          refine x_iconst (v := (-1)) rfl ki_m1 ?_
                          refine x_iret rfl rfl ?_
                          show jX m_X11_together 8 0 0 56 [(0, .ref 31), (1, .int a1), (2, .int a2), (3, .int a3)] [.int (-1), .int v61] _ 0 0 _
                          refine x_icne (tgt := 66) rfl rfl (ti_ne rfl jk_m1 ⟨fun c64 => ?_, fun c64 => ?_⟩)
                          ·
                            refine x_aloadn (x := 31) rfl rfl ?_
                            refine z_getR (N := 13) (b := 32) 11 0 rfl f_11_10 rfl J rfl 3968 ⟨rfl, rfl⟩ rfl ?_
                            refine z_getR (N := 20) (b := 39) 1 3 rfl f_11_237 rfl J rfl 4099 ⟨rfl, rfl⟩ rfl ?_
                            refine x_inv (N := m_X8_isFull) (As := []) (b := 39) (st := []) (dx9 := 1) (mc := 0) (ms := 0) (host := "") 8 rfl t_X8_isFull ⟨Or.inl q_11_130, i_X8_isFull.1, i_X8_isFull.2⟩ ⟨by decide, rfl⟩ (congrArg Prod.fst (J.1.1 39 (8, 4) rfl)) rfl (by decide) rfl rfl ⟨by decide, by decide⟩ (sf_X8_isFull_r39  hD J  (fun v66 h ev66 J S65 => ?_))
                            have Sm := jSm_tr rfl Sm S65
                            show jX m_X11_together 8 0 0 76 [(0, .ref 31), (1, .int a1), (2, .int a2), (3, .int a3)] [.int v66] _ 0 0 _
                            refine x_ifeq (tgt := 86) rfl rfl (ti_eq rfl jk_0 ⟨fun c67 => ?_, fun c67 => ?_⟩)
                            ·
                              refine x_aloadn (x := 31) rfl rfl ?_
                              refine z_getR (N := 13) (b := 32) 11 0 rfl f_11_10 rfl J rfl 3968 ⟨rfl, rfl⟩ rfl ?_
                              refine z_getR (N := 20) (b := 39) 1 3 rfl f_11_237 rfl J rfl 4099 ⟨rfl, rfl⟩ rfl ?_
                              refine x_iloadn (x := a3) rfl rfl ?_
                              refine x_iloadn (x := a1) rfl rfl ?_
                              refine x_iloadn (x := a2) rfl rfl ?_
                              refine x_iconst (v := 0) rfl ki_0 ?_
                              refine x_iconst (v := 0) rfl ki_0 ?_
                              refine x_iconst (v := 0) rfl ki_0 ?_
                              refine x_inv (N := m_X8_add) (As := [.int a3, .int a1, .int a2, .int 0, .int 0, .int 0]) (b := 39) (st := []) (dx9 := 2) (mc := 0) (ms := 0) (host := "") 8 rfl t_X8_add ⟨Or.inl q_11_145, i_X8_add.1, i_X8_add.2⟩ ⟨by decide, rfl⟩ (congrArg Prod.fst (J.1.1 39 (8, 4) rfl)) rfl (by decide) rfl rfl ⟨by decide, by decide⟩ (sf_X8_add_r39 (jr_of rfl (by omega)) (jr_of rfl (by omega)) (jr_of rfl (by omega)) (jr_of jk_0 (by omega)) (jr_of jk_0 (by omega)) (jr_of jk_0 (by omega)) hD J  (fun h J S68 => ?_))
                              have Sm := jSm_tr rfl Sm S68
                              show jX m_X11_together 8 0 0 102 [(0, .ref 31), (1, .int a1), (2, .int a2), (3, .int a3)] [] _ 0 0 _
                              refine x_aloadn (x := 31) rfl rfl ?_
                              refine x_aloadn (x := 31) rfl rfl ?_
                              refine z_getR (N := 13) (b := 32) 11 0 rfl f_11_10 rfl J rfl 3968 ⟨rfl, rfl⟩ rfl ?_
                              refine z_getR (N := 20) (b := 39) 1 3 rfl f_11_237 rfl J rfl 4099 ⟨rfl, rfl⟩ rfl ?_
                              refine z_getI (N := 4) 8 3 rfl f_11_142 rfl J rfl sg_39_3_4_1_0_1 (fun v69 qv69 ev69 => ?_)
                              refine x_inv (N := m_X11_accept) (As := [.int v69]) (b := 31) (st := []) (dx9 := 7) (mc := 0) (ms := 0) (host := "") 11 rfl t_X11_accept ⟨Or.inl q_11_165, i_X11_accept.1, i_X11_accept.2⟩ ⟨by decide, rfl⟩ (congrArg Prod.fst (J.1.1 31 (11, 13) rfl)) rfl (by decide) rfl rfl ⟨by decide, by decide⟩ (jC.of rfl k_X11_accept rfl ?_)
                              show jX m_X11_accept 7 0 0 0 [(0, .ref 31), (1, .int v69)] [] _ 0 0 _
                              refine x_aloadn (x := 31) rfl rfl ?_
                              refine x_iconst (v := 0) rfl ki_0 ?_
                              refine z_putI (N := 13) (w := 0) 11 12 rfl f_11_94 rfl (jfin_no TX11 RX11 13 rfl rfl) hD J Sm rfl rfl jk_0 (pw_31_12 (by omega)) rfl (fun h w70 J Sm => ?_)
                              refine x_aloadn (x := 31) rfl rfl ?_
                              refine z_getR (N := 13) (b := 32) 11 0 rfl f_11_10 rfl J rfl 3968 ⟨rfl, rfl⟩ rfl ?_
                              refine x_dup rfl rfl ?_
                              refine z_getI0 (N := 20) 1 19 rfl f_11_528 rfl J rfl (fun v71 qv71 => ?_)
                              have ev71 := jfull v71
                              refine x_iconst (v := 1) rfl ki_1 ?_
                              refine z_iadd0 rfl (fun v72 => ?_)
                              have ev72 := jfull v72
                              refine z_putI (N := 20) (w := v72.toInt) 1 19 rfl f_11_528 rfl (jfin_no TX1 RX1 20 rfl rfl) hD J Sm rfl rfl rfl (pw_32_19 trivial) rfl (fun h w73 J Sm => ?_)
                              refine x_iloadn (x := v69) rfl rfl ?_
                              refine x_iret rfl rfl ?_
                              show jX m_X11_together 8 0 0 116 [(0, .ref 31), (1, .int a1), (2, .int a2), (3, .int a3)] [.int v69] _ 0 0 _
                              refine x_iret rfl rfl ?_
                              exact hQ _ _ (jr_of rfl (by omega)) J Sm
                            ·
                              refine x_aloadn (x := 31) rfl rfl ?_
                              refine x_bipush (v := (-5)) rfl kb_m5 ?_
                              refine x_inv (N := m_X11_refuse) (As := [.int (-5)]) (b := 31) (st := []) (dx9 := 7) (mc := 0) (ms := 0) (host := "") 11 rfl t_X11_refuse ⟨Or.inl q_11_206, i_X11_refuse.1, i_X11_refuse.2⟩ ⟨by decide, rfl⟩ (congrArg Prod.fst (J.1.1 31 (11, 13) rfl)) rfl (by decide) rfl rfl ⟨by decide, by decide⟩ (jC.of rfl k_X11_refuse rfl ?_)
                              show jX m_X11_refuse 7 0 0 0 [(0, .ref 31), (1, .int (-5))] [] _ 0 0 _
                              refine x_aloadn (x := 31) rfl rfl ?_
                              refine x_iloadn (x := (-5)) rfl rfl ?_
                              refine z_putI (N := 13) (w := (-5)) 11 12 rfl f_11_94 rfl (jfin_no TX11 RX11 13 rfl rfl) hD J Sm rfl rfl jk_m5 (pw_31_12 (by omega)) rfl (fun h w74 J Sm => ?_)
                              refine x_iloadn (x := (-5)) rfl rfl ?_
                              refine x_iret rfl rfl ?_
                              show jX m_X11_together 8 0 0 85 [(0, .ref 31), (1, .int a1), (2, .int a2), (3, .int a3)] [.int (-5)] _ 0 0 _
                              refine x_iret rfl rfl ?_
                              exact hQ _ _ (jr_of jk_m5 (by omega)) J Sm
                          ·
                            refine x_aloadn (x := 31) rfl rfl ?_
                            refine x_bipush (v := (-4)) rfl kb_m4 ?_
                            refine x_inv (N := m_X11_refuse) (As := [.int (-4)]) (b := 31) (st := []) (dx9 := 7) (mc := 0) (ms := 0) (host := "") 11 rfl t_X11_refuse ⟨Or.inl q_11_206, i_X11_refuse.1, i_X11_refuse.2⟩ ⟨by decide, rfl⟩ (congrArg Prod.fst (J.1.1 31 (11, 13) rfl)) rfl (by decide) rfl rfl ⟨by decide, by decide⟩ (jC.of rfl k_X11_refuse rfl ?_)
                            show jX m_X11_refuse 7 0 0 0 [(0, .ref 31), (1, .int (-4))] [] _ 0 0 _
                            refine x_aloadn (x := 31) rfl rfl ?_
                            refine x_iloadn (x := (-4)) rfl rfl ?_
                            refine z_putI (N := 13) (w := (-4)) 11 12 rfl f_11_94 rfl (jfin_no TX11 RX11 13 rfl rfl) hD J Sm rfl rfl jk_m4 (pw_31_12 (by omega)) rfl (fun h w75 J Sm => ?_)
                            refine x_iloadn (x := (-4)) rfl rfl ?_
                            refine x_iret rfl rfl ?_
                            show jX m_X11_together 8 0 0 65 [(0, .ref 31), (1, .int a1), (2, .int a2), (3, .int a3)] [.int (-4)] _ 0 0 _
                            refine x_iret rfl rfl ?_
                            exact hQ _ _ (jr_of jk_m4 (by omega)) J Sm
                        ·
                          refine x_aloadn (x := 31) rfl rfl ?_
                          refine z_getR (N := 13) (b := 78) 11 4 rfl f_11_41 rfl J rfl 3972 ⟨rfl, rfl⟩ rfl ?_
                          refine x_iloadn (x := a2) rfl rfl ?_
                          refine x_inv (N := m_X7_isMention) (As := [.int a2]) (b := 78) (st := []) (dx9 := 6) (mc := 0) (ms := 0) (host := "") 7 rfl t_X7_isMention ⟨Or.inl q_11_187, i_X7_isMention.1, i_X7_isMention.2⟩ ⟨by decide, rfl⟩ (congrArg Prod.fst (J.1.1 78 (7, 16) rfl)) rfl (by decide) rfl rfl ⟨by decide, by decide⟩ (jC.of rfl k_X7_isMention rfl ?_)
                          show jX m_X7_isMention 6 0 0 0 [(0, .ref 78), (1, .int a2)] [] _ 0 0 _
                          refine x_iloadn (x := a2) rfl rfl ?_
                          refine x_iflt (tgt := 41) rfl rfl (ti_lt rfl jk_0 (br_f (by omega) ?_))
                          refine x_iloadn (x := a2) rfl rfl ?_
                          refine x_sipush (v := 600) rfl ks_600 ?_
                          refine x_icge (tgt := 41) rfl rfl (ti_ge rfl jk_600 (br_f (by omega) ?_))
                          refine x_iloadn (x := a2) rfl rfl ?_
                          refine x_iconst (v := 3) rfl ki_3 ?_
                          refine z_idiv rfl rfl jk_3 (by omega) (by omega) (fun v76 ev76 => ?_)
                          refine x_aloadn (x := 78) rfl rfl ?_
                          refine z_getR (N := 16) (b := 32) 7 0 rfl f_7_55 rfl J rfl 9984 ⟨rfl, rfl⟩ rfl ?_
                          refine z_getR (N := 20) (b := 33) 1 0 rfl f_7_63 rfl J rfl 4096 ⟨rfl, rfl⟩ rfl ?_
                          refine z_getM (N := 4) (v := v6) 8 3 rfl f_7_85 rfl J rfl (jmc S60 rfl qv6) ?_
                          refine x_icge (tgt := 41) rfl rfl (ti_ge rfl rfl ⟨fun c77 => ?_, fun c77 => ?_⟩)
                          ·
                            refine x_iconst (v := 0) rfl ki_0 ?_
                            refine x_zret rfl rfl (by decide) ?_
                            show jX m_X11_soulOn 7 0 0 15 [(0, .ref 31), (1, .int a2), (2, .int 146399)] [.int 0] _ 0 0 _
                            refine x_ifne (tgt := 20) rfl rfl (ti_ne jk_0 jk_0 (bn_f (by omega) ?_))
                            refine x_iconst (v := (-1)) rfl ki_m1 ?_
                            refine x_iret rfl rfl ?_
                            show jX m_X11_together 8 0 0 56 [(0, .ref 31), (1, .int a1), (2, .int a2), (3, .int a3)] [.int (-1), .int v61] _ 0 0 _
                            refine x_icne (tgt := 66) rfl rfl (ti_ne rfl jk_m1 ⟨fun c78 => ?_, fun c78 => ?_⟩)
                            ·
                              refine x_aloadn (x := 31) rfl rfl ?_
                              refine z_getR (N := 13) (b := 32) 11 0 rfl f_11_10 rfl J rfl 3968 ⟨rfl, rfl⟩ rfl ?_
                              refine z_getR (N := 20) (b := 39) 1 3 rfl f_11_237 rfl J rfl 4099 ⟨rfl, rfl⟩ rfl ?_
                              refine x_inv (N := m_X8_isFull) (As := []) (b := 39) (st := []) (dx9 := 1) (mc := 0) (ms := 0) (host := "") 8 rfl t_X8_isFull ⟨Or.inl q_11_130, i_X8_isFull.1, i_X8_isFull.2⟩ ⟨by decide, rfl⟩ (congrArg Prod.fst (J.1.1 39 (8, 4) rfl)) rfl (by decide) rfl rfl ⟨by decide, by decide⟩ (sf_X8_isFull_r39  hD J  (fun v80 h ev80 J S79 => ?_))
                              have Sm := jSm_tr rfl Sm S79
                              show jX m_X11_together 8 0 0 76 [(0, .ref 31), (1, .int a1), (2, .int a2), (3, .int a3)] [.int v80] _ 0 0 _
                              refine x_ifeq (tgt := 86) rfl rfl (ti_eq rfl jk_0 ⟨fun c81 => ?_, fun c81 => ?_⟩)
                              ·
                                refine x_aloadn (x := 31) rfl rfl ?_
                                refine z_getR (N := 13) (b := 32) 11 0 rfl f_11_10 rfl J rfl 3968 ⟨rfl, rfl⟩ rfl ?_
                                refine z_getR (N := 20) (b := 39) 1 3 rfl f_11_237 rfl J rfl 4099 ⟨rfl, rfl⟩ rfl ?_
                                refine x_iloadn (x := a3) rfl rfl ?_
                                refine x_iloadn (x := a1) rfl rfl ?_
                                refine x_iloadn (x := a2) rfl rfl ?_
                                refine x_iconst (v := 0) rfl ki_0 ?_
                                refine x_iconst (v := 0) rfl ki_0 ?_
                                refine x_iconst (v := 0) rfl ki_0 ?_
                                refine x_inv (N := m_X8_add) (As := [.int a3, .int a1, .int a2, .int 0, .int 0, .int 0]) (b := 39) (st := []) (dx9 := 2) (mc := 0) (ms := 0) (host := "") 8 rfl t_X8_add ⟨Or.inl q_11_145, i_X8_add.1, i_X8_add.2⟩ ⟨by decide, rfl⟩ (congrArg Prod.fst (J.1.1 39 (8, 4) rfl)) rfl (by decide) rfl rfl ⟨by decide, by decide⟩ (sf_X8_add_r39 (jr_of rfl (by omega)) (jr_of rfl (by omega)) (jr_of rfl (by omega)) (jr_of jk_0 (by omega)) (jr_of jk_0 (by omega)) (jr_of jk_0 (by omega)) hD J  (fun h J S82 => ?_))
                                have Sm := jSm_tr rfl Sm S82
                                show jX m_X11_together 8 0 0 102 [(0, .ref 31), (1, .int a1), (2, .int a2), (3, .int a3)] [] _ 0 0 _
                                refine x_aloadn (x := 31) rfl rfl ?_
                                refine x_aloadn (x := 31) rfl rfl ?_
                                refine z_getR (N := 13) (b := 32) 11 0 rfl f_11_10 rfl J rfl 3968 ⟨rfl, rfl⟩ rfl ?_
                                refine z_getR (N := 20) (b := 39) 1 3 rfl f_11_237 rfl J rfl 4099 ⟨rfl, rfl⟩ rfl ?_
                                refine z_getI (N := 4) 8 3 rfl f_11_142 rfl J rfl sg_39_3_4_1_0_1 (fun v83 qv83 ev83 => ?_)
                                refine x_inv (N := m_X11_accept) (As := [.int v83]) (b := 31) (st := []) (dx9 := 7) (mc := 0) (ms := 0) (host := "") 11 rfl t_X11_accept ⟨Or.inl q_11_165, i_X11_accept.1, i_X11_accept.2⟩ ⟨by decide, rfl⟩ (congrArg Prod.fst (J.1.1 31 (11, 13) rfl)) rfl (by decide) rfl rfl ⟨by decide, by decide⟩ (jC.of rfl k_X11_accept rfl ?_)
                                show jX m_X11_accept 7 0 0 0 [(0, .ref 31), (1, .int v83)] [] _ 0 0 _
                                refine x_aloadn (x := 31) rfl rfl ?_
                                refine x_iconst (v := 0) rfl ki_0 ?_
                                refine z_putI (N := 13) (w := 0) 11 12 rfl f_11_94 rfl (jfin_no TX11 RX11 13 rfl rfl) hD J Sm rfl rfl jk_0 (pw_31_12 (by omega)) rfl (fun h w84 J Sm => ?_)
                                refine x_aloadn (x := 31) rfl rfl ?_
                                refine z_getR (N := 13) (b := 32) 11 0 rfl f_11_10 rfl J rfl 3968 ⟨rfl, rfl⟩ rfl ?_
                                refine x_dup rfl rfl ?_
                                refine z_getI0 (N := 20) 1 19 rfl f_11_528 rfl J rfl (fun v85 qv85 => ?_)
                                have ev85 := jfull v85
                                refine x_iconst (v := 1) rfl ki_1 ?_
                                refine z_iadd0 rfl (fun v86 => ?_)
                                have ev86 := jfull v86
                                refine z_putI (N := 20) (w := v86.toInt) 1 19 rfl f_11_528 rfl (jfin_no TX1 RX1 20 rfl rfl) hD J Sm rfl rfl rfl (pw_32_19 trivial) rfl (fun h w87 J Sm => ?_)
                                refine x_iloadn (x := v83) rfl rfl ?_
                                refine x_iret rfl rfl ?_
                                show jX m_X11_together 8 0 0 116 [(0, .ref 31), (1, .int a1), (2, .int a2), (3, .int a3)] [.int v83] _ 0 0 _
                                refine x_iret rfl rfl ?_
                                exact hQ _ _ (jr_of rfl (by omega)) J Sm
                              ·
                                refine x_aloadn (x := 31) rfl rfl ?_
                                refine x_bipush (v := (-5)) rfl kb_m5 ?_
                                refine x_inv (N := m_X11_refuse) (As := [.int (-5)]) (b := 31) (st := []) (dx9 := 7) (mc := 0) (ms := 0) (host := "") 11 rfl t_X11_refuse ⟨Or.inl q_11_206, i_X11_refuse.1, i_X11_refuse.2⟩ ⟨by decide, rfl⟩ (congrArg Prod.fst (J.1.1 31 (11, 13) rfl)) rfl (by decide) rfl rfl ⟨by decide, by decide⟩ (jC.of rfl k_X11_refuse rfl ?_)
                                show jX m_X11_refuse 7 0 0 0 [(0, .ref 31), (1, .int (-5))] [] _ 0 0 _
                                refine x_aloadn (x := 31) rfl rfl ?_
                                refine x_iloadn (x := (-5)) rfl rfl ?_
                                refine z_putI (N := 13) (w := (-5)) 11 12 rfl f_11_94 rfl (jfin_no TX11 RX11 13 rfl rfl) hD J Sm rfl rfl jk_m5 (pw_31_12 (by omega)) rfl (fun h w88 J Sm => ?_)
                                refine x_iloadn (x := (-5)) rfl rfl ?_
                                refine x_iret rfl rfl ?_
                                show jX m_X11_together 8 0 0 85 [(0, .ref 31), (1, .int a1), (2, .int a2), (3, .int a3)] [.int (-5)] _ 0 0 _
                                refine x_iret rfl rfl ?_
                                exact hQ _ _ (jr_of jk_m5 (by omega)) J Sm
                            ·
                              refine x_aloadn (x := 31) rfl rfl ?_
                              refine x_bipush (v := (-4)) rfl kb_m4 ?_
                              refine x_inv (N := m_X11_refuse) (As := [.int (-4)]) (b := 31) (st := []) (dx9 := 7) (mc := 0) (ms := 0) (host := "") 11 rfl t_X11_refuse ⟨Or.inl q_11_206, i_X11_refuse.1, i_X11_refuse.2⟩ ⟨by decide, rfl⟩ (congrArg Prod.fst (J.1.1 31 (11, 13) rfl)) rfl (by decide) rfl rfl ⟨by decide, by decide⟩ (jC.of rfl k_X11_refuse rfl ?_)
                              show jX m_X11_refuse 7 0 0 0 [(0, .ref 31), (1, .int (-4))] [] _ 0 0 _
                              refine x_aloadn (x := 31) rfl rfl ?_
                              refine x_iloadn (x := (-4)) rfl rfl ?_
                              refine z_putI (N := 13) (w := (-4)) 11 12 rfl f_11_94 rfl (jfin_no TX11 RX11 13 rfl rfl) hD J Sm rfl rfl jk_m4 (pw_31_12 (by omega)) rfl (fun h w89 J Sm => ?_)
                              refine x_iloadn (x := (-4)) rfl rfl ?_
                              refine x_iret rfl rfl ?_
                              show jX m_X11_together 8 0 0 65 [(0, .ref 31), (1, .int a1), (2, .int a2), (3, .int a3)] [.int (-4)] _ 0 0 _
                              refine x_iret rfl rfl ?_
                              exact hQ _ _ (jr_of jk_m4 (by omega)) J Sm
                          ·
                            refine x_aloadn (x := 78) rfl rfl ?_
                            refine z_getR (N := 16) (b := 79) 7 7 rfl f_7_27 rfl J rfl 9991 ⟨rfl, rfl⟩ rfl ?_
                            refine x_iloadn (x := a2) rfl rfl ?_
                            refine z_ialdM (N := 600) (v := v14) rfl J rfl rfl (by omega) (jmc S60 rfl qv14) ?_
                            refine x_iconst (v := (-1)) rfl ki_m1 ?_
                            refine x_iceq (tgt := 41) rfl rfl (ti_eq rfl jk_m1 (br_f (by omega) ?_))
                            refine x_iconst (v := 1) rfl ki_1 ?_
                            refine x_goto (tgt := 42) rfl rfl ?_
                            refine x_zret rfl rfl (by decide) ?_
                            show jX m_X11_soulOn 7 0 0 15 [(0, .ref 31), (1, .int a2), (2, .int 146399)] [.int 1] _ 0 0 _
                            refine x_ifne (tgt := 20) rfl rfl (ti_ne jk_1 jk_0 (bn_t (by omega) ?_))
                            refine x_aloadn (x := 31) rfl rfl ?_
                            refine z_getR (N := 13) (b := 78) 11 4 rfl f_11_41 rfl J rfl 3972 ⟨rfl, rfl⟩ rfl ?_
                            refine x_iloadn (x := 146399) rfl rfl ?_
                            refine x_inv (N := m_X7_asKnown) (As := [.int 146399]) (b := 78) (st := []) (dx9 := 6) (mc := 0) (ms := 0) (host := "") 7 rfl t_X7_asKnown ⟨Or.inl q_11_240, i_X7_asKnown.1, i_X7_asKnown.2⟩ ⟨by decide, rfl⟩ (congrArg Prod.fst (J.1.1 78 (7, 16) rfl)) rfl (by decide) rfl rfl ⟨by decide, by decide⟩ (sf_X7_asKnown_r78 (jr_of jk_146399 (by omega)) hD J  (fun h J S90 => ?_))
                            have Sm := jSm_tr rfl Sm S90
                            show jX m_X11_soulOn 7 0 0 28 [(0, .ref 31), (1, .int a2), (2, .int 146399)] [] _ 0 0 _
                            refine x_aloadn (x := 31) rfl rfl ?_
                            refine z_getR (N := 13) (b := 78) 11 4 rfl f_11_41 rfl J rfl 3972 ⟨rfl, rfl⟩ rfl ?_
                            refine z_getR (N := 16) (b := 82) 7 10 rfl f_11_537 rfl J rfl 9994 ⟨rfl, rfl⟩ rfl ?_
                            refine x_iloadn (x := a2) rfl rfl ?_
                            refine z_iald (N := 600) rfl J rfl sg_82_0_600_1_0_1 rfl (by omega) (fun v91 qv91 ev91 => ?_)
                            refine x_iret rfl rfl ?_
                            show jX m_X11_together 8 0 0 56 [(0, .ref 31), (1, .int a1), (2, .int a2), (3, .int a3)] [.int v91, .int v61] _ 0 0 _
                            refine x_icne (tgt := 66) rfl rfl (ti_ne rfl rfl ⟨fun c92 => ?_, fun c92 => ?_⟩)
                            ·
                              refine x_aloadn (x := 31) rfl rfl ?_
                              refine z_getR (N := 13) (b := 32) 11 0 rfl f_11_10 rfl J rfl 3968 ⟨rfl, rfl⟩ rfl ?_
                              refine z_getR (N := 20) (b := 39) 1 3 rfl f_11_237 rfl J rfl 4099 ⟨rfl, rfl⟩ rfl ?_
                              refine x_inv (N := m_X8_isFull) (As := []) (b := 39) (st := []) (dx9 := 1) (mc := 0) (ms := 0) (host := "") 8 rfl t_X8_isFull ⟨Or.inl q_11_130, i_X8_isFull.1, i_X8_isFull.2⟩ ⟨by decide, rfl⟩ (congrArg Prod.fst (J.1.1 39 (8, 4) rfl)) rfl (by decide) rfl rfl ⟨by decide, by decide⟩ (sf_X8_isFull_r39  hD J  (fun v94 h ev94 J S93 => ?_))
                              have Sm := jSm_tr rfl Sm S93
                              show jX m_X11_together 8 0 0 76 [(0, .ref 31), (1, .int a1), (2, .int a2), (3, .int a3)] [.int v94] _ 0 0 _
                              refine x_ifeq (tgt := 86) rfl rfl (ti_eq rfl jk_0 ⟨fun c95 => ?_, fun c95 => ?_⟩)
                              ·
                                refine x_aloadn (x := 31) rfl rfl ?_
                                refine z_getR (N := 13) (b := 32) 11 0 rfl f_11_10 rfl J rfl 3968 ⟨rfl, rfl⟩ rfl ?_
                                refine z_getR (N := 20) (b := 39) 1 3 rfl f_11_237 rfl J rfl 4099 ⟨rfl, rfl⟩ rfl ?_
                                refine x_iloadn (x := a3) rfl rfl ?_
                                refine x_iloadn (x := a1) rfl rfl ?_
                                refine x_iloadn (x := a2) rfl rfl ?_
                                refine x_iconst (v := 0) rfl ki_0 ?_
                                refine x_iconst (v := 0) rfl ki_0 ?_
                                refine x_iconst (v := 0) rfl ki_0 ?_
                                refine x_inv (N := m_X8_add) (As := [.int a3, .int a1, .int a2, .int 0, .int 0, .int 0]) (b := 39) (st := []) (dx9 := 2) (mc := 0) (ms := 0) (host := "") 8 rfl t_X8_add ⟨Or.inl q_11_145, i_X8_add.1, i_X8_add.2⟩ ⟨by decide, rfl⟩ (congrArg Prod.fst (J.1.1 39 (8, 4) rfl)) rfl (by decide) rfl rfl ⟨by decide, by decide⟩ (sf_X8_add_r39 (jr_of rfl (by omega)) (jr_of rfl (by omega)) (jr_of rfl (by omega)) (jr_of jk_0 (by omega)) (jr_of jk_0 (by omega)) (jr_of jk_0 (by omega)) hD J  (fun h J S96 => ?_))
                                have Sm := jSm_tr rfl Sm S96
                                show jX m_X11_together 8 0 0 102 [(0, .ref 31), (1, .int a1), (2, .int a2), (3, .int a3)] [] _ 0 0 _
                                refine x_aloadn (x := 31) rfl rfl ?_
                                refine x_aloadn (x := 31) rfl rfl ?_
                                refine z_getR (N := 13) (b := 32) 11 0 rfl f_11_10 rfl J rfl 3968 ⟨rfl, rfl⟩ rfl ?_
                                refine z_getR (N := 20) (b := 39) 1 3 rfl f_11_237 rfl J rfl 4099 ⟨rfl, rfl⟩ rfl ?_
                                refine z_getI (N := 4) 8 3 rfl f_11_142 rfl J rfl sg_39_3_4_1_0_1 (fun v97 qv97 ev97 => ?_)
                                refine x_inv (N := m_X11_accept) (As := [.int v97]) (b := 31) (st := []) (dx9 := 7) (mc := 0) (ms := 0) (host := "") 11 rfl t_X11_accept ⟨Or.inl q_11_165, i_X11_accept.1, i_X11_accept.2⟩ ⟨by decide, rfl⟩ (congrArg Prod.fst (J.1.1 31 (11, 13) rfl)) rfl (by decide) rfl rfl ⟨by decide, by decide⟩ (jC.of rfl k_X11_accept rfl ?_)
                                show jX m_X11_accept 7 0 0 0 [(0, .ref 31), (1, .int v97)] [] _ 0 0 _
                                refine x_aloadn (x := 31) rfl rfl ?_
                                refine x_iconst (v := 0) rfl ki_0 ?_
                                refine z_putI (N := 13) (w := 0) 11 12 rfl f_11_94 rfl (jfin_no TX11 RX11 13 rfl rfl) hD J Sm rfl rfl jk_0 (pw_31_12 (by omega)) rfl (fun h w98 J Sm => ?_)
                                refine x_aloadn (x := 31) rfl rfl ?_
                                refine z_getR (N := 13) (b := 32) 11 0 rfl f_11_10 rfl J rfl 3968 ⟨rfl, rfl⟩ rfl ?_
                                refine x_dup rfl rfl ?_
                                refine z_getI0 (N := 20) 1 19 rfl f_11_528 rfl J rfl (fun v99 qv99 => ?_)
                                have ev99 := jfull v99
                                refine x_iconst (v := 1) rfl ki_1 ?_
                                refine z_iadd0 rfl (fun v100 => ?_)
                                have ev100 := jfull v100
                                refine z_putI (N := 20) (w := v100.toInt) 1 19 rfl f_11_528 rfl (jfin_no TX1 RX1 20 rfl rfl) hD J Sm rfl rfl rfl (pw_32_19 trivial) rfl (fun h w101 J Sm => ?_)
                                refine x_iloadn (x := v97) rfl rfl ?_
                                refine x_iret rfl rfl ?_
                                show jX m_X11_together 8 0 0 116 [(0, .ref 31), (1, .int a1), (2, .int a2), (3, .int a3)] [.int v97] _ 0 0 _
                                refine x_iret rfl rfl ?_
                                exact hQ _ _ (jr_of rfl (by omega)) J Sm
                              ·
                                refine x_aloadn (x := 31) rfl rfl ?_
                                refine x_bipush (v := (-5)) rfl kb_m5 ?_
                                refine x_inv (N := m_X11_refuse) (As := [.int (-5)]) (b := 31) (st := []) (dx9 := 7) (mc := 0) (ms := 0) (host := "") 11 rfl t_X11_refuse ⟨Or.inl q_11_206, i_X11_refuse.1, i_X11_refuse.2⟩ ⟨by decide, rfl⟩ (congrArg Prod.fst (J.1.1 31 (11, 13) rfl)) rfl (by decide) rfl rfl ⟨by decide, by decide⟩ (jC.of rfl k_X11_refuse rfl ?_)
                                show jX m_X11_refuse 7 0 0 0 [(0, .ref 31), (1, .int (-5))] [] _ 0 0 _
                                refine x_aloadn (x := 31) rfl rfl ?_
                                refine x_iloadn (x := (-5)) rfl rfl ?_
                                refine z_putI (N := 13) (w := (-5)) 11 12 rfl f_11_94 rfl (jfin_no TX11 RX11 13 rfl rfl) hD J Sm rfl rfl jk_m5 (pw_31_12 (by omega)) rfl (fun h w102 J Sm => ?_)
                                refine x_iloadn (x := (-5)) rfl rfl ?_
                                refine x_iret rfl rfl ?_
                                show jX m_X11_together 8 0 0 85 [(0, .ref 31), (1, .int a1), (2, .int a2), (3, .int a3)] [.int (-5)] _ 0 0 _
                                refine x_iret rfl rfl ?_
                                exact hQ _ _ (jr_of jk_m5 (by omega)) J Sm
                            ·
                              refine x_aloadn (x := 31) rfl rfl ?_
                              refine x_bipush (v := (-4)) rfl kb_m4 ?_
                              refine x_inv (N := m_X11_refuse) (As := [.int (-4)]) (b := 31) (st := []) (dx9 := 7) (mc := 0) (ms := 0) (host := "") 11 rfl t_X11_refuse ⟨Or.inl q_11_206, i_X11_refuse.1, i_X11_refuse.2⟩ ⟨by decide, rfl⟩ (congrArg Prod.fst (J.1.1 31 (11, 13) rfl)) rfl (by decide) rfl rfl ⟨by decide, by decide⟩ (jC.of rfl k_X11_refuse rfl ?_)
                              show jX m_X11_refuse 7 0 0 0 [(0, .ref 31), (1, .int (-4))] [] _ 0 0 _
                              refine x_aloadn (x := 31) rfl rfl ?_
                              refine x_iloadn (x := (-4)) rfl rfl ?_
                              refine z_putI (N := 13) (w := (-4)) 11 12 rfl f_11_94 rfl (jfin_no TX11 RX11 13 rfl rfl) hD J Sm rfl rfl jk_m4 (pw_31_12 (by omega)) rfl (fun h w103 J Sm => ?_)
                              refine x_iloadn (x := (-4)) rfl rfl ?_
                              refine x_iret rfl rfl ?_
                              show jX m_X11_together 8 0 0 65 [(0, .ref 31), (1, .int a1), (2, .int a2), (3, .int a3)] [.int (-4)] _ 0 0 _
                              refine x_iret rfl rfl ?_
                              exact hQ _ _ (jr_of jk_m4 (by omega)) J Sm
  ·
    refine x_aloadn (x := 31) rfl rfl ?_
    refine x_iconst (v := (-1)) rfl ki_m1 ?_
    refine x_inv (N := m_X11_refuse) (As := [.int (-1)]) (b := 31) (st := []) (dx9 := 7) (mc := 0) (ms := 0) (host := "") 11 rfl t_X11_refuse ⟨Or.inl q_11_206, i_X11_refuse.1, i_X11_refuse.2⟩ ⟨by decide, rfl⟩ (congrArg Prod.fst (J.1.1 31 (11, 13) rfl)) rfl (by decide) rfl rfl ⟨by decide, by decide⟩ (jC.of rfl k_X11_refuse rfl ?_)
    show jX m_X11_refuse 7 0 0 0 [(0, .ref 31), (1, .int (-1))] [] _ 0 0 _
    refine x_aloadn (x := 31) rfl rfl ?_
    refine x_iloadn (x := (-1)) rfl rfl ?_
    refine z_putI (N := 13) (w := (-1)) 11 12 rfl f_11_94 rfl (jfin_no TX11 RX11 13 rfl rfl) hD J Sm rfl rfl jk_m1 (pw_31_12 (by omega)) rfl (fun h w104 J Sm => ?_)
    refine x_iloadn (x := (-1)) rfl rfl ?_
    refine x_iret rfl rfl ?_
    show jX m_X11_together 8 0 0 12 [(0, .ref 31), (1, .int a1), (2, .int a2), (3, .int a3)] [.int (-1)] _ 0 0 _
    refine x_iret rfl rfl ?_
    exact hQ _ _ (jr_of jk_m1 (by omega)) J Sm
def fp_X8_put_r41_c0 : jFp := [(42, 0, 80)]
set_option maxRecDepth 100000 in
set_option maxHeartbeats 4000000 in
theorem ct_X8_put_r41_c0_38 {Dy : jH → Prop} {h0 : jH} {Q : Option Value → jH → Prop} (hD : jDk Dy) (hQ : ∀ hx9, jJ jSgX Dy hx9 → jSm fp_X8_put_r41_c0 h0 hx9 → Q none hx9) : ∀ (h : jH), jJ jSgX Dy h → jSm fp_X8_put_r41_c0 h0 h → jX m_X8_put 1 0 0 38 [] [] h 0 0 Q := by
  intro  h    J Sm
  refine x_vret rfl rfl ?_
  exact hQ _ J Sm
set_option maxRecDepth 100000 in
set_option maxHeartbeats 4000000 in
theorem sf_X8_put_r41_c0 {Dy : jH → Prop} {h : jH} {Q : Option Value → jH → Prop} {a1 : Int32} {a3 : Int32} (y1 : 0 ≤ a1.toInt ∧ a1.toInt ≤ 19) (y3 : 0 ≤ a3.toInt ∧ a3.toInt ≤ 146399) (hD : jDk Dy) (J : jJ jSgX Dy h) (hQ : ∀ hx9, jJ jSgX Dy hx9 → jSm fp_X8_put_r41_c0 h hx9 → Q none hx9) : jC m_X8_put 1 0 0 [.ref 41, .int a1, .int 0, .int a3] h Q := by
  refine jC.of rfl k_X8_put rfl ?_
  have Sm := jSm_rf fp_X8_put_r41_c0 h
  show jX m_X8_put 1 0 0 0 [(0, .ref 41), (1, .int a1), (2, .int 0), (3, .int a3)] [] _ 0 0 _
  refine x_iloadn (x := a1) rfl rfl ?_
  refine x_iflt (tgt := 38) rfl rfl (ti_lt rfl jk_0 (br_f (by omega) ?_))
  refine x_iloadn (x := a1) rfl rfl ?_
  refine x_aloadn (x := 41) rfl rfl ?_
  refine z_getI (N := 4) 8 3 rfl f_8_7 rfl J rfl sg_41_3_4_1_0_1 (fun v1 qv1 ev1 => ?_)
  refine x_icge (tgt := 38) rfl rfl (ti_ge rfl rfl ⟨fun c2 => ?_, fun c2 => ?_⟩)
  ·
    exact jX.sub jsb_n (ct_X8_put_r41_c0_38 hD hQ  h J Sm)
  ·
    refine x_iloadn (x := 0) rfl rfl ?_
    refine x_iflt (tgt := 38) rfl rfl (ti_lt jk_0 jk_0 (br_f (by omega) ?_))
    refine x_iloadn (x := 0) rfl rfl ?_
    refine x_aloadn (x := 41) rfl rfl ?_
    refine z_getC (N := 4) (v := 4) 8 0 rfl f_8_19 rfl J rfl sg_41_0_1_1_0_1 jk_4 ?_
    refine x_icge (tgt := 38) rfl rfl (ti_ge jk_0 jk_4 (br_f (by omega) ?_))
    refine x_aloadn (x := 41) rfl rfl ?_
    refine z_getR (N := 4) (b := 42) 8 2 rfl f_8_25 rfl J rfl 5250 ⟨rfl, rfl⟩ rfl ?_
    refine x_iloadn (x := a1) rfl rfl ?_
    refine x_aloadn (x := 41) rfl rfl ?_
    refine z_getC (N := 4) (v := 4) 8 0 rfl f_8_19 rfl J rfl sg_41_0_1_1_0_1 jk_4 ?_
    refine z_imul rfl rfl jk_4 (by omega) (fun v3 ev3 => ?_)
    refine x_iloadn (x := 0) rfl rfl ?_
    refine z_iadd rfl rfl jk_0 (by omega) (fun v4 ev4 => ?_)
    refine x_iloadn (x := a3) rfl rfl ?_
    refine z_iast (N := 80) (l := 0) (u := 80) (w := a3.toInt) rfl hD J Sm rfl rfl rfl (by omega) rfl (wr_42 (fun q1 q2 q3 q4 => by omega) (fun q1 q2 q3 q4 => by omega) (fun q1 q2 q3 q4 => by omega) (fun q1 q2 q3 q4 => by omega)) rfl (fun h w5 J Sm => ?_)
    exact jX.sub jsb_n (ct_X8_put_r41_c0_38 hD hQ  h J Sm)
