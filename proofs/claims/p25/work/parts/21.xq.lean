def fp_X3_weighPairs_r87 : jFp := [(87, 12, 13), (89, 0, 81), (90, 0, 9)]
set_option maxRecDepth 100000 in
set_option maxHeartbeats 4000000 in
theorem ct_X3_weighPairs_r87_111 {Dy : jH → Prop} {h0 : jH} {Q : Option Value → jH → Prop} {R7 : Int} {R24 : Int} (hD : jDk Dy) (hQ : ∀ hx9, jJ jSgX Dy hx9 → jSm fp_X3_weighPairs_r87 h0 hx9 → Q none hx9) (k7 : ∀ (l1 : Int32) (g0 : Int32) (h : jH), 9 - l1.toInt < R7 → 0 ≤ l1.toInt ∧ l1.toInt ≤ 9 → jiv h 87 12 = g0 → jJ jSgX Dy h → jSm fp_X3_weighPairs_r87 h0 h → jX m_X3_weighPairs 6 0 0 7 [(0, .ref 87), (1, .int l1)] [] h 0 0 Q) (k24 : ∀ (l1 : Int32) (l2 : Int32) (g0 : Int32) (h : jH), 8 - l2.toInt < R24 → 0 ≤ l1.toInt ∧ l1.toInt ≤ 8 → 0 ≤ l2.toInt ∧ l2.toInt ≤ 8 → jiv h 87 12 = g0 → 9 - l1.toInt ≤ R7 → jJ jSgX Dy h → jSm fp_X3_weighPairs_r87 h0 h → jX m_X3_weighPairs 6 0 0 24 [(0, .ref 87), (1, .int l1), (2, .int l2)] [] h 0 0 Q) : ∀ (l1 : Int32) (l2 : Int32) (g0 : Int32) (h : jH), 1 ≤ l1.toInt ∧ l1.toInt ≤ 8 → 0 ≤ l2.toInt ∧ l2.toInt ≤ 7 → jiv h 87 12 = g0 → 9 - l1.toInt ≤ R7 → 8 - l2.toInt ≤ R24 → jJ jSgX Dy h → jSm fp_X3_weighPairs_r87 h0 h → jX m_X3_weighPairs 6 0 0 111 [(0, .ref 87), (1, .int l1), (2, .int l2)] [] h 0 0 Q := by
  intro l1 l2 g0 h y0 y1 z0 m7 m24 J Sm
  have eg0 := jfull g0
  refine z_iinc (x := l2) (lsx9 := fun v1 => [(2, .int v1), (0, .ref 87), (1, .int l1)]) rfl rfl rfl jko_1 (by omega) rfl (fun _ => rfl) (fun v1 ev1 => ?_)
  refine x_goto (tgt := 24) rfl rfl ?_
  exact jX.sub (jsb_c rfl (jsb_c rfl (jsb_c rfl jsb_n))) (k24 l1 v1 g0 h (by omega) (jr_of rfl (by omega)) (jr_of rfl (by omega)) z0 (by omega) J Sm)
set_option maxRecDepth 100000 in
set_option maxHeartbeats 4000000 in
theorem ct_X3_weighPairs_r87_24 {Dy : jH → Prop} {h0 : jH} {Q : Option Value → jH → Prop} {R7 : Int} (hD : jDk Dy) (hQ : ∀ hx9, jJ jSgX Dy hx9 → jSm fp_X3_weighPairs_r87 h0 hx9 → Q none hx9) (k7 : ∀ (l1 : Int32) (g0 : Int32) (h : jH), 9 - l1.toInt < R7 → 0 ≤ l1.toInt ∧ l1.toInt ≤ 9 → jiv h 87 12 = g0 → jJ jSgX Dy h → jSm fp_X3_weighPairs_r87 h0 h → jX m_X3_weighPairs 6 0 0 7 [(0, .ref 87), (1, .int l1)] [] h 0 0 Q) : ∀ r : Nat, ∀ (l1 : Int32) (l2 : Int32) (g0 : Int32) (h : jH), 8 - l2.toInt < (r : Int) → 0 ≤ l1.toInt ∧ l1.toInt ≤ 8 → 0 ≤ l2.toInt ∧ l2.toInt ≤ 8 → jiv h 87 12 = g0 → 9 - l1.toInt ≤ R7 → jJ jSgX Dy h → jSm fp_X3_weighPairs_r87 h0 h → jX m_X3_weighPairs 6 0 0 24 [(0, .ref 87), (1, .int l1), (2, .int l2)] [] h 0 0 Q := by
  intro r
  induction r with
  | zero =>
    intro l1 l2 g0 h hm y0 y1 z0 m7 J Sm
    exfalso
    have eg0 := jfull g0
    omega
  | succ r ih =>
    intro l1 l2 g0 h hm y0 y1 z0 m7 J Sm
    have eg0 := jfull g0
    refine x_iloadn (x := l2) rfl rfl ?_
    refine x_iloadn (x := l1) rfl rfl ?_
    refine x_icge (tgt := 117) rfl rfl (ti_ge rfl rfl ⟨fun c1 => ?_, fun c1 => ?_⟩)
    ·
      refine z_iinc (x := l1) (lsx9 := fun v2 => [(1, .int v2), (0, .ref 87), (2, .int l2)]) rfl rfl rfl jko_1 (by omega) rfl (fun _ => rfl) (fun v2 ev2 => ?_)
      refine x_goto (tgt := 7) rfl rfl ?_
      exact jX.sub (jsb_c rfl (jsb_c rfl jsb_n)) (k7 v2 g0 h (by omega) (jr_of rfl (by omega)) z0 J Sm)
    ·
      refine x_aloadn (x := 87) rfl rfl ?_
      refine z_getR (N := 14) (b := 78) 3 1 rfl f_3_53 rfl J rfl 11137 ⟨rfl, rfl⟩ rfl ?_
      refine x_aloadn (x := 87) rfl rfl ?_
      refine z_getR (N := 14) (b := 88) 3 2 rfl f_3_9 rfl J rfl 11138 ⟨rfl, rfl⟩ rfl ?_
      refine x_iloadn (x := l2) rfl rfl ?_
      refine z_iald (N := 9) rfl J rfl sg_88_0_9_1_0_1 rfl (by omega) (fun v3 qv3 ev3 => ?_)
      refine x_aloadn (x := 87) rfl rfl ?_
      refine z_getR (N := 14) (b := 88) 3 2 rfl f_3_9 rfl J rfl 11138 ⟨rfl, rfl⟩ rfl ?_
      refine x_iloadn (x := l1) rfl rfl ?_
      refine z_iald (N := 9) rfl J rfl sg_88_0_9_1_0_1 rfl (by omega) (fun v4 qv4 ev4 => ?_)
      refine x_inv (N := m_X7_worthOf) (As := [.int v3, .int v4]) (b := 78) (st := []) (dx9 := 5) (mc := 0) (ms := 0) (host := "") 7 rfl t_X7_worthOf ⟨Or.inl q_3_84, i_X7_worthOf.1, i_X7_worthOf.2⟩ ⟨by decide, rfl⟩ (congrArg Prod.fst (J.1.1 78 (7, 16) rfl)) rfl (by decide) rfl rfl ⟨by decide, by decide⟩ (sf_X7_worthOf_r78 (jr_of rfl (by omega)) (jr_of rfl (by omega)) hD J  (fun v6 h ev6 J S5 => ?_))
      have Sm := jSm_tr rfl Sm S5
      show jX m_X3_weighPairs 6 0 0 48 [(0, .ref 87), (1, .int l1), (2, .int l2)] [.int v6] _ 0 0 _
      refine x_istoren (lsx9 := [(3, .int v6), (0, .ref 87), (1, .int l1), (2, .int l2)]) rfl rfl rfl ?_
      refine x_aloadn (x := 87) rfl rfl ?_
      refine z_getR (N := 14) (b := 89) 3 4 rfl f_3_19 rfl J rfl 11140 ⟨rfl, rfl⟩ rfl ?_
      refine x_iloadn (x := l1) rfl rfl ?_
      refine x_bipush (v := 9) rfl kb_9 ?_
      refine z_imul rfl rfl jk_9 (by omega) (fun v7 ev7 => ?_)
      refine x_iloadn (x := l2) rfl rfl ?_
      refine z_iadd rfl rfl rfl (by omega) (fun v8 ev8 => ?_)
      refine x_iloadn (x := v6) rfl rfl ?_
      refine z_iast (N := 81) (l := 0) (u := 81) (w := v6.toInt) rfl hD J Sm rfl rfl rfl (by omega) rfl (wr_89 (fun q1 q2 q3 q4 => by omega)) rfl (fun h w9 J Sm => ?_)
      refine x_aloadn (x := 87) rfl rfl ?_
      refine x_dup rfl rfl ?_
      refine z_getM (N := 14) (v := g0) 3 12 rfl f_3_43 rfl J rfl (jmo w9 rfl (jmc S5 rfl z0)) ?_
      refine x_iconst (v := 0) rfl ki_0 ?_
      refine x_iloadn (x := v6) rfl rfl ?_
      refine z_mmax rfl q_3_88 (by decide) rfl jk_0 rfl (fun v10 ev10 => ?_)
      refine z_iadd0 rfl (fun v11 => ?_)
      have ev11 := jfull v11
      refine z_putI (N := 14) (w := v11.toInt) 3 12 rfl f_3_43 rfl (jfin_no TX3 RX3 14 rfl rfl) hD J Sm rfl rfl rfl (pw_87_12 trivial) rfl (fun h w12 J Sm => ?_)
      refine x_aloadn (x := 87) rfl rfl ?_
      refine z_getR (N := 14) (b := 78) 3 1 rfl f_3_53 rfl J rfl 11137 ⟨rfl, rfl⟩ rfl ?_
      refine x_aloadn (x := 87) rfl rfl ?_
      refine z_getR (N := 14) (b := 88) 3 2 rfl f_3_9 rfl J rfl 11138 ⟨rfl, rfl⟩ rfl ?_
      refine x_iloadn (x := l2) rfl rfl ?_
      refine z_ialdM (N := 9) (v := v3) rfl J rfl rfl (by omega) (jmo w12 rfl (jmo w9 rfl (jmc S5 rfl qv3))) ?_
      refine x_inv (N := m_X7_soulAt) (As := [.int v3]) (b := 78) (st := []) (dx9 := 5) (mc := 0) (ms := 0) (host := "") 7 rfl t_X7_soulAt ⟨Or.inl q_3_67, i_X7_soulAt.1, i_X7_soulAt.2⟩ ⟨by decide, rfl⟩ (congrArg Prod.fst (J.1.1 78 (7, 16) rfl)) rfl (by decide) rfl rfl ⟨by decide, by decide⟩ (jC.of rfl k_X7_soulAt rfl ?_)
      show jX m_X7_soulAt 5 0 0 0 [(0, .ref 78), (1, .int v3)] [] _ 0 0 _
      refine x_iloadn (x := v3) rfl rfl ?_
      refine x_iflt (tgt := 36) rfl rfl (ti_lt rfl jk_0 (br_f (by omega) ?_))
      refine x_iloadn (x := v3) rfl rfl ?_
      refine x_sipush (v := 600) rfl ks_600 ?_
      refine x_icge (tgt := 36) rfl rfl (ti_ge rfl jk_600 (br_f (by omega) ?_))
      refine x_iloadn (x := v3) rfl rfl ?_
      refine x_iconst (v := 3) rfl ki_3 ?_
      refine z_idiv rfl rfl jk_3 (by omega) (by omega) (fun v13 ev13 => ?_)
      refine x_aloadn (x := 78) rfl rfl ?_
      refine z_getR (N := 16) (b := 32) 7 0 rfl f_7_55 rfl J rfl 9984 ⟨rfl, rfl⟩ rfl ?_
      refine z_getR (N := 20) (b := 33) 1 0 rfl f_7_63 rfl J rfl 4096 ⟨rfl, rfl⟩ rfl ?_
      refine z_getI (N := 4) 8 3 rfl f_7_85 rfl J rfl sg_33_3_4_1_0_1 (fun v14 qv14 ev14 => ?_)
      refine x_icge (tgt := 36) rfl rfl (ti_ge rfl rfl ⟨fun c15 => ?_, fun c15 => ?_⟩)
      ·
        refine x_iconst (v := (-1)) rfl ki_m1 ?_
        refine x_iret rfl rfl ?_
        show jX m_X3_weighPairs 6 0 0 88 [(3, .int v6), (0, .ref 87), (1, .int l1), (2, .int l2)] [.int (-1)] _ 0 0 _
        refine x_aloadn (x := 87) rfl rfl ?_
        refine z_getR (N := 14) (b := 78) 3 1 rfl f_3_53 rfl J rfl 11137 ⟨rfl, rfl⟩ rfl ?_
        refine x_aloadn (x := 87) rfl rfl ?_
        refine z_getR (N := 14) (b := 88) 3 2 rfl f_3_9 rfl J rfl 11138 ⟨rfl, rfl⟩ rfl ?_
        refine x_iloadn (x := l1) rfl rfl ?_
        refine z_ialdM (N := 9) (v := v4) rfl J rfl rfl (by omega) (jmo w12 rfl (jmo w9 rfl (jmc S5 rfl qv4))) ?_
        refine x_inv (N := m_X7_soulAt) (As := [.int v4]) (b := 78) (st := [.int (-1)]) (dx9 := 5) (mc := 0) (ms := 0) (host := "") 7 rfl t_X7_soulAt ⟨Or.inl q_3_67, i_X7_soulAt.1, i_X7_soulAt.2⟩ ⟨by decide, rfl⟩ (congrArg Prod.fst (J.1.1 78 (7, 16) rfl)) rfl (by decide) rfl rfl ⟨by decide, by decide⟩ (jC.of rfl k_X7_soulAt rfl ?_)
        show jX m_X7_soulAt 5 0 0 0 [(0, .ref 78), (1, .int v4)] [] _ 0 0 _
        refine x_iloadn (x := v4) rfl rfl ?_
        refine x_iflt (tgt := 36) rfl rfl (ti_lt rfl jk_0 (br_f (by omega) ?_))
        refine x_iloadn (x := v4) rfl rfl ?_
        refine x_sipush (v := 600) rfl ks_600 ?_
        refine x_icge (tgt := 36) rfl rfl (ti_ge rfl jk_600 (br_f (by omega) ?_))
        refine x_iloadn (x := v4) rfl rfl ?_
        refine x_iconst (v := 3) rfl ki_3 ?_
        refine z_idiv rfl rfl jk_3 (by omega) (by omega) (fun v16 ev16 => ?_)
        refine x_aloadn (x := 78) rfl rfl ?_
        refine z_getR (N := 16) (b := 32) 7 0 rfl f_7_55 rfl J rfl 9984 ⟨rfl, rfl⟩ rfl ?_
        refine z_getR (N := 20) (b := 33) 1 0 rfl f_7_63 rfl J rfl 4096 ⟨rfl, rfl⟩ rfl ?_
        refine z_getM (N := 4) (v := v14) 8 3 rfl f_7_85 rfl J rfl qv14 ?_
        refine x_icge (tgt := 36) rfl rfl (ti_ge rfl rfl ⟨fun c17 => ?_, fun c17 => ?_⟩)
        ·
          refine x_iconst (v := (-1)) rfl ki_m1 ?_
          refine x_iret rfl rfl ?_
          show jX m_X3_weighPairs 6 0 0 101 [(3, .int v6), (0, .ref 87), (1, .int l1), (2, .int l2)] [.int (-1), .int (-1)] _ 0 0 _
          refine x_icne (tgt := 111) rfl rfl (ti_ne jk_m1 jk_m1 (bn_f (by omega) ?_))
          refine x_aloadn (x := 87) rfl rfl ?_
          refine z_getR (N := 14) (b := 90) 3 5 rfl f_3_22 rfl J rfl 11141 ⟨rfl, rfl⟩ rfl ?_
          refine x_iloadn (x := l1) rfl rfl ?_
          refine x_iloadn (x := l2) rfl rfl ?_
          refine z_iast (N := 9) (l := 0) (u := 9) (w := l2.toInt) rfl hD J Sm rfl rfl rfl (by omega) rfl (wr_90 (fun q1 q2 q3 q4 => by omega)) rfl (fun h w18 J Sm => ?_)
          exact jX.sub (jsb_c rfl (jsb_c rfl (jsb_c rfl jsb_n))) (ct_X3_weighPairs_r87_111 hD hQ k7 ih l1 l2 v11 h (jr_of rfl (by omega)) (jr_of rfl (by omega)) (jmo w18 rfl (jmw w12)) (by omega) (by omega) J Sm)
        ·
          refine x_aloadn (x := 78) rfl rfl ?_
          refine z_getR (N := 16) (b := 82) 7 10 rfl f_7_37 rfl J rfl 9994 ⟨rfl, rfl⟩ rfl ?_
          refine x_iloadn (x := v4) rfl rfl ?_
          refine z_iald (N := 600) rfl J rfl sg_82_0_600_1_0_1 rfl (by omega) (fun v19 qv19 ev19 => ?_)
          refine x_goto (tgt := 37) rfl rfl ?_
          refine x_iret rfl rfl ?_
          show jX m_X3_weighPairs 6 0 0 101 [(3, .int v6), (0, .ref 87), (1, .int l1), (2, .int l2)] [.int v19, .int (-1)] _ 0 0 _
          refine x_icne (tgt := 111) rfl rfl (ti_ne jk_m1 rfl ⟨fun c20 => ?_, fun c20 => ?_⟩)
          ·
            exact jX.sub (jsb_c rfl (jsb_c rfl (jsb_c rfl jsb_n))) (ct_X3_weighPairs_r87_111 hD hQ k7 ih l1 l2 v11 h (jr_of rfl (by omega)) (jr_of rfl (by omega)) (jmw w12) (by omega) (by omega) J Sm)
          ·
            refine x_aloadn (x := 87) rfl rfl ?_
            refine z_getR (N := 14) (b := 90) 3 5 rfl f_3_22 rfl J rfl 11141 ⟨rfl, rfl⟩ rfl ?_
            refine x_iloadn (x := l1) rfl rfl ?_
            refine x_iloadn (x := l2) rfl rfl ?_
            refine z_iast (N := 9) (l := 0) (u := 9) (w := l2.toInt) rfl hD J Sm rfl rfl rfl (by omega) rfl (wr_90 (fun q1 q2 q3 q4 => by omega)) rfl (fun h w21 J Sm => ?_)
            exact jX.sub (jsb_c rfl (jsb_c rfl (jsb_c rfl jsb_n))) (ct_X3_weighPairs_r87_111 hD hQ k7 ih l1 l2 v11 h (jr_of rfl (by omega)) (jr_of rfl (by omega)) (jmo w21 rfl (jmw w12)) (by omega) (by omega) J Sm)
      ·
        refine x_aloadn (x := 78) rfl rfl ?_
        refine z_getR (N := 16) (b := 82) 7 10 rfl f_7_37 rfl J rfl 9994 ⟨rfl, rfl⟩ rfl ?_
        refine x_iloadn (x := v3) rfl rfl ?_
        refine z_iald (N := 600) rfl J rfl sg_82_0_600_1_0_1 rfl (by omega) (fun v22 qv22 ev22 => ?_)
        refine x_goto (tgt := 37) rfl rfl ?_
        refine x_iret rfl rfl ?_
        show jX m_X3_weighPairs 6 0 0 88 [(3, .int v6), (0, .ref 87), (1, .int l1), (2, .int l2)] [.int v22] _ 0 0 _
        refine x_aloadn (x := 87) rfl rfl ?_
        refine z_getR (N := 14) (b := 78) 3 1 rfl f_3_53 rfl J rfl 11137 ⟨rfl, rfl⟩ rfl ?_
        refine x_aloadn (x := 87) rfl rfl ?_
        refine z_getR (N := 14) (b := 88) 3 2 rfl f_3_9 rfl J rfl 11138 ⟨rfl, rfl⟩ rfl ?_
        refine x_iloadn (x := l1) rfl rfl ?_
        refine z_ialdM (N := 9) (v := v4) rfl J rfl rfl (by omega) (jmo w12 rfl (jmo w9 rfl (jmc S5 rfl qv4))) ?_
        refine x_inv (N := m_X7_soulAt) (As := [.int v4]) (b := 78) (st := [.int v22]) (dx9 := 5) (mc := 0) (ms := 0) (host := "") 7 rfl t_X7_soulAt ⟨Or.inl q_3_67, i_X7_soulAt.1, i_X7_soulAt.2⟩ ⟨by decide, rfl⟩ (congrArg Prod.fst (J.1.1 78 (7, 16) rfl)) rfl (by decide) rfl rfl ⟨by decide, by decide⟩ (jC.of rfl k_X7_soulAt rfl ?_)
        show jX m_X7_soulAt 5 0 0 0 [(0, .ref 78), (1, .int v4)] [] _ 0 0 _
        refine x_iloadn (x := v4) rfl rfl ?_
        refine x_iflt (tgt := 36) rfl rfl (ti_lt rfl jk_0 (br_f (by omega) ?_))
        refine x_iloadn (x := v4) rfl rfl ?_
        refine x_sipush (v := 600) rfl ks_600 ?_
        refine x_icge (tgt := 36) rfl rfl (ti_ge rfl jk_600 (br_f (by omega) ?_))
        refine x_iloadn (x := v4) rfl rfl ?_
        refine x_iconst (v := 3) rfl ki_3 ?_
        refine z_idiv rfl rfl jk_3 (by omega) (by omega) (fun v23 ev23 => ?_)
        refine x_aloadn (x := 78) rfl rfl ?_
        refine z_getR (N := 16) (b := 32) 7 0 rfl f_7_55 rfl J rfl 9984 ⟨rfl, rfl⟩ rfl ?_
        refine z_getR (N := 20) (b := 33) 1 0 rfl f_7_63 rfl J rfl 4096 ⟨rfl, rfl⟩ rfl ?_
        refine z_getM (N := 4) (v := v14) 8 3 rfl f_7_85 rfl J rfl qv14 ?_
        refine x_icge (tgt := 36) rfl rfl (ti_ge rfl rfl ⟨fun c24 => ?_, fun c24 => ?_⟩)
        ·
          refine x_iconst (v := (-1)) rfl ki_m1 ?_
          refine x_iret rfl rfl ?_
          show jX m_X3_weighPairs 6 0 0 101 [(3, .int v6), (0, .ref 87), (1, .int l1), (2, .int l2)] [.int (-1), .int v22] _ 0 0 _
          refine x_icne (tgt := 111) rfl rfl (ti_ne rfl jk_m1 ⟨fun c25 => ?_, fun c25 => ?_⟩)
          ·
            exact jX.sub (jsb_c rfl (jsb_c rfl (jsb_c rfl jsb_n))) (ct_X3_weighPairs_r87_111 hD hQ k7 ih l1 l2 v11 h (jr_of rfl (by omega)) (jr_of rfl (by omega)) (jmw w12) (by omega) (by omega) J Sm)
          ·
            refine x_aloadn (x := 87) rfl rfl ?_
            refine z_getR (N := 14) (b := 90) 3 5 rfl f_3_22 rfl J rfl 11141 ⟨rfl, rfl⟩ rfl ?_
            refine x_iloadn (x := l1) rfl rfl ?_
            refine x_iloadn (x := l2) rfl rfl ?_
            refine z_iast (N := 9) (l := 0) (u := 9) (w := l2.toInt) rfl hD J Sm rfl rfl rfl (by omega) rfl (wr_90 (fun q1 q2 q3 q4 => by omega)) rfl (fun h w26 J Sm => ?_)
            exact jX.sub (jsb_c rfl (jsb_c rfl (jsb_c rfl jsb_n))) (ct_X3_weighPairs_r87_111 hD hQ k7 ih l1 l2 v11 h (jr_of rfl (by omega)) (jr_of rfl (by omega)) (jmo w26 rfl (jmw w12)) (by omega) (by omega) J Sm)
        ·
          refine x_aloadn (x := 78) rfl rfl ?_
          refine z_getR (N := 16) (b := 82) 7 10 rfl f_7_37 rfl J rfl 9994 ⟨rfl, rfl⟩ rfl ?_
          refine x_iloadn (x := v4) rfl rfl ?_
          refine z_iald (N := 600) rfl J rfl sg_82_0_600_1_0_1 rfl (by omega) (fun v27 qv27 ev27 => ?_)
          refine x_goto (tgt := 37) rfl rfl ?_
          refine x_iret rfl rfl ?_
          show jX m_X3_weighPairs 6 0 0 101 [(3, .int v6), (0, .ref 87), (1, .int l1), (2, .int l2)] [.int v27, .int v22] _ 0 0 _
          refine x_icne (tgt := 111) rfl rfl (ti_ne rfl rfl ⟨fun c28 => ?_, fun c28 => ?_⟩)
          ·
            exact jX.sub (jsb_c rfl (jsb_c rfl (jsb_c rfl jsb_n))) (ct_X3_weighPairs_r87_111 hD hQ k7 ih l1 l2 v11 h (jr_of rfl (by omega)) (jr_of rfl (by omega)) (jmw w12) (by omega) (by omega) J Sm)
          ·
            refine x_aloadn (x := 87) rfl rfl ?_
            refine z_getR (N := 14) (b := 90) 3 5 rfl f_3_22 rfl J rfl 11141 ⟨rfl, rfl⟩ rfl ?_
            refine x_iloadn (x := l1) rfl rfl ?_
            refine x_iloadn (x := l2) rfl rfl ?_
            refine z_iast (N := 9) (l := 0) (u := 9) (w := l2.toInt) rfl hD J Sm rfl rfl rfl (by omega) rfl (wr_90 (fun q1 q2 q3 q4 => by omega)) rfl (fun h w29 J Sm => ?_)
            exact jX.sub (jsb_c rfl (jsb_c rfl (jsb_c rfl jsb_n))) (ct_X3_weighPairs_r87_111 hD hQ k7 ih l1 l2 v11 h (jr_of rfl (by omega)) (jr_of rfl (by omega)) (jmo w29 rfl (jmw w12)) (by omega) (by omega) J Sm)
set_option maxRecDepth 100000 in
set_option maxHeartbeats 4000000 in
theorem ct_X3_weighPairs_r87_7 {Dy : jH → Prop} {h0 : jH} {Q : Option Value → jH → Prop} (hD : jDk Dy) (hQ : ∀ hx9, jJ jSgX Dy hx9 → jSm fp_X3_weighPairs_r87 h0 hx9 → Q none hx9) : ∀ r : Nat, ∀ (l1 : Int32) (g0 : Int32) (h : jH), 9 - l1.toInt < (r : Int) → 0 ≤ l1.toInt ∧ l1.toInt ≤ 9 → jiv h 87 12 = g0 → jJ jSgX Dy h → jSm fp_X3_weighPairs_r87 h0 h → jX m_X3_weighPairs 6 0 0 7 [(0, .ref 87), (1, .int l1)] [] h 0 0 Q := by
  intro r
  induction r with
  | zero =>
    intro l1 g0 h hm y0 z0  J Sm
    exfalso
    have eg0 := jfull g0
    omega
  | succ r ih =>
    intro l1 g0 h hm y0 z0  J Sm
    have eg0 := jfull g0
    refine x_iloadn (x := l1) rfl rfl ?_
    refine x_aloadn (x := 87) rfl rfl ?_
    refine z_getI (N := 14) 3 3 rfl f_3_15 rfl J rfl sg_87_3_4_1_0_1 (fun v1 qv1 ev1 => ?_)
    refine x_icge (tgt := 123) rfl rfl (ti_ge rfl rfl ⟨fun c2 => ?_, fun c2 => ?_⟩)
    ·
      refine x_vret rfl rfl ?_
      exact hQ _ J Sm
    ·
      refine x_aloadn (x := 87) rfl rfl ?_
      refine z_getR (N := 14) (b := 90) 3 5 rfl f_3_22 rfl J rfl 11141 ⟨rfl, rfl⟩ rfl ?_
      refine x_iloadn (x := l1) rfl rfl ?_
      refine x_iconst (v := (-1)) rfl ki_m1 ?_
      refine z_iast (N := 9) (l := 0) (u := 9) (w := (-1)) rfl hD J Sm rfl rfl rfl (by omega) jk_m1 (wr_90 (fun q1 q2 q3 q4 => by omega)) rfl (fun h w3 J Sm => ?_)
      refine x_iconst (v := 0) rfl ki_0 ?_
      refine x_istoren (lsx9 := [(2, .int 0), (0, .ref 87), (1, .int l1)]) rfl rfl rfl ?_
      exact jX.sub (jsb_c rfl (jsb_c rfl (jsb_c rfl jsb_n))) (ct_X3_weighPairs_r87_24 hD hQ ih 9 l1 0 g0 h (by have := jk_0; omega) (jr_of rfl (by omega)) (jr_of jk_0 (by omega)) (jmo w3 rfl z0) (by omega) J Sm)
set_option maxRecDepth 100000 in
set_option maxHeartbeats 4000000 in
theorem sf_X3_weighPairs_r87 {Dy : jH → Prop} {h : jH} {Q : Option Value → jH → Prop} (hD : jDk Dy) (J : jJ jSgX Dy h) (hQ : ∀ hx9, jJ jSgX Dy hx9 → jSm fp_X3_weighPairs_r87 h hx9 → Q none hx9) : jC m_X3_weighPairs 6 0 0 [.ref 87] h Q := by
  refine jC.of rfl k_X3_weighPairs rfl ?_
  have Sm := jSm_rf fp_X3_weighPairs_r87 h
  show jX m_X3_weighPairs 6 0 0 0 [(0, .ref 87)] [] _ 0 0 _
  refine x_aloadn (x := 87) rfl rfl ?_
  refine x_iconst (v := 0) rfl ki_0 ?_
  refine z_putI (N := 14) (w := 0) 3 12 rfl f_3_43 rfl (jfin_no TX3 RX3 14 rfl rfl) hD J Sm rfl rfl jk_0 (pw_87_12 trivial) rfl (fun h w1 J Sm => ?_)
  refine x_iconst (v := 0) rfl ki_0 ?_
  refine x_istoren (lsx9 := [(1, .int 0), (0, .ref 87)]) rfl rfl rfl ?_
  exact jX.sub (jsb_c rfl (jsb_c rfl jsb_n)) (ct_X3_weighPairs_r87_7 hD hQ  10 0 0 h (by have := jk_0; omega) (jr_of jk_0 (by omega)) (jmw w1) J Sm)
def fp_X3_settle_r87 : jFp := [(87, 10, 11), (87, 11, 12), (87, 12, 13), (87, 13, 14), (89, 0, 81), (90, 0, 9), (91, 0, 9), (92, 0, 9), (93, 0, 90), (94, 0, 14401)]
set_option maxRecDepth 100000 in
set_option maxHeartbeats 4000000 in
theorem ct_X3_settle_r87_62 {Dy : jH → Prop} {h0 : jH} {Q : Option Value → jH → Prop} (hD : jDk Dy) (hQ : ∀ hx9, jJ jSgX Dy hx9 → jSm fp_X3_settle_r87 h0 hx9 → Q none hx9) : ∀ (h : jH), jJ jSgX Dy h → jSm fp_X3_settle_r87 h0 h → jX m_X3_settle 13 0 0 62 [(0, .ref 87)] [] h 0 0 Q := by
  intro  h    J Sm
  refine x_aloadn (x := 87) rfl rfl ?_
  refine x_iconst (v := (-1)) rfl ki_m1 ?_
  refine z_putI (N := 14) (w := (-1)) 3 10 rfl f_3_37 rfl (jfin_no TX3 RX3 14 rfl rfl) hD J Sm rfl rfl jk_m1 (pw_87_10 (by omega)) rfl (fun h w1 J Sm => ?_)
  refine x_aloadn (x := 87) rfl rfl ?_
  refine x_iconst (v := 0) rfl ki_0 ?_
  refine z_putI (N := 14) (w := 0) 3 11 rfl f_3_40 rfl (jfin_no TX3 RX3 14 rfl rfl) hD J Sm rfl rfl jk_0 (pw_87_11 (by omega)) rfl (fun h w2 J Sm => ?_)
  refine x_aloadn (x := 87) rfl rfl ?_
  refine x_iconst (v := 0) rfl ki_0 ?_
  refine x_iconst (v := 0) rfl ki_0 ?_
  refine x_iconst (v := 0) rfl ki_0 ?_
  refine x_inv (N := m_X3_place) (As := [.int 0, .int 0, .int 0]) (b := 87) (st := []) (dx9 := 12) (mc := 0) (ms := 0) (host := "") 3 rfl t_X3_place ⟨Or.inl q_3_80, i_X3_place.1, i_X3_place.2⟩ ⟨by decide, rfl⟩ (congrArg Prod.fst (J.1.1 87 (3, 14) rfl)) rfl (by decide) rfl rfl ⟨by decide, by decide⟩ (sf_X3_place_r87_c0 (jr_of jk_0 (by omega)) (jr_of jk_0 (by omega)) hD J  (fun h J S3 => ?_))
  have Sm := jSm_tr rfl Sm S3
  show jX m_X3_settle 13 0 0 79 [(0, .ref 87)] [] _ 0 0 _
  refine x_vret rfl rfl ?_
  exact hQ _ J Sm
set_option maxRecDepth 100000 in
set_option maxHeartbeats 4000000 in
theorem ct_X3_settle_r87_32 {Dy : jH → Prop} {h0 : jH} {Q : Option Value → jH → Prop} (hD : jDk Dy) (hQ : ∀ hx9, jJ jSgX Dy hx9 → jSm fp_X3_settle_r87 h0 hx9 → Q none hx9) : ∀ r : Nat, ∀ (l1 : Int32) (h : jH), 14401 - l1.toInt < (r : Int) → 0 ≤ l1.toInt ∧ l1.toInt ≤ 14401 → jJ jSgX Dy h → jSm fp_X3_settle_r87 h0 h → jX m_X3_settle 13 0 0 32 [(0, .ref 87), (1, .int l1)] [] h 0 0 Q := by
  intro r
  induction r with
  | zero =>
    intro l1 h hm y0   J Sm
    exfalso
    omega
  | succ r ih =>
    intro l1 h hm y0   J Sm
    refine x_iloadn (x := l1) rfl rfl ?_
    refine x_aloadn (x := 87) rfl rfl ?_
    refine z_getI0 (N := 14) 3 12 rfl f_3_43 rfl J rfl (fun v1 qv1 => ?_)
    have ev1 := jfull v1
    refine x_icgt (tgt := 62) rfl rfl (ti_gt rfl rfl ⟨fun c2 => ?_, fun c2 => ?_⟩)
    ·
      exact jX.sub (jsb_c rfl jsb_n) (ct_X3_settle_r87_62 hD hQ  h J Sm)
    ·
      refine x_iloadn (x := l1) rfl rfl ?_
      refine x_aloadn (x := 87) rfl rfl ?_
      refine z_getR (N := 14) (b := 94) 3 9 rfl f_3_34 rfl J rfl 11145 ⟨rfl, rfl⟩ rfl ?_
      refine z_alen (N := 14401) (v := 14401) rfl J rfl rfl (by decide) ?_
      refine x_icge (tgt := 62) rfl rfl (ti_ge rfl jk_14401 ⟨fun c3 => ?_, fun c3 => ?_⟩)
      ·
        exact jX.sub (jsb_c rfl jsb_n) (ct_X3_settle_r87_62 hD hQ  h J Sm)
      ·
        refine x_aloadn (x := 87) rfl rfl ?_
        refine z_getR (N := 14) (b := 94) 3 9 rfl f_3_34 rfl J rfl 11145 ⟨rfl, rfl⟩ rfl ?_
        refine x_iloadn (x := l1) rfl rfl ?_
        refine x_iconst (v := 0) rfl ki_0 ?_
        refine z_iast (N := 14401) (l := 0) (u := 14401) (w := 0) rfl hD J Sm rfl rfl rfl (by omega) jk_0 (wr_94) rfl (fun h w4 J Sm => ?_)
        refine z_iinc (x := l1) (lsx9 := fun v5 => [(1, .int v5), (0, .ref 87)]) rfl rfl rfl jko_1 (by omega) rfl (fun _ => rfl) (fun v5 ev5 => ?_)
        refine x_goto (tgt := 32) rfl rfl ?_
        exact jX.sub (jsb_c rfl (jsb_c rfl jsb_n)) (ih v5 h (by omega) (jr_of rfl (by omega)) J Sm)
set_option maxRecDepth 100000 in
set_option maxHeartbeats 4000000 in
theorem sf_X3_settle_r87 {Dy : jH → Prop} {h : jH} {Q : Option Value → jH → Prop} (hD : jDk Dy) (J : jJ jSgX Dy h) (hQ : ∀ hx9, jJ jSgX Dy hx9 → jSm fp_X3_settle_r87 h hx9 → Q none hx9) : jC m_X3_settle 13 0 0 [.ref 87] h Q := by
  refine jC.of rfl k_X3_settle rfl ?_
  have Sm := jSm_rf fp_X3_settle_r87 h
  show jX m_X3_settle 13 0 0 0 [(0, .ref 87)] [] _ 0 0 _
  refine x_aloadn (x := 87) rfl rfl ?_
  refine z_getI0 (N := 14) 3 13 rfl f_3_46 rfl J rfl (fun v1 qv1 => ?_)
  have ev1 := jfull v1
  refine x_aloadn (x := 87) rfl rfl ?_
  refine z_getR (N := 14) (b := 32) 3 0 rfl f_3_49 rfl J rfl 11136 ⟨rfl, rfl⟩ rfl ?_
  refine z_getI0 (N := 20) 1 19 rfl f_3_72 rfl J rfl (fun v2 qv2 => ?_)
  have ev2 := jfull v2
  refine x_icne (tgt := 15) rfl rfl (ti_ne rfl rfl ⟨fun c3 => ?_, fun c3 => ?_⟩)
  ·
    refine x_aloadn (x := 87) rfl rfl ?_
    refine x_aloadn (x := 87) rfl rfl ?_
    refine z_getR (N := 14) (b := 32) 3 0 rfl f_3_49 rfl J rfl 11136 ⟨rfl, rfl⟩ rfl ?_
    refine z_getM (N := 20) (v := v2) 1 19 rfl f_3_72 rfl J rfl qv2 ?_
    refine z_putI (N := 14) (w := v2.toInt) 3 13 rfl f_3_46 rfl (jfin_no TX3 RX3 14 rfl rfl) hD J Sm rfl rfl rfl (pw_87_13 trivial) rfl (fun h w4 J Sm => ?_)
    refine x_aloadn (x := 87) rfl rfl ?_
    refine x_inv (N := m_X3_weighPairs) (As := []) (b := 87) (st := []) (dx9 := 6) (mc := 0) (ms := 0) (host := "") 3 rfl t_X3_weighPairs ⟨Or.inl q_3_77, i_X3_weighPairs.1, i_X3_weighPairs.2⟩ ⟨by decide, rfl⟩ (congrArg Prod.fst (J.1.1 87 (3, 14) rfl)) rfl (by decide) rfl rfl ⟨by decide, by decide⟩ (sf_X3_weighPairs_r87  hD J  (fun h J S5 => ?_))
    have Sm := jSm_tr rfl Sm S5
    show jX m_X3_settle 13 0 0 30 [(0, .ref 87)] [] _ 0 0 _
    refine x_iconst (v := 0) rfl ki_0 ?_
    refine x_istoren (lsx9 := [(1, .int 0), (0, .ref 87)]) rfl rfl rfl ?_
    exact jX.sub (jsb_c rfl (jsb_c rfl jsb_n)) (ct_X3_settle_r87_32 hD hQ  14402 0 h (by have := jk_0; omega) (jr_of jk_0 (by omega)) J Sm)
  ·
    refine x_vret rfl rfl ?_
    exact hQ _ J Sm
def fp_X11_best_r31 : jFp := [(78, 13, 14), (82, 0, 600), (83, 0, 600), (84, 0, 200), (86, 0, 3), (87, 10, 11), (87, 11, 12), (87, 12, 13), (87, 13, 14), (89, 0, 81), (90, 0, 9), (91, 0, 9), (92, 0, 9), (93, 0, 90), (94, 0, 14401)]
set_option maxRecDepth 100000 in
set_option maxHeartbeats 4000000 in
theorem ct_X11_best_r31_25 {Dy : jH → Prop} {h0 : jH} {Q : Option Value → jH → Prop} (hD : jDk Dy) (hQ : ∀ (v : Int32) hx9, jJ jSgX Dy hx9 → jSm fp_X11_best_r31 h0 hx9 → Q (some (.int v)) hx9) : ∀ (h : jH), jJ jSgX Dy h → jSm fp_X11_best_r31 h0 h → jX m_X11_best 14 0 0 25 [] [] h 0 0 Q := by
  intro  h    J Sm
  refine x_iconst (v := (-1)) rfl ki_m1 ?_
  refine x_iret rfl rfl ?_
  exact hQ _ _ J Sm
set_option maxRecDepth 100000 in
set_option maxHeartbeats 4000000 in
theorem ct_X11_best_r31_27 {Dy : jH → Prop} {h0 : jH} {Q : Option Value → jH → Prop} (hD : jDk Dy) (hQ : ∀ (v : Int32) hx9, jJ jSgX Dy hx9 → jSm fp_X11_best_r31 h0 hx9 → Q (some (.int v)) hx9) : ∀ (l1 : Int32) (l2 : Int32) (h : jH), 0 ≤ l1.toInt ∧ l1.toInt ≤ 3 → jJ jSgX Dy h → jSm fp_X11_best_r31 h0 h → jX m_X11_best 14 0 0 27 [(0, .ref 31), (1, .int l1), (2, .int l2)] [] h 0 0 Q := by
  intro l1 l2 h y0   J Sm
  have el2 := jfull l2
  refine x_aloadn (x := 31) rfl rfl ?_
  refine z_getR (N := 13) (b := 78) 11 4 rfl f_11_41 rfl J rfl 3972 ⟨rfl, rfl⟩ rfl ?_
  refine x_ldc (v := 146399) rfl z_11_233 ?_
  refine x_inv (N := m_X7_asKnown) (As := [.int 146399]) (b := 78) (st := []) (dx9 := 6) (mc := 0) (ms := 0) (host := "") 7 rfl t_X7_asKnown ⟨Or.inl q_11_240, i_X7_asKnown.1, i_X7_asKnown.2⟩ ⟨by decide, rfl⟩ (congrArg Prod.fst (J.1.1 78 (7, 16) rfl)) rfl (by decide) rfl rfl ⟨by decide, by decide⟩ (sf_X7_asKnown_r78 (jr_of jk_146399 (by omega)) hD J  (fun h J S1 => ?_))
  have Sm := jSm_tr rfl Sm S1
  show jX m_X11_best 14 0 0 36 [(0, .ref 31), (1, .int l1), (2, .int l2)] [] _ 0 0 _
  refine x_aloadn (x := 31) rfl rfl ?_
  refine z_getR (N := 13) (b := 87) 11 5 rfl f_11_50 rfl J rfl 3973 ⟨rfl, rfl⟩ rfl ?_
  refine x_inv (N := m_X3_settle) (As := []) (b := 87) (st := []) (dx9 := 13) (mc := 0) (ms := 0) (host := "") 3 rfl t_X3_settle ⟨Or.inl q_11_282, i_X3_settle.1, i_X3_settle.2⟩ ⟨by decide, rfl⟩ (congrArg Prod.fst (J.1.1 87 (3, 14) rfl)) rfl (by decide) rfl rfl ⟨by decide, by decide⟩ (sf_X3_settle_r87  hD J  (fun h J S2 => ?_))
  have Sm := jSm_tr rfl Sm S2
  show jX m_X11_best 14 0 0 43 [(0, .ref 31), (1, .int l1), (2, .int l2)] [] _ 0 0 _
  refine x_iloadn (x := l1) rfl rfl ?_
  by_cases c3 : l1.toInt = 0
  ·
    refine x_tableIn (tgt := 72) 0 rfl c3 (by decide) (by decide) rfl rfl ?_
    refine x_aloadn (x := 31) rfl rfl ?_
    refine z_getR (N := 13) (b := 87) 11 5 rfl f_11_50 rfl J rfl 3973 ⟨rfl, rfl⟩ rfl ?_
    refine z_getI (N := 14) 3 10 rfl f_11_285 rfl J rfl sg_87_10_11_1_0_1 (fun v4 qv4 ev4 => ?_)
    refine x_iret rfl rfl ?_
    exact hQ _ _ J Sm
  by_cases c5 : l1.toInt = 1
  ·
    refine x_tableIn (tgt := 80) 1 rfl c5 (by decide) (by decide) rfl rfl ?_
    refine x_aloadn (x := 31) rfl rfl ?_
    refine z_getR (N := 13) (b := 87) 11 5 rfl f_11_50 rfl J rfl 3973 ⟨rfl, rfl⟩ rfl ?_
    refine z_getI (N := 14) 3 11 rfl f_11_288 rfl J rfl sg_87_11_12_1_0_1 (fun v6 qv6 ev6 => ?_)
    refine x_iret rfl rfl ?_
    exact hQ _ _ J Sm
  by_cases c7 : l1.toInt = 2
  ·
    refine x_tableIn (tgt := 88) 2 rfl c7 (by decide) (by decide) rfl rfl ?_
    refine x_aloadn (x := 31) rfl rfl ?_
    refine z_getR (N := 13) (b := 87) 11 5 rfl f_11_50 rfl J rfl 3973 ⟨rfl, rfl⟩ rfl ?_
    refine z_getI0 (N := 14) 3 12 rfl f_11_291 rfl J rfl (fun v8 qv8 => ?_)
    have ev8 := jfull v8
    refine x_iret rfl rfl ?_
    exact hQ _ _ J Sm
  refine x_tableOut (tgt := 96) rfl (by omega) rfl ?_
  refine x_aloadn (x := 31) rfl rfl ?_
  refine z_getR (N := 13) (b := 87) 11 5 rfl f_11_50 rfl J rfl 3973 ⟨rfl, rfl⟩ rfl ?_
  refine x_iloadn (x := l2) rfl rfl ?_
  refine x_inv (N := m_X3_rivalsWithin) (As := [.int l2]) (b := 87) (st := []) (dx9 := 1) (mc := 0) (ms := 0) (host := "") 3 rfl t_X3_rivalsWithin ⟨Or.inl q_11_294, i_X3_rivalsWithin.1, i_X3_rivalsWithin.2⟩ ⟨by decide, rfl⟩ (congrArg Prod.fst (J.1.1 87 (3, 14) rfl)) rfl (by decide) rfl rfl ⟨by decide, by decide⟩ (sf_X3_rivalsWithin_r87  hD J  (fun v10 h J S9 => ?_))
  have ev10 := jfull v10
  have Sm := jSm_tr rfl Sm S9
  show jX m_X11_best 14 0 0 104 [(0, .ref 31), (1, .int l1), (2, .int l2)] [.int v10] _ 0 0 _
  refine x_iret rfl rfl ?_
  exact hQ _ _ J Sm
set_option maxRecDepth 100000 in
set_option maxHeartbeats 4000000 in
theorem sf_X11_best_r31 {Dy : jH → Prop} {h : jH} {Q : Option Value → jH → Prop} {a1 : Int32} {a2 : Int32} (hD : jDk Dy) (J : jJ jSgX Dy h) (hQ : ∀ (v : Int32) hx9, jJ jSgX Dy hx9 → jSm fp_X11_best_r31 h hx9 → Q (some (.int v)) hx9) : jC m_X11_best 14 0 0 [.ref 31, .int a1, .int a2] h Q := by
  refine jC.of rfl k_X11_best rfl ?_
  have Sm := jSm_rf fp_X11_best_r31 h
  have ea1 := jfull a1
  have ea2 := jfull a2
  show jX m_X11_best 14 0 0 0 [(0, .ref 31), (1, .int a1), (2, .int a2)] [] _ 0 0 _
  refine x_iloadn (x := a1) rfl rfl ?_
  refine x_iflt (tgt := 25) rfl rfl (ti_lt rfl jk_0 ⟨fun c1 => ?_, fun c1 => ?_⟩)
  ·
    exact jX.sub jsb_n (ct_X11_best_r31_25 hD hQ  h J Sm)
  ·
    refine x_iloadn (x := a1) rfl rfl ?_
    refine x_iconst (v := 3) rfl ki_3 ?_
    refine x_icgt (tgt := 25) rfl rfl (ti_gt rfl jk_3 ⟨fun c2 => ?_, fun c2 => ?_⟩)
    ·
      exact jX.sub jsb_n (ct_X11_best_r31_25 hD hQ  h J Sm)
    ·
      refine x_iloadn (x := a1) rfl rfl ?_
      refine x_iconst (v := 3) rfl ki_3 ?_
      refine x_icne (tgt := 27) rfl rfl (ti_ne rfl jk_3 ⟨fun c3 => ?_, fun c3 => ?_⟩)
      ·
        exact jX.sub (jsb_c rfl (jsb_c rfl (jsb_c rfl jsb_n))) (ct_X11_best_r31_27 hD hQ  a1 a2 h (jr_of rfl (by omega)) J Sm)
      ·
        refine x_iloadn (x := a2) rfl rfl ?_
        refine x_iflt (tgt := 25) rfl rfl (ti_lt rfl jk_0 ⟨fun c4 => ?_, fun c4 => ?_⟩)
        ·
          exact jX.sub jsb_n (ct_X11_best_r31_25 hD hQ  h J Sm)
        ·
          refine x_iloadn (x := a2) rfl rfl ?_
          refine x_sipush (v := 1000) rfl ks_1000 ?_
          refine x_icle (tgt := 27) rfl rfl (ti_le rfl jk_1000 ⟨fun c5 => ?_, fun c5 => ?_⟩)
          ·
            exact jX.sub (jsb_c rfl (jsb_c rfl (jsb_c rfl jsb_n))) (ct_X11_best_r31_27 hD hQ  a1 a2 h (jr_of rfl (by omega)) J Sm)
          ·
            exact jX.sub jsb_n (ct_X11_best_r31_25 hD hQ  h J Sm)
def fp_X11_beyond_r31 : jFp := [(78, 13, 14), (82, 0, 600), (83, 0, 600), (84, 0, 200), (85, 0, 4), (86, 0, 3), (98, 10, 11), (98, 11, 12), (98, 12, 13), (98, 13, 14), (98, 14, 15), (98, 15, 16), (99, 0, 30), (100, 0, 30), (101, 0, 3), (102, 0, 40), (103, 0, 40), (104, 0, 40), (105, 0, 3), (106, 0, 100)]
set_option maxRecDepth 100000 in
set_option maxHeartbeats 4000000 in
theorem ct_X11_beyond_r31_25 {Dy : jH → Prop} {h0 : jH} {Q : Option Value → jH → Prop} (hD : jDk Dy) (hQ : ∀ (v : Int32) hx9, jJ jSgX Dy hx9 → jSm fp_X11_beyond_r31 h0 hx9 → Q (some (.int v)) hx9) : ∀ (h : jH), jJ jSgX Dy h → jSm fp_X11_beyond_r31 h0 h → jX m_X11_beyond 8 0 0 25 [] [] h 0 0 Q := by
  intro  h    J Sm
  refine x_iconst (v := (-1)) rfl ki_m1 ?_
  refine x_iret rfl rfl ?_
  exact hQ _ _ J Sm
set_option maxRecDepth 100000 in
set_option maxHeartbeats 4000000 in
theorem sf_X11_beyond_r31 {Dy : jH → Prop} {h : jH} {Q : Option Value → jH → Prop} {a1 : Int32} {a2 : Int32} (hD : jDk Dy) (J : jJ jSgX Dy h) (hQ : ∀ (v : Int32) hx9, jJ jSgX Dy hx9 → jSm fp_X11_beyond_r31 h hx9 → Q (some (.int v)) hx9) : jC m_X11_beyond 8 0 0 [.ref 31, .int a1, .int a2] h Q := by
  refine jC.of rfl k_X11_beyond rfl ?_
  have Sm := jSm_rf fp_X11_beyond_r31 h
  have ea1 := jfull a1
  have ea2 := jfull a2
  show jX m_X11_beyond 8 0 0 0 [(0, .ref 31), (1, .int a1), (2, .int a2)] [] _ 0 0 _
  refine x_aloadn (x := 31) rfl rfl ?_
  refine x_iloadn (x := a1) rfl rfl ?_
  refine x_iloadn (x := a2) rfl rfl ?_
  refine x_inv (N := m_X11_isKnownLine) (As := [.int a1, .int a2]) (b := 31) (st := []) (dx9 := 7) (mc := 0) (ms := 0) (host := "") 11 rfl t_X11_isKnownLine ⟨Or.inl q_11_393, i_X11_isKnownLine.1, i_X11_isKnownLine.2⟩ ⟨by decide, rfl⟩ (congrArg Prod.fst (J.1.1 31 (11, 13) rfl)) rfl (by decide) rfl rfl ⟨by decide, by decide⟩ (jC.of rfl k_X11_isKnownLine rfl ?_)
  show jX m_X11_isKnownLine 7 0 0 0 [(0, .ref 31), (1, .int a1), (2, .int a2)] [] _ 0 0 _
  refine x_iloadn (x := a2) rfl rfl ?_
  refine x_inst (N := m_X11_isDay) (As := [.int a2]) (st := []) (dx9 := 1) (mc := 0) (ms := 0) (host := "") rfl t_X11_isDay ⟨Or.inl q_11_115, s_X11_isDay⟩ rfl (by decide) rfl rfl ⟨by decide, by decide⟩ (zc_X11_isDay rfl (fun v1 ev1 => ?_))
  show jX m_X11_isKnownLine 7 0 0 4 [(0, .ref 31), (1, .int a1), (2, .int a2)] [.int v1] _ 0 0 _
  refine x_ifeq (tgt := 26) rfl rfl (ti_eq rfl jk_0 ⟨fun c2 => ?_, fun c2 => ?_⟩)
  ·
    refine x_iconst (v := 0) rfl ki_0 ?_
    refine x_zret rfl rfl (by decide) ?_
    show jX m_X11_beyond 8 0 0 6 [(0, .ref 31), (1, .int a1), (2, .int a2)] [.int 0] _ 0 0 _
    refine x_ifeq (tgt := 25) rfl rfl (ti_eq jk_0 jk_0 (br_t (by omega) ?_))
    exact jX.sub jsb_n (ct_X11_beyond_r31_25 hD hQ  h J Sm)
  ·
    refine x_aloadn (x := 31) rfl rfl ?_
    refine z_getR (N := 13) (b := 32) 11 0 rfl f_11_10 rfl J rfl 3968 ⟨rfl, rfl⟩ rfl ?_
    refine z_getR (N := 20) (b := 33) 1 0 rfl f_11_126 rfl J rfl 4096 ⟨rfl, rfl⟩ rfl ?_
    refine x_iloadn (x := a1) rfl rfl ?_
    refine x_iloadn (x := a2) rfl rfl ?_
    refine x_inv (N := m_X8_isKnown) (As := [.int a1, .int a2]) (b := 33) (st := []) (dx9 := 1) (mc := 0) (ms := 0) (host := "") 8 rfl t_X8_isKnown ⟨Or.inl q_11_440, i_X8_isKnown.1, i_X8_isKnown.2⟩ ⟨by decide, rfl⟩ (congrArg Prod.fst (J.1.1 33 (8, 4) rfl)) rfl (by decide) rfl rfl ⟨by decide, by decide⟩ (sf_X8_isKnown_r33 (jr_of rfl (by omega)) hD J  (fun v4 h ev4 J S3 => ?_))
    have Sm := jSm_tr rfl Sm S3
    show jX m_X11_isKnownLine 7 0 0 19 [(0, .ref 31), (1, .int a1), (2, .int a2)] [.int v4] _ 0 0 _
    refine x_ifeq (tgt := 26) rfl rfl (ti_eq rfl jk_0 ⟨fun c5 => ?_, fun c5 => ?_⟩)
    ·
      refine x_iconst (v := 0) rfl ki_0 ?_
      refine x_zret rfl rfl (by decide) ?_
      show jX m_X11_beyond 8 0 0 6 [(0, .ref 31), (1, .int a1), (2, .int a2)] [.int 0] _ 0 0 _
      refine x_ifeq (tgt := 25) rfl rfl (ti_eq jk_0 jk_0 (br_t (by omega) ?_))
      exact jX.sub jsb_n (ct_X11_beyond_r31_25 hD hQ  h J Sm)
    ·
      refine x_iconst (v := 1) rfl ki_1 ?_
      refine x_goto (tgt := 27) rfl rfl ?_
      refine x_zret rfl rfl (by decide) ?_
      show jX m_X11_beyond 8 0 0 6 [(0, .ref 31), (1, .int a1), (2, .int a2)] [.int 1] _ 0 0 _
      refine x_ifeq (tgt := 25) rfl rfl (ti_eq jk_1 jk_0 (br_f (by omega) ?_))
      refine x_aloadn (x := 31) rfl rfl ?_
      refine z_getR (N := 13) (b := 32) 11 0 rfl f_11_10 rfl J rfl 3968 ⟨rfl, rfl⟩ rfl ?_
      refine z_getR (N := 20) (b := 33) 1 0 rfl f_11_126 rfl J rfl 4096 ⟨rfl, rfl⟩ rfl ?_
      refine x_iloadn (x := a1) rfl rfl ?_
      refine x_iconst (v := 2) rfl ki_2 ?_
      refine x_inv (N := m_X8_at) (As := [.int a1, .int 2]) (b := 33) (st := []) (dx9 := 1) (mc := 0) (ms := 0) (host := "") 8 rfl t_X8_at ⟨Or.inl q_11_171, i_X8_at.1, i_X8_at.2⟩ ⟨by decide, rfl⟩ (congrArg Prod.fst (J.1.1 33 (8, 4) rfl)) rfl (by decide) rfl rfl ⟨by decide, by decide⟩ (sf_X8_at_r33_c2  hD J  (fun v7 h ev7 J S6 => ?_))
      have Sm := jSm_tr rfl Sm S6
      show jX m_X11_beyond 8 0 0 21 [(0, .ref 31), (1, .int a1), (2, .int a2)] [.int v7] _ 0 0 _
      refine x_iconst (v := 4) rfl ki_4 ?_
      refine x_iceq (tgt := 27) rfl rfl (ti_eq rfl jk_4 ⟨fun c8 => ?_, fun c8 => ?_⟩)
      ·
        refine x_aloadn (x := 31) rfl rfl ?_
        refine x_iloadn (x := a1) rfl rfl ?_
        refine x_iconst (v := 3) rfl ki_3 ?_
        refine z_imul0 rfl (fun v9 => ?_)
        have ev9 := jfull v9
        refine x_iloadn (x := a2) rfl rfl ?_
        refine x_inv (N := m_X11_soulOn) (As := [.int v9, .int a2]) (b := 31) (st := []) (dx9 := 7) (mc := 0) (ms := 0) (host := "") 11 rfl t_X11_soulOn ⟨Or.inl q_11_234, i_X11_soulOn.1, i_X11_soulOn.2⟩ ⟨by decide, rfl⟩ (congrArg Prod.fst (J.1.1 31 (11, 13) rfl)) rfl (by decide) rfl rfl ⟨by decide, by decide⟩ (jC.of rfl k_X11_soulOn rfl ?_)
        show jX m_X11_soulOn 7 0 0 0 [(0, .ref 31), (1, .int v9), (2, .int a2)] [] _ 0 0 _
        refine x_iloadn (x := a2) rfl rfl ?_
        refine x_inst (N := m_X11_isDay) (As := [.int a2]) (st := []) (dx9 := 1) (mc := 0) (ms := 0) (host := "") rfl t_X11_isDay ⟨Or.inl q_11_115, s_X11_isDay⟩ rfl (by decide) rfl rfl ⟨by decide, by decide⟩ (zc_X11_isDay rfl (fun v10 ev10 => ?_))
        show jX m_X11_soulOn 7 0 0 4 [(0, .ref 31), (1, .int v9), (2, .int a2)] [.int v10] _ 0 0 _
        refine x_ifeq (tgt := 18) rfl rfl (ti_eq rfl jk_0 ⟨fun c11 => ?_, fun c11 => ?_⟩)
        ·
          refine x_iconst (v := (-1)) rfl ki_m1 ?_
          refine x_iret rfl rfl ?_
          show jX m_X11_beyond 8 0 0 35 [(0, .ref 31), (1, .int a1), (2, .int a2)] [.int (-1)] _ 0 0 _
          refine x_istoren (lsx9 := [(3, .int (-1)), (0, .ref 31), (1, .int a1), (2, .int a2)]) rfl rfl rfl ?_
          refine x_aloadn (x := 31) rfl rfl ?_
          refine z_getR (N := 13) (b := 98) 11 7 rfl f_11_66 rfl J rfl 3975 ⟨rfl, rfl⟩ rfl ?_
          refine x_aloadn (x := 31) rfl rfl ?_
          refine z_getR (N := 13) (b := 32) 11 0 rfl f_11_10 rfl J rfl 3968 ⟨rfl, rfl⟩ rfl ?_
          refine z_getR (N := 20) (b := 33) 1 0 rfl f_11_126 rfl J rfl 4096 ⟨rfl, rfl⟩ rfl ?_
          refine x_iloadn (x := a1) rfl rfl ?_
          refine x_iconst (v := 1) rfl ki_1 ?_
          refine x_inv (N := m_X8_at) (As := [.int a1, .int 1]) (b := 33) (st := [.ref 98]) (dx9 := 1) (mc := 0) (ms := 0) (host := "") 8 rfl t_X8_at ⟨Or.inl q_11_171, i_X8_at.1, i_X8_at.2⟩ ⟨by decide, rfl⟩ (congrArg Prod.fst (J.1.1 33 (8, 4) rfl)) rfl (by decide) rfl rfl ⟨by decide, by decide⟩ (sf_X8_at_r33_c1  hD J  (fun v13 h ev13 J S12 => ?_))
          have Sm := jSm_tr rfl Sm S12
          show jX m_X11_beyond 8 0 0 52 [(3, .int (-1)), (0, .ref 31), (1, .int a1), (2, .int a2)] [.int v13, .ref 98] _ 0 0 _
          refine x_iloadn (x := a2) rfl rfl ?_
          refine x_inv (N := m_X0_turnTo) (As := [.int v13, .int a2]) (b := 98) (st := []) (dx9 := 7) (mc := 0) (ms := 0) (host := "") 0 rfl t_X0_turnTo ⟨Or.inl q_11_345, i_X0_turnTo.1, i_X0_turnTo.2⟩ ⟨by decide, rfl⟩ (congrArg Prod.fst (J.1.1 98 (0, 16) rfl)) rfl (by decide) rfl rfl ⟨by decide, by decide⟩ (jC.of rfl k_X0_turnTo rfl ?_)
          show jX m_X0_turnTo 7 0 0 0 [(0, .ref 98), (1, .int v13), (2, .int a2)] [] _ 0 0 _
          refine x_aloadn (x := 98) rfl rfl ?_
          refine x_iloadn (x := v13) rfl rfl ?_
          refine x_iloadn (x := a2) rfl rfl ?_
          refine x_inv (N := m_X0_readLaws) (As := [.int v13, .int a2]) (b := 98) (st := []) (dx9 := 3) (mc := 0) (ms := 0) (host := "") 0 rfl t_X0_readLaws ⟨Or.inl q_0_65, i_X0_readLaws.1, i_X0_readLaws.2⟩ ⟨by decide, rfl⟩ (congrArg Prod.fst (J.1.1 98 (0, 16) rfl)) rfl (by decide) rfl rfl ⟨by decide, by decide⟩ (sf_X0_readLaws_r98 (jr_of rfl (by omega)) (jr_of rfl (by omega)) hD J  (fun h J S14 => ?_))
          have Sm := jSm_tr rfl Sm S14
          show jX m_X0_turnTo 7 0 0 6 [(0, .ref 98), (1, .int v13), (2, .int a2)] [] _ 0 0 _
          refine x_aloadn (x := 98) rfl rfl ?_
          refine x_iloadn (x := v13) rfl rfl ?_
          refine x_iloadn (x := a2) rfl rfl ?_
          refine x_inv (N := m_X0_readHouses) (As := [.int v13, .int a2]) (b := 98) (st := []) (dx9 := 3) (mc := 0) (ms := 0) (host := "") 0 rfl t_X0_readHouses ⟨Or.inl q_0_69, i_X0_readHouses.1, i_X0_readHouses.2⟩ ⟨by decide, rfl⟩ (congrArg Prod.fst (J.1.1 98 (0, 16) rfl)) rfl (by decide) rfl rfl ⟨by decide, by decide⟩ (sf_X0_readHouses_r98 (jr_of rfl (by omega)) (jr_of rfl (by omega)) hD J  (fun h J S15 => ?_))
          have Sm := jSm_tr rfl Sm S15
          show jX m_X0_turnTo 7 0 0 12 [(0, .ref 98), (1, .int v13), (2, .int a2)] [] _ 0 0 _
          refine x_vret rfl rfl ?_
          show jX m_X11_beyond 8 0 0 56 [(3, .int (-1)), (0, .ref 31), (1, .int a1), (2, .int a2)] [] _ 0 0 _
          refine x_aloadn (x := 31) rfl rfl ?_
          refine z_getR (N := 13) (b := 98) 11 7 rfl f_11_66 rfl J rfl 3975 ⟨rfl, rfl⟩ rfl ?_
          refine x_iconst (v := 3) rfl ki_3 ?_
          refine x_iconst (v := 0) rfl ki_0 ?_
          refine x_iloadn (x := (-1)) rfl rfl ?_
          refine x_inv (N := m_X0_weigh) (As := [.int 3, .int 0, .int (-1)]) (b := 98) (st := []) (dx9 := 6) (mc := 0) (ms := 0) (host := "") 0 rfl t_X0_weigh ⟨Or.inl q_11_359, i_X0_weigh.1, i_X0_weigh.2⟩ ⟨by decide, rfl⟩ (congrArg Prod.fst (J.1.1 98 (0, 16) rfl)) rfl (by decide) rfl rfl ⟨by decide, by decide⟩ (sf_X0_weigh_r98 (jr_of jk_3 (by omega)) (jr_of jk_0 (by omega)) (jr_of jk_m1 (by omega)) hD J  (fun v17 h ev17 J S16 => ?_))
          have Sm := jSm_tr rfl Sm S16
          show jX m_X11_beyond 8 0 0 66 [(3, .int (-1)), (0, .ref 31), (1, .int a1), (2, .int a2)] [.int v17] _ 0 0 _
          refine x_pop rfl rfl ?_
          refine x_aloadn (x := 31) rfl rfl ?_
          refine z_getR (N := 13) (b := 32) 11 0 rfl f_11_10 rfl J rfl 3968 ⟨rfl, rfl⟩ rfl ?_
          refine z_getR (N := 20) (b := 33) 1 0 rfl f_11_126 rfl J rfl 4096 ⟨rfl, rfl⟩ rfl ?_
          refine x_iloadn (x := a1) rfl rfl ?_
          refine x_iconst (v := 4) rfl ki_4 ?_
          refine x_inv (N := m_X8_at) (As := [.int a1, .int 4]) (b := 33) (st := []) (dx9 := 1) (mc := 0) (ms := 0) (host := "") 8 rfl t_X8_at ⟨Or.inl q_11_171, i_X8_at.1, i_X8_at.2⟩ ⟨by decide, rfl⟩ (congrArg Prod.fst (J.1.1 33 (8, 4) rfl)) rfl (by decide) rfl rfl ⟨by decide, by decide⟩ (sf_X8_at_r33_c4  hD J  (fun v19 h J S18 => ?_))
          have ev19 := jfull v19
          have Sm := jSm_tr rfl Sm S18
          show jX m_X11_beyond 8 0 0 79 [(3, .int (-1)), (0, .ref 31), (1, .int a1), (2, .int a2)] [.int v19] _ 0 0 _
          refine z_i2l rfl rfl (fun v20 ev20 => ?_)
          refine x_lconst (v := 0) rfl kl_0 ?_
          refine x_aloadn (x := 31) rfl rfl ?_
          refine z_getR (N := 13) (b := 98) 11 7 rfl f_11_66 rfl J rfl 3975 ⟨rfl, rfl⟩ rfl ?_
          refine z_getL0 (N := 16) 0 14 rfl f_11_362 rfl J rfl (fun v21 => ?_)
          have ev21 := jfullL v21
          refine z_lmax rfl q_11_485 (by decide) rfl jkl_0 rfl (fun v22 ev22 => ?_)
          refine z_lsub0 rfl (fun v23 => ?_)
          have ev23 := jfullL v23
          refine x_lstore (lsx9 := [(4, .long v23), (3, .int (-1)), (0, .ref 31), (1, .int a1), (2, .int a2)]) rfl rfl rfl ?_
          refine x_lconst (v := 0) rfl kl_0 ?_
          refine x_lload (x := v23) rfl rfl ?_
          refine z_lmax rfl q_11_485 (by decide) rfl jkl_0 rfl (fun v24 ev24 => ?_)
          refine z_l2i0 rfl (fun v25 => ?_)
          refine x_iret rfl rfl ?_
          exact hQ _ _ J Sm
        ·
          refine x_aloadn (x := 31) rfl rfl ?_
          refine z_getR (N := 13) (b := 78) 11 4 rfl f_11_41 rfl J rfl 3972 ⟨rfl, rfl⟩ rfl ?_
          refine x_iloadn (x := v9) rfl rfl ?_
          refine x_inv (N := m_X7_isMention) (As := [.int v9]) (b := 78) (st := []) (dx9 := 6) (mc := 0) (ms := 0) (host := "") 7 rfl t_X7_isMention ⟨Or.inl q_11_187, i_X7_isMention.1, i_X7_isMention.2⟩ ⟨by decide, rfl⟩ (congrArg Prod.fst (J.1.1 78 (7, 16) rfl)) rfl (by decide) rfl rfl ⟨by decide, by decide⟩ (jC.of rfl k_X7_isMention rfl ?_)
          show jX m_X7_isMention 6 0 0 0 [(0, .ref 78), (1, .int v9)] [] _ 0 0 _
          refine x_iloadn (x := v9) rfl rfl ?_
          refine x_iflt (tgt := 41) rfl rfl (ti_lt rfl jk_0 ⟨fun c26 => ?_, fun c26 => ?_⟩)
          ·
            refine x_iconst (v := 0) rfl ki_0 ?_
            refine x_zret rfl rfl (by decide) ?_
            show jX m_X11_soulOn 7 0 0 15 [(0, .ref 31), (1, .int v9), (2, .int a2)] [.int 0] _ 0 0 _
            refine x_ifne (tgt := 20) rfl rfl (ti_ne jk_0 jk_0 (bn_f (by omega) ?_))
            refine x_iconst (v := (-1)) rfl ki_m1 ?_
            refine x_iret rfl rfl ?_
            show jX m_X11_beyond 8 0 0 35 [(0, .ref 31), (1, .int a1), (2, .int a2)] [.int (-1)] _ 0 0 _
            refine x_istoren (lsx9 := [(3, .int (-1)), (0, .ref 31), (1, .int a1), (2, .int a2)]) rfl rfl rfl ?_
            refine x_aloadn (x := 31) rfl rfl ?_
            refine z_getR (N := 13) (b := 98) 11 7 rfl f_11_66 rfl J rfl 3975 ⟨rfl, rfl⟩ rfl ?_
            refine x_aloadn (x := 31) rfl rfl ?_
            refine z_getR (N := 13) (b := 32) 11 0 rfl f_11_10 rfl J rfl 3968 ⟨rfl, rfl⟩ rfl ?_
            refine z_getR (N := 20) (b := 33) 1 0 rfl f_11_126 rfl J rfl 4096 ⟨rfl, rfl⟩ rfl ?_
            refine x_iloadn (x := a1) rfl rfl ?_
            refine x_iconst (v := 1) rfl ki_1 ?_
            refine x_inv (N := m_X8_at) (As := [.int a1, .int 1]) (b := 33) (st := [.ref 98]) (dx9 := 1) (mc := 0) (ms := 0) (host := "") 8 rfl t_X8_at ⟨Or.inl q_11_171, i_X8_at.1, i_X8_at.2⟩ ⟨by decide, rfl⟩ (congrArg Prod.fst (J.1.1 33 (8, 4) rfl)) rfl (by decide) rfl rfl ⟨by decide, by decide⟩ (sf_X8_at_r33_c1  hD J  (fun v28 h ev28 J S27 => ?_))
            have Sm := jSm_tr rfl Sm S27
            show jX m_X11_beyond 8 0 0 52 [(3, .int (-1)), (0, .ref 31), (1, .int a1), (2, .int a2)] [.int v28, .ref 98] _ 0 0 _
            refine x_iloadn (x := a2) rfl rfl ?_
            refine x_inv (N := m_X0_turnTo) (As := [.int v28, .int a2]) (b := 98) (st := []) (dx9 := 7) (mc := 0) (ms := 0) (host := "") 0 rfl t_X0_turnTo ⟨Or.inl q_11_345, i_X0_turnTo.1, i_X0_turnTo.2⟩ ⟨by decide, rfl⟩ (congrArg Prod.fst (J.1.1 98 (0, 16) rfl)) rfl (by decide) rfl rfl ⟨by decide, by decide⟩ (jC.of rfl k_X0_turnTo rfl ?_)
            show jX m_X0_turnTo 7 0 0 0 [(0, .ref 98), (1, .int v28), (2, .int a2)] [] _ 0 0 _
            refine x_aloadn (x := 98) rfl rfl ?_
            refine x_iloadn (x := v28) rfl rfl ?_
            refine x_iloadn (x := a2) rfl rfl ?_
            refine x_inv (N := m_X0_readLaws) (As := [.int v28, .int a2]) (b := 98) (st := []) (dx9 := 3) (mc := 0) (ms := 0) (host := "") 0 rfl t_X0_readLaws ⟨Or.inl q_0_65, i_X0_readLaws.1, i_X0_readLaws.2⟩ ⟨by decide, rfl⟩ (congrArg Prod.fst (J.1.1 98 (0, 16) rfl)) rfl (by decide) rfl rfl ⟨by decide, by decide⟩ (sf_X0_readLaws_r98 (jr_of rfl (by omega)) (jr_of rfl (by omega)) hD J  (fun h J S29 => ?_))
            have Sm := jSm_tr rfl Sm S29
            show jX m_X0_turnTo 7 0 0 6 [(0, .ref 98), (1, .int v28), (2, .int a2)] [] _ 0 0 _
            refine x_aloadn (x := 98) rfl rfl ?_
            refine x_iloadn (x := v28) rfl rfl ?_
            refine x_iloadn (x := a2) rfl rfl ?_
            refine x_inv (N := m_X0_readHouses) (As := [.int v28, .int a2]) (b := 98) (st := []) (dx9 := 3) (mc := 0) (ms := 0) (host := "") 0 rfl t_X0_readHouses ⟨Or.inl q_0_69, i_X0_readHouses.1, i_X0_readHouses.2⟩ ⟨by decide, rfl⟩ (congrArg Prod.fst (J.1.1 98 (0, 16) rfl)) rfl (by decide) rfl rfl ⟨by decide, by decide⟩ (sf_X0_readHouses_r98 (jr_of rfl (by omega)) (jr_of rfl (by omega)) hD J  (fun h J S30 => ?_))
            have Sm := jSm_tr rfl Sm S30
            show jX m_X0_turnTo 7 0 0 12 [(0, .ref 98), (1, .int v28), (2, .int a2)] [] _ 0 0 _
            refine x_vret rfl rfl ?_
            show jX m_X11_beyond 8 0 0 56 [(3, .int (-1)), (0, .ref 31), (1, .int a1), (2, .int a2)] [] _ 0 0 _
            refine x_aloadn (x := 31) rfl rfl ?_
            refine z_getR (N := 13) (b := 98) 11 7 rfl f_11_66 rfl J rfl 3975 ⟨rfl, rfl⟩ rfl ?_
            refine x_iconst (v := 3) rfl ki_3 ?_
            refine x_iconst (v := 0) rfl ki_0 ?_
            refine x_iloadn (x := (-1)) rfl rfl ?_
            refine x_inv (N := m_X0_weigh) (As := [.int 3, .int 0, .int (-1)]) (b := 98) (st := []) (dx9 := 6) (mc := 0) (ms := 0) (host := "") 0 rfl t_X0_weigh ⟨Or.inl q_11_359, i_X0_weigh.1, i_X0_weigh.2⟩ ⟨by decide, rfl⟩ (congrArg Prod.fst (J.1.1 98 (0, 16) rfl)) rfl (by decide) rfl rfl ⟨by decide, by decide⟩ (sf_X0_weigh_r98 (jr_of jk_3 (by omega)) (jr_of jk_0 (by omega)) (jr_of jk_m1 (by omega)) hD J  (fun v32 h ev32 J S31 => ?_))
            have Sm := jSm_tr rfl Sm S31
            show jX m_X11_beyond 8 0 0 66 [(3, .int (-1)), (0, .ref 31), (1, .int a1), (2, .int a2)] [.int v32] _ 0 0 _
            refine x_pop rfl rfl ?_
            refine x_aloadn (x := 31) rfl rfl ?_
            refine z_getR (N := 13) (b := 32) 11 0 rfl f_11_10 rfl J rfl 3968 ⟨rfl, rfl⟩ rfl ?_
            refine z_getR (N := 20) (b := 33) 1 0 rfl f_11_126 rfl J rfl 4096 ⟨rfl, rfl⟩ rfl ?_
            refine x_iloadn (x := a1) rfl rfl ?_
            refine x_iconst (v := 4) rfl ki_4 ?_
            refine x_inv (N := m_X8_at) (As := [.int a1, .int 4]) (b := 33) (st := []) (dx9 := 1) (mc := 0) (ms := 0) (host := "") 8 rfl t_X8_at ⟨Or.inl q_11_171, i_X8_at.1, i_X8_at.2⟩ ⟨by decide, rfl⟩ (congrArg Prod.fst (J.1.1 33 (8, 4) rfl)) rfl (by decide) rfl rfl ⟨by decide, by decide⟩ (sf_X8_at_r33_c4  hD J  (fun v34 h J S33 => ?_))
            have ev34 := jfull v34
            have Sm := jSm_tr rfl Sm S33
            show jX m_X11_beyond 8 0 0 79 [(3, .int (-1)), (0, .ref 31), (1, .int a1), (2, .int a2)] [.int v34] _ 0 0 _
            refine z_i2l rfl rfl (fun v35 ev35 => ?_)
            refine x_lconst (v := 0) rfl kl_0 ?_
            refine x_aloadn (x := 31) rfl rfl ?_
            refine z_getR (N := 13) (b := 98) 11 7 rfl f_11_66 rfl J rfl 3975 ⟨rfl, rfl⟩ rfl ?_
            refine z_getL0 (N := 16) 0 14 rfl f_11_362 rfl J rfl (fun v36 => ?_)
            have ev36 := jfullL v36
            refine z_lmax rfl q_11_485 (by decide) rfl jkl_0 rfl (fun v37 ev37 => ?_)
            refine z_lsub0 rfl (fun v38 => ?_)
            have ev38 := jfullL v38
            refine x_lstore (lsx9 := [(4, .long v38), (3, .int (-1)), (0, .ref 31), (1, .int a1), (2, .int a2)]) rfl rfl rfl ?_
            refine x_lconst (v := 0) rfl kl_0 ?_
            refine x_lload (x := v38) rfl rfl ?_
            refine z_lmax rfl q_11_485 (by decide) rfl jkl_0 rfl (fun v39 ev39 => ?_)
            refine z_l2i0 rfl (fun v40 => ?_)
            refine x_iret rfl rfl ?_
            exact hQ _ _ J Sm
          ·
            refine x_iloadn (x := v9) rfl rfl ?_
            refine x_sipush (v := 600) rfl ks_600 ?_
            refine x_icge (tgt := 41) rfl rfl (ti_ge rfl jk_600 ⟨fun c41 => ?_, fun c41 => ?_⟩)
            ·
              refine x_iconst (v := 0) rfl ki_0 ?_
              refine x_zret rfl rfl (by decide) ?_
              show jX m_X11_soulOn 7 0 0 15 [(0, .ref 31), (1, .int v9), (2, .int a2)] [.int 0] _ 0 0 _
              refine x_ifne (tgt := 20) rfl rfl (ti_ne jk_0 jk_0 (bn_f (by omega) ?_))
              refine x_iconst (v := (-1)) rfl ki_m1 ?_
              refine x_iret rfl rfl ?_
              show jX m_X11_beyond 8 0 0 35 [(0, .ref 31), (1, .int a1), (2, .int a2)] [.int (-1)] _ 0 0 _
              refine x_istoren (lsx9 := [(3, .int (-1)), (0, .ref 31), (1, .int a1), (2, .int a2)]) rfl rfl rfl ?_
              refine x_aloadn (x := 31) rfl rfl ?_
              refine z_getR (N := 13) (b := 98) 11 7 rfl f_11_66 rfl J rfl 3975 ⟨rfl, rfl⟩ rfl ?_
              refine x_aloadn (x := 31) rfl rfl ?_
              refine z_getR (N := 13) (b := 32) 11 0 rfl f_11_10 rfl J rfl 3968 ⟨rfl, rfl⟩ rfl ?_
              refine z_getR (N := 20) (b := 33) 1 0 rfl f_11_126 rfl J rfl 4096 ⟨rfl, rfl⟩ rfl ?_
              refine x_iloadn (x := a1) rfl rfl ?_
              refine x_iconst (v := 1) rfl ki_1 ?_
              refine x_inv (N := m_X8_at) (As := [.int a1, .int 1]) (b := 33) (st := [.ref 98]) (dx9 := 1) (mc := 0) (ms := 0) (host := "") 8 rfl t_X8_at ⟨Or.inl q_11_171, i_X8_at.1, i_X8_at.2⟩ ⟨by decide, rfl⟩ (congrArg Prod.fst (J.1.1 33 (8, 4) rfl)) rfl (by decide) rfl rfl ⟨by decide, by decide⟩ (sf_X8_at_r33_c1  hD J  (fun v43 h ev43 J S42 => ?_))
              have Sm := jSm_tr rfl Sm S42
              show jX m_X11_beyond 8 0 0 52 [(3, .int (-1)), (0, .ref 31), (1, .int a1), (2, .int a2)] [.int v43, .ref 98] _ 0 0 _
              refine x_iloadn (x := a2) rfl rfl ?_
              refine x_inv (N := m_X0_turnTo) (As := [.int v43, .int a2]) (b := 98) (st := []) (dx9 := 7) (mc := 0) (ms := 0) (host := "") 0 rfl t_X0_turnTo ⟨Or.inl q_11_345, i_X0_turnTo.1, i_X0_turnTo.2⟩ ⟨by decide, rfl⟩ (congrArg Prod.fst (J.1.1 98 (0, 16) rfl)) rfl (by decide) rfl rfl ⟨by decide, by decide⟩ (jC.of rfl k_X0_turnTo rfl ?_)
              show jX m_X0_turnTo 7 0 0 0 [(0, .ref 98), (1, .int v43), (2, .int a2)] [] _ 0 0 _
              refine x_aloadn (x := 98) rfl rfl ?_
              refine x_iloadn (x := v43) rfl rfl ?_
              refine x_iloadn (x := a2) rfl rfl ?_
              refine x_inv (N := m_X0_readLaws) (As := [.int v43, .int a2]) (b := 98) (st := []) (dx9 := 3) (mc := 0) (ms := 0) (host := "") 0 rfl t_X0_readLaws ⟨Or.inl q_0_65, i_X0_readLaws.1, i_X0_readLaws.2⟩ ⟨by decide, rfl⟩ (congrArg Prod.fst (J.1.1 98 (0, 16) rfl)) rfl (by decide) rfl rfl ⟨by decide, by decide⟩ (sf_X0_readLaws_r98 (jr_of rfl (by omega)) (jr_of rfl (by omega)) hD J  (fun h J S44 => ?_))
              have Sm := jSm_tr rfl Sm S44
              show jX m_X0_turnTo 7 0 0 6 [(0, .ref 98), (1, .int v43), (2, .int a2)] [] _ 0 0 _
              refine x_aloadn (x := 98) rfl rfl ?_
              refine x_iloadn (x := v43) rfl rfl ?_
              refine x_iloadn (x := a2) rfl rfl ?_
              refine x_inv (N := m_X0_readHouses) (As := [.int v43, .int a2]) (b := 98) (st := []) (dx9 := 3) (mc := 0) (ms := 0) (host := "") 0 rfl t_X0_readHouses ⟨Or.inl q_0_69, i_X0_readHouses.1, i_X0_readHouses.2⟩ ⟨by decide, rfl⟩ (congrArg Prod.fst (J.1.1 98 (0, 16) rfl)) rfl (by decide) rfl rfl ⟨by decide, by decide⟩ (sf_X0_readHouses_r98 (jr_of rfl (by omega)) (jr_of rfl (by omega)) hD J  (fun h J S45 => ?_))
              have Sm := jSm_tr rfl Sm S45
              show jX m_X0_turnTo 7 0 0 12 [(0, .ref 98), (1, .int v43), (2, .int a2)] [] _ 0 0 _
              refine x_vret rfl rfl ?_
              show jX m_X11_beyond 8 0 0 56 [(3, .int (-1)), (0, .ref 31), (1, .int a1), (2, .int a2)] [] _ 0 0 _
              refine x_aloadn (x := 31) rfl rfl ?_
              refine z_getR (N := 13) (b := 98) 11 7 rfl f_11_66 rfl J rfl 3975 ⟨rfl, rfl⟩ rfl ?_
              refine x_iconst (v := 3) rfl ki_3 ?_
              refine x_iconst (v := 0) rfl ki_0 ?_
              refine x_iloadn (x := (-1)) rfl rfl ?_
              refine x_inv (N := m_X0_weigh) (As := [.int 3, .int 0, .int (-1)]) (b := 98) (st := []) (dx9 := 6) (mc := 0) (ms := 0) (host := "") 0 rfl t_X0_weigh ⟨Or.inl q_11_359, i_X0_weigh.1, i_X0_weigh.2⟩ ⟨by decide, rfl⟩ (congrArg Prod.fst (J.1.1 98 (0, 16) rfl)) rfl (by decide) rfl rfl ⟨by decide, by decide⟩ (sf_X0_weigh_r98 (jr_of jk_3 (by omega)) (jr_of jk_0 (by omega)) (jr_of jk_m1 (by omega)) hD J  (fun v47 h ev47 J S46 => ?_))
              have Sm := jSm_tr rfl Sm S46
              show jX m_X11_beyond 8 0 0 66 [(3, .int (-1)), (0, .ref 31), (1, .int a1), (2, .int a2)] [.int v47] _ 0 0 _
              refine x_pop rfl rfl ?_
              refine x_aloadn (x := 31) rfl rfl ?_
              refine z_getR (N := 13) (b := 32) 11 0 rfl f_11_10 rfl J rfl 3968 ⟨rfl, rfl⟩ rfl ?_
              refine z_getR (N := 20) (b := 33) 1 0 rfl f_11_126 rfl J rfl 4096 ⟨rfl, rfl⟩ rfl ?_
              refine x_iloadn (x := a1) rfl rfl ?_
              refine x_iconst (v := 4) rfl ki_4 ?_
              refine x_inv (N := m_X8_at) (As := [.int a1, .int 4]) (b := 33) (st := []) (dx9 := 1) (mc := 0) (ms := 0) (host := "") 8 rfl t_X8_at ⟨Or.inl q_11_171, i_X8_at.1, i_X8_at.2⟩ ⟨by decide, rfl⟩ (congrArg Prod.fst (J.1.1 33 (8, 4) rfl)) rfl (by decide) rfl rfl ⟨by decide, by decide⟩ (sf_X8_at_r33_c4  hD J  (fun v49 h J S48 => ?_))
              have ev49 := jfull v49
              have Sm := jSm_tr rfl Sm S48
              show jX m_X11_beyond 8 0 0 79 [(3, .int (-1)), (0, .ref 31), (1, .int a1), (2, .int a2)] [.int v49] _ 0 0 _
              refine z_i2l rfl rfl (fun v50 ev50 => ?_)
              refine x_lconst (v := 0) rfl kl_0 ?_
              refine x_aloadn (x := 31) rfl rfl ?_
              refine z_getR (N := 13) (b := 98) 11 7 rfl f_11_66 rfl J rfl 3975 ⟨rfl, rfl⟩ rfl ?_
              refine z_getL0 (N := 16) 0 14 rfl f_11_362 rfl J rfl (fun v51 => ?_)
              have ev51 := jfullL v51
              refine z_lmax rfl q_11_485 (by decide) rfl jkl_0 rfl (fun v52 ev52 => ?_)
              refine z_lsub0 rfl (fun v53 => ?_)
              have ev53 := jfullL v53
              refine x_lstore (lsx9 := [(4, .long v53), (3, .int (-1)), (0, .ref 31), (1, .int a1), (2, .int a2)]) rfl rfl rfl ?_
              refine x_lconst (v := 0) rfl kl_0 ?_
              refine x_lload (x := v53) rfl rfl ?_
              refine z_lmax rfl q_11_485 (by decide) rfl jkl_0 rfl (fun v54 ev54 => ?_)
              refine z_l2i0 rfl (fun v55 => ?_)
              refine x_iret rfl rfl ?_
              exact hQ _ _ J Sm
            ·
              refine x_iloadn (x := v9) rfl rfl ?_
              refine x_iconst (v := 3) rfl ki_3 ?_
              refine z_idiv rfl rfl jk_3 (by omega) (by omega) (fun v56 ev56 => ?_)
              refine x_aloadn (x := 78) rfl rfl ?_
              refine z_getR (N := 16) (b := 32) 7 0 rfl f_7_55 rfl J rfl 9984 ⟨rfl, rfl⟩ rfl ?_
              refine z_getR (N := 20) (b := 33) 1 0 rfl f_7_63 rfl J rfl 4096 ⟨rfl, rfl⟩ rfl ?_
              refine z_getI (N := 4) 8 3 rfl f_7_85 rfl J rfl sg_33_3_4_1_0_1 (fun v57 qv57 ev57 => ?_)
              refine x_icge (tgt := 41) rfl rfl (ti_ge rfl rfl ⟨fun c58 => ?_, fun c58 => ?_⟩)
              ·
                refine x_iconst (v := 0) rfl ki_0 ?_
                refine x_zret rfl rfl (by decide) ?_
                show jX m_X11_soulOn 7 0 0 15 [(0, .ref 31), (1, .int v9), (2, .int a2)] [.int 0] _ 0 0 _
                refine x_ifne (tgt := 20) rfl rfl (ti_ne jk_0 jk_0 (bn_f (by omega) ?_))
                refine x_iconst (v := (-1)) rfl ki_m1 ?_
                refine x_iret rfl rfl ?_
                show jX m_X11_beyond 8 0 0 35 [(0, .ref 31), (1, .int a1), (2, .int a2)] [.int (-1)] _ 0 0 _
                refine x_istoren (lsx9 := [(3, .int (-1)), (0, .ref 31), (1, .int a1), (2, .int a2)]) rfl rfl rfl ?_
                refine x_aloadn (x := 31) rfl rfl ?_
                refine z_getR (N := 13) (b := 98) 11 7 rfl f_11_66 rfl J rfl 3975 ⟨rfl, rfl⟩ rfl ?_
                refine x_aloadn (x := 31) rfl rfl ?_
                refine z_getR (N := 13) (b := 32) 11 0 rfl f_11_10 rfl J rfl 3968 ⟨rfl, rfl⟩ rfl ?_
                refine z_getR (N := 20) (b := 33) 1 0 rfl f_11_126 rfl J rfl 4096 ⟨rfl, rfl⟩ rfl ?_
                refine x_iloadn (x := a1) rfl rfl ?_
                refine x_iconst (v := 1) rfl ki_1 ?_
                refine x_inv (N := m_X8_at) (As := [.int a1, .int 1]) (b := 33) (st := [.ref 98]) (dx9 := 1) (mc := 0) (ms := 0) (host := "") 8 rfl t_X8_at ⟨Or.inl q_11_171, i_X8_at.1, i_X8_at.2⟩ ⟨by decide, rfl⟩ (congrArg Prod.fst (J.1.1 33 (8, 4) rfl)) rfl (by decide) rfl rfl ⟨by decide, by decide⟩ (sf_X8_at_r33_c1  hD J  (fun v60 h ev60 J S59 => ?_))
                have Sm := jSm_tr rfl Sm S59
                show jX m_X11_beyond 8 0 0 52 [(3, .int (-1)), (0, .ref 31), (1, .int a1), (2, .int a2)] [.int v60, .ref 98] _ 0 0 _
                refine x_iloadn (x := a2) rfl rfl ?_
                refine x_inv (N := m_X0_turnTo) (As := [.int v60, .int a2]) (b := 98) (st := []) (dx9 := 7) (mc := 0) (ms := 0) (host := "") 0 rfl t_X0_turnTo ⟨Or.inl q_11_345, i_X0_turnTo.1, i_X0_turnTo.2⟩ ⟨by decide, rfl⟩ (congrArg Prod.fst (J.1.1 98 (0, 16) rfl)) rfl (by decide) rfl rfl ⟨by decide, by decide⟩ (jC.of rfl k_X0_turnTo rfl ?_)
                show jX m_X0_turnTo 7 0 0 0 [(0, .ref 98), (1, .int v60), (2, .int a2)] [] _ 0 0 _
                refine x_aloadn (x := 98) rfl rfl ?_
                refine x_iloadn (x := v60) rfl rfl ?_
                refine x_iloadn (x := a2) rfl rfl ?_
                refine x_inv (N := m_X0_readLaws) (As := [.int v60, .int a2]) (b := 98) (st := []) (dx9 := 3) (mc := 0) (ms := 0) (host := "") 0 rfl t_X0_readLaws ⟨Or.inl q_0_65, i_X0_readLaws.1, i_X0_readLaws.2⟩ ⟨by decide, rfl⟩ (congrArg Prod.fst (J.1.1 98 (0, 16) rfl)) rfl (by decide) rfl rfl ⟨by decide, by decide⟩ (sf_X0_readLaws_r98 (jr_of rfl (by omega)) (jr_of rfl (by omega)) hD J  (fun h J S61 => ?_))
                have Sm := jSm_tr rfl Sm S61
                show jX m_X0_turnTo 7 0 0 6 [(0, .ref 98), (1, .int v60), (2, .int a2)] [] _ 0 0 _
                refine x_aloadn (x := 98) rfl rfl ?_
                refine x_iloadn (x := v60) rfl rfl ?_
                refine x_iloadn (x := a2) rfl rfl ?_
                refine x_inv (N := m_X0_readHouses) (As := [.int v60, .int a2]) (b := 98) (st := []) (dx9 := 3) (mc := 0) (ms := 0) (host := "") 0 rfl t_X0_readHouses ⟨Or.inl q_0_69, i_X0_readHouses.1, i_X0_readHouses.2⟩ ⟨by decide, rfl⟩ (congrArg Prod.fst (J.1.1 98 (0, 16) rfl)) rfl (by decide) rfl rfl ⟨by decide, by decide⟩ (sf_X0_readHouses_r98 (jr_of rfl (by omega)) (jr_of rfl (by omega)) hD J  (fun h J S62 => ?_))
                have Sm := jSm_tr rfl Sm S62
                show jX m_X0_turnTo 7 0 0 12 [(0, .ref 98), (1, .int v60), (2, .int a2)] [] _ 0 0 _
                refine x_vret rfl rfl ?_
                show jX m_X11_beyond 8 0 0 56 [(3, .int (-1)), (0, .ref 31), (1, .int a1), (2, .int a2)] [] _ 0 0 _
                refine x_aloadn (x := 31) rfl rfl ?_
                refine z_getR (N := 13) (b := 98) 11 7 rfl f_11_66 rfl J rfl 3975 ⟨rfl, rfl⟩ rfl ?_
                refine x_iconst (v := 3) rfl ki_3 ?_
                refine x_iconst (v := 0) rfl ki_0 ?_
                refine x_iloadn (x := (-1)) rfl rfl ?_
                refine x_inv (N := m_X0_weigh) (As := [.int 3, .int 0, .int (-1)]) (b := 98) (st := []) (dx9 := 6) (mc := 0) (ms := 0) (host := "") 0 rfl t_X0_weigh ⟨Or.inl q_11_359, i_X0_weigh.1, i_X0_weigh.2⟩ ⟨by decide, rfl⟩ (congrArg Prod.fst (J.1.1 98 (0, 16) rfl)) rfl (by decide) rfl rfl ⟨by decide, by decide⟩ (sf_X0_weigh_r98 (jr_of jk_3 (by omega)) (jr_of jk_0 (by omega)) (jr_of jk_m1 (by omega)) hD J  (fun v64 h ev64 J S63 => ?_))
                have Sm := jSm_tr rfl Sm S63
                show jX m_X11_beyond 8 0 0 66 [(3, .int (-1)), (0, .ref 31), (1, .int a1), (2, .int a2)] [.int v64] _ 0 0 _
                refine x_pop rfl rfl ?_
                refine x_aloadn (x := 31) rfl rfl ?_
                refine z_getR (N := 13) (b := 32) 11 0 rfl f_11_10 rfl J rfl 3968 ⟨rfl, rfl⟩ rfl ?_
                refine z_getR (N := 20) (b := 33) 1 0 rfl f_11_126 rfl J rfl 4096 ⟨rfl, rfl⟩ rfl ?_
                refine x_iloadn (x := a1) rfl rfl ?_
                refine x_iconst (v := 4) rfl ki_4 ?_
                refine x_inv (N := m_X8_at) (As := [.int a1, .int 4]) (b := 33) (st := []) (dx9 := 1) (mc := 0) (ms := 0) (host := "") 8 rfl t_X8_at ⟨Or.inl q_11_171, i_X8_at.1, i_X8_at.2⟩ ⟨by decide, rfl⟩ (congrArg Prod.fst (J.1.1 33 (8, 4) rfl)) rfl (by decide) rfl rfl ⟨by decide, by decide⟩ (sf_X8_at_r33_c4  hD J  (fun v66 h J S65 => ?_))
                have ev66 := jfull v66
                have Sm := jSm_tr rfl Sm S65
                show jX m_X11_beyond 8 0 0 79 [(3, .int (-1)), (0, .ref 31), (1, .int a1), (2, .int a2)] [.int v66] _ 0 0 _
                refine z_i2l rfl rfl (fun v67 ev67 => ?_)
                refine x_lconst (v := 0) rfl kl_0 ?_
                refine x_aloadn (x := 31) rfl rfl ?_
                refine z_getR (N := 13) (b := 98) 11 7 rfl f_11_66 rfl J rfl 3975 ⟨rfl, rfl⟩ rfl ?_
                refine z_getL0 (N := 16) 0 14 rfl f_11_362 rfl J rfl (fun v68 => ?_)
                have ev68 := jfullL v68
                refine z_lmax rfl q_11_485 (by decide) rfl jkl_0 rfl (fun v69 ev69 => ?_)
                refine z_lsub0 rfl (fun v70 => ?_)
                have ev70 := jfullL v70
                refine x_lstore (lsx9 := [(4, .long v70), (3, .int (-1)), (0, .ref 31), (1, .int a1), (2, .int a2)]) rfl rfl rfl ?_
                refine x_lconst (v := 0) rfl kl_0 ?_
                refine x_lload (x := v70) rfl rfl ?_
                refine z_lmax rfl q_11_485 (by decide) rfl jkl_0 rfl (fun v71 ev71 => ?_)
                refine z_l2i0 rfl (fun v72 => ?_)
                refine x_iret rfl rfl ?_
                exact hQ _ _ J Sm
              ·
                refine x_aloadn (x := 78) rfl rfl ?_
                refine z_getR (N := 16) (b := 79) 7 7 rfl f_7_27 rfl J rfl 9991 ⟨rfl, rfl⟩ rfl ?_
                refine x_iloadn (x := v9) rfl rfl ?_
                refine z_iald (N := 600) rfl J rfl sg_79_0_600_1_0_1 rfl (by omega) (fun v73 qv73 ev73 => ?_)
                refine x_iconst (v := (-1)) rfl ki_m1 ?_
                refine x_iceq (tgt := 41) rfl rfl (ti_eq rfl jk_m1 ⟨fun c74 => ?_, fun c74 => ?_⟩)
                ·
                  refine x_iconst (v := 0) rfl ki_0 ?_
                  refine x_zret rfl rfl (by decide) ?_
                  show jX m_X11_soulOn 7 0 0 15 [(0, .ref 31), (1, .int v9), (2, .int a2)] [.int 0] _ 0 0 _
                  refine x_ifne (tgt := 20) rfl rfl (ti_ne jk_0 jk_0 (bn_f (by omega) ?_))
                  refine x_iconst (v := (-1)) rfl ki_m1 ?_
                  refine x_iret rfl rfl ?_
                  show jX m_X11_beyond 8 0 0 35 [(0, .ref 31), (1, .int a1), (2, .int a2)] [.int (-1)] _ 0 0 _
                  refine x_istoren (lsx9 := [(3, .int (-1)), (0, .ref 31), (1, .int a1), (2, .int a2)]) rfl rfl rfl ?_
                  refine x_aloadn (x := 31) rfl rfl ?_
                  refine z_getR (N := 13) (b := 98) 11 7 rfl f_11_66 rfl J rfl 3975 ⟨rfl, rfl⟩ rfl ?_
                  refine x_aloadn (x := 31) rfl rfl ?_
                  refine z_getR (N := 13) (b := 32) 11 0 rfl f_11_10 rfl J rfl 3968 ⟨rfl, rfl⟩ rfl ?_
                  refine z_getR (N := 20) (b := 33) 1 0 rfl f_11_126 rfl J rfl 4096 ⟨rfl, rfl⟩ rfl ?_
                  refine x_iloadn (x := a1) rfl rfl ?_
                  refine x_iconst (v := 1) rfl ki_1 ?_
                  refine x_inv (N := m_X8_at) (As := [.int a1, .int 1]) (b := 33) (st := [.ref 98]) (dx9 := 1) (mc := 0) (ms := 0) (host := "") 8 rfl t_X8_at ⟨Or.inl q_11_171, i_X8_at.1, i_X8_at.2⟩ ⟨by decide, rfl⟩ (congrArg Prod.fst (J.1.1 33 (8, 4) rfl)) rfl (by decide) rfl rfl ⟨by decide, by decide⟩ (sf_X8_at_r33_c1  hD J  (fun v76 h ev76 J S75 => ?_))
                  have Sm := jSm_tr rfl Sm S75
                  show jX m_X11_beyond 8 0 0 52 [(3, .int (-1)), (0, .ref 31), (1, .int a1), (2, .int a2)] [.int v76, .ref 98] _ 0 0 _
                  refine x_iloadn (x := a2) rfl rfl ?_
                  refine x_inv (N := m_X0_turnTo) (As := [.int v76, .int a2]) (b := 98) (st := []) (dx9 := 7) (mc := 0) (ms := 0) (host := "") 0 rfl t_X0_turnTo ⟨Or.inl q_11_345, i_X0_turnTo.1, i_X0_turnTo.2⟩ ⟨by decide, rfl⟩ (congrArg Prod.fst (J.1.1 98 (0, 16) rfl)) rfl (by decide) rfl rfl ⟨by decide, by decide⟩ (jC.of rfl k_X0_turnTo rfl ?_)
                  show jX m_X0_turnTo 7 0 0 0 [(0, .ref 98), (1, .int v76), (2, .int a2)] [] _ 0 0 _
                  refine x_aloadn (x := 98) rfl rfl ?_
                  refine x_iloadn (x := v76) rfl rfl ?_
                  refine x_iloadn (x := a2) rfl rfl ?_
                  refine x_inv (N := m_X0_readLaws) (As := [.int v76, .int a2]) (b := 98) (st := []) (dx9 := 3) (mc := 0) (ms := 0) (host := "") 0 rfl t_X0_readLaws ⟨Or.inl q_0_65, i_X0_readLaws.1, i_X0_readLaws.2⟩ ⟨by decide, rfl⟩ (congrArg Prod.fst (J.1.1 98 (0, 16) rfl)) rfl (by decide) rfl rfl ⟨by decide, by decide⟩ (sf_X0_readLaws_r98 (jr_of rfl (by omega)) (jr_of rfl (by omega)) hD J  (fun h J S77 => ?_))
                  have Sm := jSm_tr rfl Sm S77
                  show jX m_X0_turnTo 7 0 0 6 [(0, .ref 98), (1, .int v76), (2, .int a2)] [] _ 0 0 _
                  refine x_aloadn (x := 98) rfl rfl ?_
                  refine x_iloadn (x := v76) rfl rfl ?_
                  refine x_iloadn (x := a2) rfl rfl ?_
                  refine x_inv (N := m_X0_readHouses) (As := [.int v76, .int a2]) (b := 98) (st := []) (dx9 := 3) (mc := 0) (ms := 0) (host := "") 0 rfl t_X0_readHouses ⟨Or.inl q_0_69, i_X0_readHouses.1, i_X0_readHouses.2⟩ ⟨by decide, rfl⟩ (congrArg Prod.fst (J.1.1 98 (0, 16) rfl)) rfl (by decide) rfl rfl ⟨by decide, by decide⟩ (sf_X0_readHouses_r98 (jr_of rfl (by omega)) (jr_of rfl (by omega)) hD J  (fun h J S78 => ?_))
                  have Sm := jSm_tr rfl Sm S78
                  show jX m_X0_turnTo 7 0 0 12 [(0, .ref 98), (1, .int v76), (2, .int a2)] [] _ 0 0 _
                  refine x_vret rfl rfl ?_
                  show jX m_X11_beyond 8 0 0 56 [(3, .int (-1)), (0, .ref 31), (1, .int a1), (2, .int a2)] [] _ 0 0 _
                  refine x_aloadn (x := 31) rfl rfl ?_
                  refine z_getR (N := 13) (b := 98) 11 7 rfl f_11_66 rfl J rfl 3975 ⟨rfl, rfl⟩ rfl ?_
                  refine x_iconst (v := 3) rfl ki_3 ?_
                  refine x_iconst (v := 0) rfl ki_0 ?_
                  refine x_iloadn (x := (-1)) rfl rfl ?_
                  refine x_inv (N := m_X0_weigh) (As := [.int 3, .int 0, .int (-1)]) (b := 98) (st := []) (dx9 := 6) (mc := 0) (ms := 0) (host := "") 0 rfl t_X0_weigh ⟨Or.inl q_11_359, i_X0_weigh.1, i_X0_weigh.2⟩ ⟨by decide, rfl⟩ (congrArg Prod.fst (J.1.1 98 (0, 16) rfl)) rfl (by decide) rfl rfl ⟨by decide, by decide⟩ (sf_X0_weigh_r98 (jr_of jk_3 (by omega)) (jr_of jk_0 (by omega)) (jr_of jk_m1 (by omega)) hD J  (fun v80 h ev80 J S79 => ?_))
                  have Sm := jSm_tr rfl Sm S79
                  show jX m_X11_beyond 8 0 0 66 [(3, .int (-1)), (0, .ref 31), (1, .int a1), (2, .int a2)] [.int v80] _ 0 0 _
                  refine x_pop rfl rfl ?_
                  refine x_aloadn (x := 31) rfl rfl ?_
                  refine z_getR (N := 13) (b := 32) 11 0 rfl f_11_10 rfl J rfl 3968 ⟨rfl, rfl⟩ rfl ?_
                  refine z_getR (N := 20) (b := 33) 1 0 rfl f_11_126 rfl J rfl 4096 ⟨rfl, rfl⟩ rfl ?_
                  refine x_iloadn (x := a1) rfl rfl ?_
                  refine x_iconst (v := 4) rfl ki_4 ?_
                  refine x_inv (N := m_X8_at) (As := [.int a1, .int 4]) (b := 33) (st := []) (dx9 := 1) (mc := 0) (ms := 0) (host := "") 8 rfl t_X8_at ⟨Or.inl q_11_171, i_X8_at.1, i_X8_at.2⟩ ⟨by decide, rfl⟩ (congrArg Prod.fst (J.1.1 33 (8, 4) rfl)) rfl (by decide) rfl rfl ⟨by decide, by decide⟩ (sf_X8_at_r33_c4  hD J  (fun v82 h J S81 => ?_))
                  have ev82 := jfull v82
                  have Sm := jSm_tr rfl Sm S81
                  show jX m_X11_beyond 8 0 0 79 [(3, .int (-1)), (0, .ref 31), (1, .int a1), (2, .int a2)] [.int v82] _ 0 0 _
                  refine z_i2l rfl rfl (fun v83 ev83 => ?_)
                  refine x_lconst (v := 0) rfl kl_0 ?_
                  refine x_aloadn (x := 31) rfl rfl ?_
                  refine z_getR (N := 13) (b := 98) 11 7 rfl f_11_66 rfl J rfl 3975 ⟨rfl, rfl⟩ rfl ?_
                  refine z_getL0 (N := 16) 0 14 rfl f_11_362 rfl J rfl (fun v84 => ?_)
                  have ev84 := jfullL v84
                  refine z_lmax rfl q_11_485 (by decide) rfl jkl_0 rfl (fun v85 ev85 => ?_)
                  refine z_lsub0 rfl (fun v86 => ?_)
                  have ev86 := jfullL v86
                  refine x_lstore (lsx9 := [(4, .long v86), (3, .int (-1)), (0, .ref 31), (1, .int a1), (2, .int a2)]) rfl rfl rfl ?_
                  refine x_lconst (v := 0) rfl kl_0 ?_
                  refine x_lload (x := v86) rfl rfl ?_
                  refine z_lmax rfl q_11_485 (by decide) rfl jkl_0 rfl (fun v87 ev87 => ?_)
                  refine z_l2i0 rfl (fun v88 => ?_)
                  refine x_iret rfl rfl ?_
                  exact hQ _ _ J Sm
                ·
                  refine x_iconst (v := 1) rfl ki_1 ?_
                  refine x_goto (tgt := 42) rfl rfl ?_
                  refine x_zret rfl rfl (by decide) ?_
                  show jX m_X11_soulOn 7 0 0 15 [(0, .ref 31), (1, .int v9), (2, .int a2)] [.int 1] _ 0 0 _
                  refine x_ifne (tgt := 20) rfl rfl (ti_ne jk_1 jk_0 (bn_t (by omega) ?_))
                  refine x_aloadn (x := 31) rfl rfl ?_
                  refine z_getR (N := 13) (b := 78) 11 4 rfl f_11_41 rfl J rfl 3972 ⟨rfl, rfl⟩ rfl ?_
                  refine x_iloadn (x := a2) rfl rfl ?_
                  refine x_inv (N := m_X7_asKnown) (As := [.int a2]) (b := 78) (st := []) (dx9 := 6) (mc := 0) (ms := 0) (host := "") 7 rfl t_X7_asKnown ⟨Or.inl q_11_240, i_X7_asKnown.1, i_X7_asKnown.2⟩ ⟨by decide, rfl⟩ (congrArg Prod.fst (J.1.1 78 (7, 16) rfl)) rfl (by decide) rfl rfl ⟨by decide, by decide⟩ (sf_X7_asKnown_r78 (jr_of rfl (by omega)) hD J  (fun h J S89 => ?_))
                  have Sm := jSm_tr rfl Sm S89
                  show jX m_X11_soulOn 7 0 0 28 [(0, .ref 31), (1, .int v9), (2, .int a2)] [] _ 0 0 _
                  refine x_aloadn (x := 31) rfl rfl ?_
                  refine z_getR (N := 13) (b := 78) 11 4 rfl f_11_41 rfl J rfl 3972 ⟨rfl, rfl⟩ rfl ?_
                  refine z_getR (N := 16) (b := 82) 7 10 rfl f_11_537 rfl J rfl 9994 ⟨rfl, rfl⟩ rfl ?_
                  refine x_iloadn (x := v9) rfl rfl ?_
                  refine z_iald (N := 600) rfl J rfl sg_82_0_600_1_0_1 rfl (by omega) (fun v90 qv90 ev90 => ?_)
                  refine x_iret rfl rfl ?_
                  show jX m_X11_beyond 8 0 0 35 [(0, .ref 31), (1, .int a1), (2, .int a2)] [.int v90] _ 0 0 _
                  refine x_istoren (lsx9 := [(3, .int v90), (0, .ref 31), (1, .int a1), (2, .int a2)]) rfl rfl rfl ?_
                  refine x_aloadn (x := 31) rfl rfl ?_
                  refine z_getR (N := 13) (b := 98) 11 7 rfl f_11_66 rfl J rfl 3975 ⟨rfl, rfl⟩ rfl ?_
                  refine x_aloadn (x := 31) rfl rfl ?_
                  refine z_getR (N := 13) (b := 32) 11 0 rfl f_11_10 rfl J rfl 3968 ⟨rfl, rfl⟩ rfl ?_
                  refine z_getR (N := 20) (b := 33) 1 0 rfl f_11_126 rfl J rfl 4096 ⟨rfl, rfl⟩ rfl ?_
                  refine x_iloadn (x := a1) rfl rfl ?_
                  refine x_iconst (v := 1) rfl ki_1 ?_
                  refine x_inv (N := m_X8_at) (As := [.int a1, .int 1]) (b := 33) (st := [.ref 98]) (dx9 := 1) (mc := 0) (ms := 0) (host := "") 8 rfl t_X8_at ⟨Or.inl q_11_171, i_X8_at.1, i_X8_at.2⟩ ⟨by decide, rfl⟩ (congrArg Prod.fst (J.1.1 33 (8, 4) rfl)) rfl (by decide) rfl rfl ⟨by decide, by decide⟩ (sf_X8_at_r33_c1  hD J  (fun v92 h ev92 J S91 => ?_))
                  have Sm := jSm_tr rfl Sm S91
                  show jX m_X11_beyond 8 0 0 52 [(3, .int v90), (0, .ref 31), (1, .int a1), (2, .int a2)] [.int v92, .ref 98] _ 0 0 _
                  refine x_iloadn (x := a2) rfl rfl ?_
                  refine x_inv (N := m_X0_turnTo) (As := [.int v92, .int a2]) (b := 98) (st := []) (dx9 := 7) (mc := 0) (ms := 0) (host := "") 0 rfl t_X0_turnTo ⟨Or.inl q_11_345, i_X0_turnTo.1, i_X0_turnTo.2⟩ ⟨by decide, rfl⟩ (congrArg Prod.fst (J.1.1 98 (0, 16) rfl)) rfl (by decide) rfl rfl ⟨by decide, by decide⟩ (jC.of rfl k_X0_turnTo rfl ?_)
                  show jX m_X0_turnTo 7 0 0 0 [(0, .ref 98), (1, .int v92), (2, .int a2)] [] _ 0 0 _
                  refine x_aloadn (x := 98) rfl rfl ?_
                  refine x_iloadn (x := v92) rfl rfl ?_
                  refine x_iloadn (x := a2) rfl rfl ?_
                  refine x_inv (N := m_X0_readLaws) (As := [.int v92, .int a2]) (b := 98) (st := []) (dx9 := 3) (mc := 0) (ms := 0) (host := "") 0 rfl t_X0_readLaws ⟨Or.inl q_0_65, i_X0_readLaws.1, i_X0_readLaws.2⟩ ⟨by decide, rfl⟩ (congrArg Prod.fst (J.1.1 98 (0, 16) rfl)) rfl (by decide) rfl rfl ⟨by decide, by decide⟩ (sf_X0_readLaws_r98 (jr_of rfl (by omega)) (jr_of rfl (by omega)) hD J  (fun h J S93 => ?_))
                  have Sm := jSm_tr rfl Sm S93
                  show jX m_X0_turnTo 7 0 0 6 [(0, .ref 98), (1, .int v92), (2, .int a2)] [] _ 0 0 _
                  refine x_aloadn (x := 98) rfl rfl ?_
                  refine x_iloadn (x := v92) rfl rfl ?_
                  refine x_iloadn (x := a2) rfl rfl ?_
                  refine x_inv (N := m_X0_readHouses) (As := [.int v92, .int a2]) (b := 98) (st := []) (dx9 := 3) (mc := 0) (ms := 0) (host := "") 0 rfl t_X0_readHouses ⟨Or.inl q_0_69, i_X0_readHouses.1, i_X0_readHouses.2⟩ ⟨by decide, rfl⟩ (congrArg Prod.fst (J.1.1 98 (0, 16) rfl)) rfl (by decide) rfl rfl ⟨by decide, by decide⟩ (sf_X0_readHouses_r98 (jr_of rfl (by omega)) (jr_of rfl (by omega)) hD J  (fun h J S94 => ?_))
                  have Sm := jSm_tr rfl Sm S94
                  show jX m_X0_turnTo 7 0 0 12 [(0, .ref 98), (1, .int v92), (2, .int a2)] [] _ 0 0 _
                  refine x_vret rfl rfl ?_
                  show jX m_X11_beyond 8 0 0 56 [(3, .int v90), (0, .ref 31), (1, .int a1), (2, .int a2)] [] _ 0 0 _
                  refine x_aloadn (x := 31) rfl rfl ?_
                  refine z_getR (N := 13) (b := 98) 11 7 rfl f_11_66 rfl J rfl 3975 ⟨rfl, rfl⟩ rfl ?_
                  refine x_iconst (v := 3) rfl ki_3 ?_
                  refine x_iconst (v := 0) rfl ki_0 ?_
                  refine x_iloadn (x := v90) rfl rfl ?_
                  refine x_inv (N := m_X0_weigh) (As := [.int 3, .int 0, .int v90]) (b := 98) (st := []) (dx9 := 6) (mc := 0) (ms := 0) (host := "") 0 rfl t_X0_weigh ⟨Or.inl q_11_359, i_X0_weigh.1, i_X0_weigh.2⟩ ⟨by decide, rfl⟩ (congrArg Prod.fst (J.1.1 98 (0, 16) rfl)) rfl (by decide) rfl rfl ⟨by decide, by decide⟩ (sf_X0_weigh_r98 (jr_of jk_3 (by omega)) (jr_of jk_0 (by omega)) (jr_of rfl (by omega)) hD J  (fun v96 h ev96 J S95 => ?_))
                  have Sm := jSm_tr rfl Sm S95
                  show jX m_X11_beyond 8 0 0 66 [(3, .int v90), (0, .ref 31), (1, .int a1), (2, .int a2)] [.int v96] _ 0 0 _
                  refine x_pop rfl rfl ?_
                  refine x_aloadn (x := 31) rfl rfl ?_
                  refine z_getR (N := 13) (b := 32) 11 0 rfl f_11_10 rfl J rfl 3968 ⟨rfl, rfl⟩ rfl ?_
                  refine z_getR (N := 20) (b := 33) 1 0 rfl f_11_126 rfl J rfl 4096 ⟨rfl, rfl⟩ rfl ?_
                  refine x_iloadn (x := a1) rfl rfl ?_
                  refine x_iconst (v := 4) rfl ki_4 ?_
                  refine x_inv (N := m_X8_at) (As := [.int a1, .int 4]) (b := 33) (st := []) (dx9 := 1) (mc := 0) (ms := 0) (host := "") 8 rfl t_X8_at ⟨Or.inl q_11_171, i_X8_at.1, i_X8_at.2⟩ ⟨by decide, rfl⟩ (congrArg Prod.fst (J.1.1 33 (8, 4) rfl)) rfl (by decide) rfl rfl ⟨by decide, by decide⟩ (sf_X8_at_r33_c4  hD J  (fun v98 h J S97 => ?_))
                  have ev98 := jfull v98
                  have Sm := jSm_tr rfl Sm S97
                  show jX m_X11_beyond 8 0 0 79 [(3, .int v90), (0, .ref 31), (1, .int a1), (2, .int a2)] [.int v98] _ 0 0 _
                  refine z_i2l rfl rfl (fun v99 ev99 => ?_)
                  refine x_lconst (v := 0) rfl kl_0 ?_
                  refine x_aloadn (x := 31) rfl rfl ?_
                  refine z_getR (N := 13) (b := 98) 11 7 rfl f_11_66 rfl J rfl 3975 ⟨rfl, rfl⟩ rfl ?_
                  refine z_getL0 (N := 16) 0 14 rfl f_11_362 rfl J rfl (fun v100 => ?_)
                  have ev100 := jfullL v100
                  refine z_lmax rfl q_11_485 (by decide) rfl jkl_0 rfl (fun v101 ev101 => ?_)
                  refine z_lsub0 rfl (fun v102 => ?_)
                  have ev102 := jfullL v102
                  refine x_lstore (lsx9 := [(4, .long v102), (3, .int v90), (0, .ref 31), (1, .int a1), (2, .int a2)]) rfl rfl rfl ?_
                  refine x_lconst (v := 0) rfl kl_0 ?_
                  refine x_lload (x := v102) rfl rfl ?_
                  refine z_lmax rfl q_11_485 (by decide) rfl jkl_0 rfl (fun v103 ev103 => ?_)
                  refine z_l2i0 rfl (fun v104 => ?_)
                  refine x_iret rfl rfl ?_
                  exact hQ _ _ J Sm
      ·
        exact jX.sub jsb_n (ct_X11_beyond_r31_25 hD hQ  h J Sm)
def fp_X11_clear_r31 : jFp := [(87, 3, 4), (87, 13, 14)]
set_option maxRecDepth 100000 in
set_option maxHeartbeats 4000000 in
theorem sf_X11_clear_r31 {Dy : jH → Prop} {h : jH} {Q : Option Value → jH → Prop} (hD : jDk Dy) (J : jJ jSgX Dy h) (hQ : ∀ (v : Int32) hx9, 0 ≤ v.toInt ∧ v.toInt ≤ 9 → jJ jSgX Dy hx9 → jSm fp_X11_clear_r31 h hx9 → Q (some (.int v)) hx9) : jC m_X11_clear 2 0 0 [.ref 31] h Q := by
  refine jC.of rfl k_X11_clear rfl ?_
  have Sm := jSm_rf fp_X11_clear_r31 h
  show jX m_X11_clear 2 0 0 0 [(0, .ref 31)] [] _ 0 0 _
  refine x_aloadn (x := 31) rfl rfl ?_
  refine z_getR (N := 13) (b := 87) 11 5 rfl f_11_50 rfl J rfl 3973 ⟨rfl, rfl⟩ rfl ?_
  refine z_getI (N := 14) 3 3 rfl f_11_273 rfl J rfl sg_87_3_4_1_0_1 (fun v1 qv1 ev1 => ?_)
  refine x_istoren (lsx9 := [(1, .int v1), (0, .ref 31)]) rfl rfl rfl ?_
  refine x_aloadn (x := 31) rfl rfl ?_
  refine z_getR (N := 13) (b := 87) 11 5 rfl f_11_50 rfl J rfl 3973 ⟨rfl, rfl⟩ rfl ?_
  refine x_inv (N := m_X3_empty) (As := []) (b := 87) (st := []) (dx9 := 1) (mc := 0) (ms := 0) (host := "") 3 rfl t_X3_empty ⟨Or.inl q_11_279, i_X3_empty.1, i_X3_empty.2⟩ ⟨by decide, rfl⟩ (congrArg Prod.fst (J.1.1 87 (3, 14) rfl)) rfl (by decide) rfl rfl ⟨by decide, by decide⟩ (jC.of rfl k_X3_empty rfl ?_)
  show jX m_X3_empty 1 0 0 0 [(0, .ref 87)] [] _ 0 0 _
  refine x_aloadn (x := 87) rfl rfl ?_
  refine x_iconst (v := 0) rfl ki_0 ?_
  refine z_putI (N := 14) (w := 0) 3 3 rfl f_3_15 rfl (jfin_no TX3 RX3 14 rfl rfl) hD J Sm rfl rfl jk_0 (pw_87_3 (by omega)) rfl (fun h w2 J Sm => ?_)
  refine x_aloadn (x := 87) rfl rfl ?_
  refine x_iconst (v := 0) rfl ki_0 ?_
  refine z_putI (N := 14) (w := 0) 3 13 rfl f_3_46 rfl (jfin_no TX3 RX3 14 rfl rfl) hD J Sm rfl rfl jk_0 (pw_87_13 trivial) rfl (fun h w3 J Sm => ?_)
  refine x_vret rfl rfl ?_
  show jX m_X11_clear 2 0 0 15 [(1, .int v1), (0, .ref 31)] [] _ 0 0 _
  refine x_iloadn (x := v1) rfl rfl ?_
  refine x_iret rfl rfl ?_
  exact hQ _ _ (jr_of rfl (by omega)) J Sm
def fp_X11_lastClosed_r31 : jFp := []
set_option maxRecDepth 100000 in
set_option maxHeartbeats 4000000 in
theorem ct_X11_lastClosed_r31_13 {Dy : jH → Prop} {h0 : jH} {Q : Option Value → jH → Prop} (hD : jDk Dy) (hQ : ∀ (v : Int32) hx9, (-1) ≤ v.toInt ∧ v.toInt ≤ 399 → jJ jSgX Dy hx9 → jSm fp_X11_lastClosed_r31 h0 hx9 → Q (some (.int v)) hx9) : ∀ r : Nat, ∀ (l1 : Int32) (l2 : Int32) (h : jH), l2.toInt - (-1) < (r : Int) → 0 ≤ l1.toInt ∧ l1.toInt ≤ 3 → (-1) ≤ l2.toInt ∧ l2.toInt ≤ 39 → jJ jSgX Dy h → jSm fp_X11_lastClosed_r31 h0 h → jX m_X11_lastClosed 2 0 0 13 [(0, .ref 31), (1, .int l1), (2, .int l2)] [] h 0 0 Q := by
  intro r
  induction r with
  | zero =>
    intro l1 l2 h hm y0 y1   J Sm
    exfalso
    omega
  | succ r ih =>
    intro l1 l2 h hm y0 y1   J Sm
    refine x_iloadn (x := l2) rfl rfl ?_
    refine x_iflt (tgt := 52) rfl rfl (ti_lt rfl jk_0 ⟨fun c1 => ?_, fun c1 => ?_⟩)
    ·
      refine x_iconst (v := (-1)) rfl ki_m1 ?_
      refine x_iret rfl rfl ?_
      exact hQ _ _ (jr_of jk_m1 (by omega)) J Sm
    ·
      refine x_aloadn (x := 31) rfl rfl ?_
      refine z_getR (N := 13) (b := 32) 11 0 rfl f_11_10 rfl J rfl 3968 ⟨rfl, rfl⟩ rfl ?_
      refine z_getR (N := 20) (b := 59) 1 13 rfl f_11_482 rfl J rfl 4109 ⟨rfl, rfl⟩ rfl ?_
      refine x_iloadn (x := l2) rfl rfl ?_
      refine x_iconst (v := 2) rfl ki_2 ?_
      refine x_inv (N := m_X8_at) (As := [.int l2, .int 2]) (b := 59) (st := []) (dx9 := 1) (mc := 0) (ms := 0) (host := "") 8 rfl t_X8_at ⟨Or.inl q_11_171, i_X8_at.1, i_X8_at.2⟩ ⟨by decide, rfl⟩ (congrArg Prod.fst (J.1.1 59 (8, 4) rfl)) rfl (by decide) rfl rfl ⟨by decide, by decide⟩ (sf_X8_at_r59_c2 (jr_of rfl (by omega)) hD J  (fun v3 h ev3 J S2 => ?_))
      have Sm := jSm_tr rfl Sm S2
      show jX m_X11_lastClosed 2 0 0 29 [(0, .ref 31), (1, .int l1), (2, .int l2)] [.int v3] _ 0 0 _
      refine x_iloadn (x := l1) rfl rfl ?_
      refine x_icne (tgt := 46) rfl rfl (ti_ne rfl rfl ⟨fun c4 => ?_, fun c4 => ?_⟩)
      ·
        refine z_iinc (x := l2) (lsx9 := fun v5 => [(2, .int v5), (0, .ref 31), (1, .int l1)]) rfl rfl rfl jko_m1 (by omega) rfl (fun _ => rfl) (fun v5 ev5 => ?_)
        refine x_goto (tgt := 13) rfl rfl ?_
        exact jX.sub (jsb_c rfl (jsb_c rfl (jsb_c rfl jsb_n))) (ih l1 v5 h (by omega) (jr_of rfl (by omega)) (jr_of rfl (by omega)) J Sm)
      ·
        refine x_aloadn (x := 31) rfl rfl ?_
        refine z_getR (N := 13) (b := 32) 11 0 rfl f_11_10 rfl J rfl 3968 ⟨rfl, rfl⟩ rfl ?_
        refine z_getR (N := 20) (b := 59) 1 13 rfl f_11_482 rfl J rfl 4109 ⟨rfl, rfl⟩ rfl ?_
        refine x_iloadn (x := l2) rfl rfl ?_
        refine x_iconst (v := 1) rfl ki_1 ?_
        refine x_inv (N := m_X8_at) (As := [.int l2, .int 1]) (b := 59) (st := []) (dx9 := 1) (mc := 0) (ms := 0) (host := "") 8 rfl t_X8_at ⟨Or.inl q_11_171, i_X8_at.1, i_X8_at.2⟩ ⟨by decide, rfl⟩ (congrArg Prod.fst (J.1.1 59 (8, 4) rfl)) rfl (by decide) rfl rfl ⟨by decide, by decide⟩ (sf_X8_at_r59_c1 (jr_of rfl (by omega)) hD J  (fun v7 h ev7 J S6 => ?_))
        have Sm := jSm_tr rfl Sm S6
        show jX m_X11_lastClosed 2 0 0 45 [(0, .ref 31), (1, .int l1), (2, .int l2)] [.int v7] _ 0 0 _
        refine x_iret rfl rfl ?_
        exact hQ _ _ (jr_of rfl (by omega)) J Sm
set_option maxRecDepth 100000 in
set_option maxHeartbeats 4000000 in
theorem sf_X11_lastClosed_r31 {Dy : jH → Prop} {h : jH} {Q : Option Value → jH → Prop} {a1 : Int32} (y1 : 0 ≤ a1.toInt ∧ a1.toInt ≤ 3) (hD : jDk Dy) (J : jJ jSgX Dy h) (hQ : ∀ (v : Int32) hx9, (-1) ≤ v.toInt ∧ v.toInt ≤ 399 → jJ jSgX Dy hx9 → jSm fp_X11_lastClosed_r31 h hx9 → Q (some (.int v)) hx9) : jC m_X11_lastClosed 2 0 0 [.ref 31, .int a1] h Q := by
  refine jC.of rfl k_X11_lastClosed rfl ?_
  have Sm := jSm_rf fp_X11_lastClosed_r31 h
  show jX m_X11_lastClosed 2 0 0 0 [(0, .ref 31), (1, .int a1)] [] _ 0 0 _
  refine x_aloadn (x := 31) rfl rfl ?_
  refine z_getR (N := 13) (b := 32) 11 0 rfl f_11_10 rfl J rfl 3968 ⟨rfl, rfl⟩ rfl ?_
  refine z_getR (N := 20) (b := 59) 1 13 rfl f_11_482 rfl J rfl 4109 ⟨rfl, rfl⟩ rfl ?_
  refine z_getI (N := 4) 8 3 rfl f_11_142 rfl J rfl sg_59_3_4_1_0_1 (fun v1 qv1 ev1 => ?_)
  refine x_iconst (v := 1) rfl ki_1 ?_
  refine z_isub rfl rfl jk_1 (by omega) (fun v2 ev2 => ?_)
  refine x_istoren (lsx9 := [(2, .int v2), (0, .ref 31), (1, .int a1)]) rfl rfl rfl ?_
  exact jX.sub (jsb_c rfl (jsb_c rfl (jsb_c rfl jsb_n))) (ct_X11_lastClosed_r31_13 hD hQ  41 a1 v2 h (by omega) (jr_of rfl (by omega)) (jr_of rfl (by omega)) J Sm)
def fp_X8_put_r59_c0 : jFp := [(60, 0, 160)]
set_option maxRecDepth 100000 in
set_option maxHeartbeats 4000000 in
theorem ct_X8_put_r59_c0_38 {Dy : jH → Prop} {h0 : jH} {Q : Option Value → jH → Prop} (hD : jDk Dy) (hQ : ∀ hx9, jJ jSgX Dy hx9 → jSm fp_X8_put_r59_c0 h0 hx9 → Q none hx9) : ∀ (h : jH), jJ jSgX Dy h → jSm fp_X8_put_r59_c0 h0 h → jX m_X8_put 1 0 0 38 [] [] h 0 0 Q := by
  intro  h    J Sm
  refine x_vret rfl rfl ?_
  exact hQ _ J Sm
set_option maxRecDepth 100000 in
set_option maxHeartbeats 4000000 in
theorem sf_X8_put_r59_c0 {Dy : jH → Prop} {h : jH} {Q : Option Value → jH → Prop} {a1 : Int32} {a3 : Int32} (y1 : 0 ≤ a1.toInt ∧ a1.toInt ≤ 39) (y3 : 0 ≤ a3.toInt ∧ a3.toInt ≤ 146399) (hD : jDk Dy) (J : jJ jSgX Dy h) (hQ : ∀ hx9, jJ jSgX Dy hx9 → jSm fp_X8_put_r59_c0 h hx9 → Q none hx9) : jC m_X8_put 1 0 0 [.ref 59, .int a1, .int 0, .int a3] h Q := by
  refine jC.of rfl k_X8_put rfl ?_
  have Sm := jSm_rf fp_X8_put_r59_c0 h
  show jX m_X8_put 1 0 0 0 [(0, .ref 59), (1, .int a1), (2, .int 0), (3, .int a3)] [] _ 0 0 _
  refine x_iloadn (x := a1) rfl rfl ?_
  refine x_iflt (tgt := 38) rfl rfl (ti_lt rfl jk_0 (br_f (by omega) ?_))
  refine x_iloadn (x := a1) rfl rfl ?_
  refine x_aloadn (x := 59) rfl rfl ?_
  refine z_getI (N := 4) 8 3 rfl f_8_7 rfl J rfl sg_59_3_4_1_0_1 (fun v1 qv1 ev1 => ?_)
  refine x_icge (tgt := 38) rfl rfl (ti_ge rfl rfl ⟨fun c2 => ?_, fun c2 => ?_⟩)
  ·
    exact jX.sub jsb_n (ct_X8_put_r59_c0_38 hD hQ  h J Sm)
  ·
    refine x_iloadn (x := 0) rfl rfl ?_
    refine x_iflt (tgt := 38) rfl rfl (ti_lt jk_0 jk_0 (br_f (by omega) ?_))
    refine x_iloadn (x := 0) rfl rfl ?_
    refine x_aloadn (x := 59) rfl rfl ?_
    refine z_getC (N := 4) (v := 4) 8 0 rfl f_8_19 rfl J rfl sg_59_0_1_1_0_1 jk_4 ?_
    refine x_icge (tgt := 38) rfl rfl (ti_ge jk_0 jk_4 (br_f (by omega) ?_))
    refine x_aloadn (x := 59) rfl rfl ?_
    refine z_getR (N := 4) (b := 60) 8 2 rfl f_8_25 rfl J rfl 7554 ⟨rfl, rfl⟩ rfl ?_
    refine x_iloadn (x := a1) rfl rfl ?_
    refine x_aloadn (x := 59) rfl rfl ?_
    refine z_getC (N := 4) (v := 4) 8 0 rfl f_8_19 rfl J rfl sg_59_0_1_1_0_1 jk_4 ?_
    refine z_imul rfl rfl jk_4 (by omega) (fun v3 ev3 => ?_)
    refine x_iloadn (x := 0) rfl rfl ?_
    refine z_iadd rfl rfl jk_0 (by omega) (fun v4 ev4 => ?_)
    refine x_iloadn (x := a3) rfl rfl ?_
    refine z_iast (N := 160) (l := 0) (u := 160) (w := a3.toInt) rfl hD J Sm rfl rfl rfl (by omega) rfl (wr_60 (fun q1 q2 q3 q4 => by omega) (fun q1 q2 q3 q4 => by omega) (fun q1 q2 q3 q4 => by omega)) rfl (fun h w5 J Sm => ?_)
    exact jX.sub jsb_n (ct_X8_put_r59_c0_38 hD hQ  h J Sm)
def fp_X8_put_r59_c1 : jFp := [(60, 0, 160)]
set_option maxRecDepth 100000 in
set_option maxHeartbeats 4000000 in
theorem ct_X8_put_r59_c1_38 {Dy : jH → Prop} {h0 : jH} {Q : Option Value → jH → Prop} (hD : jDk Dy) (hQ : ∀ hx9, jJ jSgX Dy hx9 → jSm fp_X8_put_r59_c1 h0 hx9 → Q none hx9) : ∀ (h : jH), jJ jSgX Dy h → jSm fp_X8_put_r59_c1 h0 h → jX m_X8_put 1 0 0 38 [] [] h 0 0 Q := by
  intro  h    J Sm
  refine x_vret rfl rfl ?_
  exact hQ _ J Sm
set_option maxRecDepth 100000 in
set_option maxHeartbeats 4000000 in
theorem sf_X8_put_r59_c1 {Dy : jH → Prop} {h : jH} {Q : Option Value → jH → Prop} {a1 : Int32} {a3 : Int32} (y1 : 0 ≤ a1.toInt ∧ a1.toInt ≤ 39) (y3 : 0 ≤ a3.toInt ∧ a3.toInt ≤ 399) (hD : jDk Dy) (J : jJ jSgX Dy h) (hQ : ∀ hx9, jJ jSgX Dy hx9 → jSm fp_X8_put_r59_c1 h hx9 → Q none hx9) : jC m_X8_put 1 0 0 [.ref 59, .int a1, .int 1, .int a3] h Q := by
  refine jC.of rfl k_X8_put rfl ?_
  have Sm := jSm_rf fp_X8_put_r59_c1 h
  show jX m_X8_put 1 0 0 0 [(0, .ref 59), (1, .int a1), (2, .int 1), (3, .int a3)] [] _ 0 0 _
  refine x_iloadn (x := a1) rfl rfl ?_
  refine x_iflt (tgt := 38) rfl rfl (ti_lt rfl jk_0 (br_f (by omega) ?_))
  refine x_iloadn (x := a1) rfl rfl ?_
  refine x_aloadn (x := 59) rfl rfl ?_
  refine z_getI (N := 4) 8 3 rfl f_8_7 rfl J rfl sg_59_3_4_1_0_1 (fun v1 qv1 ev1 => ?_)
  refine x_icge (tgt := 38) rfl rfl (ti_ge rfl rfl ⟨fun c2 => ?_, fun c2 => ?_⟩)
  ·
    exact jX.sub jsb_n (ct_X8_put_r59_c1_38 hD hQ  h J Sm)
  ·
    refine x_iloadn (x := 1) rfl rfl ?_
    refine x_iflt (tgt := 38) rfl rfl (ti_lt jk_1 jk_0 (br_f (by omega) ?_))
    refine x_iloadn (x := 1) rfl rfl ?_
    refine x_aloadn (x := 59) rfl rfl ?_
    refine z_getC (N := 4) (v := 4) 8 0 rfl f_8_19 rfl J rfl sg_59_0_1_1_0_1 jk_4 ?_
    refine x_icge (tgt := 38) rfl rfl (ti_ge jk_1 jk_4 (br_f (by omega) ?_))
    refine x_aloadn (x := 59) rfl rfl ?_
    refine z_getR (N := 4) (b := 60) 8 2 rfl f_8_25 rfl J rfl 7554 ⟨rfl, rfl⟩ rfl ?_
    refine x_iloadn (x := a1) rfl rfl ?_
    refine x_aloadn (x := 59) rfl rfl ?_
    refine z_getC (N := 4) (v := 4) 8 0 rfl f_8_19 rfl J rfl sg_59_0_1_1_0_1 jk_4 ?_
    refine z_imul rfl rfl jk_4 (by omega) (fun v3 ev3 => ?_)
    refine x_iloadn (x := 1) rfl rfl ?_
    refine z_iadd rfl rfl jk_1 (by omega) (fun v4 ev4 => ?_)
    refine x_iloadn (x := a3) rfl rfl ?_
    refine z_iast (N := 160) (l := 0) (u := 160) (w := a3.toInt) rfl hD J Sm rfl rfl rfl (by omega) rfl (wr_60 (fun q1 q2 q3 q4 => by omega) (fun q1 q2 q3 q4 => by omega) (fun q1 q2 q3 q4 => by omega)) rfl (fun h w5 J Sm => ?_)
    exact jX.sub jsb_n (ct_X8_put_r59_c1_38 hD hQ  h J Sm)
def fp_X8_put_r59_c2 : jFp := [(60, 0, 160)]
set_option maxRecDepth 100000 in
set_option maxHeartbeats 4000000 in
theorem ct_X8_put_r59_c2_38 {Dy : jH → Prop} {h0 : jH} {Q : Option Value → jH → Prop} (hD : jDk Dy) (hQ : ∀ hx9, jJ jSgX Dy hx9 → jSm fp_X8_put_r59_c2 h0 hx9 → Q none hx9) : ∀ (h : jH), jJ jSgX Dy h → jSm fp_X8_put_r59_c2 h0 h → jX m_X8_put 1 0 0 38 [] [] h 0 0 Q := by
  intro  h    J Sm
  refine x_vret rfl rfl ?_
  exact hQ _ J Sm
set_option maxRecDepth 100000 in
set_option maxHeartbeats 4000000 in
theorem sf_X8_put_r59_c2 {Dy : jH → Prop} {h : jH} {Q : Option Value → jH → Prop} {a1 : Int32} {a3 : Int32} (y1 : 0 ≤ a1.toInt ∧ a1.toInt ≤ 39) (y3 : 0 ≤ a3.toInt ∧ a3.toInt ≤ 3) (hD : jDk Dy) (J : jJ jSgX Dy h) (hQ : ∀ hx9, jJ jSgX Dy hx9 → jSm fp_X8_put_r59_c2 h hx9 → Q none hx9) : jC m_X8_put 1 0 0 [.ref 59, .int a1, .int 2, .int a3] h Q := by
  refine jC.of rfl k_X8_put rfl ?_
  have Sm := jSm_rf fp_X8_put_r59_c2 h
  show jX m_X8_put 1 0 0 0 [(0, .ref 59), (1, .int a1), (2, .int 2), (3, .int a3)] [] _ 0 0 _
  refine x_iloadn (x := a1) rfl rfl ?_
  refine x_iflt (tgt := 38) rfl rfl (ti_lt rfl jk_0 (br_f (by omega) ?_))
  refine x_iloadn (x := a1) rfl rfl ?_
  refine x_aloadn (x := 59) rfl rfl ?_
  refine z_getI (N := 4) 8 3 rfl f_8_7 rfl J rfl sg_59_3_4_1_0_1 (fun v1 qv1 ev1 => ?_)
  refine x_icge (tgt := 38) rfl rfl (ti_ge rfl rfl ⟨fun c2 => ?_, fun c2 => ?_⟩)
  ·
    exact jX.sub jsb_n (ct_X8_put_r59_c2_38 hD hQ  h J Sm)
  ·
    refine x_iloadn (x := 2) rfl rfl ?_
    refine x_iflt (tgt := 38) rfl rfl (ti_lt jk_2 jk_0 (br_f (by omega) ?_))
    refine x_iloadn (x := 2) rfl rfl ?_
    refine x_aloadn (x := 59) rfl rfl ?_
    refine z_getC (N := 4) (v := 4) 8 0 rfl f_8_19 rfl J rfl sg_59_0_1_1_0_1 jk_4 ?_
    refine x_icge (tgt := 38) rfl rfl (ti_ge jk_2 jk_4 (br_f (by omega) ?_))
    refine x_aloadn (x := 59) rfl rfl ?_
    refine z_getR (N := 4) (b := 60) 8 2 rfl f_8_25 rfl J rfl 7554 ⟨rfl, rfl⟩ rfl ?_
    refine x_iloadn (x := a1) rfl rfl ?_
    refine x_aloadn (x := 59) rfl rfl ?_
    refine z_getC (N := 4) (v := 4) 8 0 rfl f_8_19 rfl J rfl sg_59_0_1_1_0_1 jk_4 ?_
    refine z_imul rfl rfl jk_4 (by omega) (fun v3 ev3 => ?_)
    refine x_iloadn (x := 2) rfl rfl ?_
    refine z_iadd rfl rfl jk_2 (by omega) (fun v4 ev4 => ?_)
    refine x_iloadn (x := a3) rfl rfl ?_
    refine z_iast (N := 160) (l := 0) (u := 160) (w := a3.toInt) rfl hD J Sm rfl rfl rfl (by omega) rfl (wr_60 (fun q1 q2 q3 q4 => by omega) (fun q1 q2 q3 q4 => by omega) (fun q1 q2 q3 q4 => by omega)) rfl (fun h w5 J Sm => ?_)
    exact jX.sub jsb_n (ct_X8_put_r59_c2_38 hD hQ  h J Sm)
def fp_X8_put_r59_c3 : jFp := [(60, 0, 160)]
set_option maxRecDepth 100000 in
set_option maxHeartbeats 4000000 in
theorem ct_X8_put_r59_c3_38 {Dy : jH → Prop} {h0 : jH} {Q : Option Value → jH → Prop} (hD : jDk Dy) (hQ : ∀ hx9, jJ jSgX Dy hx9 → jSm fp_X8_put_r59_c3 h0 hx9 → Q none hx9) : ∀ (h : jH), jJ jSgX Dy h → jSm fp_X8_put_r59_c3 h0 h → jX m_X8_put 1 0 0 38 [] [] h 0 0 Q := by
  intro  h    J Sm
  refine x_vret rfl rfl ?_
  exact hQ _ J Sm
set_option maxRecDepth 100000 in
set_option maxHeartbeats 4000000 in
theorem sf_X8_put_r59_c3 {Dy : jH → Prop} {h : jH} {Q : Option Value → jH → Prop} {a1 : Int32} {a3 : Int32} (y1 : 0 ≤ a1.toInt ∧ a1.toInt ≤ 39) (hD : jDk Dy) (J : jJ jSgX Dy h) (hQ : ∀ hx9, jJ jSgX Dy hx9 → jSm fp_X8_put_r59_c3 h hx9 → Q none hx9) : jC m_X8_put 1 0 0 [.ref 59, .int a1, .int 3, .int a3] h Q := by
  refine jC.of rfl k_X8_put rfl ?_
  have Sm := jSm_rf fp_X8_put_r59_c3 h
  have ea3 := jfull a3
  show jX m_X8_put 1 0 0 0 [(0, .ref 59), (1, .int a1), (2, .int 3), (3, .int a3)] [] _ 0 0 _
  refine x_iloadn (x := a1) rfl rfl ?_
  refine x_iflt (tgt := 38) rfl rfl (ti_lt rfl jk_0 (br_f (by omega) ?_))
  refine x_iloadn (x := a1) rfl rfl ?_
  refine x_aloadn (x := 59) rfl rfl ?_
  refine z_getI (N := 4) 8 3 rfl f_8_7 rfl J rfl sg_59_3_4_1_0_1 (fun v1 qv1 ev1 => ?_)
  refine x_icge (tgt := 38) rfl rfl (ti_ge rfl rfl ⟨fun c2 => ?_, fun c2 => ?_⟩)
  ·
    exact jX.sub jsb_n (ct_X8_put_r59_c3_38 hD hQ  h J Sm)
  ·
    refine x_iloadn (x := 3) rfl rfl ?_
    refine x_iflt (tgt := 38) rfl rfl (ti_lt jk_3 jk_0 (br_f (by omega) ?_))
    refine x_iloadn (x := 3) rfl rfl ?_
    refine x_aloadn (x := 59) rfl rfl ?_
    refine z_getC (N := 4) (v := 4) 8 0 rfl f_8_19 rfl J rfl sg_59_0_1_1_0_1 jk_4 ?_
    refine x_icge (tgt := 38) rfl rfl (ti_ge jk_3 jk_4 (br_f (by omega) ?_))
    refine x_aloadn (x := 59) rfl rfl ?_
    refine z_getR (N := 4) (b := 60) 8 2 rfl f_8_25 rfl J rfl 7554 ⟨rfl, rfl⟩ rfl ?_
    refine x_iloadn (x := a1) rfl rfl ?_
    refine x_aloadn (x := 59) rfl rfl ?_
    refine z_getC (N := 4) (v := 4) 8 0 rfl f_8_19 rfl J rfl sg_59_0_1_1_0_1 jk_4 ?_
    refine z_imul rfl rfl jk_4 (by omega) (fun v3 ev3 => ?_)
    refine x_iloadn (x := 3) rfl rfl ?_
    refine z_iadd rfl rfl jk_3 (by omega) (fun v4 ev4 => ?_)
    refine x_iloadn (x := a3) rfl rfl ?_
    refine z_iast (N := 160) (l := 0) (u := 160) (w := a3.toInt) rfl hD J Sm rfl rfl rfl (by omega) rfl (wr_60 (fun q1 q2 q3 q4 => by omega) (fun q1 q2 q3 q4 => by omega) (fun q1 q2 q3 q4 => by omega)) rfl (fun h w5 J Sm => ?_)
    exact jX.sub jsb_n (ct_X8_put_r59_c3_38 hD hQ  h J Sm)
def fp_X8_put_r59_c4 : jFp := []
set_option maxRecDepth 100000 in
set_option maxHeartbeats 4000000 in
theorem ct_X8_put_r59_c4_38 {Dy : jH → Prop} {h0 : jH} {Q : Option Value → jH → Prop} (hD : jDk Dy) (hQ : ∀ hx9, jJ jSgX Dy hx9 → jSm fp_X8_put_r59_c4 h0 hx9 → Q none hx9) : ∀ (h : jH), jJ jSgX Dy h → jSm fp_X8_put_r59_c4 h0 h → jX m_X8_put 1 0 0 38 [] [] h 0 0 Q := by
  intro  h    J Sm
  refine x_vret rfl rfl ?_
  exact hQ _ J Sm
set_option maxRecDepth 100000 in
set_option maxHeartbeats 4000000 in
theorem sf_X8_put_r59_c4 {Dy : jH → Prop} {h : jH} {Q : Option Value → jH → Prop} {a1 : Int32} {a3 : Int32} (y1 : 0 ≤ a1.toInt ∧ a1.toInt ≤ 39) (y3 : 0 ≤ a3.toInt ∧ a3.toInt ≤ 0) (hD : jDk Dy) (J : jJ jSgX Dy h) (hQ : ∀ hx9, jJ jSgX Dy hx9 → jSm fp_X8_put_r59_c4 h hx9 → Q none hx9) : jC m_X8_put 1 0 0 [.ref 59, .int a1, .int 4, .int a3] h Q := by
  refine jC.of rfl k_X8_put rfl ?_
  have Sm := jSm_rf fp_X8_put_r59_c4 h
  show jX m_X8_put 1 0 0 0 [(0, .ref 59), (1, .int a1), (2, .int 4), (3, .int a3)] [] _ 0 0 _
  refine x_iloadn (x := a1) rfl rfl ?_
  refine x_iflt (tgt := 38) rfl rfl (ti_lt rfl jk_0 (br_f (by omega) ?_))
  refine x_iloadn (x := a1) rfl rfl ?_
  refine x_aloadn (x := 59) rfl rfl ?_
  refine z_getI (N := 4) 8 3 rfl f_8_7 rfl J rfl sg_59_3_4_1_0_1 (fun v1 qv1 ev1 => ?_)
  refine x_icge (tgt := 38) rfl rfl (ti_ge rfl rfl ⟨fun c2 => ?_, fun c2 => ?_⟩)
  ·
    exact jX.sub jsb_n (ct_X8_put_r59_c4_38 hD hQ  h J Sm)
  ·
    refine x_iloadn (x := 4) rfl rfl ?_
    refine x_iflt (tgt := 38) rfl rfl (ti_lt jk_4 jk_0 (br_f (by omega) ?_))
    refine x_iloadn (x := 4) rfl rfl ?_
    refine x_aloadn (x := 59) rfl rfl ?_
    refine z_getC (N := 4) (v := 4) 8 0 rfl f_8_19 rfl J rfl sg_59_0_1_1_0_1 jk_4 ?_
    refine x_icge (tgt := 38) rfl rfl (ti_ge jk_4 jk_4 (br_t (by omega) ?_))
    exact jX.sub jsb_n (ct_X8_put_r59_c4_38 hD hQ  h J Sm)
def fp_X8_put_r59_c5 : jFp := []
set_option maxRecDepth 100000 in
set_option maxHeartbeats 4000000 in
theorem ct_X8_put_r59_c5_38 {Dy : jH → Prop} {h0 : jH} {Q : Option Value → jH → Prop} (hD : jDk Dy) (hQ : ∀ hx9, jJ jSgX Dy hx9 → jSm fp_X8_put_r59_c5 h0 hx9 → Q none hx9) : ∀ (h : jH), jJ jSgX Dy h → jSm fp_X8_put_r59_c5 h0 h → jX m_X8_put 1 0 0 38 [] [] h 0 0 Q := by
  intro  h    J Sm
  refine x_vret rfl rfl ?_
  exact hQ _ J Sm
set_option maxRecDepth 100000 in
set_option maxHeartbeats 4000000 in
theorem sf_X8_put_r59_c5 {Dy : jH → Prop} {h : jH} {Q : Option Value → jH → Prop} {a1 : Int32} {a3 : Int32} (y1 : 0 ≤ a1.toInt ∧ a1.toInt ≤ 39) (y3 : 0 ≤ a3.toInt ∧ a3.toInt ≤ 0) (hD : jDk Dy) (J : jJ jSgX Dy h) (hQ : ∀ hx9, jJ jSgX Dy hx9 → jSm fp_X8_put_r59_c5 h hx9 → Q none hx9) : jC m_X8_put 1 0 0 [.ref 59, .int a1, .int 5, .int a3] h Q := by
  refine jC.of rfl k_X8_put rfl ?_
  have Sm := jSm_rf fp_X8_put_r59_c5 h
  show jX m_X8_put 1 0 0 0 [(0, .ref 59), (1, .int a1), (2, .int 5), (3, .int a3)] [] _ 0 0 _
  refine x_iloadn (x := a1) rfl rfl ?_
  refine x_iflt (tgt := 38) rfl rfl (ti_lt rfl jk_0 (br_f (by omega) ?_))
  refine x_iloadn (x := a1) rfl rfl ?_
  refine x_aloadn (x := 59) rfl rfl ?_
  refine z_getI (N := 4) 8 3 rfl f_8_7 rfl J rfl sg_59_3_4_1_0_1 (fun v1 qv1 ev1 => ?_)
  refine x_icge (tgt := 38) rfl rfl (ti_ge rfl rfl ⟨fun c2 => ?_, fun c2 => ?_⟩)
  ·
    exact jX.sub jsb_n (ct_X8_put_r59_c5_38 hD hQ  h J Sm)
  ·
    refine x_iloadn (x := 5) rfl rfl ?_
    refine x_iflt (tgt := 38) rfl rfl (ti_lt jk_5 jk_0 (br_f (by omega) ?_))
    refine x_iloadn (x := 5) rfl rfl ?_
    refine x_aloadn (x := 59) rfl rfl ?_
    refine z_getC (N := 4) (v := 4) 8 0 rfl f_8_19 rfl J rfl sg_59_0_1_1_0_1 jk_4 ?_
    refine x_icge (tgt := 38) rfl rfl (ti_ge jk_5 jk_4 (br_t (by omega) ?_))
    exact jX.sub jsb_n (ct_X8_put_r59_c5_38 hD hQ  h J Sm)
def fp_X8_add_r59 : jFp := [(59, 3, 4), (60, 0, 160)]
set_option maxRecDepth 100000 in
set_option maxHeartbeats 4000000 in
theorem sf_X8_add_r59 {Dy : jH → Prop} {h : jH} {Q : Option Value → jH → Prop} {a1 : Int32} {a2 : Int32} {a3 : Int32} {a4 : Int32} {a5 : Int32} {a6 : Int32} (y1 : 0 ≤ a1.toInt ∧ a1.toInt ≤ 146399) (y2 : 0 ≤ a2.toInt ∧ a2.toInt ≤ 399) (y3 : 0 ≤ a3.toInt ∧ a3.toInt ≤ 3) (y5 : 0 ≤ a5.toInt ∧ a5.toInt ≤ 0) (y6 : 0 ≤ a6.toInt ∧ a6.toInt ≤ 0) (hD : jDk Dy) (J : jJ jSgX Dy h) (hQ : ∀ hx9, jJ jSgX Dy hx9 → jSm fp_X8_add_r59 h hx9 → Q none hx9) : jC m_X8_add 2 0 0 [.ref 59, .int a1, .int a2, .int a3, .int a4, .int a5, .int a6] h Q := by
  refine jC.of rfl k_X8_add rfl ?_
  have Sm := jSm_rf fp_X8_add_r59 h
  have ea4 := jfull a4
  show jX m_X8_add 2 0 0 0 [(0, .ref 59), (1, .int a1), (2, .int a2), (3, .int a3), (4, .int a4), (5, .int a5), (6, .int a6)] [] _ 0 0 _
  refine x_aloadn (x := 59) rfl rfl ?_
  refine z_getI (N := 4) 8 3 rfl f_8_7 rfl J rfl sg_59_3_4_1_0_1 (fun v1 qv1 ev1 => ?_)
  refine x_aloadn (x := 59) rfl rfl ?_
  refine z_getC (N := 4) (v := 40) 8 1 rfl f_8_22 rfl J rfl sg_59_1_2_1_0_1 jk_40 ?_
  refine x_iclt (tgt := 12) rfl rfl (ti_lt rfl jk_40 ⟨fun c2 => ?_, fun c2 => ?_⟩)
  ·
    refine x_aloadn (x := 59) rfl rfl ?_
    refine z_getM (N := 4) (v := v1) 8 3 rfl f_8_7 rfl J rfl qv1 ?_
    refine x_istore (lsx9 := [(7, .int v1), (0, .ref 59), (1, .int a1), (2, .int a2), (3, .int a3), (4, .int a4), (5, .int a5), (6, .int a6)]) rfl rfl rfl ?_
    refine x_aloadn (x := 59) rfl rfl ?_
    refine x_iload (x := v1) rfl rfl ?_
    refine x_iconst (v := 1) rfl ki_1 ?_
    refine z_iadd rfl rfl jk_1 (by omega) (fun v3 ev3 => ?_)
    refine z_putI (N := 4) (w := v3.toInt) 8 3 rfl f_8_7 rfl (jfin_no TX8 RX8 4 rfl rfl) hD J Sm rfl rfl rfl (pw_59_3 (by omega)) rfl (fun h w4 J Sm => ?_)
    refine x_aloadn (x := 59) rfl rfl ?_
    refine x_iload (x := v1) rfl rfl ?_
    refine x_iconst (v := 0) rfl ki_0 ?_
    refine x_iloadn (x := a1) rfl rfl ?_
    refine x_inv (N := m_X8_put) (As := [.int v1, .int 0, .int a1]) (b := 59) (st := []) (dx9 := 1) (mc := 0) (ms := 0) (host := "") 8 rfl t_X8_put ⟨Or.inl q_8_29, i_X8_put.1, i_X8_put.2⟩ ⟨by decide, rfl⟩ (congrArg Prod.fst (J.1.1 59 (8, 4) rfl)) rfl (by decide) rfl rfl ⟨by decide, by decide⟩ (sf_X8_put_r59_c0 (jr_of rfl (by omega)) (jr_of rfl (by omega)) hD J  (fun h J S5 => ?_))
    have Sm := jSm_tr rfl Sm S5
    show jX m_X8_add 2 0 0 34 [(7, .int v1), (0, .ref 59), (1, .int a1), (2, .int a2), (3, .int a3), (4, .int a4), (5, .int a5), (6, .int a6)] [] _ 0 0 _
    refine x_aloadn (x := 59) rfl rfl ?_
    refine x_iload (x := v1) rfl rfl ?_
    refine x_iconst (v := 1) rfl ki_1 ?_
    refine x_iloadn (x := a2) rfl rfl ?_
    refine x_inv (N := m_X8_put) (As := [.int v1, .int 1, .int a2]) (b := 59) (st := []) (dx9 := 1) (mc := 0) (ms := 0) (host := "") 8 rfl t_X8_put ⟨Or.inl q_8_29, i_X8_put.1, i_X8_put.2⟩ ⟨by decide, rfl⟩ (congrArg Prod.fst (J.1.1 59 (8, 4) rfl)) rfl (by decide) rfl rfl ⟨by decide, by decide⟩ (sf_X8_put_r59_c1 (jr_of rfl (by omega)) (jr_of rfl (by omega)) hD J  (fun h J S6 => ?_))
    have Sm := jSm_tr rfl Sm S6
    show jX m_X8_add 2 0 0 42 [(7, .int v1), (0, .ref 59), (1, .int a1), (2, .int a2), (3, .int a3), (4, .int a4), (5, .int a5), (6, .int a6)] [] _ 0 0 _
    refine x_aloadn (x := 59) rfl rfl ?_
    refine x_iload (x := v1) rfl rfl ?_
    refine x_iconst (v := 2) rfl ki_2 ?_
    refine x_iloadn (x := a3) rfl rfl ?_
    refine x_inv (N := m_X8_put) (As := [.int v1, .int 2, .int a3]) (b := 59) (st := []) (dx9 := 1) (mc := 0) (ms := 0) (host := "") 8 rfl t_X8_put ⟨Or.inl q_8_29, i_X8_put.1, i_X8_put.2⟩ ⟨by decide, rfl⟩ (congrArg Prod.fst (J.1.1 59 (8, 4) rfl)) rfl (by decide) rfl rfl ⟨by decide, by decide⟩ (sf_X8_put_r59_c2 (jr_of rfl (by omega)) (jr_of rfl (by omega)) hD J  (fun h J S7 => ?_))
    have Sm := jSm_tr rfl Sm S7
    show jX m_X8_add 2 0 0 50 [(7, .int v1), (0, .ref 59), (1, .int a1), (2, .int a2), (3, .int a3), (4, .int a4), (5, .int a5), (6, .int a6)] [] _ 0 0 _
    refine x_aloadn (x := 59) rfl rfl ?_
    refine x_iload (x := v1) rfl rfl ?_
    refine x_iconst (v := 3) rfl ki_3 ?_
    refine x_iload (x := a4) rfl rfl ?_
    refine x_inv (N := m_X8_put) (As := [.int v1, .int 3, .int a4]) (b := 59) (st := []) (dx9 := 1) (mc := 0) (ms := 0) (host := "") 8 rfl t_X8_put ⟨Or.inl q_8_29, i_X8_put.1, i_X8_put.2⟩ ⟨by decide, rfl⟩ (congrArg Prod.fst (J.1.1 59 (8, 4) rfl)) rfl (by decide) rfl rfl ⟨by decide, by decide⟩ (sf_X8_put_r59_c3 (jr_of rfl (by omega)) hD J  (fun h J S8 => ?_))
    have Sm := jSm_tr rfl Sm S8
    show jX m_X8_add 2 0 0 59 [(7, .int v1), (0, .ref 59), (1, .int a1), (2, .int a2), (3, .int a3), (4, .int a4), (5, .int a5), (6, .int a6)] [] _ 0 0 _
    refine x_aloadn (x := 59) rfl rfl ?_
    refine x_iload (x := v1) rfl rfl ?_
    refine x_iconst (v := 4) rfl ki_4 ?_
    refine x_iload (x := a5) rfl rfl ?_
    refine x_inv (N := m_X8_put) (As := [.int v1, .int 4, .int a5]) (b := 59) (st := []) (dx9 := 1) (mc := 0) (ms := 0) (host := "") 8 rfl t_X8_put ⟨Or.inl q_8_29, i_X8_put.1, i_X8_put.2⟩ ⟨by decide, rfl⟩ (congrArg Prod.fst (J.1.1 59 (8, 4) rfl)) rfl (by decide) rfl rfl ⟨by decide, by decide⟩ (sf_X8_put_r59_c4 (jr_of rfl (by omega)) (jr_of rfl (by omega)) hD J  (fun h J S9 => ?_))
    have Sm := jSm_tr rfl Sm S9
    show jX m_X8_add 2 0 0 68 [(7, .int v1), (0, .ref 59), (1, .int a1), (2, .int a2), (3, .int a3), (4, .int a4), (5, .int a5), (6, .int a6)] [] _ 0 0 _
    refine x_aloadn (x := 59) rfl rfl ?_
    refine x_iload (x := v1) rfl rfl ?_
    refine x_iconst (v := 5) rfl ki_5 ?_
    refine x_iload (x := a6) rfl rfl ?_
    refine x_inv (N := m_X8_put) (As := [.int v1, .int 5, .int a6]) (b := 59) (st := []) (dx9 := 1) (mc := 0) (ms := 0) (host := "") 8 rfl t_X8_put ⟨Or.inl q_8_29, i_X8_put.1, i_X8_put.2⟩ ⟨by decide, rfl⟩ (congrArg Prod.fst (J.1.1 59 (8, 4) rfl)) rfl (by decide) rfl rfl ⟨by decide, by decide⟩ (sf_X8_put_r59_c5 (jr_of rfl (by omega)) (jr_of rfl (by omega)) hD J  (fun h J S10 => ?_))
    have Sm := jSm_tr rfl Sm S10
    show jX m_X8_add 2 0 0 77 [(7, .int v1), (0, .ref 59), (1, .int a1), (2, .int a2), (3, .int a3), (4, .int a4), (5, .int a5), (6, .int a6)] [] _ 0 0 _
    refine x_vret rfl rfl ?_
    exact hQ _ J Sm
  ·
    refine x_vret rfl rfl ?_
    exact hQ _ J Sm
def fp_X8_isFull_r59 : jFp := []
set_option maxRecDepth 100000 in
set_option maxHeartbeats 4000000 in
theorem ct_X8_isFull_r59_200016 {Dy : jH → Prop} {h0 : jH} {Q : Option Value → jH → Prop} (hD : jDk Dy) (hQ : ∀ (v : Int32) hx9, 0 ≤ v.toInt ∧ v.toInt ≤ 1 → jJ jSgX Dy hx9 → jSm fp_X8_isFull_r59 h0 hx9 → Q (some (.int v)) hx9) : ∀ (h : jH), jJ jSgX Dy h → jSm fp_X8_isFull_r59 h0 h → jX m_X8_isFull 1 0 0 16 [] [.int 0] h 0 0 Q := by
  intro  h    J Sm
  refine x_zret rfl rfl (by decide) ?_
  exact hQ _ _ (jr_of jk_0 (by omega)) J Sm
set_option maxRecDepth 100000 in
set_option maxHeartbeats 4000000 in
theorem ct_X8_isFull_r59_300016 {Dy : jH → Prop} {h0 : jH} {Q : Option Value → jH → Prop} (hD : jDk Dy) (hQ : ∀ (v : Int32) hx9, 0 ≤ v.toInt ∧ v.toInt ≤ 1 → jJ jSgX Dy hx9 → jSm fp_X8_isFull_r59 h0 hx9 → Q (some (.int v)) hx9) : ∀ (h : jH), jJ jSgX Dy h → jSm fp_X8_isFull_r59 h0 h → jX m_X8_isFull 1 0 0 16 [] [.int 1] h 0 0 Q := by
  intro  h    J Sm
  refine x_zret rfl rfl (by decide) ?_
  exact hQ _ _ (jr_of jk_1 (by omega)) J Sm
set_option maxRecDepth 100000 in
set_option maxHeartbeats 4000000 in
theorem sf_X8_isFull_r59 {Dy : jH → Prop} {h : jH} {Q : Option Value → jH → Prop} (hD : jDk Dy) (J : jJ jSgX Dy h) (hQ : ∀ (v : Int32) hx9, 0 ≤ v.toInt ∧ v.toInt ≤ 1 → jJ jSgX Dy hx9 → jSm fp_X8_isFull_r59 h hx9 → Q (some (.int v)) hx9) : jC m_X8_isFull 1 0 0 [.ref 59] h Q := by
  refine jC.of rfl k_X8_isFull rfl ?_
  have Sm := jSm_rf fp_X8_isFull_r59 h
  show jX m_X8_isFull 1 0 0 0 [(0, .ref 59)] [] _ 0 0 _
  refine x_aloadn (x := 59) rfl rfl ?_
  refine z_getI (N := 4) 8 3 rfl f_8_7 rfl J rfl sg_59_3_4_1_0_1 (fun v1 qv1 ev1 => ?_)
  refine x_aloadn (x := 59) rfl rfl ?_
  refine z_getC (N := 4) (v := 40) 8 1 rfl f_8_22 rfl J rfl sg_59_1_2_1_0_1 jk_40 ?_
  refine x_iclt (tgt := 15) rfl rfl (ti_lt rfl jk_40 ⟨fun c2 => ?_, fun c2 => ?_⟩)
  ·
    refine x_iconst (v := 0) rfl ki_0 ?_
    exact jX.sub jsb_n (ct_X8_isFull_r59_200016 hD hQ  h J Sm)
  ·
    refine x_iconst (v := 1) rfl ki_1 ?_
    refine x_goto (tgt := 16) rfl rfl ?_
    exact jX.sub jsb_n (ct_X8_isFull_r59_300016 hD hQ  h J Sm)
def fp_X11_close_r31 : jFp := [(31, 12, 13), (32, 19, 20), (59, 3, 4), (60, 0, 160)]
set_option maxRecDepth 100000 in
set_option maxHeartbeats 4000000 in
theorem ct_X11_close_r31_22 {Dy : jH → Prop} {h0 : jH} {Q : Option Value → jH → Prop} (hD : jDk Dy) (hQ : ∀ (v : Int32) hx9, (-5) ≤ v.toInt ∧ v.toInt ≤ 0 → jJ jSgX Dy hx9 → jSm fp_X11_close_r31 h0 hx9 → Q (some (.int v)) hx9) : ∀ (h : jH), jJ jSgX Dy h → jSm fp_X11_close_r31 h0 h → jX m_X11_close 5 0 0 22 [(0, .ref 31)] [] h 0 0 Q := by
  intro  h    J Sm
  refine x_aloadn (x := 31) rfl rfl ?_
  refine x_iconst (v := (-1)) rfl ki_m1 ?_
  refine x_inv (N := m_X11_refuse) (As := [.int (-1)]) (b := 31) (st := []) (dx9 := 4) (mc := 0) (ms := 0) (host := "") 11 rfl t_X11_refuse ⟨Or.inl q_11_206, i_X11_refuse.1, i_X11_refuse.2⟩ ⟨by decide, rfl⟩ (congrArg Prod.fst (J.1.1 31 (11, 13) rfl)) rfl (by decide) rfl rfl ⟨by decide, by decide⟩ (jC.of rfl k_X11_refuse rfl ?_)
  show jX m_X11_refuse 4 0 0 0 [(0, .ref 31), (1, .int (-1))] [] _ 0 0 _
  refine x_aloadn (x := 31) rfl rfl ?_
  refine x_iloadn (x := (-1)) rfl rfl ?_
  refine z_putI (N := 13) (w := (-1)) 11 12 rfl f_11_94 rfl (jfin_no TX11 RX11 13 rfl rfl) hD J Sm rfl rfl jk_m1 (pw_31_12 (by omega)) rfl (fun h w1 J Sm => ?_)
  refine x_iloadn (x := (-1)) rfl rfl ?_
  refine x_iret rfl rfl ?_
  show jX m_X11_close 5 0 0 27 [(0, .ref 31)] [.int (-1)] _ 0 0 _
  refine x_iret rfl rfl ?_
  exact hQ _ _ (jr_of jk_m1 (by omega)) J Sm
set_option maxRecDepth 100000 in
set_option maxHeartbeats 4000000 in
theorem ct_X11_close_r31_61 {Dy : jH → Prop} {h0 : jH} {Q : Option Value → jH → Prop} (hD : jDk Dy) (hQ : ∀ (v : Int32) hx9, (-5) ≤ v.toInt ∧ v.toInt ≤ 0 → jJ jSgX Dy hx9 → jSm fp_X11_close_r31 h0 hx9 → Q (some (.int v)) hx9) : ∀ (h : jH), jJ jSgX Dy h → jSm fp_X11_close_r31 h0 h → jX m_X11_close 5 0 0 61 [(0, .ref 31)] [] h 0 0 Q := by
  intro  h    J Sm
  refine x_aloadn (x := 31) rfl rfl ?_
  refine x_bipush (v := (-3)) rfl kb_m3 ?_
  refine x_inv (N := m_X11_refuse) (As := [.int (-3)]) (b := 31) (st := []) (dx9 := 4) (mc := 0) (ms := 0) (host := "") 11 rfl t_X11_refuse ⟨Or.inl q_11_206, i_X11_refuse.1, i_X11_refuse.2⟩ ⟨by decide, rfl⟩ (congrArg Prod.fst (J.1.1 31 (11, 13) rfl)) rfl (by decide) rfl rfl ⟨by decide, by decide⟩ (jC.of rfl k_X11_refuse rfl ?_)
  show jX m_X11_refuse 4 0 0 0 [(0, .ref 31), (1, .int (-3))] [] _ 0 0 _
  refine x_aloadn (x := 31) rfl rfl ?_
  refine x_iloadn (x := (-3)) rfl rfl ?_
  refine z_putI (N := 13) (w := (-3)) 11 12 rfl f_11_94 rfl (jfin_no TX11 RX11 13 rfl rfl) hD J Sm rfl rfl jk_m3 (pw_31_12 (by omega)) rfl (fun h w1 J Sm => ?_)
  refine x_iloadn (x := (-3)) rfl rfl ?_
  refine x_iret rfl rfl ?_
  show jX m_X11_close 5 0 0 67 [(0, .ref 31)] [.int (-3)] _ 0 0 _
  refine x_iret rfl rfl ?_
  exact hQ _ _ (jr_of jk_m3 (by omega)) J Sm
set_option maxRecDepth 100000 in
set_option maxHeartbeats 4000000 in
theorem ct_X11_close_r31_49 {Dy : jH → Prop} {h0 : jH} {Q : Option Value → jH → Prop} (hD : jDk Dy) (hQ : ∀ (v : Int32) hx9, (-5) ≤ v.toInt ∧ v.toInt ≤ 0 → jJ jSgX Dy hx9 → jSm fp_X11_close_r31 h0 hx9 → Q (some (.int v)) hx9) : ∀ (l1 : Int32) (l2 : Int32) (l3 : Int32) (l4 : Int32) (h : jH), 0 ≤ l1.toInt ∧ l1.toInt ≤ 3 → 0 ≤ l2.toInt ∧ l2.toInt ≤ 399 → 0 ≤ l4.toInt ∧ l4.toInt ≤ 146399 → jJ jSgX Dy h → jSm fp_X11_close_r31 h0 h → jX m_X11_close 5 0 0 49 [(0, .ref 31), (1, .int l1), (2, .int l2), (3, .int l3), (4, .int l4)] [] h 0 0 Q := by
  intro l1 l2 l3 l4 h y0 y1 y2   J Sm
  have el3 := jfull l3
  refine x_iloadn (x := l3) rfl rfl ?_
  refine x_aloadn (x := 31) rfl rfl ?_
  refine x_iloadn (x := l1) rfl rfl ?_
  refine x_iloadn (x := l2) rfl rfl ?_
  refine x_iload (x := l4) rfl rfl ?_
  refine x_inv (N := m_X11_balanceOf) (As := [.int l1, .int l2, .int l4]) (b := 31) (st := [.int l3]) (dx9 := 4) (mc := 0) (ms := 0) (host := "") 11 rfl t_X11_balanceOf ⟨Or.inl q_11_479, i_X11_balanceOf.1, i_X11_balanceOf.2⟩ ⟨by decide, rfl⟩ (congrArg Prod.fst (J.1.1 31 (11, 13) rfl)) rfl (by decide) rfl rfl ⟨by decide, by decide⟩ (sf_X11_balanceOf_r31 (jr_of rfl (by omega)) (jr_of rfl (by omega)) (jr_of rfl (by omega)) hD J  (fun v2 h J S1 => ?_))
  have ev2 := jfull v2
  have Sm := jSm_tr rfl Sm S1
  show jX m_X11_close 5 0 0 58 [(0, .ref 31), (1, .int l1), (2, .int l2), (3, .int l3), (4, .int l4)] [.int v2, .int l3] _ 0 0 _
  refine x_iceq (tgt := 68) rfl rfl (ti_eq rfl rfl ⟨fun c3 => ?_, fun c3 => ?_⟩)
  ·
    refine x_aloadn (x := 31) rfl rfl ?_
    refine z_getR (N := 13) (b := 32) 11 0 rfl f_11_10 rfl J rfl 3968 ⟨rfl, rfl⟩ rfl ?_
    refine z_getR (N := 20) (b := 59) 1 13 rfl f_11_482 rfl J rfl 4109 ⟨rfl, rfl⟩ rfl ?_
    refine x_inv (N := m_X8_isFull) (As := []) (b := 59) (st := []) (dx9 := 1) (mc := 0) (ms := 0) (host := "") 8 rfl t_X8_isFull ⟨Or.inl q_11_130, i_X8_isFull.1, i_X8_isFull.2⟩ ⟨by decide, rfl⟩ (congrArg Prod.fst (J.1.1 59 (8, 4) rfl)) rfl (by decide) rfl rfl ⟨by decide, by decide⟩ (sf_X8_isFull_r59  hD J  (fun v5 h ev5 J S4 => ?_))
    have Sm := jSm_tr rfl Sm S4
    show jX m_X11_close 5 0 0 78 [(0, .ref 31), (1, .int l1), (2, .int l2), (3, .int l3), (4, .int l4)] [.int v5] _ 0 0 _
    refine x_ifeq (tgt := 88) rfl rfl (ti_eq rfl jk_0 ⟨fun c6 => ?_, fun c6 => ?_⟩)
    ·
      refine x_aloadn (x := 31) rfl rfl ?_
      refine z_getR (N := 13) (b := 32) 11 0 rfl f_11_10 rfl J rfl 3968 ⟨rfl, rfl⟩ rfl ?_
      refine z_getR (N := 20) (b := 59) 1 13 rfl f_11_482 rfl J rfl 4109 ⟨rfl, rfl⟩ rfl ?_
      refine x_iload (x := l4) rfl rfl ?_
      refine x_iloadn (x := l2) rfl rfl ?_
      refine x_iloadn (x := l1) rfl rfl ?_
      refine x_iloadn (x := l3) rfl rfl ?_
      refine x_iconst (v := 0) rfl ki_0 ?_
      refine x_iconst (v := 0) rfl ki_0 ?_
      refine x_inv (N := m_X8_add) (As := [.int l4, .int l2, .int l1, .int l3, .int 0, .int 0]) (b := 59) (st := []) (dx9 := 2) (mc := 0) (ms := 0) (host := "") 8 rfl t_X8_add ⟨Or.inl q_11_145, i_X8_add.1, i_X8_add.2⟩ ⟨by decide, rfl⟩ (congrArg Prod.fst (J.1.1 59 (8, 4) rfl)) rfl (by decide) rfl rfl ⟨by decide, by decide⟩ (sf_X8_add_r59 (jr_of rfl (by omega)) (jr_of rfl (by omega)) (jr_of rfl (by omega)) (jr_of jk_0 (by omega)) (jr_of jk_0 (by omega)) hD J  (fun h J S7 => ?_))
      have Sm := jSm_tr rfl Sm S7
      show jX m_X11_close 5 0 0 105 [(0, .ref 31), (1, .int l1), (2, .int l2), (3, .int l3), (4, .int l4)] [] _ 0 0 _
      refine x_aloadn (x := 31) rfl rfl ?_
      refine x_iconst (v := 0) rfl ki_0 ?_
      refine x_inv (N := m_X11_accept) (As := [.int 0]) (b := 31) (st := []) (dx9 := 4) (mc := 0) (ms := 0) (host := "") 11 rfl t_X11_accept ⟨Or.inl q_11_165, i_X11_accept.1, i_X11_accept.2⟩ ⟨by decide, rfl⟩ (congrArg Prod.fst (J.1.1 31 (11, 13) rfl)) rfl (by decide) rfl rfl ⟨by decide, by decide⟩ (jC.of rfl k_X11_accept rfl ?_)
      show jX m_X11_accept 4 0 0 0 [(0, .ref 31), (1, .int 0)] [] _ 0 0 _
      refine x_aloadn (x := 31) rfl rfl ?_
      refine x_iconst (v := 0) rfl ki_0 ?_
      refine z_putI (N := 13) (w := 0) 11 12 rfl f_11_94 rfl (jfin_no TX11 RX11 13 rfl rfl) hD J Sm rfl rfl jk_0 (pw_31_12 (by omega)) rfl (fun h w8 J Sm => ?_)
      refine x_aloadn (x := 31) rfl rfl ?_
      refine z_getR (N := 13) (b := 32) 11 0 rfl f_11_10 rfl J rfl 3968 ⟨rfl, rfl⟩ rfl ?_
      refine x_dup rfl rfl ?_
      refine z_getI0 (N := 20) 1 19 rfl f_11_528 rfl J rfl (fun v9 qv9 => ?_)
      have ev9 := jfull v9
      refine x_iconst (v := 1) rfl ki_1 ?_
      refine z_iadd0 rfl (fun v10 => ?_)
      have ev10 := jfull v10
      refine z_putI (N := 20) (w := v10.toInt) 1 19 rfl f_11_528 rfl (jfin_no TX1 RX1 20 rfl rfl) hD J Sm rfl rfl rfl (pw_32_19 trivial) rfl (fun h w11 J Sm => ?_)
      refine x_iloadn (x := 0) rfl rfl ?_
      refine x_iret rfl rfl ?_
      show jX m_X11_close 5 0 0 110 [(0, .ref 31), (1, .int l1), (2, .int l2), (3, .int l3), (4, .int l4)] [.int 0] _ 0 0 _
      refine x_iret rfl rfl ?_
      exact hQ _ _ (jr_of jk_0 (by omega)) J Sm
    ·
      refine x_aloadn (x := 31) rfl rfl ?_
      refine x_bipush (v := (-5)) rfl kb_m5 ?_
      refine x_inv (N := m_X11_refuse) (As := [.int (-5)]) (b := 31) (st := []) (dx9 := 4) (mc := 0) (ms := 0) (host := "") 11 rfl t_X11_refuse ⟨Or.inl q_11_206, i_X11_refuse.1, i_X11_refuse.2⟩ ⟨by decide, rfl⟩ (congrArg Prod.fst (J.1.1 31 (11, 13) rfl)) rfl (by decide) rfl rfl ⟨by decide, by decide⟩ (jC.of rfl k_X11_refuse rfl ?_)
      show jX m_X11_refuse 4 0 0 0 [(0, .ref 31), (1, .int (-5))] [] _ 0 0 _
      refine x_aloadn (x := 31) rfl rfl ?_
      refine x_iloadn (x := (-5)) rfl rfl ?_
      refine z_putI (N := 13) (w := (-5)) 11 12 rfl f_11_94 rfl (jfin_no TX11 RX11 13 rfl rfl) hD J Sm rfl rfl jk_m5 (pw_31_12 (by omega)) rfl (fun h w12 J Sm => ?_)
      refine x_iloadn (x := (-5)) rfl rfl ?_
      refine x_iret rfl rfl ?_
      show jX m_X11_close 5 0 0 87 [(0, .ref 31), (1, .int l1), (2, .int l2), (3, .int l3), (4, .int l4)] [.int (-5)] _ 0 0 _
      refine x_iret rfl rfl ?_
      exact hQ _ _ (jr_of jk_m5 (by omega)) J Sm
  ·
    exact jX.sub (jsb_c rfl jsb_n) (ct_X11_close_r31_61 hD hQ  h J Sm)
set_option maxRecDepth 100000 in
set_option maxHeartbeats 4000000 in
theorem sf_X11_close_r31 {Dy : jH → Prop} {h : jH} {Q : Option Value → jH → Prop} {a1 : Int32} {a2 : Int32} {a3 : Int32} {a4 : Int32} (hD : jDk Dy) (J : jJ jSgX Dy h) (hQ : ∀ (v : Int32) hx9, (-5) ≤ v.toInt ∧ v.toInt ≤ 0 → jJ jSgX Dy hx9 → jSm fp_X11_close_r31 h hx9 → Q (some (.int v)) hx9) : jC m_X11_close 5 0 0 [.ref 31, .int a1, .int a2, .int a3, .int a4] h Q := by
  refine jC.of rfl k_X11_close rfl ?_
  have Sm := jSm_rf fp_X11_close_r31 h
  have ea1 := jfull a1
  have ea2 := jfull a2
  have ea3 := jfull a3
  have ea4 := jfull a4
  show jX m_X11_close 5 0 0 0 [(0, .ref 31), (1, .int a1), (2, .int a2), (3, .int a3), (4, .int a4)] [] _ 0 0 _
  refine x_iloadn (x := a1) rfl rfl ?_
  refine x_inst (N := m_X11_isOffice) (As := [.int a1]) (st := []) (dx9 := 1) (mc := 0) (ms := 0) (host := "") rfl t_X11_isOffice ⟨Or.inl q_11_456, s_X11_isOffice⟩ rfl (by decide) rfl rfl ⟨by decide, by decide⟩ (zc_X11_isOffice rfl (fun v1 ev1 => ?_))
  show jX m_X11_close 5 0 0 4 [(0, .ref 31), (1, .int a1), (2, .int a2), (3, .int a3), (4, .int a4)] [.int v1] _ 0 0 _
  refine x_ifeq (tgt := 22) rfl rfl (ti_eq rfl jk_0 ⟨fun c2 => ?_, fun c2 => ?_⟩)
  ·
    exact jX.sub (jsb_c rfl jsb_n) (ct_X11_close_r31_22 hD hQ  h J Sm)
  ·
    refine x_iloadn (x := a2) rfl rfl ?_
    refine x_inst (N := m_X11_isYear) (As := [.int a2]) (st := []) (dx9 := 1) (mc := 0) (ms := 0) (host := "") rfl t_X11_isYear ⟨Or.inl q_11_433, s_X11_isYear⟩ rfl (by decide) rfl rfl ⟨by decide, by decide⟩ (zc_X11_isYear rfl (fun v3 ev3 => ?_))
    show jX m_X11_close 5 0 0 11 [(0, .ref 31), (1, .int a1), (2, .int a2), (3, .int a3), (4, .int a4)] [.int v3] _ 0 0 _
    refine x_ifeq (tgt := 22) rfl rfl (ti_eq rfl jk_0 ⟨fun c4 => ?_, fun c4 => ?_⟩)
    ·
      exact jX.sub (jsb_c rfl jsb_n) (ct_X11_close_r31_22 hD hQ  h J Sm)
    ·
      refine x_iload (x := a4) rfl rfl ?_
      refine x_inst (N := m_X11_isDay) (As := [.int a4]) (st := []) (dx9 := 1) (mc := 0) (ms := 0) (host := "") rfl t_X11_isDay ⟨Or.inl q_11_115, s_X11_isDay⟩ rfl (by decide) rfl rfl ⟨by decide, by decide⟩ (zc_X11_isDay rfl (fun v5 ev5 => ?_))
      show jX m_X11_close 5 0 0 19 [(0, .ref 31), (1, .int a1), (2, .int a2), (3, .int a3), (4, .int a4)] [.int v5] _ 0 0 _
      refine x_ifne (tgt := 28) rfl rfl (ti_ne rfl jk_0 ⟨fun c6 => ?_, fun c6 => ?_⟩)
      ·
        refine x_aloadn (x := 31) rfl rfl ?_
        refine x_iloadn (x := a1) rfl rfl ?_
        refine x_inv (N := m_X11_lastClosed) (As := [.int a1]) (b := 31) (st := []) (dx9 := 2) (mc := 0) (ms := 0) (host := "") 11 rfl t_X11_lastClosed ⟨Or.inl q_11_476, i_X11_lastClosed.1, i_X11_lastClosed.2⟩ ⟨by decide, rfl⟩ (congrArg Prod.fst (J.1.1 31 (11, 13) rfl)) rfl (by decide) rfl rfl ⟨by decide, by decide⟩ (sf_X11_lastClosed_r31 (jr_of rfl (by omega)) hD J  (fun v8 h ev8 J S7 => ?_))
        have Sm := jSm_tr rfl Sm S7
        show jX m_X11_close 5 0 0 33 [(0, .ref 31), (1, .int a1), (2, .int a2), (3, .int a3), (4, .int a4)] [.int v8] _ 0 0 _
        refine x_istore (lsx9 := [(5, .int v8), (0, .ref 31), (1, .int a1), (2, .int a2), (3, .int a3), (4, .int a4)]) rfl rfl rfl ?_
        refine x_iload (x := v8) rfl rfl ?_
        refine x_iconst (v := (-1)) rfl ki_m1 ?_
        refine x_iceq (tgt := 49) rfl rfl (ti_eq rfl jk_m1 ⟨fun c9 => ?_, fun c9 => ?_⟩)
        ·
          exact jX.sub (jsb_c rfl (jsb_c rfl (jsb_c rfl (jsb_c rfl (jsb_c rfl jsb_n))))) (ct_X11_close_r31_49 hD hQ  a1 a2 a3 a4 h (jr_of rfl (by omega)) (jr_of rfl (by omega)) (jr_of rfl (by omega)) J Sm)
        ·
          refine x_iloadn (x := a2) rfl rfl ?_
          refine x_iload (x := v8) rfl rfl ?_
          refine x_iconst (v := 1) rfl ki_1 ?_
          refine z_iadd rfl rfl jk_1 (by omega) (fun v10 ev10 => ?_)
          refine x_icne (tgt := 61) rfl rfl (ti_ne rfl rfl ⟨fun c11 => ?_, fun c11 => ?_⟩)
          ·
            exact jX.sub (jsb_c rfl jsb_n) (ct_X11_close_r31_61 hD hQ  h J Sm)
          ·
            exact jX.sub (jsb_c rfl (jsb_c rfl (jsb_c rfl (jsb_c rfl (jsb_c rfl jsb_n))))) (ct_X11_close_r31_49 hD hQ  a1 a2 a3 a4 h (jr_of rfl (by omega)) (jr_of rfl (by omega)) (jr_of rfl (by omega)) J Sm)
      ·
        exact jX.sub (jsb_c rfl jsb_n) (ct_X11_close_r31_22 hD hQ  h J Sm)
def fp_X8_at_r61_c1 : jFp := []
set_option maxRecDepth 100000 in
set_option maxHeartbeats 4000000 in
theorem ct_X8_at_r61_c1_24 {Dy : jH → Prop} {h0 : jH} {Q : Option Value → jH → Prop} (hD : jDk Dy) (hQ : ∀ (v : Int32) hx9, 0 ≤ v.toInt ∧ v.toInt ≤ 399 → jJ jSgX Dy hx9 → jSm fp_X8_at_r61_c1 h0 hx9 → Q (some (.int v)) hx9) : ∀ (h : jH), jJ jSgX Dy h → jSm fp_X8_at_r61_c1 h0 h → jX m_X8_at 1 0 0 24 [] [] h 0 0 Q := by
  intro  h    J Sm
  refine x_iconst (v := 0) rfl ki_0 ?_
  refine x_iret rfl rfl ?_
  exact hQ _ _ (jr_of jk_0 (by omega)) J Sm
set_option maxRecDepth 100000 in
set_option maxHeartbeats 4000000 in
theorem sf_X8_at_r61_c1 {Dy : jH → Prop} {h : jH} {Q : Option Value → jH → Prop} {a1 : Int32} (y1 : 0 ≤ a1.toInt ∧ a1.toInt ≤ 99) (hD : jDk Dy) (J : jJ jSgX Dy h) (hQ : ∀ (v : Int32) hx9, 0 ≤ v.toInt ∧ v.toInt ≤ 399 → jJ jSgX Dy hx9 → jSm fp_X8_at_r61_c1 h hx9 → Q (some (.int v)) hx9) : jC m_X8_at 1 0 0 [.ref 61, .int a1, .int 1] h Q := by
  refine jC.of rfl k_X8_at rfl ?_
  have Sm := jSm_rf fp_X8_at_r61_c1 h
  show jX m_X8_at 1 0 0 0 [(0, .ref 61), (1, .int a1), (2, .int 1)] [] _ 0 0 _
  refine x_iloadn (x := a1) rfl rfl ?_
  refine x_iflt (tgt := 24) rfl rfl (ti_lt rfl jk_0 (br_f (by omega) ?_))
  refine x_iloadn (x := a1) rfl rfl ?_
  refine x_aloadn (x := 61) rfl rfl ?_
  refine z_getI (N := 4) 8 3 rfl f_8_7 rfl J rfl sg_61_3_4_1_0_1 (fun v1 qv1 ev1 => ?_)
  refine x_icge (tgt := 24) rfl rfl (ti_ge rfl rfl ⟨fun c2 => ?_, fun c2 => ?_⟩)
  ·
    exact jX.sub jsb_n (ct_X8_at_r61_c1_24 hD hQ  h J Sm)
  ·
    refine x_iloadn (x := 1) rfl rfl ?_
    refine x_iflt (tgt := 24) rfl rfl (ti_lt jk_1 jk_0 (br_f (by omega) ?_))
    refine x_iloadn (x := 1) rfl rfl ?_
    refine x_aloadn (x := 61) rfl rfl ?_
    refine z_getC (N := 4) (v := 4) 8 0 rfl f_8_19 rfl J rfl sg_61_0_1_1_0_1 jk_4 ?_
    refine x_iclt (tgt := 26) rfl rfl (ti_lt jk_1 jk_4 (br_t (by omega) ?_))
    refine x_aloadn (x := 61) rfl rfl ?_
    refine z_getR (N := 4) (b := 62) 8 2 rfl f_8_25 rfl J rfl 7810 ⟨rfl, rfl⟩ rfl ?_
    refine x_iloadn (x := a1) rfl rfl ?_
    refine x_aloadn (x := 61) rfl rfl ?_
    refine z_getC (N := 4) (v := 4) 8 0 rfl f_8_19 rfl J rfl sg_61_0_1_1_0_1 jk_4 ?_
    refine z_imul rfl rfl jk_4 (by omega) (fun v3 ev3 => ?_)
    refine x_iloadn (x := 1) rfl rfl ?_
    refine z_iadd rfl rfl jk_1 (by omega) (fun v4 ev4 => ?_)
    refine z_iald (N := 400) rfl J rfl sg_62_0_400_4_1_2 rfl (by omega) (fun v5 qv5 ev5 => ?_)
    refine x_iret rfl rfl ?_
    exact hQ _ _ (jr_of rfl (by omega)) J Sm
def fp_X8_at_r61_c2 : jFp := []
set_option maxRecDepth 100000 in
set_option maxHeartbeats 4000000 in
theorem ct_X8_at_r61_c2_24 {Dy : jH → Prop} {h0 : jH} {Q : Option Value → jH → Prop} (hD : jDk Dy) (hQ : ∀ (v : Int32) hx9, 0 ≤ v.toInt ∧ v.toInt ≤ 2 → jJ jSgX Dy hx9 → jSm fp_X8_at_r61_c2 h0 hx9 → Q (some (.int v)) hx9) : ∀ (h : jH), jJ jSgX Dy h → jSm fp_X8_at_r61_c2 h0 h → jX m_X8_at 1 0 0 24 [] [] h 0 0 Q := by
  intro  h    J Sm
  refine x_iconst (v := 0) rfl ki_0 ?_
  refine x_iret rfl rfl ?_
  exact hQ _ _ (jr_of jk_0 (by omega)) J Sm
set_option maxRecDepth 100000 in
set_option maxHeartbeats 4000000 in
theorem sf_X8_at_r61_c2 {Dy : jH → Prop} {h : jH} {Q : Option Value → jH → Prop} {a1 : Int32} (y1 : 0 ≤ a1.toInt ∧ a1.toInt ≤ 99) (hD : jDk Dy) (J : jJ jSgX Dy h) (hQ : ∀ (v : Int32) hx9, 0 ≤ v.toInt ∧ v.toInt ≤ 2 → jJ jSgX Dy hx9 → jSm fp_X8_at_r61_c2 h hx9 → Q (some (.int v)) hx9) : jC m_X8_at 1 0 0 [.ref 61, .int a1, .int 2] h Q := by
  refine jC.of rfl k_X8_at rfl ?_
  have Sm := jSm_rf fp_X8_at_r61_c2 h
  show jX m_X8_at 1 0 0 0 [(0, .ref 61), (1, .int a1), (2, .int 2)] [] _ 0 0 _
  refine x_iloadn (x := a1) rfl rfl ?_
  refine x_iflt (tgt := 24) rfl rfl (ti_lt rfl jk_0 (br_f (by omega) ?_))
  refine x_iloadn (x := a1) rfl rfl ?_
  refine x_aloadn (x := 61) rfl rfl ?_
  refine z_getI (N := 4) 8 3 rfl f_8_7 rfl J rfl sg_61_3_4_1_0_1 (fun v1 qv1 ev1 => ?_)
  refine x_icge (tgt := 24) rfl rfl (ti_ge rfl rfl ⟨fun c2 => ?_, fun c2 => ?_⟩)
  ·
    exact jX.sub jsb_n (ct_X8_at_r61_c2_24 hD hQ  h J Sm)
  ·
    refine x_iloadn (x := 2) rfl rfl ?_
    refine x_iflt (tgt := 24) rfl rfl (ti_lt jk_2 jk_0 (br_f (by omega) ?_))
    refine x_iloadn (x := 2) rfl rfl ?_
    refine x_aloadn (x := 61) rfl rfl ?_
    refine z_getC (N := 4) (v := 4) 8 0 rfl f_8_19 rfl J rfl sg_61_0_1_1_0_1 jk_4 ?_
    refine x_iclt (tgt := 26) rfl rfl (ti_lt jk_2 jk_4 (br_t (by omega) ?_))
    refine x_aloadn (x := 61) rfl rfl ?_
    refine z_getR (N := 4) (b := 62) 8 2 rfl f_8_25 rfl J rfl 7810 ⟨rfl, rfl⟩ rfl ?_
    refine x_iloadn (x := a1) rfl rfl ?_
    refine x_aloadn (x := 61) rfl rfl ?_
    refine z_getC (N := 4) (v := 4) 8 0 rfl f_8_19 rfl J rfl sg_61_0_1_1_0_1 jk_4 ?_
    refine z_imul rfl rfl jk_4 (by omega) (fun v3 ev3 => ?_)
    refine x_iloadn (x := 2) rfl rfl ?_
    refine z_iadd rfl rfl jk_2 (by omega) (fun v4 ev4 => ?_)
    refine z_iald (N := 400) rfl J rfl sg_62_0_400_4_2_3 rfl (by omega) (fun v5 qv5 ev5 => ?_)
    refine x_iret rfl rfl ?_
    exact hQ _ _ (jr_of rfl (by omega)) J Sm
def fp_X8_at_r61_c3 : jFp := []
set_option maxRecDepth 100000 in
set_option maxHeartbeats 4000000 in
theorem ct_X8_at_r61_c3_24 {Dy : jH → Prop} {h0 : jH} {Q : Option Value → jH → Prop} (hD : jDk Dy) (hQ : ∀ (v : Int32) hx9, 0 ≤ v.toInt ∧ v.toInt ≤ 10000 → jJ jSgX Dy hx9 → jSm fp_X8_at_r61_c3 h0 hx9 → Q (some (.int v)) hx9) : ∀ (h : jH), jJ jSgX Dy h → jSm fp_X8_at_r61_c3 h0 h → jX m_X8_at 1 0 0 24 [] [] h 0 0 Q := by
  intro  h    J Sm
  refine x_iconst (v := 0) rfl ki_0 ?_
  refine x_iret rfl rfl ?_
  exact hQ _ _ (jr_of jk_0 (by omega)) J Sm
set_option maxRecDepth 100000 in
set_option maxHeartbeats 4000000 in
theorem sf_X8_at_r61_c3 {Dy : jH → Prop} {h : jH} {Q : Option Value → jH → Prop} {a1 : Int32} (y1 : 0 ≤ a1.toInt ∧ a1.toInt ≤ 99) (hD : jDk Dy) (J : jJ jSgX Dy h) (hQ : ∀ (v : Int32) hx9, 0 ≤ v.toInt ∧ v.toInt ≤ 10000 → jJ jSgX Dy hx9 → jSm fp_X8_at_r61_c3 h hx9 → Q (some (.int v)) hx9) : jC m_X8_at 1 0 0 [.ref 61, .int a1, .int 3] h Q := by
  refine jC.of rfl k_X8_at rfl ?_
  have Sm := jSm_rf fp_X8_at_r61_c3 h
  show jX m_X8_at 1 0 0 0 [(0, .ref 61), (1, .int a1), (2, .int 3)] [] _ 0 0 _
  refine x_iloadn (x := a1) rfl rfl ?_
  refine x_iflt (tgt := 24) rfl rfl (ti_lt rfl jk_0 (br_f (by omega) ?_))
  refine x_iloadn (x := a1) rfl rfl ?_
  refine x_aloadn (x := 61) rfl rfl ?_
  refine z_getI (N := 4) 8 3 rfl f_8_7 rfl J rfl sg_61_3_4_1_0_1 (fun v1 qv1 ev1 => ?_)
  refine x_icge (tgt := 24) rfl rfl (ti_ge rfl rfl ⟨fun c2 => ?_, fun c2 => ?_⟩)
  ·
    exact jX.sub jsb_n (ct_X8_at_r61_c3_24 hD hQ  h J Sm)
  ·
    refine x_iloadn (x := 3) rfl rfl ?_
    refine x_iflt (tgt := 24) rfl rfl (ti_lt jk_3 jk_0 (br_f (by omega) ?_))
    refine x_iloadn (x := 3) rfl rfl ?_
    refine x_aloadn (x := 61) rfl rfl ?_
    refine z_getC (N := 4) (v := 4) 8 0 rfl f_8_19 rfl J rfl sg_61_0_1_1_0_1 jk_4 ?_
    refine x_iclt (tgt := 26) rfl rfl (ti_lt jk_3 jk_4 (br_t (by omega) ?_))
    refine x_aloadn (x := 61) rfl rfl ?_
    refine z_getR (N := 4) (b := 62) 8 2 rfl f_8_25 rfl J rfl 7810 ⟨rfl, rfl⟩ rfl ?_
    refine x_iloadn (x := a1) rfl rfl ?_
    refine x_aloadn (x := 61) rfl rfl ?_
    refine z_getC (N := 4) (v := 4) 8 0 rfl f_8_19 rfl J rfl sg_61_0_1_1_0_1 jk_4 ?_
    refine z_imul rfl rfl jk_4 (by omega) (fun v3 ev3 => ?_)
    refine x_iloadn (x := 3) rfl rfl ?_
    refine z_iadd rfl rfl jk_3 (by omega) (fun v4 ev4 => ?_)
    refine z_iald (N := 400) rfl J rfl sg_62_0_400_4_3_4 rfl (by omega) (fun v5 qv5 ev5 => ?_)
    refine x_iret rfl rfl ?_
    exact hQ _ _ (jr_of rfl (by omega)) J Sm
def fp_X8_isKnown_r61 : jFp := []
set_option maxRecDepth 100000 in
set_option maxHeartbeats 4000000 in
theorem ct_X8_isKnown_r61_300032 {Dy : jH → Prop} {h0 : jH} {Q : Option Value → jH → Prop} (hD : jDk Dy) (hQ : ∀ (v : Int32) hx9, 0 ≤ v.toInt ∧ v.toInt ≤ 1 → jJ jSgX Dy hx9 → jSm fp_X8_isKnown_r61 h0 hx9 → Q (some (.int v)) hx9) : ∀ (h : jH), jJ jSgX Dy h → jSm fp_X8_isKnown_r61 h0 h → jX m_X8_isKnown 1 0 0 32 [] [.int 1] h 0 0 Q := by
  intro  h    J Sm
  refine x_zret rfl rfl (by decide) ?_
  exact hQ _ _ (jr_of jk_1 (by omega)) J Sm
set_option maxRecDepth 100000 in
set_option maxHeartbeats 4000000 in
theorem ct_X8_isKnown_r61_200032 {Dy : jH → Prop} {h0 : jH} {Q : Option Value → jH → Prop} (hD : jDk Dy) (hQ : ∀ (v : Int32) hx9, 0 ≤ v.toInt ∧ v.toInt ≤ 1 → jJ jSgX Dy hx9 → jSm fp_X8_isKnown_r61 h0 hx9 → Q (some (.int v)) hx9) : ∀ (h : jH), jJ jSgX Dy h → jSm fp_X8_isKnown_r61 h0 h → jX m_X8_isKnown 1 0 0 32 [] [.int 0] h 0 0 Q := by
  intro  h    J Sm
  refine x_zret rfl rfl (by decide) ?_
  exact hQ _ _ (jr_of jk_0 (by omega)) J Sm
set_option maxRecDepth 100000 in
set_option maxHeartbeats 4000000 in
theorem ct_X8_isKnown_r61_31 {Dy : jH → Prop} {h0 : jH} {Q : Option Value → jH → Prop} (hD : jDk Dy) (hQ : ∀ (v : Int32) hx9, 0 ≤ v.toInt ∧ v.toInt ≤ 1 → jJ jSgX Dy hx9 → jSm fp_X8_isKnown_r61 h0 hx9 → Q (some (.int v)) hx9) : ∀ (h : jH), jJ jSgX Dy h → jSm fp_X8_isKnown_r61 h0 h → jX m_X8_isKnown 1 0 0 31 [] [] h 0 0 Q := by
  intro  h    J Sm
  refine x_iconst (v := 0) rfl ki_0 ?_
  exact jX.sub jsb_n (ct_X8_isKnown_r61_200032 hD hQ  h J Sm)
set_option maxRecDepth 100000 in
set_option maxHeartbeats 4000000 in
theorem sf_X8_isKnown_r61 {Dy : jH → Prop} {h : jH} {Q : Option Value → jH → Prop} {a1 : Int32} {a2 : Int32} (y1 : 0 ≤ a1.toInt ∧ a1.toInt ≤ 99) (y2 : 0 ≤ a2.toInt ∧ a2.toInt ≤ 146399) (hD : jDk Dy) (J : jJ jSgX Dy h) (hQ : ∀ (v : Int32) hx9, 0 ≤ v.toInt ∧ v.toInt ≤ 1 → jJ jSgX Dy hx9 → jSm fp_X8_isKnown_r61 h hx9 → Q (some (.int v)) hx9) : jC m_X8_isKnown 1 0 0 [.ref 61, .int a1, .int a2] h Q := by
  refine jC.of rfl k_X8_isKnown rfl ?_
  have Sm := jSm_rf fp_X8_isKnown_r61 h
  show jX m_X8_isKnown 1 0 0 0 [(0, .ref 61), (1, .int a1), (2, .int a2)] [] _ 0 0 _
  refine x_iloadn (x := a1) rfl rfl ?_
  refine x_iflt (tgt := 31) rfl rfl (ti_lt rfl jk_0 (br_f (by omega) ?_))
  refine x_iloadn (x := a1) rfl rfl ?_
  refine x_aloadn (x := 61) rfl rfl ?_
  refine z_getI (N := 4) 8 3 rfl f_8_7 rfl J rfl sg_61_3_4_1_0_1 (fun v1 qv1 ev1 => ?_)
  refine x_icge (tgt := 31) rfl rfl (ti_ge rfl rfl ⟨fun c2 => ?_, fun c2 => ?_⟩)
  ·
    exact jX.sub jsb_n (ct_X8_isKnown_r61_31 hD hQ  h J Sm)
  ·
    refine x_aloadn (x := 61) rfl rfl ?_
    refine z_getR (N := 4) (b := 62) 8 2 rfl f_8_25 rfl J rfl 7810 ⟨rfl, rfl⟩ rfl ?_
    refine x_iloadn (x := a1) rfl rfl ?_
    refine x_aloadn (x := 61) rfl rfl ?_
    refine z_getC (N := 4) (v := 4) 8 0 rfl f_8_19 rfl J rfl sg_61_0_1_1_0_1 jk_4 ?_
    refine z_imul rfl rfl jk_4 (by omega) (fun v3 ev3 => ?_)
    refine z_iald (N := 400) rfl J rfl sg_62_0_400_4_0_1 rfl (by omega) (fun v4 qv4 ev4 => ?_)
    refine x_iloadn (x := a2) rfl rfl ?_
    refine x_icgt (tgt := 31) rfl rfl (ti_gt rfl rfl ⟨fun c5 => ?_, fun c5 => ?_⟩)
    ·
      exact jX.sub jsb_n (ct_X8_isKnown_r61_31 hD hQ  h J Sm)
    ·
      refine x_iconst (v := 1) rfl ki_1 ?_
      refine x_goto (tgt := 32) rfl rfl ?_
      exact jX.sub jsb_n (ct_X8_isKnown_r61_300032 hD hQ  h J Sm)
def fp_X11_priceOf_r31 : jFp := []
set_option maxRecDepth 100000 in
set_option maxHeartbeats 4000000 in
theorem ct_X11_priceOf_r31_83 {Dy : jH → Prop} {h0 : jH} {Q : Option Value → jH → Prop} {R14 : Int} (hD : jDk Dy) (hQ : ∀ (v : Int32) hx9, (-1) ≤ v.toInt ∧ v.toInt ≤ 10000 → jJ jSgX Dy hx9 → jSm fp_X11_priceOf_r31 h0 hx9 → Q (some (.int v)) hx9) (k14 : ∀ (l1 : Int32) (l2 : Int32) (l3 : Int32) (l4 : Int32) (h : jH), l4.toInt - (-1) < R14 → 0 ≤ l1.toInt ∧ l1.toInt ≤ 2 → 0 ≤ l2.toInt ∧ l2.toInt ≤ 398 → 0 ≤ l3.toInt ∧ l3.toInt ≤ 146399 → (-1) ≤ l4.toInt ∧ l4.toInt ≤ 99 → jJ jSgX Dy h → jSm fp_X11_priceOf_r31 h0 h → jX m_X11_priceOf 2 0 0 14 [(0, .ref 31), (1, .int l1), (2, .int l2), (3, .int l3), (4, .int l4)] [] h 0 0 Q) : ∀ (l1 : Int32) (l2 : Int32) (l3 : Int32) (l4 : Int32) (h : jH), 0 ≤ l1.toInt ∧ l1.toInt ≤ 2 → 0 ≤ l2.toInt ∧ l2.toInt ≤ 398 → 0 ≤ l3.toInt ∧ l3.toInt ≤ 146399 → 0 ≤ l4.toInt ∧ l4.toInt ≤ 99 → l4.toInt - (-1) ≤ R14 → jJ jSgX Dy h → jSm fp_X11_priceOf_r31 h0 h → jX m_X11_priceOf 2 0 0 83 [(0, .ref 31), (1, .int l1), (2, .int l2), (3, .int l3), (4, .int l4)] [] h 0 0 Q := by
  intro l1 l2 l3 l4 h y0 y1 y2 y3  m14 J Sm
  refine z_iinc (x := l4) (lsx9 := fun v1 => [(4, .int v1), (0, .ref 31), (1, .int l1), (2, .int l2), (3, .int l3)]) rfl rfl rfl jko_m1 (by omega) rfl (fun _ => rfl) (fun v1 ev1 => ?_)
  refine x_goto (tgt := 14) rfl rfl ?_
  exact jX.sub (jsb_c rfl (jsb_c rfl (jsb_c rfl (jsb_c rfl (jsb_c rfl jsb_n))))) (k14 l1 l2 l3 v1 h (by omega) (jr_of rfl (by omega)) (jr_of rfl (by omega)) (jr_of rfl (by omega)) (jr_of rfl (by omega)) J Sm)
set_option maxRecDepth 100000 in
set_option maxHeartbeats 4000000 in
theorem ct_X11_priceOf_r31_14 {Dy : jH → Prop} {h0 : jH} {Q : Option Value → jH → Prop} (hD : jDk Dy) (hQ : ∀ (v : Int32) hx9, (-1) ≤ v.toInt ∧ v.toInt ≤ 10000 → jJ jSgX Dy hx9 → jSm fp_X11_priceOf_r31 h0 hx9 → Q (some (.int v)) hx9) : ∀ r : Nat, ∀ (l1 : Int32) (l2 : Int32) (l3 : Int32) (l4 : Int32) (h : jH), l4.toInt - (-1) < (r : Int) → 0 ≤ l1.toInt ∧ l1.toInt ≤ 2 → 0 ≤ l2.toInt ∧ l2.toInt ≤ 398 → 0 ≤ l3.toInt ∧ l3.toInt ≤ 146399 → (-1) ≤ l4.toInt ∧ l4.toInt ≤ 99 → jJ jSgX Dy h → jSm fp_X11_priceOf_r31 h0 h → jX m_X11_priceOf 2 0 0 14 [(0, .ref 31), (1, .int l1), (2, .int l2), (3, .int l3), (4, .int l4)] [] h 0 0 Q := by
  intro r
  induction r with
  | zero =>
    intro l1 l2 l3 l4 h hm y0 y1 y2 y3   J Sm
    exfalso
    omega
  | succ r ih =>
    intro l1 l2 l3 l4 h hm y0 y1 y2 y3   J Sm
    refine x_iload (x := l4) rfl rfl ?_
    refine x_iflt (tgt := 89) rfl rfl (ti_lt rfl jk_0 ⟨fun c1 => ?_, fun c1 => ?_⟩)
    ·
      refine x_iconst (v := (-1)) rfl ki_m1 ?_
      refine x_iret rfl rfl ?_
      exact hQ _ _ (jr_of jk_m1 (by omega)) J Sm
    ·
      refine x_aloadn (x := 31) rfl rfl ?_
      refine z_getR (N := 13) (b := 32) 11 0 rfl f_11_10 rfl J rfl 3968 ⟨rfl, rfl⟩ rfl ?_
      refine z_getR (N := 20) (b := 61) 1 14 rfl f_11_503 rfl J rfl 4110 ⟨rfl, rfl⟩ rfl ?_
      refine x_iload (x := l4) rfl rfl ?_
      refine x_iconst (v := 1) rfl ki_1 ?_
      refine x_inv (N := m_X8_at) (As := [.int l4, .int 1]) (b := 61) (st := []) (dx9 := 1) (mc := 0) (ms := 0) (host := "") 8 rfl t_X8_at ⟨Or.inl q_11_171, i_X8_at.1, i_X8_at.2⟩ ⟨by decide, rfl⟩ (congrArg Prod.fst (J.1.1 61 (8, 4) rfl)) rfl (by decide) rfl rfl ⟨by decide, by decide⟩ (sf_X8_at_r61_c1 (jr_of rfl (by omega)) hD J  (fun v3 h ev3 J S2 => ?_))
      have Sm := jSm_tr rfl Sm S2
      show jX m_X11_priceOf 2 0 0 32 [(0, .ref 31), (1, .int l1), (2, .int l2), (3, .int l3), (4, .int l4)] [.int v3] _ 0 0 _
      refine x_iloadn (x := l2) rfl rfl ?_
      refine x_icne (tgt := 83) rfl rfl (ti_ne rfl rfl ⟨fun c4 => ?_, fun c4 => ?_⟩)
      ·
        exact jX.sub (jsb_c rfl (jsb_c rfl (jsb_c rfl (jsb_c rfl (jsb_c rfl jsb_n))))) (ct_X11_priceOf_r31_83 hD hQ ih l1 l2 l3 l4 h (jr_of rfl (by omega)) (jr_of rfl (by omega)) (jr_of rfl (by omega)) (jr_of rfl (by omega)) (by omega) J Sm)
      ·
        refine x_aloadn (x := 31) rfl rfl ?_
        refine z_getR (N := 13) (b := 32) 11 0 rfl f_11_10 rfl J rfl 3968 ⟨rfl, rfl⟩ rfl ?_
        refine z_getR (N := 20) (b := 61) 1 14 rfl f_11_503 rfl J rfl 4110 ⟨rfl, rfl⟩ rfl ?_
        refine x_iload (x := l4) rfl rfl ?_
        refine x_iconst (v := 2) rfl ki_2 ?_
        refine x_inv (N := m_X8_at) (As := [.int l4, .int 2]) (b := 61) (st := []) (dx9 := 1) (mc := 0) (ms := 0) (host := "") 8 rfl t_X8_at ⟨Or.inl q_11_171, i_X8_at.1, i_X8_at.2⟩ ⟨by decide, rfl⟩ (congrArg Prod.fst (J.1.1 61 (8, 4) rfl)) rfl (by decide) rfl rfl ⟨by decide, by decide⟩ (sf_X8_at_r61_c2 (jr_of rfl (by omega)) hD J  (fun v6 h ev6 J S5 => ?_))
        have Sm := jSm_tr rfl Sm S5
        show jX m_X11_priceOf 2 0 0 49 [(0, .ref 31), (1, .int l1), (2, .int l2), (3, .int l3), (4, .int l4)] [.int v6] _ 0 0 _
        refine x_iloadn (x := l1) rfl rfl ?_
        refine x_icne (tgt := 83) rfl rfl (ti_ne rfl rfl ⟨fun c7 => ?_, fun c7 => ?_⟩)
        ·
          exact jX.sub (jsb_c rfl (jsb_c rfl (jsb_c rfl (jsb_c rfl (jsb_c rfl jsb_n))))) (ct_X11_priceOf_r31_83 hD hQ ih l1 l2 l3 l4 h (jr_of rfl (by omega)) (jr_of rfl (by omega)) (jr_of rfl (by omega)) (jr_of rfl (by omega)) (by omega) J Sm)
        ·
          refine x_aloadn (x := 31) rfl rfl ?_
          refine z_getR (N := 13) (b := 32) 11 0 rfl f_11_10 rfl J rfl 3968 ⟨rfl, rfl⟩ rfl ?_
          refine z_getR (N := 20) (b := 61) 1 14 rfl f_11_503 rfl J rfl 4110 ⟨rfl, rfl⟩ rfl ?_
          refine x_iload (x := l4) rfl rfl ?_
          refine x_iloadn (x := l3) rfl rfl ?_
          refine x_inv (N := m_X8_isKnown) (As := [.int l4, .int l3]) (b := 61) (st := []) (dx9 := 1) (mc := 0) (ms := 0) (host := "") 8 rfl t_X8_isKnown ⟨Or.inl q_11_440, i_X8_isKnown.1, i_X8_isKnown.2⟩ ⟨by decide, rfl⟩ (congrArg Prod.fst (J.1.1 61 (8, 4) rfl)) rfl (by decide) rfl rfl ⟨by decide, by decide⟩ (sf_X8_isKnown_r61 (jr_of rfl (by omega)) (jr_of rfl (by omega)) hD J  (fun v9 h ev9 J S8 => ?_))
          have Sm := jSm_tr rfl Sm S8
          show jX m_X11_priceOf 2 0 0 66 [(0, .ref 31), (1, .int l1), (2, .int l2), (3, .int l3), (4, .int l4)] [.int v9] _ 0 0 _
          refine x_ifeq (tgt := 83) rfl rfl (ti_eq rfl jk_0 ⟨fun c10 => ?_, fun c10 => ?_⟩)
          ·
            exact jX.sub (jsb_c rfl (jsb_c rfl (jsb_c rfl (jsb_c rfl (jsb_c rfl jsb_n))))) (ct_X11_priceOf_r31_83 hD hQ ih l1 l2 l3 l4 h (jr_of rfl (by omega)) (jr_of rfl (by omega)) (jr_of rfl (by omega)) (jr_of rfl (by omega)) (by omega) J Sm)
          ·
            refine x_aloadn (x := 31) rfl rfl ?_
            refine z_getR (N := 13) (b := 32) 11 0 rfl f_11_10 rfl J rfl 3968 ⟨rfl, rfl⟩ rfl ?_
            refine z_getR (N := 20) (b := 61) 1 14 rfl f_11_503 rfl J rfl 4110 ⟨rfl, rfl⟩ rfl ?_
            refine x_iload (x := l4) rfl rfl ?_
            refine x_iconst (v := 3) rfl ki_3 ?_
            refine x_inv (N := m_X8_at) (As := [.int l4, .int 3]) (b := 61) (st := []) (dx9 := 1) (mc := 0) (ms := 0) (host := "") 8 rfl t_X8_at ⟨Or.inl q_11_171, i_X8_at.1, i_X8_at.2⟩ ⟨by decide, rfl⟩ (congrArg Prod.fst (J.1.1 61 (8, 4) rfl)) rfl (by decide) rfl rfl ⟨by decide, by decide⟩ (sf_X8_at_r61_c3 (jr_of rfl (by omega)) hD J  (fun v12 h ev12 J S11 => ?_))
            have Sm := jSm_tr rfl Sm S11
            show jX m_X11_priceOf 2 0 0 82 [(0, .ref 31), (1, .int l1), (2, .int l2), (3, .int l3), (4, .int l4)] [.int v12] _ 0 0 _
            refine x_iret rfl rfl ?_
            exact hQ _ _ (jr_of rfl (by omega)) J Sm
set_option maxRecDepth 100000 in
set_option maxHeartbeats 4000000 in
theorem sf_X11_priceOf_r31 {Dy : jH → Prop} {h : jH} {Q : Option Value → jH → Prop} {a1 : Int32} {a2 : Int32} {a3 : Int32} (y1 : 0 ≤ a1.toInt ∧ a1.toInt ≤ 2) (y2 : 0 ≤ a2.toInt ∧ a2.toInt ≤ 398) (y3 : 0 ≤ a3.toInt ∧ a3.toInt ≤ 146399) (hD : jDk Dy) (J : jJ jSgX Dy h) (hQ : ∀ (v : Int32) hx9, (-1) ≤ v.toInt ∧ v.toInt ≤ 10000 → jJ jSgX Dy hx9 → jSm fp_X11_priceOf_r31 h hx9 → Q (some (.int v)) hx9) : jC m_X11_priceOf 2 0 0 [.ref 31, .int a1, .int a2, .int a3] h Q := by
  refine jC.of rfl k_X11_priceOf rfl ?_
  have Sm := jSm_rf fp_X11_priceOf_r31 h
  show jX m_X11_priceOf 2 0 0 0 [(0, .ref 31), (1, .int a1), (2, .int a2), (3, .int a3)] [] _ 0 0 _
  refine x_aloadn (x := 31) rfl rfl ?_
  refine z_getR (N := 13) (b := 32) 11 0 rfl f_11_10 rfl J rfl 3968 ⟨rfl, rfl⟩ rfl ?_
  refine z_getR (N := 20) (b := 61) 1 14 rfl f_11_503 rfl J rfl 4110 ⟨rfl, rfl⟩ rfl ?_
  refine z_getI (N := 4) 8 3 rfl f_11_142 rfl J rfl sg_61_3_4_1_0_1 (fun v1 qv1 ev1 => ?_)
  refine x_iconst (v := 1) rfl ki_1 ?_
  refine z_isub rfl rfl jk_1 (by omega) (fun v2 ev2 => ?_)
  refine x_istore (lsx9 := [(4, .int v2), (0, .ref 31), (1, .int a1), (2, .int a2), (3, .int a3)]) rfl rfl rfl ?_
  exact jX.sub (jsb_c rfl (jsb_c rfl (jsb_c rfl (jsb_c rfl (jsb_c rfl jsb_n))))) (ct_X11_priceOf_r31_14 hD hQ  101 a1 a2 a3 v2 h (by omega) (jr_of rfl (by omega)) (jr_of rfl (by omega)) (jr_of rfl (by omega)) (jr_of rfl (by omega)) J Sm)
def fp_X11_coin_r31 : jFp := []
set_option maxRecDepth 100000 in
set_option maxHeartbeats 4000000 in
theorem ct_X11_coin_r31_22 {Dy : jH → Prop} {h0 : jH} {Q : Option Value → jH → Prop} (hD : jDk Dy) (hQ : ∀ (v : Int32) hx9, jJ jSgX Dy hx9 → jSm fp_X11_coin_r31 h0 hx9 → Q (some (.int v)) hx9) : ∀ (h : jH), jJ jSgX Dy h → jSm fp_X11_coin_r31 h0 h → jX m_X11_coin 3 0 0 22 [] [] h 0 0 Q := by
  intro  h    J Sm
  refine x_iconst (v := (-1)) rfl ki_m1 ?_
  refine x_iret rfl rfl ?_
  exact hQ _ _ J Sm
set_option maxRecDepth 100000 in
set_option maxHeartbeats 4000000 in
theorem ct_X11_coin_r31_125 {Dy : jH → Prop} {h0 : jH} {Q : Option Value → jH → Prop} {R30 : Int} (hD : jDk Dy) (hQ : ∀ (v : Int32) hx9, jJ jSgX Dy hx9 → jSm fp_X11_coin_r31 h0 hx9 → Q (some (.int v)) hx9) (k30 : ∀ (l1 : Int32) (l2 : Int32) (l3 : Int32) (l4 : Int64) (l6 : Int32) (h : jH), 3 - l6.toInt < R30 → 0 ≤ l1.toInt ∧ l1.toInt ≤ 39 → 0 ≤ l2.toInt ∧ l2.toInt ≤ 399 → 0 ≤ l3.toInt ∧ l3.toInt ≤ 146399 → 0 ≤ l6.toInt ∧ l6.toInt ≤ 3 → jJ jSgX Dy h → jSm fp_X11_coin_r31 h0 h → jX m_X11_coin 3 0 0 30 [(0, .ref 31), (1, .int l1), (2, .int l2), (3, .int l3), (4, .long l4), (6, .int l6)] [] h 0 0 Q) : ∀ (l1 : Int32) (l2 : Int32) (l3 : Int32) (l4 : Int64) (l6 : Int32) (h : jH), 0 ≤ l1.toInt ∧ l1.toInt ≤ 39 → 0 ≤ l2.toInt ∧ l2.toInt ≤ 399 → 0 ≤ l3.toInt ∧ l3.toInt ≤ 146399 → 0 ≤ l6.toInt ∧ l6.toInt ≤ 2 → 3 - l6.toInt ≤ R30 → jJ jSgX Dy h → jSm fp_X11_coin_r31 h0 h → jX m_X11_coin 3 0 0 125 [(0, .ref 31), (1, .int l1), (2, .int l2), (3, .int l3), (4, .long l4), (6, .int l6)] [] h 0 0 Q := by
  intro l1 l2 l3 l4 l6 h y0 y1 y2 y3  m30 J Sm
  have el4 := jfullL l4
  refine z_iinc (x := l6) (lsx9 := fun v1 => [(6, .int v1), (0, .ref 31), (1, .int l1), (2, .int l2), (3, .int l3), (4, .long l4)]) rfl rfl rfl jko_1 (by omega) rfl (fun _ => rfl) (fun v1 ev1 => ?_)
  refine x_goto (tgt := 30) rfl rfl ?_
  exact jX.sub (jsb_c rfl (jsb_c rfl (jsb_c rfl (jsb_c rfl (jsb_c rfl (jsb_c rfl jsb_n)))))) (k30 l1 l2 l3 l4 v1 h (by omega) (jr_of rfl (by omega)) (jr_of rfl (by omega)) (jr_of rfl (by omega)) (jr_of rfl (by omega)) J Sm)
set_option maxRecDepth 100000 in
set_option maxHeartbeats 4000000 in
theorem ct_X11_coin_r31_86 {Dy : jH → Prop} {h0 : jH} {Q : Option Value → jH → Prop} {R30 : Int} {R52 : Int} (hD : jDk Dy) (hQ : ∀ (v : Int32) hx9, jJ jSgX Dy hx9 → jSm fp_X11_coin_r31 h0 hx9 → Q (some (.int v)) hx9) (k30 : ∀ (l1 : Int32) (l2 : Int32) (l3 : Int32) (l4 : Int64) (l6 : Int32) (h : jH), 3 - l6.toInt < R30 → 0 ≤ l1.toInt ∧ l1.toInt ≤ 39 → 0 ≤ l2.toInt ∧ l2.toInt ≤ 399 → 0 ≤ l3.toInt ∧ l3.toInt ≤ 146399 → 0 ≤ l6.toInt ∧ l6.toInt ≤ 3 → jJ jSgX Dy h → jSm fp_X11_coin_r31 h0 h → jX m_X11_coin 3 0 0 30 [(0, .ref 31), (1, .int l1), (2, .int l2), (3, .int l3), (4, .long l4), (6, .int l6)] [] h 0 0 Q) (k52 : ∀ (l1 : Int32) (l2 : Int32) (l3 : Int32) (l4 : Int64) (l6 : Int32) (l7 : Int64) (l9 : Int32) (l10 : Int32) (h : jH), 399 - l10.toInt < R52 → 0 ≤ l1.toInt ∧ l1.toInt ≤ 39 → 0 ≤ l2.toInt ∧ l2.toInt ≤ 399 → 0 ≤ l3.toInt ∧ l3.toInt ≤ 146399 → 0 ≤ l6.toInt ∧ l6.toInt ≤ 2 → 0 ≤ l10.toInt ∧ l10.toInt ≤ 399 → 3 - l6.toInt ≤ R30 → jJ jSgX Dy h → jSm fp_X11_coin_r31 h0 h → jX m_X11_coin 3 0 0 52 [(0, .ref 31), (1, .int l1), (2, .int l2), (3, .int l3), (4, .long l4), (6, .int l6), (7, .long l7), (9, .int l9), (10, .int l10)] [] h 0 0 Q) : ∀ (l1 : Int32) (l2 : Int32) (l3 : Int32) (l4 : Int64) (l6 : Int32) (l7 : Int64) (l9 : Int32) (l10 : Int32) (h : jH), 0 ≤ l1.toInt ∧ l1.toInt ≤ 39 → 1 ≤ l2.toInt ∧ l2.toInt ≤ 399 → 0 ≤ l3.toInt ∧ l3.toInt ≤ 146399 → 0 ≤ l6.toInt ∧ l6.toInt ≤ 2 → 0 ≤ l10.toInt ∧ l10.toInt ≤ 398 → 3 - l6.toInt ≤ R30 → 399 - l10.toInt ≤ R52 → jJ jSgX Dy h → jSm fp_X11_coin_r31 h0 h → jX m_X11_coin 3 0 0 86 [(0, .ref 31), (1, .int l1), (2, .int l2), (3, .int l3), (4, .long l4), (6, .int l6), (7, .long l7), (9, .int l9), (10, .int l10)] [] h 0 0 Q := by
  intro l1 l2 l3 l4 l6 l7 l9 l10 h y0 y1 y2 y3 y4  m30 m52 J Sm
  have el4 := jfullL l4
  have el7 := jfullL l7
  have el9 := jfull l9
  refine z_iinc (x := l10) (lsx9 := fun v1 => [(10, .int v1), (0, .ref 31), (1, .int l1), (2, .int l2), (3, .int l3), (4, .long l4), (6, .int l6), (7, .long l7), (9, .int l9)]) rfl rfl rfl jko_1 (by omega) rfl (fun _ => rfl) (fun v1 ev1 => ?_)
  refine x_goto (tgt := 52) rfl rfl ?_
  exact jX.sub (jsb_c rfl (jsb_c rfl (jsb_c rfl (jsb_c rfl (jsb_c rfl (jsb_c rfl (jsb_c rfl (jsb_c rfl (jsb_c rfl jsb_n))))))))) (k52 l1 l2 l3 l4 l6 l7 l9 v1 h (by omega) (jr_of rfl (by omega)) (jr_of rfl (by omega)) (jr_of rfl (by omega)) (jr_of rfl (by omega)) (jr_of rfl (by omega)) (by omega) J Sm)
set_option maxRecDepth 100000 in
set_option maxHeartbeats 4000000 in
theorem ct_X11_coin_r31_52 {Dy : jH → Prop} {h0 : jH} {Q : Option Value → jH → Prop} {R30 : Int} (hD : jDk Dy) (hQ : ∀ (v : Int32) hx9, jJ jSgX Dy hx9 → jSm fp_X11_coin_r31 h0 hx9 → Q (some (.int v)) hx9) (k30 : ∀ (l1 : Int32) (l2 : Int32) (l3 : Int32) (l4 : Int64) (l6 : Int32) (h : jH), 3 - l6.toInt < R30 → 0 ≤ l1.toInt ∧ l1.toInt ≤ 39 → 0 ≤ l2.toInt ∧ l2.toInt ≤ 399 → 0 ≤ l3.toInt ∧ l3.toInt ≤ 146399 → 0 ≤ l6.toInt ∧ l6.toInt ≤ 3 → jJ jSgX Dy h → jSm fp_X11_coin_r31 h0 h → jX m_X11_coin 3 0 0 30 [(0, .ref 31), (1, .int l1), (2, .int l2), (3, .int l3), (4, .long l4), (6, .int l6)] [] h 0 0 Q) : ∀ r : Nat, ∀ (l1 : Int32) (l2 : Int32) (l3 : Int32) (l4 : Int64) (l6 : Int32) (l7 : Int64) (l9 : Int32) (l10 : Int32) (h : jH), 399 - l10.toInt < (r : Int) → 0 ≤ l1.toInt ∧ l1.toInt ≤ 39 → 0 ≤ l2.toInt ∧ l2.toInt ≤ 399 → 0 ≤ l3.toInt ∧ l3.toInt ≤ 146399 → 0 ≤ l6.toInt ∧ l6.toInt ≤ 2 → 0 ≤ l10.toInt ∧ l10.toInt ≤ 399 → 3 - l6.toInt ≤ R30 → jJ jSgX Dy h → jSm fp_X11_coin_r31 h0 h → jX m_X11_coin 3 0 0 52 [(0, .ref 31), (1, .int l1), (2, .int l2), (3, .int l3), (4, .long l4), (6, .int l6), (7, .long l7), (9, .int l9), (10, .int l10)] [] h 0 0 Q := by
  intro r
  induction r with
  | zero =>
    intro l1 l2 l3 l4 l6 l7 l9 l10 h hm y0 y1 y2 y3 y4  m30 J Sm
    exfalso
    have el4 := jfullL l4
    have el7 := jfullL l7
    have el9 := jfull l9
    omega
  | succ r ih =>
    intro l1 l2 l3 l4 l6 l7 l9 l10 h hm y0 y1 y2 y3 y4  m30 J Sm
    have el4 := jfullL l4
    have el7 := jfullL l7
    have el9 := jfull l9
    refine x_iload (x := l10) rfl rfl ?_
    refine x_iloadn (x := l2) rfl rfl ?_
    refine x_icge (tgt := 92) rfl rfl (ti_ge rfl rfl ⟨fun c1 => ?_, fun c1 => ?_⟩)
    ·
      refine x_iload (x := l9) rfl rfl ?_
      refine x_ifle (tgt := 125) rfl rfl (ti_le rfl jk_0 ⟨fun c2 => ?_, fun c2 => ?_⟩)
      ·
        exact jX.sub (jsb_c rfl (jsb_c rfl (jsb_c rfl (jsb_c rfl (jsb_c rfl (jsb_c rfl jsb_n)))))) (ct_X11_coin_r31_125 hD hQ k30 l1 l2 l3 l4 l6 h (jr_of rfl (by omega)) (jr_of rfl (by omega)) (jr_of rfl (by omega)) (jr_of rfl (by omega)) (by omega) J Sm)
      ·
        refine x_lload (x := l4) rfl rfl ?_
        refine x_aloadn (x := 31) rfl rfl ?_
        refine z_getR (N := 13) (b := 123) 11 10 rfl f_11_86 rfl J rfl 3978 ⟨rfl, rfl⟩ rfl ?_
        refine x_iloadn (x := l1) rfl rfl ?_
        refine x_iconst (v := 3) rfl ki_3 ?_
        refine z_imul rfl rfl jk_3 (by omega) (fun v3 ev3 => ?_)
        refine x_iload (x := l6) rfl rfl ?_
        refine z_iadd rfl rfl rfl (by omega) (fun v4 ev4 => ?_)
        refine z_iald (N := 120) rfl J rfl sg_123_0_120_1_0_1 rfl (by omega) (fun v5 qv5 ev5 => ?_)
        refine z_i2l rfl rfl (fun v6 ev6 => ?_)
        refine x_lload (x := l7) rfl rfl ?_
        refine z_lmul0 rfl (fun v7 => ?_)
        have ev7 := jfullL v7
        refine x_sipush (v := 420) rfl ks_420 ?_
        refine x_iload (x := l9) rfl rfl ?_
        refine z_idivb rfl jk_420 rfl (by omega) (by omega) (fun v8 ev8 => ?_)
        refine z_i2l rfl rfl (fun v9 ev9 => ?_)
        refine z_lmul0 rfl (fun v10 => ?_)
        have ev10 := jfullL v10
        refine z_ladd0 rfl (fun v11 => ?_)
        have ev11 := jfullL v11
        refine x_lstore (lsx9 := [(4, .long v11), (0, .ref 31), (1, .int l1), (2, .int l2), (3, .int l3), (6, .int l6), (7, .long l7), (9, .int l9), (10, .int l10)]) rfl rfl rfl ?_
        exact jX.sub (jsb_c rfl (jsb_c rfl (jsb_c rfl (jsb_c rfl (jsb_c rfl (jsb_c rfl jsb_n)))))) (ct_X11_coin_r31_125 hD hQ k30 l1 l2 l3 v11 l6 h (jr_of rfl (by omega)) (jr_of rfl (by omega)) (jr_of rfl (by omega)) (jr_of rfl (by omega)) (by omega) J Sm)
    ·
      refine x_aloadn (x := 31) rfl rfl ?_
      refine x_iload (x := l6) rfl rfl ?_
      refine x_iload (x := l10) rfl rfl ?_
      refine x_iloadn (x := l3) rfl rfl ?_
      refine x_inv (N := m_X11_priceOf) (As := [.int l6, .int l10, .int l3]) (b := 31) (st := []) (dx9 := 2) (mc := 0) (ms := 0) (host := "") 11 rfl t_X11_priceOf ⟨Or.inl q_11_506, i_X11_priceOf.1, i_X11_priceOf.2⟩ ⟨by decide, rfl⟩ (congrArg Prod.fst (J.1.1 31 (11, 13) rfl)) rfl (by decide) rfl rfl ⟨by decide, by decide⟩ (sf_X11_priceOf_r31 (jr_of rfl (by omega)) (jr_of rfl (by omega)) (jr_of rfl (by omega)) hD J  (fun v13 h ev13 J S12 => ?_))
      have Sm := jSm_tr rfl Sm S12
      show jX m_X11_coin 3 0 0 67 [(0, .ref 31), (1, .int l1), (2, .int l2), (3, .int l3), (4, .long l4), (6, .int l6), (7, .long l7), (9, .int l9), (10, .int l10)] [.int v13] _ 0 0 _
      refine x_istore (lsx9 := [(11, .int v13), (0, .ref 31), (1, .int l1), (2, .int l2), (3, .int l3), (4, .long l4), (6, .int l6), (7, .long l7), (9, .int l9), (10, .int l10)]) rfl rfl rfl ?_
      refine x_iload (x := v13) rfl rfl ?_
      refine x_iconst (v := (-1)) rfl ki_m1 ?_
      refine x_iceq (tgt := 86) rfl rfl (ti_eq rfl jk_m1 ⟨fun c14 => ?_, fun c14 => ?_⟩)
      ·
        exact jX.sub (jsb_c rfl (jsb_c rfl (jsb_c rfl (jsb_c rfl (jsb_c rfl (jsb_c rfl (jsb_c rfl (jsb_c rfl (jsb_c rfl jsb_n))))))))) (ct_X11_coin_r31_86 hD hQ k30 ih l1 l2 l3 l4 l6 l7 l9 l10 h (jr_of rfl (by omega)) (jr_of rfl (by omega)) (jr_of rfl (by omega)) (jr_of rfl (by omega)) (jr_of rfl (by omega)) (by omega) (by omega) J Sm)
      ·
        refine x_lload (x := l7) rfl rfl ?_
        refine x_iload (x := v13) rfl rfl ?_
        refine z_i2l rfl rfl (fun v15 ev15 => ?_)
        refine z_ladd0 rfl (fun v16 => ?_)
        have ev16 := jfullL v16
        refine x_lstore (lsx9 := [(7, .long v16), (11, .int v13), (0, .ref 31), (1, .int l1), (2, .int l2), (3, .int l3), (4, .long l4), (6, .int l6), (9, .int l9), (10, .int l10)]) rfl rfl rfl ?_
        refine z_iinc0 (x := l9) (lsx9 := fun v17 => [(9, .int v17), (7, .long v16), (11, .int v13), (0, .ref 31), (1, .int l1), (2, .int l2), (3, .int l3), (4, .long l4), (6, .int l6), (10, .int l10)]) rfl rfl rfl (fun _ => rfl) (fun v17 => ?_)
        have ev17 := jfull v17
        exact jX.sub (jsb_c rfl (jsb_c rfl (jsb_c rfl (jsb_c rfl (jsb_c rfl (jsb_c rfl (jsb_c rfl (jsb_c rfl (jsb_c rfl jsb_n))))))))) (ct_X11_coin_r31_86 hD hQ k30 ih l1 l2 l3 l4 l6 v16 v17 l10 h (jr_of rfl (by omega)) (jr_of rfl (by omega)) (jr_of rfl (by omega)) (jr_of rfl (by omega)) (jr_of rfl (by omega)) (by omega) (by omega) J Sm)
set_option maxRecDepth 100000 in
set_option maxHeartbeats 4000000 in
theorem ct_X11_coin_r31_30 {Dy : jH → Prop} {h0 : jH} {Q : Option Value → jH → Prop} (hD : jDk Dy) (hQ : ∀ (v : Int32) hx9, jJ jSgX Dy hx9 → jSm fp_X11_coin_r31 h0 hx9 → Q (some (.int v)) hx9) : ∀ r : Nat, ∀ (l1 : Int32) (l2 : Int32) (l3 : Int32) (l4 : Int64) (l6 : Int32) (h : jH), 3 - l6.toInt < (r : Int) → 0 ≤ l1.toInt ∧ l1.toInt ≤ 39 → 0 ≤ l2.toInt ∧ l2.toInt ≤ 399 → 0 ≤ l3.toInt ∧ l3.toInt ≤ 146399 → 0 ≤ l6.toInt ∧ l6.toInt ≤ 3 → jJ jSgX Dy h → jSm fp_X11_coin_r31 h0 h → jX m_X11_coin 3 0 0 30 [(0, .ref 31), (1, .int l1), (2, .int l2), (3, .int l3), (4, .long l4), (6, .int l6)] [] h 0 0 Q := by
  intro r
  induction r with
  | zero =>
    intro l1 l2 l3 l4 l6 h hm y0 y1 y2 y3   J Sm
    exfalso
    have el4 := jfullL l4
    omega
  | succ r ih =>
    intro l1 l2 l3 l4 l6 h hm y0 y1 y2 y3   J Sm
    have el4 := jfullL l4
    refine x_iload (x := l6) rfl rfl ?_
    refine x_iconst (v := 3) rfl ki_3 ?_
    refine x_icge (tgt := 131) rfl rfl (ti_ge rfl jk_3 ⟨fun c1 => ?_, fun c1 => ?_⟩)
    ·
      refine x_lload (x := l4) rfl rfl ?_
      refine x_ldc2 (v := 4200) rfl z_11_509 ?_
      refine z_ldiv0 rfl jkl_4200 (by omega) (fun v2 => ?_)
      have ev2 := jfullL v2
      refine z_l2i0 rfl (fun v3 => ?_)
      refine x_iret rfl rfl ?_
      exact hQ _ _ J Sm
    ·
      refine x_lconst (v := 0) rfl kl_0 ?_
      refine x_lstore (lsx9 := [(7, .long 0), (0, .ref 31), (1, .int l1), (2, .int l2), (3, .int l3), (4, .long l4), (6, .int l6)]) rfl rfl rfl ?_
      refine x_iconst (v := 0) rfl ki_0 ?_
      refine x_istore (lsx9 := [(9, .int 0), (7, .long 0), (0, .ref 31), (1, .int l1), (2, .int l2), (3, .int l3), (4, .long l4), (6, .int l6)]) rfl rfl rfl ?_
      refine x_iconst (v := 0) rfl ki_0 ?_
      refine x_iloadn (x := l2) rfl rfl ?_
      refine x_bipush (v := 7) rfl kb_7 ?_
      refine z_isub rfl rfl jk_7 (by omega) (fun v4 ev4 => ?_)
      refine z_mmax rfl q_11_193 (by decide) rfl jk_0 rfl (fun v5 ev5 => ?_)
      refine x_istore (lsx9 := [(10, .int v5), (9, .int 0), (7, .long 0), (0, .ref 31), (1, .int l1), (2, .int l2), (3, .int l3), (4, .long l4), (6, .int l6)]) rfl rfl rfl ?_
      exact jX.sub (jsb_c rfl (jsb_c rfl (jsb_c rfl (jsb_c rfl (jsb_c rfl (jsb_c rfl (jsb_c rfl (jsb_c rfl (jsb_c rfl jsb_n))))))))) (ct_X11_coin_r31_52 hD hQ ih 400 l1 l2 l3 l4 l6 0 0 v5 h (by omega) (jr_of rfl (by omega)) (jr_of rfl (by omega)) (jr_of rfl (by omega)) (jr_of rfl (by omega)) (jr_of rfl (by omega)) (by omega) J Sm)
set_option maxRecDepth 100000 in
set_option maxHeartbeats 4000000 in
theorem sf_X11_coin_r31 {Dy : jH → Prop} {h : jH} {Q : Option Value → jH → Prop} {a1 : Int32} {a2 : Int32} {a3 : Int32} (hD : jDk Dy) (J : jJ jSgX Dy h) (hQ : ∀ (v : Int32) hx9, jJ jSgX Dy hx9 → jSm fp_X11_coin_r31 h hx9 → Q (some (.int v)) hx9) : jC m_X11_coin 3 0 0 [.ref 31, .int a1, .int a2, .int a3] h Q := by
  refine jC.of rfl k_X11_coin rfl ?_
  have Sm := jSm_rf fp_X11_coin_r31 h
  have ea1 := jfull a1
  have ea2 := jfull a2
  have ea3 := jfull a3
  show jX m_X11_coin 3 0 0 0 [(0, .ref 31), (1, .int a1), (2, .int a2), (3, .int a3)] [] _ 0 0 _
  refine x_aloadn (x := 31) rfl rfl ?_
  refine x_iloadn (x := a1) rfl rfl ?_
  refine x_inv (N := m_X11_isHolding) (As := [.int a1]) (b := 31) (st := []) (dx9 := 2) (mc := 0) (ms := 0) (host := "") 11 rfl t_X11_isHolding ⟨Or.inl q_11_415, i_X11_isHolding.1, i_X11_isHolding.2⟩ ⟨by decide, rfl⟩ (congrArg Prod.fst (J.1.1 31 (11, 13) rfl)) rfl (by decide) rfl rfl ⟨by decide, by decide⟩ (jC.of rfl k_X11_isHolding rfl ?_)
  show jX m_X11_isHolding 2 0 0 0 [(0, .ref 31), (1, .int a1)] [] _ 0 0 _
  refine x_iloadn (x := a1) rfl rfl ?_
  refine x_iflt (tgt := 28) rfl rfl (ti_lt rfl jk_0 ⟨fun c1 => ?_, fun c1 => ?_⟩)
  ·
    refine x_iconst (v := 0) rfl ki_0 ?_
    refine x_zret rfl rfl (by decide) ?_
    show jX m_X11_coin 3 0 0 5 [(0, .ref 31), (1, .int a1), (2, .int a2), (3, .int a3)] [.int 0] _ 0 0 _
    refine x_ifeq (tgt := 22) rfl rfl (ti_eq jk_0 jk_0 (br_t (by omega) ?_))
    exact jX.sub jsb_n (ct_X11_coin_r31_22 hD hQ  h J Sm)
  ·
    refine x_iloadn (x := a1) rfl rfl ?_
    refine x_aloadn (x := 31) rfl rfl ?_
    refine z_getR (N := 13) (b := 32) 11 0 rfl f_11_10 rfl J rfl 3968 ⟨rfl, rfl⟩ rfl ?_
    refine z_getR (N := 20) (b := 49) 1 8 rfl f_11_408 rfl J rfl 4104 ⟨rfl, rfl⟩ rfl ?_
    refine z_getI (N := 4) 8 3 rfl f_11_142 rfl J rfl sg_49_3_4_1_0_1 (fun v2 qv2 ev2 => ?_)
    refine x_icge (tgt := 28) rfl rfl (ti_ge rfl rfl ⟨fun c3 => ?_, fun c3 => ?_⟩)
    ·
      refine x_iconst (v := 0) rfl ki_0 ?_
      refine x_zret rfl rfl (by decide) ?_
      show jX m_X11_coin 3 0 0 5 [(0, .ref 31), (1, .int a1), (2, .int a2), (3, .int a3)] [.int 0] _ 0 0 _
      refine x_ifeq (tgt := 22) rfl rfl (ti_eq jk_0 jk_0 (br_t (by omega) ?_))
      exact jX.sub jsb_n (ct_X11_coin_r31_22 hD hQ  h J Sm)
    ·
      refine x_iloadn (x := a1) rfl rfl ?_
      refine x_bipush (v := 40) rfl kb_40 ?_
      refine x_icge (tgt := 28) rfl rfl (ti_ge rfl jk_40 (br_f (by omega) ?_))
      refine x_iconst (v := 1) rfl ki_1 ?_
      refine x_goto (tgt := 29) rfl rfl ?_
      refine x_zret rfl rfl (by decide) ?_
      show jX m_X11_coin 3 0 0 5 [(0, .ref 31), (1, .int a1), (2, .int a2), (3, .int a3)] [.int 1] _ 0 0 _
      refine x_ifeq (tgt := 22) rfl rfl (ti_eq jk_1 jk_0 (br_f (by omega) ?_))
      refine x_iloadn (x := a2) rfl rfl ?_
      refine x_inst (N := m_X11_isYear) (As := [.int a2]) (st := []) (dx9 := 1) (mc := 0) (ms := 0) (host := "") rfl t_X11_isYear ⟨Or.inl q_11_433, s_X11_isYear⟩ rfl (by decide) rfl rfl ⟨by decide, by decide⟩ (zc_X11_isYear rfl (fun v4 ev4 => ?_))
      show jX m_X11_coin 3 0 0 12 [(0, .ref 31), (1, .int a1), (2, .int a2), (3, .int a3)] [.int v4] _ 0 0 _
      refine x_ifeq (tgt := 22) rfl rfl (ti_eq rfl jk_0 ⟨fun c5 => ?_, fun c5 => ?_⟩)
      ·
        exact jX.sub jsb_n (ct_X11_coin_r31_22 hD hQ  h J Sm)
      ·
        refine x_iloadn (x := a3) rfl rfl ?_
        refine x_inst (N := m_X11_isDay) (As := [.int a3]) (st := []) (dx9 := 1) (mc := 0) (ms := 0) (host := "") rfl t_X11_isDay ⟨Or.inl q_11_115, s_X11_isDay⟩ rfl (by decide) rfl rfl ⟨by decide, by decide⟩ (zc_X11_isDay rfl (fun v6 ev6 => ?_))
        show jX m_X11_coin 3 0 0 19 [(0, .ref 31), (1, .int a1), (2, .int a2), (3, .int a3)] [.int v6] _ 0 0 _
        refine x_ifne (tgt := 24) rfl rfl (ti_ne rfl jk_0 ⟨fun c7 => ?_, fun c7 => ?_⟩)
        ·
          refine x_lconst (v := 0) rfl kl_0 ?_
          refine x_lstore (lsx9 := [(4, .long 0), (0, .ref 31), (1, .int a1), (2, .int a2), (3, .int a3)]) rfl rfl rfl ?_
          refine x_iconst (v := 0) rfl ki_0 ?_
          refine x_istore (lsx9 := [(6, .int 0), (4, .long 0), (0, .ref 31), (1, .int a1), (2, .int a2), (3, .int a3)]) rfl rfl rfl ?_
          exact jX.sub (jsb_c rfl (jsb_c rfl (jsb_c rfl (jsb_c rfl (jsb_c rfl (jsb_c rfl jsb_n)))))) (ct_X11_coin_r31_30 hD hQ  4 a1 a2 a3 0 0 h (by have := jk_0; omega) (jr_of rfl (by omega)) (jr_of rfl (by omega)) (jr_of rfl (by omega)) (jr_of jk_0 (by omega)) J Sm)
        ·
          exact jX.sub jsb_n (ct_X11_coin_r31_22 hD hQ  h J Sm)
def fp_X11_count_r31 : jFp := []
set_option maxRecDepth 100000 in
set_option maxHeartbeats 4000000 in
theorem sf_X11_count_r31 {Dy : jH → Prop} {h : jH} {Q : Option Value → jH → Prop} {a1 : Int32} (hD : jDk Dy) (J : jJ jSgX Dy h) (hQ : ∀ (v : Int32) hx9, (-1) ≤ v.toInt ∧ v.toInt ≤ 400 → jJ jSgX Dy hx9 → jSm fp_X11_count_r31 h hx9 → Q (some (.int v)) hx9) : jC m_X11_count 1 0 0 [.ref 31, .int a1] h Q := by
  refine jC.of rfl k_X11_count rfl ?_
  have Sm := jSm_rf fp_X11_count_r31 h
  have ea1 := jfull a1
  show jX m_X11_count 1 0 0 0 [(0, .ref 31), (1, .int a1)] [] _ 0 0 _
  refine x_iloadn (x := a1) rfl rfl ?_
  by_cases c1 : a1.toInt = 0
  ·
    refine x_tableIn (tgt := 64) 0 rfl c1 (by decide) (by decide) rfl rfl ?_
    refine x_aloadn (x := 31) rfl rfl ?_
    refine z_getR (N := 13) (b := 32) 11 0 rfl f_11_10 rfl J rfl 3968 ⟨rfl, rfl⟩ rfl ?_
    refine z_getR (N := 20) (b := 33) 1 0 rfl f_11_126 rfl J rfl 4096 ⟨rfl, rfl⟩ rfl ?_
    refine z_getI (N := 4) 8 3 rfl f_11_142 rfl J rfl sg_33_3_4_1_0_1 (fun v2 qv2 ev2 => ?_)
    refine x_iret rfl rfl ?_
    exact hQ _ _ (jr_of rfl (by omega)) J Sm
  by_cases c3 : a1.toInt = 1
  ·
    refine x_tableIn (tgt := 75) 1 rfl c3 (by decide) (by decide) rfl rfl ?_
    refine x_aloadn (x := 31) rfl rfl ?_
    refine z_getR (N := 13) (b := 32) 11 0 rfl f_11_10 rfl J rfl 3968 ⟨rfl, rfl⟩ rfl ?_
    refine z_getI (N := 20) 1 18 rfl f_11_325 rfl J rfl sg_32_18_19_1_0_1 (fun v4 qv4 ev4 => ?_)
    refine x_iret rfl rfl ?_
    exact hQ _ _ (jr_of rfl (by omega)) J Sm
  by_cases c5 : a1.toInt = 2
  ·
    refine x_tableIn (tgt := 83) 2 rfl c5 (by decide) (by decide) rfl rfl ?_
    refine x_aloadn (x := 31) rfl rfl ?_
    refine z_getR (N := 13) (b := 32) 11 0 rfl f_11_10 rfl J rfl 3968 ⟨rfl, rfl⟩ rfl ?_
    refine z_getR (N := 20) (b := 43) 1 5 rfl f_11_378 rfl J rfl 4101 ⟨rfl, rfl⟩ rfl ?_
    refine z_getI (N := 4) 8 3 rfl f_11_142 rfl J rfl sg_43_3_4_1_0_1 (fun v6 qv6 ev6 => ?_)
    refine x_iret rfl rfl ?_
    exact hQ _ _ (jr_of rfl (by omega)) J Sm
  by_cases c7 : a1.toInt = 3
  ·
    refine x_tableIn (tgt := 94) 3 rfl c7 (by decide) (by decide) rfl rfl ?_
    refine x_aloadn (x := 31) rfl rfl ?_
    refine z_getR (N := 13) (b := 32) 11 0 rfl f_11_10 rfl J rfl 3968 ⟨rfl, rfl⟩ rfl ?_
    refine z_getR (N := 20) (b := 49) 1 8 rfl f_11_408 rfl J rfl 4104 ⟨rfl, rfl⟩ rfl ?_
    refine z_getI (N := 4) 8 3 rfl f_11_142 rfl J rfl sg_49_3_4_1_0_1 (fun v8 qv8 ev8 => ?_)
    refine x_iret rfl rfl ?_
    exact hQ _ _ (jr_of rfl (by omega)) J Sm
  by_cases c9 : a1.toInt = 4
  ·
    refine x_tableIn (tgt := 105) 4 rfl c9 (by decide) (by decide) rfl rfl ?_
    refine x_aloadn (x := 31) rfl rfl ?_
    refine z_getR (N := 13) (b := 32) 11 0 rfl f_11_10 rfl J rfl 3968 ⟨rfl, rfl⟩ rfl ?_
    refine z_getR (N := 20) (b := 63) 1 15 rfl f_11_159 rfl J rfl 4111 ⟨rfl, rfl⟩ rfl ?_
    refine z_getI (N := 4) 8 3 rfl f_11_142 rfl J rfl sg_63_3_4_1_0_1 (fun v10 qv10 ev10 => ?_)
    refine x_iret rfl rfl ?_
    exact hQ _ _ (jr_of rfl (by omega)) J Sm
  by_cases c11 : a1.toInt = 5
  ·
    refine x_tableIn (tgt := 116) 5 rfl c11 (by decide) (by decide) rfl rfl ?_
    refine x_aloadn (x := 31) rfl rfl ?_
    refine z_getR (N := 13) (b := 32) 11 0 rfl f_11_10 rfl J rfl 3968 ⟨rfl, rfl⟩ rfl ?_
    refine z_getR (N := 20) (b := 53) 1 10 rfl f_11_437 rfl J rfl 4106 ⟨rfl, rfl⟩ rfl ?_
    refine z_getI (N := 4) 8 3 rfl f_11_142 rfl J rfl sg_53_3_4_1_0_1 (fun v12 qv12 ev12 => ?_)
    refine x_iret rfl rfl ?_
    exact hQ _ _ (jr_of rfl (by omega)) J Sm
  by_cases c13 : a1.toInt = 6
  ·
    refine x_tableIn (tgt := 127) 6 rfl c13 (by decide) (by decide) rfl rfl ?_
    refine x_aloadn (x := 31) rfl rfl ?_
    refine z_getR (N := 13) (b := 32) 11 0 rfl f_11_10 rfl J rfl 3968 ⟨rfl, rfl⟩ rfl ?_
    refine z_getR (N := 20) (b := 39) 1 3 rfl f_11_237 rfl J rfl 4099 ⟨rfl, rfl⟩ rfl ?_
    refine z_getI (N := 4) 8 3 rfl f_11_142 rfl J rfl sg_39_3_4_1_0_1 (fun v14 qv14 ev14 => ?_)
    refine x_iret rfl rfl ?_
    exact hQ _ _ (jr_of rfl (by omega)) J Sm
  by_cases c15 : a1.toInt = 7
  ·
    refine x_tableIn (tgt := 138) 7 rfl c15 (by decide) (by decide) rfl rfl ?_
    refine x_aloadn (x := 31) rfl rfl ?_
    refine z_getR (N := 13) (b := 87) 11 5 rfl f_11_50 rfl J rfl 3973 ⟨rfl, rfl⟩ rfl ?_
    refine z_getI (N := 14) 3 3 rfl f_11_273 rfl J rfl sg_87_3_4_1_0_1 (fun v16 qv16 ev16 => ?_)
    refine x_iret rfl rfl ?_
    exact hQ _ _ (jr_of rfl (by omega)) J Sm
  by_cases c17 : a1.toInt = 8
  ·
    refine x_tableIn (tgt := 146) 8 rfl c17 (by decide) (by decide) rfl rfl ?_
    refine x_aloadn (x := 31) rfl rfl ?_
    refine z_getR (N := 13) (b := 68) 11 2 rfl f_11_23 rfl J rfl 3970 ⟨rfl, rfl⟩ rfl ?_
    refine z_getI (N := 6) 9 1 rfl f_11_106 rfl J rfl sg_68_1_2_1_0_1 (fun v18 qv18 ev18 => ?_)
    refine x_iret rfl rfl ?_
    exact hQ _ _ (jr_of rfl (by omega)) J Sm
  by_cases c19 : a1.toInt = 9
  ·
    refine x_tableIn (tgt := 154) 9 rfl c19 (by decide) (by decide) rfl rfl ?_
    refine x_aloadn (x := 31) rfl rfl ?_
    refine z_getR (N := 13) (b := 32) 11 0 rfl f_11_10 rfl J rfl 3968 ⟨rfl, rfl⟩ rfl ?_
    refine z_getR (N := 20) (b := 45) 1 6 rfl f_11_402 rfl J rfl 4102 ⟨rfl, rfl⟩ rfl ?_
    refine z_getI (N := 4) 8 3 rfl f_11_142 rfl J rfl sg_45_3_4_1_0_1 (fun v20 qv20 ev20 => ?_)
    refine x_iret rfl rfl ?_
    exact hQ _ _ (jr_of rfl (by omega)) J Sm
  by_cases c21 : a1.toInt = 10
  ·
    refine x_tableIn (tgt := 165) 10 rfl c21 (by decide) (by decide) rfl rfl ?_
    refine x_aloadn (x := 31) rfl rfl ?_
    refine z_getR (N := 13) (b := 32) 11 0 rfl f_11_10 rfl J rfl 3968 ⟨rfl, rfl⟩ rfl ?_
    refine z_getR (N := 20) (b := 55) 1 11 rfl f_11_452 rfl J rfl 4107 ⟨rfl, rfl⟩ rfl ?_
    refine z_getI (N := 4) 8 3 rfl f_11_142 rfl J rfl sg_55_3_4_1_0_1 (fun v22 qv22 ev22 => ?_)
    refine x_iret rfl rfl ?_
    exact hQ _ _ (jr_of rfl (by omega)) J Sm
  by_cases c23 : a1.toInt = 11
  ·
    refine x_tableIn (tgt := 176) 11 rfl c23 (by decide) (by decide) rfl rfl ?_
    refine x_aloadn (x := 31) rfl rfl ?_
    refine z_getR (N := 13) (b := 32) 11 0 rfl f_11_10 rfl J rfl 3968 ⟨rfl, rfl⟩ rfl ?_
    refine z_getR (N := 20) (b := 57) 1 12 rfl f_11_473 rfl J rfl 4108 ⟨rfl, rfl⟩ rfl ?_
    refine z_getI (N := 4) 8 3 rfl f_11_142 rfl J rfl sg_57_3_4_1_0_1 (fun v24 qv24 ev24 => ?_)
    refine x_iret rfl rfl ?_
    exact hQ _ _ (jr_of rfl (by omega)) J Sm
  refine x_tableOut (tgt := 187) rfl (by omega) rfl ?_
  refine x_iconst (v := (-1)) rfl ki_m1 ?_
  refine x_iret rfl rfl ?_
  exact hQ _ _ (jr_of jk_m1 (by omega)) J Sm
def fp_X11_counts_r31 : jFp := [(78, 13, 14), (82, 0, 600), (83, 0, 600), (84, 0, 200), (85, 0, 4), (86, 0, 3), (98, 10, 11), (98, 11, 12), (98, 12, 13), (98, 13, 14), (98, 14, 15), (98, 15, 16), (99, 0, 30), (100, 0, 30), (101, 0, 3), (102, 0, 40), (103, 0, 40), (104, 0, 40), (105, 0, 3), (106, 0, 100)]
set_option maxRecDepth 100000 in
set_option maxHeartbeats 4000000 in
theorem ct_X11_counts_r31_28 {Dy : jH → Prop} {h0 : jH} {Q : Option Value → jH → Prop} (hD : jDk Dy) (hQ : ∀ (v : Int64) hx9, jJ jSgX Dy hx9 → jSm fp_X11_counts_r31 h0 hx9 → Q (some (.long v)) hx9) : ∀ (h : jH), jJ jSgX Dy h → jSm fp_X11_counts_r31 h0 h → jX m_X11_counts 8 0 0 28 [] [] h 0 0 Q := by
  intro  h    J Sm
  refine x_ldc2 (v := (-2000000000000)) rfl z_11_351 ?_
  refine x_lret rfl rfl ?_
  exact hQ _ _ J Sm
set_option maxRecDepth 100000 in
set_option maxHeartbeats 4000000 in
theorem ct_X11_counts_r31_125 {Dy : jH → Prop} {h0 : jH} {Q : Option Value → jH → Prop} (hD : jDk Dy) (hQ : ∀ (v : Int64) hx9, jJ jSgX Dy hx9 → jSm fp_X11_counts_r31 h0 hx9 → Q (some (.long v)) hx9) : ∀ (s0 : Int64) (h : jH), (-2147483648) ≤ s0.toInt ∧ s0.toInt ≤ 2147483647 → jJ jSgX Dy h → jSm fp_X11_counts_r31 h0 h → jX m_X11_counts 8 0 0 125 [] [.long s0] h 0 0 Q := by
  intro s0 h y0   J Sm
  refine x_lret rfl rfl ?_
  exact hQ _ _ J Sm
set_option maxRecDepth 100000 in
set_option maxHeartbeats 4000000 in
theorem sf_X11_counts_r31 {Dy : jH → Prop} {h : jH} {Q : Option Value → jH → Prop} {a1 : Int32} {a2 : Int32} {a3 : Int32} {a4 : Int32} {a5 : Int32} (hD : jDk Dy) (J : jJ jSgX Dy h) (hQ : ∀ (v : Int64) hx9, jJ jSgX Dy hx9 → jSm fp_X11_counts_r31 h hx9 → Q (some (.long v)) hx9) : jC m_X11_counts 8 0 0 [.ref 31, .int a1, .int a2, .int a3, .int a4, .int a5] h Q := by
  refine jC.of rfl k_X11_counts rfl ?_
  have Sm := jSm_rf fp_X11_counts_r31 h
  have ea1 := jfull a1
  have ea2 := jfull a2
  have ea3 := jfull a3
  have ea4 := jfull a4
  have ea5 := jfull a5
  show jX m_X11_counts 8 0 0 0 [(0, .ref 31), (1, .int a1), (2, .int a2), (3, .int a3), (4, .int a4), (5, .int a5)] [] _ 0 0 _
  refine x_iloadn (x := a1) rfl rfl ?_
  refine x_iflt (tgt := 28) rfl rfl (ti_lt rfl jk_0 ⟨fun c1 => ?_, fun c1 => ?_⟩)
  ·
    exact jX.sub jsb_n (ct_X11_counts_r31_28 hD hQ  h J Sm)
  ·
    refine x_iloadn (x := a1) rfl rfl ?_
    refine x_bipush (v := 7) rfl kb_7 ?_
    refine x_icgt (tgt := 28) rfl rfl (ti_gt rfl jk_7 ⟨fun c2 => ?_, fun c2 => ?_⟩)
    ·
      exact jX.sub jsb_n (ct_X11_counts_r31_28 hD hQ  h J Sm)
    ·
      refine x_iload (x := a5) rfl rfl ?_
      refine x_iflt (tgt := 28) rfl rfl (ti_lt rfl jk_0 ⟨fun c3 => ?_, fun c3 => ?_⟩)
      ·
        exact jX.sub jsb_n (ct_X11_counts_r31_28 hD hQ  h J Sm)
      ·
        refine x_iload (x := a5) rfl rfl ?_
        refine x_iconst (v := 2) rfl ki_2 ?_
        refine x_icgt (tgt := 28) rfl rfl (ti_gt rfl jk_2 ⟨fun c4 => ?_, fun c4 => ?_⟩)
        ·
          exact jX.sub jsb_n (ct_X11_counts_r31_28 hD hQ  h J Sm)
        ·
          refine x_iloadn (x := a3) rfl rfl ?_
          refine x_inst (N := m_X11_isDay) (As := [.int a3]) (st := []) (dx9 := 1) (mc := 0) (ms := 0) (host := "") rfl t_X11_isDay ⟨Or.inl q_11_115, s_X11_isDay⟩ rfl (by decide) rfl rfl ⟨by decide, by decide⟩ (zc_X11_isDay rfl (fun v5 ev5 => ?_))
          show jX m_X11_counts 8 0 0 25 [(0, .ref 31), (1, .int a1), (2, .int a2), (3, .int a3), (4, .int a4), (5, .int a5)] [.int v5] _ 0 0 _
          refine x_ifne (tgt := 32) rfl rfl (ti_ne rfl jk_0 ⟨fun c6 => ?_, fun c6 => ?_⟩)
          ·
            refine x_aloadn (x := 31) rfl rfl ?_
            refine x_iloadn (x := a2) rfl rfl ?_
            refine x_iload (x := a4) rfl rfl ?_
            refine x_inv (N := m_X11_soulOn) (As := [.int a2, .int a4]) (b := 31) (st := []) (dx9 := 7) (mc := 0) (ms := 0) (host := "") 11 rfl t_X11_soulOn ⟨Or.inl q_11_234, i_X11_soulOn.1, i_X11_soulOn.2⟩ ⟨by decide, rfl⟩ (congrArg Prod.fst (J.1.1 31 (11, 13) rfl)) rfl (by decide) rfl rfl ⟨by decide, by decide⟩ (jC.of rfl k_X11_soulOn rfl ?_)
            show jX m_X11_soulOn 7 0 0 0 [(0, .ref 31), (1, .int a2), (2, .int a4)] [] _ 0 0 _
            refine x_iloadn (x := a4) rfl rfl ?_
            refine x_inst (N := m_X11_isDay) (As := [.int a4]) (st := []) (dx9 := 1) (mc := 0) (ms := 0) (host := "") rfl t_X11_isDay ⟨Or.inl q_11_115, s_X11_isDay⟩ rfl (by decide) rfl rfl ⟨by decide, by decide⟩ (zc_X11_isDay rfl (fun v7 ev7 => ?_))
            show jX m_X11_soulOn 7 0 0 4 [(0, .ref 31), (1, .int a2), (2, .int a4)] [.int v7] _ 0 0 _
            refine x_ifeq (tgt := 18) rfl rfl (ti_eq rfl jk_0 ⟨fun c8 => ?_, fun c8 => ?_⟩)
            ·
              refine x_iconst (v := (-1)) rfl ki_m1 ?_
              refine x_iret rfl rfl ?_
              show jX m_X11_counts 8 0 0 39 [(0, .ref 31), (1, .int a1), (2, .int a2), (3, .int a3), (4, .int a4), (5, .int a5)] [.int (-1)] _ 0 0 _
              refine x_istore (lsx9 := [(6, .int (-1)), (0, .ref 31), (1, .int a1), (2, .int a2), (3, .int a3), (4, .int a4), (5, .int a5)]) rfl rfl rfl ?_
              refine x_iload (x := (-1)) rfl rfl ?_
              refine x_iconst (v := (-1)) rfl ki_m1 ?_
              refine x_icne (tgt := 51) rfl rfl (ti_ne jk_m1 jk_m1 (bn_f (by omega) ?_))
              refine x_ldc2 (v := (-2000000000000)) rfl z_11_351 ?_
              refine x_lret rfl rfl ?_
              exact hQ _ _ J Sm
            ·
              refine x_aloadn (x := 31) rfl rfl ?_
              refine z_getR (N := 13) (b := 78) 11 4 rfl f_11_41 rfl J rfl 3972 ⟨rfl, rfl⟩ rfl ?_
              refine x_iloadn (x := a2) rfl rfl ?_
              refine x_inv (N := m_X7_isMention) (As := [.int a2]) (b := 78) (st := []) (dx9 := 6) (mc := 0) (ms := 0) (host := "") 7 rfl t_X7_isMention ⟨Or.inl q_11_187, i_X7_isMention.1, i_X7_isMention.2⟩ ⟨by decide, rfl⟩ (congrArg Prod.fst (J.1.1 78 (7, 16) rfl)) rfl (by decide) rfl rfl ⟨by decide, by decide⟩ (jC.of rfl k_X7_isMention rfl ?_)
              show jX m_X7_isMention 6 0 0 0 [(0, .ref 78), (1, .int a2)] [] _ 0 0 _
              refine x_iloadn (x := a2) rfl rfl ?_
              refine x_iflt (tgt := 41) rfl rfl (ti_lt rfl jk_0 ⟨fun c9 => ?_, fun c9 => ?_⟩)
              ·
                refine x_iconst (v := 0) rfl ki_0 ?_
                refine x_zret rfl rfl (by decide) ?_
                show jX m_X11_soulOn 7 0 0 15 [(0, .ref 31), (1, .int a2), (2, .int a4)] [.int 0] _ 0 0 _
                refine x_ifne (tgt := 20) rfl rfl (ti_ne jk_0 jk_0 (bn_f (by omega) ?_))
                refine x_iconst (v := (-1)) rfl ki_m1 ?_
                refine x_iret rfl rfl ?_
                show jX m_X11_counts 8 0 0 39 [(0, .ref 31), (1, .int a1), (2, .int a2), (3, .int a3), (4, .int a4), (5, .int a5)] [.int (-1)] _ 0 0 _
                refine x_istore (lsx9 := [(6, .int (-1)), (0, .ref 31), (1, .int a1), (2, .int a2), (3, .int a3), (4, .int a4), (5, .int a5)]) rfl rfl rfl ?_
                refine x_iload (x := (-1)) rfl rfl ?_
                refine x_iconst (v := (-1)) rfl ki_m1 ?_
                refine x_icne (tgt := 51) rfl rfl (ti_ne jk_m1 jk_m1 (bn_f (by omega) ?_))
                refine x_ldc2 (v := (-2000000000000)) rfl z_11_351 ?_
                refine x_lret rfl rfl ?_
                exact hQ _ _ J Sm
              ·
                refine x_iloadn (x := a2) rfl rfl ?_
                refine x_sipush (v := 600) rfl ks_600 ?_
                refine x_icge (tgt := 41) rfl rfl (ti_ge rfl jk_600 ⟨fun c10 => ?_, fun c10 => ?_⟩)
                ·
                  refine x_iconst (v := 0) rfl ki_0 ?_
                  refine x_zret rfl rfl (by decide) ?_
                  show jX m_X11_soulOn 7 0 0 15 [(0, .ref 31), (1, .int a2), (2, .int a4)] [.int 0] _ 0 0 _
                  refine x_ifne (tgt := 20) rfl rfl (ti_ne jk_0 jk_0 (bn_f (by omega) ?_))
                  refine x_iconst (v := (-1)) rfl ki_m1 ?_
                  refine x_iret rfl rfl ?_
                  show jX m_X11_counts 8 0 0 39 [(0, .ref 31), (1, .int a1), (2, .int a2), (3, .int a3), (4, .int a4), (5, .int a5)] [.int (-1)] _ 0 0 _
                  refine x_istore (lsx9 := [(6, .int (-1)), (0, .ref 31), (1, .int a1), (2, .int a2), (3, .int a3), (4, .int a4), (5, .int a5)]) rfl rfl rfl ?_
                  refine x_iload (x := (-1)) rfl rfl ?_
                  refine x_iconst (v := (-1)) rfl ki_m1 ?_
                  refine x_icne (tgt := 51) rfl rfl (ti_ne jk_m1 jk_m1 (bn_f (by omega) ?_))
                  refine x_ldc2 (v := (-2000000000000)) rfl z_11_351 ?_
                  refine x_lret rfl rfl ?_
                  exact hQ _ _ J Sm
                ·
                  refine x_iloadn (x := a2) rfl rfl ?_
                  refine x_iconst (v := 3) rfl ki_3 ?_
                  refine z_idiv rfl rfl jk_3 (by omega) (by omega) (fun v11 ev11 => ?_)
                  refine x_aloadn (x := 78) rfl rfl ?_
                  refine z_getR (N := 16) (b := 32) 7 0 rfl f_7_55 rfl J rfl 9984 ⟨rfl, rfl⟩ rfl ?_
                  refine z_getR (N := 20) (b := 33) 1 0 rfl f_7_63 rfl J rfl 4096 ⟨rfl, rfl⟩ rfl ?_
                  refine z_getI (N := 4) 8 3 rfl f_7_85 rfl J rfl sg_33_3_4_1_0_1 (fun v12 qv12 ev12 => ?_)
                  refine x_icge (tgt := 41) rfl rfl (ti_ge rfl rfl ⟨fun c13 => ?_, fun c13 => ?_⟩)
                  ·
                    refine x_iconst (v := 0) rfl ki_0 ?_
                    refine x_zret rfl rfl (by decide) ?_
                    show jX m_X11_soulOn 7 0 0 15 [(0, .ref 31), (1, .int a2), (2, .int a4)] [.int 0] _ 0 0 _
                    refine x_ifne (tgt := 20) rfl rfl (ti_ne jk_0 jk_0 (bn_f (by omega) ?_))
                    refine x_iconst (v := (-1)) rfl ki_m1 ?_
                    refine x_iret rfl rfl ?_
                    show jX m_X11_counts 8 0 0 39 [(0, .ref 31), (1, .int a1), (2, .int a2), (3, .int a3), (4, .int a4), (5, .int a5)] [.int (-1)] _ 0 0 _
                    refine x_istore (lsx9 := [(6, .int (-1)), (0, .ref 31), (1, .int a1), (2, .int a2), (3, .int a3), (4, .int a4), (5, .int a5)]) rfl rfl rfl ?_
                    refine x_iload (x := (-1)) rfl rfl ?_
                    refine x_iconst (v := (-1)) rfl ki_m1 ?_
                    refine x_icne (tgt := 51) rfl rfl (ti_ne jk_m1 jk_m1 (bn_f (by omega) ?_))
                    refine x_ldc2 (v := (-2000000000000)) rfl z_11_351 ?_
                    refine x_lret rfl rfl ?_
                    exact hQ _ _ J Sm
                  ·
                    refine x_aloadn (x := 78) rfl rfl ?_
                    refine z_getR (N := 16) (b := 79) 7 7 rfl f_7_27 rfl J rfl 9991 ⟨rfl, rfl⟩ rfl ?_
                    refine x_iloadn (x := a2) rfl rfl ?_
                    refine z_iald (N := 600) rfl J rfl sg_79_0_600_1_0_1 rfl (by omega) (fun v14 qv14 ev14 => ?_)
                    refine x_iconst (v := (-1)) rfl ki_m1 ?_
                    refine x_iceq (tgt := 41) rfl rfl (ti_eq rfl jk_m1 ⟨fun c15 => ?_, fun c15 => ?_⟩)
                    ·
                      refine x_iconst (v := 0) rfl ki_0 ?_
                      refine x_zret rfl rfl (by decide) ?_
                      show jX m_X11_soulOn 7 0 0 15 [(0, .ref 31), (1, .int a2), (2, .int a4)] [.int 0] _ 0 0 _
                      refine x_ifne (tgt := 20) rfl rfl (ti_ne jk_0 jk_0 (bn_f (by omega) ?_))
                      refine x_iconst (v := (-1)) rfl ki_m1 ?_
                      refine x_iret rfl rfl ?_
                      show jX m_X11_counts 8 0 0 39 [(0, .ref 31), (1, .int a1), (2, .int a2), (3, .int a3), (4, .int a4), (5, .int a5)] [.int (-1)] _ 0 0 _
                      refine x_istore (lsx9 := [(6, .int (-1)), (0, .ref 31), (1, .int a1), (2, .int a2), (3, .int a3), (4, .int a4), (5, .int a5)]) rfl rfl rfl ?_
                      refine x_iload (x := (-1)) rfl rfl ?_
                      refine x_iconst (v := (-1)) rfl ki_m1 ?_
                      refine x_icne (tgt := 51) rfl rfl (ti_ne jk_m1 jk_m1 (bn_f (by omega) ?_))
                      refine x_ldc2 (v := (-2000000000000)) rfl z_11_351 ?_
                      refine x_lret rfl rfl ?_
                      exact hQ _ _ J Sm
                    ·
                      refine x_iconst (v := 1) rfl ki_1 ?_
                      refine x_goto (tgt := 42) rfl rfl ?_
                      refine x_zret rfl rfl (by decide) ?_
                      show jX m_X11_soulOn 7 0 0 15 [(0, .ref 31), (1, .int a2), (2, .int a4)] [.int 1] _ 0 0 _
                      refine x_ifne (tgt := 20) rfl rfl (ti_ne jk_1 jk_0 (bn_t (by omega) ?_))
                      refine x_aloadn (x := 31) rfl rfl ?_
                      refine z_getR (N := 13) (b := 78) 11 4 rfl f_11_41 rfl J rfl 3972 ⟨rfl, rfl⟩ rfl ?_
                      refine x_iloadn (x := a4) rfl rfl ?_
                      refine x_inv (N := m_X7_asKnown) (As := [.int a4]) (b := 78) (st := []) (dx9 := 6) (mc := 0) (ms := 0) (host := "") 7 rfl t_X7_asKnown ⟨Or.inl q_11_240, i_X7_asKnown.1, i_X7_asKnown.2⟩ ⟨by decide, rfl⟩ (congrArg Prod.fst (J.1.1 78 (7, 16) rfl)) rfl (by decide) rfl rfl ⟨by decide, by decide⟩ (sf_X7_asKnown_r78 (jr_of rfl (by omega)) hD J  (fun h J S16 => ?_))
                      have Sm := jSm_tr rfl Sm S16
                      show jX m_X11_soulOn 7 0 0 28 [(0, .ref 31), (1, .int a2), (2, .int a4)] [] _ 0 0 _
                      refine x_aloadn (x := 31) rfl rfl ?_
                      refine z_getR (N := 13) (b := 78) 11 4 rfl f_11_41 rfl J rfl 3972 ⟨rfl, rfl⟩ rfl ?_
                      refine z_getR (N := 16) (b := 82) 7 10 rfl f_11_537 rfl J rfl 9994 ⟨rfl, rfl⟩ rfl ?_
                      refine x_iloadn (x := a2) rfl rfl ?_
                      refine z_iald (N := 600) rfl J rfl sg_82_0_600_1_0_1 rfl (by omega) (fun v17 qv17 ev17 => ?_)
                      refine x_iret rfl rfl ?_
                      show jX m_X11_counts 8 0 0 39 [(0, .ref 31), (1, .int a1), (2, .int a2), (3, .int a3), (4, .int a4), (5, .int a5)] [.int v17] _ 0 0 _
                      refine x_istore (lsx9 := [(6, .int v17), (0, .ref 31), (1, .int a1), (2, .int a2), (3, .int a3), (4, .int a4), (5, .int a5)]) rfl rfl rfl ?_
                      refine x_iload (x := v17) rfl rfl ?_
                      refine x_iconst (v := (-1)) rfl ki_m1 ?_
                      refine x_icne (tgt := 51) rfl rfl (ti_ne rfl jk_m1 ⟨fun c18 => ?_, fun c18 => ?_⟩)
                      ·
                        refine x_aloadn (x := 31) rfl rfl ?_
                        refine z_getR (N := 13) (b := 98) 11 7 rfl f_11_66 rfl J rfl 3975 ⟨rfl, rfl⟩ rfl ?_
                        refine x_iloadn (x := a3) rfl rfl ?_
                        refine x_iload (x := a4) rfl rfl ?_
                        refine x_inv (N := m_X0_turnTo) (As := [.int a3, .int a4]) (b := 98) (st := []) (dx9 := 7) (mc := 0) (ms := 0) (host := "") 0 rfl t_X0_turnTo ⟨Or.inl q_11_345, i_X0_turnTo.1, i_X0_turnTo.2⟩ ⟨by decide, rfl⟩ (congrArg Prod.fst (J.1.1 98 (0, 16) rfl)) rfl (by decide) rfl rfl ⟨by decide, by decide⟩ (jC.of rfl k_X0_turnTo rfl ?_)
                        show jX m_X0_turnTo 7 0 0 0 [(0, .ref 98), (1, .int a3), (2, .int a4)] [] _ 0 0 _
                        refine x_aloadn (x := 98) rfl rfl ?_
                        refine x_iloadn (x := a3) rfl rfl ?_
                        refine x_iloadn (x := a4) rfl rfl ?_
                        refine x_inv (N := m_X0_readLaws) (As := [.int a3, .int a4]) (b := 98) (st := []) (dx9 := 3) (mc := 0) (ms := 0) (host := "") 0 rfl t_X0_readLaws ⟨Or.inl q_0_65, i_X0_readLaws.1, i_X0_readLaws.2⟩ ⟨by decide, rfl⟩ (congrArg Prod.fst (J.1.1 98 (0, 16) rfl)) rfl (by decide) rfl rfl ⟨by decide, by decide⟩ (sf_X0_readLaws_r98 (jr_of rfl (by omega)) (jr_of rfl (by omega)) hD J  (fun h J S19 => ?_))
                        have Sm := jSm_tr rfl Sm S19
                        show jX m_X0_turnTo 7 0 0 6 [(0, .ref 98), (1, .int a3), (2, .int a4)] [] _ 0 0 _
                        refine x_aloadn (x := 98) rfl rfl ?_
                        refine x_iloadn (x := a3) rfl rfl ?_
                        refine x_iloadn (x := a4) rfl rfl ?_
                        refine x_inv (N := m_X0_readHouses) (As := [.int a3, .int a4]) (b := 98) (st := []) (dx9 := 3) (mc := 0) (ms := 0) (host := "") 0 rfl t_X0_readHouses ⟨Or.inl q_0_69, i_X0_readHouses.1, i_X0_readHouses.2⟩ ⟨by decide, rfl⟩ (congrArg Prod.fst (J.1.1 98 (0, 16) rfl)) rfl (by decide) rfl rfl ⟨by decide, by decide⟩ (sf_X0_readHouses_r98 (jr_of rfl (by omega)) (jr_of rfl (by omega)) hD J  (fun h J S20 => ?_))
                        have Sm := jSm_tr rfl Sm S20
                        show jX m_X0_turnTo 7 0 0 12 [(0, .ref 98), (1, .int a3), (2, .int a4)] [] _ 0 0 _
                        refine x_vret rfl rfl ?_
                        show jX m_X11_counts 8 0 0 61 [(6, .int v17), (0, .ref 31), (1, .int a1), (2, .int a2), (3, .int a3), (4, .int a4), (5, .int a5)] [] _ 0 0 _
                        refine x_aloadn (x := 31) rfl rfl ?_
                        refine z_getR (N := 13) (b := 98) 11 7 rfl f_11_66 rfl J rfl 3975 ⟨rfl, rfl⟩ rfl ?_
                        refine x_gets jst_3 rfl (by decide +kernel) u_11_353 ?_
                        show jX m_X11_counts 8 0 0 68 [(6, .int v17), (0, .ref 31), (1, .int a1), (2, .int a2), (3, .int a3), (4, .int a4), (5, .int a5)] [.ref 3, .ref 98] _ 0 0 _
                        refine x_iloadn (x := a1) rfl rfl ?_
                        refine z_iald (N := 8) rfl J rfl sg_3_0_8_1_0_1 rfl (by omega) (fun v21 qv21 ev21 => ?_)
                        refine x_gets jst_4 rfl (by decide +kernel) u_11_356 ?_
                        show jX m_X11_counts 8 0 0 73 [(6, .int v17), (0, .ref 31), (1, .int a1), (2, .int a2), (3, .int a3), (4, .int a4), (5, .int a5)] [.ref 4, .int v21, .ref 98] _ 0 0 _
                        refine x_iloadn (x := a1) rfl rfl ?_
                        refine z_iald (N := 8) rfl J rfl sg_4_0_8_1_0_1 rfl (by omega) (fun v22 qv22 ev22 => ?_)
                        refine x_iload (x := v17) rfl rfl ?_
                        refine x_inv (N := m_X0_weigh) (As := [.int v21, .int v22, .int v17]) (b := 98) (st := []) (dx9 := 6) (mc := 0) (ms := 0) (host := "") 0 rfl t_X0_weigh ⟨Or.inl q_11_359, i_X0_weigh.1, i_X0_weigh.2⟩ ⟨by decide, rfl⟩ (congrArg Prod.fst (J.1.1 98 (0, 16) rfl)) rfl (by decide) rfl rfl ⟨by decide, by decide⟩ (sf_X0_weigh_r98 (jr_of rfl (by omega)) (jr_of rfl (by omega)) (jr_of rfl (by omega)) hD J  (fun v24 h ev24 J S23 => ?_))
                        have Sm := jSm_tr rfl Sm S23
                        show jX m_X11_counts 8 0 0 80 [(6, .int v17), (0, .ref 31), (1, .int a1), (2, .int a2), (3, .int a3), (4, .int a4), (5, .int a5)] [.int v24] _ 0 0 _
                        refine x_ifne (tgt := 87) rfl rfl (ti_ne rfl jk_0 ⟨fun c25 => ?_, fun c25 => ?_⟩)
                        ·
                          refine x_iload (x := a5) rfl rfl ?_
                          refine x_ifne (tgt := 100) rfl rfl (ti_ne rfl jk_0 ⟨fun c26 => ?_, fun c26 => ?_⟩)
                          ·
                            refine x_iload (x := a5) rfl rfl ?_
                            refine x_iconst (v := 1) rfl ki_1 ?_
                            refine x_icne (tgt := 117) rfl rfl (ti_ne rfl jk_1 ⟨fun c27 => ?_, fun c27 => ?_⟩)
                            ·
                              refine x_aloadn (x := 31) rfl rfl ?_
                              refine z_getR (N := 13) (b := 98) 11 7 rfl f_11_66 rfl J rfl 3975 ⟨rfl, rfl⟩ rfl ?_
                              refine z_getI0 (N := 16) 0 15 rfl f_11_369 rfl J rfl (fun v28 qv28 => ?_)
                              have ev28 := jfull v28
                              refine z_i2l rfl rfl (fun v29 ev29 => ?_)
                              exact jX.sub jsb_n (ct_X11_counts_r31_125 hD hQ  v29 h (jr_ofl rfl (by omega)) J Sm)
                            ·
                              refine x_aloadn (x := 31) rfl rfl ?_
                              refine z_getR (N := 13) (b := 98) 11 7 rfl f_11_66 rfl J rfl 3975 ⟨rfl, rfl⟩ rfl ?_
                              refine z_getI (N := 16) 0 13 rfl f_11_366 rfl J rfl sg_98_13_14_1_0_1 (fun v30 qv30 ev30 => ?_)
                              refine z_i2l rfl rfl (fun v31 ev31 => ?_)
                              refine x_goto (tgt := 125) rfl rfl ?_
                              exact jX.sub jsb_n (ct_X11_counts_r31_125 hD hQ  v31 h (jr_ofl rfl (by omega)) J Sm)
                          ·
                            refine x_aloadn (x := 31) rfl rfl ?_
                            refine z_getR (N := 13) (b := 98) 11 7 rfl f_11_66 rfl J rfl 3975 ⟨rfl, rfl⟩ rfl ?_
                            refine z_getL0 (N := 16) 0 14 rfl f_11_362 rfl J rfl (fun v32 => ?_)
                            have ev32 := jfullL v32
                            refine x_lret rfl rfl ?_
                            exact hQ _ _ J Sm
                        ·
                          refine x_ldc2 (v := (-2000000000000)) rfl z_11_351 ?_
                          refine x_lret rfl rfl ?_
                          exact hQ _ _ J Sm
                      ·
                        refine x_ldc2 (v := (-2000000000000)) rfl z_11_351 ?_
                        refine x_lret rfl rfl ?_
                        exact hQ _ _ J Sm
          ·
            exact jX.sub jsb_n (ct_X11_counts_r31_28 hD hQ  h J Sm)
def fp_X11_end_r31 : jFp := [(68, 1, 2)]
set_option maxRecDepth 100000 in
set_option maxHeartbeats 4000000 in
theorem ct_X11_end_r31_15 {Dy : jH → Prop} {h0 : jH} {Q : Option Value → jH → Prop} (hD : jDk Dy) (hQ : ∀ (v : Int32) hx9, (-1) ≤ v.toInt ∧ v.toInt ≤ 400 → jJ jSgX Dy hx9 → jSm fp_X11_end_r31 h0 hx9 → Q (some (.int v)) hx9) : ∀ (h : jH), jJ jSgX Dy h → jSm fp_X11_end_r31 h0 h → jX m_X11_end 1 0 0 15 [] [] h 0 0 Q := by
  intro  h    J Sm
  refine x_iconst (v := (-1)) rfl ki_m1 ?_
  refine x_iret rfl rfl ?_
  exact hQ _ _ (jr_of jk_m1 (by omega)) J Sm
set_option maxRecDepth 100000 in
set_option maxHeartbeats 4000000 in
theorem sf_X11_end_r31 {Dy : jH → Prop} {h : jH} {Q : Option Value → jH → Prop} {a1 : Int32} (hD : jDk Dy) (J : jJ jSgX Dy h) (hQ : ∀ (v : Int32) hx9, (-1) ≤ v.toInt ∧ v.toInt ≤ 400 → jJ jSgX Dy hx9 → jSm fp_X11_end_r31 h hx9 → Q (some (.int v)) hx9) : jC m_X11_end 1 0 0 [.ref 31, .int a1] h Q := by
  refine jC.of rfl k_X11_end rfl ?_
  have Sm := jSm_rf fp_X11_end_r31 h
  have ea1 := jfull a1
  show jX m_X11_end 1 0 0 0 [(0, .ref 31), (1, .int a1)] [] _ 0 0 _
  refine x_iloadn (x := a1) rfl rfl ?_
  refine x_iflt (tgt := 15) rfl rfl (ti_lt rfl jk_0 ⟨fun c1 => ?_, fun c1 => ?_⟩)
  ·
    exact jX.sub jsb_n (ct_X11_end_r31_15 hD hQ  h J Sm)
  ·
    refine x_iloadn (x := a1) rfl rfl ?_
    refine x_aloadn (x := 31) rfl rfl ?_
    refine z_getR (N := 13) (b := 68) 11 2 rfl f_11_23 rfl J rfl 3970 ⟨rfl, rfl⟩ rfl ?_
    refine z_getI (N := 6) 9 1 rfl f_11_106 rfl J rfl sg_68_1_2_1_0_1 (fun v2 qv2 ev2 => ?_)
    refine x_icle (tgt := 17) rfl rfl (ti_le rfl rfl ⟨fun c3 => ?_, fun c3 => ?_⟩)
    ·
      refine x_aloadn (x := 31) rfl rfl ?_
      refine z_getR (N := 13) (b := 68) 11 2 rfl f_11_23 rfl J rfl 3970 ⟨rfl, rfl⟩ rfl ?_
      refine x_iloadn (x := a1) rfl rfl ?_
      refine z_putI (N := 6) (w := a1.toInt) 9 1 rfl f_11_106 rfl (jfin_no TX9 RX9 6 rfl rfl) hD J Sm rfl rfl rfl (pw_68_1 (by omega)) rfl (fun h w4 J Sm => ?_)
      refine x_iloadn (x := a1) rfl rfl ?_
      refine x_iret rfl rfl ?_
      exact hQ _ _ (jr_of rfl (by omega)) J Sm
    ·
      exact jX.sub jsb_n (ct_X11_end_r31_15 hD hQ  h J Sm)
def fp_X8_put_r57_c0 : jFp := [(58, 0, 400)]
set_option maxRecDepth 100000 in
set_option maxHeartbeats 4000000 in
theorem ct_X8_put_r57_c0_38 {Dy : jH → Prop} {h0 : jH} {Q : Option Value → jH → Prop} (hD : jDk Dy) (hQ : ∀ hx9, jJ jSgX Dy hx9 → jSm fp_X8_put_r57_c0 h0 hx9 → Q none hx9) : ∀ (h : jH), jJ jSgX Dy h → jSm fp_X8_put_r57_c0 h0 h → jX m_X8_put 1 0 0 38 [] [] h 0 0 Q := by
  intro  h    J Sm
  refine x_vret rfl rfl ?_
  exact hQ _ J Sm
set_option maxRecDepth 100000 in
set_option maxHeartbeats 4000000 in
theorem sf_X8_put_r57_c0 {Dy : jH → Prop} {h : jH} {Q : Option Value → jH → Prop} {a1 : Int32} {a3 : Int32} (y1 : 0 ≤ a1.toInt ∧ a1.toInt ≤ 99) (y3 : 0 ≤ a3.toInt ∧ a3.toInt ≤ 146399) (hD : jDk Dy) (J : jJ jSgX Dy h) (hQ : ∀ hx9, jJ jSgX Dy hx9 → jSm fp_X8_put_r57_c0 h hx9 → Q none hx9) : jC m_X8_put 1 0 0 [.ref 57, .int a1, .int 0, .int a3] h Q := by
  refine jC.of rfl k_X8_put rfl ?_
  have Sm := jSm_rf fp_X8_put_r57_c0 h
  show jX m_X8_put 1 0 0 0 [(0, .ref 57), (1, .int a1), (2, .int 0), (3, .int a3)] [] _ 0 0 _
  refine x_iloadn (x := a1) rfl rfl ?_
  refine x_iflt (tgt := 38) rfl rfl (ti_lt rfl jk_0 (br_f (by omega) ?_))
  refine x_iloadn (x := a1) rfl rfl ?_
  refine x_aloadn (x := 57) rfl rfl ?_
  refine z_getI (N := 4) 8 3 rfl f_8_7 rfl J rfl sg_57_3_4_1_0_1 (fun v1 qv1 ev1 => ?_)
  refine x_icge (tgt := 38) rfl rfl (ti_ge rfl rfl ⟨fun c2 => ?_, fun c2 => ?_⟩)
  ·
    exact jX.sub jsb_n (ct_X8_put_r57_c0_38 hD hQ  h J Sm)
  ·
    refine x_iloadn (x := 0) rfl rfl ?_
    refine x_iflt (tgt := 38) rfl rfl (ti_lt jk_0 jk_0 (br_f (by omega) ?_))
    refine x_iloadn (x := 0) rfl rfl ?_
    refine x_aloadn (x := 57) rfl rfl ?_
    refine z_getC (N := 4) (v := 4) 8 0 rfl f_8_19 rfl J rfl sg_57_0_1_1_0_1 jk_4 ?_
    refine x_icge (tgt := 38) rfl rfl (ti_ge jk_0 jk_4 (br_f (by omega) ?_))
    refine x_aloadn (x := 57) rfl rfl ?_
    refine z_getR (N := 4) (b := 58) 8 2 rfl f_8_25 rfl J rfl 7298 ⟨rfl, rfl⟩ rfl ?_
    refine x_iloadn (x := a1) rfl rfl ?_
    refine x_aloadn (x := 57) rfl rfl ?_
    refine z_getC (N := 4) (v := 4) 8 0 rfl f_8_19 rfl J rfl sg_57_0_1_1_0_1 jk_4 ?_
    refine z_imul rfl rfl jk_4 (by omega) (fun v3 ev3 => ?_)
    refine x_iloadn (x := 0) rfl rfl ?_
    refine z_iadd rfl rfl jk_0 (by omega) (fun v4 ev4 => ?_)
    refine x_iloadn (x := a3) rfl rfl ?_
    refine z_iast (N := 400) (l := 0) (u := 400) (w := a3.toInt) rfl hD J Sm rfl rfl rfl (by omega) rfl (wr_58 (fun q1 q2 q3 q4 => by omega) (fun q1 q2 q3 q4 => by omega) (fun q1 q2 q3 q4 => by omega) (fun q1 q2 q3 q4 => by omega)) rfl (fun h w5 J Sm => ?_)
    exact jX.sub jsb_n (ct_X8_put_r57_c0_38 hD hQ  h J Sm)
def fp_X8_put_r57_c1 : jFp := [(58, 0, 400)]
set_option maxRecDepth 100000 in
set_option maxHeartbeats 4000000 in
theorem ct_X8_put_r57_c1_38 {Dy : jH → Prop} {h0 : jH} {Q : Option Value → jH → Prop} (hD : jDk Dy) (hQ : ∀ hx9, jJ jSgX Dy hx9 → jSm fp_X8_put_r57_c1 h0 hx9 → Q none hx9) : ∀ (h : jH), jJ jSgX Dy h → jSm fp_X8_put_r57_c1 h0 h → jX m_X8_put 1 0 0 38 [] [] h 0 0 Q := by
  intro  h    J Sm
  refine x_vret rfl rfl ?_
  exact hQ _ J Sm
set_option maxRecDepth 100000 in
set_option maxHeartbeats 4000000 in
theorem sf_X8_put_r57_c1 {Dy : jH → Prop} {h : jH} {Q : Option Value → jH → Prop} {a1 : Int32} {a3 : Int32} (y1 : 0 ≤ a1.toInt ∧ a1.toInt ≤ 99) (y3 : 0 ≤ a3.toInt ∧ a3.toInt ≤ 399) (hD : jDk Dy) (J : jJ jSgX Dy h) (hQ : ∀ hx9, jJ jSgX Dy hx9 → jSm fp_X8_put_r57_c1 h hx9 → Q none hx9) : jC m_X8_put 1 0 0 [.ref 57, .int a1, .int 1, .int a3] h Q := by
  refine jC.of rfl k_X8_put rfl ?_
  have Sm := jSm_rf fp_X8_put_r57_c1 h
  show jX m_X8_put 1 0 0 0 [(0, .ref 57), (1, .int a1), (2, .int 1), (3, .int a3)] [] _ 0 0 _
  refine x_iloadn (x := a1) rfl rfl ?_
  refine x_iflt (tgt := 38) rfl rfl (ti_lt rfl jk_0 (br_f (by omega) ?_))
  refine x_iloadn (x := a1) rfl rfl ?_
  refine x_aloadn (x := 57) rfl rfl ?_
  refine z_getI (N := 4) 8 3 rfl f_8_7 rfl J rfl sg_57_3_4_1_0_1 (fun v1 qv1 ev1 => ?_)
  refine x_icge (tgt := 38) rfl rfl (ti_ge rfl rfl ⟨fun c2 => ?_, fun c2 => ?_⟩)
  ·
    exact jX.sub jsb_n (ct_X8_put_r57_c1_38 hD hQ  h J Sm)
  ·
    refine x_iloadn (x := 1) rfl rfl ?_
    refine x_iflt (tgt := 38) rfl rfl (ti_lt jk_1 jk_0 (br_f (by omega) ?_))
    refine x_iloadn (x := 1) rfl rfl ?_
    refine x_aloadn (x := 57) rfl rfl ?_
    refine z_getC (N := 4) (v := 4) 8 0 rfl f_8_19 rfl J rfl sg_57_0_1_1_0_1 jk_4 ?_
    refine x_icge (tgt := 38) rfl rfl (ti_ge jk_1 jk_4 (br_f (by omega) ?_))
    refine x_aloadn (x := 57) rfl rfl ?_
    refine z_getR (N := 4) (b := 58) 8 2 rfl f_8_25 rfl J rfl 7298 ⟨rfl, rfl⟩ rfl ?_
    refine x_iloadn (x := a1) rfl rfl ?_
    refine x_aloadn (x := 57) rfl rfl ?_
    refine z_getC (N := 4) (v := 4) 8 0 rfl f_8_19 rfl J rfl sg_57_0_1_1_0_1 jk_4 ?_
    refine z_imul rfl rfl jk_4 (by omega) (fun v3 ev3 => ?_)
    refine x_iloadn (x := 1) rfl rfl ?_
    refine z_iadd rfl rfl jk_1 (by omega) (fun v4 ev4 => ?_)
    refine x_iloadn (x := a3) rfl rfl ?_
    refine z_iast (N := 400) (l := 0) (u := 400) (w := a3.toInt) rfl hD J Sm rfl rfl rfl (by omega) rfl (wr_58 (fun q1 q2 q3 q4 => by omega) (fun q1 q2 q3 q4 => by omega) (fun q1 q2 q3 q4 => by omega) (fun q1 q2 q3 q4 => by omega)) rfl (fun h w5 J Sm => ?_)
    exact jX.sub jsb_n (ct_X8_put_r57_c1_38 hD hQ  h J Sm)
def fp_X8_put_r57_c2 : jFp := [(58, 0, 400)]
set_option maxRecDepth 100000 in
set_option maxHeartbeats 4000000 in
theorem ct_X8_put_r57_c2_38 {Dy : jH → Prop} {h0 : jH} {Q : Option Value → jH → Prop} (hD : jDk Dy) (hQ : ∀ hx9, jJ jSgX Dy hx9 → jSm fp_X8_put_r57_c2 h0 hx9 → Q none hx9) : ∀ (h : jH), jJ jSgX Dy h → jSm fp_X8_put_r57_c2 h0 h → jX m_X8_put 1 0 0 38 [] [] h 0 0 Q := by
  intro  h    J Sm
  refine x_vret rfl rfl ?_
  exact hQ _ J Sm
set_option maxRecDepth 100000 in
set_option maxHeartbeats 4000000 in
theorem sf_X8_put_r57_c2 {Dy : jH → Prop} {h : jH} {Q : Option Value → jH → Prop} {a1 : Int32} {a3 : Int32} (y1 : 0 ≤ a1.toInt ∧ a1.toInt ≤ 99) (y3 : 0 ≤ a3.toInt ∧ a3.toInt ≤ 3) (hD : jDk Dy) (J : jJ jSgX Dy h) (hQ : ∀ hx9, jJ jSgX Dy hx9 → jSm fp_X8_put_r57_c2 h hx9 → Q none hx9) : jC m_X8_put 1 0 0 [.ref 57, .int a1, .int 2, .int a3] h Q := by
  refine jC.of rfl k_X8_put rfl ?_
  have Sm := jSm_rf fp_X8_put_r57_c2 h
  show jX m_X8_put 1 0 0 0 [(0, .ref 57), (1, .int a1), (2, .int 2), (3, .int a3)] [] _ 0 0 _
  refine x_iloadn (x := a1) rfl rfl ?_
  refine x_iflt (tgt := 38) rfl rfl (ti_lt rfl jk_0 (br_f (by omega) ?_))
  refine x_iloadn (x := a1) rfl rfl ?_
  refine x_aloadn (x := 57) rfl rfl ?_
  refine z_getI (N := 4) 8 3 rfl f_8_7 rfl J rfl sg_57_3_4_1_0_1 (fun v1 qv1 ev1 => ?_)
  refine x_icge (tgt := 38) rfl rfl (ti_ge rfl rfl ⟨fun c2 => ?_, fun c2 => ?_⟩)
  ·
    exact jX.sub jsb_n (ct_X8_put_r57_c2_38 hD hQ  h J Sm)
  ·
    refine x_iloadn (x := 2) rfl rfl ?_
    refine x_iflt (tgt := 38) rfl rfl (ti_lt jk_2 jk_0 (br_f (by omega) ?_))
    refine x_iloadn (x := 2) rfl rfl ?_
    refine x_aloadn (x := 57) rfl rfl ?_
    refine z_getC (N := 4) (v := 4) 8 0 rfl f_8_19 rfl J rfl sg_57_0_1_1_0_1 jk_4 ?_
    refine x_icge (tgt := 38) rfl rfl (ti_ge jk_2 jk_4 (br_f (by omega) ?_))
    refine x_aloadn (x := 57) rfl rfl ?_
    refine z_getR (N := 4) (b := 58) 8 2 rfl f_8_25 rfl J rfl 7298 ⟨rfl, rfl⟩ rfl ?_
    refine x_iloadn (x := a1) rfl rfl ?_
    refine x_aloadn (x := 57) rfl rfl ?_
    refine z_getC (N := 4) (v := 4) 8 0 rfl f_8_19 rfl J rfl sg_57_0_1_1_0_1 jk_4 ?_
    refine z_imul rfl rfl jk_4 (by omega) (fun v3 ev3 => ?_)
    refine x_iloadn (x := 2) rfl rfl ?_
    refine z_iadd rfl rfl jk_2 (by omega) (fun v4 ev4 => ?_)
    refine x_iloadn (x := a3) rfl rfl ?_
    refine z_iast (N := 400) (l := 0) (u := 400) (w := a3.toInt) rfl hD J Sm rfl rfl rfl (by omega) rfl (wr_58 (fun q1 q2 q3 q4 => by omega) (fun q1 q2 q3 q4 => by omega) (fun q1 q2 q3 q4 => by omega) (fun q1 q2 q3 q4 => by omega)) rfl (fun h w5 J Sm => ?_)
    exact jX.sub jsb_n (ct_X8_put_r57_c2_38 hD hQ  h J Sm)
def fp_X8_put_r57_c3 : jFp := [(58, 0, 400)]
set_option maxRecDepth 100000 in
set_option maxHeartbeats 4000000 in
theorem ct_X8_put_r57_c3_38 {Dy : jH → Prop} {h0 : jH} {Q : Option Value → jH → Prop} (hD : jDk Dy) (hQ : ∀ hx9, jJ jSgX Dy hx9 → jSm fp_X8_put_r57_c3 h0 hx9 → Q none hx9) : ∀ (h : jH), jJ jSgX Dy h → jSm fp_X8_put_r57_c3 h0 h → jX m_X8_put 1 0 0 38 [] [] h 0 0 Q := by
  intro  h    J Sm
  refine x_vret rfl rfl ?_
  exact hQ _ J Sm
set_option maxRecDepth 100000 in
set_option maxHeartbeats 4000000 in
theorem sf_X8_put_r57_c3 {Dy : jH → Prop} {h : jH} {Q : Option Value → jH → Prop} {a1 : Int32} {a3 : Int32} (y1 : 0 ≤ a1.toInt ∧ a1.toInt ≤ 99) (y3 : (-1000000) ≤ a3.toInt ∧ a3.toInt ≤ 1000000) (hD : jDk Dy) (J : jJ jSgX Dy h) (hQ : ∀ hx9, jJ jSgX Dy hx9 → jSm fp_X8_put_r57_c3 h hx9 → Q none hx9) : jC m_X8_put 1 0 0 [.ref 57, .int a1, .int 3, .int a3] h Q := by
  refine jC.of rfl k_X8_put rfl ?_
  have Sm := jSm_rf fp_X8_put_r57_c3 h
  show jX m_X8_put 1 0 0 0 [(0, .ref 57), (1, .int a1), (2, .int 3), (3, .int a3)] [] _ 0 0 _
  refine x_iloadn (x := a1) rfl rfl ?_
  refine x_iflt (tgt := 38) rfl rfl (ti_lt rfl jk_0 (br_f (by omega) ?_))
  refine x_iloadn (x := a1) rfl rfl ?_
  refine x_aloadn (x := 57) rfl rfl ?_
  refine z_getI (N := 4) 8 3 rfl f_8_7 rfl J rfl sg_57_3_4_1_0_1 (fun v1 qv1 ev1 => ?_)
  refine x_icge (tgt := 38) rfl rfl (ti_ge rfl rfl ⟨fun c2 => ?_, fun c2 => ?_⟩)
  ·
    exact jX.sub jsb_n (ct_X8_put_r57_c3_38 hD hQ  h J Sm)
  ·
    refine x_iloadn (x := 3) rfl rfl ?_
    refine x_iflt (tgt := 38) rfl rfl (ti_lt jk_3 jk_0 (br_f (by omega) ?_))
    refine x_iloadn (x := 3) rfl rfl ?_
    refine x_aloadn (x := 57) rfl rfl ?_
    refine z_getC (N := 4) (v := 4) 8 0 rfl f_8_19 rfl J rfl sg_57_0_1_1_0_1 jk_4 ?_
    refine x_icge (tgt := 38) rfl rfl (ti_ge jk_3 jk_4 (br_f (by omega) ?_))
    refine x_aloadn (x := 57) rfl rfl ?_
    refine z_getR (N := 4) (b := 58) 8 2 rfl f_8_25 rfl J rfl 7298 ⟨rfl, rfl⟩ rfl ?_
    refine x_iloadn (x := a1) rfl rfl ?_
    refine x_aloadn (x := 57) rfl rfl ?_
    refine z_getC (N := 4) (v := 4) 8 0 rfl f_8_19 rfl J rfl sg_57_0_1_1_0_1 jk_4 ?_
    refine z_imul rfl rfl jk_4 (by omega) (fun v3 ev3 => ?_)
    refine x_iloadn (x := 3) rfl rfl ?_
    refine z_iadd rfl rfl jk_3 (by omega) (fun v4 ev4 => ?_)
    refine x_iloadn (x := a3) rfl rfl ?_
    refine z_iast (N := 400) (l := 0) (u := 400) (w := a3.toInt) rfl hD J Sm rfl rfl rfl (by omega) rfl (wr_58 (fun q1 q2 q3 q4 => by omega) (fun q1 q2 q3 q4 => by omega) (fun q1 q2 q3 q4 => by omega) (fun q1 q2 q3 q4 => by omega)) rfl (fun h w5 J Sm => ?_)
    exact jX.sub jsb_n (ct_X8_put_r57_c3_38 hD hQ  h J Sm)
def fp_X8_put_r57_c4 : jFp := []
set_option maxRecDepth 100000 in
set_option maxHeartbeats 4000000 in
theorem ct_X8_put_r57_c4_38 {Dy : jH → Prop} {h0 : jH} {Q : Option Value → jH → Prop} (hD : jDk Dy) (hQ : ∀ hx9, jJ jSgX Dy hx9 → jSm fp_X8_put_r57_c4 h0 hx9 → Q none hx9) : ∀ (h : jH), jJ jSgX Dy h → jSm fp_X8_put_r57_c4 h0 h → jX m_X8_put 1 0 0 38 [] [] h 0 0 Q := by
  intro  h    J Sm
  refine x_vret rfl rfl ?_
  exact hQ _ J Sm
set_option maxRecDepth 100000 in
set_option maxHeartbeats 4000000 in
theorem sf_X8_put_r57_c4 {Dy : jH → Prop} {h : jH} {Q : Option Value → jH → Prop} {a1 : Int32} {a3 : Int32} (y1 : 0 ≤ a1.toInt ∧ a1.toInt ≤ 99) (y3 : 0 ≤ a3.toInt ∧ a3.toInt ≤ 0) (hD : jDk Dy) (J : jJ jSgX Dy h) (hQ : ∀ hx9, jJ jSgX Dy hx9 → jSm fp_X8_put_r57_c4 h hx9 → Q none hx9) : jC m_X8_put 1 0 0 [.ref 57, .int a1, .int 4, .int a3] h Q := by
  refine jC.of rfl k_X8_put rfl ?_
  have Sm := jSm_rf fp_X8_put_r57_c4 h
  show jX m_X8_put 1 0 0 0 [(0, .ref 57), (1, .int a1), (2, .int 4), (3, .int a3)] [] _ 0 0 _
  refine x_iloadn (x := a1) rfl rfl ?_
  refine x_iflt (tgt := 38) rfl rfl (ti_lt rfl jk_0 (br_f (by omega) ?_))
  refine x_iloadn (x := a1) rfl rfl ?_
  refine x_aloadn (x := 57) rfl rfl ?_
  refine z_getI (N := 4) 8 3 rfl f_8_7 rfl J rfl sg_57_3_4_1_0_1 (fun v1 qv1 ev1 => ?_)
  refine x_icge (tgt := 38) rfl rfl (ti_ge rfl rfl ⟨fun c2 => ?_, fun c2 => ?_⟩)
  ·
    exact jX.sub jsb_n (ct_X8_put_r57_c4_38 hD hQ  h J Sm)
  ·
    refine x_iloadn (x := 4) rfl rfl ?_
    refine x_iflt (tgt := 38) rfl rfl (ti_lt jk_4 jk_0 (br_f (by omega) ?_))
    refine x_iloadn (x := 4) rfl rfl ?_
    refine x_aloadn (x := 57) rfl rfl ?_
    refine z_getC (N := 4) (v := 4) 8 0 rfl f_8_19 rfl J rfl sg_57_0_1_1_0_1 jk_4 ?_
    refine x_icge (tgt := 38) rfl rfl (ti_ge jk_4 jk_4 (br_t (by omega) ?_))
    exact jX.sub jsb_n (ct_X8_put_r57_c4_38 hD hQ  h J Sm)
def fp_X8_put_r57_c5 : jFp := []
set_option maxRecDepth 100000 in
set_option maxHeartbeats 4000000 in
theorem ct_X8_put_r57_c5_38 {Dy : jH → Prop} {h0 : jH} {Q : Option Value → jH → Prop} (hD : jDk Dy) (hQ : ∀ hx9, jJ jSgX Dy hx9 → jSm fp_X8_put_r57_c5 h0 hx9 → Q none hx9) : ∀ (h : jH), jJ jSgX Dy h → jSm fp_X8_put_r57_c5 h0 h → jX m_X8_put 1 0 0 38 [] [] h 0 0 Q := by
  intro  h    J Sm
  refine x_vret rfl rfl ?_
  exact hQ _ J Sm
set_option maxRecDepth 100000 in
set_option maxHeartbeats 4000000 in
theorem sf_X8_put_r57_c5 {Dy : jH → Prop} {h : jH} {Q : Option Value → jH → Prop} {a1 : Int32} {a3 : Int32} (y1 : 0 ≤ a1.toInt ∧ a1.toInt ≤ 99) (y3 : 0 ≤ a3.toInt ∧ a3.toInt ≤ 0) (hD : jDk Dy) (J : jJ jSgX Dy h) (hQ : ∀ hx9, jJ jSgX Dy hx9 → jSm fp_X8_put_r57_c5 h hx9 → Q none hx9) : jC m_X8_put 1 0 0 [.ref 57, .int a1, .int 5, .int a3] h Q := by
  refine jC.of rfl k_X8_put rfl ?_
  have Sm := jSm_rf fp_X8_put_r57_c5 h
  show jX m_X8_put 1 0 0 0 [(0, .ref 57), (1, .int a1), (2, .int 5), (3, .int a3)] [] _ 0 0 _
  refine x_iloadn (x := a1) rfl rfl ?_
  refine x_iflt (tgt := 38) rfl rfl (ti_lt rfl jk_0 (br_f (by omega) ?_))
  refine x_iloadn (x := a1) rfl rfl ?_
  refine x_aloadn (x := 57) rfl rfl ?_
  refine z_getI (N := 4) 8 3 rfl f_8_7 rfl J rfl sg_57_3_4_1_0_1 (fun v1 qv1 ev1 => ?_)
  refine x_icge (tgt := 38) rfl rfl (ti_ge rfl rfl ⟨fun c2 => ?_, fun c2 => ?_⟩)
  ·
    exact jX.sub jsb_n (ct_X8_put_r57_c5_38 hD hQ  h J Sm)
  ·
    refine x_iloadn (x := 5) rfl rfl ?_
    refine x_iflt (tgt := 38) rfl rfl (ti_lt jk_5 jk_0 (br_f (by omega) ?_))
    refine x_iloadn (x := 5) rfl rfl ?_
    refine x_aloadn (x := 57) rfl rfl ?_
    refine z_getC (N := 4) (v := 4) 8 0 rfl f_8_19 rfl J rfl sg_57_0_1_1_0_1 jk_4 ?_
    refine x_icge (tgt := 38) rfl rfl (ti_ge jk_5 jk_4 (br_t (by omega) ?_))
    exact jX.sub jsb_n (ct_X8_put_r57_c5_38 hD hQ  h J Sm)
def fp_X8_add_r57 : jFp := [(57, 3, 4), (58, 0, 400)]
set_option maxRecDepth 100000 in
set_option maxHeartbeats 4000000 in
theorem sf_X8_add_r57 {Dy : jH → Prop} {h : jH} {Q : Option Value → jH → Prop} {a1 : Int32} {a2 : Int32} {a3 : Int32} {a4 : Int32} {a5 : Int32} {a6 : Int32} (y1 : 0 ≤ a1.toInt ∧ a1.toInt ≤ 146399) (y2 : 0 ≤ a2.toInt ∧ a2.toInt ≤ 399) (y3 : 0 ≤ a3.toInt ∧ a3.toInt ≤ 3) (y4 : (-1000000) ≤ a4.toInt ∧ a4.toInt ≤ 1000000) (y5 : 0 ≤ a5.toInt ∧ a5.toInt ≤ 0) (y6 : 0 ≤ a6.toInt ∧ a6.toInt ≤ 0) (hD : jDk Dy) (J : jJ jSgX Dy h) (hQ : ∀ hx9, jJ jSgX Dy hx9 → jSm fp_X8_add_r57 h hx9 → Q none hx9) : jC m_X8_add 2 0 0 [.ref 57, .int a1, .int a2, .int a3, .int a4, .int a5, .int a6] h Q := by
  refine jC.of rfl k_X8_add rfl ?_
  have Sm := jSm_rf fp_X8_add_r57 h
  show jX m_X8_add 2 0 0 0 [(0, .ref 57), (1, .int a1), (2, .int a2), (3, .int a3), (4, .int a4), (5, .int a5), (6, .int a6)] [] _ 0 0 _
  refine x_aloadn (x := 57) rfl rfl ?_
  refine z_getI (N := 4) 8 3 rfl f_8_7 rfl J rfl sg_57_3_4_1_0_1 (fun v1 qv1 ev1 => ?_)
  refine x_aloadn (x := 57) rfl rfl ?_
  refine z_getC (N := 4) (v := 100) 8 1 rfl f_8_22 rfl J rfl sg_57_1_2_1_0_1 jk_100 ?_
  refine x_iclt (tgt := 12) rfl rfl (ti_lt rfl jk_100 ⟨fun c2 => ?_, fun c2 => ?_⟩)
  ·
    refine x_aloadn (x := 57) rfl rfl ?_
    refine z_getM (N := 4) (v := v1) 8 3 rfl f_8_7 rfl J rfl qv1 ?_
    refine x_istore (lsx9 := [(7, .int v1), (0, .ref 57), (1, .int a1), (2, .int a2), (3, .int a3), (4, .int a4), (5, .int a5), (6, .int a6)]) rfl rfl rfl ?_
    refine x_aloadn (x := 57) rfl rfl ?_
    refine x_iload (x := v1) rfl rfl ?_
    refine x_iconst (v := 1) rfl ki_1 ?_
    refine z_iadd rfl rfl jk_1 (by omega) (fun v3 ev3 => ?_)
    refine z_putI (N := 4) (w := v3.toInt) 8 3 rfl f_8_7 rfl (jfin_no TX8 RX8 4 rfl rfl) hD J Sm rfl rfl rfl (pw_57_3 (by omega)) rfl (fun h w4 J Sm => ?_)
    refine x_aloadn (x := 57) rfl rfl ?_
    refine x_iload (x := v1) rfl rfl ?_
    refine x_iconst (v := 0) rfl ki_0 ?_
    refine x_iloadn (x := a1) rfl rfl ?_
    refine x_inv (N := m_X8_put) (As := [.int v1, .int 0, .int a1]) (b := 57) (st := []) (dx9 := 1) (mc := 0) (ms := 0) (host := "") 8 rfl t_X8_put ⟨Or.inl q_8_29, i_X8_put.1, i_X8_put.2⟩ ⟨by decide, rfl⟩ (congrArg Prod.fst (J.1.1 57 (8, 4) rfl)) rfl (by decide) rfl rfl ⟨by decide, by decide⟩ (sf_X8_put_r57_c0 (jr_of rfl (by omega)) (jr_of rfl (by omega)) hD J  (fun h J S5 => ?_))
    have Sm := jSm_tr rfl Sm S5
    show jX m_X8_add 2 0 0 34 [(7, .int v1), (0, .ref 57), (1, .int a1), (2, .int a2), (3, .int a3), (4, .int a4), (5, .int a5), (6, .int a6)] [] _ 0 0 _
    refine x_aloadn (x := 57) rfl rfl ?_
    refine x_iload (x := v1) rfl rfl ?_
    refine x_iconst (v := 1) rfl ki_1 ?_
    refine x_iloadn (x := a2) rfl rfl ?_
    refine x_inv (N := m_X8_put) (As := [.int v1, .int 1, .int a2]) (b := 57) (st := []) (dx9 := 1) (mc := 0) (ms := 0) (host := "") 8 rfl t_X8_put ⟨Or.inl q_8_29, i_X8_put.1, i_X8_put.2⟩ ⟨by decide, rfl⟩ (congrArg Prod.fst (J.1.1 57 (8, 4) rfl)) rfl (by decide) rfl rfl ⟨by decide, by decide⟩ (sf_X8_put_r57_c1 (jr_of rfl (by omega)) (jr_of rfl (by omega)) hD J  (fun h J S6 => ?_))
    have Sm := jSm_tr rfl Sm S6
    show jX m_X8_add 2 0 0 42 [(7, .int v1), (0, .ref 57), (1, .int a1), (2, .int a2), (3, .int a3), (4, .int a4), (5, .int a5), (6, .int a6)] [] _ 0 0 _
    refine x_aloadn (x := 57) rfl rfl ?_
    refine x_iload (x := v1) rfl rfl ?_
    refine x_iconst (v := 2) rfl ki_2 ?_
    refine x_iloadn (x := a3) rfl rfl ?_
    refine x_inv (N := m_X8_put) (As := [.int v1, .int 2, .int a3]) (b := 57) (st := []) (dx9 := 1) (mc := 0) (ms := 0) (host := "") 8 rfl t_X8_put ⟨Or.inl q_8_29, i_X8_put.1, i_X8_put.2⟩ ⟨by decide, rfl⟩ (congrArg Prod.fst (J.1.1 57 (8, 4) rfl)) rfl (by decide) rfl rfl ⟨by decide, by decide⟩ (sf_X8_put_r57_c2 (jr_of rfl (by omega)) (jr_of rfl (by omega)) hD J  (fun h J S7 => ?_))
    have Sm := jSm_tr rfl Sm S7
    show jX m_X8_add 2 0 0 50 [(7, .int v1), (0, .ref 57), (1, .int a1), (2, .int a2), (3, .int a3), (4, .int a4), (5, .int a5), (6, .int a6)] [] _ 0 0 _
    refine x_aloadn (x := 57) rfl rfl ?_
    refine x_iload (x := v1) rfl rfl ?_
    refine x_iconst (v := 3) rfl ki_3 ?_
    refine x_iload (x := a4) rfl rfl ?_
    refine x_inv (N := m_X8_put) (As := [.int v1, .int 3, .int a4]) (b := 57) (st := []) (dx9 := 1) (mc := 0) (ms := 0) (host := "") 8 rfl t_X8_put ⟨Or.inl q_8_29, i_X8_put.1, i_X8_put.2⟩ ⟨by decide, rfl⟩ (congrArg Prod.fst (J.1.1 57 (8, 4) rfl)) rfl (by decide) rfl rfl ⟨by decide, by decide⟩ (sf_X8_put_r57_c3 (jr_of rfl (by omega)) (jr_of rfl (by omega)) hD J  (fun h J S8 => ?_))
    have Sm := jSm_tr rfl Sm S8
    show jX m_X8_add 2 0 0 59 [(7, .int v1), (0, .ref 57), (1, .int a1), (2, .int a2), (3, .int a3), (4, .int a4), (5, .int a5), (6, .int a6)] [] _ 0 0 _
    refine x_aloadn (x := 57) rfl rfl ?_
    refine x_iload (x := v1) rfl rfl ?_
    refine x_iconst (v := 4) rfl ki_4 ?_
    refine x_iload (x := a5) rfl rfl ?_
    refine x_inv (N := m_X8_put) (As := [.int v1, .int 4, .int a5]) (b := 57) (st := []) (dx9 := 1) (mc := 0) (ms := 0) (host := "") 8 rfl t_X8_put ⟨Or.inl q_8_29, i_X8_put.1, i_X8_put.2⟩ ⟨by decide, rfl⟩ (congrArg Prod.fst (J.1.1 57 (8, 4) rfl)) rfl (by decide) rfl rfl ⟨by decide, by decide⟩ (sf_X8_put_r57_c4 (jr_of rfl (by omega)) (jr_of rfl (by omega)) hD J  (fun h J S9 => ?_))
    have Sm := jSm_tr rfl Sm S9
    show jX m_X8_add 2 0 0 68 [(7, .int v1), (0, .ref 57), (1, .int a1), (2, .int a2), (3, .int a3), (4, .int a4), (5, .int a5), (6, .int a6)] [] _ 0 0 _
    refine x_aloadn (x := 57) rfl rfl ?_
    refine x_iload (x := v1) rfl rfl ?_
    refine x_iconst (v := 5) rfl ki_5 ?_
    refine x_iload (x := a6) rfl rfl ?_
    refine x_inv (N := m_X8_put) (As := [.int v1, .int 5, .int a6]) (b := 57) (st := []) (dx9 := 1) (mc := 0) (ms := 0) (host := "") 8 rfl t_X8_put ⟨Or.inl q_8_29, i_X8_put.1, i_X8_put.2⟩ ⟨by decide, rfl⟩ (congrArg Prod.fst (J.1.1 57 (8, 4) rfl)) rfl (by decide) rfl rfl ⟨by decide, by decide⟩ (sf_X8_put_r57_c5 (jr_of rfl (by omega)) (jr_of rfl (by omega)) hD J  (fun h J S10 => ?_))
    have Sm := jSm_tr rfl Sm S10
    show jX m_X8_add 2 0 0 77 [(7, .int v1), (0, .ref 57), (1, .int a1), (2, .int a2), (3, .int a3), (4, .int a4), (5, .int a5), (6, .int a6)] [] _ 0 0 _
    refine x_vret rfl rfl ?_
    exact hQ _ J Sm
  ·
    refine x_vret rfl rfl ?_
    exact hQ _ J Sm
def fp_X8_isFull_r57 : jFp := []
set_option maxRecDepth 100000 in
set_option maxHeartbeats 4000000 in
theorem ct_X8_isFull_r57_200016 {Dy : jH → Prop} {h0 : jH} {Q : Option Value → jH → Prop} (hD : jDk Dy) (hQ : ∀ (v : Int32) hx9, 0 ≤ v.toInt ∧ v.toInt ≤ 1 → jJ jSgX Dy hx9 → jSm fp_X8_isFull_r57 h0 hx9 → Q (some (.int v)) hx9) : ∀ (h : jH), jJ jSgX Dy h → jSm fp_X8_isFull_r57 h0 h → jX m_X8_isFull 1 0 0 16 [] [.int 0] h 0 0 Q := by
  intro  h    J Sm
  refine x_zret rfl rfl (by decide) ?_
  exact hQ _ _ (jr_of jk_0 (by omega)) J Sm
set_option maxRecDepth 100000 in
set_option maxHeartbeats 4000000 in
theorem ct_X8_isFull_r57_300016 {Dy : jH → Prop} {h0 : jH} {Q : Option Value → jH → Prop} (hD : jDk Dy) (hQ : ∀ (v : Int32) hx9, 0 ≤ v.toInt ∧ v.toInt ≤ 1 → jJ jSgX Dy hx9 → jSm fp_X8_isFull_r57 h0 hx9 → Q (some (.int v)) hx9) : ∀ (h : jH), jJ jSgX Dy h → jSm fp_X8_isFull_r57 h0 h → jX m_X8_isFull 1 0 0 16 [] [.int 1] h 0 0 Q := by
  intro  h    J Sm
  refine x_zret rfl rfl (by decide) ?_
  exact hQ _ _ (jr_of jk_1 (by omega)) J Sm
set_option maxRecDepth 100000 in
set_option maxHeartbeats 4000000 in
theorem sf_X8_isFull_r57 {Dy : jH → Prop} {h : jH} {Q : Option Value → jH → Prop} (hD : jDk Dy) (J : jJ jSgX Dy h) (hQ : ∀ (v : Int32) hx9, 0 ≤ v.toInt ∧ v.toInt ≤ 1 → jJ jSgX Dy hx9 → jSm fp_X8_isFull_r57 h hx9 → Q (some (.int v)) hx9) : jC m_X8_isFull 1 0 0 [.ref 57] h Q := by
  refine jC.of rfl k_X8_isFull rfl ?_
  have Sm := jSm_rf fp_X8_isFull_r57 h
  show jX m_X8_isFull 1 0 0 0 [(0, .ref 57)] [] _ 0 0 _
  refine x_aloadn (x := 57) rfl rfl ?_
  refine z_getI (N := 4) 8 3 rfl f_8_7 rfl J rfl sg_57_3_4_1_0_1 (fun v1 qv1 ev1 => ?_)
  refine x_aloadn (x := 57) rfl rfl ?_
  refine z_getC (N := 4) (v := 100) 8 1 rfl f_8_22 rfl J rfl sg_57_1_2_1_0_1 jk_100 ?_
  refine x_iclt (tgt := 15) rfl rfl (ti_lt rfl jk_100 ⟨fun c2 => ?_, fun c2 => ?_⟩)
  ·
    refine x_iconst (v := 0) rfl ki_0 ?_
    exact jX.sub jsb_n (ct_X8_isFull_r57_200016 hD hQ  h J Sm)
  ·
    refine x_iconst (v := 1) rfl ki_1 ?_
    refine x_goto (tgt := 16) rfl rfl ?_
    exact jX.sub jsb_n (ct_X8_isFull_r57_300016 hD hQ  h J Sm)
def fp_X11_entry_r31 : jFp := [(31, 12, 13), (32, 19, 20), (57, 3, 4), (58, 0, 400)]
set_option maxRecDepth 100000 in
set_option maxHeartbeats 4000000 in
theorem ct_X11_entry_r31_35 {Dy : jH → Prop} {h0 : jH} {Q : Option Value → jH → Prop} (hD : jDk Dy) (hQ : ∀ (v : Int32) hx9, (-366) ≤ v.toInt ∧ v.toInt ≤ 100 → jJ jSgX Dy hx9 → jSm fp_X11_entry_r31 h0 hx9 → Q (some (.int v)) hx9) : ∀ (h : jH), jJ jSgX Dy h → jSm fp_X11_entry_r31 h0 h → jX m_X11_entry 3 0 0 35 [(0, .ref 31)] [] h 0 0 Q := by
  intro  h    J Sm
  refine x_aloadn (x := 31) rfl rfl ?_
  refine x_iconst (v := (-1)) rfl ki_m1 ?_
  refine x_inv (N := m_X11_refuse) (As := [.int (-1)]) (b := 31) (st := []) (dx9 := 2) (mc := 0) (ms := 0) (host := "") 11 rfl t_X11_refuse ⟨Or.inl q_11_206, i_X11_refuse.1, i_X11_refuse.2⟩ ⟨by decide, rfl⟩ (congrArg Prod.fst (J.1.1 31 (11, 13) rfl)) rfl (by decide) rfl rfl ⟨by decide, by decide⟩ (jC.of rfl k_X11_refuse rfl ?_)
  show jX m_X11_refuse 2 0 0 0 [(0, .ref 31), (1, .int (-1))] [] _ 0 0 _
  refine x_aloadn (x := 31) rfl rfl ?_
  refine x_iloadn (x := (-1)) rfl rfl ?_
  refine z_putI (N := 13) (w := (-1)) 11 12 rfl f_11_94 rfl (jfin_no TX11 RX11 13 rfl rfl) hD J Sm rfl rfl jk_m1 (pw_31_12 (by omega)) rfl (fun h w1 J Sm => ?_)
  refine x_iloadn (x := (-1)) rfl rfl ?_
  refine x_iret rfl rfl ?_
  show jX m_X11_entry 3 0 0 40 [(0, .ref 31)] [.int (-1)] _ 0 0 _
  refine x_iret rfl rfl ?_
  exact hQ _ _ (jr_of jk_m1 (by omega)) J Sm
set_option maxRecDepth 100000 in
set_option maxHeartbeats 4000000 in
theorem sf_X11_entry_r31 {Dy : jH → Prop} {h : jH} {Q : Option Value → jH → Prop} {a1 : Int32} {a2 : Int32} {a3 : Int32} {a4 : Int32} (hD : jDk Dy) (J : jJ jSgX Dy h) (hQ : ∀ (v : Int32) hx9, (-366) ≤ v.toInt ∧ v.toInt ≤ 100 → jJ jSgX Dy hx9 → jSm fp_X11_entry_r31 h hx9 → Q (some (.int v)) hx9) : jC m_X11_entry 3 0 0 [.ref 31, .int a1, .int a2, .int a3, .int a4] h Q := by
  refine jC.of rfl k_X11_entry rfl ?_
  have Sm := jSm_rf fp_X11_entry_r31 h
  have ea1 := jfull a1
  have ea2 := jfull a2
  have ea3 := jfull a3
  have ea4 := jfull a4
  show jX m_X11_entry 3 0 0 0 [(0, .ref 31), (1, .int a1), (2, .int a2), (3, .int a3), (4, .int a4)] [] _ 0 0 _
  refine x_iloadn (x := a1) rfl rfl ?_
  refine x_inst (N := m_X11_isOffice) (As := [.int a1]) (st := []) (dx9 := 1) (mc := 0) (ms := 0) (host := "") rfl t_X11_isOffice ⟨Or.inl q_11_456, s_X11_isOffice⟩ rfl (by decide) rfl rfl ⟨by decide, by decide⟩ (zc_X11_isOffice rfl (fun v1 ev1 => ?_))
  show jX m_X11_entry 3 0 0 4 [(0, .ref 31), (1, .int a1), (2, .int a2), (3, .int a3), (4, .int a4)] [.int v1] _ 0 0 _
  refine x_ifeq (tgt := 35) rfl rfl (ti_eq rfl jk_0 ⟨fun c2 => ?_, fun c2 => ?_⟩)
  ·
    exact jX.sub (jsb_c rfl jsb_n) (ct_X11_entry_r31_35 hD hQ  h J Sm)
  ·
    refine x_iloadn (x := a2) rfl rfl ?_
    refine x_inst (N := m_X11_isYear) (As := [.int a2]) (st := []) (dx9 := 1) (mc := 0) (ms := 0) (host := "") rfl t_X11_isYear ⟨Or.inl q_11_433, s_X11_isYear⟩ rfl (by decide) rfl rfl ⟨by decide, by decide⟩ (zc_X11_isYear rfl (fun v3 ev3 => ?_))
    show jX m_X11_entry 3 0 0 11 [(0, .ref 31), (1, .int a1), (2, .int a2), (3, .int a3), (4, .int a4)] [.int v3] _ 0 0 _
    refine x_ifeq (tgt := 35) rfl rfl (ti_eq rfl jk_0 ⟨fun c4 => ?_, fun c4 => ?_⟩)
    ·
      exact jX.sub (jsb_c rfl jsb_n) (ct_X11_entry_r31_35 hD hQ  h J Sm)
    ·
      refine x_iloadn (x := a3) rfl rfl ?_
      refine x_ldcw (v := (-1000000)) rfl z_11_472 ?_
      refine x_ldcw (v := 1000000) rfl z_11_436 ?_
      refine x_inst (N := m_X11_isWithin) (As := [.int a3, .int (-1000000), .int 1000000]) (st := []) (dx9 := 1) (mc := 0) (ms := 0) (host := "") rfl t_X11_isWithin ⟨Or.inl q_11_202, s_X11_isWithin⟩ rfl (by decide) rfl rfl ⟨by decide, by decide⟩ (zc_X11_isWithin rfl jk_m1000000 jk_1000000 (fun v5 ev5 => ?_))
      show jX m_X11_entry 3 0 0 24 [(0, .ref 31), (1, .int a1), (2, .int a2), (3, .int a3), (4, .int a4)] [.int v5] _ 0 0 _
      refine x_ifeq (tgt := 35) rfl rfl (ti_eq rfl jk_0 ⟨fun c6 => ?_, fun c6 => ?_⟩)
      ·
        exact jX.sub (jsb_c rfl jsb_n) (ct_X11_entry_r31_35 hD hQ  h J Sm)
      ·
        refine x_iload (x := a4) rfl rfl ?_
        refine x_inst (N := m_X11_isDay) (As := [.int a4]) (st := []) (dx9 := 1) (mc := 0) (ms := 0) (host := "") rfl t_X11_isDay ⟨Or.inl q_11_115, s_X11_isDay⟩ rfl (by decide) rfl rfl ⟨by decide, by decide⟩ (zc_X11_isDay rfl (fun v7 ev7 => ?_))
        show jX m_X11_entry 3 0 0 32 [(0, .ref 31), (1, .int a1), (2, .int a2), (3, .int a3), (4, .int a4)] [.int v7] _ 0 0 _
        refine x_ifne (tgt := 41) rfl rfl (ti_ne rfl jk_0 ⟨fun c8 => ?_, fun c8 => ?_⟩)
        ·
          refine x_aloadn (x := 31) rfl rfl ?_
          refine z_getR (N := 13) (b := 32) 11 0 rfl f_11_10 rfl J rfl 3968 ⟨rfl, rfl⟩ rfl ?_
          refine z_getR (N := 20) (b := 57) 1 12 rfl f_11_473 rfl J rfl 4108 ⟨rfl, rfl⟩ rfl ?_
          refine x_inv (N := m_X8_isFull) (As := []) (b := 57) (st := []) (dx9 := 1) (mc := 0) (ms := 0) (host := "") 8 rfl t_X8_isFull ⟨Or.inl q_11_130, i_X8_isFull.1, i_X8_isFull.2⟩ ⟨by decide, rfl⟩ (congrArg Prod.fst (J.1.1 57 (8, 4) rfl)) rfl (by decide) rfl rfl ⟨by decide, by decide⟩ (sf_X8_isFull_r57  hD J  (fun v10 h ev10 J S9 => ?_))
          have Sm := jSm_tr rfl Sm S9
          show jX m_X11_entry 3 0 0 51 [(0, .ref 31), (1, .int a1), (2, .int a2), (3, .int a3), (4, .int a4)] [.int v10] _ 0 0 _
          refine x_ifeq (tgt := 61) rfl rfl (ti_eq rfl jk_0 ⟨fun c11 => ?_, fun c11 => ?_⟩)
          ·
            refine x_aloadn (x := 31) rfl rfl ?_
            refine z_getR (N := 13) (b := 32) 11 0 rfl f_11_10 rfl J rfl 3968 ⟨rfl, rfl⟩ rfl ?_
            refine z_getR (N := 20) (b := 57) 1 12 rfl f_11_473 rfl J rfl 4108 ⟨rfl, rfl⟩ rfl ?_
            refine x_iload (x := a4) rfl rfl ?_
            refine x_iloadn (x := a2) rfl rfl ?_
            refine x_iloadn (x := a1) rfl rfl ?_
            refine x_iloadn (x := a3) rfl rfl ?_
            refine x_iconst (v := 0) rfl ki_0 ?_
            refine x_iconst (v := 0) rfl ki_0 ?_
            refine x_inv (N := m_X8_add) (As := [.int a4, .int a2, .int a1, .int a3, .int 0, .int 0]) (b := 57) (st := []) (dx9 := 2) (mc := 0) (ms := 0) (host := "") 8 rfl t_X8_add ⟨Or.inl q_11_145, i_X8_add.1, i_X8_add.2⟩ ⟨by decide, rfl⟩ (congrArg Prod.fst (J.1.1 57 (8, 4) rfl)) rfl (by decide) rfl rfl ⟨by decide, by decide⟩ (sf_X8_add_r57 (jr_of rfl (by omega)) (jr_of rfl (by omega)) (jr_of rfl (by omega)) (jr_of rfl (by omega)) (jr_of jk_0 (by omega)) (jr_of jk_0 (by omega)) hD J  (fun h J S12 => ?_))
            have Sm := jSm_tr rfl Sm S12
            show jX m_X11_entry 3 0 0 78 [(0, .ref 31), (1, .int a1), (2, .int a2), (3, .int a3), (4, .int a4)] [] _ 0 0 _
            refine x_aloadn (x := 31) rfl rfl ?_
            refine x_aloadn (x := 31) rfl rfl ?_
            refine z_getR (N := 13) (b := 32) 11 0 rfl f_11_10 rfl J rfl 3968 ⟨rfl, rfl⟩ rfl ?_
            refine z_getR (N := 20) (b := 57) 1 12 rfl f_11_473 rfl J rfl 4108 ⟨rfl, rfl⟩ rfl ?_
            refine z_getI (N := 4) 8 3 rfl f_11_142 rfl J rfl sg_57_3_4_1_0_1 (fun v13 qv13 ev13 => ?_)
            refine x_inv (N := m_X11_accept) (As := [.int v13]) (b := 31) (st := []) (dx9 := 2) (mc := 0) (ms := 0) (host := "") 11 rfl t_X11_accept ⟨Or.inl q_11_165, i_X11_accept.1, i_X11_accept.2⟩ ⟨by decide, rfl⟩ (congrArg Prod.fst (J.1.1 31 (11, 13) rfl)) rfl (by decide) rfl rfl ⟨by decide, by decide⟩ (jC.of rfl k_X11_accept rfl ?_)
            show jX m_X11_accept 2 0 0 0 [(0, .ref 31), (1, .int v13)] [] _ 0 0 _
            refine x_aloadn (x := 31) rfl rfl ?_
            refine x_iconst (v := 0) rfl ki_0 ?_
            refine z_putI (N := 13) (w := 0) 11 12 rfl f_11_94 rfl (jfin_no TX11 RX11 13 rfl rfl) hD J Sm rfl rfl jk_0 (pw_31_12 (by omega)) rfl (fun h w14 J Sm => ?_)
            refine x_aloadn (x := 31) rfl rfl ?_
            refine z_getR (N := 13) (b := 32) 11 0 rfl f_11_10 rfl J rfl 3968 ⟨rfl, rfl⟩ rfl ?_
            refine x_dup rfl rfl ?_
            refine z_getI0 (N := 20) 1 19 rfl f_11_528 rfl J rfl (fun v15 qv15 => ?_)
            have ev15 := jfull v15
            refine x_iconst (v := 1) rfl ki_1 ?_
            refine z_iadd0 rfl (fun v16 => ?_)
            have ev16 := jfull v16
            refine z_putI (N := 20) (w := v16.toInt) 1 19 rfl f_11_528 rfl (jfin_no TX1 RX1 20 rfl rfl) hD J Sm rfl rfl rfl (pw_32_19 trivial) rfl (fun h w17 J Sm => ?_)
            refine x_iloadn (x := v13) rfl rfl ?_
            refine x_iret rfl rfl ?_
            show jX m_X11_entry 3 0 0 92 [(0, .ref 31), (1, .int a1), (2, .int a2), (3, .int a3), (4, .int a4)] [.int v13] _ 0 0 _
            refine x_iret rfl rfl ?_
            exact hQ _ _ (jr_of rfl (by omega)) J Sm
          ·
            refine x_aloadn (x := 31) rfl rfl ?_
            refine x_bipush (v := (-5)) rfl kb_m5 ?_
            refine x_inv (N := m_X11_refuse) (As := [.int (-5)]) (b := 31) (st := []) (dx9 := 2) (mc := 0) (ms := 0) (host := "") 11 rfl t_X11_refuse ⟨Or.inl q_11_206, i_X11_refuse.1, i_X11_refuse.2⟩ ⟨by decide, rfl⟩ (congrArg Prod.fst (J.1.1 31 (11, 13) rfl)) rfl (by decide) rfl rfl ⟨by decide, by decide⟩ (jC.of rfl k_X11_refuse rfl ?_)
            show jX m_X11_refuse 2 0 0 0 [(0, .ref 31), (1, .int (-5))] [] _ 0 0 _
            refine x_aloadn (x := 31) rfl rfl ?_
            refine x_iloadn (x := (-5)) rfl rfl ?_
            refine z_putI (N := 13) (w := (-5)) 11 12 rfl f_11_94 rfl (jfin_no TX11 RX11 13 rfl rfl) hD J Sm rfl rfl jk_m5 (pw_31_12 (by omega)) rfl (fun h w18 J Sm => ?_)
            refine x_iloadn (x := (-5)) rfl rfl ?_
            refine x_iret rfl rfl ?_
            show jX m_X11_entry 3 0 0 60 [(0, .ref 31), (1, .int a1), (2, .int a2), (3, .int a3), (4, .int a4)] [.int (-5)] _ 0 0 _
            refine x_iret rfl rfl ?_
            exact hQ _ _ (jr_of jk_m5 (by omega)) J Sm
        ·
          exact jX.sub (jsb_c rfl jsb_n) (ct_X11_entry_r31_35 hD hQ  h J Sm)
def fp_X8_put_r43_c0 : jFp := [(44, 0, 600)]
set_option maxRecDepth 100000 in
set_option maxHeartbeats 4000000 in
theorem ct_X8_put_r43_c0_38 {Dy : jH → Prop} {h0 : jH} {Q : Option Value → jH → Prop} (hD : jDk Dy) (hQ : ∀ hx9, jJ jSgX Dy hx9 → jSm fp_X8_put_r43_c0 h0 hx9 → Q none hx9) : ∀ (h : jH), jJ jSgX Dy h → jSm fp_X8_put_r43_c0 h0 h → jX m_X8_put 1 0 0 38 [] [] h 0 0 Q := by
  intro  h    J Sm
  refine x_vret rfl rfl ?_
  exact hQ _ J Sm
set_option maxRecDepth 100000 in
set_option maxHeartbeats 4000000 in
theorem sf_X8_put_r43_c0 {Dy : jH → Prop} {h : jH} {Q : Option Value → jH → Prop} {a1 : Int32} {a3 : Int32} (y1 : 0 ≤ a1.toInt ∧ a1.toInt ≤ 99) (y3 : 0 ≤ a3.toInt ∧ a3.toInt ≤ 146399) (hD : jDk Dy) (J : jJ jSgX Dy h) (hQ : ∀ hx9, jJ jSgX Dy hx9 → jSm fp_X8_put_r43_c0 h hx9 → Q none hx9) : jC m_X8_put 1 0 0 [.ref 43, .int a1, .int 0, .int a3] h Q := by
  refine jC.of rfl k_X8_put rfl ?_
  have Sm := jSm_rf fp_X8_put_r43_c0 h
  show jX m_X8_put 1 0 0 0 [(0, .ref 43), (1, .int a1), (2, .int 0), (3, .int a3)] [] _ 0 0 _
  refine x_iloadn (x := a1) rfl rfl ?_
  refine x_iflt (tgt := 38) rfl rfl (ti_lt rfl jk_0 (br_f (by omega) ?_))
  refine x_iloadn (x := a1) rfl rfl ?_
  refine x_aloadn (x := 43) rfl rfl ?_
  refine z_getI (N := 4) 8 3 rfl f_8_7 rfl J rfl sg_43_3_4_1_0_1 (fun v1 qv1 ev1 => ?_)
  refine x_icge (tgt := 38) rfl rfl (ti_ge rfl rfl ⟨fun c2 => ?_, fun c2 => ?_⟩)
  ·
    exact jX.sub jsb_n (ct_X8_put_r43_c0_38 hD hQ  h J Sm)
  ·
    refine x_iloadn (x := 0) rfl rfl ?_
    refine x_iflt (tgt := 38) rfl rfl (ti_lt jk_0 jk_0 (br_f (by omega) ?_))
    refine x_iloadn (x := 0) rfl rfl ?_
    refine x_aloadn (x := 43) rfl rfl ?_
    refine z_getC (N := 4) (v := 6) 8 0 rfl f_8_19 rfl J rfl sg_43_0_1_1_0_1 jk_6 ?_
    refine x_icge (tgt := 38) rfl rfl (ti_ge jk_0 jk_6 (br_f (by omega) ?_))
    refine x_aloadn (x := 43) rfl rfl ?_
    refine z_getR (N := 4) (b := 44) 8 2 rfl f_8_25 rfl J rfl 5506 ⟨rfl, rfl⟩ rfl ?_
    refine x_iloadn (x := a1) rfl rfl ?_
    refine x_aloadn (x := 43) rfl rfl ?_
    refine z_getC (N := 4) (v := 6) 8 0 rfl f_8_19 rfl J rfl sg_43_0_1_1_0_1 jk_6 ?_
    refine z_imul rfl rfl jk_6 (by omega) (fun v3 ev3 => ?_)
    refine x_iloadn (x := 0) rfl rfl ?_
    refine z_iadd rfl rfl jk_0 (by omega) (fun v4 ev4 => ?_)
    refine x_iloadn (x := a3) rfl rfl ?_
    refine z_iast (N := 600) (l := 0) (u := 600) (w := a3.toInt) rfl hD J Sm rfl rfl rfl (by omega) rfl (wr_44 (fun q1 q2 q3 q4 => by omega) (fun q1 q2 q3 q4 => by omega) (fun q1 q2 q3 q4 => by omega) (fun q1 q2 q3 q4 => by omega) (fun q1 q2 q3 q4 => by omega) (fun q1 q2 q3 q4 => by omega)) rfl (fun h w5 J Sm => ?_)
    exact jX.sub jsb_n (ct_X8_put_r43_c0_38 hD hQ  h J Sm)
def fp_X8_put_r43_c1 : jFp := [(44, 0, 600)]
set_option maxRecDepth 100000 in
set_option maxHeartbeats 4000000 in
theorem ct_X8_put_r43_c1_38 {Dy : jH → Prop} {h0 : jH} {Q : Option Value → jH → Prop} (hD : jDk Dy) (hQ : ∀ hx9, jJ jSgX Dy hx9 → jSm fp_X8_put_r43_c1 h0 hx9 → Q none hx9) : ∀ (h : jH), jJ jSgX Dy h → jSm fp_X8_put_r43_c1 h0 h → jX m_X8_put 1 0 0 38 [] [] h 0 0 Q := by
  intro  h    J Sm
  refine x_vret rfl rfl ?_
  exact hQ _ J Sm
set_option maxRecDepth 100000 in
set_option maxHeartbeats 4000000 in
theorem sf_X8_put_r43_c1 {Dy : jH → Prop} {h : jH} {Q : Option Value → jH → Prop} {a1 : Int32} {a3 : Int32} (y1 : 0 ≤ a1.toInt ∧ a1.toInt ≤ 99) (y3 : 0 ≤ a3.toInt ∧ a3.toInt ≤ 146399) (hD : jDk Dy) (J : jJ jSgX Dy h) (hQ : ∀ hx9, jJ jSgX Dy hx9 → jSm fp_X8_put_r43_c1 h hx9 → Q none hx9) : jC m_X8_put 1 0 0 [.ref 43, .int a1, .int 1, .int a3] h Q := by
  refine jC.of rfl k_X8_put rfl ?_
  have Sm := jSm_rf fp_X8_put_r43_c1 h
  show jX m_X8_put 1 0 0 0 [(0, .ref 43), (1, .int a1), (2, .int 1), (3, .int a3)] [] _ 0 0 _
  refine x_iloadn (x := a1) rfl rfl ?_
  refine x_iflt (tgt := 38) rfl rfl (ti_lt rfl jk_0 (br_f (by omega) ?_))
  refine x_iloadn (x := a1) rfl rfl ?_
  refine x_aloadn (x := 43) rfl rfl ?_
  refine z_getI (N := 4) 8 3 rfl f_8_7 rfl J rfl sg_43_3_4_1_0_1 (fun v1 qv1 ev1 => ?_)
  refine x_icge (tgt := 38) rfl rfl (ti_ge rfl rfl ⟨fun c2 => ?_, fun c2 => ?_⟩)
  ·
    exact jX.sub jsb_n (ct_X8_put_r43_c1_38 hD hQ  h J Sm)
  ·
    refine x_iloadn (x := 1) rfl rfl ?_
    refine x_iflt (tgt := 38) rfl rfl (ti_lt jk_1 jk_0 (br_f (by omega) ?_))
    refine x_iloadn (x := 1) rfl rfl ?_
    refine x_aloadn (x := 43) rfl rfl ?_
    refine z_getC (N := 4) (v := 6) 8 0 rfl f_8_19 rfl J rfl sg_43_0_1_1_0_1 jk_6 ?_
    refine x_icge (tgt := 38) rfl rfl (ti_ge jk_1 jk_6 (br_f (by omega) ?_))
    refine x_aloadn (x := 43) rfl rfl ?_
    refine z_getR (N := 4) (b := 44) 8 2 rfl f_8_25 rfl J rfl 5506 ⟨rfl, rfl⟩ rfl ?_
    refine x_iloadn (x := a1) rfl rfl ?_
    refine x_aloadn (x := 43) rfl rfl ?_
    refine z_getC (N := 4) (v := 6) 8 0 rfl f_8_19 rfl J rfl sg_43_0_1_1_0_1 jk_6 ?_
    refine z_imul rfl rfl jk_6 (by omega) (fun v3 ev3 => ?_)
    refine x_iloadn (x := 1) rfl rfl ?_
    refine z_iadd rfl rfl jk_1 (by omega) (fun v4 ev4 => ?_)
    refine x_iloadn (x := a3) rfl rfl ?_
    refine z_iast (N := 600) (l := 0) (u := 600) (w := a3.toInt) rfl hD J Sm rfl rfl rfl (by omega) rfl (wr_44 (fun q1 q2 q3 q4 => by omega) (fun q1 q2 q3 q4 => by omega) (fun q1 q2 q3 q4 => by omega) (fun q1 q2 q3 q4 => by omega) (fun q1 q2 q3 q4 => by omega) (fun q1 q2 q3 q4 => by omega)) rfl (fun h w5 J Sm => ?_)
    exact jX.sub jsb_n (ct_X8_put_r43_c1_38 hD hQ  h J Sm)
def fp_X8_put_r43_c2 : jFp := [(44, 0, 600)]
set_option maxRecDepth 100000 in
set_option maxHeartbeats 4000000 in
theorem ct_X8_put_r43_c2_38 {Dy : jH → Prop} {h0 : jH} {Q : Option Value → jH → Prop} (hD : jDk Dy) (hQ : ∀ hx9, jJ jSgX Dy hx9 → jSm fp_X8_put_r43_c2 h0 hx9 → Q none hx9) : ∀ (h : jH), jJ jSgX Dy h → jSm fp_X8_put_r43_c2 h0 h → jX m_X8_put 1 0 0 38 [] [] h 0 0 Q := by
  intro  h    J Sm
  refine x_vret rfl rfl ?_
  exact hQ _ J Sm
set_option maxRecDepth 100000 in
set_option maxHeartbeats 4000000 in
theorem sf_X8_put_r43_c2 {Dy : jH → Prop} {h : jH} {Q : Option Value → jH → Prop} {a1 : Int32} {a3 : Int32} (y1 : 0 ≤ a1.toInt ∧ a1.toInt ≤ 99) (y3 : 0 ≤ a3.toInt ∧ a3.toInt ≤ 146399) (hD : jDk Dy) (J : jJ jSgX Dy h) (hQ : ∀ hx9, jJ jSgX Dy hx9 → jSm fp_X8_put_r43_c2 h hx9 → Q none hx9) : jC m_X8_put 1 0 0 [.ref 43, .int a1, .int 2, .int a3] h Q := by
  refine jC.of rfl k_X8_put rfl ?_
  have Sm := jSm_rf fp_X8_put_r43_c2 h
  show jX m_X8_put 1 0 0 0 [(0, .ref 43), (1, .int a1), (2, .int 2), (3, .int a3)] [] _ 0 0 _
  refine x_iloadn (x := a1) rfl rfl ?_
  refine x_iflt (tgt := 38) rfl rfl (ti_lt rfl jk_0 (br_f (by omega) ?_))
  refine x_iloadn (x := a1) rfl rfl ?_
  refine x_aloadn (x := 43) rfl rfl ?_
  refine z_getI (N := 4) 8 3 rfl f_8_7 rfl J rfl sg_43_3_4_1_0_1 (fun v1 qv1 ev1 => ?_)
  refine x_icge (tgt := 38) rfl rfl (ti_ge rfl rfl ⟨fun c2 => ?_, fun c2 => ?_⟩)
  ·
    exact jX.sub jsb_n (ct_X8_put_r43_c2_38 hD hQ  h J Sm)
  ·
    refine x_iloadn (x := 2) rfl rfl ?_
    refine x_iflt (tgt := 38) rfl rfl (ti_lt jk_2 jk_0 (br_f (by omega) ?_))
    refine x_iloadn (x := 2) rfl rfl ?_
    refine x_aloadn (x := 43) rfl rfl ?_
    refine z_getC (N := 4) (v := 6) 8 0 rfl f_8_19 rfl J rfl sg_43_0_1_1_0_1 jk_6 ?_
    refine x_icge (tgt := 38) rfl rfl (ti_ge jk_2 jk_6 (br_f (by omega) ?_))
    refine x_aloadn (x := 43) rfl rfl ?_
    refine z_getR (N := 4) (b := 44) 8 2 rfl f_8_25 rfl J rfl 5506 ⟨rfl, rfl⟩ rfl ?_
    refine x_iloadn (x := a1) rfl rfl ?_
    refine x_aloadn (x := 43) rfl rfl ?_
    refine z_getC (N := 4) (v := 6) 8 0 rfl f_8_19 rfl J rfl sg_43_0_1_1_0_1 jk_6 ?_
    refine z_imul rfl rfl jk_6 (by omega) (fun v3 ev3 => ?_)
    refine x_iloadn (x := 2) rfl rfl ?_
    refine z_iadd rfl rfl jk_2 (by omega) (fun v4 ev4 => ?_)
    refine x_iloadn (x := a3) rfl rfl ?_
    refine z_iast (N := 600) (l := 0) (u := 600) (w := a3.toInt) rfl hD J Sm rfl rfl rfl (by omega) rfl (wr_44 (fun q1 q2 q3 q4 => by omega) (fun q1 q2 q3 q4 => by omega) (fun q1 q2 q3 q4 => by omega) (fun q1 q2 q3 q4 => by omega) (fun q1 q2 q3 q4 => by omega) (fun q1 q2 q3 q4 => by omega)) rfl (fun h w5 J Sm => ?_)
    exact jX.sub jsb_n (ct_X8_put_r43_c2_38 hD hQ  h J Sm)
def fp_X8_put_r43_c3 : jFp := [(44, 0, 600)]
set_option maxRecDepth 100000 in
set_option maxHeartbeats 4000000 in
theorem ct_X8_put_r43_c3_38 {Dy : jH → Prop} {h0 : jH} {Q : Option Value → jH → Prop} (hD : jDk Dy) (hQ : ∀ hx9, jJ jSgX Dy hx9 → jSm fp_X8_put_r43_c3 h0 hx9 → Q none hx9) : ∀ (h : jH), jJ jSgX Dy h → jSm fp_X8_put_r43_c3 h0 h → jX m_X8_put 1 0 0 38 [] [] h 0 0 Q := by
  intro  h    J Sm
  refine x_vret rfl rfl ?_
  exact hQ _ J Sm
set_option maxRecDepth 100000 in
set_option maxHeartbeats 4000000 in
theorem sf_X8_put_r43_c3 {Dy : jH → Prop} {h : jH} {Q : Option Value → jH → Prop} {a1 : Int32} {a3 : Int32} (y1 : 0 ≤ a1.toInt ∧ a1.toInt ≤ 99) (y3 : 0 ≤ a3.toInt ∧ a3.toInt ≤ 599) (hD : jDk Dy) (J : jJ jSgX Dy h) (hQ : ∀ hx9, jJ jSgX Dy hx9 → jSm fp_X8_put_r43_c3 h hx9 → Q none hx9) : jC m_X8_put 1 0 0 [.ref 43, .int a1, .int 3, .int a3] h Q := by
  refine jC.of rfl k_X8_put rfl ?_
  have Sm := jSm_rf fp_X8_put_r43_c3 h
  show jX m_X8_put 1 0 0 0 [(0, .ref 43), (1, .int a1), (2, .int 3), (3, .int a3)] [] _ 0 0 _
  refine x_iloadn (x := a1) rfl rfl ?_
  refine x_iflt (tgt := 38) rfl rfl (ti_lt rfl jk_0 (br_f (by omega) ?_))
  refine x_iloadn (x := a1) rfl rfl ?_
  refine x_aloadn (x := 43) rfl rfl ?_
  refine z_getI (N := 4) 8 3 rfl f_8_7 rfl J rfl sg_43_3_4_1_0_1 (fun v1 qv1 ev1 => ?_)
  refine x_icge (tgt := 38) rfl rfl (ti_ge rfl rfl ⟨fun c2 => ?_, fun c2 => ?_⟩)
  ·
    exact jX.sub jsb_n (ct_X8_put_r43_c3_38 hD hQ  h J Sm)
  ·
    refine x_iloadn (x := 3) rfl rfl ?_
    refine x_iflt (tgt := 38) rfl rfl (ti_lt jk_3 jk_0 (br_f (by omega) ?_))
    refine x_iloadn (x := 3) rfl rfl ?_
    refine x_aloadn (x := 43) rfl rfl ?_
    refine z_getC (N := 4) (v := 6) 8 0 rfl f_8_19 rfl J rfl sg_43_0_1_1_0_1 jk_6 ?_
    refine x_icge (tgt := 38) rfl rfl (ti_ge jk_3 jk_6 (br_f (by omega) ?_))
    refine x_aloadn (x := 43) rfl rfl ?_
    refine z_getR (N := 4) (b := 44) 8 2 rfl f_8_25 rfl J rfl 5506 ⟨rfl, rfl⟩ rfl ?_
    refine x_iloadn (x := a1) rfl rfl ?_
    refine x_aloadn (x := 43) rfl rfl ?_
    refine z_getC (N := 4) (v := 6) 8 0 rfl f_8_19 rfl J rfl sg_43_0_1_1_0_1 jk_6 ?_
    refine z_imul rfl rfl jk_6 (by omega) (fun v3 ev3 => ?_)
    refine x_iloadn (x := 3) rfl rfl ?_
    refine z_iadd rfl rfl jk_3 (by omega) (fun v4 ev4 => ?_)
    refine x_iloadn (x := a3) rfl rfl ?_
    refine z_iast (N := 600) (l := 0) (u := 600) (w := a3.toInt) rfl hD J Sm rfl rfl rfl (by omega) rfl (wr_44 (fun q1 q2 q3 q4 => by omega) (fun q1 q2 q3 q4 => by omega) (fun q1 q2 q3 q4 => by omega) (fun q1 q2 q3 q4 => by omega) (fun q1 q2 q3 q4 => by omega) (fun q1 q2 q3 q4 => by omega)) rfl (fun h w5 J Sm => ?_)
    exact jX.sub jsb_n (ct_X8_put_r43_c3_38 hD hQ  h J Sm)
def fp_X8_put_r43_c4 : jFp := [(44, 0, 600)]
set_option maxRecDepth 100000 in
set_option maxHeartbeats 4000000 in
theorem ct_X8_put_r43_c4_38 {Dy : jH → Prop} {h0 : jH} {Q : Option Value → jH → Prop} (hD : jDk Dy) (hQ : ∀ hx9, jJ jSgX Dy hx9 → jSm fp_X8_put_r43_c4 h0 hx9 → Q none hx9) : ∀ (h : jH), jJ jSgX Dy h → jSm fp_X8_put_r43_c4 h0 h → jX m_X8_put 1 0 0 38 [] [] h 0 0 Q := by
  intro  h    J Sm
  refine x_vret rfl rfl ?_
  exact hQ _ J Sm
set_option maxRecDepth 100000 in
set_option maxHeartbeats 4000000 in
theorem sf_X8_put_r43_c4 {Dy : jH → Prop} {h : jH} {Q : Option Value → jH → Prop} {a1 : Int32} {a3 : Int32} (y1 : 0 ≤ a1.toInt ∧ a1.toInt ≤ 99) (y3 : 0 ≤ a3.toInt ∧ a3.toInt ≤ 4) (hD : jDk Dy) (J : jJ jSgX Dy h) (hQ : ∀ hx9, jJ jSgX Dy hx9 → jSm fp_X8_put_r43_c4 h hx9 → Q none hx9) : jC m_X8_put 1 0 0 [.ref 43, .int a1, .int 4, .int a3] h Q := by
  refine jC.of rfl k_X8_put rfl ?_
  have Sm := jSm_rf fp_X8_put_r43_c4 h
  show jX m_X8_put 1 0 0 0 [(0, .ref 43), (1, .int a1), (2, .int 4), (3, .int a3)] [] _ 0 0 _
  refine x_iloadn (x := a1) rfl rfl ?_
  refine x_iflt (tgt := 38) rfl rfl (ti_lt rfl jk_0 (br_f (by omega) ?_))
  refine x_iloadn (x := a1) rfl rfl ?_
  refine x_aloadn (x := 43) rfl rfl ?_
  refine z_getI (N := 4) 8 3 rfl f_8_7 rfl J rfl sg_43_3_4_1_0_1 (fun v1 qv1 ev1 => ?_)
  refine x_icge (tgt := 38) rfl rfl (ti_ge rfl rfl ⟨fun c2 => ?_, fun c2 => ?_⟩)
  ·
    exact jX.sub jsb_n (ct_X8_put_r43_c4_38 hD hQ  h J Sm)
  ·
    refine x_iloadn (x := 4) rfl rfl ?_
    refine x_iflt (tgt := 38) rfl rfl (ti_lt jk_4 jk_0 (br_f (by omega) ?_))
    refine x_iloadn (x := 4) rfl rfl ?_
    refine x_aloadn (x := 43) rfl rfl ?_
    refine z_getC (N := 4) (v := 6) 8 0 rfl f_8_19 rfl J rfl sg_43_0_1_1_0_1 jk_6 ?_
    refine x_icge (tgt := 38) rfl rfl (ti_ge jk_4 jk_6 (br_f (by omega) ?_))
    refine x_aloadn (x := 43) rfl rfl ?_
    refine z_getR (N := 4) (b := 44) 8 2 rfl f_8_25 rfl J rfl 5506 ⟨rfl, rfl⟩ rfl ?_
    refine x_iloadn (x := a1) rfl rfl ?_
    refine x_aloadn (x := 43) rfl rfl ?_
    refine z_getC (N := 4) (v := 6) 8 0 rfl f_8_19 rfl J rfl sg_43_0_1_1_0_1 jk_6 ?_
    refine z_imul rfl rfl jk_6 (by omega) (fun v3 ev3 => ?_)
    refine x_iloadn (x := 4) rfl rfl ?_
    refine z_iadd rfl rfl jk_4 (by omega) (fun v4 ev4 => ?_)
    refine x_iloadn (x := a3) rfl rfl ?_
    refine z_iast (N := 600) (l := 0) (u := 600) (w := a3.toInt) rfl hD J Sm rfl rfl rfl (by omega) rfl (wr_44 (fun q1 q2 q3 q4 => by omega) (fun q1 q2 q3 q4 => by omega) (fun q1 q2 q3 q4 => by omega) (fun q1 q2 q3 q4 => by omega) (fun q1 q2 q3 q4 => by omega) (fun q1 q2 q3 q4 => by omega)) rfl (fun h w5 J Sm => ?_)
    exact jX.sub jsb_n (ct_X8_put_r43_c4_38 hD hQ  h J Sm)
def fp_X8_put_r43_c5 : jFp := [(44, 0, 600)]
set_option maxRecDepth 100000 in
set_option maxHeartbeats 4000000 in
theorem ct_X8_put_r43_c5_38 {Dy : jH → Prop} {h0 : jH} {Q : Option Value → jH → Prop} (hD : jDk Dy) (hQ : ∀ hx9, jJ jSgX Dy hx9 → jSm fp_X8_put_r43_c5 h0 hx9 → Q none hx9) : ∀ (h : jH), jJ jSgX Dy h → jSm fp_X8_put_r43_c5 h0 h → jX m_X8_put 1 0 0 38 [] [] h 0 0 Q := by
  intro  h    J Sm
  refine x_vret rfl rfl ?_
  exact hQ _ J Sm
set_option maxRecDepth 100000 in
set_option maxHeartbeats 4000000 in
theorem sf_X8_put_r43_c5 {Dy : jH → Prop} {h : jH} {Q : Option Value → jH → Prop} {a1 : Int32} {a3 : Int32} (y1 : 0 ≤ a1.toInt ∧ a1.toInt ≤ 99) (y3 : 0 ≤ a3.toInt ∧ a3.toInt ≤ 11) (hD : jDk Dy) (J : jJ jSgX Dy h) (hQ : ∀ hx9, jJ jSgX Dy hx9 → jSm fp_X8_put_r43_c5 h hx9 → Q none hx9) : jC m_X8_put 1 0 0 [.ref 43, .int a1, .int 5, .int a3] h Q := by
  refine jC.of rfl k_X8_put rfl ?_
  have Sm := jSm_rf fp_X8_put_r43_c5 h
  show jX m_X8_put 1 0 0 0 [(0, .ref 43), (1, .int a1), (2, .int 5), (3, .int a3)] [] _ 0 0 _
  refine x_iloadn (x := a1) rfl rfl ?_
  refine x_iflt (tgt := 38) rfl rfl (ti_lt rfl jk_0 (br_f (by omega) ?_))
  refine x_iloadn (x := a1) rfl rfl ?_
  refine x_aloadn (x := 43) rfl rfl ?_
  refine z_getI (N := 4) 8 3 rfl f_8_7 rfl J rfl sg_43_3_4_1_0_1 (fun v1 qv1 ev1 => ?_)
  refine x_icge (tgt := 38) rfl rfl (ti_ge rfl rfl ⟨fun c2 => ?_, fun c2 => ?_⟩)
  ·
    exact jX.sub jsb_n (ct_X8_put_r43_c5_38 hD hQ  h J Sm)
  ·
    refine x_iloadn (x := 5) rfl rfl ?_
    refine x_iflt (tgt := 38) rfl rfl (ti_lt jk_5 jk_0 (br_f (by omega) ?_))
    refine x_iloadn (x := 5) rfl rfl ?_
    refine x_aloadn (x := 43) rfl rfl ?_
    refine z_getC (N := 4) (v := 6) 8 0 rfl f_8_19 rfl J rfl sg_43_0_1_1_0_1 jk_6 ?_
    refine x_icge (tgt := 38) rfl rfl (ti_ge jk_5 jk_6 (br_f (by omega) ?_))
    refine x_aloadn (x := 43) rfl rfl ?_
    refine z_getR (N := 4) (b := 44) 8 2 rfl f_8_25 rfl J rfl 5506 ⟨rfl, rfl⟩ rfl ?_
    refine x_iloadn (x := a1) rfl rfl ?_
    refine x_aloadn (x := 43) rfl rfl ?_
    refine z_getC (N := 4) (v := 6) 8 0 rfl f_8_19 rfl J rfl sg_43_0_1_1_0_1 jk_6 ?_
    refine z_imul rfl rfl jk_6 (by omega) (fun v3 ev3 => ?_)
    refine x_iloadn (x := 5) rfl rfl ?_
    refine z_iadd rfl rfl jk_5 (by omega) (fun v4 ev4 => ?_)
    refine x_iloadn (x := a3) rfl rfl ?_
    refine z_iast (N := 600) (l := 0) (u := 600) (w := a3.toInt) rfl hD J Sm rfl rfl rfl (by omega) rfl (wr_44 (fun q1 q2 q3 q4 => by omega) (fun q1 q2 q3 q4 => by omega) (fun q1 q2 q3 q4 => by omega) (fun q1 q2 q3 q4 => by omega) (fun q1 q2 q3 q4 => by omega) (fun q1 q2 q3 q4 => by omega)) rfl (fun h w5 J Sm => ?_)
    exact jX.sub jsb_n (ct_X8_put_r43_c5_38 hD hQ  h J Sm)
def fp_X8_add_r43 : jFp := [(43, 3, 4), (44, 0, 600)]
set_option maxRecDepth 100000 in
set_option maxHeartbeats 4000000 in
theorem sf_X8_add_r43 {Dy : jH → Prop} {h : jH} {Q : Option Value → jH → Prop} {a1 : Int32} {a2 : Int32} {a3 : Int32} {a4 : Int32} {a5 : Int32} {a6 : Int32} (y1 : 0 ≤ a1.toInt ∧ a1.toInt ≤ 146399) (y2 : 0 ≤ a2.toInt ∧ a2.toInt ≤ 146399) (y3 : 0 ≤ a3.toInt ∧ a3.toInt ≤ 146399) (y4 : 0 ≤ a4.toInt ∧ a4.toInt ≤ 599) (y5 : 0 ≤ a5.toInt ∧ a5.toInt ≤ 4) (y6 : 0 ≤ a6.toInt ∧ a6.toInt ≤ 11) (hD : jDk Dy) (J : jJ jSgX Dy h) (hQ : ∀ hx9, jJ jSgX Dy hx9 → jSm fp_X8_add_r43 h hx9 → Q none hx9) : jC m_X8_add 2 0 0 [.ref 43, .int a1, .int a2, .int a3, .int a4, .int a5, .int a6] h Q := by
  refine jC.of rfl k_X8_add rfl ?_
  have Sm := jSm_rf fp_X8_add_r43 h
  show jX m_X8_add 2 0 0 0 [(0, .ref 43), (1, .int a1), (2, .int a2), (3, .int a3), (4, .int a4), (5, .int a5), (6, .int a6)] [] _ 0 0 _
  refine x_aloadn (x := 43) rfl rfl ?_
  refine z_getI (N := 4) 8 3 rfl f_8_7 rfl J rfl sg_43_3_4_1_0_1 (fun v1 qv1 ev1 => ?_)
  refine x_aloadn (x := 43) rfl rfl ?_
  refine z_getC (N := 4) (v := 100) 8 1 rfl f_8_22 rfl J rfl sg_43_1_2_1_0_1 jk_100 ?_
  refine x_iclt (tgt := 12) rfl rfl (ti_lt rfl jk_100 ⟨fun c2 => ?_, fun c2 => ?_⟩)
  ·
    refine x_aloadn (x := 43) rfl rfl ?_
    refine z_getM (N := 4) (v := v1) 8 3 rfl f_8_7 rfl J rfl qv1 ?_
    refine x_istore (lsx9 := [(7, .int v1), (0, .ref 43), (1, .int a1), (2, .int a2), (3, .int a3), (4, .int a4), (5, .int a5), (6, .int a6)]) rfl rfl rfl ?_
    refine x_aloadn (x := 43) rfl rfl ?_
    refine x_iload (x := v1) rfl rfl ?_
    refine x_iconst (v := 1) rfl ki_1 ?_
    refine z_iadd rfl rfl jk_1 (by omega) (fun v3 ev3 => ?_)
    refine z_putI (N := 4) (w := v3.toInt) 8 3 rfl f_8_7 rfl (jfin_no TX8 RX8 4 rfl rfl) hD J Sm rfl rfl rfl (pw_43_3 (by omega)) rfl (fun h w4 J Sm => ?_)
    refine x_aloadn (x := 43) rfl rfl ?_
    refine x_iload (x := v1) rfl rfl ?_
    refine x_iconst (v := 0) rfl ki_0 ?_
    refine x_iloadn (x := a1) rfl rfl ?_
    refine x_inv (N := m_X8_put) (As := [.int v1, .int 0, .int a1]) (b := 43) (st := []) (dx9 := 1) (mc := 0) (ms := 0) (host := "") 8 rfl t_X8_put ⟨Or.inl q_8_29, i_X8_put.1, i_X8_put.2⟩ ⟨by decide, rfl⟩ (congrArg Prod.fst (J.1.1 43 (8, 4) rfl)) rfl (by decide) rfl rfl ⟨by decide, by decide⟩ (sf_X8_put_r43_c0 (jr_of rfl (by omega)) (jr_of rfl (by omega)) hD J  (fun h J S5 => ?_))
    have Sm := jSm_tr rfl Sm S5
    show jX m_X8_add 2 0 0 34 [(7, .int v1), (0, .ref 43), (1, .int a1), (2, .int a2), (3, .int a3), (4, .int a4), (5, .int a5), (6, .int a6)] [] _ 0 0 _
    refine x_aloadn (x := 43) rfl rfl ?_
    refine x_iload (x := v1) rfl rfl ?_
    refine x_iconst (v := 1) rfl ki_1 ?_
    refine x_iloadn (x := a2) rfl rfl ?_
    refine x_inv (N := m_X8_put) (As := [.int v1, .int 1, .int a2]) (b := 43) (st := []) (dx9 := 1) (mc := 0) (ms := 0) (host := "") 8 rfl t_X8_put ⟨Or.inl q_8_29, i_X8_put.1, i_X8_put.2⟩ ⟨by decide, rfl⟩ (congrArg Prod.fst (J.1.1 43 (8, 4) rfl)) rfl (by decide) rfl rfl ⟨by decide, by decide⟩ (sf_X8_put_r43_c1 (jr_of rfl (by omega)) (jr_of rfl (by omega)) hD J  (fun h J S6 => ?_))
    have Sm := jSm_tr rfl Sm S6
    show jX m_X8_add 2 0 0 42 [(7, .int v1), (0, .ref 43), (1, .int a1), (2, .int a2), (3, .int a3), (4, .int a4), (5, .int a5), (6, .int a6)] [] _ 0 0 _
    refine x_aloadn (x := 43) rfl rfl ?_
    refine x_iload (x := v1) rfl rfl ?_
    refine x_iconst (v := 2) rfl ki_2 ?_
    refine x_iloadn (x := a3) rfl rfl ?_
    refine x_inv (N := m_X8_put) (As := [.int v1, .int 2, .int a3]) (b := 43) (st := []) (dx9 := 1) (mc := 0) (ms := 0) (host := "") 8 rfl t_X8_put ⟨Or.inl q_8_29, i_X8_put.1, i_X8_put.2⟩ ⟨by decide, rfl⟩ (congrArg Prod.fst (J.1.1 43 (8, 4) rfl)) rfl (by decide) rfl rfl ⟨by decide, by decide⟩ (sf_X8_put_r43_c2 (jr_of rfl (by omega)) (jr_of rfl (by omega)) hD J  (fun h J S7 => ?_))
    have Sm := jSm_tr rfl Sm S7
    show jX m_X8_add 2 0 0 50 [(7, .int v1), (0, .ref 43), (1, .int a1), (2, .int a2), (3, .int a3), (4, .int a4), (5, .int a5), (6, .int a6)] [] _ 0 0 _
    refine x_aloadn (x := 43) rfl rfl ?_
    refine x_iload (x := v1) rfl rfl ?_
    refine x_iconst (v := 3) rfl ki_3 ?_
    refine x_iload (x := a4) rfl rfl ?_
    refine x_inv (N := m_X8_put) (As := [.int v1, .int 3, .int a4]) (b := 43) (st := []) (dx9 := 1) (mc := 0) (ms := 0) (host := "") 8 rfl t_X8_put ⟨Or.inl q_8_29, i_X8_put.1, i_X8_put.2⟩ ⟨by decide, rfl⟩ (congrArg Prod.fst (J.1.1 43 (8, 4) rfl)) rfl (by decide) rfl rfl ⟨by decide, by decide⟩ (sf_X8_put_r43_c3 (jr_of rfl (by omega)) (jr_of rfl (by omega)) hD J  (fun h J S8 => ?_))
    have Sm := jSm_tr rfl Sm S8
    show jX m_X8_add 2 0 0 59 [(7, .int v1), (0, .ref 43), (1, .int a1), (2, .int a2), (3, .int a3), (4, .int a4), (5, .int a5), (6, .int a6)] [] _ 0 0 _
    refine x_aloadn (x := 43) rfl rfl ?_
    refine x_iload (x := v1) rfl rfl ?_
    refine x_iconst (v := 4) rfl ki_4 ?_
    refine x_iload (x := a5) rfl rfl ?_
    refine x_inv (N := m_X8_put) (As := [.int v1, .int 4, .int a5]) (b := 43) (st := []) (dx9 := 1) (mc := 0) (ms := 0) (host := "") 8 rfl t_X8_put ⟨Or.inl q_8_29, i_X8_put.1, i_X8_put.2⟩ ⟨by decide, rfl⟩ (congrArg Prod.fst (J.1.1 43 (8, 4) rfl)) rfl (by decide) rfl rfl ⟨by decide, by decide⟩ (sf_X8_put_r43_c4 (jr_of rfl (by omega)) (jr_of rfl (by omega)) hD J  (fun h J S9 => ?_))
    have Sm := jSm_tr rfl Sm S9
    show jX m_X8_add 2 0 0 68 [(7, .int v1), (0, .ref 43), (1, .int a1), (2, .int a2), (3, .int a3), (4, .int a4), (5, .int a5), (6, .int a6)] [] _ 0 0 _
    refine x_aloadn (x := 43) rfl rfl ?_
    refine x_iload (x := v1) rfl rfl ?_
    refine x_iconst (v := 5) rfl ki_5 ?_
    refine x_iload (x := a6) rfl rfl ?_
    refine x_inv (N := m_X8_put) (As := [.int v1, .int 5, .int a6]) (b := 43) (st := []) (dx9 := 1) (mc := 0) (ms := 0) (host := "") 8 rfl t_X8_put ⟨Or.inl q_8_29, i_X8_put.1, i_X8_put.2⟩ ⟨by decide, rfl⟩ (congrArg Prod.fst (J.1.1 43 (8, 4) rfl)) rfl (by decide) rfl rfl ⟨by decide, by decide⟩ (sf_X8_put_r43_c5 (jr_of rfl (by omega)) (jr_of rfl (by omega)) hD J  (fun h J S10 => ?_))
    have Sm := jSm_tr rfl Sm S10
    show jX m_X8_add 2 0 0 77 [(7, .int v1), (0, .ref 43), (1, .int a1), (2, .int a2), (3, .int a3), (4, .int a4), (5, .int a5), (6, .int a6)] [] _ 0 0 _
    refine x_vret rfl rfl ?_
    exact hQ _ J Sm
  ·
    refine x_vret rfl rfl ?_
    exact hQ _ J Sm
def fp_X8_put_r63_c0 : jFp := [(64, 0, 740)]
set_option maxRecDepth 100000 in
set_option maxHeartbeats 4000000 in
theorem ct_X8_put_r63_c0_38 {Dy : jH → Prop} {h0 : jH} {Q : Option Value → jH → Prop} (hD : jDk Dy) (hQ : ∀ hx9, jJ jSgX Dy hx9 → jSm fp_X8_put_r63_c0 h0 hx9 → Q none hx9) : ∀ (h : jH), jJ jSgX Dy h → jSm fp_X8_put_r63_c0 h0 h → jX m_X8_put 1 0 0 38 [] [] h 0 0 Q := by
  intro  h    J Sm
  refine x_vret rfl rfl ?_
  exact hQ _ J Sm
set_option maxRecDepth 100000 in
set_option maxHeartbeats 4000000 in
theorem sf_X8_put_r63_c0 {Dy : jH → Prop} {h : jH} {Q : Option Value → jH → Prop} {a1 : Int32} {a3 : Int32} (y1 : 0 ≤ a1.toInt ∧ a1.toInt ≤ 369) (y3 : 0 ≤ a3.toInt ∧ a3.toInt ≤ 3) (hD : jDk Dy) (J : jJ jSgX Dy h) (hQ : ∀ hx9, jJ jSgX Dy hx9 → jSm fp_X8_put_r63_c0 h hx9 → Q none hx9) : jC m_X8_put 1 0 0 [.ref 63, .int a1, .int 0, .int a3] h Q := by
  refine jC.of rfl k_X8_put rfl ?_
  have Sm := jSm_rf fp_X8_put_r63_c0 h
  show jX m_X8_put 1 0 0 0 [(0, .ref 63), (1, .int a1), (2, .int 0), (3, .int a3)] [] _ 0 0 _
  refine x_iloadn (x := a1) rfl rfl ?_
  refine x_iflt (tgt := 38) rfl rfl (ti_lt rfl jk_0 (br_f (by omega) ?_))
  refine x_iloadn (x := a1) rfl rfl ?_
  refine x_aloadn (x := 63) rfl rfl ?_
  refine z_getI (N := 4) 8 3 rfl f_8_7 rfl J rfl sg_63_3_4_1_0_1 (fun v1 qv1 ev1 => ?_)
  refine x_icge (tgt := 38) rfl rfl (ti_ge rfl rfl ⟨fun c2 => ?_, fun c2 => ?_⟩)
  ·
    exact jX.sub jsb_n (ct_X8_put_r63_c0_38 hD hQ  h J Sm)
  ·
    refine x_iloadn (x := 0) rfl rfl ?_
    refine x_iflt (tgt := 38) rfl rfl (ti_lt jk_0 jk_0 (br_f (by omega) ?_))
    refine x_iloadn (x := 0) rfl rfl ?_
    refine x_aloadn (x := 63) rfl rfl ?_
    refine z_getC (N := 4) (v := 2) 8 0 rfl f_8_19 rfl J rfl sg_63_0_1_1_0_1 jk_2 ?_
    refine x_icge (tgt := 38) rfl rfl (ti_ge jk_0 jk_2 (br_f (by omega) ?_))
    refine x_aloadn (x := 63) rfl rfl ?_
    refine z_getR (N := 4) (b := 64) 8 2 rfl f_8_25 rfl J rfl 8066 ⟨rfl, rfl⟩ rfl ?_
    refine x_iloadn (x := a1) rfl rfl ?_
    refine x_aloadn (x := 63) rfl rfl ?_
    refine z_getC (N := 4) (v := 2) 8 0 rfl f_8_19 rfl J rfl sg_63_0_1_1_0_1 jk_2 ?_
    refine z_imul rfl rfl jk_2 (by omega) (fun v3 ev3 => ?_)
    refine x_iloadn (x := 0) rfl rfl ?_
    refine z_iadd rfl rfl jk_0 (by omega) (fun v4 ev4 => ?_)
    refine x_iloadn (x := a3) rfl rfl ?_
    refine z_iast (N := 740) (l := 0) (u := 740) (w := a3.toInt) rfl hD J Sm rfl rfl rfl (by omega) rfl (wr_64 (fun q1 q2 q3 q4 => by omega) (fun q1 q2 q3 q4 => by omega)) rfl (fun h w5 J Sm => ?_)
    exact jX.sub jsb_n (ct_X8_put_r63_c0_38 hD hQ  h J Sm)
def fp_X8_put_r63_c1 : jFp := [(64, 0, 740)]
set_option maxRecDepth 100000 in
set_option maxHeartbeats 4000000 in
theorem ct_X8_put_r63_c1_38 {Dy : jH → Prop} {h0 : jH} {Q : Option Value → jH → Prop} (hD : jDk Dy) (hQ : ∀ hx9, jJ jSgX Dy hx9 → jSm fp_X8_put_r63_c1 h0 hx9 → Q none hx9) : ∀ (h : jH), jJ jSgX Dy h → jSm fp_X8_put_r63_c1 h0 h → jX m_X8_put 1 0 0 38 [] [] h 0 0 Q := by
  intro  h    J Sm
  refine x_vret rfl rfl ?_
  exact hQ _ J Sm
set_option maxRecDepth 100000 in
set_option maxHeartbeats 4000000 in
theorem sf_X8_put_r63_c1 {Dy : jH → Prop} {h : jH} {Q : Option Value → jH → Prop} {a1 : Int32} {a3 : Int32} (y1 : 0 ≤ a1.toInt ∧ a1.toInt ≤ 369) (y3 : 0 ≤ a3.toInt ∧ a3.toInt ≤ 200) (hD : jDk Dy) (J : jJ jSgX Dy h) (hQ : ∀ hx9, jJ jSgX Dy hx9 → jSm fp_X8_put_r63_c1 h hx9 → Q none hx9) : jC m_X8_put 1 0 0 [.ref 63, .int a1, .int 1, .int a3] h Q := by
  refine jC.of rfl k_X8_put rfl ?_
  have Sm := jSm_rf fp_X8_put_r63_c1 h
  show jX m_X8_put 1 0 0 0 [(0, .ref 63), (1, .int a1), (2, .int 1), (3, .int a3)] [] _ 0 0 _
  refine x_iloadn (x := a1) rfl rfl ?_
  refine x_iflt (tgt := 38) rfl rfl (ti_lt rfl jk_0 (br_f (by omega) ?_))
  refine x_iloadn (x := a1) rfl rfl ?_
  refine x_aloadn (x := 63) rfl rfl ?_
  refine z_getI (N := 4) 8 3 rfl f_8_7 rfl J rfl sg_63_3_4_1_0_1 (fun v1 qv1 ev1 => ?_)
  refine x_icge (tgt := 38) rfl rfl (ti_ge rfl rfl ⟨fun c2 => ?_, fun c2 => ?_⟩)
  ·
    exact jX.sub jsb_n (ct_X8_put_r63_c1_38 hD hQ  h J Sm)
  ·
    refine x_iloadn (x := 1) rfl rfl ?_
    refine x_iflt (tgt := 38) rfl rfl (ti_lt jk_1 jk_0 (br_f (by omega) ?_))
    refine x_iloadn (x := 1) rfl rfl ?_
    refine x_aloadn (x := 63) rfl rfl ?_
    refine z_getC (N := 4) (v := 2) 8 0 rfl f_8_19 rfl J rfl sg_63_0_1_1_0_1 jk_2 ?_
    refine x_icge (tgt := 38) rfl rfl (ti_ge jk_1 jk_2 (br_f (by omega) ?_))
    refine x_aloadn (x := 63) rfl rfl ?_
    refine z_getR (N := 4) (b := 64) 8 2 rfl f_8_25 rfl J rfl 8066 ⟨rfl, rfl⟩ rfl ?_
    refine x_iloadn (x := a1) rfl rfl ?_
    refine x_aloadn (x := 63) rfl rfl ?_
    refine z_getC (N := 4) (v := 2) 8 0 rfl f_8_19 rfl J rfl sg_63_0_1_1_0_1 jk_2 ?_
    refine z_imul rfl rfl jk_2 (by omega) (fun v3 ev3 => ?_)
    refine x_iloadn (x := 1) rfl rfl ?_
    refine z_iadd rfl rfl jk_1 (by omega) (fun v4 ev4 => ?_)
    refine x_iloadn (x := a3) rfl rfl ?_
    refine z_iast (N := 740) (l := 0) (u := 740) (w := a3.toInt) rfl hD J Sm rfl rfl rfl (by omega) rfl (wr_64 (fun q1 q2 q3 q4 => by omega) (fun q1 q2 q3 q4 => by omega)) rfl (fun h w5 J Sm => ?_)
    exact jX.sub jsb_n (ct_X8_put_r63_c1_38 hD hQ  h J Sm)
def fp_X8_put_r63_c2 : jFp := []
set_option maxRecDepth 100000 in
set_option maxHeartbeats 4000000 in
theorem ct_X8_put_r63_c2_38 {Dy : jH → Prop} {h0 : jH} {Q : Option Value → jH → Prop} (hD : jDk Dy) (hQ : ∀ hx9, jJ jSgX Dy hx9 → jSm fp_X8_put_r63_c2 h0 hx9 → Q none hx9) : ∀ (h : jH), jJ jSgX Dy h → jSm fp_X8_put_r63_c2 h0 h → jX m_X8_put 1 0 0 38 [] [] h 0 0 Q := by
  intro  h    J Sm
  refine x_vret rfl rfl ?_
  exact hQ _ J Sm
set_option maxRecDepth 100000 in
set_option maxHeartbeats 4000000 in
theorem sf_X8_put_r63_c2 {Dy : jH → Prop} {h : jH} {Q : Option Value → jH → Prop} {a1 : Int32} {a3 : Int32} (y1 : 0 ≤ a1.toInt ∧ a1.toInt ≤ 369) (y3 : 0 ≤ a3.toInt ∧ a3.toInt ≤ 0) (hD : jDk Dy) (J : jJ jSgX Dy h) (hQ : ∀ hx9, jJ jSgX Dy hx9 → jSm fp_X8_put_r63_c2 h hx9 → Q none hx9) : jC m_X8_put 1 0 0 [.ref 63, .int a1, .int 2, .int a3] h Q := by
  refine jC.of rfl k_X8_put rfl ?_
  have Sm := jSm_rf fp_X8_put_r63_c2 h
  show jX m_X8_put 1 0 0 0 [(0, .ref 63), (1, .int a1), (2, .int 2), (3, .int a3)] [] _ 0 0 _
  refine x_iloadn (x := a1) rfl rfl ?_
  refine x_iflt (tgt := 38) rfl rfl (ti_lt rfl jk_0 (br_f (by omega) ?_))
  refine x_iloadn (x := a1) rfl rfl ?_
  refine x_aloadn (x := 63) rfl rfl ?_
  refine z_getI (N := 4) 8 3 rfl f_8_7 rfl J rfl sg_63_3_4_1_0_1 (fun v1 qv1 ev1 => ?_)
  refine x_icge (tgt := 38) rfl rfl (ti_ge rfl rfl ⟨fun c2 => ?_, fun c2 => ?_⟩)
  ·
    exact jX.sub jsb_n (ct_X8_put_r63_c2_38 hD hQ  h J Sm)
  ·
    refine x_iloadn (x := 2) rfl rfl ?_
    refine x_iflt (tgt := 38) rfl rfl (ti_lt jk_2 jk_0 (br_f (by omega) ?_))
    refine x_iloadn (x := 2) rfl rfl ?_
    refine x_aloadn (x := 63) rfl rfl ?_
    refine z_getC (N := 4) (v := 2) 8 0 rfl f_8_19 rfl J rfl sg_63_0_1_1_0_1 jk_2 ?_
    refine x_icge (tgt := 38) rfl rfl (ti_ge jk_2 jk_2 (br_t (by omega) ?_))
    exact jX.sub jsb_n (ct_X8_put_r63_c2_38 hD hQ  h J Sm)
def fp_X8_put_r63_c3 : jFp := []
set_option maxRecDepth 100000 in
set_option maxHeartbeats 4000000 in
theorem ct_X8_put_r63_c3_38 {Dy : jH → Prop} {h0 : jH} {Q : Option Value → jH → Prop} (hD : jDk Dy) (hQ : ∀ hx9, jJ jSgX Dy hx9 → jSm fp_X8_put_r63_c3 h0 hx9 → Q none hx9) : ∀ (h : jH), jJ jSgX Dy h → jSm fp_X8_put_r63_c3 h0 h → jX m_X8_put 1 0 0 38 [] [] h 0 0 Q := by
  intro  h    J Sm
  refine x_vret rfl rfl ?_
  exact hQ _ J Sm
set_option maxRecDepth 100000 in
set_option maxHeartbeats 4000000 in
theorem sf_X8_put_r63_c3 {Dy : jH → Prop} {h : jH} {Q : Option Value → jH → Prop} {a1 : Int32} {a3 : Int32} (y1 : 0 ≤ a1.toInt ∧ a1.toInt ≤ 369) (y3 : 0 ≤ a3.toInt ∧ a3.toInt ≤ 0) (hD : jDk Dy) (J : jJ jSgX Dy h) (hQ : ∀ hx9, jJ jSgX Dy hx9 → jSm fp_X8_put_r63_c3 h hx9 → Q none hx9) : jC m_X8_put 1 0 0 [.ref 63, .int a1, .int 3, .int a3] h Q := by
  refine jC.of rfl k_X8_put rfl ?_
  have Sm := jSm_rf fp_X8_put_r63_c3 h
  show jX m_X8_put 1 0 0 0 [(0, .ref 63), (1, .int a1), (2, .int 3), (3, .int a3)] [] _ 0 0 _
  refine x_iloadn (x := a1) rfl rfl ?_
  refine x_iflt (tgt := 38) rfl rfl (ti_lt rfl jk_0 (br_f (by omega) ?_))
  refine x_iloadn (x := a1) rfl rfl ?_
  refine x_aloadn (x := 63) rfl rfl ?_
  refine z_getI (N := 4) 8 3 rfl f_8_7 rfl J rfl sg_63_3_4_1_0_1 (fun v1 qv1 ev1 => ?_)
  refine x_icge (tgt := 38) rfl rfl (ti_ge rfl rfl ⟨fun c2 => ?_, fun c2 => ?_⟩)
  ·
    exact jX.sub jsb_n (ct_X8_put_r63_c3_38 hD hQ  h J Sm)
  ·
    refine x_iloadn (x := 3) rfl rfl ?_
    refine x_iflt (tgt := 38) rfl rfl (ti_lt jk_3 jk_0 (br_f (by omega) ?_))
    refine x_iloadn (x := 3) rfl rfl ?_
    refine x_aloadn (x := 63) rfl rfl ?_
    refine z_getC (N := 4) (v := 2) 8 0 rfl f_8_19 rfl J rfl sg_63_0_1_1_0_1 jk_2 ?_
    refine x_icge (tgt := 38) rfl rfl (ti_ge jk_3 jk_2 (br_t (by omega) ?_))
    exact jX.sub jsb_n (ct_X8_put_r63_c3_38 hD hQ  h J Sm)
def fp_X8_put_r63_c4 : jFp := []
set_option maxRecDepth 100000 in
set_option maxHeartbeats 4000000 in
theorem ct_X8_put_r63_c4_38 {Dy : jH → Prop} {h0 : jH} {Q : Option Value → jH → Prop} (hD : jDk Dy) (hQ : ∀ hx9, jJ jSgX Dy hx9 → jSm fp_X8_put_r63_c4 h0 hx9 → Q none hx9) : ∀ (h : jH), jJ jSgX Dy h → jSm fp_X8_put_r63_c4 h0 h → jX m_X8_put 1 0 0 38 [] [] h 0 0 Q := by
  intro  h    J Sm
  refine x_vret rfl rfl ?_
  exact hQ _ J Sm
set_option maxRecDepth 100000 in
set_option maxHeartbeats 4000000 in
theorem sf_X8_put_r63_c4 {Dy : jH → Prop} {h : jH} {Q : Option Value → jH → Prop} {a1 : Int32} {a3 : Int32} (y1 : 0 ≤ a1.toInt ∧ a1.toInt ≤ 369) (y3 : 0 ≤ a3.toInt ∧ a3.toInt ≤ 0) (hD : jDk Dy) (J : jJ jSgX Dy h) (hQ : ∀ hx9, jJ jSgX Dy hx9 → jSm fp_X8_put_r63_c4 h hx9 → Q none hx9) : jC m_X8_put 1 0 0 [.ref 63, .int a1, .int 4, .int a3] h Q := by
  refine jC.of rfl k_X8_put rfl ?_
  have Sm := jSm_rf fp_X8_put_r63_c4 h
  show jX m_X8_put 1 0 0 0 [(0, .ref 63), (1, .int a1), (2, .int 4), (3, .int a3)] [] _ 0 0 _
  refine x_iloadn (x := a1) rfl rfl ?_
  refine x_iflt (tgt := 38) rfl rfl (ti_lt rfl jk_0 (br_f (by omega) ?_))
  refine x_iloadn (x := a1) rfl rfl ?_
  refine x_aloadn (x := 63) rfl rfl ?_
  refine z_getI (N := 4) 8 3 rfl f_8_7 rfl J rfl sg_63_3_4_1_0_1 (fun v1 qv1 ev1 => ?_)
  refine x_icge (tgt := 38) rfl rfl (ti_ge rfl rfl ⟨fun c2 => ?_, fun c2 => ?_⟩)
  ·
    exact jX.sub jsb_n (ct_X8_put_r63_c4_38 hD hQ  h J Sm)
  ·
    refine x_iloadn (x := 4) rfl rfl ?_
    refine x_iflt (tgt := 38) rfl rfl (ti_lt jk_4 jk_0 (br_f (by omega) ?_))
    refine x_iloadn (x := 4) rfl rfl ?_
    refine x_aloadn (x := 63) rfl rfl ?_
    refine z_getC (N := 4) (v := 2) 8 0 rfl f_8_19 rfl J rfl sg_63_0_1_1_0_1 jk_2 ?_
    refine x_icge (tgt := 38) rfl rfl (ti_ge jk_4 jk_2 (br_t (by omega) ?_))
    exact jX.sub jsb_n (ct_X8_put_r63_c4_38 hD hQ  h J Sm)
def fp_X8_put_r63_c5 : jFp := []
set_option maxRecDepth 100000 in
set_option maxHeartbeats 4000000 in
theorem ct_X8_put_r63_c5_38 {Dy : jH → Prop} {h0 : jH} {Q : Option Value → jH → Prop} (hD : jDk Dy) (hQ : ∀ hx9, jJ jSgX Dy hx9 → jSm fp_X8_put_r63_c5 h0 hx9 → Q none hx9) : ∀ (h : jH), jJ jSgX Dy h → jSm fp_X8_put_r63_c5 h0 h → jX m_X8_put 1 0 0 38 [] [] h 0 0 Q := by
  intro  h    J Sm
  refine x_vret rfl rfl ?_
  exact hQ _ J Sm
set_option maxRecDepth 100000 in
set_option maxHeartbeats 4000000 in
theorem sf_X8_put_r63_c5 {Dy : jH → Prop} {h : jH} {Q : Option Value → jH → Prop} {a1 : Int32} {a3 : Int32} (y1 : 0 ≤ a1.toInt ∧ a1.toInt ≤ 369) (y3 : 0 ≤ a3.toInt ∧ a3.toInt ≤ 0) (hD : jDk Dy) (J : jJ jSgX Dy h) (hQ : ∀ hx9, jJ jSgX Dy hx9 → jSm fp_X8_put_r63_c5 h hx9 → Q none hx9) : jC m_X8_put 1 0 0 [.ref 63, .int a1, .int 5, .int a3] h Q := by
  refine jC.of rfl k_X8_put rfl ?_
  have Sm := jSm_rf fp_X8_put_r63_c5 h
  show jX m_X8_put 1 0 0 0 [(0, .ref 63), (1, .int a1), (2, .int 5), (3, .int a3)] [] _ 0 0 _
  refine x_iloadn (x := a1) rfl rfl ?_
  refine x_iflt (tgt := 38) rfl rfl (ti_lt rfl jk_0 (br_f (by omega) ?_))
  refine x_iloadn (x := a1) rfl rfl ?_
  refine x_aloadn (x := 63) rfl rfl ?_
  refine z_getI (N := 4) 8 3 rfl f_8_7 rfl J rfl sg_63_3_4_1_0_1 (fun v1 qv1 ev1 => ?_)
  refine x_icge (tgt := 38) rfl rfl (ti_ge rfl rfl ⟨fun c2 => ?_, fun c2 => ?_⟩)
  ·
    exact jX.sub jsb_n (ct_X8_put_r63_c5_38 hD hQ  h J Sm)
  ·
    refine x_iloadn (x := 5) rfl rfl ?_
    refine x_iflt (tgt := 38) rfl rfl (ti_lt jk_5 jk_0 (br_f (by omega) ?_))
    refine x_iloadn (x := 5) rfl rfl ?_
    refine x_aloadn (x := 63) rfl rfl ?_
    refine z_getC (N := 4) (v := 2) 8 0 rfl f_8_19 rfl J rfl sg_63_0_1_1_0_1 jk_2 ?_
    refine x_icge (tgt := 38) rfl rfl (ti_ge jk_5 jk_2 (br_t (by omega) ?_))
    exact jX.sub jsb_n (ct_X8_put_r63_c5_38 hD hQ  h J Sm)
def fp_X8_add_r63 : jFp := [(63, 3, 4), (64, 0, 740)]
set_option maxRecDepth 100000 in
set_option maxHeartbeats 4000000 in
theorem sf_X8_add_r63 {Dy : jH → Prop} {h : jH} {Q : Option Value → jH → Prop} {a1 : Int32} {a2 : Int32} {a3 : Int32} {a4 : Int32} {a5 : Int32} {a6 : Int32} (y1 : 0 ≤ a1.toInt ∧ a1.toInt ≤ 3) (y2 : 0 ≤ a2.toInt ∧ a2.toInt ≤ 200) (y3 : 0 ≤ a3.toInt ∧ a3.toInt ≤ 0) (y4 : 0 ≤ a4.toInt ∧ a4.toInt ≤ 0) (y5 : 0 ≤ a5.toInt ∧ a5.toInt ≤ 0) (y6 : 0 ≤ a6.toInt ∧ a6.toInt ≤ 0) (hD : jDk Dy) (J : jJ jSgX Dy h) (hQ : ∀ hx9, jJ jSgX Dy hx9 → jSm fp_X8_add_r63 h hx9 → Q none hx9) : jC m_X8_add 2 0 0 [.ref 63, .int a1, .int a2, .int a3, .int a4, .int a5, .int a6] h Q := by
  refine jC.of rfl k_X8_add rfl ?_
  have Sm := jSm_rf fp_X8_add_r63 h
  show jX m_X8_add 2 0 0 0 [(0, .ref 63), (1, .int a1), (2, .int a2), (3, .int a3), (4, .int a4), (5, .int a5), (6, .int a6)] [] _ 0 0 _
  refine x_aloadn (x := 63) rfl rfl ?_
  refine z_getI (N := 4) 8 3 rfl f_8_7 rfl J rfl sg_63_3_4_1_0_1 (fun v1 qv1 ev1 => ?_)
  refine x_aloadn (x := 63) rfl rfl ?_
  refine z_getC (N := 4) (v := 370) 8 1 rfl f_8_22 rfl J rfl sg_63_1_2_1_0_1 jk_370 ?_
  refine x_iclt (tgt := 12) rfl rfl (ti_lt rfl jk_370 ⟨fun c2 => ?_, fun c2 => ?_⟩)
  ·
    refine x_aloadn (x := 63) rfl rfl ?_
    refine z_getM (N := 4) (v := v1) 8 3 rfl f_8_7 rfl J rfl qv1 ?_
    refine x_istore (lsx9 := [(7, .int v1), (0, .ref 63), (1, .int a1), (2, .int a2), (3, .int a3), (4, .int a4), (5, .int a5), (6, .int a6)]) rfl rfl rfl ?_
    refine x_aloadn (x := 63) rfl rfl ?_
    refine x_iload (x := v1) rfl rfl ?_
    refine x_iconst (v := 1) rfl ki_1 ?_
    refine z_iadd rfl rfl jk_1 (by omega) (fun v3 ev3 => ?_)
    refine z_putI (N := 4) (w := v3.toInt) 8 3 rfl f_8_7 rfl (jfin_no TX8 RX8 4 rfl rfl) hD J Sm rfl rfl rfl (pw_63_3 (by omega)) rfl (fun h w4 J Sm => ?_)
    refine x_aloadn (x := 63) rfl rfl ?_
    refine x_iload (x := v1) rfl rfl ?_
    refine x_iconst (v := 0) rfl ki_0 ?_
    refine x_iloadn (x := a1) rfl rfl ?_
    refine x_inv (N := m_X8_put) (As := [.int v1, .int 0, .int a1]) (b := 63) (st := []) (dx9 := 1) (mc := 0) (ms := 0) (host := "") 8 rfl t_X8_put ⟨Or.inl q_8_29, i_X8_put.1, i_X8_put.2⟩ ⟨by decide, rfl⟩ (congrArg Prod.fst (J.1.1 63 (8, 4) rfl)) rfl (by decide) rfl rfl ⟨by decide, by decide⟩ (sf_X8_put_r63_c0 (jr_of rfl (by omega)) (jr_of rfl (by omega)) hD J  (fun h J S5 => ?_))
    have Sm := jSm_tr rfl Sm S5
    show jX m_X8_add 2 0 0 34 [(7, .int v1), (0, .ref 63), (1, .int a1), (2, .int a2), (3, .int a3), (4, .int a4), (5, .int a5), (6, .int a6)] [] _ 0 0 _
    refine x_aloadn (x := 63) rfl rfl ?_
    refine x_iload (x := v1) rfl rfl ?_
    refine x_iconst (v := 1) rfl ki_1 ?_
    refine x_iloadn (x := a2) rfl rfl ?_
    refine x_inv (N := m_X8_put) (As := [.int v1, .int 1, .int a2]) (b := 63) (st := []) (dx9 := 1) (mc := 0) (ms := 0) (host := "") 8 rfl t_X8_put ⟨Or.inl q_8_29, i_X8_put.1, i_X8_put.2⟩ ⟨by decide, rfl⟩ (congrArg Prod.fst (J.1.1 63 (8, 4) rfl)) rfl (by decide) rfl rfl ⟨by decide, by decide⟩ (sf_X8_put_r63_c1 (jr_of rfl (by omega)) (jr_of rfl (by omega)) hD J  (fun h J S6 => ?_))
    have Sm := jSm_tr rfl Sm S6
    show jX m_X8_add 2 0 0 42 [(7, .int v1), (0, .ref 63), (1, .int a1), (2, .int a2), (3, .int a3), (4, .int a4), (5, .int a5), (6, .int a6)] [] _ 0 0 _
    refine x_aloadn (x := 63) rfl rfl ?_
    refine x_iload (x := v1) rfl rfl ?_
    refine x_iconst (v := 2) rfl ki_2 ?_
    refine x_iloadn (x := a3) rfl rfl ?_
    refine x_inv (N := m_X8_put) (As := [.int v1, .int 2, .int a3]) (b := 63) (st := []) (dx9 := 1) (mc := 0) (ms := 0) (host := "") 8 rfl t_X8_put ⟨Or.inl q_8_29, i_X8_put.1, i_X8_put.2⟩ ⟨by decide, rfl⟩ (congrArg Prod.fst (J.1.1 63 (8, 4) rfl)) rfl (by decide) rfl rfl ⟨by decide, by decide⟩ (sf_X8_put_r63_c2 (jr_of rfl (by omega)) (jr_of rfl (by omega)) hD J  (fun h J S7 => ?_))
    have Sm := jSm_tr rfl Sm S7
    show jX m_X8_add 2 0 0 50 [(7, .int v1), (0, .ref 63), (1, .int a1), (2, .int a2), (3, .int a3), (4, .int a4), (5, .int a5), (6, .int a6)] [] _ 0 0 _
    refine x_aloadn (x := 63) rfl rfl ?_
    refine x_iload (x := v1) rfl rfl ?_
    refine x_iconst (v := 3) rfl ki_3 ?_
    refine x_iload (x := a4) rfl rfl ?_
    refine x_inv (N := m_X8_put) (As := [.int v1, .int 3, .int a4]) (b := 63) (st := []) (dx9 := 1) (mc := 0) (ms := 0) (host := "") 8 rfl t_X8_put ⟨Or.inl q_8_29, i_X8_put.1, i_X8_put.2⟩ ⟨by decide, rfl⟩ (congrArg Prod.fst (J.1.1 63 (8, 4) rfl)) rfl (by decide) rfl rfl ⟨by decide, by decide⟩ (sf_X8_put_r63_c3 (jr_of rfl (by omega)) (jr_of rfl (by omega)) hD J  (fun h J S8 => ?_))
    have Sm := jSm_tr rfl Sm S8
    show jX m_X8_add 2 0 0 59 [(7, .int v1), (0, .ref 63), (1, .int a1), (2, .int a2), (3, .int a3), (4, .int a4), (5, .int a5), (6, .int a6)] [] _ 0 0 _
    refine x_aloadn (x := 63) rfl rfl ?_
    refine x_iload (x := v1) rfl rfl ?_
    refine x_iconst (v := 4) rfl ki_4 ?_
    refine x_iload (x := a5) rfl rfl ?_
    refine x_inv (N := m_X8_put) (As := [.int v1, .int 4, .int a5]) (b := 63) (st := []) (dx9 := 1) (mc := 0) (ms := 0) (host := "") 8 rfl t_X8_put ⟨Or.inl q_8_29, i_X8_put.1, i_X8_put.2⟩ ⟨by decide, rfl⟩ (congrArg Prod.fst (J.1.1 63 (8, 4) rfl)) rfl (by decide) rfl rfl ⟨by decide, by decide⟩ (sf_X8_put_r63_c4 (jr_of rfl (by omega)) (jr_of rfl (by omega)) hD J  (fun h J S9 => ?_))
    have Sm := jSm_tr rfl Sm S9
    show jX m_X8_add 2 0 0 68 [(7, .int v1), (0, .ref 63), (1, .int a1), (2, .int a2), (3, .int a3), (4, .int a4), (5, .int a5), (6, .int a6)] [] _ 0 0 _
    refine x_aloadn (x := 63) rfl rfl ?_
    refine x_iload (x := v1) rfl rfl ?_
    refine x_iconst (v := 5) rfl ki_5 ?_
    refine x_iload (x := a6) rfl rfl ?_
    refine x_inv (N := m_X8_put) (As := [.int v1, .int 5, .int a6]) (b := 63) (st := []) (dx9 := 1) (mc := 0) (ms := 0) (host := "") 8 rfl t_X8_put ⟨Or.inl q_8_29, i_X8_put.1, i_X8_put.2⟩ ⟨by decide, rfl⟩ (congrArg Prod.fst (J.1.1 63 (8, 4) rfl)) rfl (by decide) rfl rfl ⟨by decide, by decide⟩ (sf_X8_put_r63_c5 (jr_of rfl (by omega)) (jr_of rfl (by omega)) hD J  (fun h J S10 => ?_))
    have Sm := jSm_tr rfl Sm S10
    show jX m_X8_add 2 0 0 77 [(7, .int v1), (0, .ref 63), (1, .int a1), (2, .int a2), (3, .int a3), (4, .int a4), (5, .int a5), (6, .int a6)] [] _ 0 0 _
    refine x_vret rfl rfl ?_
    exact hQ _ J Sm
  ·
    refine x_vret rfl rfl ?_
    exact hQ _ J Sm
def fp_X8_isFull_r43 : jFp := []
set_option maxRecDepth 100000 in
set_option maxHeartbeats 4000000 in
theorem ct_X8_isFull_r43_200016 {Dy : jH → Prop} {h0 : jH} {Q : Option Value → jH → Prop} (hD : jDk Dy) (hQ : ∀ (v : Int32) hx9, 0 ≤ v.toInt ∧ v.toInt ≤ 1 → jJ jSgX Dy hx9 → jSm fp_X8_isFull_r43 h0 hx9 → Q (some (.int v)) hx9) : ∀ (h : jH), jJ jSgX Dy h → jSm fp_X8_isFull_r43 h0 h → jX m_X8_isFull 1 0 0 16 [] [.int 0] h 0 0 Q := by
  intro  h    J Sm
  refine x_zret rfl rfl (by decide) ?_
  exact hQ _ _ (jr_of jk_0 (by omega)) J Sm
set_option maxRecDepth 100000 in
set_option maxHeartbeats 4000000 in
theorem ct_X8_isFull_r43_300016 {Dy : jH → Prop} {h0 : jH} {Q : Option Value → jH → Prop} (hD : jDk Dy) (hQ : ∀ (v : Int32) hx9, 0 ≤ v.toInt ∧ v.toInt ≤ 1 → jJ jSgX Dy hx9 → jSm fp_X8_isFull_r43 h0 hx9 → Q (some (.int v)) hx9) : ∀ (h : jH), jJ jSgX Dy h → jSm fp_X8_isFull_r43 h0 h → jX m_X8_isFull 1 0 0 16 [] [.int 1] h 0 0 Q := by
  intro  h    J Sm
  refine x_zret rfl rfl (by decide) ?_
  exact hQ _ _ (jr_of jk_1 (by omega)) J Sm
set_option maxRecDepth 100000 in
set_option maxHeartbeats 4000000 in
theorem sf_X8_isFull_r43 {Dy : jH → Prop} {h : jH} {Q : Option Value → jH → Prop} (hD : jDk Dy) (J : jJ jSgX Dy h) (hQ : ∀ (v : Int32) hx9, 0 ≤ v.toInt ∧ v.toInt ≤ 1 → jJ jSgX Dy hx9 → jSm fp_X8_isFull_r43 h hx9 → Q (some (.int v)) hx9) : jC m_X8_isFull 1 0 0 [.ref 43] h Q := by
  refine jC.of rfl k_X8_isFull rfl ?_
  have Sm := jSm_rf fp_X8_isFull_r43 h
  show jX m_X8_isFull 1 0 0 0 [(0, .ref 43)] [] _ 0 0 _
  refine x_aloadn (x := 43) rfl rfl ?_
  refine z_getI (N := 4) 8 3 rfl f_8_7 rfl J rfl sg_43_3_4_1_0_1 (fun v1 qv1 ev1 => ?_)
  refine x_aloadn (x := 43) rfl rfl ?_
  refine z_getC (N := 4) (v := 100) 8 1 rfl f_8_22 rfl J rfl sg_43_1_2_1_0_1 jk_100 ?_
  refine x_iclt (tgt := 15) rfl rfl (ti_lt rfl jk_100 ⟨fun c2 => ?_, fun c2 => ?_⟩)
  ·
    refine x_iconst (v := 0) rfl ki_0 ?_
    exact jX.sub jsb_n (ct_X8_isFull_r43_200016 hD hQ  h J Sm)
  ·
    refine x_iconst (v := 1) rfl ki_1 ?_
    refine x_goto (tgt := 16) rfl rfl ?_
    exact jX.sub jsb_n (ct_X8_isFull_r43_300016 hD hQ  h J Sm)
def fp_X11_fact_r31 : jFp := [(31, 12, 13), (32, 19, 20), (43, 3, 4), (44, 0, 600), (63, 3, 4), (64, 0, 740)]
set_option maxRecDepth 100000 in
set_option maxHeartbeats 4000000 in
theorem ct_X11_fact_r31_50 {Dy : jH → Prop} {h0 : jH} {Q : Option Value → jH → Prop} (hD : jDk Dy) (hQ : ∀ (v : Int32) hx9, (-366) ≤ v.toInt ∧ v.toInt ≤ 100 → jJ jSgX Dy hx9 → jSm fp_X11_fact_r31 h0 hx9 → Q (some (.int v)) hx9) : ∀ (h : jH), jJ jSgX Dy h → jSm fp_X11_fact_r31 h0 h → jX m_X11_fact 3 0 0 50 [(0, .ref 31)] [] h 0 0 Q := by
  intro  h    J Sm
  refine x_aloadn (x := 31) rfl rfl ?_
  refine x_iconst (v := (-1)) rfl ki_m1 ?_
  refine x_inv (N := m_X11_refuse) (As := [.int (-1)]) (b := 31) (st := []) (dx9 := 2) (mc := 0) (ms := 0) (host := "") 11 rfl t_X11_refuse ⟨Or.inl q_11_206, i_X11_refuse.1, i_X11_refuse.2⟩ ⟨by decide, rfl⟩ (congrArg Prod.fst (J.1.1 31 (11, 13) rfl)) rfl (by decide) rfl rfl ⟨by decide, by decide⟩ (jC.of rfl k_X11_refuse rfl ?_)
  show jX m_X11_refuse 2 0 0 0 [(0, .ref 31), (1, .int (-1))] [] _ 0 0 _
  refine x_aloadn (x := 31) rfl rfl ?_
  refine x_iloadn (x := (-1)) rfl rfl ?_
  refine z_putI (N := 13) (w := (-1)) 11 12 rfl f_11_94 rfl (jfin_no TX11 RX11 13 rfl rfl) hD J Sm rfl rfl jk_m1 (pw_31_12 (by omega)) rfl (fun h w1 J Sm => ?_)
  refine x_iloadn (x := (-1)) rfl rfl ?_
  refine x_iret rfl rfl ?_
  show jX m_X11_fact 3 0 0 55 [(0, .ref 31)] [.int (-1)] _ 0 0 _
  refine x_iret rfl rfl ?_
  exact hQ _ _ (jr_of jk_m1 (by omega)) J Sm
set_option maxRecDepth 100000 in
set_option maxHeartbeats 4000000 in
theorem sf_X11_fact_r31 {Dy : jH → Prop} {h : jH} {Q : Option Value → jH → Prop} {a1 : Int32} {a2 : Int32} {a3 : Int32} {a4 : Int32} {a5 : Int32} {a6 : Int32} (hD : jDk Dy) (J : jJ jSgX Dy h) (hQ : ∀ (v : Int32) hx9, (-366) ≤ v.toInt ∧ v.toInt ≤ 100 → jJ jSgX Dy hx9 → jSm fp_X11_fact_r31 h hx9 → Q (some (.int v)) hx9) : jC m_X11_fact 3 0 0 [.ref 31, .int a1, .int a2, .int a3, .int a4, .int a5, .int a6] h Q := by
  refine jC.of rfl k_X11_fact rfl ?_
  have Sm := jSm_rf fp_X11_fact_r31 h
  have ea1 := jfull a1
  have ea2 := jfull a2
  have ea3 := jfull a3
  have ea4 := jfull a4
  have ea5 := jfull a5
  have ea6 := jfull a6
  show jX m_X11_fact 3 0 0 0 [(0, .ref 31), (1, .int a1), (2, .int a2), (3, .int a3), (4, .int a4), (5, .int a5), (6, .int a6)] [] _ 0 0 _
  refine x_iloadn (x := a2) rfl rfl ?_
  refine x_iflt (tgt := 50) rfl rfl (ti_lt rfl jk_0 ⟨fun c1 => ?_, fun c1 => ?_⟩)
  ·
    exact jX.sub (jsb_c rfl jsb_n) (ct_X11_fact_r31_50 hD hQ  h J Sm)
  ·
    refine x_iloadn (x := a2) rfl rfl ?_
    refine x_iconst (v := 4) rfl ki_4 ?_
    refine x_icgt (tgt := 50) rfl rfl (ti_gt rfl jk_4 ⟨fun c2 => ?_, fun c2 => ?_⟩)
    ·
      exact jX.sub (jsb_c rfl jsb_n) (ct_X11_fact_r31_50 hD hQ  h J Sm)
    ·
      refine x_iloadn (x := a3) rfl rfl ?_
      refine x_iflt (tgt := 50) rfl rfl (ti_lt rfl jk_0 ⟨fun c3 => ?_, fun c3 => ?_⟩)
      ·
        exact jX.sub (jsb_c rfl jsb_n) (ct_X11_fact_r31_50 hD hQ  h J Sm)
      ·
        refine x_iloadn (x := a3) rfl rfl ?_
        refine x_bipush (v := 11) rfl kb_11 ?_
        refine x_icgt (tgt := 50) rfl rfl (ti_gt rfl jk_11 ⟨fun c4 => ?_, fun c4 => ?_⟩)
        ·
          exact jX.sub (jsb_c rfl jsb_n) (ct_X11_fact_r31_50 hD hQ  h J Sm)
        ·
          refine x_iload (x := a4) rfl rfl ?_
          refine x_inst (N := m_X11_isDay) (As := [.int a4]) (st := []) (dx9 := 1) (mc := 0) (ms := 0) (host := "") rfl t_X11_isDay ⟨Or.inl q_11_115, s_X11_isDay⟩ rfl (by decide) rfl rfl ⟨by decide, by decide⟩ (zc_X11_isDay rfl (fun v5 ev5 => ?_))
          show jX m_X11_fact 3 0 0 24 [(0, .ref 31), (1, .int a1), (2, .int a2), (3, .int a3), (4, .int a4), (5, .int a5), (6, .int a6)] [.int v5] _ 0 0 _
          refine x_ifeq (tgt := 50) rfl rfl (ti_eq rfl jk_0 ⟨fun c6 => ?_, fun c6 => ?_⟩)
          ·
            exact jX.sub (jsb_c rfl jsb_n) (ct_X11_fact_r31_50 hD hQ  h J Sm)
          ·
            refine x_iload (x := a5) rfl rfl ?_
            refine x_inst (N := m_X11_isDay) (As := [.int a5]) (st := []) (dx9 := 1) (mc := 0) (ms := 0) (host := "") rfl t_X11_isDay ⟨Or.inl q_11_115, s_X11_isDay⟩ rfl (by decide) rfl rfl ⟨by decide, by decide⟩ (zc_X11_isDay rfl (fun v7 ev7 => ?_))
            show jX m_X11_fact 3 0 0 32 [(0, .ref 31), (1, .int a1), (2, .int a2), (3, .int a3), (4, .int a4), (5, .int a5), (6, .int a6)] [.int v7] _ 0 0 _
            refine x_ifeq (tgt := 50) rfl rfl (ti_eq rfl jk_0 ⟨fun c8 => ?_, fun c8 => ?_⟩)
            ·
              exact jX.sub (jsb_c rfl jsb_n) (ct_X11_fact_r31_50 hD hQ  h J Sm)
            ·
              refine x_iload (x := a5) rfl rfl ?_
              refine x_iload (x := a4) rfl rfl ?_
              refine x_iclt (tgt := 50) rfl rfl (ti_lt rfl rfl ⟨fun c9 => ?_, fun c9 => ?_⟩)
              ·
                exact jX.sub (jsb_c rfl jsb_n) (ct_X11_fact_r31_50 hD hQ  h J Sm)
              ·
                refine x_iload (x := a6) rfl rfl ?_
                refine x_inst (N := m_X11_isDay) (As := [.int a6]) (st := []) (dx9 := 1) (mc := 0) (ms := 0) (host := "") rfl t_X11_isDay ⟨Or.inl q_11_115, s_X11_isDay⟩ rfl (by decide) rfl rfl ⟨by decide, by decide⟩ (zc_X11_isDay rfl (fun v10 ev10 => ?_))
                show jX m_X11_fact 3 0 0 47 [(0, .ref 31), (1, .int a1), (2, .int a2), (3, .int a3), (4, .int a4), (5, .int a5), (6, .int a6)] [.int v10] _ 0 0 _
                refine x_ifne (tgt := 56) rfl rfl (ti_ne rfl jk_0 ⟨fun c11 => ?_, fun c11 => ?_⟩)
                ·
                  refine x_aloadn (x := 31) rfl rfl ?_
                  refine z_getR (N := 13) (b := 78) 11 4 rfl f_11_41 rfl J rfl 3972 ⟨rfl, rfl⟩ rfl ?_
                  refine x_iloadn (x := a1) rfl rfl ?_
                  refine x_inv (N := m_X7_isMention) (As := [.int a1]) (b := 78) (st := []) (dx9 := 2) (mc := 0) (ms := 0) (host := "") 7 rfl t_X7_isMention ⟨Or.inl q_11_187, i_X7_isMention.1, i_X7_isMention.2⟩ ⟨by decide, rfl⟩ (congrArg Prod.fst (J.1.1 78 (7, 16) rfl)) rfl (by decide) rfl rfl ⟨by decide, by decide⟩ (jC.of rfl k_X7_isMention rfl ?_)
                  show jX m_X7_isMention 2 0 0 0 [(0, .ref 78), (1, .int a1)] [] _ 0 0 _
                  refine x_iloadn (x := a1) rfl rfl ?_
                  refine x_iflt (tgt := 41) rfl rfl (ti_lt rfl jk_0 ⟨fun c12 => ?_, fun c12 => ?_⟩)
                  ·
                    refine x_iconst (v := 0) rfl ki_0 ?_
                    refine x_zret rfl rfl (by decide) ?_
                    show jX m_X11_fact 3 0 0 64 [(0, .ref 31), (1, .int a1), (2, .int a2), (3, .int a3), (4, .int a4), (5, .int a5), (6, .int a6)] [.int 0] _ 0 0 _
                    refine x_ifne (tgt := 74) rfl rfl (ti_ne jk_0 jk_0 (bn_f (by omega) ?_))
                    refine x_aloadn (x := 31) rfl rfl ?_
                    refine x_bipush (v := (-2)) rfl kb_m2 ?_
                    refine x_inv (N := m_X11_refuse) (As := [.int (-2)]) (b := 31) (st := []) (dx9 := 2) (mc := 0) (ms := 0) (host := "") 11 rfl t_X11_refuse ⟨Or.inl q_11_206, i_X11_refuse.1, i_X11_refuse.2⟩ ⟨by decide, rfl⟩ (congrArg Prod.fst (J.1.1 31 (11, 13) rfl)) rfl (by decide) rfl rfl ⟨by decide, by decide⟩ (jC.of rfl k_X11_refuse rfl ?_)
                    show jX m_X11_refuse 2 0 0 0 [(0, .ref 31), (1, .int (-2))] [] _ 0 0 _
                    refine x_aloadn (x := 31) rfl rfl ?_
                    refine x_iloadn (x := (-2)) rfl rfl ?_
                    refine z_putI (N := 13) (w := (-2)) 11 12 rfl f_11_94 rfl (jfin_no TX11 RX11 13 rfl rfl) hD J Sm rfl rfl jk_m2 (pw_31_12 (by omega)) rfl (fun h w13 J Sm => ?_)
                    refine x_iloadn (x := (-2)) rfl rfl ?_
                    refine x_iret rfl rfl ?_
                    show jX m_X11_fact 3 0 0 73 [(0, .ref 31), (1, .int a1), (2, .int a2), (3, .int a3), (4, .int a4), (5, .int a5), (6, .int a6)] [.int (-2)] _ 0 0 _
                    refine x_iret rfl rfl ?_
                    exact hQ _ _ (jr_of jk_m2 (by omega)) J Sm
                  ·
                    refine x_iloadn (x := a1) rfl rfl ?_
                    refine x_sipush (v := 600) rfl ks_600 ?_
                    refine x_icge (tgt := 41) rfl rfl (ti_ge rfl jk_600 ⟨fun c14 => ?_, fun c14 => ?_⟩)
                    ·
                      refine x_iconst (v := 0) rfl ki_0 ?_
                      refine x_zret rfl rfl (by decide) ?_
                      show jX m_X11_fact 3 0 0 64 [(0, .ref 31), (1, .int a1), (2, .int a2), (3, .int a3), (4, .int a4), (5, .int a5), (6, .int a6)] [.int 0] _ 0 0 _
                      refine x_ifne (tgt := 74) rfl rfl (ti_ne jk_0 jk_0 (bn_f (by omega) ?_))
                      refine x_aloadn (x := 31) rfl rfl ?_
                      refine x_bipush (v := (-2)) rfl kb_m2 ?_
                      refine x_inv (N := m_X11_refuse) (As := [.int (-2)]) (b := 31) (st := []) (dx9 := 2) (mc := 0) (ms := 0) (host := "") 11 rfl t_X11_refuse ⟨Or.inl q_11_206, i_X11_refuse.1, i_X11_refuse.2⟩ ⟨by decide, rfl⟩ (congrArg Prod.fst (J.1.1 31 (11, 13) rfl)) rfl (by decide) rfl rfl ⟨by decide, by decide⟩ (jC.of rfl k_X11_refuse rfl ?_)
                      show jX m_X11_refuse 2 0 0 0 [(0, .ref 31), (1, .int (-2))] [] _ 0 0 _
                      refine x_aloadn (x := 31) rfl rfl ?_
                      refine x_iloadn (x := (-2)) rfl rfl ?_
                      refine z_putI (N := 13) (w := (-2)) 11 12 rfl f_11_94 rfl (jfin_no TX11 RX11 13 rfl rfl) hD J Sm rfl rfl jk_m2 (pw_31_12 (by omega)) rfl (fun h w15 J Sm => ?_)
                      refine x_iloadn (x := (-2)) rfl rfl ?_
                      refine x_iret rfl rfl ?_
                      show jX m_X11_fact 3 0 0 73 [(0, .ref 31), (1, .int a1), (2, .int a2), (3, .int a3), (4, .int a4), (5, .int a5), (6, .int a6)] [.int (-2)] _ 0 0 _
                      refine x_iret rfl rfl ?_
                      exact hQ _ _ (jr_of jk_m2 (by omega)) J Sm
                    ·
                      refine x_iloadn (x := a1) rfl rfl ?_
                      refine x_iconst (v := 3) rfl ki_3 ?_
                      refine z_idiv rfl rfl jk_3 (by omega) (by omega) (fun v16 ev16 => ?_)
                      refine x_aloadn (x := 78) rfl rfl ?_
                      refine z_getR (N := 16) (b := 32) 7 0 rfl f_7_55 rfl J rfl 9984 ⟨rfl, rfl⟩ rfl ?_
                      refine z_getR (N := 20) (b := 33) 1 0 rfl f_7_63 rfl J rfl 4096 ⟨rfl, rfl⟩ rfl ?_
                      refine z_getI (N := 4) 8 3 rfl f_7_85 rfl J rfl sg_33_3_4_1_0_1 (fun v17 qv17 ev17 => ?_)
                      refine x_icge (tgt := 41) rfl rfl (ti_ge rfl rfl ⟨fun c18 => ?_, fun c18 => ?_⟩)
                      ·
                        refine x_iconst (v := 0) rfl ki_0 ?_
                        refine x_zret rfl rfl (by decide) ?_
                        show jX m_X11_fact 3 0 0 64 [(0, .ref 31), (1, .int a1), (2, .int a2), (3, .int a3), (4, .int a4), (5, .int a5), (6, .int a6)] [.int 0] _ 0 0 _
                        refine x_ifne (tgt := 74) rfl rfl (ti_ne jk_0 jk_0 (bn_f (by omega) ?_))
                        refine x_aloadn (x := 31) rfl rfl ?_
                        refine x_bipush (v := (-2)) rfl kb_m2 ?_
                        refine x_inv (N := m_X11_refuse) (As := [.int (-2)]) (b := 31) (st := []) (dx9 := 2) (mc := 0) (ms := 0) (host := "") 11 rfl t_X11_refuse ⟨Or.inl q_11_206, i_X11_refuse.1, i_X11_refuse.2⟩ ⟨by decide, rfl⟩ (congrArg Prod.fst (J.1.1 31 (11, 13) rfl)) rfl (by decide) rfl rfl ⟨by decide, by decide⟩ (jC.of rfl k_X11_refuse rfl ?_)
                        show jX m_X11_refuse 2 0 0 0 [(0, .ref 31), (1, .int (-2))] [] _ 0 0 _
                        refine x_aloadn (x := 31) rfl rfl ?_
                        refine x_iloadn (x := (-2)) rfl rfl ?_
                        refine z_putI (N := 13) (w := (-2)) 11 12 rfl f_11_94 rfl (jfin_no TX11 RX11 13 rfl rfl) hD J Sm rfl rfl jk_m2 (pw_31_12 (by omega)) rfl (fun h w19 J Sm => ?_)
                        refine x_iloadn (x := (-2)) rfl rfl ?_
                        refine x_iret rfl rfl ?_
                        show jX m_X11_fact 3 0 0 73 [(0, .ref 31), (1, .int a1), (2, .int a2), (3, .int a3), (4, .int a4), (5, .int a5), (6, .int a6)] [.int (-2)] _ 0 0 _
                        refine x_iret rfl rfl ?_
                        exact hQ _ _ (jr_of jk_m2 (by omega)) J Sm
                      ·
                        refine x_aloadn (x := 78) rfl rfl ?_
                        refine z_getR (N := 16) (b := 79) 7 7 rfl f_7_27 rfl J rfl 9991 ⟨rfl, rfl⟩ rfl ?_
                        refine x_iloadn (x := a1) rfl rfl ?_
                        refine z_iald (N := 600) rfl J rfl sg_79_0_600_1_0_1 rfl (by omega) (fun v20 qv20 ev20 => ?_)
                        refine x_iconst (v := (-1)) rfl ki_m1 ?_
                        refine x_iceq (tgt := 41) rfl rfl (ti_eq rfl jk_m1 ⟨fun c21 => ?_, fun c21 => ?_⟩)
                        ·
                          refine x_iconst (v := 0) rfl ki_0 ?_
                          refine x_zret rfl rfl (by decide) ?_
                          show jX m_X11_fact 3 0 0 64 [(0, .ref 31), (1, .int a1), (2, .int a2), (3, .int a3), (4, .int a4), (5, .int a5), (6, .int a6)] [.int 0] _ 0 0 _
                          refine x_ifne (tgt := 74) rfl rfl (ti_ne jk_0 jk_0 (bn_f (by omega) ?_))
                          refine x_aloadn (x := 31) rfl rfl ?_
                          refine x_bipush (v := (-2)) rfl kb_m2 ?_
                          refine x_inv (N := m_X11_refuse) (As := [.int (-2)]) (b := 31) (st := []) (dx9 := 2) (mc := 0) (ms := 0) (host := "") 11 rfl t_X11_refuse ⟨Or.inl q_11_206, i_X11_refuse.1, i_X11_refuse.2⟩ ⟨by decide, rfl⟩ (congrArg Prod.fst (J.1.1 31 (11, 13) rfl)) rfl (by decide) rfl rfl ⟨by decide, by decide⟩ (jC.of rfl k_X11_refuse rfl ?_)
                          show jX m_X11_refuse 2 0 0 0 [(0, .ref 31), (1, .int (-2))] [] _ 0 0 _
                          refine x_aloadn (x := 31) rfl rfl ?_
                          refine x_iloadn (x := (-2)) rfl rfl ?_
                          refine z_putI (N := 13) (w := (-2)) 11 12 rfl f_11_94 rfl (jfin_no TX11 RX11 13 rfl rfl) hD J Sm rfl rfl jk_m2 (pw_31_12 (by omega)) rfl (fun h w22 J Sm => ?_)
                          refine x_iloadn (x := (-2)) rfl rfl ?_
                          refine x_iret rfl rfl ?_
                          show jX m_X11_fact 3 0 0 73 [(0, .ref 31), (1, .int a1), (2, .int a2), (3, .int a3), (4, .int a4), (5, .int a5), (6, .int a6)] [.int (-2)] _ 0 0 _
                          refine x_iret rfl rfl ?_
                          exact hQ _ _ (jr_of jk_m2 (by omega)) J Sm
                        ·
                          refine x_iconst (v := 1) rfl ki_1 ?_
                          refine x_goto (tgt := 42) rfl rfl ?_
                          refine x_zret rfl rfl (by decide) ?_
                          show jX m_X11_fact 3 0 0 64 [(0, .ref 31), (1, .int a1), (2, .int a2), (3, .int a3), (4, .int a4), (5, .int a5), (6, .int a6)] [.int 1] _ 0 0 _
                          refine x_ifne (tgt := 74) rfl rfl (ti_ne jk_1 jk_0 (bn_t (by omega) ?_))
                          refine x_aloadn (x := 31) rfl rfl ?_
                          refine z_getR (N := 13) (b := 32) 11 0 rfl f_11_10 rfl J rfl 3968 ⟨rfl, rfl⟩ rfl ?_
                          refine z_getR (N := 20) (b := 43) 1 5 rfl f_11_378 rfl J rfl 4101 ⟨rfl, rfl⟩ rfl ?_
                          refine x_inv (N := m_X8_isFull) (As := []) (b := 43) (st := []) (dx9 := 1) (mc := 0) (ms := 0) (host := "") 8 rfl t_X8_isFull ⟨Or.inl q_11_130, i_X8_isFull.1, i_X8_isFull.2⟩ ⟨by decide, rfl⟩ (congrArg Prod.fst (J.1.1 43 (8, 4) rfl)) rfl (by decide) rfl rfl ⟨by decide, by decide⟩ (sf_X8_isFull_r43  hD J  (fun v24 h ev24 J S23 => ?_))
                          have Sm := jSm_tr rfl Sm S23
                          show jX m_X11_fact 3 0 0 84 [(0, .ref 31), (1, .int a1), (2, .int a2), (3, .int a3), (4, .int a4), (5, .int a5), (6, .int a6)] [.int v24] _ 0 0 _
                          refine x_ifeq (tgt := 94) rfl rfl (ti_eq rfl jk_0 ⟨fun c25 => ?_, fun c25 => ?_⟩)
                          ·
                            refine x_aloadn (x := 31) rfl rfl ?_
                            refine z_getR (N := 13) (b := 32) 11 0 rfl f_11_10 rfl J rfl 3968 ⟨rfl, rfl⟩ rfl ?_
                            refine z_getR (N := 20) (b := 63) 1 15 rfl f_11_159 rfl J rfl 4111 ⟨rfl, rfl⟩ rfl ?_
                            refine x_iconst (v := 2) rfl ki_2 ?_
                            refine x_aloadn (x := 31) rfl rfl ?_
                            refine z_getR (N := 13) (b := 32) 11 0 rfl f_11_10 rfl J rfl 3968 ⟨rfl, rfl⟩ rfl ?_
                            refine z_getR (N := 20) (b := 43) 1 5 rfl f_11_378 rfl J rfl 4101 ⟨rfl, rfl⟩ rfl ?_
                            refine z_getI (N := 4) 8 3 rfl f_11_142 rfl J rfl sg_43_3_4_1_0_1 (fun v26 qv26 ev26 => ?_)
                            refine x_iconst (v := 0) rfl ki_0 ?_
                            refine x_iconst (v := 0) rfl ki_0 ?_
                            refine x_iconst (v := 0) rfl ki_0 ?_
                            refine x_iconst (v := 0) rfl ki_0 ?_
                            refine x_inv (N := m_X8_add) (As := [.int 2, .int v26, .int 0, .int 0, .int 0, .int 0]) (b := 63) (st := []) (dx9 := 2) (mc := 0) (ms := 0) (host := "") 8 rfl t_X8_add ⟨Or.inl q_11_145, i_X8_add.1, i_X8_add.2⟩ ⟨by decide, rfl⟩ (congrArg Prod.fst (J.1.1 63 (8, 4) rfl)) rfl (by decide) rfl rfl ⟨by decide, by decide⟩ (sf_X8_add_r63 (jr_of jk_2 (by omega)) (jr_of rfl (by omega)) (jr_of jk_0 (by omega)) (jr_of jk_0 (by omega)) (jr_of jk_0 (by omega)) (jr_of jk_0 (by omega)) hD J  (fun h J S27 => ?_))
                            have Sm := jSm_tr rfl Sm S27
                            show jX m_X11_fact 3 0 0 119 [(0, .ref 31), (1, .int a1), (2, .int a2), (3, .int a3), (4, .int a4), (5, .int a5), (6, .int a6)] [] _ 0 0 _
                            refine x_aloadn (x := 31) rfl rfl ?_
                            refine z_getR (N := 13) (b := 32) 11 0 rfl f_11_10 rfl J rfl 3968 ⟨rfl, rfl⟩ rfl ?_
                            refine z_getR (N := 20) (b := 43) 1 5 rfl f_11_378 rfl J rfl 4101 ⟨rfl, rfl⟩ rfl ?_
                            refine x_iload (x := a6) rfl rfl ?_
                            refine x_iload (x := a4) rfl rfl ?_
                            refine x_iload (x := a5) rfl rfl ?_
                            refine x_iloadn (x := a1) rfl rfl ?_
                            refine x_iloadn (x := a2) rfl rfl ?_
                            refine x_iloadn (x := a3) rfl rfl ?_
                            refine x_inv (N := m_X8_add) (As := [.int a6, .int a4, .int a5, .int a1, .int a2, .int a3]) (b := 43) (st := []) (dx9 := 2) (mc := 0) (ms := 0) (host := "") 8 rfl t_X8_add ⟨Or.inl q_11_145, i_X8_add.1, i_X8_add.2⟩ ⟨by decide, rfl⟩ (congrArg Prod.fst (J.1.1 43 (8, 4) rfl)) rfl (by decide) rfl rfl ⟨by decide, by decide⟩ (sf_X8_add_r43 (jr_of rfl (by omega)) (jr_of rfl (by omega)) (jr_of rfl (by omega)) (jr_of rfl (by omega)) (jr_of rfl (by omega)) (jr_of rfl (by omega)) hD J  (fun h J S28 => ?_))
                            have Sm := jSm_tr rfl Sm S28
                            show jX m_X11_fact 3 0 0 138 [(0, .ref 31), (1, .int a1), (2, .int a2), (3, .int a3), (4, .int a4), (5, .int a5), (6, .int a6)] [] _ 0 0 _
                            refine x_aloadn (x := 31) rfl rfl ?_
                            refine x_aloadn (x := 31) rfl rfl ?_
                            refine z_getR (N := 13) (b := 32) 11 0 rfl f_11_10 rfl J rfl 3968 ⟨rfl, rfl⟩ rfl ?_
                            refine z_getR (N := 20) (b := 43) 1 5 rfl f_11_378 rfl J rfl 4101 ⟨rfl, rfl⟩ rfl ?_
                            refine z_getI (N := 4) 8 3 rfl f_11_142 rfl J rfl sg_43_3_4_1_0_1 (fun v29 qv29 ev29 => ?_)
                            refine x_inv (N := m_X11_accept) (As := [.int v29]) (b := 31) (st := []) (dx9 := 2) (mc := 0) (ms := 0) (host := "") 11 rfl t_X11_accept ⟨Or.inl q_11_165, i_X11_accept.1, i_X11_accept.2⟩ ⟨by decide, rfl⟩ (congrArg Prod.fst (J.1.1 31 (11, 13) rfl)) rfl (by decide) rfl rfl ⟨by decide, by decide⟩ (jC.of rfl k_X11_accept rfl ?_)
                            show jX m_X11_accept 2 0 0 0 [(0, .ref 31), (1, .int v29)] [] _ 0 0 _
                            refine x_aloadn (x := 31) rfl rfl ?_
                            refine x_iconst (v := 0) rfl ki_0 ?_
                            refine z_putI (N := 13) (w := 0) 11 12 rfl f_11_94 rfl (jfin_no TX11 RX11 13 rfl rfl) hD J Sm rfl rfl jk_0 (pw_31_12 (by omega)) rfl (fun h w30 J Sm => ?_)
                            refine x_aloadn (x := 31) rfl rfl ?_
                            refine z_getR (N := 13) (b := 32) 11 0 rfl f_11_10 rfl J rfl 3968 ⟨rfl, rfl⟩ rfl ?_
                            refine x_dup rfl rfl ?_
                            refine z_getI0 (N := 20) 1 19 rfl f_11_528 rfl J rfl (fun v31 qv31 => ?_)
                            have ev31 := jfull v31
                            refine x_iconst (v := 1) rfl ki_1 ?_
                            refine z_iadd0 rfl (fun v32 => ?_)
                            have ev32 := jfull v32
                            refine z_putI (N := 20) (w := v32.toInt) 1 19 rfl f_11_528 rfl (jfin_no TX1 RX1 20 rfl rfl) hD J Sm rfl rfl rfl (pw_32_19 trivial) rfl (fun h w33 J Sm => ?_)
                            refine x_iloadn (x := v29) rfl rfl ?_
                            refine x_iret rfl rfl ?_
                            show jX m_X11_fact 3 0 0 152 [(0, .ref 31), (1, .int a1), (2, .int a2), (3, .int a3), (4, .int a4), (5, .int a5), (6, .int a6)] [.int v29] _ 0 0 _
                            refine x_iret rfl rfl ?_
                            exact hQ _ _ (jr_of rfl (by omega)) J Sm
                          ·
                            refine x_aloadn (x := 31) rfl rfl ?_
                            refine x_bipush (v := (-5)) rfl kb_m5 ?_
                            refine x_inv (N := m_X11_refuse) (As := [.int (-5)]) (b := 31) (st := []) (dx9 := 2) (mc := 0) (ms := 0) (host := "") 11 rfl t_X11_refuse ⟨Or.inl q_11_206, i_X11_refuse.1, i_X11_refuse.2⟩ ⟨by decide, rfl⟩ (congrArg Prod.fst (J.1.1 31 (11, 13) rfl)) rfl (by decide) rfl rfl ⟨by decide, by decide⟩ (jC.of rfl k_X11_refuse rfl ?_)
                            show jX m_X11_refuse 2 0 0 0 [(0, .ref 31), (1, .int (-5))] [] _ 0 0 _
                            refine x_aloadn (x := 31) rfl rfl ?_
                            refine x_iloadn (x := (-5)) rfl rfl ?_
                            refine z_putI (N := 13) (w := (-5)) 11 12 rfl f_11_94 rfl (jfin_no TX11 RX11 13 rfl rfl) hD J Sm rfl rfl jk_m5 (pw_31_12 (by omega)) rfl (fun h w34 J Sm => ?_)
                            refine x_iloadn (x := (-5)) rfl rfl ?_
                            refine x_iret rfl rfl ?_
                            show jX m_X11_fact 3 0 0 93 [(0, .ref 31), (1, .int a1), (2, .int a2), (3, .int a3), (4, .int a4), (5, .int a5), (6, .int a6)] [.int (-5)] _ 0 0 _
                            refine x_iret rfl rfl ?_
                            exact hQ _ _ (jr_of jk_m5 (by omega)) J Sm
                ·
                  exact jX.sub (jsb_c rfl jsb_n) (ct_X11_fact_r31_50 hD hQ  h J Sm)
def fp_X11_fault_r31 : jFp := []
set_option maxRecDepth 100000 in
set_option maxHeartbeats 4000000 in
theorem sf_X11_fault_r31 {Dy : jH → Prop} {h : jH} {Q : Option Value → jH → Prop} (hD : jDk Dy) (J : jJ jSgX Dy h) (hQ : ∀ (v : Int32) hx9, (-1) ≤ v.toInt ∧ v.toInt ≤ 400 → jJ jSgX Dy hx9 → jSm fp_X11_fault_r31 h hx9 → Q (some (.int v)) hx9) : jC m_X11_fault 1 0 0 [.ref 31] h Q := by
  refine jC.of rfl k_X11_fault rfl ?_
  have Sm := jSm_rf fp_X11_fault_r31 h
  show jX m_X11_fault 1 0 0 0 [(0, .ref 31)] [] _ 0 0 _
  refine x_aloadn (x := 31) rfl rfl ?_
  refine z_getR (N := 13) (b := 68) 11 2 rfl f_11_23 rfl J rfl 3970 ⟨rfl, rfl⟩ rfl ?_
  refine z_getI (N := 6) 9 2 rfl f_11_109 rfl J rfl sg_68_2_3_1_0_1 (fun v1 qv1 ev1 => ?_)
  refine x_iret rfl rfl ?_
  exact hQ _ _ (jr_of rfl (by omega)) J Sm
def fp_X11_fee_r31 : jFp := [(78, 13, 14), (82, 0, 600), (83, 0, 600), (84, 0, 200), (85, 0, 4), (86, 0, 3), (98, 10, 11), (98, 11, 12), (98, 12, 13), (98, 13, 14), (98, 14, 15), (98, 15, 16), (99, 0, 30), (100, 0, 30), (101, 0, 3), (102, 0, 40), (103, 0, 40), (104, 0, 40), (105, 0, 3), (106, 0, 100)]
set_option maxRecDepth 100000 in
set_option maxHeartbeats 4000000 in
theorem sf_X11_fee_r31 {Dy : jH → Prop} {h : jH} {Q : Option Value → jH → Prop} {a1 : Int32} {a2 : Int32} (hD : jDk Dy) (J : jJ jSgX Dy h) (hQ : ∀ (v : Int64) hx9, jJ jSgX Dy hx9 → jSm fp_X11_fee_r31 h hx9 → Q (some (.long v)) hx9) : jC m_X11_fee 8 0 0 [.ref 31, .int a1, .int a2] h Q := by
  refine jC.of rfl k_X11_fee rfl ?_
  have Sm := jSm_rf fp_X11_fee_r31 h
  have ea1 := jfull a1
  have ea2 := jfull a2
  show jX m_X11_fee 8 0 0 0 [(0, .ref 31), (1, .int a1), (2, .int a2)] [] _ 0 0 _
  refine x_aloadn (x := 31) rfl rfl ?_
  refine x_iloadn (x := a1) rfl rfl ?_
  refine x_iloadn (x := a2) rfl rfl ?_
  refine x_inv (N := m_X11_isKnownLine) (As := [.int a1, .int a2]) (b := 31) (st := []) (dx9 := 7) (mc := 0) (ms := 0) (host := "") 11 rfl t_X11_isKnownLine ⟨Or.inl q_11_393, i_X11_isKnownLine.1, i_X11_isKnownLine.2⟩ ⟨by decide, rfl⟩ (congrArg Prod.fst (J.1.1 31 (11, 13) rfl)) rfl (by decide) rfl rfl ⟨by decide, by decide⟩ (jC.of rfl k_X11_isKnownLine rfl ?_)
  show jX m_X11_isKnownLine 7 0 0 0 [(0, .ref 31), (1, .int a1), (2, .int a2)] [] _ 0 0 _
  refine x_iloadn (x := a2) rfl rfl ?_
  refine x_inst (N := m_X11_isDay) (As := [.int a2]) (st := []) (dx9 := 1) (mc := 0) (ms := 0) (host := "") rfl t_X11_isDay ⟨Or.inl q_11_115, s_X11_isDay⟩ rfl (by decide) rfl rfl ⟨by decide, by decide⟩ (zc_X11_isDay rfl (fun v1 ev1 => ?_))
  show jX m_X11_isKnownLine 7 0 0 4 [(0, .ref 31), (1, .int a1), (2, .int a2)] [.int v1] _ 0 0 _
  refine x_ifeq (tgt := 26) rfl rfl (ti_eq rfl jk_0 ⟨fun c2 => ?_, fun c2 => ?_⟩)
  ·
    refine x_iconst (v := 0) rfl ki_0 ?_
    refine x_zret rfl rfl (by decide) ?_
    show jX m_X11_fee 8 0 0 6 [(0, .ref 31), (1, .int a1), (2, .int a2)] [.int 0] _ 0 0 _
    refine x_ifne (tgt := 13) rfl rfl (ti_ne jk_0 jk_0 (bn_f (by omega) ?_))
    refine x_ldc2 (v := (-1)) rfl z_11_372 ?_
    refine x_lret rfl rfl ?_
    exact hQ _ _ J Sm
  ·
    refine x_aloadn (x := 31) rfl rfl ?_
    refine z_getR (N := 13) (b := 32) 11 0 rfl f_11_10 rfl J rfl 3968 ⟨rfl, rfl⟩ rfl ?_
    refine z_getR (N := 20) (b := 33) 1 0 rfl f_11_126 rfl J rfl 4096 ⟨rfl, rfl⟩ rfl ?_
    refine x_iloadn (x := a1) rfl rfl ?_
    refine x_iloadn (x := a2) rfl rfl ?_
    refine x_inv (N := m_X8_isKnown) (As := [.int a1, .int a2]) (b := 33) (st := []) (dx9 := 1) (mc := 0) (ms := 0) (host := "") 8 rfl t_X8_isKnown ⟨Or.inl q_11_440, i_X8_isKnown.1, i_X8_isKnown.2⟩ ⟨by decide, rfl⟩ (congrArg Prod.fst (J.1.1 33 (8, 4) rfl)) rfl (by decide) rfl rfl ⟨by decide, by decide⟩ (sf_X8_isKnown_r33 (jr_of rfl (by omega)) hD J  (fun v4 h ev4 J S3 => ?_))
    have Sm := jSm_tr rfl Sm S3
    show jX m_X11_isKnownLine 7 0 0 19 [(0, .ref 31), (1, .int a1), (2, .int a2)] [.int v4] _ 0 0 _
    refine x_ifeq (tgt := 26) rfl rfl (ti_eq rfl jk_0 ⟨fun c5 => ?_, fun c5 => ?_⟩)
    ·
      refine x_iconst (v := 0) rfl ki_0 ?_
      refine x_zret rfl rfl (by decide) ?_
      show jX m_X11_fee 8 0 0 6 [(0, .ref 31), (1, .int a1), (2, .int a2)] [.int 0] _ 0 0 _
      refine x_ifne (tgt := 13) rfl rfl (ti_ne jk_0 jk_0 (bn_f (by omega) ?_))
      refine x_ldc2 (v := (-1)) rfl z_11_372 ?_
      refine x_lret rfl rfl ?_
      exact hQ _ _ J Sm
    ·
      refine x_iconst (v := 1) rfl ki_1 ?_
      refine x_goto (tgt := 27) rfl rfl ?_
      refine x_zret rfl rfl (by decide) ?_
      show jX m_X11_fee 8 0 0 6 [(0, .ref 31), (1, .int a1), (2, .int a2)] [.int 1] _ 0 0 _
      refine x_ifne (tgt := 13) rfl rfl (ti_ne jk_1 jk_0 (bn_t (by omega) ?_))
      refine x_aloadn (x := 31) rfl rfl ?_
      refine x_iloadn (x := a1) rfl rfl ?_
      refine x_iconst (v := 3) rfl ki_3 ?_
      refine z_imul0 rfl (fun v6 => ?_)
      have ev6 := jfull v6
      refine x_iloadn (x := a2) rfl rfl ?_
      refine x_inv (N := m_X11_soulOn) (As := [.int v6, .int a2]) (b := 31) (st := []) (dx9 := 7) (mc := 0) (ms := 0) (host := "") 11 rfl t_X11_soulOn ⟨Or.inl q_11_234, i_X11_soulOn.1, i_X11_soulOn.2⟩ ⟨by decide, rfl⟩ (congrArg Prod.fst (J.1.1 31 (11, 13) rfl)) rfl (by decide) rfl rfl ⟨by decide, by decide⟩ (jC.of rfl k_X11_soulOn rfl ?_)
      show jX m_X11_soulOn 7 0 0 0 [(0, .ref 31), (1, .int v6), (2, .int a2)] [] _ 0 0 _
      refine x_iloadn (x := a2) rfl rfl ?_
      refine x_inst (N := m_X11_isDay) (As := [.int a2]) (st := []) (dx9 := 1) (mc := 0) (ms := 0) (host := "") rfl t_X11_isDay ⟨Or.inl q_11_115, s_X11_isDay⟩ rfl (by decide) rfl rfl ⟨by decide, by decide⟩ (zc_X11_isDay rfl (fun v7 ev7 => ?_))
      show jX m_X11_soulOn 7 0 0 4 [(0, .ref 31), (1, .int v6), (2, .int a2)] [.int v7] _ 0 0 _
      refine x_ifeq (tgt := 18) rfl rfl (ti_eq rfl jk_0 ⟨fun c8 => ?_, fun c8 => ?_⟩)
      ·
        refine x_iconst (v := (-1)) rfl ki_m1 ?_
        refine x_iret rfl rfl ?_
        show jX m_X11_fee 8 0 0 21 [(0, .ref 31), (1, .int a1), (2, .int a2)] [.int (-1)] _ 0 0 _
        refine x_istoren (lsx9 := [(3, .int (-1)), (0, .ref 31), (1, .int a1), (2, .int a2)]) rfl rfl rfl ?_
        refine x_aloadn (x := 31) rfl rfl ?_
        refine z_getR (N := 13) (b := 98) 11 7 rfl f_11_66 rfl J rfl 3975 ⟨rfl, rfl⟩ rfl ?_
        refine x_aloadn (x := 31) rfl rfl ?_
        refine z_getR (N := 13) (b := 32) 11 0 rfl f_11_10 rfl J rfl 3968 ⟨rfl, rfl⟩ rfl ?_
        refine z_getR (N := 20) (b := 33) 1 0 rfl f_11_126 rfl J rfl 4096 ⟨rfl, rfl⟩ rfl ?_
        refine x_iloadn (x := a1) rfl rfl ?_
        refine x_iconst (v := 1) rfl ki_1 ?_
        refine x_inv (N := m_X8_at) (As := [.int a1, .int 1]) (b := 33) (st := [.ref 98]) (dx9 := 1) (mc := 0) (ms := 0) (host := "") 8 rfl t_X8_at ⟨Or.inl q_11_171, i_X8_at.1, i_X8_at.2⟩ ⟨by decide, rfl⟩ (congrArg Prod.fst (J.1.1 33 (8, 4) rfl)) rfl (by decide) rfl rfl ⟨by decide, by decide⟩ (sf_X8_at_r33_c1  hD J  (fun v10 h ev10 J S9 => ?_))
        have Sm := jSm_tr rfl Sm S9
        show jX m_X11_fee 8 0 0 38 [(3, .int (-1)), (0, .ref 31), (1, .int a1), (2, .int a2)] [.int v10, .ref 98] _ 0 0 _
        refine x_iloadn (x := a2) rfl rfl ?_
        refine x_inv (N := m_X0_turnTo) (As := [.int v10, .int a2]) (b := 98) (st := []) (dx9 := 7) (mc := 0) (ms := 0) (host := "") 0 rfl t_X0_turnTo ⟨Or.inl q_11_345, i_X0_turnTo.1, i_X0_turnTo.2⟩ ⟨by decide, rfl⟩ (congrArg Prod.fst (J.1.1 98 (0, 16) rfl)) rfl (by decide) rfl rfl ⟨by decide, by decide⟩ (jC.of rfl k_X0_turnTo rfl ?_)
        show jX m_X0_turnTo 7 0 0 0 [(0, .ref 98), (1, .int v10), (2, .int a2)] [] _ 0 0 _
        refine x_aloadn (x := 98) rfl rfl ?_
        refine x_iloadn (x := v10) rfl rfl ?_
        refine x_iloadn (x := a2) rfl rfl ?_
        refine x_inv (N := m_X0_readLaws) (As := [.int v10, .int a2]) (b := 98) (st := []) (dx9 := 3) (mc := 0) (ms := 0) (host := "") 0 rfl t_X0_readLaws ⟨Or.inl q_0_65, i_X0_readLaws.1, i_X0_readLaws.2⟩ ⟨by decide, rfl⟩ (congrArg Prod.fst (J.1.1 98 (0, 16) rfl)) rfl (by decide) rfl rfl ⟨by decide, by decide⟩ (sf_X0_readLaws_r98 (jr_of rfl (by omega)) (jr_of rfl (by omega)) hD J  (fun h J S11 => ?_))
        have Sm := jSm_tr rfl Sm S11
        show jX m_X0_turnTo 7 0 0 6 [(0, .ref 98), (1, .int v10), (2, .int a2)] [] _ 0 0 _
        refine x_aloadn (x := 98) rfl rfl ?_
        refine x_iloadn (x := v10) rfl rfl ?_
        refine x_iloadn (x := a2) rfl rfl ?_
        refine x_inv (N := m_X0_readHouses) (As := [.int v10, .int a2]) (b := 98) (st := []) (dx9 := 3) (mc := 0) (ms := 0) (host := "") 0 rfl t_X0_readHouses ⟨Or.inl q_0_69, i_X0_readHouses.1, i_X0_readHouses.2⟩ ⟨by decide, rfl⟩ (congrArg Prod.fst (J.1.1 98 (0, 16) rfl)) rfl (by decide) rfl rfl ⟨by decide, by decide⟩ (sf_X0_readHouses_r98 (jr_of rfl (by omega)) (jr_of rfl (by omega)) hD J  (fun h J S12 => ?_))
        have Sm := jSm_tr rfl Sm S12
        show jX m_X0_turnTo 7 0 0 12 [(0, .ref 98), (1, .int v10), (2, .int a2)] [] _ 0 0 _
        refine x_vret rfl rfl ?_
        show jX m_X11_fee 8 0 0 42 [(3, .int (-1)), (0, .ref 31), (1, .int a1), (2, .int a2)] [] _ 0 0 _
        refine x_aloadn (x := 31) rfl rfl ?_
        refine z_getR (N := 13) (b := 32) 11 0 rfl f_11_10 rfl J rfl 3968 ⟨rfl, rfl⟩ rfl ?_
        refine z_getR (N := 20) (b := 33) 1 0 rfl f_11_126 rfl J rfl 4096 ⟨rfl, rfl⟩ rfl ?_
        refine x_iloadn (x := a1) rfl rfl ?_
        refine x_iconst (v := 2) rfl ki_2 ?_
        refine x_inv (N := m_X8_at) (As := [.int a1, .int 2]) (b := 33) (st := []) (dx9 := 1) (mc := 0) (ms := 0) (host := "") 8 rfl t_X8_at ⟨Or.inl q_11_171, i_X8_at.1, i_X8_at.2⟩ ⟨by decide, rfl⟩ (congrArg Prod.fst (J.1.1 33 (8, 4) rfl)) rfl (by decide) rfl rfl ⟨by decide, by decide⟩ (sf_X8_at_r33_c2  hD J  (fun v14 h ev14 J S13 => ?_))
        have Sm := jSm_tr rfl Sm S13
        show jX m_X11_fee 8 0 0 54 [(3, .int (-1)), (0, .ref 31), (1, .int a1), (2, .int a2)] [.int v14] _ 0 0 _
        by_cases c15 : v14.toInt = 1
        ·
          refine x_lookup (tgt := 94) (off := 40) rfl (by decide) (by rw [show (v14).toInt = 1 from c15]; decide) rfl ?_
          refine x_aloadn (x := 31) rfl rfl ?_
          refine x_iconst (v := 2) rfl ki_2 ?_
          refine x_iloadn (x := (-1)) rfl rfl ?_
          refine x_inv (N := m_X11_feeOf) (As := [.int 2, .int (-1)]) (b := 31) (st := []) (dx9 := 7) (mc := 0) (ms := 0) (host := "") 11 rfl t_X11_feeOf ⟨Or.inl q_11_497, i_X11_feeOf.1, i_X11_feeOf.2⟩ ⟨by decide, rfl⟩ (congrArg Prod.fst (J.1.1 31 (11, 13) rfl)) rfl (by decide) rfl rfl ⟨by decide, by decide⟩ (jC.of rfl k_X11_feeOf rfl ?_)
          show jX m_X11_feeOf 7 0 0 0 [(0, .ref 31), (1, .int 2), (2, .int (-1))] [] _ 0 0 _
          refine x_aloadn (x := 31) rfl rfl ?_
          refine z_getR (N := 13) (b := 98) 11 7 rfl f_11_66 rfl J rfl 3975 ⟨rfl, rfl⟩ rfl ?_
          refine x_bipush (v := 6) rfl kb_6 ?_
          refine x_iloadn (x := 2) rfl rfl ?_
          refine x_iloadn (x := (-1)) rfl rfl ?_
          refine x_inv (N := m_X0_weigh) (As := [.int 6, .int 2, .int (-1)]) (b := 98) (st := []) (dx9 := 6) (mc := 0) (ms := 0) (host := "") 0 rfl t_X0_weigh ⟨Or.inl q_11_359, i_X0_weigh.1, i_X0_weigh.2⟩ ⟨by decide, rfl⟩ (congrArg Prod.fst (J.1.1 98 (0, 16) rfl)) rfl (by decide) rfl rfl ⟨by decide, by decide⟩ (sf_X0_weigh_r98 (jr_of jk_6 (by omega)) (jr_of jk_2 (by omega)) (jr_of jk_m1 (by omega)) hD J  (fun v17 h ev17 J S16 => ?_))
          have Sm := jSm_tr rfl Sm S16
          show jX m_X11_feeOf 7 0 0 11 [(0, .ref 31), (1, .int 2), (2, .int (-1))] [.int v17] _ 0 0 _
          refine x_pop rfl rfl ?_
          refine x_lconst (v := 0) rfl kl_0 ?_
          refine x_aloadn (x := 31) rfl rfl ?_
          refine z_getR (N := 13) (b := 98) 11 7 rfl f_11_66 rfl J rfl 3975 ⟨rfl, rfl⟩ rfl ?_
          refine z_getL0 (N := 16) 0 14 rfl f_11_362 rfl J rfl (fun v18 => ?_)
          have ev18 := jfullL v18
          refine z_lmax rfl q_11_485 (by decide) rfl jkl_0 rfl (fun v19 ev19 => ?_)
          refine x_lret rfl rfl ?_
          show jX m_X11_fee 8 0 0 100 [(3, .int (-1)), (0, .ref 31), (1, .int a1), (2, .int a2)] [.long v19] _ 0 0 _
          refine x_lret rfl rfl ?_
          exact hQ _ _ J Sm
        by_cases c20 : v14.toInt = 2
        ·
          refine x_lookup (tgt := 80) (off := 26) rfl (by decide) (by rw [show (v14).toInt = 2 from c20]; decide) rfl ?_
          refine x_aloadn (x := 31) rfl rfl ?_
          refine x_iconst (v := 0) rfl ki_0 ?_
          refine x_iloadn (x := (-1)) rfl rfl ?_
          refine x_inv (N := m_X11_feeOf) (As := [.int 0, .int (-1)]) (b := 31) (st := []) (dx9 := 7) (mc := 0) (ms := 0) (host := "") 11 rfl t_X11_feeOf ⟨Or.inl q_11_497, i_X11_feeOf.1, i_X11_feeOf.2⟩ ⟨by decide, rfl⟩ (congrArg Prod.fst (J.1.1 31 (11, 13) rfl)) rfl (by decide) rfl rfl ⟨by decide, by decide⟩ (jC.of rfl k_X11_feeOf rfl ?_)
          show jX m_X11_feeOf 7 0 0 0 [(0, .ref 31), (1, .int 0), (2, .int (-1))] [] _ 0 0 _
          refine x_aloadn (x := 31) rfl rfl ?_
          refine z_getR (N := 13) (b := 98) 11 7 rfl f_11_66 rfl J rfl 3975 ⟨rfl, rfl⟩ rfl ?_
          refine x_bipush (v := 6) rfl kb_6 ?_
          refine x_iloadn (x := 0) rfl rfl ?_
          refine x_iloadn (x := (-1)) rfl rfl ?_
          refine x_inv (N := m_X0_weigh) (As := [.int 6, .int 0, .int (-1)]) (b := 98) (st := []) (dx9 := 6) (mc := 0) (ms := 0) (host := "") 0 rfl t_X0_weigh ⟨Or.inl q_11_359, i_X0_weigh.1, i_X0_weigh.2⟩ ⟨by decide, rfl⟩ (congrArg Prod.fst (J.1.1 98 (0, 16) rfl)) rfl (by decide) rfl rfl ⟨by decide, by decide⟩ (sf_X0_weigh_r98 (jr_of jk_6 (by omega)) (jr_of jk_0 (by omega)) (jr_of jk_m1 (by omega)) hD J  (fun v22 h ev22 J S21 => ?_))
          have Sm := jSm_tr rfl Sm S21
          show jX m_X11_feeOf 7 0 0 11 [(0, .ref 31), (1, .int 0), (2, .int (-1))] [.int v22] _ 0 0 _
          refine x_pop rfl rfl ?_
          refine x_lconst (v := 0) rfl kl_0 ?_
          refine x_aloadn (x := 31) rfl rfl ?_
          refine z_getR (N := 13) (b := 98) 11 7 rfl f_11_66 rfl J rfl 3975 ⟨rfl, rfl⟩ rfl ?_
          refine z_getL0 (N := 16) 0 14 rfl f_11_362 rfl J rfl (fun v23 => ?_)
          have ev23 := jfullL v23
          refine z_lmax rfl q_11_485 (by decide) rfl jkl_0 rfl (fun v24 ev24 => ?_)
          refine x_lret rfl rfl ?_
          show jX m_X11_fee 8 0 0 86 [(3, .int (-1)), (0, .ref 31), (1, .int a1), (2, .int a2)] [.long v24] _ 0 0 _
          refine x_aloadn (x := 31) rfl rfl ?_
          refine x_iconst (v := 1) rfl ki_1 ?_
          refine x_iloadn (x := (-1)) rfl rfl ?_
          refine x_inv (N := m_X11_feeOf) (As := [.int 1, .int (-1)]) (b := 31) (st := [.long v24]) (dx9 := 7) (mc := 0) (ms := 0) (host := "") 11 rfl t_X11_feeOf ⟨Or.inl q_11_497, i_X11_feeOf.1, i_X11_feeOf.2⟩ ⟨by decide, rfl⟩ (congrArg Prod.fst (J.1.1 31 (11, 13) rfl)) rfl (by decide) rfl rfl ⟨by decide, by decide⟩ (jC.of rfl k_X11_feeOf rfl ?_)
          show jX m_X11_feeOf 7 0 0 0 [(0, .ref 31), (1, .int 1), (2, .int (-1))] [] _ 0 0 _
          refine x_aloadn (x := 31) rfl rfl ?_
          refine z_getR (N := 13) (b := 98) 11 7 rfl f_11_66 rfl J rfl 3975 ⟨rfl, rfl⟩ rfl ?_
          refine x_bipush (v := 6) rfl kb_6 ?_
          refine x_iloadn (x := 1) rfl rfl ?_
          refine x_iloadn (x := (-1)) rfl rfl ?_
          refine x_inv (N := m_X0_weigh) (As := [.int 6, .int 1, .int (-1)]) (b := 98) (st := []) (dx9 := 6) (mc := 0) (ms := 0) (host := "") 0 rfl t_X0_weigh ⟨Or.inl q_11_359, i_X0_weigh.1, i_X0_weigh.2⟩ ⟨by decide, rfl⟩ (congrArg Prod.fst (J.1.1 98 (0, 16) rfl)) rfl (by decide) rfl rfl ⟨by decide, by decide⟩ (sf_X0_weigh_r98 (jr_of jk_6 (by omega)) (jr_of jk_1 (by omega)) (jr_of jk_m1 (by omega)) hD J  (fun v26 h ev26 J S25 => ?_))
          have Sm := jSm_tr rfl Sm S25
          show jX m_X11_feeOf 7 0 0 11 [(0, .ref 31), (1, .int 1), (2, .int (-1))] [.int v26] _ 0 0 _
          refine x_pop rfl rfl ?_
          refine x_lconst (v := 0) rfl kl_0 ?_
          refine x_aloadn (x := 31) rfl rfl ?_
          refine z_getR (N := 13) (b := 98) 11 7 rfl f_11_66 rfl J rfl 3975 ⟨rfl, rfl⟩ rfl ?_
          refine z_getL0 (N := 16) 0 14 rfl f_11_362 rfl J rfl (fun v27 => ?_)
          have ev27 := jfullL v27
          refine z_lmax rfl q_11_485 (by decide) rfl jkl_0 rfl (fun v28 ev28 => ?_)
          refine x_lret rfl rfl ?_
          show jX m_X11_fee 8 0 0 92 [(3, .int (-1)), (0, .ref 31), (1, .int a1), (2, .int a2)] [.long v28, .long v24] _ 0 0 _
          refine z_ladd0 rfl (fun v29 => ?_)
          have ev29 := jfullL v29
          refine x_lret rfl rfl ?_
          exact hQ _ _ J Sm
        refine x_lookup (tgt := 101) (off := 47) rfl (by decide) (by simp [Op.lookupswitch.offset]; omega) rfl ?_
        refine x_lconst (v := 0) rfl kl_0 ?_
        refine x_lret rfl rfl ?_
        exact hQ _ _ J Sm
      ·
        refine x_aloadn (x := 31) rfl rfl ?_
        refine z_getR (N := 13) (b := 78) 11 4 rfl f_11_41 rfl J rfl 3972 ⟨rfl, rfl⟩ rfl ?_
        refine x_iloadn (x := v6) rfl rfl ?_
        refine x_inv (N := m_X7_isMention) (As := [.int v6]) (b := 78) (st := []) (dx9 := 6) (mc := 0) (ms := 0) (host := "") 7 rfl t_X7_isMention ⟨Or.inl q_11_187, i_X7_isMention.1, i_X7_isMention.2⟩ ⟨by decide, rfl⟩ (congrArg Prod.fst (J.1.1 78 (7, 16) rfl)) rfl (by decide) rfl rfl ⟨by decide, by decide⟩ (jC.of rfl k_X7_isMention rfl ?_)
        show jX m_X7_isMention 6 0 0 0 [(0, .ref 78), (1, .int v6)] [] _ 0 0 _
        refine x_iloadn (x := v6) rfl rfl ?_
        refine x_iflt (tgt := 41) rfl rfl (ti_lt rfl jk_0 ⟨fun c30 => ?_, fun c30 => ?_⟩)
        ·
          refine x_iconst (v := 0) rfl ki_0 ?_
          refine x_zret rfl rfl (by decide) ?_
          show jX m_X11_soulOn 7 0 0 15 [(0, .ref 31), (1, .int v6), (2, .int a2)] [.int 0] _ 0 0 _
          refine x_ifne (tgt := 20) rfl rfl (ti_ne jk_0 jk_0 (bn_f (by omega) ?_))
          refine x_iconst (v := (-1)) rfl ki_m1 ?_
          refine x_iret rfl rfl ?_
          show jX m_X11_fee 8 0 0 21 [(0, .ref 31), (1, .int a1), (2, .int a2)] [.int (-1)] _ 0 0 _
          refine x_istoren (lsx9 := [(3, .int (-1)), (0, .ref 31), (1, .int a1), (2, .int a2)]) rfl rfl rfl ?_
          refine x_aloadn (x := 31) rfl rfl ?_
          refine z_getR (N := 13) (b := 98) 11 7 rfl f_11_66 rfl J rfl 3975 ⟨rfl, rfl⟩ rfl ?_
          refine x_aloadn (x := 31) rfl rfl ?_
          refine z_getR (N := 13) (b := 32) 11 0 rfl f_11_10 rfl J rfl 3968 ⟨rfl, rfl⟩ rfl ?_
          refine z_getR (N := 20) (b := 33) 1 0 rfl f_11_126 rfl J rfl 4096 ⟨rfl, rfl⟩ rfl ?_
          refine x_iloadn (x := a1) rfl rfl ?_
          refine x_iconst (v := 1) rfl ki_1 ?_
          refine x_inv (N := m_X8_at) (As := [.int a1, .int 1]) (b := 33) (st := [.ref 98]) (dx9 := 1) (mc := 0) (ms := 0) (host := "") 8 rfl t_X8_at ⟨Or.inl q_11_171, i_X8_at.1, i_X8_at.2⟩ ⟨by decide, rfl⟩ (congrArg Prod.fst (J.1.1 33 (8, 4) rfl)) rfl (by decide) rfl rfl ⟨by decide, by decide⟩ (sf_X8_at_r33_c1  hD J  (fun v32 h ev32 J S31 => ?_))
          have Sm := jSm_tr rfl Sm S31
          show jX m_X11_fee 8 0 0 38 [(3, .int (-1)), (0, .ref 31), (1, .int a1), (2, .int a2)] [.int v32, .ref 98] _ 0 0 _
          refine x_iloadn (x := a2) rfl rfl ?_
          refine x_inv (N := m_X0_turnTo) (As := [.int v32, .int a2]) (b := 98) (st := []) (dx9 := 7) (mc := 0) (ms := 0) (host := "") 0 rfl t_X0_turnTo ⟨Or.inl q_11_345, i_X0_turnTo.1, i_X0_turnTo.2⟩ ⟨by decide, rfl⟩ (congrArg Prod.fst (J.1.1 98 (0, 16) rfl)) rfl (by decide) rfl rfl ⟨by decide, by decide⟩ (jC.of rfl k_X0_turnTo rfl ?_)
          show jX m_X0_turnTo 7 0 0 0 [(0, .ref 98), (1, .int v32), (2, .int a2)] [] _ 0 0 _
          refine x_aloadn (x := 98) rfl rfl ?_
          refine x_iloadn (x := v32) rfl rfl ?_
          refine x_iloadn (x := a2) rfl rfl ?_
          refine x_inv (N := m_X0_readLaws) (As := [.int v32, .int a2]) (b := 98) (st := []) (dx9 := 3) (mc := 0) (ms := 0) (host := "") 0 rfl t_X0_readLaws ⟨Or.inl q_0_65, i_X0_readLaws.1, i_X0_readLaws.2⟩ ⟨by decide, rfl⟩ (congrArg Prod.fst (J.1.1 98 (0, 16) rfl)) rfl (by decide) rfl rfl ⟨by decide, by decide⟩ (sf_X0_readLaws_r98 (jr_of rfl (by omega)) (jr_of rfl (by omega)) hD J  (fun h J S33 => ?_))
          have Sm := jSm_tr rfl Sm S33
          show jX m_X0_turnTo 7 0 0 6 [(0, .ref 98), (1, .int v32), (2, .int a2)] [] _ 0 0 _
          refine x_aloadn (x := 98) rfl rfl ?_
          refine x_iloadn (x := v32) rfl rfl ?_
          refine x_iloadn (x := a2) rfl rfl ?_
          refine x_inv (N := m_X0_readHouses) (As := [.int v32, .int a2]) (b := 98) (st := []) (dx9 := 3) (mc := 0) (ms := 0) (host := "") 0 rfl t_X0_readHouses ⟨Or.inl q_0_69, i_X0_readHouses.1, i_X0_readHouses.2⟩ ⟨by decide, rfl⟩ (congrArg Prod.fst (J.1.1 98 (0, 16) rfl)) rfl (by decide) rfl rfl ⟨by decide, by decide⟩ (sf_X0_readHouses_r98 (jr_of rfl (by omega)) (jr_of rfl (by omega)) hD J  (fun h J S34 => ?_))
          have Sm := jSm_tr rfl Sm S34
          show jX m_X0_turnTo 7 0 0 12 [(0, .ref 98), (1, .int v32), (2, .int a2)] [] _ 0 0 _
          refine x_vret rfl rfl ?_
          show jX m_X11_fee 8 0 0 42 [(3, .int (-1)), (0, .ref 31), (1, .int a1), (2, .int a2)] [] _ 0 0 _
          refine x_aloadn (x := 31) rfl rfl ?_
          refine z_getR (N := 13) (b := 32) 11 0 rfl f_11_10 rfl J rfl 3968 ⟨rfl, rfl⟩ rfl ?_
          refine z_getR (N := 20) (b := 33) 1 0 rfl f_11_126 rfl J rfl 4096 ⟨rfl, rfl⟩ rfl ?_
          refine x_iloadn (x := a1) rfl rfl ?_
          refine x_iconst (v := 2) rfl ki_2 ?_
          refine x_inv (N := m_X8_at) (As := [.int a1, .int 2]) (b := 33) (st := []) (dx9 := 1) (mc := 0) (ms := 0) (host := "") 8 rfl t_X8_at ⟨Or.inl q_11_171, i_X8_at.1, i_X8_at.2⟩ ⟨by decide, rfl⟩ (congrArg Prod.fst (J.1.1 33 (8, 4) rfl)) rfl (by decide) rfl rfl ⟨by decide, by decide⟩ (sf_X8_at_r33_c2  hD J  (fun v36 h ev36 J S35 => ?_))
          have Sm := jSm_tr rfl Sm S35
          show jX m_X11_fee 8 0 0 54 [(3, .int (-1)), (0, .ref 31), (1, .int a1), (2, .int a2)] [.int v36] _ 0 0 _
          by_cases c37 : v36.toInt = 1
          ·
            refine x_lookup (tgt := 94) (off := 40) rfl (by decide) (by rw [show (v36).toInt = 1 from c37]; decide) rfl ?_
            refine x_aloadn (x := 31) rfl rfl ?_
            refine x_iconst (v := 2) rfl ki_2 ?_
            refine x_iloadn (x := (-1)) rfl rfl ?_
            refine x_inv (N := m_X11_feeOf) (As := [.int 2, .int (-1)]) (b := 31) (st := []) (dx9 := 7) (mc := 0) (ms := 0) (host := "") 11 rfl t_X11_feeOf ⟨Or.inl q_11_497, i_X11_feeOf.1, i_X11_feeOf.2⟩ ⟨by decide, rfl⟩ (congrArg Prod.fst (J.1.1 31 (11, 13) rfl)) rfl (by decide) rfl rfl ⟨by decide, by decide⟩ (jC.of rfl k_X11_feeOf rfl ?_)
            show jX m_X11_feeOf 7 0 0 0 [(0, .ref 31), (1, .int 2), (2, .int (-1))] [] _ 0 0 _
            refine x_aloadn (x := 31) rfl rfl ?_
            refine z_getR (N := 13) (b := 98) 11 7 rfl f_11_66 rfl J rfl 3975 ⟨rfl, rfl⟩ rfl ?_
            refine x_bipush (v := 6) rfl kb_6 ?_
            refine x_iloadn (x := 2) rfl rfl ?_
            refine x_iloadn (x := (-1)) rfl rfl ?_
            refine x_inv (N := m_X0_weigh) (As := [.int 6, .int 2, .int (-1)]) (b := 98) (st := []) (dx9 := 6) (mc := 0) (ms := 0) (host := "") 0 rfl t_X0_weigh ⟨Or.inl q_11_359, i_X0_weigh.1, i_X0_weigh.2⟩ ⟨by decide, rfl⟩ (congrArg Prod.fst (J.1.1 98 (0, 16) rfl)) rfl (by decide) rfl rfl ⟨by decide, by decide⟩ (sf_X0_weigh_r98 (jr_of jk_6 (by omega)) (jr_of jk_2 (by omega)) (jr_of jk_m1 (by omega)) hD J  (fun v39 h ev39 J S38 => ?_))
            have Sm := jSm_tr rfl Sm S38
            show jX m_X11_feeOf 7 0 0 11 [(0, .ref 31), (1, .int 2), (2, .int (-1))] [.int v39] _ 0 0 _
            refine x_pop rfl rfl ?_
            refine x_lconst (v := 0) rfl kl_0 ?_
            refine x_aloadn (x := 31) rfl rfl ?_
            refine z_getR (N := 13) (b := 98) 11 7 rfl f_11_66 rfl J rfl 3975 ⟨rfl, rfl⟩ rfl ?_
            refine z_getL0 (N := 16) 0 14 rfl f_11_362 rfl J rfl (fun v40 => ?_)
            have ev40 := jfullL v40
            refine z_lmax rfl q_11_485 (by decide) rfl jkl_0 rfl (fun v41 ev41 => ?_)
            refine x_lret rfl rfl ?_
            show jX m_X11_fee 8 0 0 100 [(3, .int (-1)), (0, .ref 31), (1, .int a1), (2, .int a2)] [.long v41] _ 0 0 _
            refine x_lret rfl rfl ?_
            exact hQ _ _ J Sm
          by_cases c42 : v36.toInt = 2
          ·
            refine x_lookup (tgt := 80) (off := 26) rfl (by decide) (by rw [show (v36).toInt = 2 from c42]; decide) rfl ?_
            refine x_aloadn (x := 31) rfl rfl ?_
            refine x_iconst (v := 0) rfl ki_0 ?_
            refine x_iloadn (x := (-1)) rfl rfl ?_
            refine x_inv (N := m_X11_feeOf) (As := [.int 0, .int (-1)]) (b := 31) (st := []) (dx9 := 7) (mc := 0) (ms := 0) (host := "") 11 rfl t_X11_feeOf ⟨Or.inl q_11_497, i_X11_feeOf.1, i_X11_feeOf.2⟩ ⟨by decide, rfl⟩ (congrArg Prod.fst (J.1.1 31 (11, 13) rfl)) rfl (by decide) rfl rfl ⟨by decide, by decide⟩ (jC.of rfl k_X11_feeOf rfl ?_)
            show jX m_X11_feeOf 7 0 0 0 [(0, .ref 31), (1, .int 0), (2, .int (-1))] [] _ 0 0 _
            refine x_aloadn (x := 31) rfl rfl ?_
            refine z_getR (N := 13) (b := 98) 11 7 rfl f_11_66 rfl J rfl 3975 ⟨rfl, rfl⟩ rfl ?_
            refine x_bipush (v := 6) rfl kb_6 ?_
            refine x_iloadn (x := 0) rfl rfl ?_
            refine x_iloadn (x := (-1)) rfl rfl ?_
            refine x_inv (N := m_X0_weigh) (As := [.int 6, .int 0, .int (-1)]) (b := 98) (st := []) (dx9 := 6) (mc := 0) (ms := 0) (host := "") 0 rfl t_X0_weigh ⟨Or.inl q_11_359, i_X0_weigh.1, i_X0_weigh.2⟩ ⟨by decide, rfl⟩ (congrArg Prod.fst (J.1.1 98 (0, 16) rfl)) rfl (by decide) rfl rfl ⟨by decide, by decide⟩ (sf_X0_weigh_r98 (jr_of jk_6 (by omega)) (jr_of jk_0 (by omega)) (jr_of jk_m1 (by omega)) hD J  (fun v44 h ev44 J S43 => ?_))
            have Sm := jSm_tr rfl Sm S43
            show jX m_X11_feeOf 7 0 0 11 [(0, .ref 31), (1, .int 0), (2, .int (-1))] [.int v44] _ 0 0 _
            refine x_pop rfl rfl ?_
            refine x_lconst (v := 0) rfl kl_0 ?_
            refine x_aloadn (x := 31) rfl rfl ?_
            refine z_getR (N := 13) (b := 98) 11 7 rfl f_11_66 rfl J rfl 3975 ⟨rfl, rfl⟩ rfl ?_
            refine z_getL0 (N := 16) 0 14 rfl f_11_362 rfl J rfl (fun v45 => ?_)
            have ev45 := jfullL v45
            refine z_lmax rfl q_11_485 (by decide) rfl jkl_0 rfl (fun v46 ev46 => ?_)
            refine x_lret rfl rfl ?_
            show jX m_X11_fee 8 0 0 86 [(3, .int (-1)), (0, .ref 31), (1, .int a1), (2, .int a2)] [.long v46] _ 0 0 _
            refine x_aloadn (x := 31) rfl rfl ?_
            refine x_iconst (v := 1) rfl ki_1 ?_
            refine x_iloadn (x := (-1)) rfl rfl ?_
            refine x_inv (N := m_X11_feeOf) (As := [.int 1, .int (-1)]) (b := 31) (st := [.long v46]) (dx9 := 7) (mc := 0) (ms := 0) (host := "") 11 rfl t_X11_feeOf ⟨Or.inl q_11_497, i_X11_feeOf.1, i_X11_feeOf.2⟩ ⟨by decide, rfl⟩ (congrArg Prod.fst (J.1.1 31 (11, 13) rfl)) rfl (by decide) rfl rfl ⟨by decide, by decide⟩ (jC.of rfl k_X11_feeOf rfl ?_)
            show jX m_X11_feeOf 7 0 0 0 [(0, .ref 31), (1, .int 1), (2, .int (-1))] [] _ 0 0 _
            refine x_aloadn (x := 31) rfl rfl ?_
            refine z_getR (N := 13) (b := 98) 11 7 rfl f_11_66 rfl J rfl 3975 ⟨rfl, rfl⟩ rfl ?_
            refine x_bipush (v := 6) rfl kb_6 ?_
            refine x_iloadn (x := 1) rfl rfl ?_
            refine x_iloadn (x := (-1)) rfl rfl ?_
            refine x_inv (N := m_X0_weigh) (As := [.int 6, .int 1, .int (-1)]) (b := 98) (st := []) (dx9 := 6) (mc := 0) (ms := 0) (host := "") 0 rfl t_X0_weigh ⟨Or.inl q_11_359, i_X0_weigh.1, i_X0_weigh.2⟩ ⟨by decide, rfl⟩ (congrArg Prod.fst (J.1.1 98 (0, 16) rfl)) rfl (by decide) rfl rfl ⟨by decide, by decide⟩ (sf_X0_weigh_r98 (jr_of jk_6 (by omega)) (jr_of jk_1 (by omega)) (jr_of jk_m1 (by omega)) hD J  (fun v48 h ev48 J S47 => ?_))
            have Sm := jSm_tr rfl Sm S47
            show jX m_X11_feeOf 7 0 0 11 [(0, .ref 31), (1, .int 1), (2, .int (-1))] [.int v48] _ 0 0 _
            refine x_pop rfl rfl ?_
            refine x_lconst (v := 0) rfl kl_0 ?_
            refine x_aloadn (x := 31) rfl rfl ?_
            refine z_getR (N := 13) (b := 98) 11 7 rfl f_11_66 rfl J rfl 3975 ⟨rfl, rfl⟩ rfl ?_
            refine z_getL0 (N := 16) 0 14 rfl f_11_362 rfl J rfl (fun v49 => ?_)
            have ev49 := jfullL v49
            refine z_lmax rfl q_11_485 (by decide) rfl jkl_0 rfl (fun v50 ev50 => ?_)
            refine x_lret rfl rfl ?_
            show jX m_X11_fee 8 0 0 92 [(3, .int (-1)), (0, .ref 31), (1, .int a1), (2, .int a2)] [.long v50, .long v46] _ 0 0 _
            refine z_ladd0 rfl (fun v51 => ?_)
            have ev51 := jfullL v51
            refine x_lret rfl rfl ?_
            exact hQ _ _ J Sm
          refine x_lookup (tgt := 101) (off := 47) rfl (by decide) (by simp [Op.lookupswitch.offset]; omega) rfl ?_
          refine x_lconst (v := 0) rfl kl_0 ?_
          refine x_lret rfl rfl ?_
          exact hQ _ _ J Sm
        ·
          refine x_iloadn (x := v6) rfl rfl ?_
          refine x_sipush (v := 600) rfl ks_600 ?_
          refine x_icge (tgt := 41) rfl rfl (ti_ge rfl jk_600 ⟨fun c52 => ?_, fun c52 => ?_⟩)
          ·
            refine x_iconst (v := 0) rfl ki_0 ?_
            refine x_zret rfl rfl (by decide) ?_
            show jX m_X11_soulOn 7 0 0 15 [(0, .ref 31), (1, .int v6), (2, .int a2)] [.int 0] _ 0 0 _
            refine x_ifne (tgt := 20) rfl rfl (ti_ne jk_0 jk_0 (bn_f (by omega) ?_))
            refine x_iconst (v := (-1)) rfl ki_m1 ?_
            refine x_iret rfl rfl ?_
            show jX m_X11_fee 8 0 0 21 [(0, .ref 31), (1, .int a1), (2, .int a2)] [.int (-1)] _ 0 0 _
            refine x_istoren (lsx9 := [(3, .int (-1)), (0, .ref 31), (1, .int a1), (2, .int a2)]) rfl rfl rfl ?_
            refine x_aloadn (x := 31) rfl rfl ?_
            refine z_getR (N := 13) (b := 98) 11 7 rfl f_11_66 rfl J rfl 3975 ⟨rfl, rfl⟩ rfl ?_
            refine x_aloadn (x := 31) rfl rfl ?_
            refine z_getR (N := 13) (b := 32) 11 0 rfl f_11_10 rfl J rfl 3968 ⟨rfl, rfl⟩ rfl ?_
            refine z_getR (N := 20) (b := 33) 1 0 rfl f_11_126 rfl J rfl 4096 ⟨rfl, rfl⟩ rfl ?_
            refine x_iloadn (x := a1) rfl rfl ?_
            refine x_iconst (v := 1) rfl ki_1 ?_
            refine x_inv (N := m_X8_at) (As := [.int a1, .int 1]) (b := 33) (st := [.ref 98]) (dx9 := 1) (mc := 0) (ms := 0) (host := "") 8 rfl t_X8_at ⟨Or.inl q_11_171, i_X8_at.1, i_X8_at.2⟩ ⟨by decide, rfl⟩ (congrArg Prod.fst (J.1.1 33 (8, 4) rfl)) rfl (by decide) rfl rfl ⟨by decide, by decide⟩ (sf_X8_at_r33_c1  hD J  (fun v54 h ev54 J S53 => ?_))
            have Sm := jSm_tr rfl Sm S53
            show jX m_X11_fee 8 0 0 38 [(3, .int (-1)), (0, .ref 31), (1, .int a1), (2, .int a2)] [.int v54, .ref 98] _ 0 0 _
            refine x_iloadn (x := a2) rfl rfl ?_
            refine x_inv (N := m_X0_turnTo) (As := [.int v54, .int a2]) (b := 98) (st := []) (dx9 := 7) (mc := 0) (ms := 0) (host := "") 0 rfl t_X0_turnTo ⟨Or.inl q_11_345, i_X0_turnTo.1, i_X0_turnTo.2⟩ ⟨by decide, rfl⟩ (congrArg Prod.fst (J.1.1 98 (0, 16) rfl)) rfl (by decide) rfl rfl ⟨by decide, by decide⟩ (jC.of rfl k_X0_turnTo rfl ?_)
            show jX m_X0_turnTo 7 0 0 0 [(0, .ref 98), (1, .int v54), (2, .int a2)] [] _ 0 0 _
            refine x_aloadn (x := 98) rfl rfl ?_
            refine x_iloadn (x := v54) rfl rfl ?_
            refine x_iloadn (x := a2) rfl rfl ?_
            refine x_inv (N := m_X0_readLaws) (As := [.int v54, .int a2]) (b := 98) (st := []) (dx9 := 3) (mc := 0) (ms := 0) (host := "") 0 rfl t_X0_readLaws ⟨Or.inl q_0_65, i_X0_readLaws.1, i_X0_readLaws.2⟩ ⟨by decide, rfl⟩ (congrArg Prod.fst (J.1.1 98 (0, 16) rfl)) rfl (by decide) rfl rfl ⟨by decide, by decide⟩ (sf_X0_readLaws_r98 (jr_of rfl (by omega)) (jr_of rfl (by omega)) hD J  (fun h J S55 => ?_))
            have Sm := jSm_tr rfl Sm S55
            show jX m_X0_turnTo 7 0 0 6 [(0, .ref 98), (1, .int v54), (2, .int a2)] [] _ 0 0 _
            refine x_aloadn (x := 98) rfl rfl ?_
            refine x_iloadn (x := v54) rfl rfl ?_
            refine x_iloadn (x := a2) rfl rfl ?_
            refine x_inv (N := m_X0_readHouses) (As := [.int v54, .int a2]) (b := 98) (st := []) (dx9 := 3) (mc := 0) (ms := 0) (host := "") 0 rfl t_X0_readHouses ⟨Or.inl q_0_69, i_X0_readHouses.1, i_X0_readHouses.2⟩ ⟨by decide, rfl⟩ (congrArg Prod.fst (J.1.1 98 (0, 16) rfl)) rfl (by decide) rfl rfl ⟨by decide, by decide⟩ (sf_X0_readHouses_r98 (jr_of rfl (by omega)) (jr_of rfl (by omega)) hD J  (fun h J S56 => ?_))
            have Sm := jSm_tr rfl Sm S56
            show jX m_X0_turnTo 7 0 0 12 [(0, .ref 98), (1, .int v54), (2, .int a2)] [] _ 0 0 _
            refine x_vret rfl rfl ?_
            show jX m_X11_fee 8 0 0 42 [(3, .int (-1)), (0, .ref 31), (1, .int a1), (2, .int a2)] [] _ 0 0 _
            refine x_aloadn (x := 31) rfl rfl ?_
            refine z_getR (N := 13) (b := 32) 11 0 rfl f_11_10 rfl J rfl 3968 ⟨rfl, rfl⟩ rfl ?_
            refine z_getR (N := 20) (b := 33) 1 0 rfl f_11_126 rfl J rfl 4096 ⟨rfl, rfl⟩ rfl ?_
            refine x_iloadn (x := a1) rfl rfl ?_
            refine x_iconst (v := 2) rfl ki_2 ?_
            refine x_inv (N := m_X8_at) (As := [.int a1, .int 2]) (b := 33) (st := []) (dx9 := 1) (mc := 0) (ms := 0) (host := "") 8 rfl t_X8_at ⟨Or.inl q_11_171, i_X8_at.1, i_X8_at.2⟩ ⟨by decide, rfl⟩ (congrArg Prod.fst (J.1.1 33 (8, 4) rfl)) rfl (by decide) rfl rfl ⟨by decide, by decide⟩ (sf_X8_at_r33_c2  hD J  (fun v58 h ev58 J S57 => ?_))
            have Sm := jSm_tr rfl Sm S57
            show jX m_X11_fee 8 0 0 54 [(3, .int (-1)), (0, .ref 31), (1, .int a1), (2, .int a2)] [.int v58] _ 0 0 _
            by_cases c59 : v58.toInt = 1
            ·
              refine x_lookup (tgt := 94) (off := 40) rfl (by decide) (by rw [show (v58).toInt = 1 from c59]; decide) rfl ?_
              refine x_aloadn (x := 31) rfl rfl ?_
              refine x_iconst (v := 2) rfl ki_2 ?_
              refine x_iloadn (x := (-1)) rfl rfl ?_
              refine x_inv (N := m_X11_feeOf) (As := [.int 2, .int (-1)]) (b := 31) (st := []) (dx9 := 7) (mc := 0) (ms := 0) (host := "") 11 rfl t_X11_feeOf ⟨Or.inl q_11_497, i_X11_feeOf.1, i_X11_feeOf.2⟩ ⟨by decide, rfl⟩ (congrArg Prod.fst (J.1.1 31 (11, 13) rfl)) rfl (by decide) rfl rfl ⟨by decide, by decide⟩ (jC.of rfl k_X11_feeOf rfl ?_)
              show jX m_X11_feeOf 7 0 0 0 [(0, .ref 31), (1, .int 2), (2, .int (-1))] [] _ 0 0 _
              refine x_aloadn (x := 31) rfl rfl ?_
              refine z_getR (N := 13) (b := 98) 11 7 rfl f_11_66 rfl J rfl 3975 ⟨rfl, rfl⟩ rfl ?_
              refine x_bipush (v := 6) rfl kb_6 ?_
              refine x_iloadn (x := 2) rfl rfl ?_
              refine x_iloadn (x := (-1)) rfl rfl ?_
              refine x_inv (N := m_X0_weigh) (As := [.int 6, .int 2, .int (-1)]) (b := 98) (st := []) (dx9 := 6) (mc := 0) (ms := 0) (host := "") 0 rfl t_X0_weigh ⟨Or.inl q_11_359, i_X0_weigh.1, i_X0_weigh.2⟩ ⟨by decide, rfl⟩ (congrArg Prod.fst (J.1.1 98 (0, 16) rfl)) rfl (by decide) rfl rfl ⟨by decide, by decide⟩ (sf_X0_weigh_r98 (jr_of jk_6 (by omega)) (jr_of jk_2 (by omega)) (jr_of jk_m1 (by omega)) hD J  (fun v61 h ev61 J S60 => ?_))
              have Sm := jSm_tr rfl Sm S60
              show jX m_X11_feeOf 7 0 0 11 [(0, .ref 31), (1, .int 2), (2, .int (-1))] [.int v61] _ 0 0 _
              refine x_pop rfl rfl ?_
              refine x_lconst (v := 0) rfl kl_0 ?_
              refine x_aloadn (x := 31) rfl rfl ?_
              refine z_getR (N := 13) (b := 98) 11 7 rfl f_11_66 rfl J rfl 3975 ⟨rfl, rfl⟩ rfl ?_
              refine z_getL0 (N := 16) 0 14 rfl f_11_362 rfl J rfl (fun v62 => ?_)
              have ev62 := jfullL v62
              refine z_lmax rfl q_11_485 (by decide) rfl jkl_0 rfl (fun v63 ev63 => ?_)
              refine x_lret rfl rfl ?_
              show jX m_X11_fee 8 0 0 100 [(3, .int (-1)), (0, .ref 31), (1, .int a1), (2, .int a2)] [.long v63] _ 0 0 _
              refine x_lret rfl rfl ?_
              exact hQ _ _ J Sm
            by_cases c64 : v58.toInt = 2
            ·
              refine x_lookup (tgt := 80) (off := 26) rfl (by decide) (by rw [show (v58).toInt = 2 from c64]; decide) rfl ?_
              refine x_aloadn (x := 31) rfl rfl ?_
              refine x_iconst (v := 0) rfl ki_0 ?_
              refine x_iloadn (x := (-1)) rfl rfl ?_
              refine x_inv (N := m_X11_feeOf) (As := [.int 0, .int (-1)]) (b := 31) (st := []) (dx9 := 7) (mc := 0) (ms := 0) (host := "") 11 rfl t_X11_feeOf ⟨Or.inl q_11_497, i_X11_feeOf.1, i_X11_feeOf.2⟩ ⟨by decide, rfl⟩ (congrArg Prod.fst (J.1.1 31 (11, 13) rfl)) rfl (by decide) rfl rfl ⟨by decide, by decide⟩ (jC.of rfl k_X11_feeOf rfl ?_)
              show jX m_X11_feeOf 7 0 0 0 [(0, .ref 31), (1, .int 0), (2, .int (-1))] [] _ 0 0 _
              refine x_aloadn (x := 31) rfl rfl ?_
              refine z_getR (N := 13) (b := 98) 11 7 rfl f_11_66 rfl J rfl 3975 ⟨rfl, rfl⟩ rfl ?_
              refine x_bipush (v := 6) rfl kb_6 ?_
              refine x_iloadn (x := 0) rfl rfl ?_
              refine x_iloadn (x := (-1)) rfl rfl ?_
              refine x_inv (N := m_X0_weigh) (As := [.int 6, .int 0, .int (-1)]) (b := 98) (st := []) (dx9 := 6) (mc := 0) (ms := 0) (host := "") 0 rfl t_X0_weigh ⟨Or.inl q_11_359, i_X0_weigh.1, i_X0_weigh.2⟩ ⟨by decide, rfl⟩ (congrArg Prod.fst (J.1.1 98 (0, 16) rfl)) rfl (by decide) rfl rfl ⟨by decide, by decide⟩ (sf_X0_weigh_r98 (jr_of jk_6 (by omega)) (jr_of jk_0 (by omega)) (jr_of jk_m1 (by omega)) hD J  (fun v66 h ev66 J S65 => ?_))
              have Sm := jSm_tr rfl Sm S65
              show jX m_X11_feeOf 7 0 0 11 [(0, .ref 31), (1, .int 0), (2, .int (-1))] [.int v66] _ 0 0 _
              refine x_pop rfl rfl ?_
              refine x_lconst (v := 0) rfl kl_0 ?_
              refine x_aloadn (x := 31) rfl rfl ?_
              refine z_getR (N := 13) (b := 98) 11 7 rfl f_11_66 rfl J rfl 3975 ⟨rfl, rfl⟩ rfl ?_
              refine z_getL0 (N := 16) 0 14 rfl f_11_362 rfl J rfl (fun v67 => ?_)
              have ev67 := jfullL v67
              refine z_lmax rfl q_11_485 (by decide) rfl jkl_0 rfl (fun v68 ev68 => ?_)
              refine x_lret rfl rfl ?_
              show jX m_X11_fee 8 0 0 86 [(3, .int (-1)), (0, .ref 31), (1, .int a1), (2, .int a2)] [.long v68] _ 0 0 _
              refine x_aloadn (x := 31) rfl rfl ?_
              refine x_iconst (v := 1) rfl ki_1 ?_
              refine x_iloadn (x := (-1)) rfl rfl ?_
              refine x_inv (N := m_X11_feeOf) (As := [.int 1, .int (-1)]) (b := 31) (st := [.long v68]) (dx9 := 7) (mc := 0) (ms := 0) (host := "") 11 rfl t_X11_feeOf ⟨Or.inl q_11_497, i_X11_feeOf.1, i_X11_feeOf.2⟩ ⟨by decide, rfl⟩ (congrArg Prod.fst (J.1.1 31 (11, 13) rfl)) rfl (by decide) rfl rfl ⟨by decide, by decide⟩ (jC.of rfl k_X11_feeOf rfl ?_)
              show jX m_X11_feeOf 7 0 0 0 [(0, .ref 31), (1, .int 1), (2, .int (-1))] [] _ 0 0 _
              refine x_aloadn (x := 31) rfl rfl ?_
              refine z_getR (N := 13) (b := 98) 11 7 rfl f_11_66 rfl J rfl 3975 ⟨rfl, rfl⟩ rfl ?_
              refine x_bipush (v := 6) rfl kb_6 ?_
              refine x_iloadn (x := 1) rfl rfl ?_
              refine x_iloadn (x := (-1)) rfl rfl ?_
              refine x_inv (N := m_X0_weigh) (As := [.int 6, .int 1, .int (-1)]) (b := 98) (st := []) (dx9 := 6) (mc := 0) (ms := 0) (host := "") 0 rfl t_X0_weigh ⟨Or.inl q_11_359, i_X0_weigh.1, i_X0_weigh.2⟩ ⟨by decide, rfl⟩ (congrArg Prod.fst (J.1.1 98 (0, 16) rfl)) rfl (by decide) rfl rfl ⟨by decide, by decide⟩ (sf_X0_weigh_r98 (jr_of jk_6 (by omega)) (jr_of jk_1 (by omega)) (jr_of jk_m1 (by omega)) hD J  (fun v70 h ev70 J S69 => ?_))
              have Sm := jSm_tr rfl Sm S69
              show jX m_X11_feeOf 7 0 0 11 [(0, .ref 31), (1, .int 1), (2, .int (-1))] [.int v70] _ 0 0 _
              refine x_pop rfl rfl ?_
              refine x_lconst (v := 0) rfl kl_0 ?_
              refine x_aloadn (x := 31) rfl rfl ?_
              refine z_getR (N := 13) (b := 98) 11 7 rfl f_11_66 rfl J rfl 3975 ⟨rfl, rfl⟩ rfl ?_
              refine z_getL0 (N := 16) 0 14 rfl f_11_362 rfl J rfl (fun v71 => ?_)
              have ev71 := jfullL v71
              refine z_lmax rfl q_11_485 (by decide) rfl jkl_0 rfl (fun v72 ev72 => ?_)
              refine x_lret rfl rfl ?_
              show jX m_X11_fee 8 0 0 92 [(3, .int (-1)), (0, .ref 31), (1, .int a1), (2, .int a2)] [.long v72, .long v68] _ 0 0 _
              refine z_ladd0 rfl (fun v73 => ?_)
              have ev73 := jfullL v73
              refine x_lret rfl rfl ?_
              exact hQ _ _ J Sm
            refine x_lookup (tgt := 101) (off := 47) rfl (by decide) (by simp [Op.lookupswitch.offset]; omega) rfl ?_
            refine x_lconst (v := 0) rfl kl_0 ?_
            refine x_lret rfl rfl ?_
            exact hQ _ _ J Sm
          ·
            refine x_iloadn (x := v6) rfl rfl ?_
            refine x_iconst (v := 3) rfl ki_3 ?_
            refine z_idiv rfl rfl jk_3 (by omega) (by omega) (fun v74 ev74 => ?_)
            refine x_aloadn (x := 78) rfl rfl ?_
            refine z_getR (N := 16) (b := 32) 7 0 rfl f_7_55 rfl J rfl 9984 ⟨rfl, rfl⟩ rfl ?_
            refine z_getR (N := 20) (b := 33) 1 0 rfl f_7_63 rfl J rfl 4096 ⟨rfl, rfl⟩ rfl ?_
            refine z_getI (N := 4) 8 3 rfl f_7_85 rfl J rfl sg_33_3_4_1_0_1 (fun v75 qv75 ev75 => ?_)
            refine x_icge (tgt := 41) rfl rfl (ti_ge rfl rfl ⟨fun c76 => ?_, fun c76 => ?_⟩)
            ·
              refine x_iconst (v := 0) rfl ki_0 ?_
              refine x_zret rfl rfl (by decide) ?_
              show jX m_X11_soulOn 7 0 0 15 [(0, .ref 31), (1, .int v6), (2, .int a2)] [.int 0] _ 0 0 _
              refine x_ifne (tgt := 20) rfl rfl (ti_ne jk_0 jk_0 (bn_f (by omega) ?_))
              refine x_iconst (v := (-1)) rfl ki_m1 ?_
              refine x_iret rfl rfl ?_
              show jX m_X11_fee 8 0 0 21 [(0, .ref 31), (1, .int a1), (2, .int a2)] [.int (-1)] _ 0 0 _
              refine x_istoren (lsx9 := [(3, .int (-1)), (0, .ref 31), (1, .int a1), (2, .int a2)]) rfl rfl rfl ?_
              refine x_aloadn (x := 31) rfl rfl ?_
              refine z_getR (N := 13) (b := 98) 11 7 rfl f_11_66 rfl J rfl 3975 ⟨rfl, rfl⟩ rfl ?_
              refine x_aloadn (x := 31) rfl rfl ?_
              refine z_getR (N := 13) (b := 32) 11 0 rfl f_11_10 rfl J rfl 3968 ⟨rfl, rfl⟩ rfl ?_
              refine z_getR (N := 20) (b := 33) 1 0 rfl f_11_126 rfl J rfl 4096 ⟨rfl, rfl⟩ rfl ?_
              refine x_iloadn (x := a1) rfl rfl ?_
              refine x_iconst (v := 1) rfl ki_1 ?_
              refine x_inv (N := m_X8_at) (As := [.int a1, .int 1]) (b := 33) (st := [.ref 98]) (dx9 := 1) (mc := 0) (ms := 0) (host := "") 8 rfl t_X8_at ⟨Or.inl q_11_171, i_X8_at.1, i_X8_at.2⟩ ⟨by decide, rfl⟩ (congrArg Prod.fst (J.1.1 33 (8, 4) rfl)) rfl (by decide) rfl rfl ⟨by decide, by decide⟩ (sf_X8_at_r33_c1  hD J  (fun v78 h ev78 J S77 => ?_))
              have Sm := jSm_tr rfl Sm S77
              show jX m_X11_fee 8 0 0 38 [(3, .int (-1)), (0, .ref 31), (1, .int a1), (2, .int a2)] [.int v78, .ref 98] _ 0 0 _
              refine x_iloadn (x := a2) rfl rfl ?_
              refine x_inv (N := m_X0_turnTo) (As := [.int v78, .int a2]) (b := 98) (st := []) (dx9 := 7) (mc := 0) (ms := 0) (host := "") 0 rfl t_X0_turnTo ⟨Or.inl q_11_345, i_X0_turnTo.1, i_X0_turnTo.2⟩ ⟨by decide, rfl⟩ (congrArg Prod.fst (J.1.1 98 (0, 16) rfl)) rfl (by decide) rfl rfl ⟨by decide, by decide⟩ (jC.of rfl k_X0_turnTo rfl ?_)
              show jX m_X0_turnTo 7 0 0 0 [(0, .ref 98), (1, .int v78), (2, .int a2)] [] _ 0 0 _
              refine x_aloadn (x := 98) rfl rfl ?_
              refine x_iloadn (x := v78) rfl rfl ?_
              refine x_iloadn (x := a2) rfl rfl ?_
              refine x_inv (N := m_X0_readLaws) (As := [.int v78, .int a2]) (b := 98) (st := []) (dx9 := 3) (mc := 0) (ms := 0) (host := "") 0 rfl t_X0_readLaws ⟨Or.inl q_0_65, i_X0_readLaws.1, i_X0_readLaws.2⟩ ⟨by decide, rfl⟩ (congrArg Prod.fst (J.1.1 98 (0, 16) rfl)) rfl (by decide) rfl rfl ⟨by decide, by decide⟩ (sf_X0_readLaws_r98 (jr_of rfl (by omega)) (jr_of rfl (by omega)) hD J  (fun h J S79 => ?_))
              have Sm := jSm_tr rfl Sm S79
              show jX m_X0_turnTo 7 0 0 6 [(0, .ref 98), (1, .int v78), (2, .int a2)] [] _ 0 0 _
              refine x_aloadn (x := 98) rfl rfl ?_
              refine x_iloadn (x := v78) rfl rfl ?_
              refine x_iloadn (x := a2) rfl rfl ?_
              refine x_inv (N := m_X0_readHouses) (As := [.int v78, .int a2]) (b := 98) (st := []) (dx9 := 3) (mc := 0) (ms := 0) (host := "") 0 rfl t_X0_readHouses ⟨Or.inl q_0_69, i_X0_readHouses.1, i_X0_readHouses.2⟩ ⟨by decide, rfl⟩ (congrArg Prod.fst (J.1.1 98 (0, 16) rfl)) rfl (by decide) rfl rfl ⟨by decide, by decide⟩ (sf_X0_readHouses_r98 (jr_of rfl (by omega)) (jr_of rfl (by omega)) hD J  (fun h J S80 => ?_))
              have Sm := jSm_tr rfl Sm S80
              show jX m_X0_turnTo 7 0 0 12 [(0, .ref 98), (1, .int v78), (2, .int a2)] [] _ 0 0 _
              refine x_vret rfl rfl ?_
              show jX m_X11_fee 8 0 0 42 [(3, .int (-1)), (0, .ref 31), (1, .int a1), (2, .int a2)] [] _ 0 0 _
              refine x_aloadn (x := 31) rfl rfl ?_
              refine z_getR (N := 13) (b := 32) 11 0 rfl f_11_10 rfl J rfl 3968 ⟨rfl, rfl⟩ rfl ?_
              refine z_getR (N := 20) (b := 33) 1 0 rfl f_11_126 rfl J rfl 4096 ⟨rfl, rfl⟩ rfl ?_
              refine x_iloadn (x := a1) rfl rfl ?_
              refine x_iconst (v := 2) rfl ki_2 ?_
              refine x_inv (N := m_X8_at) (As := [.int a1, .int 2]) (b := 33) (st := []) (dx9 := 1) (mc := 0) (ms := 0) (host := "") 8 rfl t_X8_at ⟨Or.inl q_11_171, i_X8_at.1, i_X8_at.2⟩ ⟨by decide, rfl⟩ (congrArg Prod.fst (J.1.1 33 (8, 4) rfl)) rfl (by decide) rfl rfl ⟨by decide, by decide⟩ (sf_X8_at_r33_c2  hD J  (fun v82 h ev82 J S81 => ?_))
              have Sm := jSm_tr rfl Sm S81
              show jX m_X11_fee 8 0 0 54 [(3, .int (-1)), (0, .ref 31), (1, .int a1), (2, .int a2)] [.int v82] _ 0 0 _
              by_cases c83 : v82.toInt = 1
              ·
                refine x_lookup (tgt := 94) (off := 40) rfl (by decide) (by rw [show (v82).toInt = 1 from c83]; decide) rfl ?_
                refine x_aloadn (x := 31) rfl rfl ?_
                refine x_iconst (v := 2) rfl ki_2 ?_
                refine x_iloadn (x := (-1)) rfl rfl ?_
                refine x_inv (N := m_X11_feeOf) (As := [.int 2, .int (-1)]) (b := 31) (st := []) (dx9 := 7) (mc := 0) (ms := 0) (host := "") 11 rfl t_X11_feeOf ⟨Or.inl q_11_497, i_X11_feeOf.1, i_X11_feeOf.2⟩ ⟨by decide, rfl⟩ (congrArg Prod.fst (J.1.1 31 (11, 13) rfl)) rfl (by decide) rfl rfl ⟨by decide, by decide⟩ (jC.of rfl k_X11_feeOf rfl ?_)
                show jX m_X11_feeOf 7 0 0 0 [(0, .ref 31), (1, .int 2), (2, .int (-1))] [] _ 0 0 _
                refine x_aloadn (x := 31) rfl rfl ?_
                refine z_getR (N := 13) (b := 98) 11 7 rfl f_11_66 rfl J rfl 3975 ⟨rfl, rfl⟩ rfl ?_
                refine x_bipush (v := 6) rfl kb_6 ?_
                refine x_iloadn (x := 2) rfl rfl ?_
                refine x_iloadn (x := (-1)) rfl rfl ?_
                refine x_inv (N := m_X0_weigh) (As := [.int 6, .int 2, .int (-1)]) (b := 98) (st := []) (dx9 := 6) (mc := 0) (ms := 0) (host := "") 0 rfl t_X0_weigh ⟨Or.inl q_11_359, i_X0_weigh.1, i_X0_weigh.2⟩ ⟨by decide, rfl⟩ (congrArg Prod.fst (J.1.1 98 (0, 16) rfl)) rfl (by decide) rfl rfl ⟨by decide, by decide⟩ (sf_X0_weigh_r98 (jr_of jk_6 (by omega)) (jr_of jk_2 (by omega)) (jr_of jk_m1 (by omega)) hD J  (fun v85 h ev85 J S84 => ?_))
                have Sm := jSm_tr rfl Sm S84
                show jX m_X11_feeOf 7 0 0 11 [(0, .ref 31), (1, .int 2), (2, .int (-1))] [.int v85] _ 0 0 _
                refine x_pop rfl rfl ?_
                refine x_lconst (v := 0) rfl kl_0 ?_
                refine x_aloadn (x := 31) rfl rfl ?_
                refine z_getR (N := 13) (b := 98) 11 7 rfl f_11_66 rfl J rfl 3975 ⟨rfl, rfl⟩ rfl ?_
                refine z_getL0 (N := 16) 0 14 rfl f_11_362 rfl J rfl (fun v86 => ?_)
                have ev86 := jfullL v86
                refine z_lmax rfl q_11_485 (by decide) rfl jkl_0 rfl (fun v87 ev87 => ?_)
                refine x_lret rfl rfl ?_
                show jX m_X11_fee 8 0 0 100 [(3, .int (-1)), (0, .ref 31), (1, .int a1), (2, .int a2)] [.long v87] _ 0 0 _
                refine x_lret rfl rfl ?_
                exact hQ _ _ J Sm
              by_cases c88 : v82.toInt = 2
              ·
                refine x_lookup (tgt := 80) (off := 26) rfl (by decide) (by rw [show (v82).toInt = 2 from c88]; decide) rfl ?_
                refine x_aloadn (x := 31) rfl rfl ?_
                refine x_iconst (v := 0) rfl ki_0 ?_
                refine x_iloadn (x := (-1)) rfl rfl ?_
                refine x_inv (N := m_X11_feeOf) (As := [.int 0, .int (-1)]) (b := 31) (st := []) (dx9 := 7) (mc := 0) (ms := 0) (host := "") 11 rfl t_X11_feeOf ⟨Or.inl q_11_497, i_X11_feeOf.1, i_X11_feeOf.2⟩ ⟨by decide, rfl⟩ (congrArg Prod.fst (J.1.1 31 (11, 13) rfl)) rfl (by decide) rfl rfl ⟨by decide, by decide⟩ (jC.of rfl k_X11_feeOf rfl ?_)
                show jX m_X11_feeOf 7 0 0 0 [(0, .ref 31), (1, .int 0), (2, .int (-1))] [] _ 0 0 _
                refine x_aloadn (x := 31) rfl rfl ?_
                refine z_getR (N := 13) (b := 98) 11 7 rfl f_11_66 rfl J rfl 3975 ⟨rfl, rfl⟩ rfl ?_
                refine x_bipush (v := 6) rfl kb_6 ?_
                refine x_iloadn (x := 0) rfl rfl ?_
                refine x_iloadn (x := (-1)) rfl rfl ?_
                refine x_inv (N := m_X0_weigh) (As := [.int 6, .int 0, .int (-1)]) (b := 98) (st := []) (dx9 := 6) (mc := 0) (ms := 0) (host := "") 0 rfl t_X0_weigh ⟨Or.inl q_11_359, i_X0_weigh.1, i_X0_weigh.2⟩ ⟨by decide, rfl⟩ (congrArg Prod.fst (J.1.1 98 (0, 16) rfl)) rfl (by decide) rfl rfl ⟨by decide, by decide⟩ (sf_X0_weigh_r98 (jr_of jk_6 (by omega)) (jr_of jk_0 (by omega)) (jr_of jk_m1 (by omega)) hD J  (fun v90 h ev90 J S89 => ?_))
                have Sm := jSm_tr rfl Sm S89
                show jX m_X11_feeOf 7 0 0 11 [(0, .ref 31), (1, .int 0), (2, .int (-1))] [.int v90] _ 0 0 _
                refine x_pop rfl rfl ?_
                refine x_lconst (v := 0) rfl kl_0 ?_
                refine x_aloadn (x := 31) rfl rfl ?_
                refine z_getR (N := 13) (b := 98) 11 7 rfl f_11_66 rfl J rfl 3975 ⟨rfl, rfl⟩ rfl ?_
                refine z_getL0 (N := 16) 0 14 rfl f_11_362 rfl J rfl (fun v91 => ?_)
                have ev91 := jfullL v91
                refine z_lmax rfl q_11_485 (by decide) rfl jkl_0 rfl (fun v92 ev92 => ?_)
                refine x_lret rfl rfl ?_
                show jX m_X11_fee 8 0 0 86 [(3, .int (-1)), (0, .ref 31), (1, .int a1), (2, .int a2)] [.long v92] _ 0 0 _
                refine x_aloadn (x := 31) rfl rfl ?_
                refine x_iconst (v := 1) rfl ki_1 ?_
                refine x_iloadn (x := (-1)) rfl rfl ?_
                refine x_inv (N := m_X11_feeOf) (As := [.int 1, .int (-1)]) (b := 31) (st := [.long v92]) (dx9 := 7) (mc := 0) (ms := 0) (host := "") 11 rfl t_X11_feeOf ⟨Or.inl q_11_497, i_X11_feeOf.1, i_X11_feeOf.2⟩ ⟨by decide, rfl⟩ (congrArg Prod.fst (J.1.1 31 (11, 13) rfl)) rfl (by decide) rfl rfl ⟨by decide, by decide⟩ (jC.of rfl k_X11_feeOf rfl ?_)
                show jX m_X11_feeOf 7 0 0 0 [(0, .ref 31), (1, .int 1), (2, .int (-1))] [] _ 0 0 _
                refine x_aloadn (x := 31) rfl rfl ?_
                refine z_getR (N := 13) (b := 98) 11 7 rfl f_11_66 rfl J rfl 3975 ⟨rfl, rfl⟩ rfl ?_
                refine x_bipush (v := 6) rfl kb_6 ?_
                refine x_iloadn (x := 1) rfl rfl ?_
                refine x_iloadn (x := (-1)) rfl rfl ?_
                refine x_inv (N := m_X0_weigh) (As := [.int 6, .int 1, .int (-1)]) (b := 98) (st := []) (dx9 := 6) (mc := 0) (ms := 0) (host := "") 0 rfl t_X0_weigh ⟨Or.inl q_11_359, i_X0_weigh.1, i_X0_weigh.2⟩ ⟨by decide, rfl⟩ (congrArg Prod.fst (J.1.1 98 (0, 16) rfl)) rfl (by decide) rfl rfl ⟨by decide, by decide⟩ (sf_X0_weigh_r98 (jr_of jk_6 (by omega)) (jr_of jk_1 (by omega)) (jr_of jk_m1 (by omega)) hD J  (fun v94 h ev94 J S93 => ?_))
                have Sm := jSm_tr rfl Sm S93
                show jX m_X11_feeOf 7 0 0 11 [(0, .ref 31), (1, .int 1), (2, .int (-1))] [.int v94] _ 0 0 _
                refine x_pop rfl rfl ?_
                refine x_lconst (v := 0) rfl kl_0 ?_
                refine x_aloadn (x := 31) rfl rfl ?_
                refine z_getR (N := 13) (b := 98) 11 7 rfl f_11_66 rfl J rfl 3975 ⟨rfl, rfl⟩ rfl ?_
                refine z_getL0 (N := 16) 0 14 rfl f_11_362 rfl J rfl (fun v95 => ?_)
                have ev95 := jfullL v95
                refine z_lmax rfl q_11_485 (by decide) rfl jkl_0 rfl (fun v96 ev96 => ?_)
                refine x_lret rfl rfl ?_
                show jX m_X11_fee 8 0 0 92 [(3, .int (-1)), (0, .ref 31), (1, .int a1), (2, .int a2)] [.long v96, .long v92] _ 0 0 _
                refine z_ladd0 rfl (fun v97 => ?_)
                have ev97 := jfullL v97
                refine x_lret rfl rfl ?_
                exact hQ _ _ J Sm
              refine x_lookup (tgt := 101) (off := 47) rfl (by decide) (by simp [Op.lookupswitch.offset]; omega) rfl ?_
              refine x_lconst (v := 0) rfl kl_0 ?_
              refine x_lret rfl rfl ?_
              exact hQ _ _ J Sm
            ·
              refine x_aloadn (x := 78) rfl rfl ?_
              refine z_getR (N := 16) (b := 79) 7 7 rfl f_7_27 rfl J rfl 9991 ⟨rfl, rfl⟩ rfl ?_
              refine x_iloadn (x := v6) rfl rfl ?_
              refine z_iald (N := 600) rfl J rfl sg_79_0_600_1_0_1 rfl (by omega) (fun v98 qv98 ev98 => ?_)
              refine x_iconst (v := (-1)) rfl ki_m1 ?_
              refine x_iceq (tgt := 41) rfl rfl (ti_eq rfl jk_m1 ⟨fun c99 => ?_, fun c99 => ?_⟩)
              ·
                refine x_iconst (v := 0) rfl ki_0 ?_
                refine x_zret rfl rfl (by decide) ?_
                show jX m_X11_soulOn 7 0 0 15 [(0, .ref 31), (1, .int v6), (2, .int a2)] [.int 0] _ 0 0 _
                refine x_ifne (tgt := 20) rfl rfl (ti_ne jk_0 jk_0 (bn_f (by omega) ?_))
                refine x_iconst (v := (-1)) rfl ki_m1 ?_
                refine x_iret rfl rfl ?_
                show jX m_X11_fee 8 0 0 21 [(0, .ref 31), (1, .int a1), (2, .int a2)] [.int (-1)] _ 0 0 _
                refine x_istoren (lsx9 := [(3, .int (-1)), (0, .ref 31), (1, .int a1), (2, .int a2)]) rfl rfl rfl ?_
                refine x_aloadn (x := 31) rfl rfl ?_
                refine z_getR (N := 13) (b := 98) 11 7 rfl f_11_66 rfl J rfl 3975 ⟨rfl, rfl⟩ rfl ?_
                refine x_aloadn (x := 31) rfl rfl ?_
                refine z_getR (N := 13) (b := 32) 11 0 rfl f_11_10 rfl J rfl 3968 ⟨rfl, rfl⟩ rfl ?_
                refine z_getR (N := 20) (b := 33) 1 0 rfl f_11_126 rfl J rfl 4096 ⟨rfl, rfl⟩ rfl ?_
                refine x_iloadn (x := a1) rfl rfl ?_
                refine x_iconst (v := 1) rfl ki_1 ?_
                refine x_inv (N := m_X8_at) (As := [.int a1, .int 1]) (b := 33) (st := [.ref 98]) (dx9 := 1) (mc := 0) (ms := 0) (host := "") 8 rfl t_X8_at ⟨Or.inl q_11_171, i_X8_at.1, i_X8_at.2⟩ ⟨by decide, rfl⟩ (congrArg Prod.fst (J.1.1 33 (8, 4) rfl)) rfl (by decide) rfl rfl ⟨by decide, by decide⟩ (sf_X8_at_r33_c1  hD J  (fun v101 h ev101 J S100 => ?_))
                have Sm := jSm_tr rfl Sm S100
                show jX m_X11_fee 8 0 0 38 [(3, .int (-1)), (0, .ref 31), (1, .int a1), (2, .int a2)] [.int v101, .ref 98] _ 0 0 _
                refine x_iloadn (x := a2) rfl rfl ?_
                refine x_inv (N := m_X0_turnTo) (As := [.int v101, .int a2]) (b := 98) (st := []) (dx9 := 7) (mc := 0) (ms := 0) (host := "") 0 rfl t_X0_turnTo ⟨Or.inl q_11_345, i_X0_turnTo.1, i_X0_turnTo.2⟩ ⟨by decide, rfl⟩ (congrArg Prod.fst (J.1.1 98 (0, 16) rfl)) rfl (by decide) rfl rfl ⟨by decide, by decide⟩ (jC.of rfl k_X0_turnTo rfl ?_)
                show jX m_X0_turnTo 7 0 0 0 [(0, .ref 98), (1, .int v101), (2, .int a2)] [] _ 0 0 _
                refine x_aloadn (x := 98) rfl rfl ?_
                refine x_iloadn (x := v101) rfl rfl ?_
                refine x_iloadn (x := a2) rfl rfl ?_
                refine x_inv (N := m_X0_readLaws) (As := [.int v101, .int a2]) (b := 98) (st := []) (dx9 := 3) (mc := 0) (ms := 0) (host := "") 0 rfl t_X0_readLaws ⟨Or.inl q_0_65, i_X0_readLaws.1, i_X0_readLaws.2⟩ ⟨by decide, rfl⟩ (congrArg Prod.fst (J.1.1 98 (0, 16) rfl)) rfl (by decide) rfl rfl ⟨by decide, by decide⟩ (sf_X0_readLaws_r98 (jr_of rfl (by omega)) (jr_of rfl (by omega)) hD J  (fun h J S102 => ?_))
                have Sm := jSm_tr rfl Sm S102
                show jX m_X0_turnTo 7 0 0 6 [(0, .ref 98), (1, .int v101), (2, .int a2)] [] _ 0 0 _
                refine x_aloadn (x := 98) rfl rfl ?_
                refine x_iloadn (x := v101) rfl rfl ?_
                refine x_iloadn (x := a2) rfl rfl ?_
                refine x_inv (N := m_X0_readHouses) (As := [.int v101, .int a2]) (b := 98) (st := []) (dx9 := 3) (mc := 0) (ms := 0) (host := "") 0 rfl t_X0_readHouses ⟨Or.inl q_0_69, i_X0_readHouses.1, i_X0_readHouses.2⟩ ⟨by decide, rfl⟩ (congrArg Prod.fst (J.1.1 98 (0, 16) rfl)) rfl (by decide) rfl rfl ⟨by decide, by decide⟩ (sf_X0_readHouses_r98 (jr_of rfl (by omega)) (jr_of rfl (by omega)) hD J  (fun h J S103 => ?_))
                have Sm := jSm_tr rfl Sm S103
                show jX m_X0_turnTo 7 0 0 12 [(0, .ref 98), (1, .int v101), (2, .int a2)] [] _ 0 0 _
                refine x_vret rfl rfl ?_
                show jX m_X11_fee 8 0 0 42 [(3, .int (-1)), (0, .ref 31), (1, .int a1), (2, .int a2)] [] _ 0 0 _
                refine x_aloadn (x := 31) rfl rfl ?_
                refine z_getR (N := 13) (b := 32) 11 0 rfl f_11_10 rfl J rfl 3968 ⟨rfl, rfl⟩ rfl ?_
                refine z_getR (N := 20) (b := 33) 1 0 rfl f_11_126 rfl J rfl 4096 ⟨rfl, rfl⟩ rfl ?_
                refine x_iloadn (x := a1) rfl rfl ?_
                refine x_iconst (v := 2) rfl ki_2 ?_
                refine x_inv (N := m_X8_at) (As := [.int a1, .int 2]) (b := 33) (st := []) (dx9 := 1) (mc := 0) (ms := 0) (host := "") 8 rfl t_X8_at ⟨Or.inl q_11_171, i_X8_at.1, i_X8_at.2⟩ ⟨by decide, rfl⟩ (congrArg Prod.fst (J.1.1 33 (8, 4) rfl)) rfl (by decide) rfl rfl ⟨by decide, by decide⟩ (sf_X8_at_r33_c2  hD J  (fun v105 h ev105 J S104 => ?_))
                have Sm := jSm_tr rfl Sm S104
                show jX m_X11_fee 8 0 0 54 [(3, .int (-1)), (0, .ref 31), (1, .int a1), (2, .int a2)] [.int v105] _ 0 0 _
                by_cases c106 : v105.toInt = 1
                ·
                  refine x_lookup (tgt := 94) (off := 40) rfl (by decide) (by rw [show (v105).toInt = 1 from c106]; decide) rfl ?_
                  refine x_aloadn (x := 31) rfl rfl ?_
                  refine x_iconst (v := 2) rfl ki_2 ?_
                  refine x_iloadn (x := (-1)) rfl rfl ?_
                  refine x_inv (N := m_X11_feeOf) (As := [.int 2, .int (-1)]) (b := 31) (st := []) (dx9 := 7) (mc := 0) (ms := 0) (host := "") 11 rfl t_X11_feeOf ⟨Or.inl q_11_497, i_X11_feeOf.1, i_X11_feeOf.2⟩ ⟨by decide, rfl⟩ (congrArg Prod.fst (J.1.1 31 (11, 13) rfl)) rfl (by decide) rfl rfl ⟨by decide, by decide⟩ (jC.of rfl k_X11_feeOf rfl ?_)
                  show jX m_X11_feeOf 7 0 0 0 [(0, .ref 31), (1, .int 2), (2, .int (-1))] [] _ 0 0 _
                  refine x_aloadn (x := 31) rfl rfl ?_
                  refine z_getR (N := 13) (b := 98) 11 7 rfl f_11_66 rfl J rfl 3975 ⟨rfl, rfl⟩ rfl ?_
                  refine x_bipush (v := 6) rfl kb_6 ?_
                  refine x_iloadn (x := 2) rfl rfl ?_
                  refine x_iloadn (x := (-1)) rfl rfl ?_
                  refine x_inv (N := m_X0_weigh) (As := [.int 6, .int 2, .int (-1)]) (b := 98) (st := []) (dx9 := 6) (mc := 0) (ms := 0) (host := "") 0 rfl t_X0_weigh ⟨Or.inl q_11_359, i_X0_weigh.1, i_X0_weigh.2⟩ ⟨by decide, rfl⟩ (congrArg Prod.fst (J.1.1 98 (0, 16) rfl)) rfl (by decide) rfl rfl ⟨by decide, by decide⟩ (sf_X0_weigh_r98 (jr_of jk_6 (by omega)) (jr_of jk_2 (by omega)) (jr_of jk_m1 (by omega)) hD J  (fun v108 h ev108 J S107 => ?_))
                  have Sm := jSm_tr rfl Sm S107
                  show jX m_X11_feeOf 7 0 0 11 [(0, .ref 31), (1, .int 2), (2, .int (-1))] [.int v108] _ 0 0 _
                  refine x_pop rfl rfl ?_
                  refine x_lconst (v := 0) rfl kl_0 ?_
                  refine x_aloadn (x := 31) rfl rfl ?_
                  refine z_getR (N := 13) (b := 98) 11 7 rfl f_11_66 rfl J rfl 3975 ⟨rfl, rfl⟩ rfl ?_
                  refine z_getL0 (N := 16) 0 14 rfl f_11_362 rfl J rfl (fun v109 => ?_)
                  have ev109 := jfullL v109
                  refine z_lmax rfl q_11_485 (by decide) rfl jkl_0 rfl (fun v110 ev110 => ?_)
                  refine x_lret rfl rfl ?_
                  show jX m_X11_fee 8 0 0 100 [(3, .int (-1)), (0, .ref 31), (1, .int a1), (2, .int a2)] [.long v110] _ 0 0 _
                  refine x_lret rfl rfl ?_
                  exact hQ _ _ J Sm
                by_cases c111 : v105.toInt = 2
                ·
                  refine x_lookup (tgt := 80) (off := 26) rfl (by decide) (by rw [show (v105).toInt = 2 from c111]; decide) rfl ?_
                  refine x_aloadn (x := 31) rfl rfl ?_
                  refine x_iconst (v := 0) rfl ki_0 ?_
                  refine x_iloadn (x := (-1)) rfl rfl ?_
                  refine x_inv (N := m_X11_feeOf) (As := [.int 0, .int (-1)]) (b := 31) (st := []) (dx9 := 7) (mc := 0) (ms := 0) (host := "") 11 rfl t_X11_feeOf ⟨Or.inl q_11_497, i_X11_feeOf.1, i_X11_feeOf.2⟩ ⟨by decide, rfl⟩ (congrArg Prod.fst (J.1.1 31 (11, 13) rfl)) rfl (by decide) rfl rfl ⟨by decide, by decide⟩ (jC.of rfl k_X11_feeOf rfl ?_)
                  show jX m_X11_feeOf 7 0 0 0 [(0, .ref 31), (1, .int 0), (2, .int (-1))] [] _ 0 0 _
                  refine x_aloadn (x := 31) rfl rfl ?_
                  refine z_getR (N := 13) (b := 98) 11 7 rfl f_11_66 rfl J rfl 3975 ⟨rfl, rfl⟩ rfl ?_
                  refine x_bipush (v := 6) rfl kb_6 ?_
                  refine x_iloadn (x := 0) rfl rfl ?_
                  refine x_iloadn (x := (-1)) rfl rfl ?_
                  refine x_inv (N := m_X0_weigh) (As := [.int 6, .int 0, .int (-1)]) (b := 98) (st := []) (dx9 := 6) (mc := 0) (ms := 0) (host := "") 0 rfl t_X0_weigh ⟨Or.inl q_11_359, i_X0_weigh.1, i_X0_weigh.2⟩ ⟨by decide, rfl⟩ (congrArg Prod.fst (J.1.1 98 (0, 16) rfl)) rfl (by decide) rfl rfl ⟨by decide, by decide⟩ (sf_X0_weigh_r98 (jr_of jk_6 (by omega)) (jr_of jk_0 (by omega)) (jr_of jk_m1 (by omega)) hD J  (fun v113 h ev113 J S112 => ?_))
                  have Sm := jSm_tr rfl Sm S112
                  show jX m_X11_feeOf 7 0 0 11 [(0, .ref 31), (1, .int 0), (2, .int (-1))] [.int v113] _ 0 0 _
                  refine x_pop rfl rfl ?_
                  refine x_lconst (v := 0) rfl kl_0 ?_
                  refine x_aloadn (x := 31) rfl rfl ?_
                  refine z_getR (N := 13) (b := 98) 11 7 rfl f_11_66 rfl J rfl 3975 ⟨rfl, rfl⟩ rfl ?_
                  refine z_getL0 (N := 16) 0 14 rfl f_11_362 rfl J rfl (fun v114 => ?_)
                  have ev114 := jfullL v114
                  refine z_lmax rfl q_11_485 (by decide) rfl jkl_0 rfl (fun v115 ev115 => ?_)
                  refine x_lret rfl rfl ?_
                  show jX m_X11_fee 8 0 0 86 [(3, .int (-1)), (0, .ref 31), (1, .int a1), (2, .int a2)] [.long v115] _ 0 0 _
                  refine x_aloadn (x := 31) rfl rfl ?_
                  refine x_iconst (v := 1) rfl ki_1 ?_
                  refine x_iloadn (x := (-1)) rfl rfl ?_
                  refine x_inv (N := m_X11_feeOf) (As := [.int 1, .int (-1)]) (b := 31) (st := [.long v115]) (dx9 := 7) (mc := 0) (ms := 0) (host := "") 11 rfl t_X11_feeOf ⟨Or.inl q_11_497, i_X11_feeOf.1, i_X11_feeOf.2⟩ ⟨by decide, rfl⟩ (congrArg Prod.fst (J.1.1 31 (11, 13) rfl)) rfl (by decide) rfl rfl ⟨by decide, by decide⟩ (jC.of rfl k_X11_feeOf rfl ?_)
                  show jX m_X11_feeOf 7 0 0 0 [(0, .ref 31), (1, .int 1), (2, .int (-1))] [] _ 0 0 _
                  refine x_aloadn (x := 31) rfl rfl ?_
                  refine z_getR (N := 13) (b := 98) 11 7 rfl f_11_66 rfl J rfl 3975 ⟨rfl, rfl⟩ rfl ?_
                  refine x_bipush (v := 6) rfl kb_6 ?_
                  refine x_iloadn (x := 1) rfl rfl ?_
                  refine x_iloadn (x := (-1)) rfl rfl ?_
                  refine x_inv (N := m_X0_weigh) (As := [.int 6, .int 1, .int (-1)]) (b := 98) (st := []) (dx9 := 6) (mc := 0) (ms := 0) (host := "") 0 rfl t_X0_weigh ⟨Or.inl q_11_359, i_X0_weigh.1, i_X0_weigh.2⟩ ⟨by decide, rfl⟩ (congrArg Prod.fst (J.1.1 98 (0, 16) rfl)) rfl (by decide) rfl rfl ⟨by decide, by decide⟩ (sf_X0_weigh_r98 (jr_of jk_6 (by omega)) (jr_of jk_1 (by omega)) (jr_of jk_m1 (by omega)) hD J  (fun v117 h ev117 J S116 => ?_))
                  have Sm := jSm_tr rfl Sm S116
                  show jX m_X11_feeOf 7 0 0 11 [(0, .ref 31), (1, .int 1), (2, .int (-1))] [.int v117] _ 0 0 _
                  refine x_pop rfl rfl ?_
                  refine x_lconst (v := 0) rfl kl_0 ?_
                  refine x_aloadn (x := 31) rfl rfl ?_
                  refine z_getR (N := 13) (b := 98) 11 7 rfl f_11_66 rfl J rfl 3975 ⟨rfl, rfl⟩ rfl ?_
                  refine z_getL0 (N := 16) 0 14 rfl f_11_362 rfl J rfl (fun v118 => ?_)
                  have ev118 := jfullL v118
                  refine z_lmax rfl q_11_485 (by decide) rfl jkl_0 rfl (fun v119 ev119 => ?_)
                  refine x_lret rfl rfl ?_
                  show jX m_X11_fee 8 0 0 92 [(3, .int (-1)), (0, .ref 31), (1, .int a1), (2, .int a2)] [.long v119, .long v115] _ 0 0 _
                  refine z_ladd0 rfl (fun v120 => ?_)
                  have ev120 := jfullL v120
                  refine x_lret rfl rfl ?_
                  exact hQ _ _ J Sm
                refine x_lookup (tgt := 101) (off := 47) rfl (by decide) (by simp [Op.lookupswitch.offset]; omega) rfl ?_
                refine x_lconst (v := 0) rfl kl_0 ?_
                refine x_lret rfl rfl ?_
                exact hQ _ _ J Sm
              ·
                refine x_iconst (v := 1) rfl ki_1 ?_
                refine x_goto (tgt := 42) rfl rfl ?_
                refine x_zret rfl rfl (by decide) ?_
                show jX m_X11_soulOn 7 0 0 15 [(0, .ref 31), (1, .int v6), (2, .int a2)] [.int 1] _ 0 0 _
                refine x_ifne (tgt := 20) rfl rfl (ti_ne jk_1 jk_0 (bn_t (by omega) ?_))
                refine x_aloadn (x := 31) rfl rfl ?_
                refine z_getR (N := 13) (b := 78) 11 4 rfl f_11_41 rfl J rfl 3972 ⟨rfl, rfl⟩ rfl ?_
                refine x_iloadn (x := a2) rfl rfl ?_
                refine x_inv (N := m_X7_asKnown) (As := [.int a2]) (b := 78) (st := []) (dx9 := 6) (mc := 0) (ms := 0) (host := "") 7 rfl t_X7_asKnown ⟨Or.inl q_11_240, i_X7_asKnown.1, i_X7_asKnown.2⟩ ⟨by decide, rfl⟩ (congrArg Prod.fst (J.1.1 78 (7, 16) rfl)) rfl (by decide) rfl rfl ⟨by decide, by decide⟩ (sf_X7_asKnown_r78 (jr_of rfl (by omega)) hD J  (fun h J S121 => ?_))
                have Sm := jSm_tr rfl Sm S121
                show jX m_X11_soulOn 7 0 0 28 [(0, .ref 31), (1, .int v6), (2, .int a2)] [] _ 0 0 _
                refine x_aloadn (x := 31) rfl rfl ?_
                refine z_getR (N := 13) (b := 78) 11 4 rfl f_11_41 rfl J rfl 3972 ⟨rfl, rfl⟩ rfl ?_
                refine z_getR (N := 16) (b := 82) 7 10 rfl f_11_537 rfl J rfl 9994 ⟨rfl, rfl⟩ rfl ?_
                refine x_iloadn (x := v6) rfl rfl ?_
                refine z_iald (N := 600) rfl J rfl sg_82_0_600_1_0_1 rfl (by omega) (fun v122 qv122 ev122 => ?_)
                refine x_iret rfl rfl ?_
                show jX m_X11_fee 8 0 0 21 [(0, .ref 31), (1, .int a1), (2, .int a2)] [.int v122] _ 0 0 _
                refine x_istoren (lsx9 := [(3, .int v122), (0, .ref 31), (1, .int a1), (2, .int a2)]) rfl rfl rfl ?_
                refine x_aloadn (x := 31) rfl rfl ?_
                refine z_getR (N := 13) (b := 98) 11 7 rfl f_11_66 rfl J rfl 3975 ⟨rfl, rfl⟩ rfl ?_
                refine x_aloadn (x := 31) rfl rfl ?_
                refine z_getR (N := 13) (b := 32) 11 0 rfl f_11_10 rfl J rfl 3968 ⟨rfl, rfl⟩ rfl ?_
                refine z_getR (N := 20) (b := 33) 1 0 rfl f_11_126 rfl J rfl 4096 ⟨rfl, rfl⟩ rfl ?_
                refine x_iloadn (x := a1) rfl rfl ?_
                refine x_iconst (v := 1) rfl ki_1 ?_
                refine x_inv (N := m_X8_at) (As := [.int a1, .int 1]) (b := 33) (st := [.ref 98]) (dx9 := 1) (mc := 0) (ms := 0) (host := "") 8 rfl t_X8_at ⟨Or.inl q_11_171, i_X8_at.1, i_X8_at.2⟩ ⟨by decide, rfl⟩ (congrArg Prod.fst (J.1.1 33 (8, 4) rfl)) rfl (by decide) rfl rfl ⟨by decide, by decide⟩ (sf_X8_at_r33_c1  hD J  (fun v124 h ev124 J S123 => ?_))
                have Sm := jSm_tr rfl Sm S123
                show jX m_X11_fee 8 0 0 38 [(3, .int v122), (0, .ref 31), (1, .int a1), (2, .int a2)] [.int v124, .ref 98] _ 0 0 _
                refine x_iloadn (x := a2) rfl rfl ?_
                refine x_inv (N := m_X0_turnTo) (As := [.int v124, .int a2]) (b := 98) (st := []) (dx9 := 7) (mc := 0) (ms := 0) (host := "") 0 rfl t_X0_turnTo ⟨Or.inl q_11_345, i_X0_turnTo.1, i_X0_turnTo.2⟩ ⟨by decide, rfl⟩ (congrArg Prod.fst (J.1.1 98 (0, 16) rfl)) rfl (by decide) rfl rfl ⟨by decide, by decide⟩ (jC.of rfl k_X0_turnTo rfl ?_)
                show jX m_X0_turnTo 7 0 0 0 [(0, .ref 98), (1, .int v124), (2, .int a2)] [] _ 0 0 _
                refine x_aloadn (x := 98) rfl rfl ?_
                refine x_iloadn (x := v124) rfl rfl ?_
                refine x_iloadn (x := a2) rfl rfl ?_
                refine x_inv (N := m_X0_readLaws) (As := [.int v124, .int a2]) (b := 98) (st := []) (dx9 := 3) (mc := 0) (ms := 0) (host := "") 0 rfl t_X0_readLaws ⟨Or.inl q_0_65, i_X0_readLaws.1, i_X0_readLaws.2⟩ ⟨by decide, rfl⟩ (congrArg Prod.fst (J.1.1 98 (0, 16) rfl)) rfl (by decide) rfl rfl ⟨by decide, by decide⟩ (sf_X0_readLaws_r98 (jr_of rfl (by omega)) (jr_of rfl (by omega)) hD J  (fun h J S125 => ?_))
                have Sm := jSm_tr rfl Sm S125
                show jX m_X0_turnTo 7 0 0 6 [(0, .ref 98), (1, .int v124), (2, .int a2)] [] _ 0 0 _
                refine x_aloadn (x := 98) rfl rfl ?_
                refine x_iloadn (x := v124) rfl rfl ?_
                refine x_iloadn (x := a2) rfl rfl ?_
                refine x_inv (N := m_X0_readHouses) (As := [.int v124, .int a2]) (b := 98) (st := []) (dx9 := 3) (mc := 0) (ms := 0) (host := "") 0 rfl t_X0_readHouses ⟨Or.inl q_0_69, i_X0_readHouses.1, i_X0_readHouses.2⟩ ⟨by decide, rfl⟩ (congrArg Prod.fst (J.1.1 98 (0, 16) rfl)) rfl (by decide) rfl rfl ⟨by decide, by decide⟩ (sf_X0_readHouses_r98 (jr_of rfl (by omega)) (jr_of rfl (by omega)) hD J  (fun h J S126 => ?_))
                have Sm := jSm_tr rfl Sm S126
                show jX m_X0_turnTo 7 0 0 12 [(0, .ref 98), (1, .int v124), (2, .int a2)] [] _ 0 0 _
                refine x_vret rfl rfl ?_
                show jX m_X11_fee 8 0 0 42 [(3, .int v122), (0, .ref 31), (1, .int a1), (2, .int a2)] [] _ 0 0 _
                refine x_aloadn (x := 31) rfl rfl ?_
                refine z_getR (N := 13) (b := 32) 11 0 rfl f_11_10 rfl J rfl 3968 ⟨rfl, rfl⟩ rfl ?_
                refine z_getR (N := 20) (b := 33) 1 0 rfl f_11_126 rfl J rfl 4096 ⟨rfl, rfl⟩ rfl ?_
                refine x_iloadn (x := a1) rfl rfl ?_
                refine x_iconst (v := 2) rfl ki_2 ?_
                refine x_inv (N := m_X8_at) (As := [.int a1, .int 2]) (b := 33) (st := []) (dx9 := 1) (mc := 0) (ms := 0) (host := "") 8 rfl t_X8_at ⟨Or.inl q_11_171, i_X8_at.1, i_X8_at.2⟩ ⟨by decide, rfl⟩ (congrArg Prod.fst (J.1.1 33 (8, 4) rfl)) rfl (by decide) rfl rfl ⟨by decide, by decide⟩ (sf_X8_at_r33_c2  hD J  (fun v128 h ev128 J S127 => ?_))
                have Sm := jSm_tr rfl Sm S127
                show jX m_X11_fee 8 0 0 54 [(3, .int v122), (0, .ref 31), (1, .int a1), (2, .int a2)] [.int v128] _ 0 0 _
                by_cases c129 : v128.toInt = 1
                ·
                  refine x_lookup (tgt := 94) (off := 40) rfl (by decide) (by rw [show (v128).toInt = 1 from c129]; decide) rfl ?_
                  refine x_aloadn (x := 31) rfl rfl ?_
                  refine x_iconst (v := 2) rfl ki_2 ?_
                  refine x_iloadn (x := v122) rfl rfl ?_
                  refine x_inv (N := m_X11_feeOf) (As := [.int 2, .int v122]) (b := 31) (st := []) (dx9 := 7) (mc := 0) (ms := 0) (host := "") 11 rfl t_X11_feeOf ⟨Or.inl q_11_497, i_X11_feeOf.1, i_X11_feeOf.2⟩ ⟨by decide, rfl⟩ (congrArg Prod.fst (J.1.1 31 (11, 13) rfl)) rfl (by decide) rfl rfl ⟨by decide, by decide⟩ (jC.of rfl k_X11_feeOf rfl ?_)
                  show jX m_X11_feeOf 7 0 0 0 [(0, .ref 31), (1, .int 2), (2, .int v122)] [] _ 0 0 _
                  refine x_aloadn (x := 31) rfl rfl ?_
                  refine z_getR (N := 13) (b := 98) 11 7 rfl f_11_66 rfl J rfl 3975 ⟨rfl, rfl⟩ rfl ?_
                  refine x_bipush (v := 6) rfl kb_6 ?_
                  refine x_iloadn (x := 2) rfl rfl ?_
                  refine x_iloadn (x := v122) rfl rfl ?_
                  refine x_inv (N := m_X0_weigh) (As := [.int 6, .int 2, .int v122]) (b := 98) (st := []) (dx9 := 6) (mc := 0) (ms := 0) (host := "") 0 rfl t_X0_weigh ⟨Or.inl q_11_359, i_X0_weigh.1, i_X0_weigh.2⟩ ⟨by decide, rfl⟩ (congrArg Prod.fst (J.1.1 98 (0, 16) rfl)) rfl (by decide) rfl rfl ⟨by decide, by decide⟩ (sf_X0_weigh_r98 (jr_of jk_6 (by omega)) (jr_of jk_2 (by omega)) (jr_of rfl (by omega)) hD J  (fun v131 h ev131 J S130 => ?_))
                  have Sm := jSm_tr rfl Sm S130
                  show jX m_X11_feeOf 7 0 0 11 [(0, .ref 31), (1, .int 2), (2, .int v122)] [.int v131] _ 0 0 _
                  refine x_pop rfl rfl ?_
                  refine x_lconst (v := 0) rfl kl_0 ?_
                  refine x_aloadn (x := 31) rfl rfl ?_
                  refine z_getR (N := 13) (b := 98) 11 7 rfl f_11_66 rfl J rfl 3975 ⟨rfl, rfl⟩ rfl ?_
                  refine z_getL0 (N := 16) 0 14 rfl f_11_362 rfl J rfl (fun v132 => ?_)
                  have ev132 := jfullL v132
                  refine z_lmax rfl q_11_485 (by decide) rfl jkl_0 rfl (fun v133 ev133 => ?_)
                  refine x_lret rfl rfl ?_
                  show jX m_X11_fee 8 0 0 100 [(3, .int v122), (0, .ref 31), (1, .int a1), (2, .int a2)] [.long v133] _ 0 0 _
                  refine x_lret rfl rfl ?_
                  exact hQ _ _ J Sm
                by_cases c134 : v128.toInt = 2
                ·
                  refine x_lookup (tgt := 80) (off := 26) rfl (by decide) (by rw [show (v128).toInt = 2 from c134]; decide) rfl ?_
                  refine x_aloadn (x := 31) rfl rfl ?_
                  refine x_iconst (v := 0) rfl ki_0 ?_
                  refine x_iloadn (x := v122) rfl rfl ?_
                  refine x_inv (N := m_X11_feeOf) (As := [.int 0, .int v122]) (b := 31) (st := []) (dx9 := 7) (mc := 0) (ms := 0) (host := "") 11 rfl t_X11_feeOf ⟨Or.inl q_11_497, i_X11_feeOf.1, i_X11_feeOf.2⟩ ⟨by decide, rfl⟩ (congrArg Prod.fst (J.1.1 31 (11, 13) rfl)) rfl (by decide) rfl rfl ⟨by decide, by decide⟩ (jC.of rfl k_X11_feeOf rfl ?_)
                  show jX m_X11_feeOf 7 0 0 0 [(0, .ref 31), (1, .int 0), (2, .int v122)] [] _ 0 0 _
                  refine x_aloadn (x := 31) rfl rfl ?_
                  refine z_getR (N := 13) (b := 98) 11 7 rfl f_11_66 rfl J rfl 3975 ⟨rfl, rfl⟩ rfl ?_
                  refine x_bipush (v := 6) rfl kb_6 ?_
                  refine x_iloadn (x := 0) rfl rfl ?_
                  refine x_iloadn (x := v122) rfl rfl ?_
                  refine x_inv (N := m_X0_weigh) (As := [.int 6, .int 0, .int v122]) (b := 98) (st := []) (dx9 := 6) (mc := 0) (ms := 0) (host := "") 0 rfl t_X0_weigh ⟨Or.inl q_11_359, i_X0_weigh.1, i_X0_weigh.2⟩ ⟨by decide, rfl⟩ (congrArg Prod.fst (J.1.1 98 (0, 16) rfl)) rfl (by decide) rfl rfl ⟨by decide, by decide⟩ (sf_X0_weigh_r98 (jr_of jk_6 (by omega)) (jr_of jk_0 (by omega)) (jr_of rfl (by omega)) hD J  (fun v136 h ev136 J S135 => ?_))
                  have Sm := jSm_tr rfl Sm S135
                  show jX m_X11_feeOf 7 0 0 11 [(0, .ref 31), (1, .int 0), (2, .int v122)] [.int v136] _ 0 0 _
                  refine x_pop rfl rfl ?_
                  refine x_lconst (v := 0) rfl kl_0 ?_
                  refine x_aloadn (x := 31) rfl rfl ?_
                  refine z_getR (N := 13) (b := 98) 11 7 rfl f_11_66 rfl J rfl 3975 ⟨rfl, rfl⟩ rfl ?_
                  refine z_getL0 (N := 16) 0 14 rfl f_11_362 rfl J rfl (fun v137 => ?_)
                  have ev137 := jfullL v137
                  refine z_lmax rfl q_11_485 (by decide) rfl jkl_0 rfl (fun v138 ev138 => ?_)
                  refine x_lret rfl rfl ?_
                  show jX m_X11_fee 8 0 0 86 [(3, .int v122), (0, .ref 31), (1, .int a1), (2, .int a2)] [.long v138] _ 0 0 _
                  refine x_aloadn (x := 31) rfl rfl ?_
                  refine x_iconst (v := 1) rfl ki_1 ?_
                  refine x_iloadn (x := v122) rfl rfl ?_
                  refine x_inv (N := m_X11_feeOf) (As := [.int 1, .int v122]) (b := 31) (st := [.long v138]) (dx9 := 7) (mc := 0) (ms := 0) (host := "") 11 rfl t_X11_feeOf ⟨Or.inl q_11_497, i_X11_feeOf.1, i_X11_feeOf.2⟩ ⟨by decide, rfl⟩ (congrArg Prod.fst (J.1.1 31 (11, 13) rfl)) rfl (by decide) rfl rfl ⟨by decide, by decide⟩ (jC.of rfl k_X11_feeOf rfl ?_)
                  show jX m_X11_feeOf 7 0 0 0 [(0, .ref 31), (1, .int 1), (2, .int v122)] [] _ 0 0 _
                  refine x_aloadn (x := 31) rfl rfl ?_
                  refine z_getR (N := 13) (b := 98) 11 7 rfl f_11_66 rfl J rfl 3975 ⟨rfl, rfl⟩ rfl ?_
                  refine x_bipush (v := 6) rfl kb_6 ?_
                  refine x_iloadn (x := 1) rfl rfl ?_
                  refine x_iloadn (x := v122) rfl rfl ?_
                  refine x_inv (N := m_X0_weigh) (As := [.int 6, .int 1, .int v122]) (b := 98) (st := []) (dx9 := 6) (mc := 0) (ms := 0) (host := "") 0 rfl t_X0_weigh ⟨Or.inl q_11_359, i_X0_weigh.1, i_X0_weigh.2⟩ ⟨by decide, rfl⟩ (congrArg Prod.fst (J.1.1 98 (0, 16) rfl)) rfl (by decide) rfl rfl ⟨by decide, by decide⟩ (sf_X0_weigh_r98 (jr_of jk_6 (by omega)) (jr_of jk_1 (by omega)) (jr_of rfl (by omega)) hD J  (fun v140 h ev140 J S139 => ?_))
                  have Sm := jSm_tr rfl Sm S139
                  show jX m_X11_feeOf 7 0 0 11 [(0, .ref 31), (1, .int 1), (2, .int v122)] [.int v140] _ 0 0 _
                  refine x_pop rfl rfl ?_
                  refine x_lconst (v := 0) rfl kl_0 ?_
                  refine x_aloadn (x := 31) rfl rfl ?_
                  refine z_getR (N := 13) (b := 98) 11 7 rfl f_11_66 rfl J rfl 3975 ⟨rfl, rfl⟩ rfl ?_
                  refine z_getL0 (N := 16) 0 14 rfl f_11_362 rfl J rfl (fun v141 => ?_)
                  have ev141 := jfullL v141
                  refine z_lmax rfl q_11_485 (by decide) rfl jkl_0 rfl (fun v142 ev142 => ?_)
                  refine x_lret rfl rfl ?_
                  show jX m_X11_fee 8 0 0 92 [(3, .int v122), (0, .ref 31), (1, .int a1), (2, .int a2)] [.long v142, .long v138] _ 0 0 _
                  refine z_ladd0 rfl (fun v143 => ?_)
                  have ev143 := jfullL v143
                  refine x_lret rfl rfl ?_
                  exact hQ _ _ J Sm
                refine x_lookup (tgt := 101) (off := 47) rfl (by decide) (by simp [Op.lookupswitch.offset]; omega) rfl ?_
                refine x_lconst (v := 0) rfl kl_0 ?_
                refine x_lret rfl rfl ?_
                exact hQ _ _ J Sm
def fp_X9_append_r68 : jFp := [(68, 1, 2), (69, 0, 400)]
set_option maxRecDepth 100000 in
set_option maxHeartbeats 4000000 in
theorem ct_X9_append_r68_49 {Dy : jH → Prop} {h0 : jH} {Q : Option Value → jH → Prop} (hD : jDk Dy) (hQ : ∀ hx9, jJ jSgX Dy hx9 → jSm fp_X9_append_r68 h0 hx9 → Q none hx9) : ∀ (h : jH), jJ jSgX Dy h → jSm fp_X9_append_r68 h0 h → jX m_X9_append 1 0 0 49 [] [] h 0 0 Q := by
  intro  h    J Sm
  refine x_vret rfl rfl ?_
  exact hQ _ J Sm
set_option maxRecDepth 100000 in
set_option maxHeartbeats 4000000 in
theorem ct_X9_append_r68_3 {Dy : jH → Prop} {h0 : jH} {Q : Option Value → jH → Prop} (hD : jDk Dy) (hQ : ∀ hx9, jJ jSgX Dy hx9 → jSm fp_X9_append_r68 h0 hx9 → Q none hx9) : ∀ r : Nat, ∀ (l1 : Int32) (l2 : Int32) (h : jH), l2.toInt - (-8) < (r : Int) → (-8) ≤ l2.toInt ∧ l2.toInt ≤ 24 → l2.toInt % 8 = 0 → jJ jSgX Dy h → jSm fp_X9_append_r68 h0 h → jX m_X9_append 1 0 0 3 [(0, .ref 68), (1, .int l1), (2, .int l2)] [] h 0 0 Q := by
  intro r
  induction r with
  | zero =>
    intro l1 l2 h hm y0 y1   J Sm
    exfalso
    have el1 := jfull l1
    omega
  | succ r ih =>
    intro l1 l2 h hm y0 y1   J Sm
    have el1 := jfull l1
    refine x_iloadn (x := l2) rfl rfl ?_
    refine x_iflt (tgt := 49) rfl rfl (ti_lt rfl jk_0 ⟨fun c1 => ?_, fun c1 => ?_⟩)
    ·
      exact jX.sub jsb_n (ct_X9_append_r68_49 hD hQ  h J Sm)
    ·
      refine x_aloadn (x := 68) rfl rfl ?_
      refine z_getI (N := 6) 9 1 rfl f_9_15 rfl J rfl sg_68_1_2_1_0_1 (fun v2 qv2 ev2 => ?_)
      refine x_sipush (v := 400) rfl ks_400 ?_
      refine x_icge (tgt := 49) rfl rfl (ti_ge rfl jk_400 ⟨fun c3 => ?_, fun c3 => ?_⟩)
      ·
        exact jX.sub jsb_n (ct_X9_append_r68_49 hD hQ  h J Sm)
      ·
        refine x_aloadn (x := 68) rfl rfl ?_
        refine z_getR (N := 6) (b := 69) 9 0 rfl f_9_11 rfl J rfl 8704 ⟨rfl, rfl⟩ rfl ?_
        refine x_aloadn (x := 68) rfl rfl ?_
        refine z_getM (N := 6) (v := v2) 9 1 rfl f_9_15 rfl J rfl qv2 ?_
        refine x_iloadn (x := l1) rfl rfl ?_
        refine x_iloadn (x := l2) rfl rfl ?_
        refine z_iushr0 rfl (fun v4 => ?_)
        have ev4 := jfull v4
        refine x_sipush (v := 255) rfl ks_255 ?_
        refine z_iand rfl jk_255 (by decide) (fun v5 ev5 => ?_)
        refine z_iast (N := 400) (l := 0) (u := 400) (w := v5.toInt) rfl hD J Sm rfl rfl rfl (by omega) rfl (wr_69 (fun q1 q2 q3 q4 => by omega)) rfl (fun h w6 J Sm => ?_)
        refine x_aloadn (x := 68) rfl rfl ?_
        refine x_dup rfl rfl ?_
        refine z_getM (N := 6) (v := v2) 9 1 rfl f_9_15 rfl J rfl (jmo w6 rfl qv2) ?_
        refine x_iconst (v := 1) rfl ki_1 ?_
        refine z_iadd rfl rfl jk_1 (by omega) (fun v7 ev7 => ?_)
        refine z_putI (N := 6) (w := v7.toInt) 9 1 rfl f_9_15 rfl (jfin_no TX9 RX9 6 rfl rfl) hD J Sm rfl rfl rfl (pw_68_1 (by omega)) rfl (fun h w8 J Sm => ?_)
        refine z_iinc (x := l2) (lsx9 := fun v9 => [(2, .int v9), (0, .ref 68), (1, .int l1)]) rfl rfl rfl jko_m8 (by omega) rfl (fun _ => rfl) (fun v9 ev9 => ?_)
        refine x_goto (tgt := 3) rfl rfl ?_
        exact jX.sub (jsb_c rfl (jsb_c rfl (jsb_c rfl jsb_n))) (ih l1 v9 h (by omega) (jr_of rfl (by omega)) (jr_mod rfl (by omega)) J Sm)
set_option maxRecDepth 100000 in
set_option maxHeartbeats 4000000 in
theorem sf_X9_append_r68 {Dy : jH → Prop} {h : jH} {Q : Option Value → jH → Prop} {a1 : Int32} (hD : jDk Dy) (J : jJ jSgX Dy h) (hQ : ∀ hx9, jJ jSgX Dy hx9 → jSm fp_X9_append_r68 h hx9 → Q none hx9) : jC m_X9_append 1 0 0 [.ref 68, .int a1] h Q := by
  refine jC.of rfl k_X9_append rfl ?_
  have Sm := jSm_rf fp_X9_append_r68 h
  have ea1 := jfull a1
  show jX m_X9_append 1 0 0 0 [(0, .ref 68), (1, .int a1)] [] _ 0 0 _
  refine x_bipush (v := 24) rfl kb_24 ?_
  refine x_istoren (lsx9 := [(2, .int 24), (0, .ref 68), (1, .int a1)]) rfl rfl rfl ?_
  exact jX.sub (jsb_c rfl (jsb_c rfl (jsb_c rfl jsb_n))) (ct_X9_append_r68_3 hD hQ  33 a1 24 h (by have := jk_24; omega) (jr_of jk_24 (by omega)) (jr_mod jk_24 (by omega)) J Sm)
def fp_X11_feed_r31 : jFp := [(68, 1, 2), (69, 0, 400)]
set_option maxRecDepth 100000 in
set_option maxHeartbeats 4000000 in
theorem sf_X11_feed_r31 {Dy : jH → Prop} {h : jH} {Q : Option Value → jH → Prop} {a1 : Int32} {a2 : Int32} {a3 : Int32} {a4 : Int32} {a5 : Int32} (hD : jDk Dy) (J : jJ jSgX Dy h) (hQ : ∀ (v : Int32) hx9, (-1) ≤ v.toInt ∧ v.toInt ≤ 400 → jJ jSgX Dy hx9 → jSm fp_X11_feed_r31 h hx9 → Q (some (.int v)) hx9) : jC m_X11_feed 2 0 0 [.ref 31, .int a1, .int a2, .int a3, .int a4, .int a5] h Q := by
  refine jC.of rfl k_X11_feed rfl ?_
  have Sm := jSm_rf fp_X11_feed_r31 h
  have ea1 := jfull a1
  have ea2 := jfull a2
  have ea3 := jfull a3
  have ea4 := jfull a4
  have ea5 := jfull a5
  show jX m_X11_feed 2 0 0 0 [(0, .ref 31), (1, .int a1), (2, .int a2), (3, .int a3), (4, .int a4), (5, .int a5)] [] _ 0 0 _
  refine x_aloadn (x := 31) rfl rfl ?_
  refine z_getR (N := 13) (b := 68) 11 2 rfl f_11_23 rfl J rfl 3970 ⟨rfl, rfl⟩ rfl ?_
  refine x_bipush (v := 20) rfl kb_20 ?_
  refine x_inv (N := m_X9_hasRoomFor) (As := [.int 20]) (b := 68) (st := []) (dx9 := 1) (mc := 0) (ms := 0) (host := "") 9 rfl t_X9_hasRoomFor ⟨Or.inl q_11_98, i_X9_hasRoomFor.1, i_X9_hasRoomFor.2⟩ ⟨by decide, rfl⟩ (congrArg Prod.fst (J.1.1 68 (9, 6) rfl)) rfl (by decide) rfl rfl ⟨by decide, by decide⟩ (jC.of rfl k_X9_hasRoomFor rfl ?_)
  show jX m_X9_hasRoomFor 1 0 0 0 [(0, .ref 68), (1, .int 20)] [] _ 0 0 _
  refine x_aloadn (x := 68) rfl rfl ?_
  refine z_getI (N := 6) 9 1 rfl f_9_15 rfl J rfl sg_68_1_2_1_0_1 (fun v1 qv1 ev1 => ?_)
  refine x_iloadn (x := 20) rfl rfl ?_
  refine z_iadd rfl rfl jk_20 (by omega) (fun v2 ev2 => ?_)
  refine x_sipush (v := 400) rfl ks_400 ?_
  refine x_icgt (tgt := 16) rfl rfl (ti_gt rfl jk_400 ⟨fun c3 => ?_, fun c3 => ?_⟩)
  ·
    refine x_iconst (v := 0) rfl ki_0 ?_
    refine x_zret rfl rfl (by decide) ?_
    show jX m_X11_feed 2 0 0 9 [(0, .ref 31), (1, .int a1), (2, .int a2), (3, .int a3), (4, .int a4), (5, .int a5)] [.int 0] _ 0 0 _
    refine x_ifne (tgt := 14) rfl rfl (ti_ne jk_0 jk_0 (bn_f (by omega) ?_))
    refine x_iconst (v := (-1)) rfl ki_m1 ?_
    refine x_iret rfl rfl ?_
    exact hQ _ _ (jr_of jk_m1 (by omega)) J Sm
  ·
    refine x_iconst (v := 1) rfl ki_1 ?_
    refine x_goto (tgt := 17) rfl rfl ?_
    refine x_zret rfl rfl (by decide) ?_
    show jX m_X11_feed 2 0 0 9 [(0, .ref 31), (1, .int a1), (2, .int a2), (3, .int a3), (4, .int a4), (5, .int a5)] [.int 1] _ 0 0 _
    refine x_ifne (tgt := 14) rfl rfl (ti_ne jk_1 jk_0 (bn_t (by omega) ?_))
    refine x_aloadn (x := 31) rfl rfl ?_
    refine z_getR (N := 13) (b := 68) 11 2 rfl f_11_23 rfl J rfl 3970 ⟨rfl, rfl⟩ rfl ?_
    refine x_iloadn (x := a1) rfl rfl ?_
    refine x_inv (N := m_X9_append) (As := [.int a1]) (b := 68) (st := []) (dx9 := 1) (mc := 0) (ms := 0) (host := "") 9 rfl t_X9_append ⟨Or.inl q_11_102, i_X9_append.1, i_X9_append.2⟩ ⟨by decide, rfl⟩ (congrArg Prod.fst (J.1.1 68 (9, 6) rfl)) rfl (by decide) rfl rfl ⟨by decide, by decide⟩ (sf_X9_append_r68  hD J  (fun h J S4 => ?_))
    have Sm := jSm_tr rfl Sm S4
    show jX m_X11_feed 2 0 0 22 [(0, .ref 31), (1, .int a1), (2, .int a2), (3, .int a3), (4, .int a4), (5, .int a5)] [] _ 0 0 _
    refine x_aloadn (x := 31) rfl rfl ?_
    refine z_getR (N := 13) (b := 68) 11 2 rfl f_11_23 rfl J rfl 3970 ⟨rfl, rfl⟩ rfl ?_
    refine x_iloadn (x := a2) rfl rfl ?_
    refine x_inv (N := m_X9_append) (As := [.int a2]) (b := 68) (st := []) (dx9 := 1) (mc := 0) (ms := 0) (host := "") 9 rfl t_X9_append ⟨Or.inl q_11_102, i_X9_append.1, i_X9_append.2⟩ ⟨by decide, rfl⟩ (congrArg Prod.fst (J.1.1 68 (9, 6) rfl)) rfl (by decide) rfl rfl ⟨by decide, by decide⟩ (sf_X9_append_r68  hD J  (fun h J S5 => ?_))
    have Sm := jSm_tr rfl Sm S5
    show jX m_X11_feed 2 0 0 30 [(0, .ref 31), (1, .int a1), (2, .int a2), (3, .int a3), (4, .int a4), (5, .int a5)] [] _ 0 0 _
    refine x_aloadn (x := 31) rfl rfl ?_
    refine z_getR (N := 13) (b := 68) 11 2 rfl f_11_23 rfl J rfl 3970 ⟨rfl, rfl⟩ rfl ?_
    refine x_iloadn (x := a3) rfl rfl ?_
    refine x_inv (N := m_X9_append) (As := [.int a3]) (b := 68) (st := []) (dx9 := 1) (mc := 0) (ms := 0) (host := "") 9 rfl t_X9_append ⟨Or.inl q_11_102, i_X9_append.1, i_X9_append.2⟩ ⟨by decide, rfl⟩ (congrArg Prod.fst (J.1.1 68 (9, 6) rfl)) rfl (by decide) rfl rfl ⟨by decide, by decide⟩ (sf_X9_append_r68  hD J  (fun h J S6 => ?_))
    have Sm := jSm_tr rfl Sm S6
    show jX m_X11_feed 2 0 0 38 [(0, .ref 31), (1, .int a1), (2, .int a2), (3, .int a3), (4, .int a4), (5, .int a5)] [] _ 0 0 _
    refine x_aloadn (x := 31) rfl rfl ?_
    refine z_getR (N := 13) (b := 68) 11 2 rfl f_11_23 rfl J rfl 3970 ⟨rfl, rfl⟩ rfl ?_
    refine x_iload (x := a4) rfl rfl ?_
    refine x_inv (N := m_X9_append) (As := [.int a4]) (b := 68) (st := []) (dx9 := 1) (mc := 0) (ms := 0) (host := "") 9 rfl t_X9_append ⟨Or.inl q_11_102, i_X9_append.1, i_X9_append.2⟩ ⟨by decide, rfl⟩ (congrArg Prod.fst (J.1.1 68 (9, 6) rfl)) rfl (by decide) rfl rfl ⟨by decide, by decide⟩ (sf_X9_append_r68  hD J  (fun h J S7 => ?_))
    have Sm := jSm_tr rfl Sm S7
    show jX m_X11_feed 2 0 0 47 [(0, .ref 31), (1, .int a1), (2, .int a2), (3, .int a3), (4, .int a4), (5, .int a5)] [] _ 0 0 _
    refine x_aloadn (x := 31) rfl rfl ?_
    refine z_getR (N := 13) (b := 68) 11 2 rfl f_11_23 rfl J rfl 3970 ⟨rfl, rfl⟩ rfl ?_
    refine x_iload (x := a5) rfl rfl ?_
    refine x_inv (N := m_X9_append) (As := [.int a5]) (b := 68) (st := []) (dx9 := 1) (mc := 0) (ms := 0) (host := "") 9 rfl t_X9_append ⟨Or.inl q_11_102, i_X9_append.1, i_X9_append.2⟩ ⟨by decide, rfl⟩ (congrArg Prod.fst (J.1.1 68 (9, 6) rfl)) rfl (by decide) rfl rfl ⟨by decide, by decide⟩ (sf_X9_append_r68  hD J  (fun h J S8 => ?_))
    have Sm := jSm_tr rfl Sm S8
    show jX m_X11_feed 2 0 0 56 [(0, .ref 31), (1, .int a1), (2, .int a2), (3, .int a3), (4, .int a4), (5, .int a5)] [] _ 0 0 _
    refine x_aloadn (x := 31) rfl rfl ?_
    refine z_getR (N := 13) (b := 68) 11 2 rfl f_11_23 rfl J rfl 3970 ⟨rfl, rfl⟩ rfl ?_
    refine z_getI (N := 6) 9 1 rfl f_11_106 rfl J rfl sg_68_1_2_1_0_1 (fun v9 qv9 ev9 => ?_)
    refine x_iret rfl rfl ?_
    exact hQ _ _ (jr_of rfl (by omega)) J Sm
def fp_X8_at_r41_c1 : jFp := []
set_option maxRecDepth 100000 in
set_option maxHeartbeats 4000000 in
theorem ct_X8_at_r41_c1_24 {Dy : jH → Prop} {h0 : jH} {Q : Option Value → jH → Prop} (hD : jDk Dy) (hQ : ∀ (v : Int32) hx9, 0 ≤ v.toInt ∧ v.toInt ≤ 146399 → jJ jSgX Dy hx9 → jSm fp_X8_at_r41_c1 h0 hx9 → Q (some (.int v)) hx9) : ∀ (h : jH), jJ jSgX Dy h → jSm fp_X8_at_r41_c1 h0 h → jX m_X8_at 1 0 0 24 [] [] h 0 0 Q := by
  intro  h    J Sm
  refine x_iconst (v := 0) rfl ki_0 ?_
  refine x_iret rfl rfl ?_
  exact hQ _ _ (jr_of jk_0 (by omega)) J Sm
set_option maxRecDepth 100000 in
set_option maxHeartbeats 4000000 in
theorem sf_X8_at_r41_c1 {Dy : jH → Prop} {h : jH} {Q : Option Value → jH → Prop} {a1 : Int32} (y1 : 0 ≤ a1.toInt ∧ a1.toInt ≤ 19) (hD : jDk Dy) (J : jJ jSgX Dy h) (hQ : ∀ (v : Int32) hx9, 0 ≤ v.toInt ∧ v.toInt ≤ 146399 → jJ jSgX Dy hx9 → jSm fp_X8_at_r41_c1 h hx9 → Q (some (.int v)) hx9) : jC m_X8_at 1 0 0 [.ref 41, .int a1, .int 1] h Q := by
  refine jC.of rfl k_X8_at rfl ?_
  have Sm := jSm_rf fp_X8_at_r41_c1 h
  show jX m_X8_at 1 0 0 0 [(0, .ref 41), (1, .int a1), (2, .int 1)] [] _ 0 0 _
  refine x_iloadn (x := a1) rfl rfl ?_
  refine x_iflt (tgt := 24) rfl rfl (ti_lt rfl jk_0 (br_f (by omega) ?_))
  refine x_iloadn (x := a1) rfl rfl ?_
  refine x_aloadn (x := 41) rfl rfl ?_
  refine z_getI (N := 4) 8 3 rfl f_8_7 rfl J rfl sg_41_3_4_1_0_1 (fun v1 qv1 ev1 => ?_)
  refine x_icge (tgt := 24) rfl rfl (ti_ge rfl rfl ⟨fun c2 => ?_, fun c2 => ?_⟩)
  ·
    exact jX.sub jsb_n (ct_X8_at_r41_c1_24 hD hQ  h J Sm)
  ·
    refine x_iloadn (x := 1) rfl rfl ?_
    refine x_iflt (tgt := 24) rfl rfl (ti_lt jk_1 jk_0 (br_f (by omega) ?_))
    refine x_iloadn (x := 1) rfl rfl ?_
    refine x_aloadn (x := 41) rfl rfl ?_
    refine z_getC (N := 4) (v := 4) 8 0 rfl f_8_19 rfl J rfl sg_41_0_1_1_0_1 jk_4 ?_
    refine x_iclt (tgt := 26) rfl rfl (ti_lt jk_1 jk_4 (br_t (by omega) ?_))
    refine x_aloadn (x := 41) rfl rfl ?_
    refine z_getR (N := 4) (b := 42) 8 2 rfl f_8_25 rfl J rfl 5250 ⟨rfl, rfl⟩ rfl ?_
    refine x_iloadn (x := a1) rfl rfl ?_
    refine x_aloadn (x := 41) rfl rfl ?_
    refine z_getC (N := 4) (v := 4) 8 0 rfl f_8_19 rfl J rfl sg_41_0_1_1_0_1 jk_4 ?_
    refine z_imul rfl rfl jk_4 (by omega) (fun v3 ev3 => ?_)
    refine x_iloadn (x := 1) rfl rfl ?_
    refine z_iadd rfl rfl jk_1 (by omega) (fun v4 ev4 => ?_)
    refine z_iald (N := 80) rfl J rfl sg_42_0_80_4_1_2 rfl (by omega) (fun v5 qv5 ev5 => ?_)
    refine x_iret rfl rfl ?_
    exact hQ _ _ (jr_of rfl (by omega)) J Sm
def fp_X8_at_r41_c2 : jFp := []
set_option maxRecDepth 100000 in
set_option maxHeartbeats 4000000 in
theorem ct_X8_at_r41_c2_24 {Dy : jH → Prop} {h0 : jH} {Q : Option Value → jH → Prop} (hD : jDk Dy) (hQ : ∀ (v : Int32) hx9, 0 ≤ v.toInt ∧ v.toInt ≤ 146399 → jJ jSgX Dy hx9 → jSm fp_X8_at_r41_c2 h0 hx9 → Q (some (.int v)) hx9) : ∀ (h : jH), jJ jSgX Dy h → jSm fp_X8_at_r41_c2 h0 h → jX m_X8_at 1 0 0 24 [] [] h 0 0 Q := by
  intro  h    J Sm
  refine x_iconst (v := 0) rfl ki_0 ?_
  refine x_iret rfl rfl ?_
  exact hQ _ _ (jr_of jk_0 (by omega)) J Sm
set_option maxRecDepth 100000 in
set_option maxHeartbeats 4000000 in
theorem sf_X8_at_r41_c2 {Dy : jH → Prop} {h : jH} {Q : Option Value → jH → Prop} {a1 : Int32} (y1 : 0 ≤ a1.toInt ∧ a1.toInt ≤ 19) (hD : jDk Dy) (J : jJ jSgX Dy h) (hQ : ∀ (v : Int32) hx9, 0 ≤ v.toInt ∧ v.toInt ≤ 146399 → jJ jSgX Dy hx9 → jSm fp_X8_at_r41_c2 h hx9 → Q (some (.int v)) hx9) : jC m_X8_at 1 0 0 [.ref 41, .int a1, .int 2] h Q := by
  refine jC.of rfl k_X8_at rfl ?_
  have Sm := jSm_rf fp_X8_at_r41_c2 h
  show jX m_X8_at 1 0 0 0 [(0, .ref 41), (1, .int a1), (2, .int 2)] [] _ 0 0 _
  refine x_iloadn (x := a1) rfl rfl ?_
  refine x_iflt (tgt := 24) rfl rfl (ti_lt rfl jk_0 (br_f (by omega) ?_))
  refine x_iloadn (x := a1) rfl rfl ?_
  refine x_aloadn (x := 41) rfl rfl ?_
  refine z_getI (N := 4) 8 3 rfl f_8_7 rfl J rfl sg_41_3_4_1_0_1 (fun v1 qv1 ev1 => ?_)
  refine x_icge (tgt := 24) rfl rfl (ti_ge rfl rfl ⟨fun c2 => ?_, fun c2 => ?_⟩)
  ·
    exact jX.sub jsb_n (ct_X8_at_r41_c2_24 hD hQ  h J Sm)
  ·
    refine x_iloadn (x := 2) rfl rfl ?_
    refine x_iflt (tgt := 24) rfl rfl (ti_lt jk_2 jk_0 (br_f (by omega) ?_))
    refine x_iloadn (x := 2) rfl rfl ?_
    refine x_aloadn (x := 41) rfl rfl ?_
    refine z_getC (N := 4) (v := 4) 8 0 rfl f_8_19 rfl J rfl sg_41_0_1_1_0_1 jk_4 ?_
    refine x_iclt (tgt := 26) rfl rfl (ti_lt jk_2 jk_4 (br_t (by omega) ?_))
    refine x_aloadn (x := 41) rfl rfl ?_
    refine z_getR (N := 4) (b := 42) 8 2 rfl f_8_25 rfl J rfl 5250 ⟨rfl, rfl⟩ rfl ?_
    refine x_iloadn (x := a1) rfl rfl ?_
    refine x_aloadn (x := 41) rfl rfl ?_
    refine z_getC (N := 4) (v := 4) 8 0 rfl f_8_19 rfl J rfl sg_41_0_1_1_0_1 jk_4 ?_
    refine z_imul rfl rfl jk_4 (by omega) (fun v3 ev3 => ?_)
    refine x_iloadn (x := 2) rfl rfl ?_
    refine z_iadd rfl rfl jk_2 (by omega) (fun v4 ev4 => ?_)
    refine z_iald (N := 80) rfl J rfl sg_42_0_80_4_2_3 rfl (by omega) (fun v5 qv5 ev5 => ?_)
    refine x_iret rfl rfl ?_
    exact hQ _ _ (jr_of rfl (by omega)) J Sm
def fp_X8_at_r41_c3 : jFp := []
set_option maxRecDepth 100000 in
set_option maxHeartbeats 4000000 in
theorem ct_X8_at_r41_c3_24 {Dy : jH → Prop} {h0 : jH} {Q : Option Value → jH → Prop} (hD : jDk Dy) (hQ : ∀ (v : Int32) hx9, 0 ≤ v.toInt ∧ v.toInt ≤ 5 → jJ jSgX Dy hx9 → jSm fp_X8_at_r41_c3 h0 hx9 → Q (some (.int v)) hx9) : ∀ (h : jH), jJ jSgX Dy h → jSm fp_X8_at_r41_c3 h0 h → jX m_X8_at 1 0 0 24 [] [] h 0 0 Q := by
  intro  h    J Sm
  refine x_iconst (v := 0) rfl ki_0 ?_
  refine x_iret rfl rfl ?_
  exact hQ _ _ (jr_of jk_0 (by omega)) J Sm
set_option maxRecDepth 100000 in
set_option maxHeartbeats 4000000 in
theorem sf_X8_at_r41_c3 {Dy : jH → Prop} {h : jH} {Q : Option Value → jH → Prop} {a1 : Int32} (y1 : 0 ≤ a1.toInt ∧ a1.toInt ≤ 19) (hD : jDk Dy) (J : jJ jSgX Dy h) (hQ : ∀ (v : Int32) hx9, 0 ≤ v.toInt ∧ v.toInt ≤ 5 → jJ jSgX Dy hx9 → jSm fp_X8_at_r41_c3 h hx9 → Q (some (.int v)) hx9) : jC m_X8_at 1 0 0 [.ref 41, .int a1, .int 3] h Q := by
  refine jC.of rfl k_X8_at rfl ?_
  have Sm := jSm_rf fp_X8_at_r41_c3 h
  show jX m_X8_at 1 0 0 0 [(0, .ref 41), (1, .int a1), (2, .int 3)] [] _ 0 0 _
  refine x_iloadn (x := a1) rfl rfl ?_
  refine x_iflt (tgt := 24) rfl rfl (ti_lt rfl jk_0 (br_f (by omega) ?_))
  refine x_iloadn (x := a1) rfl rfl ?_
  refine x_aloadn (x := 41) rfl rfl ?_
  refine z_getI (N := 4) 8 3 rfl f_8_7 rfl J rfl sg_41_3_4_1_0_1 (fun v1 qv1 ev1 => ?_)
  refine x_icge (tgt := 24) rfl rfl (ti_ge rfl rfl ⟨fun c2 => ?_, fun c2 => ?_⟩)
  ·
    exact jX.sub jsb_n (ct_X8_at_r41_c3_24 hD hQ  h J Sm)
  ·
    refine x_iloadn (x := 3) rfl rfl ?_
    refine x_iflt (tgt := 24) rfl rfl (ti_lt jk_3 jk_0 (br_f (by omega) ?_))
    refine x_iloadn (x := 3) rfl rfl ?_
    refine x_aloadn (x := 41) rfl rfl ?_
    refine z_getC (N := 4) (v := 4) 8 0 rfl f_8_19 rfl J rfl sg_41_0_1_1_0_1 jk_4 ?_
    refine x_iclt (tgt := 26) rfl rfl (ti_lt jk_3 jk_4 (br_t (by omega) ?_))
    refine x_aloadn (x := 41) rfl rfl ?_
    refine z_getR (N := 4) (b := 42) 8 2 rfl f_8_25 rfl J rfl 5250 ⟨rfl, rfl⟩ rfl ?_
    refine x_iloadn (x := a1) rfl rfl ?_
    refine x_aloadn (x := 41) rfl rfl ?_
    refine z_getC (N := 4) (v := 4) 8 0 rfl f_8_19 rfl J rfl sg_41_0_1_1_0_1 jk_4 ?_
    refine z_imul rfl rfl jk_4 (by omega) (fun v3 ev3 => ?_)
    refine x_iloadn (x := 3) rfl rfl ?_
    refine z_iadd rfl rfl jk_3 (by omega) (fun v4 ev4 => ?_)
    refine z_iald (N := 80) rfl J rfl sg_42_0_80_4_3_4 rfl (by omega) (fun v5 qv5 ev5 => ?_)
    refine x_iret rfl rfl ?_
    exact hQ _ _ (jr_of rfl (by omega)) J Sm
def fp_X8_isKnown_r41 : jFp := []
set_option maxRecDepth 100000 in
set_option maxHeartbeats 4000000 in
theorem ct_X8_isKnown_r41_300032 {Dy : jH → Prop} {h0 : jH} {Q : Option Value → jH → Prop} (hD : jDk Dy) (hQ : ∀ (v : Int32) hx9, 0 ≤ v.toInt ∧ v.toInt ≤ 1 → jJ jSgX Dy hx9 → jSm fp_X8_isKnown_r41 h0 hx9 → Q (some (.int v)) hx9) : ∀ (h : jH), jJ jSgX Dy h → jSm fp_X8_isKnown_r41 h0 h → jX m_X8_isKnown 1 0 0 32 [] [.int 1] h 0 0 Q := by
  intro  h    J Sm
  refine x_zret rfl rfl (by decide) ?_
  exact hQ _ _ (jr_of jk_1 (by omega)) J Sm
set_option maxRecDepth 100000 in
set_option maxHeartbeats 4000000 in
theorem ct_X8_isKnown_r41_200032 {Dy : jH → Prop} {h0 : jH} {Q : Option Value → jH → Prop} (hD : jDk Dy) (hQ : ∀ (v : Int32) hx9, 0 ≤ v.toInt ∧ v.toInt ≤ 1 → jJ jSgX Dy hx9 → jSm fp_X8_isKnown_r41 h0 hx9 → Q (some (.int v)) hx9) : ∀ (h : jH), jJ jSgX Dy h → jSm fp_X8_isKnown_r41 h0 h → jX m_X8_isKnown 1 0 0 32 [] [.int 0] h 0 0 Q := by
  intro  h    J Sm
  refine x_zret rfl rfl (by decide) ?_
  exact hQ _ _ (jr_of jk_0 (by omega)) J Sm
set_option maxRecDepth 100000 in
set_option maxHeartbeats 4000000 in
theorem ct_X8_isKnown_r41_31 {Dy : jH → Prop} {h0 : jH} {Q : Option Value → jH → Prop} (hD : jDk Dy) (hQ : ∀ (v : Int32) hx9, 0 ≤ v.toInt ∧ v.toInt ≤ 1 → jJ jSgX Dy hx9 → jSm fp_X8_isKnown_r41 h0 hx9 → Q (some (.int v)) hx9) : ∀ (h : jH), jJ jSgX Dy h → jSm fp_X8_isKnown_r41 h0 h → jX m_X8_isKnown 1 0 0 31 [] [] h 0 0 Q := by
  intro  h    J Sm
  refine x_iconst (v := 0) rfl ki_0 ?_
  exact jX.sub jsb_n (ct_X8_isKnown_r41_200032 hD hQ  h J Sm)
set_option maxRecDepth 100000 in
set_option maxHeartbeats 4000000 in
theorem sf_X8_isKnown_r41 {Dy : jH → Prop} {h : jH} {Q : Option Value → jH → Prop} {a1 : Int32} {a2 : Int32} (y1 : 0 ≤ a1.toInt ∧ a1.toInt ≤ 19) (y2 : 0 ≤ a2.toInt ∧ a2.toInt ≤ 146399) (hD : jDk Dy) (J : jJ jSgX Dy h) (hQ : ∀ (v : Int32) hx9, 0 ≤ v.toInt ∧ v.toInt ≤ 1 → jJ jSgX Dy hx9 → jSm fp_X8_isKnown_r41 h hx9 → Q (some (.int v)) hx9) : jC m_X8_isKnown 1 0 0 [.ref 41, .int a1, .int a2] h Q := by
  refine jC.of rfl k_X8_isKnown rfl ?_
  have Sm := jSm_rf fp_X8_isKnown_r41 h
  show jX m_X8_isKnown 1 0 0 0 [(0, .ref 41), (1, .int a1), (2, .int a2)] [] _ 0 0 _
  refine x_iloadn (x := a1) rfl rfl ?_
  refine x_iflt (tgt := 31) rfl rfl (ti_lt rfl jk_0 (br_f (by omega) ?_))
  refine x_iloadn (x := a1) rfl rfl ?_
  refine x_aloadn (x := 41) rfl rfl ?_
  refine z_getI (N := 4) 8 3 rfl f_8_7 rfl J rfl sg_41_3_4_1_0_1 (fun v1 qv1 ev1 => ?_)
  refine x_icge (tgt := 31) rfl rfl (ti_ge rfl rfl ⟨fun c2 => ?_, fun c2 => ?_⟩)
  ·
    exact jX.sub jsb_n (ct_X8_isKnown_r41_31 hD hQ  h J Sm)
  ·
    refine x_aloadn (x := 41) rfl rfl ?_
    refine z_getR (N := 4) (b := 42) 8 2 rfl f_8_25 rfl J rfl 5250 ⟨rfl, rfl⟩ rfl ?_
    refine x_iloadn (x := a1) rfl rfl ?_
    refine x_aloadn (x := 41) rfl rfl ?_
    refine z_getC (N := 4) (v := 4) 8 0 rfl f_8_19 rfl J rfl sg_41_0_1_1_0_1 jk_4 ?_
    refine z_imul rfl rfl jk_4 (by omega) (fun v3 ev3 => ?_)
    refine z_iald (N := 80) rfl J rfl sg_42_0_80_4_0_1 rfl (by omega) (fun v4 qv4 ev4 => ?_)
    refine x_iloadn (x := a2) rfl rfl ?_
    refine x_icgt (tgt := 31) rfl rfl (ti_gt rfl rfl ⟨fun c5 => ?_, fun c5 => ?_⟩)
    ·
      exact jX.sub jsb_n (ct_X8_isKnown_r41_31 hD hQ  h J Sm)
    ·
      refine x_iconst (v := 1) rfl ki_1 ?_
      refine x_goto (tgt := 32) rfl rfl ?_
      exact jX.sub jsb_n (ct_X8_isKnown_r41_300032 hD hQ  h J Sm)
def fp_X11_isTornWithin_r31 : jFp := []
set_option maxRecDepth 100000 in
set_option maxHeartbeats 4000000 in
theorem ct_X11_isTornWithin_r31_66 {Dy : jH → Prop} {h0 : jH} {Q : Option Value → jH → Prop} {R3 : Int} (hD : jDk Dy) (hQ : ∀ (v : Int32) hx9, 0 ≤ v.toInt ∧ v.toInt ≤ 1 → jJ jSgX Dy hx9 → jSm fp_X11_isTornWithin_r31 h0 hx9 → Q (some (.int v)) hx9) (k3 : ∀ (l1 : Int32) (l2 : Int32) (l3 : Int32) (l4 : Int32) (l5 : Int32) (h : jH), 20 - l5.toInt < R3 → 0 ≤ l1.toInt ∧ l1.toInt ≤ 5 → 0 ≤ l2.toInt ∧ l2.toInt ≤ 146399 → (-146399) ≤ l3.toInt ∧ l3.toInt ≤ 999999 → 0 ≤ l4.toInt ∧ l4.toInt ≤ 146399 → 0 ≤ l5.toInt ∧ l5.toInt ≤ 20 → jJ jSgX Dy h → jSm fp_X11_isTornWithin_r31 h0 h → jX m_X11_isTornWithin 3 0 0 3 [(0, .ref 31), (1, .int l1), (2, .int l2), (3, .int l3), (4, .int l4), (5, .int l5)] [] h 0 0 Q) : ∀ (l1 : Int32) (l2 : Int32) (l3 : Int32) (l4 : Int32) (l5 : Int32) (h : jH), 0 ≤ l1.toInt ∧ l1.toInt ≤ 5 → 0 ≤ l2.toInt ∧ l2.toInt ≤ 146399 → (-146399) ≤ l3.toInt ∧ l3.toInt ≤ 999999 → 0 ≤ l4.toInt ∧ l4.toInt ≤ 146399 → 0 ≤ l5.toInt ∧ l5.toInt ≤ 19 → 20 - l5.toInt ≤ R3 → jJ jSgX Dy h → jSm fp_X11_isTornWithin_r31 h0 h → jX m_X11_isTornWithin 3 0 0 66 [(0, .ref 31), (1, .int l1), (2, .int l2), (3, .int l3), (4, .int l4), (5, .int l5)] [] h 0 0 Q := by
  intro l1 l2 l3 l4 l5 h y0 y1 y2 y3 y4  m3 J Sm
  refine z_iinc (x := l5) (lsx9 := fun v1 => [(5, .int v1), (0, .ref 31), (1, .int l1), (2, .int l2), (3, .int l3), (4, .int l4)]) rfl rfl rfl jko_1 (by omega) rfl (fun _ => rfl) (fun v1 ev1 => ?_)
  refine x_goto (tgt := 3) rfl rfl ?_
  exact jX.sub (jsb_c rfl (jsb_c rfl (jsb_c rfl (jsb_c rfl (jsb_c rfl (jsb_c rfl jsb_n)))))) (k3 l1 l2 l3 l4 v1 h (by omega) (jr_of rfl (by omega)) (jr_of rfl (by omega)) (jr_of rfl (by omega)) (jr_of rfl (by omega)) (jr_of rfl (by omega)) J Sm)
set_option maxRecDepth 100000 in
set_option maxHeartbeats 4000000 in
theorem ct_X11_isTornWithin_r31_3 {Dy : jH → Prop} {h0 : jH} {Q : Option Value → jH → Prop} (hD : jDk Dy) (hQ : ∀ (v : Int32) hx9, 0 ≤ v.toInt ∧ v.toInt ≤ 1 → jJ jSgX Dy hx9 → jSm fp_X11_isTornWithin_r31 h0 hx9 → Q (some (.int v)) hx9) : ∀ r : Nat, ∀ (l1 : Int32) (l2 : Int32) (l3 : Int32) (l4 : Int32) (l5 : Int32) (h : jH), 20 - l5.toInt < (r : Int) → 0 ≤ l1.toInt ∧ l1.toInt ≤ 5 → 0 ≤ l2.toInt ∧ l2.toInt ≤ 146399 → (-146399) ≤ l3.toInt ∧ l3.toInt ≤ 999999 → 0 ≤ l4.toInt ∧ l4.toInt ≤ 146399 → 0 ≤ l5.toInt ∧ l5.toInt ≤ 20 → jJ jSgX Dy h → jSm fp_X11_isTornWithin_r31 h0 h → jX m_X11_isTornWithin 3 0 0 3 [(0, .ref 31), (1, .int l1), (2, .int l2), (3, .int l3), (4, .int l4), (5, .int l5)] [] h 0 0 Q := by
  intro r
  induction r with
  | zero =>
    intro l1 l2 l3 l4 l5 h hm y0 y1 y2 y3 y4   J Sm
    exfalso
    omega
  | succ r ih =>
    intro l1 l2 l3 l4 l5 h hm y0 y1 y2 y3 y4   J Sm
    refine x_iload (x := l5) rfl rfl ?_
    refine x_aloadn (x := 31) rfl rfl ?_
    refine z_getR (N := 13) (b := 32) 11 0 rfl f_11_10 rfl J rfl 3968 ⟨rfl, rfl⟩ rfl ?_
    refine z_getR (N := 20) (b := 41) 1 4 rfl f_11_312 rfl J rfl 4100 ⟨rfl, rfl⟩ rfl ?_
    refine z_getI (N := 4) 8 3 rfl f_11_142 rfl J rfl sg_41_3_4_1_0_1 (fun v1 qv1 ev1 => ?_)
    refine x_icge (tgt := 72) rfl rfl (ti_ge rfl rfl ⟨fun c2 => ?_, fun c2 => ?_⟩)
    ·
      refine x_iconst (v := 0) rfl ki_0 ?_
      refine x_zret rfl rfl (by decide) ?_
      exact hQ _ _ (jr_of jk_0 (by omega)) J Sm
    ·
      refine x_aloadn (x := 31) rfl rfl ?_
      refine x_iload (x := l5) rfl rfl ?_
      refine x_iloadn (x := l1) rfl rfl ?_
      refine x_iload (x := l4) rfl rfl ?_
      refine x_inv (N := m_X11_isPageOf) (As := [.int l5, .int l1, .int l4]) (b := 31) (st := []) (dx9 := 2) (mc := 0) (ms := 0) (host := "") 11 rfl t_X11_isPageOf ⟨Or.inl q_11_561, i_X11_isPageOf.1, i_X11_isPageOf.2⟩ ⟨by decide, rfl⟩ (congrArg Prod.fst (J.1.1 31 (11, 13) rfl)) rfl (by decide) rfl rfl ⟨by decide, by decide⟩ (jC.of rfl k_X11_isPageOf rfl ?_)
      show jX m_X11_isPageOf 2 0 0 0 [(0, .ref 31), (1, .int l5), (2, .int l1), (3, .int l4)] [] _ 0 0 _
      refine x_aloadn (x := 31) rfl rfl ?_
      refine z_getR (N := 13) (b := 32) 11 0 rfl f_11_10 rfl J rfl 3968 ⟨rfl, rfl⟩ rfl ?_
      refine z_getR (N := 20) (b := 41) 1 4 rfl f_11_312 rfl J rfl 4100 ⟨rfl, rfl⟩ rfl ?_
      refine x_iloadn (x := l5) rfl rfl ?_
      refine x_iloadn (x := l4) rfl rfl ?_
      refine x_inv (N := m_X8_isKnown) (As := [.int l5, .int l4]) (b := 41) (st := []) (dx9 := 1) (mc := 0) (ms := 0) (host := "") 8 rfl t_X8_isKnown ⟨Or.inl q_11_440, i_X8_isKnown.1, i_X8_isKnown.2⟩ ⟨by decide, rfl⟩ (congrArg Prod.fst (J.1.1 41 (8, 4) rfl)) rfl (by decide) rfl rfl ⟨by decide, by decide⟩ (sf_X8_isKnown_r41 (jr_of rfl (by omega)) (jr_of rfl (by omega)) hD J  (fun v4 h ev4 J S3 => ?_))
      have Sm := jSm_tr rfl Sm S3
      show jX m_X11_isPageOf 2 0 0 12 [(0, .ref 31), (1, .int l5), (2, .int l1), (3, .int l4)] [.int v4] _ 0 0 _
      refine x_ifeq (tgt := 35) rfl rfl (ti_eq rfl jk_0 ⟨fun c5 => ?_, fun c5 => ?_⟩)
      ·
        refine x_iconst (v := 0) rfl ki_0 ?_
        refine x_zret rfl rfl (by decide) ?_
        show jX m_X11_isTornWithin 3 0 0 27 [(0, .ref 31), (1, .int l1), (2, .int l2), (3, .int l3), (4, .int l4), (5, .int l5)] [.int 0] _ 0 0 _
        refine x_ifeq (tgt := 66) rfl rfl (ti_eq jk_0 jk_0 (br_t (by omega) ?_))
        exact jX.sub (jsb_c rfl (jsb_c rfl (jsb_c rfl (jsb_c rfl (jsb_c rfl (jsb_c rfl jsb_n)))))) (ct_X11_isTornWithin_r31_66 hD hQ ih l1 l2 l3 l4 l5 h (jr_of rfl (by omega)) (jr_of rfl (by omega)) (jr_of rfl (by omega)) (jr_of rfl (by omega)) (jr_of rfl (by omega)) (by omega) J Sm)
      ·
        refine x_aloadn (x := 31) rfl rfl ?_
        refine z_getR (N := 13) (b := 32) 11 0 rfl f_11_10 rfl J rfl 3968 ⟨rfl, rfl⟩ rfl ?_
        refine z_getR (N := 20) (b := 41) 1 4 rfl f_11_312 rfl J rfl 4100 ⟨rfl, rfl⟩ rfl ?_
        refine x_iloadn (x := l5) rfl rfl ?_
        refine x_iconst (v := 3) rfl ki_3 ?_
        refine x_inv (N := m_X8_at) (As := [.int l5, .int 3]) (b := 41) (st := []) (dx9 := 1) (mc := 0) (ms := 0) (host := "") 8 rfl t_X8_at ⟨Or.inl q_11_171, i_X8_at.1, i_X8_at.2⟩ ⟨by decide, rfl⟩ (congrArg Prod.fst (J.1.1 41 (8, 4) rfl)) rfl (by decide) rfl rfl ⟨by decide, by decide⟩ (sf_X8_at_r41_c3 (jr_of rfl (by omega)) hD J  (fun v7 h ev7 J S6 => ?_))
        have Sm := jSm_tr rfl Sm S6
        show jX m_X11_isPageOf 2 0 0 27 [(0, .ref 31), (1, .int l5), (2, .int l1), (3, .int l4)] [.int v7] _ 0 0 _
        refine x_iloadn (x := l1) rfl rfl ?_
        refine x_icne (tgt := 35) rfl rfl (ti_ne rfl rfl ⟨fun c8 => ?_, fun c8 => ?_⟩)
        ·
          refine x_iconst (v := 0) rfl ki_0 ?_
          refine x_zret rfl rfl (by decide) ?_
          show jX m_X11_isTornWithin 3 0 0 27 [(0, .ref 31), (1, .int l1), (2, .int l2), (3, .int l3), (4, .int l4), (5, .int l5)] [.int 0] _ 0 0 _
          refine x_ifeq (tgt := 66) rfl rfl (ti_eq jk_0 jk_0 (br_t (by omega) ?_))
          exact jX.sub (jsb_c rfl (jsb_c rfl (jsb_c rfl (jsb_c rfl (jsb_c rfl (jsb_c rfl jsb_n)))))) (ct_X11_isTornWithin_r31_66 hD hQ ih l1 l2 l3 l4 l5 h (jr_of rfl (by omega)) (jr_of rfl (by omega)) (jr_of rfl (by omega)) (jr_of rfl (by omega)) (jr_of rfl (by omega)) (by omega) J Sm)
        ·
          refine x_iconst (v := 1) rfl ki_1 ?_
          refine x_goto (tgt := 36) rfl rfl ?_
          refine x_zret rfl rfl (by decide) ?_
          show jX m_X11_isTornWithin 3 0 0 27 [(0, .ref 31), (1, .int l1), (2, .int l2), (3, .int l3), (4, .int l4), (5, .int l5)] [.int 1] _ 0 0 _
          refine x_ifeq (tgt := 66) rfl rfl (ti_eq jk_1 jk_0 (br_f (by omega) ?_))
          refine x_aloadn (x := 31) rfl rfl ?_
          refine z_getR (N := 13) (b := 32) 11 0 rfl f_11_10 rfl J rfl 3968 ⟨rfl, rfl⟩ rfl ?_
          refine z_getR (N := 20) (b := 41) 1 4 rfl f_11_312 rfl J rfl 4100 ⟨rfl, rfl⟩ rfl ?_
          refine x_iload (x := l5) rfl rfl ?_
          refine x_iconst (v := 1) rfl ki_1 ?_
          refine x_inv (N := m_X8_at) (As := [.int l5, .int 1]) (b := 41) (st := []) (dx9 := 1) (mc := 0) (ms := 0) (host := "") 8 rfl t_X8_at ⟨Or.inl q_11_171, i_X8_at.1, i_X8_at.2⟩ ⟨by decide, rfl⟩ (congrArg Prod.fst (J.1.1 41 (8, 4) rfl)) rfl (by decide) rfl rfl ⟨by decide, by decide⟩ (sf_X8_at_r41_c1 (jr_of rfl (by omega)) hD J  (fun v10 h ev10 J S9 => ?_))
          have Sm := jSm_tr rfl Sm S9
          show jX m_X11_isTornWithin 3 0 0 43 [(0, .ref 31), (1, .int l1), (2, .int l2), (3, .int l3), (4, .int l4), (5, .int l5)] [.int v10] _ 0 0 _
          refine x_iloadn (x := l3) rfl rfl ?_
          refine x_icgt (tgt := 66) rfl rfl (ti_gt rfl rfl ⟨fun c11 => ?_, fun c11 => ?_⟩)
          ·
            exact jX.sub (jsb_c rfl (jsb_c rfl (jsb_c rfl (jsb_c rfl (jsb_c rfl (jsb_c rfl jsb_n)))))) (ct_X11_isTornWithin_r31_66 hD hQ ih l1 l2 l3 l4 l5 h (jr_of rfl (by omega)) (jr_of rfl (by omega)) (jr_of rfl (by omega)) (jr_of rfl (by omega)) (jr_of rfl (by omega)) (by omega) J Sm)
          ·
            refine x_aloadn (x := 31) rfl rfl ?_
            refine z_getR (N := 13) (b := 32) 11 0 rfl f_11_10 rfl J rfl 3968 ⟨rfl, rfl⟩ rfl ?_
            refine z_getR (N := 20) (b := 41) 1 4 rfl f_11_312 rfl J rfl 4100 ⟨rfl, rfl⟩ rfl ?_
            refine x_iload (x := l5) rfl rfl ?_
            refine x_iconst (v := 2) rfl ki_2 ?_
            refine x_inv (N := m_X8_at) (As := [.int l5, .int 2]) (b := 41) (st := []) (dx9 := 1) (mc := 0) (ms := 0) (host := "") 8 rfl t_X8_at ⟨Or.inl q_11_171, i_X8_at.1, i_X8_at.2⟩ ⟨by decide, rfl⟩ (congrArg Prod.fst (J.1.1 41 (8, 4) rfl)) rfl (by decide) rfl rfl ⟨by decide, by decide⟩ (sf_X8_at_r41_c2 (jr_of rfl (by omega)) hD J  (fun v13 h ev13 J S12 => ?_))
            have Sm := jSm_tr rfl Sm S12
            show jX m_X11_isTornWithin 3 0 0 60 [(0, .ref 31), (1, .int l1), (2, .int l2), (3, .int l3), (4, .int l4), (5, .int l5)] [.int v13] _ 0 0 _
            refine x_iloadn (x := l2) rfl rfl ?_
            refine x_iclt (tgt := 66) rfl rfl (ti_lt rfl rfl ⟨fun c14 => ?_, fun c14 => ?_⟩)
            ·
              exact jX.sub (jsb_c rfl (jsb_c rfl (jsb_c rfl (jsb_c rfl (jsb_c rfl (jsb_c rfl jsb_n)))))) (ct_X11_isTornWithin_r31_66 hD hQ ih l1 l2 l3 l4 l5 h (jr_of rfl (by omega)) (jr_of rfl (by omega)) (jr_of rfl (by omega)) (jr_of rfl (by omega)) (jr_of rfl (by omega)) (by omega) J Sm)
            ·
              refine x_iconst (v := 1) rfl ki_1 ?_
              refine x_zret rfl rfl (by decide) ?_
              exact hQ _ _ (jr_of jk_1 (by omega)) J Sm
set_option maxRecDepth 100000 in
set_option maxHeartbeats 4000000 in
theorem sf_X11_isTornWithin_r31 {Dy : jH → Prop} {h : jH} {Q : Option Value → jH → Prop} {a1 : Int32} {a2 : Int32} {a3 : Int32} {a4 : Int32} (y1 : 0 ≤ a1.toInt ∧ a1.toInt ≤ 5) (y2 : 0 ≤ a2.toInt ∧ a2.toInt ≤ 146399) (y3 : (-146399) ≤ a3.toInt ∧ a3.toInt ≤ 999999) (y4 : 0 ≤ a4.toInt ∧ a4.toInt ≤ 146399) (hD : jDk Dy) (J : jJ jSgX Dy h) (hQ : ∀ (v : Int32) hx9, 0 ≤ v.toInt ∧ v.toInt ≤ 1 → jJ jSgX Dy hx9 → jSm fp_X11_isTornWithin_r31 h hx9 → Q (some (.int v)) hx9) : jC m_X11_isTornWithin 3 0 0 [.ref 31, .int a1, .int a2, .int a3, .int a4] h Q := by
  refine jC.of rfl k_X11_isTornWithin rfl ?_
  have Sm := jSm_rf fp_X11_isTornWithin_r31 h
  show jX m_X11_isTornWithin 3 0 0 0 [(0, .ref 31), (1, .int a1), (2, .int a2), (3, .int a3), (4, .int a4)] [] _ 0 0 _
  refine x_iconst (v := 0) rfl ki_0 ?_
  refine x_istore (lsx9 := [(5, .int 0), (0, .ref 31), (1, .int a1), (2, .int a2), (3, .int a3), (4, .int a4)]) rfl rfl rfl ?_
  exact jX.sub (jsb_c rfl (jsb_c rfl (jsb_c rfl (jsb_c rfl (jsb_c rfl (jsb_c rfl jsb_n)))))) (ct_X11_isTornWithin_r31_3 hD hQ  21 a1 a2 a3 a4 0 h (by have := jk_0; omega) (jr_of rfl (by omega)) (jr_of rfl (by omega)) (jr_of rfl (by omega)) (jr_of rfl (by omega)) (jr_of jk_0 (by omega)) J Sm)
def fp_X11_wholeDays_r31 : jFp := []
set_option maxRecDepth 100000 in
set_option maxHeartbeats 4000000 in
theorem ct_X11_wholeDays_r31_180 {Dy : jH → Prop} {h0 : jH} {Q : Option Value → jH → Prop} (hD : jDk Dy) (hQ : ∀ (v : Int32) hx9, jJ jSgX Dy hx9 → jSm fp_X11_wholeDays_r31 h0 hx9 → Q (some (.int v)) hx9) : ∀ (l5 : Int32) (h : jH), jJ jSgX Dy h → jSm fp_X11_wholeDays_r31 h0 h → jX m_X11_wholeDays 3 0 0 180 [(5, .int l5)] [] h 0 0 Q := by
  intro l5 h    J Sm
  have el5 := jfull l5
  refine x_iload (x := l5) rfl rfl ?_
  refine x_iret rfl rfl ?_
  exact hQ _ _ J Sm
set_option maxRecDepth 100000 in
set_option maxHeartbeats 4000000 in
theorem ct_X11_wholeDays_r31_174 {Dy : jH → Prop} {h0 : jH} {Q : Option Value → jH → Prop} {R9 : Int} (hD : jDk Dy) (hQ : ∀ (v : Int32) hx9, jJ jSgX Dy hx9 → jSm fp_X11_wholeDays_r31 h0 hx9 → Q (some (.int v)) hx9) (k9 : ∀ (l1 : Int32) (l3 : Int32) (l4 : Int32) (l5 : Int32) (l6 : Int32) (l7 : Int32) (h : jH), 41 - l7.toInt < R9 → 0 ≤ l1.toInt ∧ l1.toInt ≤ 5 → (-1) ≤ l3.toInt ∧ l3.toInt ≤ 146399 → 0 ≤ l4.toInt ∧ l4.toInt ≤ 146399 → 0 ≤ l6.toInt ∧ l6.toInt ≤ 146400 → 0 ≤ l7.toInt ∧ l7.toInt ≤ 41 → jJ jSgX Dy h → jSm fp_X11_wholeDays_r31 h0 h → jX m_X11_wholeDays 3 0 0 9 [(0, .ref 31), (1, .int l1), (3, .int l3), (4, .int l4), (5, .int l5), (6, .int l6), (7, .int l7)] [] h 0 0 Q) : ∀ (l1 : Int32) (l3 : Int32) (l4 : Int32) (l5 : Int32) (l6 : Int32) (l7 : Int32) (h : jH), 0 ≤ l1.toInt ∧ l1.toInt ≤ 5 → 0 ≤ l3.toInt ∧ l3.toInt ≤ 146399 → 0 ≤ l4.toInt ∧ l4.toInt ≤ 146399 → 1 ≤ l6.toInt ∧ l6.toInt ≤ 146400 → 0 ≤ l7.toInt ∧ l7.toInt ≤ 40 → 41 - l7.toInt ≤ R9 → jJ jSgX Dy h → jSm fp_X11_wholeDays_r31 h0 h → jX m_X11_wholeDays 3 0 0 174 [(0, .ref 31), (1, .int l1), (3, .int l3), (4, .int l4), (5, .int l5), (6, .int l6), (7, .int l7)] [] h 0 0 Q := by
  intro l1 l3 l4 l5 l6 l7 h y0 y1 y2 y3 y4  m9 J Sm
  have el5 := jfull l5
  refine z_iinc (x := l7) (lsx9 := fun v1 => [(7, .int v1), (0, .ref 31), (1, .int l1), (3, .int l3), (4, .int l4), (5, .int l5), (6, .int l6)]) rfl rfl rfl jko_1 (by omega) rfl (fun _ => rfl) (fun v1 ev1 => ?_)
  refine x_goto (tgt := 9) rfl rfl ?_
  exact jX.sub (jsb_c rfl (jsb_c rfl (jsb_c rfl (jsb_c rfl (jsb_c rfl (jsb_c rfl (jsb_c rfl jsb_n))))))) (k9 l1 l3 l4 l5 l6 v1 h (by omega) (jr_of rfl (by omega)) (jr_of rfl (by omega)) (jr_of rfl (by omega)) (jr_of rfl (by omega)) (jr_of rfl (by omega)) J Sm)
set_option maxRecDepth 100000 in
set_option maxHeartbeats 4000000 in
theorem ct_X11_wholeDays_r31_140 {Dy : jH → Prop} {h0 : jH} {Q : Option Value → jH → Prop} {R9 : Int} {R44 : Int} (hD : jDk Dy) (hQ : ∀ (v : Int32) hx9, jJ jSgX Dy hx9 → jSm fp_X11_wholeDays_r31 h0 hx9 → Q (some (.int v)) hx9) (k9 : ∀ (l1 : Int32) (l3 : Int32) (l4 : Int32) (l5 : Int32) (l6 : Int32) (l7 : Int32) (h : jH), 41 - l7.toInt < R9 → 0 ≤ l1.toInt ∧ l1.toInt ≤ 5 → (-1) ≤ l3.toInt ∧ l3.toInt ≤ 146399 → 0 ≤ l4.toInt ∧ l4.toInt ≤ 146399 → 0 ≤ l6.toInt ∧ l6.toInt ≤ 146400 → 0 ≤ l7.toInt ∧ l7.toInt ≤ 41 → jJ jSgX Dy h → jSm fp_X11_wholeDays_r31 h0 h → jX m_X11_wholeDays 3 0 0 9 [(0, .ref 31), (1, .int l1), (3, .int l3), (4, .int l4), (5, .int l5), (6, .int l6), (7, .int l7)] [] h 0 0 Q) (k44 : ∀ (l1 : Int32) (l3 : Int32) (l4 : Int32) (l5 : Int32) (l6 : Int32) (l7 : Int32) (l8 : Int32) (l9 : Int32) (l10 : Int32) (g0 : Int32) (h : jH), 20 - l10.toInt < R44 → 0 ≤ l1.toInt ∧ l1.toInt ≤ 5 → 0 ≤ l3.toInt ∧ l3.toInt ≤ 146399 → 0 ≤ l4.toInt ∧ l4.toInt ≤ 146399 → 0 ≤ l6.toInt ∧ l6.toInt ≤ 146399 → 0 ≤ l7.toInt ∧ l7.toInt ≤ 40 → 0 ≤ l8.toInt ∧ l8.toInt ≤ 146400 → 1 ≤ l9.toInt ∧ l9.toInt ≤ 146400 → 0 ≤ l10.toInt ∧ l10.toInt ≤ 20 → 0 ≤ g0.toInt ∧ g0.toInt ≤ 20 → jiv h 41 3 = g0 → 41 - l7.toInt ≤ R9 → jJ jSgX Dy h → jSm fp_X11_wholeDays_r31 h0 h → jX m_X11_wholeDays 3 0 0 44 [(0, .ref 31), (1, .int l1), (3, .int l3), (4, .int l4), (5, .int l5), (6, .int l6), (7, .int l7), (8, .int l8), (9, .int l9), (10, .int l10)] [] h 0 0 Q) : ∀ (l1 : Int32) (l3 : Int32) (l4 : Int32) (l5 : Int32) (l6 : Int32) (l7 : Int32) (l8 : Int32) (l9 : Int32) (l10 : Int32) (g0 : Int32) (h : jH), 0 ≤ l1.toInt ∧ l1.toInt ≤ 5 → 0 ≤ l3.toInt ∧ l3.toInt ≤ 146399 → 0 ≤ l4.toInt ∧ l4.toInt ≤ 146399 → 0 ≤ l6.toInt ∧ l6.toInt ≤ 146399 → 0 ≤ l7.toInt ∧ l7.toInt ≤ 40 → 0 ≤ l8.toInt ∧ l8.toInt ≤ 146400 → 1 ≤ l9.toInt ∧ l9.toInt ≤ 146400 → 0 ≤ l10.toInt ∧ l10.toInt ≤ 19 → 1 ≤ g0.toInt ∧ g0.toInt ≤ 20 → jiv h 41 3 = g0 → 41 - l7.toInt ≤ R9 → 20 - l10.toInt ≤ R44 → jJ jSgX Dy h → jSm fp_X11_wholeDays_r31 h0 h → jX m_X11_wholeDays 3 0 0 140 [(0, .ref 31), (1, .int l1), (3, .int l3), (4, .int l4), (5, .int l5), (6, .int l6), (7, .int l7), (8, .int l8), (9, .int l9), (10, .int l10)] [] h 0 0 Q := by
  intro l1 l3 l4 l5 l6 l7 l8 l9 l10 g0 h y0 y1 y2 y3 y4 y5 y6 y7 y8 z0 m9 m44 J Sm
  have el5 := jfull l5
  refine z_iinc (x := l10) (lsx9 := fun v1 => [(10, .int v1), (0, .ref 31), (1, .int l1), (3, .int l3), (4, .int l4), (5, .int l5), (6, .int l6), (7, .int l7), (8, .int l8), (9, .int l9)]) rfl rfl rfl jko_1 (by omega) rfl (fun _ => rfl) (fun v1 ev1 => ?_)
  refine x_goto (tgt := 44) rfl rfl ?_
  exact jX.sub (jsb_c rfl (jsb_c rfl (jsb_c rfl (jsb_c rfl (jsb_c rfl (jsb_c rfl (jsb_c rfl (jsb_c rfl (jsb_c rfl (jsb_c rfl jsb_n)))))))))) (k44 l1 l3 l4 l5 l6 l7 l8 l9 v1 g0 h (by omega) (jr_of rfl (by omega)) (jr_of rfl (by omega)) (jr_of rfl (by omega)) (jr_of rfl (by omega)) (jr_of rfl (by omega)) (jr_of rfl (by omega)) (jr_of rfl (by omega)) (jr_of rfl (by omega)) (jr_of rfl (by omega)) z0 (by omega) J Sm)
set_option maxRecDepth 100000 in
set_option maxHeartbeats 4000000 in
theorem ct_X11_wholeDays_r31_124 {Dy : jH → Prop} {h0 : jH} {Q : Option Value → jH → Prop} {R9 : Int} {R44 : Int} (hD : jDk Dy) (hQ : ∀ (v : Int32) hx9, jJ jSgX Dy hx9 → jSm fp_X11_wholeDays_r31 h0 hx9 → Q (some (.int v)) hx9) (k9 : ∀ (l1 : Int32) (l3 : Int32) (l4 : Int32) (l5 : Int32) (l6 : Int32) (l7 : Int32) (h : jH), 41 - l7.toInt < R9 → 0 ≤ l1.toInt ∧ l1.toInt ≤ 5 → (-1) ≤ l3.toInt ∧ l3.toInt ≤ 146399 → 0 ≤ l4.toInt ∧ l4.toInt ≤ 146399 → 0 ≤ l6.toInt ∧ l6.toInt ≤ 146400 → 0 ≤ l7.toInt ∧ l7.toInt ≤ 41 → jJ jSgX Dy h → jSm fp_X11_wholeDays_r31 h0 h → jX m_X11_wholeDays 3 0 0 9 [(0, .ref 31), (1, .int l1), (3, .int l3), (4, .int l4), (5, .int l5), (6, .int l6), (7, .int l7)] [] h 0 0 Q) (k44 : ∀ (l1 : Int32) (l3 : Int32) (l4 : Int32) (l5 : Int32) (l6 : Int32) (l7 : Int32) (l8 : Int32) (l9 : Int32) (l10 : Int32) (g0 : Int32) (h : jH), 20 - l10.toInt < R44 → 0 ≤ l1.toInt ∧ l1.toInt ≤ 5 → 0 ≤ l3.toInt ∧ l3.toInt ≤ 146399 → 0 ≤ l4.toInt ∧ l4.toInt ≤ 146399 → 0 ≤ l6.toInt ∧ l6.toInt ≤ 146399 → 0 ≤ l7.toInt ∧ l7.toInt ≤ 40 → 0 ≤ l8.toInt ∧ l8.toInt ≤ 146400 → 1 ≤ l9.toInt ∧ l9.toInt ≤ 146400 → 0 ≤ l10.toInt ∧ l10.toInt ≤ 20 → 0 ≤ g0.toInt ∧ g0.toInt ≤ 20 → jiv h 41 3 = g0 → 41 - l7.toInt ≤ R9 → jJ jSgX Dy h → jSm fp_X11_wholeDays_r31 h0 h → jX m_X11_wholeDays 3 0 0 44 [(0, .ref 31), (1, .int l1), (3, .int l3), (4, .int l4), (5, .int l5), (6, .int l6), (7, .int l7), (8, .int l8), (9, .int l9), (10, .int l10)] [] h 0 0 Q) : ∀ (l1 : Int32) (l3 : Int32) (l4 : Int32) (l5 : Int32) (l6 : Int32) (l7 : Int32) (l8 : Int32) (l9 : Int32) (l10 : Int32) (l11 : Int32) (g0 : Int32) (h : jH), 0 ≤ l1.toInt ∧ l1.toInt ≤ 5 → 0 ≤ l3.toInt ∧ l3.toInt ≤ 146399 → 0 ≤ l4.toInt ∧ l4.toInt ≤ 146399 → 0 ≤ l6.toInt ∧ l6.toInt ≤ 146399 → 0 ≤ l7.toInt ∧ l7.toInt ≤ 40 → 0 ≤ l8.toInt ∧ l8.toInt ≤ 146400 → 1 ≤ l9.toInt ∧ l9.toInt ≤ 146400 → 0 ≤ l10.toInt ∧ l10.toInt ≤ 19 → 0 ≤ l11.toInt ∧ l11.toInt ≤ 146399 → 1 ≤ g0.toInt ∧ g0.toInt ≤ 20 → jiv h 41 3 = g0 → 41 - l7.toInt ≤ R9 → 20 - l10.toInt ≤ R44 → jJ jSgX Dy h → jSm fp_X11_wholeDays_r31 h0 h → jX m_X11_wholeDays 3 0 0 124 [(0, .ref 31), (1, .int l1), (3, .int l3), (4, .int l4), (5, .int l5), (6, .int l6), (7, .int l7), (8, .int l8), (9, .int l9), (10, .int l10), (11, .int l11)] [] h 0 0 Q := by
  intro l1 l3 l4 l5 l6 l7 l8 l9 l10 l11 g0 h y0 y1 y2 y3 y4 y5 y6 y7 y8 y9 z0 m9 m44 J Sm
  have el5 := jfull l5
  refine x_iload (x := l11) rfl rfl ?_
  refine x_iload (x := l6) rfl rfl ?_
  refine x_icle (tgt := 140) rfl rfl (ti_le rfl rfl ⟨fun c1 => ?_, fun c1 => ?_⟩)
  ·
    exact jX.sub (jsb_c rfl (jsb_c rfl (jsb_c rfl (jsb_c rfl (jsb_c rfl (jsb_c rfl (jsb_c rfl (jsb_c rfl (jsb_c rfl (jsb_c rfl jsb_n)))))))))) (ct_X11_wholeDays_r31_140 hD hQ k9 k44 l1 l3 l4 l5 l6 l7 l8 l9 l10 g0 h (jr_of rfl (by omega)) (jr_of rfl (by omega)) (jr_of rfl (by omega)) (jr_of rfl (by omega)) (jr_of rfl (by omega)) (jr_of rfl (by omega)) (jr_of rfl (by omega)) (jr_of rfl (by omega)) (jr_of rfl (by omega)) z0 (by omega) (by omega) J Sm)
  ·
    refine x_iload (x := l9) rfl rfl ?_
    refine x_iload (x := l11) rfl rfl ?_
    refine z_mmin rfl q_11_553 (by decide) rfl rfl rfl (fun v2 ev2 => ?_)
    refine x_istore (lsx9 := [(9, .int v2), (0, .ref 31), (1, .int l1), (3, .int l3), (4, .int l4), (5, .int l5), (6, .int l6), (7, .int l7), (8, .int l8), (10, .int l10), (11, .int l11)]) rfl rfl rfl ?_
    exact jX.sub (jsb_c rfl (jsb_c rfl (jsb_c rfl (jsb_c rfl (jsb_c rfl (jsb_c rfl (jsb_c rfl (jsb_c rfl (jsb_c rfl (jsb_c rfl jsb_n)))))))))) (ct_X11_wholeDays_r31_140 hD hQ k9 k44 l1 l3 l4 l5 l6 l7 l8 v2 l10 g0 h (jr_of rfl (by omega)) (jr_of rfl (by omega)) (jr_of rfl (by omega)) (jr_of rfl (by omega)) (jr_of rfl (by omega)) (jr_of rfl (by omega)) (jr_of rfl (by omega)) (jr_of rfl (by omega)) (jr_of rfl (by omega)) z0 (by omega) (by omega) J Sm)
set_option maxRecDepth 100000 in
set_option maxHeartbeats 4000000 in
theorem ct_X11_wholeDays_r31_44 {Dy : jH → Prop} {h0 : jH} {Q : Option Value → jH → Prop} {R9 : Int} (hD : jDk Dy) (hQ : ∀ (v : Int32) hx9, jJ jSgX Dy hx9 → jSm fp_X11_wholeDays_r31 h0 hx9 → Q (some (.int v)) hx9) (k9 : ∀ (l1 : Int32) (l3 : Int32) (l4 : Int32) (l5 : Int32) (l6 : Int32) (l7 : Int32) (h : jH), 41 - l7.toInt < R9 → 0 ≤ l1.toInt ∧ l1.toInt ≤ 5 → (-1) ≤ l3.toInt ∧ l3.toInt ≤ 146399 → 0 ≤ l4.toInt ∧ l4.toInt ≤ 146399 → 0 ≤ l6.toInt ∧ l6.toInt ≤ 146400 → 0 ≤ l7.toInt ∧ l7.toInt ≤ 41 → jJ jSgX Dy h → jSm fp_X11_wholeDays_r31 h0 h → jX m_X11_wholeDays 3 0 0 9 [(0, .ref 31), (1, .int l1), (3, .int l3), (4, .int l4), (5, .int l5), (6, .int l6), (7, .int l7)] [] h 0 0 Q) : ∀ r : Nat, ∀ (l1 : Int32) (l3 : Int32) (l4 : Int32) (l5 : Int32) (l6 : Int32) (l7 : Int32) (l8 : Int32) (l9 : Int32) (l10 : Int32) (g0 : Int32) (h : jH), 20 - l10.toInt < (r : Int) → 0 ≤ l1.toInt ∧ l1.toInt ≤ 5 → 0 ≤ l3.toInt ∧ l3.toInt ≤ 146399 → 0 ≤ l4.toInt ∧ l4.toInt ≤ 146399 → 0 ≤ l6.toInt ∧ l6.toInt ≤ 146399 → 0 ≤ l7.toInt ∧ l7.toInt ≤ 40 → 0 ≤ l8.toInt ∧ l8.toInt ≤ 146400 → 1 ≤ l9.toInt ∧ l9.toInt ≤ 146400 → 0 ≤ l10.toInt ∧ l10.toInt ≤ 20 → 0 ≤ g0.toInt ∧ g0.toInt ≤ 20 → jiv h 41 3 = g0 → 41 - l7.toInt ≤ R9 → jJ jSgX Dy h → jSm fp_X11_wholeDays_r31 h0 h → jX m_X11_wholeDays 3 0 0 44 [(0, .ref 31), (1, .int l1), (3, .int l3), (4, .int l4), (5, .int l5), (6, .int l6), (7, .int l7), (8, .int l8), (9, .int l9), (10, .int l10)] [] h 0 0 Q := by
  intro r
  induction r with
  | zero =>
    intro l1 l3 l4 l5 l6 l7 l8 l9 l10 g0 h hm y0 y1 y2 y3 y4 y5 y6 y7 y8 z0 m9 J Sm
    exfalso
    have el5 := jfull l5
    omega
  | succ r ih =>
    intro l1 l3 l4 l5 l6 l7 l8 l9 l10 g0 h hm y0 y1 y2 y3 y4 y5 y6 y7 y8 z0 m9 J Sm
    have el5 := jfull l5
    refine x_iload (x := l10) rfl rfl ?_
    refine x_aloadn (x := 31) rfl rfl ?_
    refine z_getR (N := 13) (b := 32) 11 0 rfl f_11_10 rfl J rfl 3968 ⟨rfl, rfl⟩ rfl ?_
    refine z_getR (N := 20) (b := 41) 1 4 rfl f_11_312 rfl J rfl 4100 ⟨rfl, rfl⟩ rfl ?_
    refine z_getM (N := 4) (v := g0) 8 3 rfl f_11_142 rfl J rfl z0 ?_
    refine x_icge (tgt := 146) rfl rfl (ti_ge rfl rfl ⟨fun c1 => ?_, fun c1 => ?_⟩)
    ·
      refine x_iload (x := l8) rfl rfl ?_
      refine x_iload (x := l6) rfl rfl ?_
      refine x_icle (tgt := 160) rfl rfl (ti_le rfl rfl ⟨fun c2 => ?_, fun c2 => ?_⟩)
      ·
        refine x_iload (x := l5) rfl rfl ?_
        refine x_iload (x := l9) rfl rfl ?_
        refine x_iload (x := l6) rfl rfl ?_
        refine z_isub rfl rfl rfl (by omega) (fun v3 ev3 => ?_)
        refine z_iadd0 rfl (fun v4 => ?_)
        have ev4 := jfull v4
        refine x_istore (lsx9 := [(5, .int v4), (0, .ref 31), (1, .int l1), (3, .int l3), (4, .int l4), (6, .int l6), (7, .int l7), (8, .int l8), (9, .int l9), (10, .int l10)]) rfl rfl rfl ?_
        refine x_iload (x := l9) rfl rfl ?_
        refine x_istore (lsx9 := [(6, .int l9), (5, .int v4), (0, .ref 31), (1, .int l1), (3, .int l3), (4, .int l4), (7, .int l7), (8, .int l8), (9, .int l9), (10, .int l10)]) rfl rfl rfl ?_
        exact jX.sub (jsb_c rfl (jsb_c rfl (jsb_c rfl (jsb_c rfl (jsb_c rfl (jsb_c rfl (jsb_c rfl jsb_n))))))) (ct_X11_wholeDays_r31_174 hD hQ k9 l1 l3 l4 v4 l9 l7 h (jr_of rfl (by omega)) (jr_of rfl (by omega)) (jr_of rfl (by omega)) (jr_of rfl (by omega)) (jr_of rfl (by omega)) (by omega) J Sm)
      ·
        refine x_iload (x := l8) rfl rfl ?_
        refine x_istore (lsx9 := [(6, .int l8), (0, .ref 31), (1, .int l1), (3, .int l3), (4, .int l4), (5, .int l5), (7, .int l7), (8, .int l8), (9, .int l9), (10, .int l10)]) rfl rfl rfl ?_
        refine x_goto (tgt := 174) rfl rfl ?_
        exact jX.sub (jsb_c rfl (jsb_c rfl (jsb_c rfl (jsb_c rfl (jsb_c rfl (jsb_c rfl (jsb_c rfl jsb_n))))))) (ct_X11_wholeDays_r31_174 hD hQ k9 l1 l3 l4 l5 l8 l7 h (jr_of rfl (by omega)) (jr_of rfl (by omega)) (jr_of rfl (by omega)) (jr_of rfl (by omega)) (jr_of rfl (by omega)) (by omega) J Sm)
    ·
      refine x_aloadn (x := 31) rfl rfl ?_
      refine x_iload (x := l10) rfl rfl ?_
      refine x_iloadn (x := l1) rfl rfl ?_
      refine x_iload (x := l4) rfl rfl ?_
      refine x_inv (N := m_X11_isPageOf) (As := [.int l10, .int l1, .int l4]) (b := 31) (st := []) (dx9 := 2) (mc := 0) (ms := 0) (host := "") 11 rfl t_X11_isPageOf ⟨Or.inl q_11_561, i_X11_isPageOf.1, i_X11_isPageOf.2⟩ ⟨by decide, rfl⟩ (congrArg Prod.fst (J.1.1 31 (11, 13) rfl)) rfl (by decide) rfl rfl ⟨by decide, by decide⟩ (jC.of rfl k_X11_isPageOf rfl ?_)
      show jX m_X11_isPageOf 2 0 0 0 [(0, .ref 31), (1, .int l10), (2, .int l1), (3, .int l4)] [] _ 0 0 _
      refine x_aloadn (x := 31) rfl rfl ?_
      refine z_getR (N := 13) (b := 32) 11 0 rfl f_11_10 rfl J rfl 3968 ⟨rfl, rfl⟩ rfl ?_
      refine z_getR (N := 20) (b := 41) 1 4 rfl f_11_312 rfl J rfl 4100 ⟨rfl, rfl⟩ rfl ?_
      refine x_iloadn (x := l10) rfl rfl ?_
      refine x_iloadn (x := l4) rfl rfl ?_
      refine x_inv (N := m_X8_isKnown) (As := [.int l10, .int l4]) (b := 41) (st := []) (dx9 := 1) (mc := 0) (ms := 0) (host := "") 8 rfl t_X8_isKnown ⟨Or.inl q_11_440, i_X8_isKnown.1, i_X8_isKnown.2⟩ ⟨by decide, rfl⟩ (congrArg Prod.fst (J.1.1 41 (8, 4) rfl)) rfl (by decide) rfl rfl ⟨by decide, by decide⟩ (sf_X8_isKnown_r41 (jr_of rfl (by omega)) (jr_of rfl (by omega)) hD J  (fun v6 h ev6 J S5 => ?_))
      have Sm := jSm_tr rfl Sm S5
      show jX m_X11_isPageOf 2 0 0 12 [(0, .ref 31), (1, .int l10), (2, .int l1), (3, .int l4)] [.int v6] _ 0 0 _
      refine x_ifeq (tgt := 35) rfl rfl (ti_eq rfl jk_0 ⟨fun c7 => ?_, fun c7 => ?_⟩)
      ·
        refine x_iconst (v := 0) rfl ki_0 ?_
        refine x_zret rfl rfl (by decide) ?_
        show jX m_X11_wholeDays 3 0 0 68 [(0, .ref 31), (1, .int l1), (3, .int l3), (4, .int l4), (5, .int l5), (6, .int l6), (7, .int l7), (8, .int l8), (9, .int l9), (10, .int l10)] [.int 0] _ 0 0 _
        refine x_ifeq (tgt := 140) rfl rfl (ti_eq jk_0 jk_0 (br_t (by omega) ?_))
        exact jX.sub (jsb_c rfl (jsb_c rfl (jsb_c rfl (jsb_c rfl (jsb_c rfl (jsb_c rfl (jsb_c rfl (jsb_c rfl (jsb_c rfl (jsb_c rfl jsb_n)))))))))) (ct_X11_wholeDays_r31_140 hD hQ k9 ih l1 l3 l4 l5 l6 l7 l8 l9 l10 g0 h (jr_of rfl (by omega)) (jr_of rfl (by omega)) (jr_of rfl (by omega)) (jr_of rfl (by omega)) (jr_of rfl (by omega)) (jr_of rfl (by omega)) (jr_of rfl (by omega)) (jr_of rfl (by omega)) (jr_of rfl (by omega)) (jmc S5 rfl z0) (by omega) (by omega) J Sm)
      ·
        refine x_aloadn (x := 31) rfl rfl ?_
        refine z_getR (N := 13) (b := 32) 11 0 rfl f_11_10 rfl J rfl 3968 ⟨rfl, rfl⟩ rfl ?_
        refine z_getR (N := 20) (b := 41) 1 4 rfl f_11_312 rfl J rfl 4100 ⟨rfl, rfl⟩ rfl ?_
        refine x_iloadn (x := l10) rfl rfl ?_
        refine x_iconst (v := 3) rfl ki_3 ?_
        refine x_inv (N := m_X8_at) (As := [.int l10, .int 3]) (b := 41) (st := []) (dx9 := 1) (mc := 0) (ms := 0) (host := "") 8 rfl t_X8_at ⟨Or.inl q_11_171, i_X8_at.1, i_X8_at.2⟩ ⟨by decide, rfl⟩ (congrArg Prod.fst (J.1.1 41 (8, 4) rfl)) rfl (by decide) rfl rfl ⟨by decide, by decide⟩ (sf_X8_at_r41_c3 (jr_of rfl (by omega)) hD J  (fun v9 h ev9 J S8 => ?_))
        have Sm := jSm_tr rfl Sm S8
        show jX m_X11_isPageOf 2 0 0 27 [(0, .ref 31), (1, .int l10), (2, .int l1), (3, .int l4)] [.int v9] _ 0 0 _
        refine x_iloadn (x := l1) rfl rfl ?_
        refine x_icne (tgt := 35) rfl rfl (ti_ne rfl rfl ⟨fun c10 => ?_, fun c10 => ?_⟩)
        ·
          refine x_iconst (v := 0) rfl ki_0 ?_
          refine x_zret rfl rfl (by decide) ?_
          show jX m_X11_wholeDays 3 0 0 68 [(0, .ref 31), (1, .int l1), (3, .int l3), (4, .int l4), (5, .int l5), (6, .int l6), (7, .int l7), (8, .int l8), (9, .int l9), (10, .int l10)] [.int 0] _ 0 0 _
          refine x_ifeq (tgt := 140) rfl rfl (ti_eq jk_0 jk_0 (br_t (by omega) ?_))
          exact jX.sub (jsb_c rfl (jsb_c rfl (jsb_c rfl (jsb_c rfl (jsb_c rfl (jsb_c rfl (jsb_c rfl (jsb_c rfl (jsb_c rfl (jsb_c rfl jsb_n)))))))))) (ct_X11_wholeDays_r31_140 hD hQ k9 ih l1 l3 l4 l5 l6 l7 l8 l9 l10 g0 h (jr_of rfl (by omega)) (jr_of rfl (by omega)) (jr_of rfl (by omega)) (jr_of rfl (by omega)) (jr_of rfl (by omega)) (jr_of rfl (by omega)) (jr_of rfl (by omega)) (jr_of rfl (by omega)) (jr_of rfl (by omega)) (jmc S8 rfl (jmc S5 rfl z0)) (by omega) (by omega) J Sm)
        ·
          refine x_iconst (v := 1) rfl ki_1 ?_
          refine x_goto (tgt := 36) rfl rfl ?_
          refine x_zret rfl rfl (by decide) ?_
          show jX m_X11_wholeDays 3 0 0 68 [(0, .ref 31), (1, .int l1), (3, .int l3), (4, .int l4), (5, .int l5), (6, .int l6), (7, .int l7), (8, .int l8), (9, .int l9), (10, .int l10)] [.int 1] _ 0 0 _
          refine x_ifeq (tgt := 140) rfl rfl (ti_eq jk_1 jk_0 (br_f (by omega) ?_))
          refine x_aloadn (x := 31) rfl rfl ?_
          refine z_getR (N := 13) (b := 32) 11 0 rfl f_11_10 rfl J rfl 3968 ⟨rfl, rfl⟩ rfl ?_
          refine z_getR (N := 20) (b := 41) 1 4 rfl f_11_312 rfl J rfl 4100 ⟨rfl, rfl⟩ rfl ?_
          refine x_iload (x := l10) rfl rfl ?_
          refine x_iconst (v := 1) rfl ki_1 ?_
          refine x_inv (N := m_X8_at) (As := [.int l10, .int 1]) (b := 41) (st := []) (dx9 := 1) (mc := 0) (ms := 0) (host := "") 8 rfl t_X8_at ⟨Or.inl q_11_171, i_X8_at.1, i_X8_at.2⟩ ⟨by decide, rfl⟩ (congrArg Prod.fst (J.1.1 41 (8, 4) rfl)) rfl (by decide) rfl rfl ⟨by decide, by decide⟩ (sf_X8_at_r41_c1 (jr_of rfl (by omega)) hD J  (fun v12 h ev12 J S11 => ?_))
          have Sm := jSm_tr rfl Sm S11
          show jX m_X11_wholeDays 3 0 0 84 [(0, .ref 31), (1, .int l1), (3, .int l3), (4, .int l4), (5, .int l5), (6, .int l6), (7, .int l7), (8, .int l8), (9, .int l9), (10, .int l10)] [.int v12] _ 0 0 _
          refine x_istore (lsx9 := [(11, .int v12), (0, .ref 31), (1, .int l1), (3, .int l3), (4, .int l4), (5, .int l5), (6, .int l6), (7, .int l7), (8, .int l8), (9, .int l9), (10, .int l10)]) rfl rfl rfl ?_
          refine x_aloadn (x := 31) rfl rfl ?_
          refine z_getR (N := 13) (b := 32) 11 0 rfl f_11_10 rfl J rfl 3968 ⟨rfl, rfl⟩ rfl ?_
          refine z_getR (N := 20) (b := 41) 1 4 rfl f_11_312 rfl J rfl 4100 ⟨rfl, rfl⟩ rfl ?_
          refine x_iload (x := l10) rfl rfl ?_
          refine x_iconst (v := 2) rfl ki_2 ?_
          refine x_inv (N := m_X8_at) (As := [.int l10, .int 2]) (b := 41) (st := []) (dx9 := 1) (mc := 0) (ms := 0) (host := "") 8 rfl t_X8_at ⟨Or.inl q_11_171, i_X8_at.1, i_X8_at.2⟩ ⟨by decide, rfl⟩ (congrArg Prod.fst (J.1.1 41 (8, 4) rfl)) rfl (by decide) rfl rfl ⟨by decide, by decide⟩ (sf_X8_at_r41_c2 (jr_of rfl (by omega)) hD J  (fun v14 h ev14 J S13 => ?_))
          have Sm := jSm_tr rfl Sm S13
          show jX m_X11_wholeDays 3 0 0 99 [(11, .int v12), (0, .ref 31), (1, .int l1), (3, .int l3), (4, .int l4), (5, .int l5), (6, .int l6), (7, .int l7), (8, .int l8), (9, .int l9), (10, .int l10)] [.int v14] _ 0 0 _
          refine x_istore (lsx9 := [(12, .int v14), (11, .int v12), (0, .ref 31), (1, .int l1), (3, .int l3), (4, .int l4), (5, .int l5), (6, .int l6), (7, .int l7), (8, .int l8), (9, .int l9), (10, .int l10)]) rfl rfl rfl ?_
          refine x_iload (x := v12) rfl rfl ?_
          refine x_iload (x := l6) rfl rfl ?_
          refine x_icgt (tgt := 124) rfl rfl (ti_gt rfl rfl ⟨fun c15 => ?_, fun c15 => ?_⟩)
          ·
            exact jX.sub (jsb_c rfl (jsb_c rfl (jsb_c rfl (jsb_c rfl (jsb_c rfl (jsb_c rfl (jsb_c rfl (jsb_c rfl (jsb_c rfl (jsb_c rfl (jsb_c rfl jsb_n))))))))))) (ct_X11_wholeDays_r31_124 hD hQ k9 ih l1 l3 l4 l5 l6 l7 l8 l9 l10 v12 g0 h (jr_of rfl (by omega)) (jr_of rfl (by omega)) (jr_of rfl (by omega)) (jr_of rfl (by omega)) (jr_of rfl (by omega)) (jr_of rfl (by omega)) (jr_of rfl (by omega)) (jr_of rfl (by omega)) (jr_of rfl (by omega)) (jr_of rfl (by omega)) (jmc S13 rfl (jmc S11 rfl (jmc S8 rfl (jmc S5 rfl z0)))) (by omega) (by omega) J Sm)
          ·
            refine x_iload (x := v14) rfl rfl ?_
            refine x_iload (x := l8) rfl rfl ?_
            refine x_iclt (tgt := 124) rfl rfl (ti_lt rfl rfl ⟨fun c16 => ?_, fun c16 => ?_⟩)
            ·
              exact jX.sub (jsb_c rfl (jsb_c rfl (jsb_c rfl (jsb_c rfl (jsb_c rfl (jsb_c rfl (jsb_c rfl (jsb_c rfl (jsb_c rfl (jsb_c rfl (jsb_c rfl jsb_n))))))))))) (ct_X11_wholeDays_r31_124 hD hQ k9 ih l1 l3 l4 l5 l6 l7 l8 l9 l10 v12 g0 h (jr_of rfl (by omega)) (jr_of rfl (by omega)) (jr_of rfl (by omega)) (jr_of rfl (by omega)) (jr_of rfl (by omega)) (jr_of rfl (by omega)) (jr_of rfl (by omega)) (jr_of rfl (by omega)) (jr_of rfl (by omega)) (jr_of rfl (by omega)) (jmc S13 rfl (jmc S11 rfl (jmc S8 rfl (jmc S5 rfl z0)))) (by omega) (by omega) J Sm)
            ·
              refine x_iload (x := v14) rfl rfl ?_
              refine x_iconst (v := 1) rfl ki_1 ?_
              refine z_iadd rfl rfl jk_1 (by omega) (fun v17 ev17 => ?_)
              refine x_istore (lsx9 := [(8, .int v17), (12, .int v14), (11, .int v12), (0, .ref 31), (1, .int l1), (3, .int l3), (4, .int l4), (5, .int l5), (6, .int l6), (7, .int l7), (9, .int l9), (10, .int l10)]) rfl rfl rfl ?_
              refine x_goto (tgt := 140) rfl rfl ?_
              exact jX.sub (jsb_c rfl (jsb_c rfl (jsb_c rfl (jsb_c rfl (jsb_c rfl (jsb_c rfl (jsb_c rfl (jsb_c rfl (jsb_c rfl (jsb_c rfl jsb_n)))))))))) (ct_X11_wholeDays_r31_140 hD hQ k9 ih l1 l3 l4 l5 l6 l7 v17 l9 l10 g0 h (jr_of rfl (by omega)) (jr_of rfl (by omega)) (jr_of rfl (by omega)) (jr_of rfl (by omega)) (jr_of rfl (by omega)) (jr_of rfl (by omega)) (jr_of rfl (by omega)) (jr_of rfl (by omega)) (jr_of rfl (by omega)) (jmc S13 rfl (jmc S11 rfl (jmc S8 rfl (jmc S5 rfl z0)))) (by omega) (by omega) J Sm)
set_option maxRecDepth 100000 in
set_option maxHeartbeats 4000000 in
theorem ct_X11_wholeDays_r31_9 {Dy : jH → Prop} {h0 : jH} {Q : Option Value → jH → Prop} (hD : jDk Dy) (hQ : ∀ (v : Int32) hx9, jJ jSgX Dy hx9 → jSm fp_X11_wholeDays_r31 h0 hx9 → Q (some (.int v)) hx9) : ∀ r : Nat, ∀ (l1 : Int32) (l3 : Int32) (l4 : Int32) (l5 : Int32) (l6 : Int32) (l7 : Int32) (h : jH), 41 - l7.toInt < (r : Int) → 0 ≤ l1.toInt ∧ l1.toInt ≤ 5 → (-1) ≤ l3.toInt ∧ l3.toInt ≤ 146399 → 0 ≤ l4.toInt ∧ l4.toInt ≤ 146399 → 0 ≤ l6.toInt ∧ l6.toInt ≤ 146400 → 0 ≤ l7.toInt ∧ l7.toInt ≤ 41 → jJ jSgX Dy h → jSm fp_X11_wholeDays_r31 h0 h → jX m_X11_wholeDays 3 0 0 9 [(0, .ref 31), (1, .int l1), (3, .int l3), (4, .int l4), (5, .int l5), (6, .int l6), (7, .int l7)] [] h 0 0 Q := by
  intro r
  induction r with
  | zero =>
    intro l1 l3 l4 l5 l6 l7 h hm y0 y1 y2 y3 y4   J Sm
    exfalso
    have el5 := jfull l5
    omega
  | succ r ih =>
    intro l1 l3 l4 l5 l6 l7 h hm y0 y1 y2 y3 y4   J Sm
    have el5 := jfull l5
    refine x_iload (x := l7) rfl rfl ?_
    refine x_iconst (v := 2) rfl ki_2 ?_
    refine x_aloadn (x := 31) rfl rfl ?_
    refine z_getR (N := 13) (b := 32) 11 0 rfl f_11_10 rfl J rfl 3968 ⟨rfl, rfl⟩ rfl ?_
    refine z_getR (N := 20) (b := 41) 1 4 rfl f_11_312 rfl J rfl 4100 ⟨rfl, rfl⟩ rfl ?_
    refine z_getI (N := 4) 8 3 rfl f_11_142 rfl J rfl sg_41_3_4_1_0_1 (fun v1 qv1 ev1 => ?_)
    refine z_imul rfl jk_2 rfl (by omega) (fun v2 ev2 => ?_)
    refine x_icgt (tgt := 180) rfl rfl (ti_gt rfl rfl ⟨fun c3 => ?_, fun c3 => ?_⟩)
    ·
      exact jX.sub (jsb_c rfl jsb_n) (ct_X11_wholeDays_r31_180 hD hQ  l5 h J Sm)
    ·
      refine x_iload (x := l6) rfl rfl ?_
      refine x_iloadn (x := l3) rfl rfl ?_
      refine x_icgt (tgt := 180) rfl rfl (ti_gt rfl rfl ⟨fun c4 => ?_, fun c4 => ?_⟩)
      ·
        exact jX.sub (jsb_c rfl jsb_n) (ct_X11_wholeDays_r31_180 hD hQ  l5 h J Sm)
      ·
        refine x_iload (x := l6) rfl rfl ?_
        refine x_istore (lsx9 := [(8, .int l6), (0, .ref 31), (1, .int l1), (3, .int l3), (4, .int l4), (5, .int l5), (6, .int l6), (7, .int l7)]) rfl rfl rfl ?_
        refine x_iloadn (x := l3) rfl rfl ?_
        refine x_iconst (v := 1) rfl ki_1 ?_
        refine z_iadd rfl rfl jk_1 (by omega) (fun v5 ev5 => ?_)
        refine x_istore (lsx9 := [(9, .int v5), (8, .int l6), (0, .ref 31), (1, .int l1), (3, .int l3), (4, .int l4), (5, .int l5), (6, .int l6), (7, .int l7)]) rfl rfl rfl ?_
        refine x_iconst (v := 0) rfl ki_0 ?_
        refine x_istore (lsx9 := [(10, .int 0), (9, .int v5), (8, .int l6), (0, .ref 31), (1, .int l1), (3, .int l3), (4, .int l4), (5, .int l5), (6, .int l6), (7, .int l7)]) rfl rfl rfl ?_
        exact jX.sub (jsb_c rfl (jsb_c rfl (jsb_c rfl (jsb_c rfl (jsb_c rfl (jsb_c rfl (jsb_c rfl (jsb_c rfl (jsb_c rfl (jsb_c rfl jsb_n)))))))))) (ct_X11_wholeDays_r31_44 hD hQ ih 21 l1 l3 l4 l5 l6 l7 l6 v5 0 v1 h (by have := jk_0; omega) (jr_of rfl (by omega)) (jr_of rfl (by omega)) (jr_of rfl (by omega)) (jr_of rfl (by omega)) (jr_of rfl (by omega)) (jr_of rfl (by omega)) (jr_of rfl (by omega)) (jr_of jk_0 (by omega)) (jr_of rfl (by omega)) qv1 (by omega) J Sm)
set_option maxRecDepth 100000 in
set_option maxHeartbeats 4000000 in
theorem sf_X11_wholeDays_r31 {Dy : jH → Prop} {h : jH} {Q : Option Value → jH → Prop} {a1 : Int32} {a2 : Int32} {a3 : Int32} {a4 : Int32} (y1 : 0 ≤ a1.toInt ∧ a1.toInt ≤ 5) (y2 : 0 ≤ a2.toInt ∧ a2.toInt ≤ 146400) (y3 : (-1) ≤ a3.toInt ∧ a3.toInt ≤ 146399) (y4 : 0 ≤ a4.toInt ∧ a4.toInt ≤ 146399) (hD : jDk Dy) (J : jJ jSgX Dy h) (hQ : ∀ (v : Int32) hx9, jJ jSgX Dy hx9 → jSm fp_X11_wholeDays_r31 h hx9 → Q (some (.int v)) hx9) : jC m_X11_wholeDays 3 0 0 [.ref 31, .int a1, .int a2, .int a3, .int a4] h Q := by
  refine jC.of rfl k_X11_wholeDays rfl ?_
  have Sm := jSm_rf fp_X11_wholeDays_r31 h
  show jX m_X11_wholeDays 3 0 0 0 [(0, .ref 31), (1, .int a1), (2, .int a2), (3, .int a3), (4, .int a4)] [] _ 0 0 _
  refine x_iconst (v := 0) rfl ki_0 ?_
  refine x_istore (lsx9 := [(5, .int 0), (0, .ref 31), (1, .int a1), (2, .int a2), (3, .int a3), (4, .int a4)]) rfl rfl rfl ?_
  refine x_iloadn (x := a2) rfl rfl ?_
  refine x_istore (lsx9 := [(6, .int a2), (5, .int 0), (0, .ref 31), (1, .int a1), (2, .int a2), (3, .int a3), (4, .int a4)]) rfl rfl rfl ?_
  refine x_iconst (v := 0) rfl ki_0 ?_
  refine x_istore (lsx9 := [(7, .int 0), (6, .int a2), (5, .int 0), (0, .ref 31), (1, .int a1), (2, .int a2), (3, .int a3), (4, .int a4)]) rfl rfl rfl ?_
  exact jX.sub (jsb_c rfl (jsb_c rfl (jsb_c rfl (jsb_c rfl (jsb_c rfl (jsb_c rfl (jsb_c rfl jsb_n))))))) (ct_X11_wholeDays_r31_9 hD hQ  42 a1 a3 a4 0 a2 0 h (by have := jk_0; omega) (jr_of rfl (by omega)) (jr_of rfl (by omega)) (jr_of rfl (by omega)) (jr_of rfl (by omega)) (jr_of jk_0 (by omega)) J Sm)
